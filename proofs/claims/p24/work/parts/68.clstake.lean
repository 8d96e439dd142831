/-! THE CLASS: readings taken -/
theorem RowQ.sF {h : HP} {r arr : Nat} {ad : Nat → Nat} {al cap : Nat} {L : List FV} (W : RowQ h r arr ad al cap L) {a : Nat} {v : FV} (hF : FrP h a) (hn : ∀ i, i < L.length → ad i ≠ a) : RowQ (Jvm.Pilot.CPhasorTreeLaw_law_r4566_d5a5ba.sF h a v) r arr ad al cap L := by
  obtain ⟨⟨q1, q2, q3⟩, q4, q5, q9, q10, q11, q12, q13, q14⟩ := W
  refine ⟨⟨q1, q2, q3⟩, q4, q5, ?_, q10, q11, q12, q13, fun i hi => ?_⟩
  · rw [hI_sF_ne]
    · exact q9
    · rintro rfl; have := hF.2.2.1; rw [q3] at this; cases this
    · rintro rfl; have := hF.2.2.2.1; rw [q3] at this; cases this
    · rintro rfl; have := hF.2.2.2.2.1; rw [q3] at this; cases this
  · rw [← q14 i hi]
    exact fV_sF_ne hF (q11 i (by omega)).2 (fun e => hn i hi e.symm)
theorem SF_upF {S : Nat → Int → Int} {n : Nat} {v : FV} : SF (upF S n v) n = nf v := by
  funext k
  unfold SF nf upF
  by_cases h0 : k < 0
  · rw [if_pos h0, if_neg (by omega)]
  · by_cases h1 : k < 6
    · rw [if_neg h0, if_pos h1, if_pos (by omega), if_pos (by omega)]
    · by_cases h2 : k < 16
      · rw [if_neg h0, if_neg h1, if_pos h2, if_neg (by omega), if_pos (by omega), if_pos (by omega), show 6 + (k - 6) = k by omega]
      · by_cases h3 : k < 26
        · rw [if_neg h0, if_neg h1, if_neg h2, if_pos h3, if_neg (by omega), if_neg (by omega), if_pos (by omega), if_pos (by omega), show 16 + (k - 16) = k by omega]
        · rw [if_neg h0, if_neg h1, if_neg h2, if_neg h3, if_neg (by omega)]
theorem upF_upF {S : Nat → Int → Int} {n : Nat} {v w : FV} : upF (upF S n v) n w = upF S n w := by
  funext m k
  unfold upF
  by_cases c0 : m = n ∧ 0 ≤ k ∧ k < 6
  · rw [if_pos c0, if_pos c0]
  · rw [if_neg c0, if_neg c0, if_neg c0]
    by_cases c1 : m = n + 1 ∧ 0 ≤ k ∧ k < 10
    · rw [if_pos c1, if_pos c1]
    · rw [if_neg c1, if_neg c1, if_neg c1]
      by_cases c2 : m = n + 2 ∧ 0 ≤ k ∧ k < 10
      · rw [if_pos c2, if_pos c2]
      · rw [if_neg c2, if_neg c2, if_neg c2]
theorem nf_SF {S : Nat → Int → Int} {n : Nat} : nf (SF S n) = SF S n := by
  funext k
  unfold nf SF
  repeat' split
  all_goals first | rfl | (exfalso; omega)
theorem SF_ne {S : Nat → Int → Int} {n m : Nat} {v : FV} (h : m + 2 < n ∨ n + 2 < m) : SF (upF S n v) m = SF S m := by
  unfold SF
  rw [upF_ne (by omega) (by omega) (by omega), upF_ne (by omega) (by omega) (by omega), upF_ne (by omega) (by omega) (by omega)]
theorem nf_fPut {v : FV} (hv : nf v = v) {u x f : Int} (hu : 0 ≤ u ∧ u < 10) : nf (fPut v u x f) = fPut v u x f := by
  unfold fPut
  rw [nf_ups (by omega) (by omega), nf_ups (by omega) (by omega), nf_ups (by omega) (by omega), hv]
theorem nf_fBeg {v : FV} (hv : nf v = v) {c s : Int} : nf (fBeg v c s) = fBeg v c s := by
  unfold fBeg
  rw [nf_ups (by omega) (by omega), nf_ups (by omega) (by omega), nf_ups (by omega) (by omega), nf_ups (by omega) (by omega), hv]
theorem SX.upF6 {S : Nat → Int → Int} {v : FV} : SX S (upF S 6 v) := fun m h1 h2 h3 _ _ => upF_ne h1 h2 h3
def cM1 (L : List FV) (c sl u i : Int) : Prop := gt L i 0 = c ∧ gt L i 1 = sl ∧ fHas (gt L i) u
noncomputable def cStF (L : List FV) (c sl u n : Int) (v : FV) : FV := fI n (fun i x => cif (cM1 L c sl u i) (fPut x u (gt L i (6 + u)) (gt L i (16 + u))) x) v
theorem cStF_succ {L : List FV} {c sl u n : Int} {v : FV} (hn : 0 ≤ n) : cStF L c sl u (n + 1) v = cif (cM1 L c sl u n) (fPut (cStF L c sl u n v) u (gt L n (6 + u)) (gt L n (16 + u))) (cStF L c sl u n v) := by
  unfold cStF
  rw [fI_succ hn]
theorem cStF_0 {L : List FV} {c sl u : Int} {v : FV} : cStF L c sl u 0 v = v := fI_0
theorem cStF_1 {L : List FV} {c sl u : Int} {v : FV} (hu : 0 ≤ u ∧ u < 10) : ∀ n : Nat, cStF L c sl u n v 1 = v 1
  | 0 => by rw [show ((0 : Nat) : Int) = 0 by rfl, cStF_0]
  | n + 1 => by
    rw [show ((n + 1 : Nat) : Int) = (n : Int) + 1 by omega, cStF_succ (by omega)]
    rcases Classical.em (cM1 L c sl u n) with h | h
    · rw [cif_t h]
      unfold fPut
      rw [ups_ne (by omega), ups_ne (by omega), ups_ne (by omega)]
      exact cStF_1 hu n
    · rw [cif_f h]; exact cStF_1 hu n
theorem cStF_nf {L : List FV} {c sl u : Int} {v : FV} (hu : 0 ≤ u ∧ u < 10) (hv : nf v = v) : ∀ n : Nat, nf (cStF L c sl u n v) = cStF L c sl u n v
  | 0 => by rw [show ((0 : Nat) : Int) = 0 by rfl, cStF_0]; exact hv
  | n + 1 => by
    rw [show ((n + 1 : Nat) : Int) = (n : Int) + 1 by omega, cStF_succ (by omega)]
    rcases Classical.em (cM1 L c sl u n) with h | h
    · rw [cif_t h]
      exact nf_fPut (cStF_nf hu hv n) hu
    · rw [cif_f h]; exact cStF_nf hu hv n
theorem TR.frP {t : Nat} {h : HP} {o : Nat → Nat} {w : Nat → Nat × Nat} {S : Nat → Int → Int} {R : Nat → List FV} (T : TR t h o w S R) {n m : Nat} (hn : n < 80) (h1 : skTy n = (1, 0)) (hm : m < 80) (h2 : skTy m = (4, 0)) {ad : Nat → Nat} {al : Nat} (p4 : ∀ i, i < al → o (ad i) = t + m ∧ o (ad i + 1) = t + m ∧ o (ad i + 2) = t + m) : ∀ i, i < al → ad i ≠ t + n := fun i hi e => by
  have := (p4 i hi).1
  rw [e, T.2.1 n hn, ow_ne ⟨n, hn⟩ (by rw [h1]; decide)] at this
  dsimp only at this
  rw [show m = n by omega, h1] at h2
  exact absurd h2 (by decide)
set_option maxRecDepth 20000 in
theorem lp_T_stamped {d : Nat} {h : HP} {t : Nat} {o : Nat → Nat} {w : Nat → Nat × Nat} {S : Nat → Int → Int} {R : Nat → List FV} (T : TR t h o w S R) {u c g : Int} (hg : 0 ≤ g ∧ g < 5) (hu : 0 ≤ u ∧ u < 10) (he : 0 ≤ cEnd (kR R g) 0 ∧ cEnd (kR R g) 0 ≤ ((kR R g).length : Nat)) {Q : HP → Prop} (K : ∀ H', ExtT h o w t H' o w → TR t H' o w (upF S 6 (cStF (kR R g) c (SF S 6 1) u (cEnd (kR R g) 0) (SF S 6))) R → Q H') (k : Nat) : ∀ (i : Int) (z : Option AV), (cEnd (kR R g) 0 - i).toNat < k → (0 ≤ i ∧ i ≤ cEnd (kR R g) 0) → At (d + 2) 145 6 [some (.inr (some t)), some (.inl u), some (.inl c), some (.inr (some (t + (13 + 7 * g.toNat)))), some (.inl (cEnd (kR R g) 0)), some (.inl i), z] [] (sF h (t + 6) (cStF (kR R g) c (SF S 6 1) u i (SF S 6))) (fun v h' => v = none ∧ Q h') := by
  have hC : cod 145 = c_T_takeStamped := rfl
  induction k with
  | zero =>
    intro i z hk
    exact absurd hk (Nat.not_lt_zero _)
  | succ k ih =>
    intro i z hk hI0
    obtain ⟨p1, p2, arr, ad, W, p3, p4⟩ := T.hrow hg.1 hg.2
    have hK := T.1
    have hS := T.2.2.1
    have hl := W.len
    have hB := hK.built
    have hne := T.frP (n := 6) (by decide) (by decide) (by omega) (sk_r hg.1 hg.2) p4
    have hla := W.2.2.2.2.1
    have hV6 := SF_eq hS (n := 6) (by decide)
    obtain ⟨n, rfl⟩ := Int.eq_ofNat_of_zero_le hI0.1
    have hv1 := cStF_1 (L := kR R g) (c := c) (sl := SF S 6 1) (v := SF S 6) hu n
    have hnf := cStF_nf (L := kR R g) (c := c) (sl := SF S 6 1) (v := SF S 6) hu nf_SF n
    have hst := cStF_succ (L := kR R g) (c := c) (sl := SF S 6 1) (u := u) (v := SF S 6) hI0.1
    refine x_1 (p' := 7) hC rfl rfl rfl rfl ?_
    refine x_1 (p' := 8) hC rfl rfl rfl rfl ?_
    refine x_icge (p' := 9) hC rfl rfl (fun c8 => ?_) (fun c8 => ?_)
    · refine x_ret hC rfl rfl rfl ⟨rfl, ?_⟩
      have TF := T.frm (n := 6) (v := cStF (kR R g) c (SF S 6 1) u (n : Int) (SF S 6)) (by decide) (by decide)
      have en : ((n : Nat) : Int) = cEnd (kR R g) 0 := by omega
      rw [en] at TF
      rw [en]
      exact K _ TF.1 TF.2
    · refine x_1 (p' := 10) hC rfl rfl rfl rfl ?_
      refine z_rf (p' := 11) (W.sF hB (fun i hi => hne i (Nat.lt_of_lt_of_le hi hla.1))) hC rfl rfl ?_
      refine x_1 (p' := 12) hC rfl rfl rfl rfl ?_
      refine z_ra (p' := 13) (W.sF hB (fun i hi => hne i (Nat.lt_of_lt_of_le hi hla.1))) hC rfl rfl rfl (by omega) (by omega) (fun hF12 hV12 => ?_)
      refine x_stA6 (p' := 14) hC rfl rfl rfl ?_
      refine x_1 (p' := 15) hC rfl rfl rfl rfl ?_
      refine z_fg (p' := 16) (kz := 0) hF12 hV12 hC rfl rfl rfl rfl ?_
      refine x_1 (p' := 17) hC rfl rfl rfl rfl ?_
      refine x_icne (p' := 18) hC rfl rfl (fun c17 => ?_) (fun c17 => ?_)
      · refine x_inc5 (p' := 41) hC rfl rfl (⟨by omega, by omega⟩) ?_
        refine x_1 (p' := 6) hC rfl rfl rfl rfl ?_
        first
          | (rw [← hst]
             exact ih _ _ (by omega) (by omega))
          | (rw [cif_f (fun q => by
               first
                 | exact c17 q.1
                 | exact c23 q.2.1
                 | exact c27 q.2.2)] at hst
             rw [← hst]
             exact ih _ _ (by omega) (by omega))
      · refine x_1 (p' := 19) hC rfl rfl rfl rfl ?_
        refine z_fg (p' := 20) (kz := 1) hF12 hV12 hC rfl rfl rfl rfl ?_
        refine x_1 (p' := 21) hC rfl rfl rfl rfl ?_
        refine z_tr (p' := 22) (n := 6) hK hC rfl rfl rfl rfl ?_
        refine z_fgs (p' := 23) (kz := 1) hB hC rfl rfl rfl rfl ?_
        rw [hv1]
        refine x_icne (p' := 24) hC rfl rfl (fun c23 => ?_) (fun c23 => ?_)
        · refine x_inc5 (p' := 41) hC rfl rfl (⟨by omega, by omega⟩) ?_
          refine x_1 (p' := 6) hC rfl rfl rfl rfl ?_
          first
            | (rw [← hst]
               exact ih _ _ (by omega) (by omega))
            | (rw [cif_f (fun q => by
                 first
                   | exact c17 q.1
                   | exact c23 q.2.1
                   | exact c27 q.2.2)] at hst
               rw [← hst]
               exact ih _ _ (by omega) (by omega))
        · refine x_1 (p' := 25) hC rfl rfl rfl rfl ?_
          refine x_1 (p' := 26) hC rfl rfl rfl rfl ?_
          refine x_cIV1 (p' := 27) (n := 84) hC rfl rfl rfl rfl rfl (hF12.ty) ?_
          refine sp_F_has hF12 hV12 (by omega) ?_
          refine x_ifeq (p' := 28) hC rfl rfl (fun c27 => ?_) (fun c27 => ?_)
          · have c27 := b2i_0.mp c27
            refine x_inc5 (p' := 41) hC rfl rfl (⟨by omega, by omega⟩) ?_
            refine x_1 (p' := 6) hC rfl rfl rfl rfl ?_
            first
              | (rw [← hst]
                 exact ih _ _ (by omega) (by omega))
              | (rw [cif_f (fun q => by
                   first
                     | exact c17 q.1
                     | exact c23 q.2.1
                     | exact c27 q.2.2)] at hst
                 rw [← hst]
                 exact ih _ _ (by omega) (by omega))
          · have c27 := b2i_n0.mp c27
            refine x_1 (p' := 29) hC rfl rfl rfl rfl ?_
            refine z_tr (p' := 30) (n := 6) hK hC rfl rfl rfl rfl ?_
            refine x_1 (p' := 31) hC rfl rfl rfl rfl ?_
            refine x_1 (p' := 32) hC rfl rfl rfl rfl ?_
            refine z_fr1 (p' := 33) hF12 hC rfl rfl ?_
            refine x_1 (p' := 34) hC rfl rfl rfl rfl ?_
            refine z_fl1 (p' := 35) hF12 hV12 hC rfl rfl rfl (by omega) (by omega) ?_
            refine x_1 (p' := 36) hC rfl rfl rfl rfl ?_
            refine z_fr2 (p' := 37) hF12 hC rfl rfl ?_
            refine x_1 (p' := 38) hC rfl rfl rfl rfl ?_
            refine z_fl2 (p' := 39) hF12 hV12 hC rfl rfl rfl (by omega) (by omega) ?_
            refine x_cVV3 (p' := 40) (n := 85) hC rfl rfl rfl rfl rfl (hB.ty) ?_
            refine sp_F_put (h := sF h (t + 6) (cStF (kR R g) c (SF S 6 1) u (n : Int) (SF S 6))) (a := t + 6) hB (by omega) ?_
            rw [sF_sF, fV_sF, hnf]
            rw [cif_t ⟨by omega, by omega, c27⟩] at hst
            refine x_inc5 (p' := 41) hC rfl rfl (⟨by omega, by omega⟩) ?_
            refine x_1 (p' := 6) hC rfl rfl rfl rfl ?_
            first
              | (rw [← hst]
                 exact ih _ _ (by omega) (by omega))
              | (rw [cif_f (fun q => by
                   first
                     | exact c17 q.1
                     | exact c23 q.2.1
                     | exact c27 q.2.2)] at hst
                 rw [← hst]
                 exact ih _ _ (by omega) (by omega))
set_option maxRecDepth 20000 in
set_option maxHeartbeats 2000000 in
theorem sp_T_takeStamped {d : Nat} {h : HP} {t : Nat} {o : Nat → Nat} {w : Nat → Nat × Nat} {S : Nat → Int → Int} {R : Nat → List FV} (T : TR t h o w S R) {u c g : Int} (hg : 0 ≤ g ∧ g < 5) (hu : 0 ≤ u ∧ u < 10) (hl0 : 0 < (kR R g).length) {Q : HP → Prop} (K : ∀ H', ExtT h o w t H' o w → TR t H' o w (upF S 6 (cStF (kR R g) c (SF S 6 1) u (cEnd (kR R g) 0) (SF S 6))) R → Q H') : CaV (d + 2) 145 [.inr (some t), .inl u, .inl c, .inr (some (t + (13 + 7 * g.toNat)))] h Q := by
  have hC : cod 145 = c_T_takeStamped := rfl
  refine CaV.start rfl ?_
  obtain ⟨p1, p2, arr, ad, W, p3, p4⟩ := T.hrow hg.1 hg.2
  have hK := T.1
  have hS := T.2.2.1
  have hl := W.len
  have hB := hK.built
  have hne := T.frP (n := 6) (by decide) (by decide) (by omega) (sk_r hg.1 hg.2) p4
  have hla := W.2.2.2.2.1
  have hV6 := SF_eq hS (n := 6) (by decide)
  refine x_1 (p' := 1) hC rfl rfl rfl rfl ?_
  refine x_1 (p' := 2) hC rfl rfl rfl rfl ?_
  refine x_cIV1 (p' := 3) (n := 95) hC rfl rfl rfl rfl rfl (hK.hrty (by omega) (by omega)) ?_
  refine sp_R_slotEnd W (by omega) ?_
  have hE := cEnd_rng (L := kR R g) (st := 0) (by omega) (by omega)
  refine x_stI4 (p' := 4) hC rfl rfl rfl ?_
  refine x_1 (p' := 5) hC rfl rfl rfl rfl ?_
  refine x_stI5 (p' := 6) hC rfl rfl rfl ?_
  have hlp := lp_T_stamped (d := d) T hg hu (by omega) K _ 0 none (Nat.lt_succ_self _) (by omega)
  rw [cStF_0, ← hV6, sF_self] at hlp
  exact hlp
noncomputable def cHeF (hd : FV) (u : Int) (v : FV) : FV := cif (fHas hd u) (fPut v u (hd (6 + u)) (oOr (hd (16 + u)) 128)) v
set_option maxRecDepth 20000 in
set_option maxHeartbeats 2000000 in
theorem sp_T_takeHeld {d : Nat} {h : HP} {t : Nat} {o : Nat → Nat} {w : Nat → Nat × Nat} {S : Nat → Int → Int} {R : Nat → List FV} (T : TR t h o w S R) {u g : Int} (hg : 0 ≤ g ∧ g < 5) (hu : 0 ≤ u ∧ u < 10) {Q : HP → Prop} (K : ∀ H', ExtT h o w t H' o w → TR t H' o w (upF S 6 (cHeF (SF S (15 + 7 * g.toNat)) u (SF S 6))) R → Q H') : CaV (d + 2) 144 [.inr (some t), .inl u, .inr (some (t + (15 + 7 * g.toNat)))] h Q := by
  have hC : cod 144 = c_T_takeHeld := rfl
  refine CaV.start rfl ?_
  have hK := T.1
  have hS := T.2.2.1
  have hB := hK.built
  have hH := hK.held hg.1 hg.2
  have hVH := SF_eq hS (n := 15 + 7 * g.toNat) (by omega)
  have hV6 := SF_eq hS (n := 6) (by decide)
  refine x_1 (p' := 1) hC rfl rfl rfl rfl ?_
  refine x_1 (p' := 2) hC rfl rfl rfl rfl ?_
  refine x_cIV1 (p' := 3) (n := 84) hC rfl rfl rfl rfl rfl (hH.ty) ?_
  refine sp_F_has hH hVH (by omega) ?_
  refine x_ifeq (p' := 4) hC rfl rfl (fun c3 => ?_) (fun c3 => ?_)
  · have c3 := b2i_0.mp c3
    refine x_ret hC rfl rfl rfl ⟨rfl, ?_⟩
    first
      | (have TF := T.frm (n := 6) (v := fPut (SF S 6) u (SF S (15 + 7 * g.toNat) (6 + u)) (oOr (SF S (15 + 7 * g.toNat) (16 + u)) 128)) (by decide) (by decide)
         unfold cHeF at K
         rw [cif_t c3] at K
         exact K _ TF.1 TF.2)
      | (have TF := T.frm (n := 6) (v := SF S 6) (by decide) (by decide)
         rw [← hV6, sF_self] at TF
         unfold cHeF at K
         rw [cif_f c3, ← hV6] at K
         exact K _ TF.1 TF.2)
  · have c3 := b2i_n0.mp c3
    refine x_1 (p' := 5) hC rfl rfl rfl rfl ?_
    refine z_tr (p' := 6) (n := 6) hK hC rfl rfl rfl rfl ?_
    refine x_1 (p' := 7) hC rfl rfl rfl rfl ?_
    refine x_1 (p' := 8) hC rfl rfl rfl rfl ?_
    refine z_fr1 (p' := 9) hH hC rfl rfl ?_
    refine x_1 (p' := 10) hC rfl rfl rfl rfl ?_
    refine z_fl1 (p' := 11) hH hVH hC rfl rfl rfl (by omega) (by omega) ?_
    refine x_1 (p' := 12) hC rfl rfl rfl rfl ?_
    refine z_fr2 (p' := 13) hH hC rfl rfl ?_
    refine x_1 (p' := 14) hC rfl rfl rfl rfl ?_
    refine z_fl2 (p' := 15) hH hVH hC rfl rfl rfl (by omega) (by omega) ?_
    refine x_1 (p' := 16) hC rfl rfl rfl rfl ?_
    refine x_1 (p' := 17) hC rfl rfl rfl rfl ?_
    refine x_cVV3 (p' := 18) (n := 85) hC rfl rfl rfl rfl rfl (hB.ty) ?_
    refine sp_F_put hB (by omega) ?_
    rw [hV6]
    refine x_ret hC rfl rfl rfl ⟨rfl, ?_⟩
    first
      | (have TF := T.frm (n := 6) (v := fPut (SF S 6) u (SF S (15 + 7 * g.toNat) (6 + u)) (oOr (SF S (15 + 7 * g.toNat) (16 + u)) 128)) (by decide) (by decide)
         unfold cHeF at K
         rw [cif_t c3] at K
         exact K _ TF.1 TF.2)
      | (have TF := T.frm (n := 6) (v := SF S 6) (by decide) (by decide)
         rw [← hV6, sF_self] at TF
         unfold cHeF at K
         rw [cif_f c3, ← hV6] at K
         exact K _ TF.1 TF.2)
def cM2 (L : List FV) (c u i : Int) : Prop := gt L i 0 = c ∧ fHas (gt L i) u
def cVal (L : List FV) (c u n : Int) : Prop := ∃ i : Int, 0 ≤ i ∧ i < n ∧ cM2 L c u i ∧ oAnd (gt L i (16 + u)) 1 = 0
set_option maxRecDepth 20000 in
theorem lp_T_valid {d : Nat} {h : HP} {t : Nat} {r arr : Nat} {ad : Nat → Nat} {al cap : Nat} {L : List FV} (W : RowQ h r arr ad al cap L) {u c e : Int} (hu : 0 ≤ u ∧ u < 10) (he : 0 ≤ e ∧ e ≤ (L.length : Nat)) {Q : Int → HP → Prop} (K : Q (b2i (cVal L c u e)) h) (k : Nat) : ∀ (i : Int) (z : Option AV), (e - i).toNat < k → (0 ≤ i ∧ i ≤ e) → (¬ cVal L c u i) → At (d + 1) 147 2 [some (.inr (some t)), some (.inl u), some (.inl c), some (.inr (some r)), some (.inl e), some (.inl i), z] [] h (fun v h' => ∃ x, v = some (.inl x) ∧ Q x h') := by
  have hC : cod 147 = c_T_hasValidReading := rfl
  induction k with
  | zero =>
    intro i z hk
    exact absurd hk (Nat.not_lt_zero _)
  | succ k ih =>
    intro i z hk hI0 hI1
    have hl := W.len
    refine x_1 (p' := 3) hC rfl rfl rfl rfl ?_
    refine x_1 (p' := 4) hC rfl rfl rfl rfl ?_
    refine x_icge (p' := 5) hC rfl rfl (fun c4 => ?_) (fun c4 => ?_)
    · refine x_1 (p' := 30) hC rfl rfl rfl rfl ?_
      refine x_zret hC rfl rfl rfl (by first | omega | exact b2i_01 _) ⟨_, rfl, ?_⟩
      exact eqK K (b2i_f (by rw [show e = i by omega]; exact hI1))
    · refine x_1 (p' := 6) hC rfl rfl rfl rfl ?_
      refine z_rf (p' := 7) W hC rfl rfl ?_
      refine x_1 (p' := 8) hC rfl rfl rfl rfl ?_
      refine z_ra (p' := 9) W hC rfl rfl rfl (by omega) (by omega) (fun hF8 hV8 => ?_)
      refine x_stA6 (p' := 10) hC rfl rfl rfl ?_
      refine x_1 (p' := 11) hC rfl rfl rfl rfl ?_
      refine z_fg (p' := 12) (kz := 0) hF8 hV8 hC rfl rfl rfl rfl ?_
      refine x_1 (p' := 13) hC rfl rfl rfl rfl ?_
      refine x_icne (p' := 14) hC rfl rfl (fun c13 => ?_) (fun c13 => ?_)
      · refine x_inc5 (p' := 28) hC rfl rfl (⟨by omega, by omega⟩) ?_
        refine x_1 (p' := 2) hC rfl rfl rfl rfl ?_
        refine ih _ _ (by omega) (by omega) (fun ⟨q, a0, a1, a2, a3⟩ => ?_)
        by_cases hq : q = i
        · subst hq
          first
            | exact c13 a2.1
            | exact c17 a2.2
            | exact c24 a3
        · exact hI1 ⟨q, a0, by omega, a2, a3⟩
      · refine x_1 (p' := 15) hC rfl rfl rfl rfl ?_
        refine x_1 (p' := 16) hC rfl rfl rfl rfl ?_
        refine x_cIV1 (p' := 17) (n := 84) hC rfl rfl rfl rfl rfl (hF8.ty) ?_
        refine sp_F_has hF8 hV8 (by omega) ?_
        refine x_ifeq (p' := 18) hC rfl rfl (fun c17 => ?_) (fun c17 => ?_)
        · have c17 := b2i_0.mp c17
          refine x_inc5 (p' := 28) hC rfl rfl (⟨by omega, by omega⟩) ?_
          refine x_1 (p' := 2) hC rfl rfl rfl rfl ?_
          refine ih _ _ (by omega) (by omega) (fun ⟨q, a0, a1, a2, a3⟩ => ?_)
          by_cases hq : q = i
          · subst hq
            first
              | exact c13 a2.1
              | exact c17 a2.2
              | exact c24 a3
          · exact hI1 ⟨q, a0, by omega, a2, a3⟩
        · have c17 := b2i_n0.mp c17
          refine x_1 (p' := 19) hC rfl rfl rfl rfl ?_
          refine z_fr2 (p' := 20) hF8 hC rfl rfl ?_
          refine x_1 (p' := 21) hC rfl rfl rfl rfl ?_
          refine z_fl2 (p' := 22) hF8 hV8 hC rfl rfl rfl (by omega) (by omega) ?_
          refine x_1 (p' := 23) hC rfl rfl rfl rfl ?_
          refine x_1 (p' := 24) hC rfl rfl rfl rfl ?_
          refine x_ifne (p' := 25) hC rfl rfl (fun c24 => ?_) (fun c24 => ?_)
          · refine x_inc5 (p' := 28) hC rfl rfl (⟨by omega, by omega⟩) ?_
            refine x_1 (p' := 2) hC rfl rfl rfl rfl ?_
            refine ih _ _ (by omega) (by omega) (fun ⟨q, a0, a1, a2, a3⟩ => ?_)
            by_cases hq : q = i
            · subst hq
              first
                | exact c13 a2.1
                | exact c17 a2.2
                | exact c24 a3
            · exact hI1 ⟨q, a0, by omega, a2, a3⟩
          · refine x_1 (p' := 26) hC rfl rfl rfl rfl ?_
            refine x_zret hC rfl rfl rfl (by first | omega | exact b2i_01 _) ⟨_, rfl, ?_⟩
            exact eqK K (b2i_t ⟨i, hI0.1, by omega, ⟨by omega, c17⟩, by omega⟩)
set_option maxRecDepth 20000 in
set_option maxHeartbeats 2000000 in
theorem sp_T_hasValidReading {d : Nat} {h : HP} {t : Nat} {r arr : Nat} {ad : Nat → Nat} {al cap : Nat} {L : List FV} (W : RowQ h r arr ad al cap L) {u c e : Int} (hu : 0 ≤ u ∧ u < 10) (he : 0 ≤ e ∧ e ≤ (L.length : Nat)) {Q : Int → HP → Prop} (K : Q (b2i (cVal L c u e)) h) : CaI (d + 1) 147 [.inr (some t), .inl u, .inl c, .inr (some r), .inl e] h Q := by
  have hC : cod 147 = c_T_hasValidReading := rfl
  refine CaI.start rfl ?_
  refine x_1 (p' := 1) hC rfl rfl rfl rfl ?_
  refine x_stI5 (p' := 2) hC rfl rfl rfl ?_
  exact lp_T_valid (t := t) W hu he K _ 0 _ (Nat.lt_succ_self _) (by omega) (fun ⟨q, a0, a1, _⟩ => absurd a1 (by omega))
set_option maxRecDepth 20000 in
theorem lp_T_ins {d : Nat} {h : HP} {t : Nat} (hK : SkT t h) {f : Int → Int} {n : Nat} (hn : n < 20) (hs : Srt (lOf f n)) {l : List Int} (hp : (lOf f n).Perm l) {v : Int} {Q : HP → Prop} (K : ∀ f', Srt (lOf f' (n + 1)) → (lOf f' (n + 1)).Perm (l ++ [v]) → Q (sIA h (t + 10) f')) (k : Nat) : ∀ (p : Nat), p < k → (p ≤ n) → (∀ i : Nat, p ≤ i → i < n → v < f i) → At (d) 148 2 [some (.inr (some t)), some (.inl v), some (.inl (n : Nat)), some (.inl (p : Nat))] [] (sIA h (t + 10) (fun j => if (p : Int) < j ∧ j ≤ (n : Nat) then f (j - 1) else f j)) (fun v h' => v = none ∧ Q h') := by
  have hC : cod 148 = c_T_insertSorted := rfl
  induction k with
  | zero =>
    intro p hk
    exact absurd hk (Nat.not_lt_zero _)
  | succ k ih =>
    intro p hk hI0 hI1
    have ht10 : hTy h (t + 10) = (100, 20) := hK.2.2.1 10 (by decide)
    have h3 : 3 ≤ t := hK.1
    refine x_1 (p' := 3) hC rfl rfl rfl rfl ?_
    refine x_ifle (p' := 4) hC rfl rfl (fun c3 => ?_) (fun c3 => ?_)
    · refine x_1 (p' := 25) hC rfl rfl rfl rfl ?_
      refine z_tr (p' := 26) (n := 10) hK hC rfl rfl rfl rfl ?_
      refine x_1 (p' := 27) hC rfl rfl rfl rfl ?_
      refine x_1 (p' := 28) hC rfl rfl rfl rfl ?_
      refine x_iast (p' := 29) hC rfl rfl rfl ht10 (by omega) (by omega) (by omega) ?_
      rw [sI_sIA]
      refine x_ret hC rfl rfl rfl ⟨rfl, ?_⟩
      have hfin : ∀ k : Int, ups (fun k => if (p : Int) < k ∧ k ≤ (n : Nat) then f (k - 1) else f k) (p : Int) v k = if k = (p : Int) then v else if (p : Int) < k ∧ k ≤ (n : Nat) then f (k - 1) else f k := fun _ => rfl
      generalize ups (fun k => if (p : Int) < k ∧ k ≤ (n : Nat) then f (k - 1) else f k) (p : Int) v = f2 at hfin
      have hins := ins_srt (a := f) (b := f2) (p := p) (n := n) (v := v) (l := l) (by omega) (fun i hi => by rw [hfin, if_neg (by omega), if_neg (by omega)]) (by rw [hfin, if_pos rfl]) (fun i h1 h2 => by rw [hfin, if_neg (by omega), if_pos (by omega), show (i : Int) + 1 - 1 = i by omega]) hI1 (Or.inl (by omega)) hs hp
      exact K f2 hins.1 hins.2
    · obtain ⟨j, rfl⟩ : ∃ j, p = j + 1 := ⟨p - 1, by omega⟩
      refine x_1 (p' := 5) hC rfl rfl rfl rfl ?_
      refine z_tr (p' := 6) (n := 10) hK hC rfl rfl rfl rfl ?_
      refine x_1 (p' := 7) hC rfl rfl rfl rfl ?_
      refine x_1 (p' := 8) hC rfl rfl rfl rfl ?_
      refine x_sub (p' := 9) hC rfl rfl rfl (⟨by omega, by omega⟩) ?_
      refine x_iald (p' := 10) hC rfl rfl rfl ht10 (by omega) (by omega) ?_
      rw [hI_sIA]
      rw [if_neg (by omega), show ((j + 1 : Nat) : Int) - 1 = (j : Int) by omega]
      refine x_1 (p' := 11) hC rfl rfl rfl rfl ?_
      refine x_icle (p' := 12) hC rfl rfl (fun c11 => ?_) (fun c11 => ?_)
      · refine x_1 (p' := 25) hC rfl rfl rfl rfl ?_
        refine z_tr (p' := 26) (n := 10) hK hC rfl rfl rfl rfl ?_
        refine x_1 (p' := 27) hC rfl rfl rfl rfl ?_
        refine x_1 (p' := 28) hC rfl rfl rfl rfl ?_
        refine x_iast (p' := 29) hC rfl rfl rfl ht10 (by omega) (by omega) (by omega) ?_
        rw [sI_sIA]
        refine x_ret hC rfl rfl rfl ⟨rfl, ?_⟩
        have hfin : ∀ k : Int, ups (fun k => if ((j + 1 : Nat) : Int) < k ∧ k ≤ (n : Nat) then f (k - 1) else f k) ((j + 1 : Nat) : Int) v k = if k = ((j + 1 : Nat) : Int) then v else if ((j + 1 : Nat) : Int) < k ∧ k ≤ (n : Nat) then f (k - 1) else f k := fun _ => rfl
        generalize ups (fun k => if ((j + 1 : Nat) : Int) < k ∧ k ≤ (n : Nat) then f (k - 1) else f k) ((j + 1 : Nat) : Int) v = f2 at hfin
        have hins := ins_srt (a := f) (b := f2) (p := (j + 1)) (n := n) (v := v) (l := l) (by omega) (fun i hi => by rw [hfin, if_neg (by omega), if_neg (by omega)]) (by rw [hfin, if_pos rfl]) (fun i h1 h2 => by rw [hfin, if_neg (by omega), if_pos (by omega), show (i : Int) + 1 - 1 = i by omega]) hI1 (Or.inr (by rw [show ((j + 1 : Nat) : Int) - 1 = (j : Int) by omega]; omega)) hs hp
        exact K f2 hins.1 hins.2
      · refine x_1 (p' := 13) hC rfl rfl rfl rfl ?_
        refine z_tr (p' := 14) (n := 10) hK hC rfl rfl rfl rfl ?_
        refine x_1 (p' := 15) hC rfl rfl rfl rfl ?_
        refine x_1 (p' := 16) hC rfl rfl rfl rfl ?_
        refine z_tr (p' := 17) (n := 10) hK hC rfl rfl rfl rfl ?_
        refine x_1 (p' := 18) hC rfl rfl rfl rfl ?_
        refine x_1 (p' := 19) hC rfl rfl rfl rfl ?_
        refine x_sub (p' := 20) hC rfl rfl rfl (⟨by omega, by omega⟩) ?_
        refine x_iald (p' := 21) hC rfl rfl rfl ht10 (by omega) (by omega) ?_
        rw [hI_sIA]
        rw [if_neg (by omega), show ((j + 1 : Nat) : Int) - 1 = (j : Int) by omega]
        refine x_iast (p' := 22) hC rfl rfl rfl ht10 (by omega) (by omega) (by omega) ?_
        rw [sI_sIA]
        refine x_inc3 (p' := 23) hC rfl rfl (⟨by omega, by omega⟩) ?_
        refine x_1 (p' := 2) hC rfl rfl rfl rfl ?_
        rw [sIA_congr (f' := fun k => if (j : Int) < k ∧ k ≤ (n : Nat) then f (k - 1) else f k) (fun k => by
          unfold ups
          by_cases hk2 : k = ((j + 1 : Nat) : Int)
          · rw [if_pos hk2, if_pos (by omega), hk2, show ((j + 1 : Nat) : Int) - 1 = (j : Int) by omega]
          · rw [if_neg hk2]
            show (if ((j + 1 : Nat) : Int) < k ∧ k ≤ (n : Nat) then f (k - 1) else f k) = _
            by_cases h2 : ((j + 1 : Nat) : Int) < k ∧ k ≤ (n : Nat)
            · rw [if_pos h2, if_pos (by omega)]
            · rw [if_neg h2, if_neg (by omega)]), show ((j + 1 : Nat) : Int) + -1 = (j : Int) by omega]
        refine ih j (by omega) (by omega) (fun i h1 h2 => ?_)
        by_cases hij : i = j
        · rw [hij]; omega
        · exact hI1 i (by omega) h2
set_option maxRecDepth 20000 in
set_option maxHeartbeats 2000000 in
theorem sp_T_insertSorted {d : Nat} {h : HP} {t : Nat} (hK : SkT t h) {f : Int → Int} {n : Nat} (hn : n < 20) (hs : Srt (lOf f n)) {l : List Int} (hp : (lOf f n).Perm l) {v : Int} {Q : HP → Prop} (K : ∀ f', Srt (lOf f' (n + 1)) → (lOf f' (n + 1)).Perm (l ++ [v]) → Q (sIA h (t + 10) f')) : CaV d 148 [.inr (some t), .inl v, .inl (n : Nat)] (sIA h (t + 10) f) Q := by
  have hC : cod 148 = c_T_insertSorted := rfl
  refine CaV.start rfl ?_
  refine x_1 (p' := 1) hC rfl rfl rfl rfl ?_
  refine x_stI3 (p' := 2) hC rfl rfl rfl ?_
  have hlp := lp_T_ins (d := d) hK hn hs hp K _ n (Nat.lt_succ_self _) (Nat.le_refl _) (fun i h1 h2 => absurd h2 (by omega))
  rw [sIA_congr (f' := f) (fun j => if_neg (by omega))] at hlp
  exact hlp

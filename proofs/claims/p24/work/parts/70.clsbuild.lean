/-! THE CLASS: a frame built, put out -/
theorem cFlF_sr {S S' : Nat → Int → Int} (x : SR S S') {L : List FV} {g c u e : Int} {v : FV} : cFlF S' L g c u e v = cFlF S L g c u e v := by
  unfold cFlF cFV cFF
  rw [x.2.2.1, x.cExp]
noncomputable def cTk (S : Nat → Int → Int) (L : List FV) (g u : Int) (p : FV × FV) : FV := if cExp S g (cTow S u g) (p.1 1) = 0 then cHeF p.2 u p.1 else if ¬ cSe S g 2 = 0 ∧ cPer S (cTow S u g) < cSe S g 4 then cFlF S L g (cTow S u g) u (cEnd L 0) p.1 else cStF L (cTow S u g) (p.1 1) u (cEnd L 0) p.1
noncomputable def cBs (S : Nat → Int → Int) (L : List FV) (g u : Int) (p : FV × FV) : FV × FV := if cTow S u g = -1 then p else cif (fHas (cTk S L g u p) u) (cTk S L g u p, fPut p.2 u (cTk S L g u p (6 + u)) (cTk S L g u p (16 + u))) (ups (cTk S L g u p) 4 (cTk S L g u p 4 + 1), p.2)
/-- the frame that hub g builds of its first slot, and what it holds then, after n units -/
noncomputable def cB (S : Nat → Int → Int) (L : List FV) (g n : Int) : FV × FV := fI n (cBs S L g) (fBeg (SF S 6) g (gt L 0 2), SF S (15 + 7 * g.toNat))
theorem cB_0 {S : Nat → Int → Int} {L : List FV} {g : Int} : cB S L g 0 = (fBeg (SF S 6) g (gt L 0 2), SF S (15 + 7 * g.toNat)) := fI_0
theorem cB_succ {S : Nat → Int → Int} {L : List FV} {g n : Int} (hn : 0 ≤ n) : cB S L g (n + 1) = cBs S L g n (cB S L g n) := by
  unfold cB
  rw [fI_succ hn]
theorem fPut_ne {v : FV} {u x f k : Int} (h1 : k ≠ 5) (h2 : k ≠ 6 + u) (h3 : k ≠ 16 + u) : fPut v u x f k = v k := by
  unfold fPut
  rw [ups_ne h3, ups_ne h2, ups_ne h1]
theorem cStF_k {L : List FV} {c sl u k : Int} {v : FV} (h1 : k ≠ 5) (h2 : k ≠ 6 + u) (h3 : k ≠ 16 + u) : ∀ n : Nat, cStF L c sl u n v k = v k
  | 0 => by rw [show ((0 : Nat) : Int) = 0 by rfl, cStF_0]
  | n + 1 => by
    rw [show ((n + 1 : Nat) : Int) = (n : Int) + 1 by omega, cStF_succ (by omega)]
    rcases Classical.em (cM1 L c sl u n) with h | h
    · rw [cif_t h, fPut_ne h1 h2 h3]
      exact cStF_k h1 h2 h3 n
    · rw [cif_f h]; exact cStF_k h1 h2 h3 n
theorem cTk_inv {S : Nat → Int → Int} {L : List FV} {g u : Int} {p : FV × FV} (hl : 0 < L.length) (hu : 0 ≤ u ∧ u < 10) (hp : nf p.1 = p.1) : nf (cTk S L g u p) = cTk S L g u p ∧ ∀ k, k ≠ 5 → k ≠ 6 + u → k ≠ 16 + u → cTk S L g u p k = p.1 k := by
  have hE := cEnd_rng (L := L) (st := 0) (by omega) (by omega)
  obtain ⟨e, he⟩ := Int.eq_ofNat_of_zero_le (show 0 ≤ cEnd L 0 by omega)
  unfold cTk
  split
  · unfold cHeF
    rcases Classical.em (fHas p.2 u) with h | h
    · rw [cif_t h]; exact ⟨nf_fPut hp hu, fun k h1 h2 h3 => fPut_ne h1 h2 h3⟩
    · rw [cif_f h]; exact ⟨hp, fun _ _ _ _ => rfl⟩
  · split
    · unfold cFlF
      rcases Classical.em (cPick L (cTow S u g) u (cVal L (cTow S u g) u (cEnd L 0)) (cEnd L 0) = []) with h | h
      · rw [cif_t h]; exact ⟨hp, fun _ _ _ _ => rfl⟩
      · rw [cif_f h]; exact ⟨nf_fPut hp hu, fun k h1 h2 h3 => fPut_ne h1 h2 h3⟩
    · rw [he]
      exact ⟨cStF_nf hu hp e, fun k h1 h2 h3 => cStF_k h1 h2 h3 e⟩
theorem cB_inv {S : Nat → Int → Int} {L : List FV} {g : Int} (hl : 0 < L.length) : ∀ n : Nat, n ≤ 10 → nf (cB S L g n).1 = (cB S L g n).1 ∧ nf (cB S L g n).2 = (cB S L g n).2 ∧ (cB S L g n).1 0 = g ∧ (cB S L g n).1 1 = gt L 0 2 ∧ 0 ≤ (cB S L g n).1 4 ∧ (cB S L g n).1 4 ≤ n
  | 0, _ => by
    rw [show ((0 : Nat) : Int) = 0 by rfl, cB_0]
    refine ⟨nf_fBeg nf_SF, nf_SF, ?_, ?_, ?_, ?_⟩
    all_goals (unfold fBeg; dsimp only)
    · rw [ups_ne (by decide), ups_ne (by decide), ups_ne (by decide), ups_eq rfl]
    · rw [ups_ne (by decide), ups_ne (by decide), ups_eq rfl]
    · rw [ups_ne (by decide), ups_eq rfl]; decide
    · rw [ups_ne (by decide), ups_eq rfl]; decide
  | n + 1, hn => by
    obtain ⟨a1, a2, a0, a3, a4, a5⟩ := cB_inv (S := S) (L := L) (g := g) hl n (by omega)
    rw [show ((n + 1 : Nat) : Int) = (n : Int) + 1 by omega, cB_succ (by omega)]
    generalize cB S L g n = p at *
    have ht := cTk_inv (S := S) (L := L) (g := g) (u := n) hl (by omega) a1
    unfold cBs
    split
    · exact ⟨a1, a2, a0, a3, a4, by omega⟩
    · have t0 := ht.2 0 (by omega) (by omega) (by omega)
      have t1 := ht.2 1 (by omega) (by omega) (by omega)
      have t4 := ht.2 4 (by omega) (by omega) (by omega)
      rcases Classical.em (fHas (cTk S L g n p) n) with h | h
      · rw [cif_t h]
        exact ⟨ht.1, nf_fPut a2 (by omega), t0.trans a0, t1.trans a3, by dsimp only; omega, by dsimp only; omega⟩
      · rw [cif_f h]
        refine ⟨?_, a2, ?_, ?_, ?_, ?_⟩
        all_goals dsimp only
        · rw [nf_ups (by omega) (by omega), ht.1]
        · rw [ups_ne (by decide)]; exact t0.trans a0
        · rw [ups_ne (by decide)]; exact t1.trans a3
        · rw [ups_eq rfl]; omega
        · rw [ups_eq rfl]; omega
theorem cTow_rng {S : Nat → Int → Int} (hc : CI S) {u g : Int} (hu : 0 ≤ u ∧ u < cT S 5) (hg : 0 ≤ g) (h : ¬ cTow S u g = -1) : (0 ≤ cTow S u g ∧ cTow S u g < 15) ∧ 1 ≤ cPer S (cTow S u g) ∧ cPer S (cTow S u g) ≤ 20 := by
  have h4 := hc.1
  have h5 := hc.2.1
  have key : ∀ (n : Nat) (c x : Int), x < cT S 4 → ((0 ≤ c ∧ c < 15) ∧ 1 ≤ cPer S c ∧ cPer S c ≤ 20) → ¬ cTw S g n c x = -1 → (0 ≤ cTw S g n c x ∧ cTw S g n c x < 15) ∧ 1 ≤ cPer S (cTw S g n c x) ∧ cPer S (cTw S g n c x) ≤ 20 := by
    intro n
    induction n with
    | zero =>
      intro c x hx hcx hh
      rw [cTw] at hh ⊢
      split at hh
      · rename_i q; rw [if_pos q]; exact hcx
      · exact absurd rfl hh
    | succ n ih =>
      intro c x hx hcx hh
      rw [cTw] at hh ⊢
      split at hh
      · rename_i q
        rw [if_pos q]
        have hy := hc.2.2.1 x (by omega) hx
        refine ih _ _ (by omega) ⟨by omega, ?_⟩ hh
        unfold cPer
        rw [if_pos (by omega)]
        omega
      · rename_i q
        rw [if_neg q]
        split at hh
        · rename_i q2; rw [if_pos q2]; exact hcx
        · exact absurd rfl hh
  have hx := hc.2.2.2 u hu.1 hu.2
  unfold cTow at h ⊢
  split at h
  · rename_i q
    rw [if_pos q]
    refine key 5 (5 + u) _ hx.2.1 ⟨by omega, ?_⟩ h
    unfold cPer
    rw [if_neg (by omega), show 5 + u - 5 = u by omega]
    omega
  · exact absurd rfl h
set_option maxRecDepth 20000 in
theorem lp_T_build {d : Nat} {h : HP} {t : Nat} {o : Nat → Nat} {w : Nat → Nat × Nat} {S : Nat → Int → Int} {R : Nat → List FV} (T : TR t h o w S R) (hc : CI S) {g : Int} (hg : 0 ≤ g ∧ g < cT S 4) (hl0 : 0 < (kR R g).length) (hs0 : 0 ≤ gt (kR R g) 0 2) (hpk : ∀ c u, 0 ≤ u → u < 10 → (cPick (kR R g) c u (cVal (kR R g) c u (cEnd (kR R g) 0)) (cEnd (kR R g) 0)).length ≤ 20) {Q : HP → Prop} (K : ∀ H' S', ExtT h o w t H' o w → TR t H' o w S' R → SX (upF S (15 + 7 * g.toNat) (cB S (kR R g) g (cT S 5)).2) S' → SF S' 6 = (cB S (kR R g) g (cT S 5)).1 → Q H') (k : Nat) : ∀ (i : Int) (H : HP) (S1 : Nat → Int → Int) (z : Option AV), (cT S 5 - i).toNat < k → (0 ≤ i ∧ i ≤ cT S 5) → (ExtT h o w t H o w) → (TR t H o w S1 R) → (SX (upF S (15 + 7 * g.toNat) (cB S (kR R g) g i).2) S1) → (SF S1 6 = (cB S (kR R g) g i).1) → At (d + 3) 143 17 [some (.inr (some t)), some (.inl g), some (.inr (some (t + (11 + 7 * g.toNat)))), some (.inl i), z] [] H (fun v h' => v = none ∧ Q h') := by
  have hC : cod 143 = c_T_build := rfl
  induction k with
  | zero =>
    intro i H S1 z hk
    exact absurd hk (Nat.not_lt_zero _)
  | succ k ih =>
    intro i H S1 z hk hI0 hI1 hI2 hI3 hI4
    have hK := hI2.1
    have hS := hI2.2.2.1
    have h4 := hc.1
    have h5 := hc.2.1
    have hg5 : g < 5 := by omega
    have hgg := hc.2.2.1 g hg.1 hg.2
    have sr : SR S S1 := (SR.upFh hg.1 hg5).trans hI3.sr
    have hc1 := sr.CI hc
    obtain ⟨n, hn⟩ := Int.eq_ofNat_of_zero_le hI0.1
    have hpi := cB_inv (S := S) (L := kR R g) (g := g) hl0 n (by omega)
    rw [← hn] at hpi
    have hsu := cB_succ (S := S) (L := kR R g) (g := g) hI0.1
    have hfin := fun (q : i = cT S 5) => K H S1 hI1 hI2 (by rw [← q]; exact hI3) (by rw [← q]; exact hI4)
    generalize hp : cB S (kR R g) g i = p at *
    have hB := hK.built
    have hV6 := (SF_eq hS (n := 6) (by decide)).trans hI4
    have hxh := hI3.SF (n := 15 + 7 * g.toNat) (by omega)
    rw [SF_upF, hpi.2.1] at hxh
    refine x_1 (p' := 18) hC rfl rfl rfl rfl ?_
    refine x_1 (p' := 19) hC rfl rfl rfl rfl ?_
    refine z_ti (p' := 20) (kz := 5) hK hS hC rfl rfl rfl rfl ?_
    rw [sr.1]
    refine x_icge (p' := 21) hC rfl rfl (fun c20 => ?_) (fun c20 => ?_)
    · refine x_ret hC rfl rfl rfl ⟨rfl, ?_⟩
      exact hfin (by omega)
    · refine x_1 (p' := 22) hC rfl rfl rfl rfl ?_
      refine x_1 (p' := 23) hC rfl rfl rfl rfl ?_
      refine x_1 (p' := 24) hC rfl rfl rfl rfl ?_
      refine x_cIV2 (p' := 25) (n := 123) hC rfl rfl rfl rfl rfl (hK.ty) ?_
      refine sp_T_childToward hK hS hc1 (by rw [sr.1]; omega) (by omega) ?_
      rw [sr.cTow]
      refine x_stI4 (p' := 26) hC rfl rfl rfl ?_
      refine x_1 (p' := 27) hC rfl rfl rfl rfl ?_
      refine x_1 (p' := 28) hC rfl rfl rfl rfl ?_
      refine x_icne (p' := 29) hC rfl rfl (fun c28 => ?_) (fun c28 => ?_)
      · have hct := cTow_rng hc (by omega) hg.1 c28
        have hti := cTk_inv (S := S) (L := kR R g) (g := g) (u := i) hl0 (by omega) hpi.1
        refine x_1 (p' := 31) hC rfl rfl rfl rfl ?_
        refine x_1 (p' := 32) hC rfl rfl rfl rfl ?_
        refine x_1 (p' := 33) hC rfl rfl rfl rfl ?_
        refine x_1 (p' := 34) hC rfl rfl rfl rfl ?_
        refine z_tr (p' := 35) (n := 6) hK hC rfl rfl rfl rfl ?_
        refine z_fg (p' := 36) (kz := 1) hB hV6 hC rfl rfl rfl rfl ?_
        refine x_cIV3 (p' := 37) (n := 137) hC rfl rfl rfl rfl rfl (hK.ty) ?_
        refine sp_T_expectedOf hK hS hct.1 (by omega) (by rw [sr.cPer]; exact hct.2) (by rw [sr.2.2.1]; omega) (by rw [hpi.2.2.2.1]; exact hs0) ?_
        rw [sr.cExp]
        refine x_ifne (p' := 38) hC rfl rfl (fun c37 => ?_) (fun c37 => ?_)
        · 
          refine x_1 (p' := 45) hC rfl rfl rfl rfl ?_
          refine z_hr0 (p' := 46) hK (by omega) (by omega) hC rfl rfl ?_
          refine x_1 (p' := 47) hC rfl rfl rfl rfl ?_
          refine z_sl (p' := 48) hK hS (by omega) (by omega) hC rfl rfl rfl (by omega) (by omega) ?_
          rw [sr.2.2.1]
          refine x_ifeq (p' := 49) hC rfl rfl (fun c48 => ?_) (fun c48 => ?_)
          · refine x_1 (p' := 64) hC rfl rfl rfl rfl ?_
            refine x_1 (p' := 65) hC rfl rfl rfl rfl ?_
            refine x_1 (p' := 66) hC rfl rfl rfl rfl ?_
            refine x_1 (p' := 67) hC rfl rfl rfl rfl ?_
            refine z_hr1 (p' := 68) hK (by omega) (by omega) hC rfl rfl ?_
            refine x_cVV3 (p' := 69) (n := 145) hC rfl rfl rfl rfl rfl (hK.ty) ?_
            refine sp_T_takeStamped hI2 ⟨hg.1, hg5⟩ (by omega) hl0 (fun H2 E2 T2 => ?_)
            have x2 : SX S1 (upF S1 6 (cStF (kR R g) (cTow S i g) (SF S1 6 1) i (cEnd (kR R g) 0) (SF S1 6))) := SX.upF6
            have hv2 : SF (upF S1 6 (cStF (kR R g) (cTow S i g) (SF S1 6 1) i (cEnd (kR R g) 0) (SF S1 6))) 6 = cTk S (kR R g) g i p := by
              rw [SF_upF]
              refine Eq.trans ?_ hti.1
              congr 1
              unfold cTk
              rw [if_neg c37, if_neg (by first | exact fun q => q.1 c48 | exact fun q => absurd q.2 (by omega)), hI4]
            generalize upF S1 6 (cStF (kR R g) (cTow S i g) (SF S1 6 1) i (cEnd (kR R g) 0) (SF S1 6)) = S2 at *
            have hK := T2.1
            have hS := T2.2.2.1
            have hB2 := hK.built
            have hH2 := hK.held hg.1 hg5
            have hVH2 := SF_eq hS (n := 15 + 7 * g.toNat) (by omega)
            have hV2 := (SF_eq hS (n := 6) (by decide)).trans hv2
            have hxn := (hI3.trans x2).SF (n := 15 + 7 * g.toNat) (by omega)
            rw [SF_upF, hpi.2.1] at hxn
            rw [hxn] at hVH2
            refine x_1 (p' := 70) hC rfl rfl rfl rfl ?_
            refine z_tr (p' := 71) (n := 6) hK hC rfl rfl rfl rfl ?_
            refine x_1 (p' := 72) hC rfl rfl rfl rfl ?_
            refine x_cIV1 (p' := 73) (n := 84) hC rfl rfl rfl rfl rfl (hB2.ty) ?_
            refine sp_F_has hB2 hV2 (by omega) ?_
            refine x_ifeq (p' := 74) hC rfl rfl (fun c73 => ?_) (fun c73 => ?_)
            · have c73 := b2i_0.mp c73
              have ht4 := hti.2 4 (by omega) (by omega) (by omega)
              refine x_1 (p' := 90) hC rfl rfl rfl rfl ?_
              refine z_tr (p' := 91) (n := 6) hK hC rfl rfl rfl rfl ?_
              refine x_1 (p' := 92) hC rfl rfl rfl rfl ?_
              refine z_fg (p' := 93) (kz := 4) hB2 hV2 hC rfl rfl rfl rfl ?_
              refine x_1 (p' := 94) hC rfl rfl rfl rfl ?_
              refine x_add (p' := 95) hC rfl rfl rfl (⟨by omega, by omega⟩) ?_
              refine x_putI (p' := 96) hC rfl rfl rfl hB2.ty hB2.1 ?_
              rw [show (((4 : Nat) : Int)) = 4 from rfl, sI_sF (by omega) (by omega), hV2]
              have TF := T2.frm (n := 6) (v := ups (cTk S (kR R g) g i p) 4 (cTk S (kR R g) g i p 4 + 1)) (by decide) (by decide)
              refine x_inc3 (p' := 97) hC rfl rfl (⟨by omega, by omega⟩) ?_
              refine x_1 (p' := 17) hC rfl rfl rfl rfl ?_
              first
                | (refine ih _ H S1 _ (by omega) (by omega) hI1 hI2 ?_ ?_
                   · rw [hsu, hbs]; exact hI3
                   · rw [hsu, hbs]; exact hI4)
                | (have hbs : cBs S (kR R g) g i p = (cTk S (kR R g) g i p, fPut p.2 i (cTk S (kR R g) g i p (6 + i)) (cTk S (kR R g) g i p (16 + i))) := by
                     unfold cBs
                     rw [if_neg c28, cif_t c73]
                   refine ih _ _ _ _ (by omega) (by omega) ((hI1.trans E2).trans TF.1) TF.2 ?_ ?_
                   · rw [hsu, hbs]
                     have := (hI3.trans x2).upF (n := 15 + 7 * g.toNat) (v := fPut p.2 i (cTk S (kR R g) g i p (6 + i)) (cTk S (kR R g) g i p (16 + i)))
                     rw [upF_upF] at this
                     exact this
                   · rw [hsu, hbs, SF_ne (by omega)]
                     exact hv2)
                | (have hbs : cBs S (kR R g) g i p = (ups (cTk S (kR R g) g i p) 4 (cTk S (kR R g) g i p 4 + 1), p.2) := by
                     unfold cBs
                     rw [if_neg c28, cif_f c73]
                   refine ih _ _ _ _ (by omega) (by omega) ((hI1.trans E2).trans TF.1) TF.2 ?_ ?_
                   · rw [hsu, hbs]
                     exact (hI3.trans x2).trans SX.upF6
                   · rw [hsu, hbs, SF_upF, nf_ups (by omega) (by omega), hti.1])
            · have c73 := b2i_n0.mp c73
              refine x_1 (p' := 75) hC rfl rfl rfl rfl ?_
              refine z_hr2 (p' := 76) hK (by omega) (by omega) hC rfl rfl ?_
              refine x_1 (p' := 77) hC rfl rfl rfl rfl ?_
              refine x_1 (p' := 78) hC rfl rfl rfl rfl ?_
              refine z_tr (p' := 79) (n := 6) hK hC rfl rfl rfl rfl ?_
              refine z_fr1 (p' := 80) hB2 hC rfl rfl ?_
              refine x_1 (p' := 81) hC rfl rfl rfl rfl ?_
              refine z_fl1 (p' := 82) hB2 hV2 hC rfl rfl rfl (by omega) (by omega) ?_
              refine x_1 (p' := 83) hC rfl rfl rfl rfl ?_
              refine z_tr (p' := 84) (n := 6) hK hC rfl rfl rfl rfl ?_
              refine z_fr2 (p' := 85) hB2 hC rfl rfl ?_
              refine x_1 (p' := 86) hC rfl rfl rfl rfl ?_
              refine z_fl2 (p' := 87) hB2 hV2 hC rfl rfl rfl (by omega) (by omega) ?_
              refine x_cVV3 (p' := 88) (n := 85) hC rfl rfl rfl rfl rfl (hH2.ty) ?_
              refine sp_F_put hH2 (by omega) ?_
              rw [hVH2]
              have TF := T2.frm (n := 15 + 7 * g.toNat) (v := fPut p.2 i (cTk S (kR R g) g i p (6 + i)) (cTk S (kR R g) g i p (16 + i))) (by omega) (sk_h ⟨g.toNat, by omega⟩).2.2.2
              refine x_1 (p' := 96) hC rfl rfl rfl rfl ?_
              refine x_inc3 (p' := 97) hC rfl rfl (⟨by omega, by omega⟩) ?_
              refine x_1 (p' := 17) hC rfl rfl rfl rfl ?_
              first
                | (refine ih _ H S1 _ (by omega) (by omega) hI1 hI2 ?_ ?_
                   · rw [hsu, hbs]; exact hI3
                   · rw [hsu, hbs]; exact hI4)
                | (have hbs : cBs S (kR R g) g i p = (cTk S (kR R g) g i p, fPut p.2 i (cTk S (kR R g) g i p (6 + i)) (cTk S (kR R g) g i p (16 + i))) := by
                     unfold cBs
                     rw [if_neg c28, cif_t c73]
                   refine ih _ _ _ _ (by omega) (by omega) ((hI1.trans E2).trans TF.1) TF.2 ?_ ?_
                   · rw [hsu, hbs]
                     have := (hI3.trans x2).upF (n := 15 + 7 * g.toNat) (v := fPut p.2 i (cTk S (kR R g) g i p (6 + i)) (cTk S (kR R g) g i p (16 + i)))
                     rw [upF_upF] at this
                     exact this
                   · rw [hsu, hbs, SF_ne (by omega)]
                     exact hv2)
                | (have hbs : cBs S (kR R g) g i p = (ups (cTk S (kR R g) g i p) 4 (cTk S (kR R g) g i p 4 + 1), p.2) := by
                     unfold cBs
                     rw [if_neg c28, cif_f c73]
                   refine ih _ _ _ _ (by omega) (by omega) ((hI1.trans E2).trans TF.1) TF.2 ?_ ?_
                   · rw [hsu, hbs]
                     exact (hI3.trans x2).trans SX.upF6
                   · rw [hsu, hbs, SF_upF, nf_ups (by omega) (by omega), hti.1])
          · refine x_1 (p' := 50) hC rfl rfl rfl rfl ?_
            refine x_1 (p' := 51) hC rfl rfl rfl rfl ?_
            refine x_cIV1 (p' := 52) (n := 122) hC rfl rfl rfl rfl rfl (hK.ty) ?_
            refine sp_T_periodOf hK hS hct.1 ?_
            rw [sr.cPer]
            refine x_1 (p' := 53) hC rfl rfl rfl rfl ?_
            refine z_hr0 (p' := 54) hK (by omega) (by omega) hC rfl rfl ?_
            refine x_1 (p' := 55) hC rfl rfl rfl rfl ?_
            refine z_sl (p' := 56) hK hS (by omega) (by omega) hC rfl rfl rfl (by omega) (by omega) ?_
            rw [sr.2.2.1]
            refine x_icge (p' := 57) hC rfl rfl (fun c56 => ?_) (fun c56 => ?_)
            · refine x_1 (p' := 64) hC rfl rfl rfl rfl ?_
              refine x_1 (p' := 65) hC rfl rfl rfl rfl ?_
              refine x_1 (p' := 66) hC rfl rfl rfl rfl ?_
              refine x_1 (p' := 67) hC rfl rfl rfl rfl ?_
              refine z_hr1 (p' := 68) hK (by omega) (by omega) hC rfl rfl ?_
              refine x_cVV3 (p' := 69) (n := 145) hC rfl rfl rfl rfl rfl (hK.ty) ?_
              refine sp_T_takeStamped hI2 ⟨hg.1, hg5⟩ (by omega) hl0 (fun H2 E2 T2 => ?_)
              have x2 : SX S1 (upF S1 6 (cStF (kR R g) (cTow S i g) (SF S1 6 1) i (cEnd (kR R g) 0) (SF S1 6))) := SX.upF6
              have hv2 : SF (upF S1 6 (cStF (kR R g) (cTow S i g) (SF S1 6 1) i (cEnd (kR R g) 0) (SF S1 6))) 6 = cTk S (kR R g) g i p := by
                rw [SF_upF]
                refine Eq.trans ?_ hti.1
                congr 1
                unfold cTk
                rw [if_neg c37, if_neg (by first | exact fun q => q.1 c48 | exact fun q => absurd q.2 (by omega)), hI4]
              generalize upF S1 6 (cStF (kR R g) (cTow S i g) (SF S1 6 1) i (cEnd (kR R g) 0) (SF S1 6)) = S2 at *
              have hK := T2.1
              have hS := T2.2.2.1
              have hB2 := hK.built
              have hH2 := hK.held hg.1 hg5
              have hVH2 := SF_eq hS (n := 15 + 7 * g.toNat) (by omega)
              have hV2 := (SF_eq hS (n := 6) (by decide)).trans hv2
              have hxn := (hI3.trans x2).SF (n := 15 + 7 * g.toNat) (by omega)
              rw [SF_upF, hpi.2.1] at hxn
              rw [hxn] at hVH2
              refine x_1 (p' := 70) hC rfl rfl rfl rfl ?_
              refine z_tr (p' := 71) (n := 6) hK hC rfl rfl rfl rfl ?_
              refine x_1 (p' := 72) hC rfl rfl rfl rfl ?_
              refine x_cIV1 (p' := 73) (n := 84) hC rfl rfl rfl rfl rfl (hB2.ty) ?_
              refine sp_F_has hB2 hV2 (by omega) ?_
              refine x_ifeq (p' := 74) hC rfl rfl (fun c73 => ?_) (fun c73 => ?_)
              · have c73 := b2i_0.mp c73
                have ht4 := hti.2 4 (by omega) (by omega) (by omega)
                refine x_1 (p' := 90) hC rfl rfl rfl rfl ?_
                refine z_tr (p' := 91) (n := 6) hK hC rfl rfl rfl rfl ?_
                refine x_1 (p' := 92) hC rfl rfl rfl rfl ?_
                refine z_fg (p' := 93) (kz := 4) hB2 hV2 hC rfl rfl rfl rfl ?_
                refine x_1 (p' := 94) hC rfl rfl rfl rfl ?_
                refine x_add (p' := 95) hC rfl rfl rfl (⟨by omega, by omega⟩) ?_
                refine x_putI (p' := 96) hC rfl rfl rfl hB2.ty hB2.1 ?_
                rw [show (((4 : Nat) : Int)) = 4 from rfl, sI_sF (by omega) (by omega), hV2]
                have TF := T2.frm (n := 6) (v := ups (cTk S (kR R g) g i p) 4 (cTk S (kR R g) g i p 4 + 1)) (by decide) (by decide)
                refine x_inc3 (p' := 97) hC rfl rfl (⟨by omega, by omega⟩) ?_
                refine x_1 (p' := 17) hC rfl rfl rfl rfl ?_
                first
                  | (refine ih _ H S1 _ (by omega) (by omega) hI1 hI2 ?_ ?_
                     · rw [hsu, hbs]; exact hI3
                     · rw [hsu, hbs]; exact hI4)
                  | (have hbs : cBs S (kR R g) g i p = (cTk S (kR R g) g i p, fPut p.2 i (cTk S (kR R g) g i p (6 + i)) (cTk S (kR R g) g i p (16 + i))) := by
                       unfold cBs
                       rw [if_neg c28, cif_t c73]
                     refine ih _ _ _ _ (by omega) (by omega) ((hI1.trans E2).trans TF.1) TF.2 ?_ ?_
                     · rw [hsu, hbs]
                       have := (hI3.trans x2).upF (n := 15 + 7 * g.toNat) (v := fPut p.2 i (cTk S (kR R g) g i p (6 + i)) (cTk S (kR R g) g i p (16 + i)))
                       rw [upF_upF] at this
                       exact this
                     · rw [hsu, hbs, SF_ne (by omega)]
                       exact hv2)
                  | (have hbs : cBs S (kR R g) g i p = (ups (cTk S (kR R g) g i p) 4 (cTk S (kR R g) g i p 4 + 1), p.2) := by
                       unfold cBs
                       rw [if_neg c28, cif_f c73]
                     refine ih _ _ _ _ (by omega) (by omega) ((hI1.trans E2).trans TF.1) TF.2 ?_ ?_
                     · rw [hsu, hbs]
                       exact (hI3.trans x2).trans SX.upF6
                     · rw [hsu, hbs, SF_upF, nf_ups (by omega) (by omega), hti.1])
              · have c73 := b2i_n0.mp c73
                refine x_1 (p' := 75) hC rfl rfl rfl rfl ?_
                refine z_hr2 (p' := 76) hK (by omega) (by omega) hC rfl rfl ?_
                refine x_1 (p' := 77) hC rfl rfl rfl rfl ?_
                refine x_1 (p' := 78) hC rfl rfl rfl rfl ?_
                refine z_tr (p' := 79) (n := 6) hK hC rfl rfl rfl rfl ?_
                refine z_fr1 (p' := 80) hB2 hC rfl rfl ?_
                refine x_1 (p' := 81) hC rfl rfl rfl rfl ?_
                refine z_fl1 (p' := 82) hB2 hV2 hC rfl rfl rfl (by omega) (by omega) ?_
                refine x_1 (p' := 83) hC rfl rfl rfl rfl ?_
                refine z_tr (p' := 84) (n := 6) hK hC rfl rfl rfl rfl ?_
                refine z_fr2 (p' := 85) hB2 hC rfl rfl ?_
                refine x_1 (p' := 86) hC rfl rfl rfl rfl ?_
                refine z_fl2 (p' := 87) hB2 hV2 hC rfl rfl rfl (by omega) (by omega) ?_
                refine x_cVV3 (p' := 88) (n := 85) hC rfl rfl rfl rfl rfl (hH2.ty) ?_
                refine sp_F_put hH2 (by omega) ?_
                rw [hVH2]
                have TF := T2.frm (n := 15 + 7 * g.toNat) (v := fPut p.2 i (cTk S (kR R g) g i p (6 + i)) (cTk S (kR R g) g i p (16 + i))) (by omega) (sk_h ⟨g.toNat, by omega⟩).2.2.2
                refine x_1 (p' := 96) hC rfl rfl rfl rfl ?_
                refine x_inc3 (p' := 97) hC rfl rfl (⟨by omega, by omega⟩) ?_
                refine x_1 (p' := 17) hC rfl rfl rfl rfl ?_
                first
                  | (refine ih _ H S1 _ (by omega) (by omega) hI1 hI2 ?_ ?_
                     · rw [hsu, hbs]; exact hI3
                     · rw [hsu, hbs]; exact hI4)
                  | (have hbs : cBs S (kR R g) g i p = (cTk S (kR R g) g i p, fPut p.2 i (cTk S (kR R g) g i p (6 + i)) (cTk S (kR R g) g i p (16 + i))) := by
                       unfold cBs
                       rw [if_neg c28, cif_t c73]
                     refine ih _ _ _ _ (by omega) (by omega) ((hI1.trans E2).trans TF.1) TF.2 ?_ ?_
                     · rw [hsu, hbs]
                       have := (hI3.trans x2).upF (n := 15 + 7 * g.toNat) (v := fPut p.2 i (cTk S (kR R g) g i p (6 + i)) (cTk S (kR R g) g i p (16 + i)))
                       rw [upF_upF] at this
                       exact this
                     · rw [hsu, hbs, SF_ne (by omega)]
                       exact hv2)
                  | (have hbs : cBs S (kR R g) g i p = (ups (cTk S (kR R g) g i p) 4 (cTk S (kR R g) g i p 4 + 1), p.2) := by
                       unfold cBs
                       rw [if_neg c28, cif_f c73]
                     refine ih _ _ _ _ (by omega) (by omega) ((hI1.trans E2).trans TF.1) TF.2 ?_ ?_
                     · rw [hsu, hbs]
                       exact (hI3.trans x2).trans SX.upF6
                     · rw [hsu, hbs, SF_upF, nf_ups (by omega) (by omega), hti.1])
            · refine x_1 (p' := 58) hC rfl rfl rfl rfl ?_
              refine x_1 (p' := 59) hC rfl rfl rfl rfl ?_
              refine x_1 (p' := 60) hC rfl rfl rfl rfl ?_
              refine x_1 (p' := 61) hC rfl rfl rfl rfl ?_
              refine x_cVV3 (p' := 62) (n := 146) hC rfl rfl rfl rfl rfl (hK.ty) ?_
              refine sp_T_takeFiltered hI2 ⟨hg.1, hg5⟩ (by omega) hct.1 (by rw [sr.cPer]; exact hct.2) (by rw [sr.2.2.1]; omega) (by rw [hI4, hpi.2.2.2.1]; exact hs0) hl0 (hpk _ _ (by omega) (by omega)) (fun H2 S2 E2 T2 x2 hv2 => ?_)
              have hv2 : SF S2 6 = cTk S (kR R g) g i p := by
                rw [hv2, cFlF_sr sr, hI4]
                unfold cTk
                rw [if_neg c37, if_pos ⟨c48, by omega⟩]
              have hK := T2.1
              have hS := T2.2.2.1
              have hB2 := hK.built
              have hH2 := hK.held hg.1 hg5
              have hVH2 := SF_eq hS (n := 15 + 7 * g.toNat) (by omega)
              have hV2 := (SF_eq hS (n := 6) (by decide)).trans hv2
              have hxn := (hI3.trans x2).SF (n := 15 + 7 * g.toNat) (by omega)
              rw [SF_upF, hpi.2.1] at hxn
              rw [hxn] at hVH2
              refine x_1 (p' := 69) hC rfl rfl rfl rfl ?_
              refine x_1 (p' := 70) hC rfl rfl rfl rfl ?_
              refine z_tr (p' := 71) (n := 6) hK hC rfl rfl rfl rfl ?_
              refine x_1 (p' := 72) hC rfl rfl rfl rfl ?_
              refine x_cIV1 (p' := 73) (n := 84) hC rfl rfl rfl rfl rfl (hB2.ty) ?_
              refine sp_F_has hB2 hV2 (by omega) ?_
              refine x_ifeq (p' := 74) hC rfl rfl (fun c73 => ?_) (fun c73 => ?_)
              · have c73 := b2i_0.mp c73
                have ht4 := hti.2 4 (by omega) (by omega) (by omega)
                refine x_1 (p' := 90) hC rfl rfl rfl rfl ?_
                refine z_tr (p' := 91) (n := 6) hK hC rfl rfl rfl rfl ?_
                refine x_1 (p' := 92) hC rfl rfl rfl rfl ?_
                refine z_fg (p' := 93) (kz := 4) hB2 hV2 hC rfl rfl rfl rfl ?_
                refine x_1 (p' := 94) hC rfl rfl rfl rfl ?_
                refine x_add (p' := 95) hC rfl rfl rfl (⟨by omega, by omega⟩) ?_
                refine x_putI (p' := 96) hC rfl rfl rfl hB2.ty hB2.1 ?_
                rw [show (((4 : Nat) : Int)) = 4 from rfl, sI_sF (by omega) (by omega), hV2]
                have TF := T2.frm (n := 6) (v := ups (cTk S (kR R g) g i p) 4 (cTk S (kR R g) g i p 4 + 1)) (by decide) (by decide)
                refine x_inc3 (p' := 97) hC rfl rfl (⟨by omega, by omega⟩) ?_
                refine x_1 (p' := 17) hC rfl rfl rfl rfl ?_
                first
                  | (refine ih _ H S1 _ (by omega) (by omega) hI1 hI2 ?_ ?_
                     · rw [hsu, hbs]; exact hI3
                     · rw [hsu, hbs]; exact hI4)
                  | (have hbs : cBs S (kR R g) g i p = (cTk S (kR R g) g i p, fPut p.2 i (cTk S (kR R g) g i p (6 + i)) (cTk S (kR R g) g i p (16 + i))) := by
                       unfold cBs
                       rw [if_neg c28, cif_t c73]
                     refine ih _ _ _ _ (by omega) (by omega) ((hI1.trans E2).trans TF.1) TF.2 ?_ ?_
                     · rw [hsu, hbs]
                       have := (hI3.trans x2).upF (n := 15 + 7 * g.toNat) (v := fPut p.2 i (cTk S (kR R g) g i p (6 + i)) (cTk S (kR R g) g i p (16 + i)))
                       rw [upF_upF] at this
                       exact this
                     · rw [hsu, hbs, SF_ne (by omega)]
                       exact hv2)
                  | (have hbs : cBs S (kR R g) g i p = (ups (cTk S (kR R g) g i p) 4 (cTk S (kR R g) g i p 4 + 1), p.2) := by
                       unfold cBs
                       rw [if_neg c28, cif_f c73]
                     refine ih _ _ _ _ (by omega) (by omega) ((hI1.trans E2).trans TF.1) TF.2 ?_ ?_
                     · rw [hsu, hbs]
                       exact (hI3.trans x2).trans SX.upF6
                     · rw [hsu, hbs, SF_upF, nf_ups (by omega) (by omega), hti.1])
              · have c73 := b2i_n0.mp c73
                refine x_1 (p' := 75) hC rfl rfl rfl rfl ?_
                refine z_hr2 (p' := 76) hK (by omega) (by omega) hC rfl rfl ?_
                refine x_1 (p' := 77) hC rfl rfl rfl rfl ?_
                refine x_1 (p' := 78) hC rfl rfl rfl rfl ?_
                refine z_tr (p' := 79) (n := 6) hK hC rfl rfl rfl rfl ?_
                refine z_fr1 (p' := 80) hB2 hC rfl rfl ?_
                refine x_1 (p' := 81) hC rfl rfl rfl rfl ?_
                refine z_fl1 (p' := 82) hB2 hV2 hC rfl rfl rfl (by omega) (by omega) ?_
                refine x_1 (p' := 83) hC rfl rfl rfl rfl ?_
                refine z_tr (p' := 84) (n := 6) hK hC rfl rfl rfl rfl ?_
                refine z_fr2 (p' := 85) hB2 hC rfl rfl ?_
                refine x_1 (p' := 86) hC rfl rfl rfl rfl ?_
                refine z_fl2 (p' := 87) hB2 hV2 hC rfl rfl rfl (by omega) (by omega) ?_
                refine x_cVV3 (p' := 88) (n := 85) hC rfl rfl rfl rfl rfl (hH2.ty) ?_
                refine sp_F_put hH2 (by omega) ?_
                rw [hVH2]
                have TF := T2.frm (n := 15 + 7 * g.toNat) (v := fPut p.2 i (cTk S (kR R g) g i p (6 + i)) (cTk S (kR R g) g i p (16 + i))) (by omega) (sk_h ⟨g.toNat, by omega⟩).2.2.2
                refine x_1 (p' := 96) hC rfl rfl rfl rfl ?_
                refine x_inc3 (p' := 97) hC rfl rfl (⟨by omega, by omega⟩) ?_
                refine x_1 (p' := 17) hC rfl rfl rfl rfl ?_
                first
                  | (refine ih _ H S1 _ (by omega) (by omega) hI1 hI2 ?_ ?_
                     · rw [hsu, hbs]; exact hI3
                     · rw [hsu, hbs]; exact hI4)
                  | (have hbs : cBs S (kR R g) g i p = (cTk S (kR R g) g i p, fPut p.2 i (cTk S (kR R g) g i p (6 + i)) (cTk S (kR R g) g i p (16 + i))) := by
                       unfold cBs
                       rw [if_neg c28, cif_t c73]
                     refine ih _ _ _ _ (by omega) (by omega) ((hI1.trans E2).trans TF.1) TF.2 ?_ ?_
                     · rw [hsu, hbs]
                       have := (hI3.trans x2).upF (n := 15 + 7 * g.toNat) (v := fPut p.2 i (cTk S (kR R g) g i p (6 + i)) (cTk S (kR R g) g i p (16 + i)))
                       rw [upF_upF] at this
                       exact this
                     · rw [hsu, hbs, SF_ne (by omega)]
                       exact hv2)
                  | (have hbs : cBs S (kR R g) g i p = (ups (cTk S (kR R g) g i p) 4 (cTk S (kR R g) g i p 4 + 1), p.2) := by
                       unfold cBs
                       rw [if_neg c28, cif_f c73]
                     refine ih _ _ _ _ (by omega) (by omega) ((hI1.trans E2).trans TF.1) TF.2 ?_ ?_
                     · rw [hsu, hbs]
                       exact (hI3.trans x2).trans SX.upF6
                     · rw [hsu, hbs, SF_upF, nf_ups (by omega) (by omega), hti.1])
        · 
          refine x_1 (p' := 39) hC rfl rfl rfl rfl ?_
          refine x_1 (p' := 40) hC rfl rfl rfl rfl ?_
          refine x_1 (p' := 41) hC rfl rfl rfl rfl ?_
          refine z_hr2 (p' := 42) hK (by omega) (by omega) hC rfl rfl ?_
          refine x_cVV2 (p' := 43) (n := 144) hC rfl rfl rfl rfl rfl (hK.ty) ?_
          refine sp_T_takeHeld hI2 ⟨hg.1, hg5⟩ (by omega) (fun H2 E2 T2 => ?_)
          have x2 : SX S1 (upF S1 6 (cHeF (SF S1 (15 + 7 * g.toNat)) i (SF S1 6))) := SX.upF6
          have hv2 : SF (upF S1 6 (cHeF (SF S1 (15 + 7 * g.toNat)) i (SF S1 6))) 6 = cTk S (kR R g) g i p := by
            rw [SF_upF]
            refine Eq.trans ?_ hti.1
            congr 1
            unfold cTk
            rw [if_pos c37, hxh, hI4]
          generalize upF S1 6 (cHeF (SF S1 (15 + 7 * g.toNat)) i (SF S1 6)) = S2 at *
          have hK := T2.1
          have hS := T2.2.2.1
          have hB2 := hK.built
          have hH2 := hK.held hg.1 hg5
          have hVH2 := SF_eq hS (n := 15 + 7 * g.toNat) (by omega)
          have hV2 := (SF_eq hS (n := 6) (by decide)).trans hv2
          have hxn := (hI3.trans x2).SF (n := 15 + 7 * g.toNat) (by omega)
          rw [SF_upF, hpi.2.1] at hxn
          rw [hxn] at hVH2
          refine x_1 (p' := 69) hC rfl rfl rfl rfl ?_
          refine x_1 (p' := 70) hC rfl rfl rfl rfl ?_
          refine z_tr (p' := 71) (n := 6) hK hC rfl rfl rfl rfl ?_
          refine x_1 (p' := 72) hC rfl rfl rfl rfl ?_
          refine x_cIV1 (p' := 73) (n := 84) hC rfl rfl rfl rfl rfl (hB2.ty) ?_
          refine sp_F_has hB2 hV2 (by omega) ?_
          refine x_ifeq (p' := 74) hC rfl rfl (fun c73 => ?_) (fun c73 => ?_)
          · have c73 := b2i_0.mp c73
            have ht4 := hti.2 4 (by omega) (by omega) (by omega)
            refine x_1 (p' := 90) hC rfl rfl rfl rfl ?_
            refine z_tr (p' := 91) (n := 6) hK hC rfl rfl rfl rfl ?_
            refine x_1 (p' := 92) hC rfl rfl rfl rfl ?_
            refine z_fg (p' := 93) (kz := 4) hB2 hV2 hC rfl rfl rfl rfl ?_
            refine x_1 (p' := 94) hC rfl rfl rfl rfl ?_
            refine x_add (p' := 95) hC rfl rfl rfl (⟨by omega, by omega⟩) ?_
            refine x_putI (p' := 96) hC rfl rfl rfl hB2.ty hB2.1 ?_
            rw [show (((4 : Nat) : Int)) = 4 from rfl, sI_sF (by omega) (by omega), hV2]
            have TF := T2.frm (n := 6) (v := ups (cTk S (kR R g) g i p) 4 (cTk S (kR R g) g i p 4 + 1)) (by decide) (by decide)
            refine x_inc3 (p' := 97) hC rfl rfl (⟨by omega, by omega⟩) ?_
            refine x_1 (p' := 17) hC rfl rfl rfl rfl ?_
            first
              | (refine ih _ H S1 _ (by omega) (by omega) hI1 hI2 ?_ ?_
                 · rw [hsu, hbs]; exact hI3
                 · rw [hsu, hbs]; exact hI4)
              | (have hbs : cBs S (kR R g) g i p = (cTk S (kR R g) g i p, fPut p.2 i (cTk S (kR R g) g i p (6 + i)) (cTk S (kR R g) g i p (16 + i))) := by
                   unfold cBs
                   rw [if_neg c28, cif_t c73]
                 refine ih _ _ _ _ (by omega) (by omega) ((hI1.trans E2).trans TF.1) TF.2 ?_ ?_
                 · rw [hsu, hbs]
                   have := (hI3.trans x2).upF (n := 15 + 7 * g.toNat) (v := fPut p.2 i (cTk S (kR R g) g i p (6 + i)) (cTk S (kR R g) g i p (16 + i)))
                   rw [upF_upF] at this
                   exact this
                 · rw [hsu, hbs, SF_ne (by omega)]
                   exact hv2)
              | (have hbs : cBs S (kR R g) g i p = (ups (cTk S (kR R g) g i p) 4 (cTk S (kR R g) g i p 4 + 1), p.2) := by
                   unfold cBs
                   rw [if_neg c28, cif_f c73]
                 refine ih _ _ _ _ (by omega) (by omega) ((hI1.trans E2).trans TF.1) TF.2 ?_ ?_
                 · rw [hsu, hbs]
                   exact (hI3.trans x2).trans SX.upF6
                 · rw [hsu, hbs, SF_upF, nf_ups (by omega) (by omega), hti.1])
          · have c73 := b2i_n0.mp c73
            refine x_1 (p' := 75) hC rfl rfl rfl rfl ?_
            refine z_hr2 (p' := 76) hK (by omega) (by omega) hC rfl rfl ?_
            refine x_1 (p' := 77) hC rfl rfl rfl rfl ?_
            refine x_1 (p' := 78) hC rfl rfl rfl rfl ?_
            refine z_tr (p' := 79) (n := 6) hK hC rfl rfl rfl rfl ?_
            refine z_fr1 (p' := 80) hB2 hC rfl rfl ?_
            refine x_1 (p' := 81) hC rfl rfl rfl rfl ?_
            refine z_fl1 (p' := 82) hB2 hV2 hC rfl rfl rfl (by omega) (by omega) ?_
            refine x_1 (p' := 83) hC rfl rfl rfl rfl ?_
            refine z_tr (p' := 84) (n := 6) hK hC rfl rfl rfl rfl ?_
            refine z_fr2 (p' := 85) hB2 hC rfl rfl ?_
            refine x_1 (p' := 86) hC rfl rfl rfl rfl ?_
            refine z_fl2 (p' := 87) hB2 hV2 hC rfl rfl rfl (by omega) (by omega) ?_
            refine x_cVV3 (p' := 88) (n := 85) hC rfl rfl rfl rfl rfl (hH2.ty) ?_
            refine sp_F_put hH2 (by omega) ?_
            rw [hVH2]
            have TF := T2.frm (n := 15 + 7 * g.toNat) (v := fPut p.2 i (cTk S (kR R g) g i p (6 + i)) (cTk S (kR R g) g i p (16 + i))) (by omega) (sk_h ⟨g.toNat, by omega⟩).2.2.2
            refine x_1 (p' := 96) hC rfl rfl rfl rfl ?_
            refine x_inc3 (p' := 97) hC rfl rfl (⟨by omega, by omega⟩) ?_
            refine x_1 (p' := 17) hC rfl rfl rfl rfl ?_
            first
              | (refine ih _ H S1 _ (by omega) (by omega) hI1 hI2 ?_ ?_
                 · rw [hsu, hbs]; exact hI3
                 · rw [hsu, hbs]; exact hI4)
              | (have hbs : cBs S (kR R g) g i p = (cTk S (kR R g) g i p, fPut p.2 i (cTk S (kR R g) g i p (6 + i)) (cTk S (kR R g) g i p (16 + i))) := by
                   unfold cBs
                   rw [if_neg c28, cif_t c73]
                 refine ih _ _ _ _ (by omega) (by omega) ((hI1.trans E2).trans TF.1) TF.2 ?_ ?_
                 · rw [hsu, hbs]
                   have := (hI3.trans x2).upF (n := 15 + 7 * g.toNat) (v := fPut p.2 i (cTk S (kR R g) g i p (6 + i)) (cTk S (kR R g) g i p (16 + i)))
                   rw [upF_upF] at this
                   exact this
                 · rw [hsu, hbs, SF_ne (by omega)]
                   exact hv2)
              | (have hbs : cBs S (kR R g) g i p = (ups (cTk S (kR R g) g i p) 4 (cTk S (kR R g) g i p 4 + 1), p.2) := by
                   unfold cBs
                   rw [if_neg c28, cif_f c73]
                 refine ih _ _ _ _ (by omega) (by omega) ((hI1.trans E2).trans TF.1) TF.2 ?_ ?_
                 · rw [hsu, hbs]
                   exact (hI3.trans x2).trans SX.upF6
                 · rw [hsu, hbs, SF_upF, nf_ups (by omega) (by omega), hti.1])
      · have hbs : cBs S (kR R g) g i p = p := by
          unfold cBs
          rw [if_pos c28]
        refine x_1 (p' := 96) hC rfl rfl rfl rfl ?_
        refine x_inc3 (p' := 97) hC rfl rfl (⟨by omega, by omega⟩) ?_
        refine x_1 (p' := 17) hC rfl rfl rfl rfl ?_
        first
          | (refine ih _ H S1 _ (by omega) (by omega) hI1 hI2 ?_ ?_
             · rw [hsu, hbs]; exact hI3
             · rw [hsu, hbs]; exact hI4)
          | (have hbs : cBs S (kR R g) g i p = (cTk S (kR R g) g i p, fPut p.2 i (cTk S (kR R g) g i p (6 + i)) (cTk S (kR R g) g i p (16 + i))) := by
               unfold cBs
               rw [if_neg c28, cif_t c73]
             refine ih _ _ _ _ (by omega) (by omega) ((hI1.trans E2).trans TF.1) TF.2 ?_ ?_
             · rw [hsu, hbs]
               have := (hI3.trans x2).upF (n := 15 + 7 * g.toNat) (v := fPut p.2 i (cTk S (kR R g) g i p (6 + i)) (cTk S (kR R g) g i p (16 + i)))
               rw [upF_upF] at this
               exact this
             · rw [hsu, hbs, SF_ne (by omega)]
               exact hv2)
          | (have hbs : cBs S (kR R g) g i p = (ups (cTk S (kR R g) g i p) 4 (cTk S (kR R g) g i p 4 + 1), p.2) := by
               unfold cBs
               rw [if_neg c28, cif_f c73]
             refine ih _ _ _ _ (by omega) (by omega) ((hI1.trans E2).trans TF.1) TF.2 ?_ ?_
             · rw [hsu, hbs]
               exact (hI3.trans x2).trans SX.upF6
             · rw [hsu, hbs, SF_upF, nf_ups (by omega) (by omega), hti.1])
set_option maxRecDepth 20000 in
set_option maxHeartbeats 2000000 in
theorem sp_T_build {d : Nat} {h : HP} {t : Nat} {o : Nat → Nat} {w : Nat → Nat × Nat} {S : Nat → Int → Int} {R : Nat → List FV} (T : TR t h o w S R) (hc : CI S) {g : Int} (hg : 0 ≤ g ∧ g < cT S 4) (hl0 : 0 < (kR R g).length) (hs0 : 0 ≤ gt (kR R g) 0 2) (hpk : ∀ c u, 0 ≤ u → u < 10 → (cPick (kR R g) c u (cVal (kR R g) c u (cEnd (kR R g) 0)) (cEnd (kR R g) 0)).length ≤ 20) {Q : HP → Prop} (K : ∀ H' S', ExtT h o w t H' o w → TR t H' o w S' R → SX (upF S (15 + 7 * g.toNat) (cB S (kR R g) g (cT S 5)).2) S' → SF S' 6 = (cB S (kR R g) g (cT S 5)).1 → Q H') : CaV (d + 3) 143 [.inr (some t), .inl g] h Q := by
  have hC : cod 143 = c_T_build := rfl
  refine CaV.start rfl ?_
  have h4 := hc.1
  have h5 := hc.2.1
  have hg5 : g < 5 := by omega
  obtain ⟨p1, p2, arr, ad, W, p3, p4⟩ := T.hrow hg.1 hg5
  have hK := T.1
  have hS := T.2.2.1
  have hB := hK.built
  have hV6 := SF_eq hS (n := 6) (by decide)
  refine x_1 (p' := 1) hC rfl rfl rfl rfl ?_
  refine z_tr (p' := 2) (n := 1) hK hC rfl rfl rfl rfl ?_
  refine x_1 (p' := 3) hC rfl rfl rfl rfl ?_
  refine z_hub (p' := 4) hK hC rfl rfl rfl (by omega) (by omega) ?_
  refine x_stA2 (p' := 5) hC rfl rfl rfl ?_
  refine x_1 (p' := 6) hC rfl rfl rfl rfl ?_
  refine z_tr (p' := 7) (n := 6) hK hC rfl rfl rfl rfl ?_
  refine x_1 (p' := 8) hC rfl rfl rfl rfl ?_
  refine x_1 (p' := 9) hC rfl rfl rfl rfl ?_
  refine z_hr1 (p' := 10) hK (by omega) (by omega) hC rfl rfl ?_
  refine z_rf (p' := 11) W hC rfl rfl ?_
  refine x_1 (p' := 12) hC rfl rfl rfl rfl ?_
  refine z_ra (p' := 13) W hC rfl rfl rfl (by omega) (by omega) (fun hF12 hV12 => ?_)
  refine z_fg (p' := 14) (kz := 2) hF12 hV12 hC rfl rfl rfl rfl ?_
  refine x_cVV2 (p' := 15) (n := 83) hC rfl rfl rfl rfl rfl (hB.ty) ?_
  refine sp_F_begin hB ?_
  rw [hV6]
  have TF := T.frm (n := 6) (v := fBeg (SF S 6) g (gt (kR R g) 0 2)) (by decide) (by decide)
  refine x_1 (p' := 16) hC rfl rfl rfl rfl ?_
  refine x_stI3 (p' := 17) hC rfl rfl rfl ?_
  refine lp_T_build T hc hg hl0 hs0 hpk K _ 0 _ _ _ (Nat.lt_succ_self _) (by omega) TF.1 TF.2 ?_ ?_
  · rw [cB_0, upF_self]
    exact SX.upF6
  · rw [cB_0, SF_upF]
    exact nf_fBeg nf_SF
def cMost (S : Nat → Int → Int) : Int := if cT S 7 = 0 then cT S 6 - SF S 6 1 else e_mxF (cT S 8) (cT S 6 - SF S 6 1)
/-- an output put out -/
def cPut (S : Nat → Int → Int) : Nat → Int → Int := upX (upF (upF (upX S 0 8 (cMost S)) 6 (ups (SF S 6) 3 (cT S 6))) (56 + 3 * (cT S 7 % 8).toNat) (ups (SF S 6) 3 (cT S 6))) 0 7 (cT S 7 + 1)
set_option maxRecDepth 20000 in
set_option maxHeartbeats 2000000 in
theorem tl_T_putOut {d : Nat} {h : HP} {t : Nat} {o : Nat → Nat} {w : Nat → Nat × Nat} {S : Nat → Int → Int} {R : Nat → List FV} (T : TR t h o w S R) {z : Option AV} (ho : 0 ≤ cT S 7 ∧ cT S 7 ≤ 2000000000) (hst : 0 ≤ SF S 6 1) {Q : HP → Prop} (K : ∀ H', ExtT h o w t H' o w → TR t H' o w (upX (upF (upF S 6 (ups (SF S 6) 3 (cT S 6))) (56 + 3 * (cT S 7 % 8).toNat) (ups (SF S 6) 3 (cT S 6))) 0 7 (cT S 7 + 1)) R → Q H') : At (d + 2) 142 18 [some (.inr (some t)), z] [] h (fun v h' => v = none ∧ Q h') := by
  have hC : cod 142 = c_T_putOut := rfl
  have hK := T.1
  have hS := T.2.2.1
  have hB := hK.built
  have hV6 := SF_eq hS (n := 6) (by decide)
  have h3 := hK.1
  have hm0 := Int.emod_nonneg (cT S 7) (show (8 : Int) ≠ 0 by decide)
  have hm1 := Int.emod_lt_of_pos (cT S 7) (show (0 : Int) < 8 by decide)
  refine x_1 (p' := 19) hC rfl rfl rfl rfl ?_
  refine z_tr (p' := 20) (n := 6) hK hC rfl rfl rfl rfl ?_
  refine x_1 (p' := 21) hC rfl rfl rfl rfl ?_
  refine z_ti (p' := 22) (kz := 6) hK hS hC rfl rfl rfl rfl ?_
  refine x_putI (p' := 23) hC rfl rfl rfl hB.ty hB.1 ?_
  rw [show (((3 : Nat) : Int)) = 3 from rfl, sI_sF (by omega) (by omega), hV6]
  have T2 := T.frm (n := 6) (v := ups (SF S 6) 3 (cT S 6)) (by decide) (by decide)
  have hK := T2.2.1
  have hS := T2.2.2.2.1
  have hB := hK.built
  have h7b : cT (upF S 6 (ups (SF S 6) 3 (cT S 6))) 7 = cT S 7 := congrFun (upF_ne (by decide) (by decide) (by decide)) 7
  have hnp : nf (ups (SF S 6) 3 (cT S 6)) = ups (SF S 6) 3 (cT S 6) := by rw [nf_ups (by decide) (by decide), nf_SF]
  have hO := hK.outp hm0 hm1
  have hVB := (SF_eq hS (n := 6) (by decide)).trans (SF_upF.trans hnp)
  refine x_1 (p' := 24) hC rfl rfl rfl rfl ?_
  refine z_tr (p' := 25) (n := 5) hK hC rfl rfl rfl rfl ?_
  refine x_1 (p' := 26) hC rfl rfl rfl rfl ?_
  refine z_ti (p' := 27) (kz := 7) hK hS hC rfl rfl rfl rfl ?_
  refine x_1 (p' := 28) hC rfl rfl rfl rfl ?_
  refine x_rem (p' := 29) hC rfl rfl rfl (by decide) ?_
  rw [h7b, wr_tmod (by omega) (by decide) (by decide)]
  refine z_out (p' := 30) hK hC rfl rfl rfl (by omega) (by omega) ?_
  refine x_1 (p' := 31) hC rfl rfl rfl rfl ?_
  refine z_tr (p' := 32) (n := 6) hK hC rfl rfl rfl rfl ?_
  refine x_cVV1 (p' := 33) (n := 82) hC rfl rfl rfl rfl rfl (hO.ty) ?_
  refine sp_F_copyFrom hO hB (by omega) ?_
  rw [hVB]
  have T3 := T2.2.frm (n := 56 + 3 * (cT S 7 % 8).toNat) (v := ups (SF S 6) 3 (cT S 6)) (by omega) (sk_o ⟨(cT S 7 % 8).toNat, by omega⟩)
  have hK := T3.2.1
  have hS := T3.2.2.2.1
  have h7c : cT (upF (upF S 6 (ups (SF S 6) 3 (cT S 6))) (56 + 3 * (cT S 7 % 8).toNat) (ups (SF S 6) 3 (cT S 6))) 7 = cT S 7 := (congrFun (upF_ne (by omega) (by omega) (by omega)) 7).trans h7b
  refine x_1 (p' := 34) hC rfl rfl rfl rfl ?_
  refine x_1 (p' := 35) hC rfl rfl rfl rfl ?_
  refine z_ti (p' := 36) (kz := 7) hK hS hC rfl rfl rfl rfl ?_
  refine x_1 (p' := 37) hC rfl rfl rfl rfl ?_
  refine x_add (p' := 38) hC rfl rfl rfl (by rw [h7c]; exact ⟨by omega, by omega⟩) ?_
  rw [h7c]
  refine x_putI (p' := 39) hC rfl rfl rfl hK.ty (by omega) ?_
  have T4 := T3.2.int (n := 0) (k := 7) (v := cT S 7 + 1) (by decide) (by decide) (by decide)
  rw [Nat.add_zero] at T4
  refine x_ret hC rfl rfl rfl ⟨rfl, ?_⟩
  exact K _ ((T2.1.trans T3.1).trans T4.1) T4.2
set_option maxRecDepth 20000 in
set_option maxHeartbeats 2000000 in
theorem sp_T_putOut {d : Nat} {h : HP} {t : Nat} {o : Nat → Nat} {w : Nat → Nat × Nat} {S : Nat → Int → Int} {R : Nat → List FV} (T : TR t h o w S R) (ho : 0 ≤ cT S 7 ∧ cT S 7 ≤ 2000000000) (htm : 0 ≤ cT S 6 ∧ cT S 6 ≤ 100000) (hst : 0 ≤ SF S 6 1 ∧ SF S 6 1 ≤ 100000) {Q : HP → Prop} (K : ∀ H', ExtT h o w t H' o w → TR t H' o w (cPut S) R → Q H') : CaV (d + 2) 142 [.inr (some t)] h Q := by
  have hC : cod 142 = c_T_putOut := rfl
  refine CaV.start rfl ?_
  have hK := T.1
  have hS := T.2.2.1
  have hB := hK.built
  have hV6 := SF_eq hS (n := 6) (by decide)
  have h3 := hK.1
  have hm0 := Int.emod_nonneg (cT S 7) (show (8 : Int) ≠ 0 by decide)
  have hm1 := Int.emod_lt_of_pos (cT S 7) (show (0 : Int) < 8 by decide)
  have T1 := T.int (n := 0) (k := 8) (v := cMost S) (by decide) (by decide) (by decide)
  rw [Nat.add_zero] at T1
  have h6 : cT (upX S 0 8 (cMost S)) 6 = cT S 6 := by unfold cT upX; rw [if_neg (by decide)]
  have h7 : cT (upX S 0 8 (cMost S)) 7 = cT S 7 := by unfold cT upX; rw [if_neg (by decide)]
  have hs6 : SF (upX S 0 8 (cMost S)) 6 = SF S 6 := by unfold SF; rw [upX_ne (by decide), upX_ne (by decide), upX_ne (by decide)]
  have KK : ∀ z, At (d + 2) 142 18 [some (.inr (some t)), z] [] (sI h t 8 (cMost S)) (fun v h' => v = none ∧ Q h') := fun z => by
    refine tl_T_putOut T1.2 (by rw [h7]; exact ho) (by rw [hs6]; exact hst.1) (fun H2 E2 T2 => K H2 (T1.1.trans E2) ?_)
    rw [h7, hs6, h6] at T2
    exact T2
  refine x_1 (p' := 1) hC rfl rfl rfl rfl ?_
  refine z_ti (p' := 2) (kz := 6) hK hS hC rfl rfl rfl rfl ?_
  refine x_1 (p' := 3) hC rfl rfl rfl rfl ?_
  refine z_tr (p' := 4) (n := 6) hK hC rfl rfl rfl rfl ?_
  refine z_fg (p' := 5) (kz := 1) hB hV6 hC rfl rfl rfl rfl ?_
  refine x_sub (p' := 6) hC rfl rfl rfl (⟨by omega, by omega⟩) ?_
  refine x_stI1 (p' := 7) hC rfl rfl rfl ?_
  refine x_1 (p' := 8) hC rfl rfl rfl rfl ?_
  refine x_1 (p' := 9) hC rfl rfl rfl rfl ?_
  refine z_ti (p' := 10) (kz := 7) hK hS hC rfl rfl rfl rfl ?_
  refine x_ifne (p' := 11) hC rfl rfl (fun c10 => ?_) (fun c10 => ?_)
  · refine x_1 (p' := 14) hC rfl rfl rfl rfl ?_
    refine z_ti (p' := 15) (kz := 8) hK hS hC rfl rfl rfl rfl ?_
    refine x_1 (p' := 16) hC rfl rfl rfl rfl ?_
    refine x_max (p' := 17) hC rfl rfl rfl ?_
    refine x_putI (p' := 18) hC rfl rfl rfl hK.ty (by omega) ?_
    first
      | (rw [show cMost S = cT S 6 - SF S 6 1 by unfold cMost; exact if_pos (by omega)] at KK
         exact KK _)
      | (rw [show cMost S = e_mxF (cT S 8) (cT S 6 - SF S 6 1) by unfold cMost; exact if_neg (by omega)] at KK
         exact KK _)
  · refine x_1 (p' := 12) hC rfl rfl rfl rfl ?_
    refine x_1 (p' := 17) hC rfl rfl rfl rfl ?_
    refine x_putI (p' := 18) hC rfl rfl rfl hK.ty (by omega) ?_
    first
      | (rw [show cMost S = cT S 6 - SF S 6 1 by unfold cMost; exact if_pos (by omega)] at KK
         exact KK _)
      | (rw [show cMost S = e_mxF (cT S 8) (cT S 6 - SF S 6 1) by unfold cMost; exact if_neg (by omega)] at KK
         exact KK _)

/-! THE CLASS: readings filtered, the frame built, put out -/
/-- the rows of ints agree in what the readers read -/
def SR (S S' : Nat → Int → Int) : Prop := Jvm.Pilot.CPhasorTreeLaw_law_r4566_d5a5ba.cT S' = Jvm.Pilot.CPhasorTreeLaw_law_r4566_d5a5ba.cT S ∧ Jvm.Pilot.CPhasorTreeLaw_law_r4566_d5a5ba.cH S' = Jvm.Pilot.CPhasorTreeLaw_law_r4566_d5a5ba.cH S ∧ Jvm.Pilot.CPhasorTreeLaw_law_r4566_d5a5ba.cSe S' = Jvm.Pilot.CPhasorTreeLaw_law_r4566_d5a5ba.cSe S ∧ Jvm.Pilot.CPhasorTreeLaw_law_r4566_d5a5ba.cU S' = Jvm.Pilot.CPhasorTreeLaw_law_r4566_d5a5ba.cU S
theorem SX.sr {S S' : Nat → Int → Int} (x : SX S S') : SR S S' := ⟨x.cT, x.cH, x.cSe, x.cU⟩
theorem SR.trans {S S' S2 : Nat → Int → Int} (a : SR S S') (b : SR S' S2) : SR S S2 := ⟨b.1.trans a.1, b.2.1.trans a.2.1, b.2.2.1.trans a.2.2.1, b.2.2.2.trans a.2.2.2⟩
theorem SR.CI {S S' : Nat → Int → Int} (x : SR S S') (c : CI S) : CI S' := by
  unfold Jvm.Pilot.CPhasorTreeLaw_law_r4566_d5a5ba.CI at *
  rw [x.1, x.2.1, x.2.2.1, x.2.2.2]
  exact c
theorem SR.cPer {S S' : Nat → Int → Int} (x : SR S S') {c : Int} : cPer S' c = cPer S c := by
  unfold Jvm.Pilot.CPhasorTreeLaw_law_r4566_d5a5ba.cPer
  rw [x.2.2.1, x.2.2.2]
theorem SR.cExp {S S' : Nat → Int → Int} (x : SR S S') {g c sl : Int} : cExp S' g c sl = cExp S g c sl := by
  unfold Jvm.Pilot.CPhasorTreeLaw_law_r4566_d5a5ba.cExp
  rw [x.2.2.1, x.cPer]
theorem cTw_sr {S S' : Nat → Int → Int} (x : SR S S') {g : Int} : ∀ n c y, cTw S' g n c y = cTw S g n c y
  | 0, c, y => rfl
  | n + 1, c, y => by rw [cTw, cTw, x.2.1, cTw_sr x n]
theorem SR.cTow {S S' : Nat → Int → Int} (x : SR S S') {u g : Int} : cTow S' u g = cTow S u g := by
  unfold Jvm.Pilot.CPhasorTreeLaw_law_r4566_d5a5ba.cTow
  rw [x.2.2.2, cTw_sr x]
theorem SR.upFh {S : Nat → Int → Int} {g : Int} (h0 : 0 ≤ g) (h1 : g < 5) {v : FV} : SR S (upF S (15 + 7 * g.toNat) v) := by
  refine ⟨?_, ?_, ?_, ?_⟩
  · funext k; exact congrFun (upF_ne (by omega) (by omega) (by omega)) k
  · funext q k; exact congrFun (upF_ne (by omega) (by omega) (by omega)) k
  · funext q k; exact congrFun (upF_ne (by omega) (by omega) (by omega)) k
  · funext q k; exact congrFun (upF_ne (by omega) (by omega) (by omega)) k
theorem SX.upF {A B : Nat → Int → Int} (x : SX A B) {n : Nat} {v : FV} : SX (Jvm.Pilot.CPhasorTreeLaw_law_r4566_d5a5ba.upF A n v) (Jvm.Pilot.CPhasorTreeLaw_law_r4566_d5a5ba.upF B n v) := fun m h1 h2 h3 h4 h5 => by
  funext k
  unfold Jvm.Pilot.CPhasorTreeLaw_law_r4566_d5a5ba.upF
  rw [x m h1 h2 h3 h4 h5]
theorem SX.upX {A B : Nat → Int → Int} (x : SX A B) {n : Nat} {k v : Int} : SX (Jvm.Pilot.CPhasorTreeLaw_law_r4566_d5a5ba.upX A n k v) (Jvm.Pilot.CPhasorTreeLaw_law_r4566_d5a5ba.upX B n k v) := fun m h1 h2 h3 h4 h5 => by
  funext j
  unfold Jvm.Pilot.CPhasorTreeLaw_law_r4566_d5a5ba.upX
  rw [x m h1 h2 h3 h4 h5]
theorem SX.SF {A B : Nat → Int → Int} (x : SX A B) {n : Nat} (hn : 10 < n) : SF B n = SF A n := by
  unfold Jvm.Pilot.CPhasorTreeLaw_law_r4566_d5a5ba.SF
  rw [x n (by omega) (by omega) (by omega) (by omega) (by omega), x (n + 1) (by omega) (by omega) (by omega) (by omega) (by omega), x (n + 2) (by omega) (by omega) (by omega) (by omega) (by omega)]
theorem upF_self {S : Nat → Int → Int} {n : Nat} : upF S n (SF S n) = S := by
  funext m k
  unfold upF SF
  by_cases c0 : m = n ∧ 0 ≤ k ∧ k < 6
  · rw [if_pos c0, if_neg (by omega), if_pos (by omega), c0.1]
  · rw [if_neg c0]
    by_cases c1 : m = n + 1 ∧ 0 ≤ k ∧ k < 10
    · rw [if_pos c1, if_neg (by omega), if_neg (by omega), if_pos (by omega), c1.1, show 6 + k - 6 = k by omega]
    · rw [if_neg c1]
      by_cases c2 : m = n + 2 ∧ 0 ≤ k ∧ k < 10
      · rw [if_pos c2, if_neg (by omega), if_neg (by omega), if_neg (by omega), if_pos (by omega), c2.1, show 16 + k - 16 = k by omega]
      · rw [if_neg c2]
def cM3 (L : List FV) (c u : Int) (ov : Prop) (i : Int) : Prop := cM2 L c u i ∧ (ov → oAnd (gt L i (16 + u)) 1 = 0)
/-- the readings (value, flags) of unit u from child c in the first n frames, valid ones alone or all -/
noncomputable def cPick (L : List FV) (c u : Int) (ov : Prop) (n : Int) : List (Int × Int) := fI n (fun i P => cif (cM3 L c u ov i) (P ++ [(gt L i (6 + u), gt L i (16 + u))]) P) []
theorem cPick_0 {L : List FV} {c u : Int} {ov : Prop} : cPick L c u ov 0 = [] := fI_0
theorem cPick_succ {L : List FV} {c u : Int} {ov : Prop} {n : Int} (hn : 0 ≤ n) : cPick L c u ov (n + 1) = cif (cM3 L c u ov n) (cPick L c u ov n ++ [(gt L n (6 + u), gt L n (16 + u))]) (cPick L c u ov n) := by
  unfold cPick
  rw [fI_succ hn]
theorem cPick_pre {L : List FV} {c u : Int} {ov : Prop} {i : Int} (hi : 0 ≤ i) : ∀ n : Nat, ∃ Q, cPick L c u ov (i + n) = cPick L c u ov i ++ Q
  | 0 => ⟨[], by rw [show i + ((0 : Nat) : Int) = i by omega, List.append_nil]⟩
  | n + 1 => by
    obtain ⟨Q, hQ⟩ := cPick_pre (L := L) (c := c) (u := u) (ov := ov) hi n
    rw [show i + ((n + 1 : Nat) : Int) = i + n + 1 by omega, cPick_succ (by omega), hQ]
    rcases Classical.em (cM3 L c u ov (i + n)) with h | h
    · rw [cif_t h]; exact ⟨Q ++ [_], List.append_assoc _ _ _⟩
    · rw [cif_f h]; exact ⟨Q, rfl⟩
theorem cPick_le {L : List FV} {c u : Int} {ov : Prop} {i e : Int} (hi : 0 ≤ i) (he : i ≤ e) : (cPick L c u ov i).length ≤ (cPick L c u ov e).length ∧ ((cPick L c u ov e).length ≤ (cPick L c u ov i).length → cPick L c u ov e = cPick L c u ov i) := by
  obtain ⟨Q, hQ⟩ := cPick_pre (L := L) (c := c) (u := u) (ov := ov) hi (e - i).toNat
  rw [show i + ((e - i).toNat : Int) = e by omega] at hQ
  rw [hQ, List.length_append]
  refine ⟨by omega, fun h => ?_⟩
  rw [List.length_eq_zero_iff.mp (show Q.length = 0 by omega), List.append_nil]
def pFl (P : List (Int × Int)) : Int := P.foldl (fun a q => oOr a q.2) 64
theorem pFl_snoc {P : List (Int × Int)} {q : Int × Int} : pFl (P ++ [q]) = oOr (pFl P) q.2 := by unfold pFl; rw [List.foldl_append]; rfl
def cFV (S : Nat → Int → Int) (g : Int) (P : List (Int × Int)) : Int := if cSe S g 2 = 1 then wr ((wr (lsum (P.map (fun q => q.1)))).tdiv (P.length : Nat)) else rMed (P.map (fun q => q.1))
noncomputable def cFF (S : Nat → Int → Int) (g c sl : Int) (P : List (Int × Int)) : Int := oOr (pFl P) (cif ((P.length : Nat) < cExp S g c sl) 32 0)
noncomputable def cFlF (S : Nat → Int → Int) (L : List FV) (g c u e : Int) (v : FV) : FV := cif (cPick L c u (cVal L c u e) e = []) v (fPut v u (cFV S g (cPick L c u (cVal L c u e) e)) (cFF S g c (v 1) (cPick L c u (cVal L c u e) e)))
set_option maxRecDepth 20000 in
set_option maxHeartbeats 2000000 in
theorem tl_T_filtered {d : Nat} {h : HP} {t : Nat} {o : Nat → Nat} {w : Nat → Nat × Nat} {S : Nat → Int → Int} {R : Nat → List FV} (T : TR t h o w S R) {u c g : Int} (hg : 0 ≤ g ∧ g < 5) (hu : 0 ≤ u ∧ u < 10) (hcc : 0 ≤ c ∧ c < 15) (hp : 1 ≤ cPer S c ∧ cPer S c ≤ 20) (hpg : 1 ≤ cSe S g 4 ∧ cSe S g 4 ≤ 20) (hst : 0 ≤ SF S 6 1) {P : List (Int × Int)} (hP : P = cPick (kR R g) c u (cVal (kR R g) c u (cEnd (kR R g) 0)) (cEnd (kR R g) 0)) (hlen : P.length ≤ 20) {f : Int → Int} (hs : Srt (lOf f P.length)) (hpm : (lOf f P.length).Perm (P.map (fun q => q.1))) {z10 z11 : Option AV} {Q : HP → Prop} (K : ∀ H' S', ExtT h o w t H' o w → TR t H' o w S' R → SX S S' → SF S' 6 = cFlF S (kR R g) g c u (cEnd (kR R g) 0) (SF S 6) → Q H') : At (d + 2) 146 79 [some (.inr (some t)), some (.inl u), some (.inl c), some (.inl g), some (.inr (some (t + (11 + 7 * g.toNat)))), some (.inl (cEnd (kR R g) 0)), some (.inl (b2i (cVal (kR R g) c u (cEnd (kR R g) 0)))), some (.inl (P.length : Nat)), some (.inl (wr (lsum (P.map (fun q => q.1))))), some (.inl (pFl P)), z10, z11] [] (sIA h (t + 10) f) (fun v h' => v = none ∧ Q h') := by
  have hC : cod 146 = c_T_takeFiltered := rfl
  obtain ⟨p1, p2, arr, ad, W, p3, p4⟩ := T.hrow hg.1 hg.2
  have hK := T.1
  have hS := T.2.2.1
  have hl := W.len
  have hB := hK.built
  have ht10 : hTy h (t + 10) = (100, 20) := hK.2.2.1 10 (by decide)
  have h3 : 3 ≤ t := hK.1
  have hV6 := SF_eq hS (n := 6) (by decide)
  have TA := T.arr (n := 10) (f := f) (by decide) (by decide) (by decide)
  have hS2 := TA.2.2.2.1
  have sx : SX S (upA S 10 f) := SX.upA9 (Or.inr rfl)
  have hV6b : fV (sIA h (t + 10) f) (t + 6) = SF S 6 := by
    rw [← hV6]
    exact fV_same (hI_sIA_ne (by omega)) (hI_sIA_ne (by omega)) (hI_sIA_ne (by omega))
  have hSF2 : SF (upA S 10 f) 6 = SF S 6 := by
    unfold SF
    rw [upA_ne (by decide), upA_ne (by decide), upA_ne (by decide)]
  have hK0 := hK
  have hK := TA.2.1
  have hS := hS2
  refine x_1 (p' := 80) hC rfl rfl rfl rfl ?_
  refine x_ifne (p' := 81) hC rfl rfl (fun c80 => ?_) (fun c80 => ?_)
  · have hpos : 0 < P.length := by omega
    have hne0 : ¬ P = [] := fun q => by rw [q] at hpos; exact absurd hpos (by decide)
    have hmed := med_eq hs hpm hpos
    refine x_1 (p' := 83) hC rfl rfl rfl rfl ?_
    refine x_1 (p' := 84) hC rfl rfl rfl rfl ?_
    refine x_1 (p' := 85) hC rfl rfl rfl rfl ?_
    refine x_1 (p' := 86) hC rfl rfl rfl rfl ?_
    refine x_1 (p' := 87) hC rfl rfl rfl rfl ?_
    refine x_1 (p' := 88) hC rfl rfl rfl rfl ?_
    refine z_tr (p' := 89) (n := 6) hK hC rfl rfl rfl rfl ?_
    refine z_fg (p' := 90) (kz := 1) (show FrP (sIA h (t + 10) f) (t + 6) from hB) hV6b hC rfl rfl rfl rfl ?_
    refine x_cIV3 (p' := 91) (n := 137) hC rfl rfl rfl rfl rfl (hK.ty) ?_
    refine sp_T_expectedOf (h := sIA h (t + 10) f) hK hS2 hcc hg (by rw [sx.cPer]; exact hp) (by rw [sx.cSe]; exact hpg) hst ?_
    rw [sx.cExp]
    refine x_icge (p' := 92) hC rfl rfl (fun c91 => ?_) (fun c91 => ?_)
    · refine x_1 (p' := 95) hC rfl rfl rfl rfl ?_
      refine x_1 (p' := 96) hC rfl rfl rfl rfl ?_
      refine x_stI9 (p' := 97) hC rfl rfl rfl ?_
      refine x_1 (p' := 98) hC rfl rfl rfl rfl ?_
      refine z_hr0 (p' := 99) hK (by omega) (by omega) hC rfl rfl ?_
      refine x_1 (p' := 100) hC rfl rfl rfl rfl ?_
      refine z_sl (p' := 101) (h := sIA h (t + 10) f) hK hS2 (by omega) (by omega) hC rfl rfl rfl (by decide) (by decide) ?_
      rw [sx.cSe]
      refine x_1 (p' := 102) hC rfl rfl rfl rfl ?_
      refine x_icne (p' := 103) hC rfl rfl (fun c102 => ?_) (fun c102 => ?_)
      · refine x_1 (p' := 106) hC rfl rfl rfl rfl ?_
        refine x_stI10 (p' := 107) hC rfl rfl rfl ?_
        refine x_1 (p' := 108) hC rfl rfl rfl rfl ?_
        refine z_tr (p' := 109) (n := 6) hK hC rfl rfl rfl rfl ?_
        refine x_1 (p' := 110) hC rfl rfl rfl rfl ?_
        refine x_1 (p' := 111) hC rfl rfl rfl rfl ?_
        refine x_ifeq (p' := 112) hC rfl rfl (fun _ => ?_) (fun c => absurd c (by decide))
        refine x_1 (p' := 117) hC rfl rfl rfl rfl ?_
        refine z_tr (p' := 118) (n := 10) hK hC rfl rfl rfl rfl ?_
        refine x_1 (p' := 119) hC rfl rfl rfl rfl ?_
        refine x_1 (p' := 120) hC rfl rfl rfl rfl ?_
        refine x_sub (p' := 121) hC rfl rfl rfl (⟨by omega, by omega⟩) ?_
        refine x_1 (p' := 122) hC rfl rfl rfl rfl ?_
        refine x_div (p' := 123) hC rfl rfl rfl (by decide) ?_
        rw [wr_tdiv (by omega) (by omega) (by omega)]
        refine x_iald (p' := 124) hC rfl rfl rfl ht10 (by omega) (by omega) ?_
        rw [hI_sIA, hmed]
        refine x_1 (p' := 125) hC rfl rfl rfl rfl ?_
        refine x_cVV3 (p' := 126) (n := 85) hC rfl rfl rfl rfl rfl (hB.ty) ?_
        refine sp_F_put (h := sIA h (t + 10) f) (a := t + 6) hB hu ?_
        rw [hV6b]
        refine x_ret hC rfl rfl rfl ⟨rfl, ?_⟩
        have TF := TA.2.frm (n := 6) (v := fPut (SF S 6) u (cFV S g P) (cFF S g c (SF S 6 1) P)) (by decide) (by decide)
        have e2 : SF (upF (upA S 10 f) 6 (fPut (SF S 6) u (cFV S g P) (cFF S g c (SF S 6 1) P))) 6 = cFlF S (kR R g) g c u (cEnd (kR R g) 0) (SF S 6) := by
          unfold cFlF
          rw [← hP, cif_f hne0, SF_upF, nf_fPut nf_SF hu]
        have hX := K _ _ (TA.1.trans TF.1) TF.2 (sx.trans SX.upF6) e2
        unfold cFV cFF at hX
        first
          | rw [cif_t (by omega)] at hX
          | rw [cif_f (by omega)] at hX
        first
          | (rw [if_pos (by omega)] at hX)
          | (rw [if_neg (by omega)] at hX)
        try rw [if_pos (by omega)]
        exact hX
      · refine x_1 (p' := 104) hC rfl rfl rfl rfl ?_
        refine x_1 (p' := 106) hC rfl rfl rfl rfl ?_
        refine x_stI10 (p' := 107) hC rfl rfl rfl ?_
        refine x_1 (p' := 108) hC rfl rfl rfl rfl ?_
        refine z_tr (p' := 109) (n := 6) hK hC rfl rfl rfl rfl ?_
        refine x_1 (p' := 110) hC rfl rfl rfl rfl ?_
        refine x_1 (p' := 111) hC rfl rfl rfl rfl ?_
        refine x_ifeq (p' := 112) hC rfl rfl (fun c => absurd c (by decide)) (fun _ => ?_)
        refine x_1 (p' := 113) hC rfl rfl rfl rfl ?_
        refine x_1 (p' := 114) hC rfl rfl rfl rfl ?_
        refine x_cIS2 (p' := 115) (n := 189) hC rfl rfl rfl rfl rfl ?_
        refine sp_P_quotient ?_
        refine x_1 (p' := 124) hC rfl rfl rfl rfl ?_
        refine x_1 (p' := 125) hC rfl rfl rfl rfl ?_
        refine x_cVV3 (p' := 126) (n := 85) hC rfl rfl rfl rfl rfl (hB.ty) ?_
        refine sp_F_put (h := sIA h (t + 10) f) (a := t + 6) hB hu ?_
        rw [hV6b]
        refine x_ret hC rfl rfl rfl ⟨rfl, ?_⟩
        have TF := TA.2.frm (n := 6) (v := fPut (SF S 6) u (cFV S g P) (cFF S g c (SF S 6 1) P)) (by decide) (by decide)
        have e2 : SF (upF (upA S 10 f) 6 (fPut (SF S 6) u (cFV S g P) (cFF S g c (SF S 6 1) P))) 6 = cFlF S (kR R g) g c u (cEnd (kR R g) 0) (SF S 6) := by
          unfold cFlF
          rw [← hP, cif_f hne0, SF_upF, nf_fPut nf_SF hu]
        have hX := K _ _ (TA.1.trans TF.1) TF.2 (sx.trans SX.upF6) e2
        unfold cFV cFF at hX
        first
          | rw [cif_t (by omega)] at hX
          | rw [cif_f (by omega)] at hX
        first
          | (rw [if_pos (by omega)] at hX)
          | (rw [if_neg (by omega)] at hX)
        try rw [if_pos (by omega)]
        exact hX
    · refine x_1 (p' := 93) hC rfl rfl rfl rfl ?_
      refine x_1 (p' := 95) hC rfl rfl rfl rfl ?_
      refine x_1 (p' := 96) hC rfl rfl rfl rfl ?_
      refine x_stI9 (p' := 97) hC rfl rfl rfl ?_
      refine x_1 (p' := 98) hC rfl rfl rfl rfl ?_
      refine z_hr0 (p' := 99) hK (by omega) (by omega) hC rfl rfl ?_
      refine x_1 (p' := 100) hC rfl rfl rfl rfl ?_
      refine z_sl (p' := 101) (h := sIA h (t + 10) f) hK hS2 (by omega) (by omega) hC rfl rfl rfl (by decide) (by decide) ?_
      rw [sx.cSe]
      refine x_1 (p' := 102) hC rfl rfl rfl rfl ?_
      refine x_icne (p' := 103) hC rfl rfl (fun c102 => ?_) (fun c102 => ?_)
      · refine x_1 (p' := 106) hC rfl rfl rfl rfl ?_
        refine x_stI10 (p' := 107) hC rfl rfl rfl ?_
        refine x_1 (p' := 108) hC rfl rfl rfl rfl ?_
        refine z_tr (p' := 109) (n := 6) hK hC rfl rfl rfl rfl ?_
        refine x_1 (p' := 110) hC rfl rfl rfl rfl ?_
        refine x_1 (p' := 111) hC rfl rfl rfl rfl ?_
        refine x_ifeq (p' := 112) hC rfl rfl (fun _ => ?_) (fun c => absurd c (by decide))
        refine x_1 (p' := 117) hC rfl rfl rfl rfl ?_
        refine z_tr (p' := 118) (n := 10) hK hC rfl rfl rfl rfl ?_
        refine x_1 (p' := 119) hC rfl rfl rfl rfl ?_
        refine x_1 (p' := 120) hC rfl rfl rfl rfl ?_
        refine x_sub (p' := 121) hC rfl rfl rfl (⟨by omega, by omega⟩) ?_
        refine x_1 (p' := 122) hC rfl rfl rfl rfl ?_
        refine x_div (p' := 123) hC rfl rfl rfl (by decide) ?_
        rw [wr_tdiv (by omega) (by omega) (by omega)]
        refine x_iald (p' := 124) hC rfl rfl rfl ht10 (by omega) (by omega) ?_
        rw [hI_sIA, hmed]
        refine x_1 (p' := 125) hC rfl rfl rfl rfl ?_
        refine x_cVV3 (p' := 126) (n := 85) hC rfl rfl rfl rfl rfl (hB.ty) ?_
        refine sp_F_put (h := sIA h (t + 10) f) (a := t + 6) hB hu ?_
        rw [hV6b]
        refine x_ret hC rfl rfl rfl ⟨rfl, ?_⟩
        have TF := TA.2.frm (n := 6) (v := fPut (SF S 6) u (cFV S g P) (cFF S g c (SF S 6 1) P)) (by decide) (by decide)
        have e2 : SF (upF (upA S 10 f) 6 (fPut (SF S 6) u (cFV S g P) (cFF S g c (SF S 6 1) P))) 6 = cFlF S (kR R g) g c u (cEnd (kR R g) 0) (SF S 6) := by
          unfold cFlF
          rw [← hP, cif_f hne0, SF_upF, nf_fPut nf_SF hu]
        have hX := K _ _ (TA.1.trans TF.1) TF.2 (sx.trans SX.upF6) e2
        unfold cFV cFF at hX
        first
          | rw [cif_t (by omega)] at hX
          | rw [cif_f (by omega)] at hX
        first
          | (rw [if_pos (by omega)] at hX)
          | (rw [if_neg (by omega)] at hX)
        try rw [if_pos (by omega)]
        exact hX
      · refine x_1 (p' := 104) hC rfl rfl rfl rfl ?_
        refine x_1 (p' := 106) hC rfl rfl rfl rfl ?_
        refine x_stI10 (p' := 107) hC rfl rfl rfl ?_
        refine x_1 (p' := 108) hC rfl rfl rfl rfl ?_
        refine z_tr (p' := 109) (n := 6) hK hC rfl rfl rfl rfl ?_
        refine x_1 (p' := 110) hC rfl rfl rfl rfl ?_
        refine x_1 (p' := 111) hC rfl rfl rfl rfl ?_
        refine x_ifeq (p' := 112) hC rfl rfl (fun c => absurd c (by decide)) (fun _ => ?_)
        refine x_1 (p' := 113) hC rfl rfl rfl rfl ?_
        refine x_1 (p' := 114) hC rfl rfl rfl rfl ?_
        refine x_cIS2 (p' := 115) (n := 189) hC rfl rfl rfl rfl rfl ?_
        refine sp_P_quotient ?_
        refine x_1 (p' := 124) hC rfl rfl rfl rfl ?_
        refine x_1 (p' := 125) hC rfl rfl rfl rfl ?_
        refine x_cVV3 (p' := 126) (n := 85) hC rfl rfl rfl rfl rfl (hB.ty) ?_
        refine sp_F_put (h := sIA h (t + 10) f) (a := t + 6) hB hu ?_
        rw [hV6b]
        refine x_ret hC rfl rfl rfl ⟨rfl, ?_⟩
        have TF := TA.2.frm (n := 6) (v := fPut (SF S 6) u (cFV S g P) (cFF S g c (SF S 6 1) P)) (by decide) (by decide)
        have e2 : SF (upF (upA S 10 f) 6 (fPut (SF S 6) u (cFV S g P) (cFF S g c (SF S 6 1) P))) 6 = cFlF S (kR R g) g c u (cEnd (kR R g) 0) (SF S 6) := by
          unfold cFlF
          rw [← hP, cif_f hne0, SF_upF, nf_fPut nf_SF hu]
        have hX := K _ _ (TA.1.trans TF.1) TF.2 (sx.trans SX.upF6) e2
        unfold cFV cFF at hX
        first
          | rw [cif_t (by omega)] at hX
          | rw [cif_f (by omega)] at hX
        first
          | (rw [if_pos (by omega)] at hX)
          | (rw [if_neg (by omega)] at hX)
        try rw [if_pos (by omega)]
        exact hX
  · have hnil : P = [] := List.length_eq_zero_iff.mp (by omega)
    refine x_ret hC rfl rfl rfl ⟨rfl, ?_⟩
    refine K _ _ TA.1 TA.2 sx ?_
    unfold cFlF
    rw [← hP, cif_t hnil, hSF2]
set_option maxRecDepth 20000 in
theorem lp_T_filtered {d : Nat} {h : HP} {t : Nat} {o : Nat → Nat} {w : Nat → Nat × Nat} {S : Nat → Int → Int} {R : Nat → List FV} (T : TR t h o w S R) {u c g : Int} (hg : 0 ≤ g ∧ g < 5) (hu : 0 ≤ u ∧ u < 10) (hcc : 0 ≤ c ∧ c < 15) (hp : 1 ≤ cPer S c ∧ cPer S c ≤ 20) (hpg : 1 ≤ cSe S g 4 ∧ cSe S g 4 ≤ 20) (hst : 0 ≤ SF S 6 1) (hl0 : 0 < (kR R g).length) (hlen : (cPick (kR R g) c u (cVal (kR R g) c u (cEnd (kR R g) 0)) (cEnd (kR R g) 0)).length ≤ 20) {Q : HP → Prop} (K : ∀ H' S', ExtT h o w t H' o w → TR t H' o w S' R → SX S S' → SF S' 6 = cFlF S (kR R g) g c u (cEnd (kR R g) 0) (SF S 6) → Q H') (k : Nat) : ∀ (i : Int) (f : Int → Int) (P : List (Int × Int)) (z : Option AV), (cEnd (kR R g) 0 - i).toNat < k → (0 ≤ i ∧ i ≤ cEnd (kR R g) 0) → (P = cPick (kR R g) c u (cVal (kR R g) c u (cEnd (kR R g) 0)) i) → (Srt (lOf f P.length) ∧ (lOf f P.length).Perm (P.map (fun q => q.1))) → At (d + 2) 146 26 [some (.inr (some t)), some (.inl u), some (.inl c), some (.inl g), some (.inr (some (t + (11 + 7 * g.toNat)))), some (.inl (cEnd (kR R g) 0)), some (.inl (b2i (cVal (kR R g) c u (cEnd (kR R g) 0)))), some (.inl (P.length : Nat)), some (.inl (wr (lsum (P.map (fun q => q.1))))), some (.inl (pFl P)), some (.inl i), z] [] (sIA h (t + 10) f) (fun v h' => v = none ∧ Q h') := by
  have hC : cod 146 = c_T_takeFiltered := rfl
  induction k with
  | zero =>
    intro i f P z hk
    exact absurd hk (Nat.not_lt_zero _)
  | succ k ih =>
    intro i f P z hk hI0 hI1 hI2
    obtain ⟨p1, p2, arr, ad, W, p3, p4⟩ := T.hrow hg.1 hg.2
    have hK := T.1
    have hS := T.2.2.1
    have hl := W.len
    have hB := hK.built
    have ht10 : hTy h (t + 10) = (100, 20) := hK.2.2.1 10 (by decide)
    have h3 : 3 ≤ t := hK.1
    have hV6 := SF_eq hS (n := 6) (by decide)
    have TA := T.arr (n := 10) (f := f) (by decide) (by decide) (by decide)
    have hS2 := TA.2.2.2.1
    have sx : SX S (upA S 10 f) := SX.upA9 (Or.inr rfl)
    have hV6b : fV (sIA h (t + 10) f) (t + 6) = SF S 6 := by
      rw [← hV6]
      exact fV_same (hI_sIA_ne (by omega)) (hI_sIA_ne (by omega)) (hI_sIA_ne (by omega))
    have hSF2 : SF (upA S 10 f) 6 = SF S 6 := by
      unfold SF
      rw [upA_ne (by decide), upA_ne (by decide), upA_ne (by decide)]
    have hK0 := hK
    have hK := TA.2.1
    have hS := hS2
    have hE := cEnd_rng (L := kR R g) (st := 0) (by omega) (by omega)
    have hle := cPick_le (L := kR R g) (c := c) (u := u) (ov := cVal (kR R g) c u (cEnd (kR R g) 0)) hI0.1 hI0.2
    rw [← hI1] at hle
    have hsu := cPick_succ (L := kR R g) (c := c) (u := u) (ov := cVal (kR R g) c u (cEnd (kR R g) 0)) hI0.1
    rw [← hI1] at hsu
    refine x_1 (p' := 27) hC rfl rfl rfl rfl ?_
    refine x_1 (p' := 28) hC rfl rfl rfl rfl ?_
    refine x_icge (p' := 29) hC rfl rfl (fun c28 => ?_) (fun c28 => ?_)
    · refine tl_T_filtered T hg hu hcc hp hpg hst (P := P) ?_ (by omega) hI2.1 hI2.2 K
      by_cases hie : i = cEnd (kR R g) 0
      · rw [hie] at hI1; exact hI1
      · exact (hle.2 (by omega)).symm
    · refine x_1 (p' := 30) hC rfl rfl rfl rfl ?_
      refine x_1 (p' := 31) hC rfl rfl rfl rfl ?_
      refine x_icge (p' := 32) hC rfl rfl (fun c31 => ?_) (fun c31 => ?_)
      · refine tl_T_filtered T hg hu hcc hp hpg hst (P := P) ?_ (by omega) hI2.1 hI2.2 K
        by_cases hie : i = cEnd (kR R g) 0
        · rw [hie] at hI1; exact hI1
        · exact (hle.2 (by omega)).symm
      · refine x_1 (p' := 33) hC rfl rfl rfl rfl ?_
        refine z_hr1 (p' := 34) hK (by omega) (by omega) hC rfl rfl ?_
        refine z_rf (p' := 35) (W.sIA ht10 (by decide)) hC rfl rfl ?_
        refine x_1 (p' := 36) hC rfl rfl rfl rfl ?_
        refine z_ra (p' := 37) (W.sIA ht10 (by decide)) hC rfl rfl rfl (by omega) (by omega) (fun hF36 hV36 => ?_)
        refine x_stA11 (p' := 38) hC rfl rfl rfl ?_
        refine x_1 (p' := 39) hC rfl rfl rfl rfl ?_
        refine z_fg (p' := 40) (kz := 0) hF36 hV36 hC rfl rfl rfl rfl ?_
        refine x_1 (p' := 41) hC rfl rfl rfl rfl ?_
        refine x_icne (p' := 42) hC rfl rfl (fun c41 => ?_) (fun c41 => ?_)
        · refine x_inc10 (p' := 78) hC rfl rfl (⟨by omega, by omega⟩) ?_
          refine x_1 (p' := 26) hC rfl rfl rfl rfl ?_
          first
            | (have hh := ih (i + 1) f2 (P ++ [(gt (kR R g) i (6 + u), gt (kR R g) i (16 + u))]) (some (.inr (some (ad i.toNat)))) (by omega) (by omega) hsu.symm (by rw [List.length_append, List.map_append]; exact ⟨hs2, hp2⟩)
               rw [List.length_append, List.map_append, pFl_snoc] at hh
               exact hh)
            | (rw [cif_f (fun q => by
                 first
                   | exact c41 q.1.1
                   | exact c45 q.1.2
                   | (have := q.2 (b2i_n0.mp c47); omega))] at hsu
               exact ih _ _ _ _ (by omega) (by omega) hsu.symm hI2)
        · refine x_1 (p' := 43) hC rfl rfl rfl rfl ?_
          refine x_1 (p' := 44) hC rfl rfl rfl rfl ?_
          refine x_cIV1 (p' := 45) (n := 84) hC rfl rfl rfl rfl rfl (hF36.ty) ?_
          refine sp_F_has hF36 hV36 (by omega) ?_
          refine x_ifeq (p' := 46) hC rfl rfl (fun c45 => ?_) (fun c45 => ?_)
          · have c45 := b2i_0.mp c45
            refine x_inc10 (p' := 78) hC rfl rfl (⟨by omega, by omega⟩) ?_
            refine x_1 (p' := 26) hC rfl rfl rfl rfl ?_
            first
              | (have hh := ih (i + 1) f2 (P ++ [(gt (kR R g) i (6 + u), gt (kR R g) i (16 + u))]) (some (.inr (some (ad i.toNat)))) (by omega) (by omega) hsu.symm (by rw [List.length_append, List.map_append]; exact ⟨hs2, hp2⟩)
                 rw [List.length_append, List.map_append, pFl_snoc] at hh
                 exact hh)
              | (rw [cif_f (fun q => by
                   first
                     | exact c41 q.1.1
                     | exact c45 q.1.2
                     | (have := q.2 (b2i_n0.mp c47); omega))] at hsu
                 exact ih _ _ _ _ (by omega) (by omega) hsu.symm hI2)
          · have c45 := b2i_n0.mp c45
            refine x_1 (p' := 47) hC rfl rfl rfl rfl ?_
            refine x_ifeq (p' := 48) hC rfl rfl (fun c47 => ?_) (fun c47 => ?_)
            · have hV2 : ∀ f2, fV (sIA h (t + 10) f2) (ad i.toNat) = gt (kR R g) i := fun f2 => by
                have hF := (W.2.2.2.2.2.1 i.toNat (by have := W.2.2.2.2.1; omega)).2
                rw [← Int.toNat_of_nonneg hI0.1, ← W.2.2.2.2.2.2.2.2 i.toNat (by omega)]
                have hn : ∀ b, hTy h b ≠ (100, 20) → hI (sIA h (t + 10) f2) b = hI h b := fun b hb => hI_sIA_ne (fun e => hb (by rw [e]; exact ht10))
                rw [Int.toNat_of_nonneg hI0.1]
                exact fV_same (hn _ (by rw [hF.2.2.1]; decide)) (hn _ (by rw [hF.2.2.2.1]; decide)) (hn _ (by rw [hF.2.2.2.2.1]; decide))
              have hm3 : cM3 (kR R g) c u (cVal (kR R g) c u (cEnd (kR R g) 0)) i := by
                first
                  | exact ⟨⟨by omega, c45⟩, fun q => absurd q (b2i_0.mp c47)⟩
                  | exact ⟨⟨by omega, c45⟩, fun _ => by omega⟩
              rw [cif_t hm3] at hsu
              refine x_1 (p' := 56) hC rfl rfl rfl rfl ?_
              refine x_1 (p' := 57) hC rfl rfl rfl rfl ?_
              refine z_fr1 (p' := 58) hF36 hC rfl rfl ?_
              refine x_1 (p' := 59) hC rfl rfl rfl rfl ?_
              refine z_fl1 (p' := 60) hF36 hV36 hC rfl rfl rfl (by omega) (by omega) ?_
              refine x_1 (p' := 61) hC rfl rfl rfl rfl ?_
              refine x_cVV2 (p' := 62) (n := 148) hC rfl rfl rfl rfl rfl (hK.ty) ?_
              refine sp_T_insertSorted (h := h) hK0 (by omega) hI2.1 hI2.2 (fun f2 hs2 hp2 => ?_)
              have hW2 : ∀ q, q < (kR R g).length → True := fun _ _ => trivial
              refine x_inc7 (p' := 63) hC rfl rfl (⟨by omega, by omega⟩) ?_
              refine x_1 (p' := 64) hC rfl rfl rfl rfl ?_
              refine x_1 (p' := 65) hC rfl rfl rfl rfl ?_
              refine z_fr1 (p' := 66) (show FrP (sIA h (t + 10) f2) _ from hF36) hC rfl rfl ?_
              refine x_1 (p' := 67) hC rfl rfl rfl rfl ?_
              refine z_fl1 (p' := 68) (show FrP (sIA h (t + 10) f2) _ from hF36) (hV2 f2) hC rfl rfl rfl (by omega) (by omega) ?_
              refine x_1 (p' := 69) hC rfl rfl rfl rfl ?_
              show At _ _ _ (_ :: _ :: _ :: _ :: _ :: _ :: _ :: _ :: _ :: _ :: _ :: _ :: []) (.inl (wr (wr _ + _)) :: []) _ _
              rw [wr_wr, ← lsum_snoc]
              refine x_stI8 (p' := 70) hC rfl rfl rfl ?_
              refine x_1 (p' := 71) hC rfl rfl rfl rfl ?_
              refine x_1 (p' := 72) hC rfl rfl rfl rfl ?_
              refine z_fr2 (p' := 73) (show FrP (sIA h (t + 10) f2) _ from hF36) hC rfl rfl ?_
              refine x_1 (p' := 74) hC rfl rfl rfl rfl ?_
              refine z_fl2 (p' := 75) (show FrP (sIA h (t + 10) f2) _ from hF36) (hV2 f2) hC rfl rfl rfl (by omega) (by omega) ?_
              refine x_1 (p' := 76) hC rfl rfl rfl rfl ?_
              refine x_stI9 (p' := 77) hC rfl rfl rfl ?_
              refine x_inc10 (p' := 78) hC rfl rfl (⟨by omega, by omega⟩) ?_
              refine x_1 (p' := 26) hC rfl rfl rfl rfl ?_
              first
                | (have hh := ih (i + 1) f2 (P ++ [(gt (kR R g) i (6 + u), gt (kR R g) i (16 + u))]) (some (.inr (some (ad i.toNat)))) (by omega) (by omega) hsu.symm (by rw [List.length_append, List.map_append]; exact ⟨hs2, hp2⟩)
                   rw [List.length_append, List.map_append, pFl_snoc] at hh
                   exact hh)
                | (rw [cif_f (fun q => by
                     first
                       | exact c41 q.1.1
                       | exact c45 q.1.2
                       | (have := q.2 (b2i_n0.mp c47); omega))] at hsu
                   exact ih _ _ _ _ (by omega) (by omega) hsu.symm hI2)
            · refine x_1 (p' := 49) hC rfl rfl rfl rfl ?_
              refine z_fr2 (p' := 50) hF36 hC rfl rfl ?_
              refine x_1 (p' := 51) hC rfl rfl rfl rfl ?_
              refine z_fl2 (p' := 52) hF36 hV36 hC rfl rfl rfl (by omega) (by omega) ?_
              refine x_1 (p' := 53) hC rfl rfl rfl rfl ?_
              refine x_1 (p' := 54) hC rfl rfl rfl rfl ?_
              refine x_ifne (p' := 55) hC rfl rfl (fun c54 => ?_) (fun c54 => ?_)
              · refine x_inc10 (p' := 78) hC rfl rfl (⟨by omega, by omega⟩) ?_
                refine x_1 (p' := 26) hC rfl rfl rfl rfl ?_
                first
                  | (have hh := ih (i + 1) f2 (P ++ [(gt (kR R g) i (6 + u), gt (kR R g) i (16 + u))]) (some (.inr (some (ad i.toNat)))) (by omega) (by omega) hsu.symm (by rw [List.length_append, List.map_append]; exact ⟨hs2, hp2⟩)
                     rw [List.length_append, List.map_append, pFl_snoc] at hh
                     exact hh)
                  | (rw [cif_f (fun q => by
                       first
                         | exact c41 q.1.1
                         | exact c45 q.1.2
                         | (have := q.2 (b2i_n0.mp c47); omega))] at hsu
                     exact ih _ _ _ _ (by omega) (by omega) hsu.symm hI2)
              · have hV2 : ∀ f2, fV (sIA h (t + 10) f2) (ad i.toNat) = gt (kR R g) i := fun f2 => by
                  have hF := (W.2.2.2.2.2.1 i.toNat (by have := W.2.2.2.2.1; omega)).2
                  rw [← Int.toNat_of_nonneg hI0.1, ← W.2.2.2.2.2.2.2.2 i.toNat (by omega)]
                  have hn : ∀ b, hTy h b ≠ (100, 20) → hI (sIA h (t + 10) f2) b = hI h b := fun b hb => hI_sIA_ne (fun e => hb (by rw [e]; exact ht10))
                  rw [Int.toNat_of_nonneg hI0.1]
                  exact fV_same (hn _ (by rw [hF.2.2.1]; decide)) (hn _ (by rw [hF.2.2.2.1]; decide)) (hn _ (by rw [hF.2.2.2.2.1]; decide))
                have hm3 : cM3 (kR R g) c u (cVal (kR R g) c u (cEnd (kR R g) 0)) i := by
                  first
                    | exact ⟨⟨by omega, c45⟩, fun q => absurd q (b2i_0.mp c47)⟩
                    | exact ⟨⟨by omega, c45⟩, fun _ => by omega⟩
                rw [cif_t hm3] at hsu
                refine x_1 (p' := 56) hC rfl rfl rfl rfl ?_
                refine x_1 (p' := 57) hC rfl rfl rfl rfl ?_
                refine z_fr1 (p' := 58) hF36 hC rfl rfl ?_
                refine x_1 (p' := 59) hC rfl rfl rfl rfl ?_
                refine z_fl1 (p' := 60) hF36 hV36 hC rfl rfl rfl (by omega) (by omega) ?_
                refine x_1 (p' := 61) hC rfl rfl rfl rfl ?_
                refine x_cVV2 (p' := 62) (n := 148) hC rfl rfl rfl rfl rfl (hK.ty) ?_
                refine sp_T_insertSorted (h := h) hK0 (by omega) hI2.1 hI2.2 (fun f2 hs2 hp2 => ?_)
                have hW2 : ∀ q, q < (kR R g).length → True := fun _ _ => trivial
                refine x_inc7 (p' := 63) hC rfl rfl (⟨by omega, by omega⟩) ?_
                refine x_1 (p' := 64) hC rfl rfl rfl rfl ?_
                refine x_1 (p' := 65) hC rfl rfl rfl rfl ?_
                refine z_fr1 (p' := 66) (show FrP (sIA h (t + 10) f2) _ from hF36) hC rfl rfl ?_
                refine x_1 (p' := 67) hC rfl rfl rfl rfl ?_
                refine z_fl1 (p' := 68) (show FrP (sIA h (t + 10) f2) _ from hF36) (hV2 f2) hC rfl rfl rfl (by omega) (by omega) ?_
                refine x_1 (p' := 69) hC rfl rfl rfl rfl ?_
                show At _ _ _ (_ :: _ :: _ :: _ :: _ :: _ :: _ :: _ :: _ :: _ :: _ :: _ :: []) (.inl (wr (wr _ + _)) :: []) _ _
                rw [wr_wr, ← lsum_snoc]
                refine x_stI8 (p' := 70) hC rfl rfl rfl ?_
                refine x_1 (p' := 71) hC rfl rfl rfl rfl ?_
                refine x_1 (p' := 72) hC rfl rfl rfl rfl ?_
                refine z_fr2 (p' := 73) (show FrP (sIA h (t + 10) f2) _ from hF36) hC rfl rfl ?_
                refine x_1 (p' := 74) hC rfl rfl rfl rfl ?_
                refine z_fl2 (p' := 75) (show FrP (sIA h (t + 10) f2) _ from hF36) (hV2 f2) hC rfl rfl rfl (by omega) (by omega) ?_
                refine x_1 (p' := 76) hC rfl rfl rfl rfl ?_
                refine x_stI9 (p' := 77) hC rfl rfl rfl ?_
                refine x_inc10 (p' := 78) hC rfl rfl (⟨by omega, by omega⟩) ?_
                refine x_1 (p' := 26) hC rfl rfl rfl rfl ?_
                first
                  | (have hh := ih (i + 1) f2 (P ++ [(gt (kR R g) i (6 + u), gt (kR R g) i (16 + u))]) (some (.inr (some (ad i.toNat)))) (by omega) (by omega) hsu.symm (by rw [List.length_append, List.map_append]; exact ⟨hs2, hp2⟩)
                     rw [List.length_append, List.map_append, pFl_snoc] at hh
                     exact hh)
                  | (rw [cif_f (fun q => by
                       first
                         | exact c41 q.1.1
                         | exact c45 q.1.2
                         | (have := q.2 (b2i_n0.mp c47); omega))] at hsu
                     exact ih _ _ _ _ (by omega) (by omega) hsu.symm hI2)
set_option maxRecDepth 20000 in
set_option maxHeartbeats 2000000 in
theorem sp_T_takeFiltered {d : Nat} {h : HP} {t : Nat} {o : Nat → Nat} {w : Nat → Nat × Nat} {S : Nat → Int → Int} {R : Nat → List FV} (T : TR t h o w S R) {u c g : Int} (hg : 0 ≤ g ∧ g < 5) (hu : 0 ≤ u ∧ u < 10) (hcc : 0 ≤ c ∧ c < 15) (hp : 1 ≤ cPer S c ∧ cPer S c ≤ 20) (hpg : 1 ≤ cSe S g 4 ∧ cSe S g 4 ≤ 20) (hst : 0 ≤ SF S 6 1) (hl0 : 0 < (kR R g).length) (hlen : (cPick (kR R g) c u (cVal (kR R g) c u (cEnd (kR R g) 0)) (cEnd (kR R g) 0)).length ≤ 20) {Q : HP → Prop} (K : ∀ H' S', ExtT h o w t H' o w → TR t H' o w S' R → SX S S' → SF S' 6 = cFlF S (kR R g) g c u (cEnd (kR R g) 0) (SF S 6) → Q H') : CaV (d + 2) 146 [.inr (some t), .inl u, .inl c, .inl g] h Q := by
  have hC : cod 146 = c_T_takeFiltered := rfl
  refine CaV.start rfl ?_
  obtain ⟨p1, p2, arr, ad, W, p3, p4⟩ := T.hrow hg.1 hg.2
  have hK := T.1
  have hS := T.2.2.1
  have hl := W.len
  have hB := hK.built
  have ht10 : hTy h (t + 10) = (100, 20) := hK.2.2.1 10 (by decide)
  have h3 : 3 ≤ t := hK.1
  have hV6 := SF_eq hS (n := 6) (by decide)
  refine x_1 (p' := 1) hC rfl rfl rfl rfl ?_
  refine z_tr (p' := 2) (n := 1) hK hC rfl rfl rfl rfl ?_
  refine x_1 (p' := 3) hC rfl rfl rfl rfl ?_
  refine z_hub (p' := 4) hK hC rfl rfl rfl (by omega) (by omega) ?_
  refine x_stA4 (p' := 5) hC rfl rfl rfl ?_
  refine x_1 (p' := 6) hC rfl rfl rfl rfl ?_
  refine z_hr1 (p' := 7) hK (by omega) (by omega) hC rfl rfl ?_
  refine x_1 (p' := 8) hC rfl rfl rfl rfl ?_
  refine x_cIV1 (p' := 9) (n := 95) hC rfl rfl rfl rfl rfl (hK.hrty (by omega) (by omega)) ?_
  refine sp_R_slotEnd W (by omega) ?_
  have hE := cEnd_rng (L := kR R g) (st := 0) (by omega) (by omega)
  refine x_stI5 (p' := 10) hC rfl rfl rfl ?_
  refine x_1 (p' := 11) hC rfl rfl rfl rfl ?_
  refine x_1 (p' := 12) hC rfl rfl rfl rfl ?_
  refine x_1 (p' := 13) hC rfl rfl rfl rfl ?_
  refine x_1 (p' := 14) hC rfl rfl rfl rfl ?_
  refine z_hr1 (p' := 15) hK (by omega) (by omega) hC rfl rfl ?_
  refine x_1 (p' := 16) hC rfl rfl rfl rfl ?_
  refine x_cIV4 (p' := 17) (n := 147) hC rfl rfl rfl rfl rfl (hK.ty) ?_
  refine sp_T_hasValidReading W hu (by omega) ?_
  refine x_stI6 (p' := 18) hC rfl rfl rfl ?_
  refine x_1 (p' := 19) hC rfl rfl rfl rfl ?_
  refine x_stI7 (p' := 20) hC rfl rfl rfl ?_
  refine x_1 (p' := 21) hC rfl rfl rfl rfl ?_
  refine x_stI8 (p' := 22) hC rfl rfl rfl ?_
  refine x_1 (p' := 23) hC rfl rfl rfl rfl ?_
  refine x_stI9 (p' := 24) hC rfl rfl rfl ?_
  refine x_1 (p' := 25) hC rfl rfl rfl rfl ?_
  refine x_stI10 (p' := 26) hC rfl rfl rfl ?_
  have hlp := lp_T_filtered (d := d) T hg hu hcc hp hpg hst hl0 hlen K _ 0 (hI h (t + 10)) [] none (Nat.lt_succ_self _) (by omega) cPick_0.symm ⟨List.Pairwise.nil, List.Perm.refl _⟩
  rw [sIA_self (fun _ => rfl)] at hlp
  exact hlp

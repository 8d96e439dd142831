/-! THE CLASS: what hubs, units and slots are -/
noncomputable def cHubF (S : Nat → Int → Int) (R : Nat → List FV) (g w : Int) : Int := if w = 5 then (if cH S g 3 = -1 then -1000004 else cH S g 3) else if w = 6 then cH S g 4 else if w = 7 then cChildren S g else if w = 8 then cUnder S g else if w = 9 then cSlots (kR R g) else if w = 10 then cH S g 5 else if w = 11 then cH S g 6 else if w = 12 then cH S g 7 else if w = 13 then (if cH S g 8 = -1 then -1000004 else cH S g 8) else if w = 14 then cFrom (R 3) g else cSe S g w
noncomputable def cUnitF (S : Nat → Int → Int) (R : Nat → List FV) (u w : Int) : Int := if w = 0 then cU S u 0 else if w = 1 then cU S u 1 else if w = 2 then (if cU S u 2 = 0 then 0 else 1) else if w = 3 then cU S u 3 else if w = 4 then cFrom (R 3) (5 + u) else if w = 5 then cDl S 5 (cU S u 0) else cH S (cU S u 0) 4 + 1
/-- the frames of a row are in range -/
def RowOK (L : List FV) : Prop := ∀ i : Int, 0 ≤ i → i < (L.length : Nat) → (0 ≤ gt L i 0 ∧ gt L i 0 < 15) ∧ (0 ≤ gt L i 2 ∧ gt L i 2 ≤ 100000) ∧ 0 ≤ gt L i 3 ∧ gt L i 3 ≤ 100000
noncomputable def tlF (b : Int → Int) (L : List FV) (s i : Int) : Int → Int := fun j => if 0 ≤ j ∧ j < 15 then cTal L s i j else b j
theorem tlF_in {b : Int → Int} {L : List FV} {s i j : Int} (h : 0 ≤ j ∧ j < 15) : tlF b L s i j = cTal L s i j := if_pos h
theorem tlF_succ {b : Int → Int} {L : List FV} {s i : Int} (hs : s ≤ i) (hc : 0 ≤ gt L i 0 ∧ gt L i 0 < 15) : ups (tlF b L s i) (gt L i 0) (cTal L s i (gt L i 0) + 1) = tlF b L s (i + 1) := by
  funext j
  unfold ups tlF
  by_cases hj : j = gt L i 0
  · rw [if_pos hj, if_pos (by omega), cTal_succ hs, b2i_t hj.symm, hj]
  · rw [if_neg hj]
    by_cases h2 : 0 ≤ j ∧ j < 15
    · rw [if_pos h2, if_pos h2, cTal_succ hs, b2i_f (fun q => hj q.symm)]; omega
    · rw [if_neg h2, if_neg h2]
theorem cSt_rng {L : List FV} : ∀ (n : Nat) (s : Int), 0 ≤ s → 0 ≤ cSt L n s
  | 0, s, h => h
  | n + 1, s, h => by
    rw [cSt]
    split
    · rename_i hl
      exact cSt_rng n _ (by have := cEnd_rng h hl; omega)
    · exact h
theorem cStart_rng {L : List FV} {x : Int} : cStart L x = -1 ∨ (0 ≤ cStart L x ∧ cStart L x < (L.length : Nat)) := by
  unfold cStart
  have := cSt_rng (L := L) x.toNat 0 (by omega)
  split
  · exact Or.inr ⟨this, by assumption⟩
  · exact Or.inl rfl
set_option maxRecDepth 20000 in
set_option maxHeartbeats 2000000 in
theorem sp_T_hubFact {d : Nat} {h : HP} {t : Nat} {o : Nat → Nat} {w : Nat → Nat × Nat} {S : Nat → Int → Int} {R : Nat → List FV} (T : TR t h o w S R) (hc : CI S) {g v : Int} (hg : 0 ≤ g ∧ g < cT S 4) (hv : 0 ≤ v ∧ v ≤ 14) {Q : Int → HP → Prop} (K : Q (cHubF S R g v) h) : CaI (d + 3) 129 [.inr (some t), .inl g, .inl v] h Q := by
  have hC : cod 129 = c_T_hubFact := rfl
  refine CaI.start rfl ?_
  obtain ⟨p1, p2, arr, ad, W, p3, p4⟩ := T.hrow hg.1 (by have := hc.1; omega)
  have hK := T.1
  have hS := T.2.2.1
  have hl := W.len
  have h4 := hc.1
  obtain ⟨_, _, arr2, ad2, W2, _⟩ := T.way
  refine x_1 (p' := 1) hC rfl rfl rfl rfl ?_
  refine z_tr (p' := 2) (n := 1) hK hC rfl rfl rfl rfl ?_
  refine x_1 (p' := 3) hC rfl rfl rfl rfl ?_
  refine z_hub (p' := 4) hK hC rfl rfl rfl (by omega) (by omega) ?_
  refine x_stA3 (p' := 5) hC rfl rfl rfl ?_
  refine x_1 (p' := 6) hC rfl rfl rfl rfl ?_
  rcases (show (v < 5 ∨ 14 < v) ∨ v = 5 ∨ v = 6 ∨ v = 7 ∨ v = 8 ∨ v = 9 ∨ v = 10 ∨ v = 11 ∨ v = 12 ∨ v = 13 ∨ v = 14 by omega) with htw | htw | htw | htw | htw | htw | htw | htw | htw | htw | htw
  · refine x_tswt (t := 54) rfl 0 (if_pos htw) rfl ?_
    refine x_1 (p' := 55) hC rfl rfl rfl rfl ?_
    refine x_1 (p' := 56) hC rfl rfl rfl rfl ?_
    refine x_1 (p' := 57) hC rfl rfl rfl rfl ?_
    refine x_cIS3 (p' := 58) (n := 187) hC rfl rfl rfl rfl rfl ?_
    refine sp_P_isWithin ?_
    refine x_ifeq (p' := 59) hC rfl rfl (fun c58 => ?_) (fun c58 => ?_)
    · have c58 := b2i_0.mp c58
      refine x_ldc (p' := 65) (v := (-1000001)) hC rfl rfl (by decide) ?_
      refine x_iret hC rfl rfl rfl ⟨_, rfl, ?_⟩
      first
        | (exfalso; omega)
        | (refine eqK K ?_
           unfold cHubF
           repeat (first | rw [if_pos (by omega)] | rw [if_neg (by omega)]))
    · have c58 := b2i_n0.mp c58
      refine x_1 (p' := 60) hC rfl rfl rfl rfl ?_
      refine z_hr0 (p' := 61) hK (by omega) (by omega) hC rfl rfl ?_
      refine x_1 (p' := 62) hC rfl rfl rfl rfl ?_
      refine z_sl (p' := 63) hK hS (by omega) (by omega) hC rfl rfl rfl (by omega) (by omega) ?_
      refine x_1 (p' := 65) hC rfl rfl rfl rfl ?_
      refine x_iret hC rfl rfl rfl ⟨_, rfl, ?_⟩
      first
        | (exfalso; omega)
        | (refine eqK K ?_
           unfold cHubF
           repeat (first | rw [if_pos (by omega)] | rw [if_neg (by omega)]))
  · refine x_tswt (t := 7) rfl 1 ((if_neg (by omega)).trans (by omega)) rfl ?_
    refine x_1 (p' := 8) hC rfl rfl rfl rfl ?_
    refine z_hg (p' := 9) (kz := 3) hK hS (by omega) (by omega) hC rfl rfl rfl rfl ?_
    refine x_1 (p' := 10) hC rfl rfl rfl rfl ?_
    refine x_icne (p' := 11) hC rfl rfl (fun c10 => ?_) (fun c10 => ?_)
    · refine x_1 (p' := 14) hC rfl rfl rfl rfl ?_
      refine z_hg (p' := 15) (kz := 3) hK hS (by omega) (by omega) hC rfl rfl rfl rfl ?_
      refine x_iret hC rfl rfl rfl ⟨_, rfl, ?_⟩
      first
        | (exfalso; omega)
        | (refine eqK K ?_
           unfold cHubF
           repeat (first | rw [if_pos (by omega)] | rw [if_neg (by omega)]))
    · refine x_ldc (p' := 12) (v := (-1000004)) hC rfl rfl (by decide) ?_
      refine x_1 (p' := 15) hC rfl rfl rfl rfl ?_
      refine x_iret hC rfl rfl rfl ⟨_, rfl, ?_⟩
      first
        | (exfalso; omega)
        | (refine eqK K ?_
           unfold cHubF
           repeat (first | rw [if_pos (by omega)] | rw [if_neg (by omega)]))
  · refine x_tswt (t := 16) rfl 2 ((if_neg (by omega)).trans (by omega)) rfl ?_
    refine x_1 (p' := 17) hC rfl rfl rfl rfl ?_
    refine z_hg (p' := 18) (kz := 4) hK hS (by omega) (by omega) hC rfl rfl rfl rfl ?_
    refine x_iret hC rfl rfl rfl ⟨_, rfl, ?_⟩
    first
      | (exfalso; omega)
      | (refine eqK K ?_
         unfold cHubF
         repeat (first | rw [if_pos (by omega)] | rw [if_neg (by omega)]))
  · refine x_tswt (t := 19) rfl 3 ((if_neg (by omega)).trans (by omega)) rfl ?_
    refine x_1 (p' := 20) hC rfl rfl rfl rfl ?_
    refine x_1 (p' := 21) hC rfl rfl rfl rfl ?_
    refine x_cIV1 (p' := 22) (n := 124) hC rfl rfl rfl rfl rfl (hK.ty) ?_
    refine sp_T_childrenOf hK hS hc ?_
    refine x_iret hC rfl rfl rfl ⟨_, rfl, ?_⟩
    first
      | (exfalso; omega)
      | (refine eqK K ?_
         unfold cHubF
         repeat (first | rw [if_pos (by omega)] | rw [if_neg (by omega)]))
  · refine x_tswt (t := 23) rfl 4 ((if_neg (by omega)).trans (by omega)) rfl ?_
    refine x_1 (p' := 24) hC rfl rfl rfl rfl ?_
    refine x_1 (p' := 25) hC rfl rfl rfl rfl ?_
    refine x_cIV1 (p' := 26) (n := 125) hC rfl rfl rfl rfl rfl (hK.ty) ?_
    refine sp_T_unitsUnder hK hS hc (by omega) ?_
    refine x_iret hC rfl rfl rfl ⟨_, rfl, ?_⟩
    first
      | (exfalso; omega)
      | (refine eqK K ?_
         unfold cHubF
         repeat (first | rw [if_pos (by omega)] | rw [if_neg (by omega)]))
  · refine x_tswt (t := 27) rfl 5 ((if_neg (by omega)).trans (by omega)) rfl ?_
    refine x_1 (p' := 28) hC rfl rfl rfl rfl ?_
    refine z_hr1 (p' := 29) hK (by omega) (by omega) hC rfl rfl ?_
    refine x_cIV0 (p' := 30) (n := 97) hC rfl rfl rfl rfl rfl (hK.hrty (by omega) (by omega)) ?_
    refine sp_R_slots W ?_
    refine x_iret hC rfl rfl rfl ⟨_, rfl, ?_⟩
    first
      | (exfalso; omega)
      | (refine eqK K ?_
         unfold cHubF
         repeat (first | rw [if_pos (by omega)] | rw [if_neg (by omega)]))
  · refine x_tswt (t := 31) rfl 6 ((if_neg (by omega)).trans (by omega)) rfl ?_
    refine x_1 (p' := 32) hC rfl rfl rfl rfl ?_
    refine z_hg (p' := 33) (kz := 5) hK hS (by omega) (by omega) hC rfl rfl rfl rfl ?_
    refine x_iret hC rfl rfl rfl ⟨_, rfl, ?_⟩
    first
      | (exfalso; omega)
      | (refine eqK K ?_
         unfold cHubF
         repeat (first | rw [if_pos (by omega)] | rw [if_neg (by omega)]))
  · refine x_tswt (t := 34) rfl 7 ((if_neg (by omega)).trans (by omega)) rfl ?_
    refine x_1 (p' := 35) hC rfl rfl rfl rfl ?_
    refine z_hg (p' := 36) (kz := 6) hK hS (by omega) (by omega) hC rfl rfl rfl rfl ?_
    refine x_iret hC rfl rfl rfl ⟨_, rfl, ?_⟩
    first
      | (exfalso; omega)
      | (refine eqK K ?_
         unfold cHubF
         repeat (first | rw [if_pos (by omega)] | rw [if_neg (by omega)]))
  · refine x_tswt (t := 37) rfl 8 ((if_neg (by omega)).trans (by omega)) rfl ?_
    refine x_1 (p' := 38) hC rfl rfl rfl rfl ?_
    refine z_hg (p' := 39) (kz := 7) hK hS (by omega) (by omega) hC rfl rfl rfl rfl ?_
    refine x_iret hC rfl rfl rfl ⟨_, rfl, ?_⟩
    first
      | (exfalso; omega)
      | (refine eqK K ?_
         unfold cHubF
         repeat (first | rw [if_pos (by omega)] | rw [if_neg (by omega)]))
  · refine x_tswt (t := 40) rfl 9 ((if_neg (by omega)).trans (by omega)) rfl ?_
    refine x_1 (p' := 41) hC rfl rfl rfl rfl ?_
    refine z_hg (p' := 42) (kz := 8) hK hS (by omega) (by omega) hC rfl rfl rfl rfl ?_
    refine x_1 (p' := 43) hC rfl rfl rfl rfl ?_
    refine x_icne (p' := 44) hC rfl rfl (fun c43 => ?_) (fun c43 => ?_)
    · refine x_1 (p' := 47) hC rfl rfl rfl rfl ?_
      refine z_hg (p' := 48) (kz := 8) hK hS (by omega) (by omega) hC rfl rfl rfl rfl ?_
      refine x_iret hC rfl rfl rfl ⟨_, rfl, ?_⟩
      first
        | (exfalso; omega)
        | (refine eqK K ?_
           unfold cHubF
           repeat (first | rw [if_pos (by omega)] | rw [if_neg (by omega)]))
    · refine x_ldc (p' := 45) (v := (-1000004)) hC rfl rfl (by decide) ?_
      refine x_1 (p' := 48) hC rfl rfl rfl rfl ?_
      refine x_iret hC rfl rfl rfl ⟨_, rfl, ?_⟩
      first
        | (exfalso; omega)
        | (refine eqK K ?_
           unfold cHubF
           repeat (first | rw [if_pos (by omega)] | rw [if_neg (by omega)]))
  · refine x_tswt (t := 49) rfl 10 ((if_neg (by omega)).trans (by omega)) rfl ?_
    refine x_1 (p' := 50) hC rfl rfl rfl rfl ?_
    refine z_tr (p' := 51) (n := 3) hK hC rfl rfl rfl rfl ?_
    refine x_1 (p' := 52) hC rfl rfl rfl rfl ?_
    refine x_cIV1 (p' := 53) (n := 94) hC rfl rfl rfl rfl rfl (hK.wty) ?_
    refine sp_R_framesFrom W2 ?_
    refine x_iret hC rfl rfl rfl ⟨_, rfl, ?_⟩
    first
      | (exfalso; omega)
      | (refine eqK K ?_
         unfold cHubF
         repeat (first | rw [if_pos (by omega)] | rw [if_neg (by omega)]))
set_option maxRecDepth 20000 in
set_option maxHeartbeats 2000000 in
theorem sp_T_unitFact {d : Nat} {h : HP} {t : Nat} {o : Nat → Nat} {w : Nat → Nat × Nat} {S : Nat → Int → Int} {R : Nat → List FV} (T : TR t h o w S R) (hc : CI S) {u v : Int} (hu : 0 ≤ u ∧ u < cT S 5) (hv : 0 ≤ v ∧ v ≤ 6) (hd : 0 ≤ cH S (cU S u 0) 4 ∧ cH S (cU S u 0) 4 ≤ 100) {Q : Int → HP → Prop} (K : Q (cUnitF S R u v) h) : CaI (d + 3) 130 [.inr (some t), .inl u, .inl v] h Q := by
  have hC : cod 130 = c_T_unitFact := rfl
  refine CaI.start rfl ?_
  have hK := T.1
  have hS := T.2.2.1
  have h4 := hc.1
  have h5 := hc.2.1
  have hx := hc.2.2.2 u hu.1 hu.2
  obtain ⟨_, _, arr2, ad2, W2, _⟩ := T.way
  refine x_1 (p' := 1) hC rfl rfl rfl rfl ?_
  refine z_tr (p' := 2) (n := 2) hK hC rfl rfl rfl rfl ?_
  refine x_1 (p' := 3) hC rfl rfl rfl rfl ?_
  refine z_unit (p' := 4) hK hC rfl rfl rfl (by omega) (by omega) ?_
  refine x_stA3 (p' := 5) hC rfl rfl rfl ?_
  refine x_1 (p' := 6) hC rfl rfl rfl rfl ?_
  rcases (show (v < 0 ∨ 5 < v) ∨ v = 0 ∨ v = 1 ∨ v = 2 ∨ v = 3 ∨ v = 4 ∨ v = 5 by omega) with htw | htw | htw | htw | htw | htw | htw
  · refine x_tswt (t := 35) rfl 0 (if_pos htw) rfl ?_
    refine x_1 (p' := 36) hC rfl rfl rfl rfl ?_
    refine z_tr (p' := 37) (n := 1) hK hC rfl rfl rfl rfl ?_
    refine x_1 (p' := 38) hC rfl rfl rfl rfl ?_
    refine z_ug (p' := 39) (kz := 0) hK hS (by omega) (by omega) hC rfl rfl rfl rfl ?_
    refine z_hub (p' := 40) hK hC rfl rfl rfl (by omega) (by omega) ?_
    refine z_hg (p' := 41) (kz := 4) hK hS (by omega) (by omega) hC rfl rfl rfl rfl ?_
    refine x_1 (p' := 42) hC rfl rfl rfl rfl ?_
    refine x_add (p' := 43) hC rfl rfl rfl (⟨by omega, by omega⟩) ?_
    refine x_iret hC rfl rfl rfl ⟨_, rfl, ?_⟩
    refine eqK K ?_
    unfold cUnitF
    repeat (first | rw [if_pos (by omega)] | rw [if_neg (by omega)])
  · refine x_tswt (t := 7) rfl 1 ((if_neg (by omega)).trans (by omega)) rfl ?_
    refine x_1 (p' := 8) hC rfl rfl rfl rfl ?_
    refine z_ug (p' := 9) (kz := 0) hK hS (by omega) (by omega) hC rfl rfl rfl rfl ?_
    refine x_iret hC rfl rfl rfl ⟨_, rfl, ?_⟩
    refine eqK K ?_
    unfold cUnitF
    repeat (first | rw [if_pos (by omega)] | rw [if_neg (by omega)])
  · refine x_tswt (t := 10) rfl 2 ((if_neg (by omega)).trans (by omega)) rfl ?_
    refine x_1 (p' := 11) hC rfl rfl rfl rfl ?_
    refine z_ug (p' := 12) (kz := 1) hK hS (by omega) (by omega) hC rfl rfl rfl rfl ?_
    refine x_iret hC rfl rfl rfl ⟨_, rfl, ?_⟩
    refine eqK K ?_
    unfold cUnitF
    repeat (first | rw [if_pos (by omega)] | rw [if_neg (by omega)])
  · refine x_tswt (t := 13) rfl 3 ((if_neg (by omega)).trans (by omega)) rfl ?_
    refine x_1 (p' := 14) hC rfl rfl rfl rfl ?_
    refine z_ug (p' := 15) (kz := 2) hK hS (by omega) (by omega) hC rfl rfl rfl rfl ?_
    refine x_ifeq (p' := 16) hC rfl rfl (fun c15 => ?_) (fun c15 => ?_)
    · refine x_1 (p' := 19) hC rfl rfl rfl rfl ?_
      refine x_iret hC rfl rfl rfl ⟨_, rfl, ?_⟩
      refine eqK K ?_
      unfold cUnitF
      repeat (first | rw [if_pos (by omega)] | rw [if_neg (by omega)])
    · refine x_1 (p' := 17) hC rfl rfl rfl rfl ?_
      refine x_1 (p' := 19) hC rfl rfl rfl rfl ?_
      refine x_iret hC rfl rfl rfl ⟨_, rfl, ?_⟩
      refine eqK K ?_
      unfold cUnitF
      repeat (first | rw [if_pos (by omega)] | rw [if_neg (by omega)])
  · refine x_tswt (t := 20) rfl 4 ((if_neg (by omega)).trans (by omega)) rfl ?_
    refine x_1 (p' := 21) hC rfl rfl rfl rfl ?_
    refine z_ug (p' := 22) (kz := 3) hK hS (by omega) (by omega) hC rfl rfl rfl rfl ?_
    refine x_iret hC rfl rfl rfl ⟨_, rfl, ?_⟩
    refine eqK K ?_
    unfold cUnitF
    repeat (first | rw [if_pos (by omega)] | rw [if_neg (by omega)])
  · refine x_tswt (t := 23) rfl 5 ((if_neg (by omega)).trans (by omega)) rfl ?_
    refine x_1 (p' := 24) hC rfl rfl rfl rfl ?_
    refine z_tr (p' := 25) (n := 3) hK hC rfl rfl rfl rfl ?_
    refine x_1 (p' := 26) hC rfl rfl rfl rfl ?_
    refine x_1 (p' := 27) hC rfl rfl rfl rfl ?_
    refine x_add (p' := 28) hC rfl rfl rfl (⟨by omega, by omega⟩) ?_
    refine x_cIV1 (p' := 29) (n := 94) hC rfl rfl rfl rfl rfl (hK.wty) ?_
    refine sp_R_framesFrom W2 ?_
    refine x_iret hC rfl rfl rfl ⟨_, rfl, ?_⟩
    refine eqK K ?_
    unfold cUnitF
    repeat (first | rw [if_pos (by omega)] | rw [if_neg (by omega)])
  · refine x_tswt (t := 30) rfl 6 ((if_neg (by omega)).trans (by omega)) rfl ?_
    refine x_1 (p' := 31) hC rfl rfl rfl rfl ?_
    refine x_1 (p' := 32) hC rfl rfl rfl rfl ?_
    refine z_ug (p' := 33) (kz := 0) hK hS (by omega) (by omega) hC rfl rfl rfl rfl ?_
    refine x_cIV1 (p' := 34) (n := 128) hC rfl rfl rfl rfl rfl (hK.ty) ?_
    refine sp_T_delayToRoot hK hS hc (by omega) ?_
    refine x_iret hC rfl rfl rfl ⟨_, rfl, ?_⟩
    refine eqK K ?_
    unfold cUnitF
    repeat (first | rw [if_pos (by omega)] | rw [if_neg (by omega)])
set_option maxRecDepth 20000 in
theorem lp_T_comp2 {d : Nat} {h : HP} {t : Nat} {o : Nat → Nat} {w : Nat → Nat × Nat} {S : Nat → Int → Int} {R : Nat → List FV} (T : TR t h o w S R) (hc : CI S) {g s e : Int} (hg : 0 ≤ g ∧ g < cT S 4) (hse : 0 ≤ s ∧ s < e ∧ e ≤ ((kR R g).length : Nat)) (hok : RowOK (kR R g)) (b : Int → Int) {Q : Int → HP → Prop} (K : ∀ H' S', ExtT h o w t H' o w → TR t H' o w S' R → (∀ m, m ≠ 9 → S' m = S m) → Q (b2i (cComp S (kR R g) g s e)) H') (k : Nat) : ∀ (i : Int), (15 - i).toNat < k → (0 ≤ i ∧ i ≤ 15) → (cCompN S (kR R g) g s e i) → At (d + 2) 139 31 [some (.inr (some t)), some (.inl g), some (.inl s), some (.inl e), some (.inr (some (t + (13 + 7 * g.toNat)))), some (.inl i)] [] (sIA h (t + 9) (tlF b (kR R g) s e)) (fun v h' => ∃ x, v = some (.inl x) ∧ Q x h') := by
  have hC : cod 139 = c_T_isComplete := rfl
  induction k with
  | zero =>
    intro i hk
    exact absurd hk (Nat.not_lt_zero _)
  | succ k ih =>
    intro i hk hI0 hI1
    obtain ⟨p1, p2, arr, ad, W, p3, p4⟩ := T.hrow hg.1 (by have := hc.1; omega)
    have hK := T.1
    have hS := T.2.2.1
    have hl := W.len
    have h4 := hc.1
    have ht9 : hTy h (t + 9) = (100, 15) := hK.2.2.1 9 (by decide)
    have h3 : 3 ≤ t := hK.1
    have TA := T.arr (n := 9) (f := tlF b (kR R g) s e) (by decide) (by decide) (by decide)
    have hS := TA.2.2.2.1
    have sx : SX S (upA S 9 (tlF b (kR R g) s e)) := SX.upA9 (Or.inl rfl)
    have hc2 := sx.CI hc
    have hsu := cCompN_succ (S := S) (L := kR R g) (g := g) (s := s) (e := e) hI0.1
    have hgg := hc.2.2.1 g hg.1 hg.2
    have hoks := hok s hse.1 (by omega)
    have hKF := K (sIA h (t + 9) (tlF b (kR R g) s e)) (upA S 9 (tlF b (kR R g) s e)) TA.1 TA.2 (fun m hm => upA_ne hm)
    refine x_1 (p' := 32) hC rfl rfl rfl rfl ?_
    refine x_1 (p' := 33) hC rfl rfl rfl rfl ?_
    refine x_icge (p' := 34) hC rfl rfl (fun c33 => ?_) (fun c33 => ?_)
    · refine x_1 (p' := 58) hC rfl rfl rfl rfl ?_
      refine x_zret hC rfl rfl rfl (by first | omega | exact b2i_01 _) ⟨_, rfl, ?_⟩
      exact eqK hKF (b2i_t (by rw [show i = 15 by omega] at hI1; exact hI1))
    · refine x_1 (p' := 35) hC rfl rfl rfl rfl ?_
      refine x_1 (p' := 36) hC rfl rfl rfl rfl ?_
      refine x_1 (p' := 37) hC rfl rfl rfl rfl ?_
      refine x_cIV2 (p' := 38) (n := 121) hC rfl rfl rfl rfl rfl (hK.ty) ?_
      refine sp_T_isChild (h := sIA h (t + 9) (tlF b (kR R g) s e)) hK hS hc2 (by omega) ?_
      rw [b2i_congr sx.cChild]
      refine x_ifeq (p' := 39) hC rfl rfl (fun c38 => ?_) (fun c38 => ?_)
      · have c38 := b2i_0.mp c38
        refine x_inc5 (p' := 56) hC rfl rfl (⟨by omega, by omega⟩) ?_
        refine x_1 (p' := 31) hC rfl rfl rfl rfl ?_
        refine ih _ (by omega) (by omega) (hsu.mpr ⟨hI1, fun q => ?_⟩)
        first
          | exact absurd q c38
          | exact c52
      · have c38 := b2i_n0.mp c38
        refine x_1 (p' := 40) hC rfl rfl rfl rfl ?_
        refine z_tr (p' := 41) (n := 9) hK hC rfl rfl rfl rfl ?_
        refine x_1 (p' := 42) hC rfl rfl rfl rfl ?_
        refine x_iald (p' := 43) hC rfl rfl rfl ht9 (by omega) (by omega) ?_
        rw [hI_sIA, tlF_in (by omega)]
        refine x_1 (p' := 44) hC rfl rfl rfl rfl ?_
        refine x_1 (p' := 45) hC rfl rfl rfl rfl ?_
        refine x_1 (p' := 46) hC rfl rfl rfl rfl ?_
        refine x_1 (p' := 47) hC rfl rfl rfl rfl ?_
        refine z_rf (p' := 48) (W.sIA ht9 (by decide)) hC rfl rfl ?_
        refine x_1 (p' := 49) hC rfl rfl rfl rfl ?_
        refine z_ra (p' := 50) (W.sIA ht9 (by decide)) hC rfl rfl rfl (by omega) (by omega) (fun hF49 hV49 => ?_)
        refine z_fg (p' := 51) (kz := 2) hF49 hV49 hC rfl rfl rfl rfl ?_
        refine x_cIV3 (p' := 52) (n := 137) hC rfl rfl rfl rfl rfl (hK.ty) ?_
        have hpp := cPer_child hc hI0.1 c38
        refine sp_T_expectedOf (h := sIA h (t + 9) (tlF b (kR R g) s e)) hK hS (by omega) (by omega) (by rw [sx.cPer]; exact hpp) (by rw [sx.cSe]; omega) (by omega) ?_
        rw [sx.cExp]
        refine x_icge (p' := 53) hC rfl rfl (fun c52 => ?_) (fun c52 => ?_)
        · refine x_inc5 (p' := 56) hC rfl rfl (⟨by omega, by omega⟩) ?_
          refine x_1 (p' := 31) hC rfl rfl rfl rfl ?_
          refine ih _ (by omega) (by omega) (hsu.mpr ⟨hI1, fun q => ?_⟩)
          first
            | exact absurd q c38
            | exact c52
        · refine x_1 (p' := 54) hC rfl rfl rfl rfl ?_
          refine x_zret hC rfl rfl rfl (by first | omega | exact b2i_01 _) ⟨_, rfl, ?_⟩
          refine eqK hKF (b2i_f (fun q => ?_))
          have := q i hI0.1 (by omega) c38
          omega
set_option maxRecDepth 20000 in
theorem lp_T_comp {d : Nat} {h : HP} {t : Nat} {o : Nat → Nat} {w : Nat → Nat × Nat} {S : Nat → Int → Int} {R : Nat → List FV} (T : TR t h o w S R) (hc : CI S) {g s e : Int} (hg : 0 ≤ g ∧ g < cT S 4) (hse : 0 ≤ s ∧ s < e ∧ e ≤ ((kR R g).length : Nat)) (hok : RowOK (kR R g)) (b : Int → Int) {Q : Int → HP → Prop} (K : ∀ H' S', ExtT h o w t H' o w → TR t H' o w S' R → (∀ m, m ≠ 9 → S' m = S m) → Q (b2i (cComp S (kR R g) g s e)) H') (k : Nat) : ∀ (i : Int), (e - i).toNat < k → (s ≤ i ∧ i ≤ e) → At (d + 2) 139 12 [some (.inr (some t)), some (.inl g), some (.inl s), some (.inl e), some (.inr (some (t + (13 + 7 * g.toNat)))), some (.inl i)] [] (sIA h (t + 9) (tlF b (kR R g) s i)) (fun v h' => ∃ x, v = some (.inl x) ∧ Q x h') := by
  have hC : cod 139 = c_T_isComplete := rfl
  induction k with
  | zero =>
    intro i hk
    exact absurd hk (Nat.not_lt_zero _)
  | succ k ih =>
    intro i hk hI0
    obtain ⟨p1, p2, arr, ad, W, p3, p4⟩ := T.hrow hg.1 (by have := hc.1; omega)
    have hK := T.1
    have hS := T.2.2.1
    have hl := W.len
    have h4 := hc.1
    have ht9 : hTy h (t + 9) = (100, 15) := hK.2.2.1 9 (by decide)
    have h3 : 3 ≤ t := hK.1
    have hoki := hok i (by omega)
    obtain ⟨n, hn⟩ := Int.eq_ofNat_of_zero_le (show 0 ≤ i - s by omega)
    have htr := cTal_rng (L := kR R g) (s := s) (c := gt (kR R g) i 0) n
    rw [show s + (n : Int) = i by omega] at htr
    refine x_1 (p' := 13) hC rfl rfl rfl rfl ?_
    refine x_1 (p' := 14) hC rfl rfl rfl rfl ?_
    refine x_icge (p' := 15) hC rfl rfl (fun c14 => ?_) (fun c14 => ?_)
    · refine x_1 (p' := 30) hC rfl rfl rfl rfl ?_
      refine x_stI5 (p' := 31) hC rfl rfl rfl ?_
      rw [show i = e by omega]
      exact lp_T_comp2 T hc hg hse hok b K _ 0 (Nat.lt_succ_self _) (by omega) (fun c h0 h1 => absurd h1 (by omega))
    · refine x_1 (p' := 16) hC rfl rfl rfl rfl ?_
      refine z_tr (p' := 17) (n := 9) hK hC rfl rfl rfl rfl ?_
      refine x_1 (p' := 18) hC rfl rfl rfl rfl ?_
      refine z_rf (p' := 19) (W.sIA ht9 (by decide)) hC rfl rfl ?_
      refine x_1 (p' := 20) hC rfl rfl rfl rfl ?_
      refine z_ra (p' := 21) (W.sIA ht9 (by decide)) hC rfl rfl rfl (by omega) (by omega) (fun hF20 hV20 => ?_)
      refine z_fg (p' := 22) (kz := 0) hF20 hV20 hC rfl rfl rfl rfl ?_
      refine x_1 (p' := 23) hC rfl rfl rfl rfl ?_
      have hch := (hoki (by omega)).1
      refine x_iald (p' := 24) hC rfl rfl rfl ht9 (by omega) (by omega) ?_
      rw [hI_sIA, tlF_in (by omega)]
      refine x_1 (p' := 25) hC rfl rfl rfl rfl ?_
      refine x_add (p' := 26) hC rfl rfl rfl (⟨by omega, by omega⟩) ?_
      refine x_iast (p' := 27) hC rfl rfl rfl ht9 (by omega) (by omega) (by omega) ?_
      rw [sI_sIA, tlF_succ (by omega) hch]
      refine x_inc5 (p' := 28) hC rfl rfl (⟨by omega, by omega⟩) ?_
      refine x_1 (p' := 12) hC rfl rfl rfl rfl ?_
      exact ih _ (by omega) (by omega)
set_option maxRecDepth 20000 in
set_option maxHeartbeats 2000000 in
theorem sp_T_isComplete {d : Nat} {h : HP} {t : Nat} {o : Nat → Nat} {w : Nat → Nat × Nat} {S : Nat → Int → Int} {R : Nat → List FV} (T : TR t h o w S R) (hc : CI S) {g s e : Int} (hg : 0 ≤ g ∧ g < cT S 4) (hse : 0 ≤ s ∧ s < e ∧ e ≤ ((kR R g).length : Nat)) (hok : RowOK (kR R g)) {Q : Int → HP → Prop} (K : ∀ H' S', ExtT h o w t H' o w → TR t H' o w S' R → (∀ m, m ≠ 9 → S' m = S m) → Q (b2i (cComp S (kR R g) g s e)) H') : CaI (d + 2) 139 [.inr (some t), .inl g, .inl s, .inl e] h Q := by
  have hC : cod 139 = c_T_isComplete := rfl
  refine CaI.start rfl ?_
  obtain ⟨p1, p2, arr, ad, W, p3, p4⟩ := T.hrow hg.1 (by have := hc.1; omega)
  have hK := T.1
  have hS := T.2.2.1
  have hl := W.len
  have h4 := hc.1
  have ht9 : hTy h (t + 9) = (100, 15) := hK.2.2.1 9 (by decide)
  have h3 : 3 ≤ t := hK.1
  refine x_1 (p' := 1) hC rfl rfl rfl rfl ?_
  refine z_tr (p' := 2) (n := 1) hK hC rfl rfl rfl rfl ?_
  refine x_1 (p' := 3) hC rfl rfl rfl rfl ?_
  refine z_hub (p' := 4) hK hC rfl rfl rfl (by omega) (by omega) ?_
  refine z_hr1 (p' := 5) hK (by omega) (by omega) hC rfl rfl ?_
  refine x_stA4 (p' := 6) hC rfl rfl rfl ?_
  refine x_1 (p' := 7) hC rfl rfl rfl rfl ?_
  refine z_tr (p' := 8) (n := 9) hK hC rfl rfl rfl rfl ?_
  refine x_1 (p' := 9) hC rfl rfl rfl rfl ?_
  refine x_cVS2 (p' := 10) (n := 191) hC rfl rfl rfl rfl rfl ?_
  refine sp_JA_fill ht9 (by omega) (by decide) ?_
  refine x_1 (p' := 11) hC rfl rfl rfl rfl ?_
  refine x_stI5 (p' := 12) hC rfl rfl rfl ?_
  have hlp := lp_T_comp (d := d) T hc hg hse hok (hI h (t + 9)) K _ s (Nat.lt_succ_self _) (by omega)
  rw [show tlF (hI h (t + 9)) (kR R g) s s = fun j => if 0 ≤ j ∧ j < ((15 : Nat) : Int) then 0 else hI h (t + 9) j by
    funext j
    unfold tlF
    rw [cTal_0]
    rfl] at hlp
  exact hlp
def cReady (S : Nat → Int → Int) (R : Nat → List FV) (g : Int) : Prop := 0 < (kR R g).length ∧ (cWait S (kR R g) g 0 (cT S 6) = 0 ∨ cComp S (kR R g) g 0 (cEnd (kR R g) 0))
theorem cWait_sx {S S' : Nat → Int → Int} (x : SX S S') {L : List FV} {g s tm : Int} : cWait S' L g s tm = cWait S L g s tm := by
  unfold cWait
  rw [x.cSe]
set_option maxRecDepth 20000 in
set_option maxHeartbeats 2000000 in
theorem sp_T_isFirstSlotReady {d : Nat} {h : HP} {t : Nat} {o : Nat → Nat} {w : Nat → Nat × Nat} {S : Nat → Int → Int} {R : Nat → List FV} (T : TR t h o w S R) (hc : CI S) {g : Int} (hg : 0 ≤ g ∧ g < cT S 4) (hok : RowOK (kR R g)) (hw : 0 ≤ cSe S g 0 ∧ cSe S g 0 ≤ 40) (htm : 0 ≤ cT S 6 ∧ cT S 6 ≤ 100000) {Q : Int → HP → Prop} (K : ∀ H' S', ExtT h o w t H' o w → TR t H' o w S' R → (∀ m, m ≠ 9 → S' m = S m) → Q (b2i (cReady S R g)) H') : CaI (d + 3) 140 [.inr (some t), .inl g] h Q := by
  have hC : cod 140 = c_T_isFirstSlotReady := rfl
  refine CaI.start rfl ?_
  obtain ⟨p1, p2, arr, ad, W, p3, p4⟩ := T.hrow hg.1 (by have := hc.1; omega)
  have hK := T.1
  have hS := T.2.2.1
  have hl := W.len
  have h4 := hc.1
  refine x_1 (p' := 1) hC rfl rfl rfl rfl ?_
  refine z_tr (p' := 2) (n := 1) hK hC rfl rfl rfl rfl ?_
  refine x_1 (p' := 3) hC rfl rfl rfl rfl ?_
  refine z_hub (p' := 4) hK hC rfl rfl rfl (by omega) (by omega) ?_
  refine z_hr1 (p' := 5) hK (by omega) (by omega) hC rfl rfl ?_
  refine x_stA2 (p' := 6) hC rfl rfl rfl ?_
  refine x_1 (p' := 7) hC rfl rfl rfl rfl ?_
  refine z_rs (p' := 8) W hC rfl rfl ?_
  refine x_ifle (p' := 9) hC rfl rfl (fun c8 => ?_) (fun c8 => ?_)
  · refine x_1 (p' := 29) hC rfl rfl rfl rfl ?_
    refine x_zret hC rfl rfl rfl (by first | omega | exact b2i_01 _) ⟨_, rfl, ?_⟩
    first
      | exact eqK (K h S ExtT.refl T (fun _ _ => rfl)) (b2i_f (fun q => by have := q.1; omega))
      | exact eqK (K h S ExtT.refl T (fun _ _ => rfl)) (b2i_t ⟨by omega, Or.inl c17⟩)
      | exact eqK (K H2 S2 E2 T2 x2) (b2i_t ⟨by omega, Or.inr c25⟩)
      | exact eqK (K H2 S2 E2 T2 x2) (b2i_f (fun q => by
          rcases q.2 with q | q
          · exact c17 q
          · exact c25 q))
  · refine x_1 (p' := 10) hC rfl rfl rfl rfl ?_
    refine z_tr (p' := 11) (n := 1) hK hC rfl rfl rfl rfl ?_
    refine x_1 (p' := 12) hC rfl rfl rfl rfl ?_
    refine z_hub (p' := 13) hK hC rfl rfl rfl (by omega) (by omega) ?_
    refine x_1 (p' := 14) hC rfl rfl rfl rfl ?_
    refine x_1 (p' := 15) hC rfl rfl rfl rfl ?_
    refine z_ti (p' := 16) (kz := 6) hK hS hC rfl rfl rfl rfl ?_
    refine x_cIV2 (p' := 17) (n := 108) hC rfl rfl rfl rfl rfl (hK.hty (by omega) (by omega)) ?_
    have hok0 := hok 0 (by omega) (by omega)
    refine sp_H_waitLeft T (by omega) (by omega) (by omega) (by omega) hw htm ?_
    refine x_ifeq (p' := 18) hC rfl rfl (fun c17 => ?_) (fun c17 => ?_)
    · refine x_1 (p' := 27) hC rfl rfl rfl rfl ?_
      refine x_1 (p' := 29) hC rfl rfl rfl rfl ?_
      refine x_zret hC rfl rfl rfl (by first | omega | exact b2i_01 _) ⟨_, rfl, ?_⟩
      first
        | exact eqK (K h S ExtT.refl T (fun _ _ => rfl)) (b2i_f (fun q => by have := q.1; omega))
        | exact eqK (K h S ExtT.refl T (fun _ _ => rfl)) (b2i_t ⟨by omega, Or.inl c17⟩)
        | exact eqK (K H2 S2 E2 T2 x2) (b2i_t ⟨by omega, Or.inr c25⟩)
        | exact eqK (K H2 S2 E2 T2 x2) (b2i_f (fun q => by
            rcases q.2 with q | q
            · exact c17 q
            · exact c25 q))
    · refine x_1 (p' := 19) hC rfl rfl rfl rfl ?_
      refine x_1 (p' := 20) hC rfl rfl rfl rfl ?_
      refine x_1 (p' := 21) hC rfl rfl rfl rfl ?_
      refine x_1 (p' := 22) hC rfl rfl rfl rfl ?_
      refine x_1 (p' := 23) hC rfl rfl rfl rfl ?_
      refine x_cIV1 (p' := 24) (n := 95) hC rfl rfl rfl rfl rfl (hK.hrty (by omega) (by omega)) ?_
      refine sp_R_slotEnd W (by omega) ?_
      have hE := cEnd_rng (L := kR R g) (st := 0) (by omega) (by omega)
      refine x_cIV3 (p' := 25) (n := 139) hC rfl rfl rfl rfl rfl (hK.ty) ?_
      refine sp_T_isComplete T hc hg (by omega) hok (fun H2 S2 E2 T2 x2 => ?_)
      refine x_ifeq (p' := 26) hC rfl rfl (fun c25 => ?_) (fun c25 => ?_)
      · have c25 := b2i_0.mp c25
        refine x_1 (p' := 29) hC rfl rfl rfl rfl ?_
        refine x_zret hC rfl rfl rfl (by first | omega | exact b2i_01 _) ⟨_, rfl, ?_⟩
        first
          | exact eqK (K h S ExtT.refl T (fun _ _ => rfl)) (b2i_f (fun q => by have := q.1; omega))
          | exact eqK (K h S ExtT.refl T (fun _ _ => rfl)) (b2i_t ⟨by omega, Or.inl c17⟩)
          | exact eqK (K H2 S2 E2 T2 x2) (b2i_t ⟨by omega, Or.inr c25⟩)
          | exact eqK (K H2 S2 E2 T2 x2) (b2i_f (fun q => by
              rcases q.2 with q | q
              · exact c17 q
              · exact c25 q))
      · have c25 := b2i_n0.mp c25
        refine x_1 (p' := 27) hC rfl rfl rfl rfl ?_
        refine x_1 (p' := 29) hC rfl rfl rfl rfl ?_
        refine x_zret hC rfl rfl rfl (by first | omega | exact b2i_01 _) ⟨_, rfl, ?_⟩
        first
          | exact eqK (K h S ExtT.refl T (fun _ _ => rfl)) (b2i_f (fun q => by have := q.1; omega))
          | exact eqK (K h S ExtT.refl T (fun _ _ => rfl)) (b2i_t ⟨by omega, Or.inl c17⟩)
          | exact eqK (K H2 S2 E2 T2 x2) (b2i_t ⟨by omega, Or.inr c25⟩)
          | exact eqK (K H2 S2 E2 T2 x2) (b2i_f (fun q => by
              rcases q.2 with q | q
              · exact c17 q
              · exact c25 q))
noncomputable def cSlotF (S : Nat → Int → Int) (R : Nat → List FV) (g s w : Int) : Int := if s = -1 then -1000004 else if w = 0 then gt (kR R g) s 2 else if w = 1 then gt (kR R g) s 3 else if w = 2 then cEnd (kR R g) s - s else if w = 3 then cExpA S g (gt (kR R g) s 2) else if w = 4 then b2i (cComp S (kR R g) g s (cEnd (kR R g) s)) else cWait S (kR R g) g s (cT S 6)
set_option maxRecDepth 20000 in
set_option maxHeartbeats 2000000 in
theorem sp_T_slotFact {d : Nat} {h : HP} {t : Nat} {o : Nat → Nat} {w : Nat → Nat × Nat} {S : Nat → Int → Int} {R : Nat → List FV} (T : TR t h o w S R) (hc : CI S) {g x v : Int} (hg : 0 ≤ g ∧ g < cT S 4) (hx : 0 ≤ x ∧ x ≤ 2147483647) (hv : 0 ≤ v ∧ v ≤ 5) (hok : RowOK (kR R g)) (hw : 0 ≤ cSe S g 0 ∧ cSe S g 0 ≤ 40) (htm : 0 ≤ cT S 6 ∧ cT S 6 ≤ 100000) {Q : Int → HP → Prop} (K : ∀ H' S', ExtT h o w t H' o w → TR t H' o w S' R → (∀ m, m ≠ 9 → S' m = S m) → Q (cSlotF S R g (cStart (kR R g) x) v) H') : CaI (d + 3) 149 [.inr (some t), .inl g, .inl x, .inl v] h Q := by
  have hC : cod 149 = c_T_slotFact := rfl
  refine CaI.start rfl ?_
  obtain ⟨p1, p2, arr, ad, W, p3, p4⟩ := T.hrow hg.1 (by have := hc.1; omega)
  have hK := T.1
  have hS := T.2.2.1
  have hl := W.len
  have h4 := hc.1
  have hst := cStart_rng (L := kR R g) (x := x)
  refine x_1 (p' := 1) hC rfl rfl rfl rfl ?_
  refine z_tr (p' := 2) (n := 1) hK hC rfl rfl rfl rfl ?_
  refine x_1 (p' := 3) hC rfl rfl rfl rfl ?_
  refine z_hub (p' := 4) hK hC rfl rfl rfl (by omega) (by omega) ?_
  refine x_stA4 (p' := 5) hC rfl rfl rfl ?_
  refine x_1 (p' := 6) hC rfl rfl rfl rfl ?_
  refine z_hr1 (p' := 7) hK (by omega) (by omega) hC rfl rfl ?_
  refine x_1 (p' := 8) hC rfl rfl rfl rfl ?_
  refine x_cIV1 (p' := 9) (n := 96) hC rfl rfl rfl rfl rfl (hK.hrty (by omega) (by omega)) ?_
  refine sp_R_slotStart W hx ?_
  generalize cStart (kR R g) x = q0 at *
  refine x_stI5 (p' := 10) hC rfl rfl rfl ?_
  refine x_1 (p' := 11) hC rfl rfl rfl rfl ?_
  refine x_1 (p' := 12) hC rfl rfl rfl rfl ?_
  refine x_icne (p' := 13) hC rfl rfl (fun c12 => ?_) (fun c12 => ?_)
  · refine x_1 (p' := 16) hC rfl rfl rfl rfl ?_
    refine z_hr1 (p' := 17) hK (by omega) (by omega) hC rfl rfl ?_
    refine x_1 (p' := 18) hC rfl rfl rfl rfl ?_
    refine x_cIV1 (p' := 19) (n := 95) hC rfl rfl rfl rfl rfl (hK.hrty (by omega) (by omega)) ?_
    refine sp_R_slotEnd W (by omega) ?_
    have hE := cEnd_rng (L := kR R g) (st := q0) (by omega) (by omega)
    have hokq := hok q0 (by omega) (by omega)
    refine x_stI6 (p' := 20) hC rfl rfl rfl ?_
    refine x_1 (p' := 21) hC rfl rfl rfl rfl ?_
    refine z_hr1 (p' := 22) hK (by omega) (by omega) hC rfl rfl ?_
    refine z_rf (p' := 23) W hC rfl rfl ?_
    refine x_1 (p' := 24) hC rfl rfl rfl rfl ?_
    refine z_ra (p' := 25) W hC rfl rfl rfl (by omega) (by omega) (fun hF24 hV24 => ?_)
    refine x_stA7 (p' := 26) hC rfl rfl rfl ?_
    refine x_1 (p' := 27) hC rfl rfl rfl rfl ?_
    rcases (show (v < 0 ∨ 4 < v) ∨ v = 0 ∨ v = 1 ∨ v = 2 ∨ v = 3 ∨ v = 4 by omega) with htw | htw | htw | htw | htw | htw
    · refine x_tswt (t := 54) rfl 0 (if_pos htw) rfl ?_
      refine x_1 (p' := 55) hC rfl rfl rfl rfl ?_
      refine x_1 (p' := 56) hC rfl rfl rfl rfl ?_
      refine x_1 (p' := 57) hC rfl rfl rfl rfl ?_
      refine z_ti (p' := 58) (kz := 6) hK hS hC rfl rfl rfl rfl ?_
      refine x_cIV2 (p' := 59) (n := 108) hC rfl rfl rfl rfl rfl (hK.hty (by omega) (by omega)) ?_
      refine sp_H_waitLeft T (by omega) (by omega) (by omega) (by omega) hw htm ?_
      refine x_iret hC rfl rfl rfl ⟨_, rfl, ?_⟩
      first
        | (refine eqK (K h S ExtT.refl T (fun _ _ => rfl)) ?_
           unfold cSlotF
           repeat (first | rw [if_pos (by omega)] | rw [if_neg (by omega)])
           done)
        | (refine eqK (K H2 S2 E2 T2 x2) ?_
           unfold cSlotF
           repeat (first | rw [if_pos (by omega)] | rw [if_neg (by omega)])
           first
             | exact b2i_t c49
             | exact b2i_f c49)
    · refine x_tswt (t := 28) rfl 1 ((if_neg (by omega)).trans (by omega)) rfl ?_
      refine x_1 (p' := 29) hC rfl rfl rfl rfl ?_
      refine z_fg (p' := 30) (kz := 2) hF24 hV24 hC rfl rfl rfl rfl ?_
      refine x_iret hC rfl rfl rfl ⟨_, rfl, ?_⟩
      first
        | (refine eqK (K h S ExtT.refl T (fun _ _ => rfl)) ?_
           unfold cSlotF
           repeat (first | rw [if_pos (by omega)] | rw [if_neg (by omega)])
           done)
        | (refine eqK (K H2 S2 E2 T2 x2) ?_
           unfold cSlotF
           repeat (first | rw [if_pos (by omega)] | rw [if_neg (by omega)])
           first
             | exact b2i_t c49
             | exact b2i_f c49)
    · refine x_tswt (t := 31) rfl 2 ((if_neg (by omega)).trans (by omega)) rfl ?_
      refine x_1 (p' := 32) hC rfl rfl rfl rfl ?_
      refine z_fg (p' := 33) (kz := 3) hF24 hV24 hC rfl rfl rfl rfl ?_
      refine x_iret hC rfl rfl rfl ⟨_, rfl, ?_⟩
      first
        | (refine eqK (K h S ExtT.refl T (fun _ _ => rfl)) ?_
           unfold cSlotF
           repeat (first | rw [if_pos (by omega)] | rw [if_neg (by omega)])
           done)
        | (refine eqK (K H2 S2 E2 T2 x2) ?_
           unfold cSlotF
           repeat (first | rw [if_pos (by omega)] | rw [if_neg (by omega)])
           first
             | exact b2i_t c49
             | exact b2i_f c49)
    · refine x_tswt (t := 34) rfl 3 ((if_neg (by omega)).trans (by omega)) rfl ?_
      refine x_1 (p' := 35) hC rfl rfl rfl rfl ?_
      refine x_1 (p' := 36) hC rfl rfl rfl rfl ?_
      refine x_sub (p' := 37) hC rfl rfl rfl (⟨by omega, by omega⟩) ?_
      refine x_iret hC rfl rfl rfl ⟨_, rfl, ?_⟩
      first
        | (refine eqK (K h S ExtT.refl T (fun _ _ => rfl)) ?_
           unfold cSlotF
           repeat (first | rw [if_pos (by omega)] | rw [if_neg (by omega)])
           done)
        | (refine eqK (K H2 S2 E2 T2 x2) ?_
           unfold cSlotF
           repeat (first | rw [if_pos (by omega)] | rw [if_neg (by omega)])
           first
             | exact b2i_t c49
             | exact b2i_f c49)
    · refine x_tswt (t := 38) rfl 4 ((if_neg (by omega)).trans (by omega)) rfl ?_
      refine x_1 (p' := 39) hC rfl rfl rfl rfl ?_
      refine x_1 (p' := 40) hC rfl rfl rfl rfl ?_
      refine x_1 (p' := 41) hC rfl rfl rfl rfl ?_
      refine z_fg (p' := 42) (kz := 2) hF24 hV24 hC rfl rfl rfl rfl ?_
      refine x_cIV2 (p' := 43) (n := 138) hC rfl rfl rfl rfl rfl (hK.ty) ?_
      refine sp_T_expectedOfAll hK hS hc hg (by omega) ?_
      refine x_iret hC rfl rfl rfl ⟨_, rfl, ?_⟩
      first
        | (refine eqK (K h S ExtT.refl T (fun _ _ => rfl)) ?_
           unfold cSlotF
           repeat (first | rw [if_pos (by omega)] | rw [if_neg (by omega)])
           done)
        | (refine eqK (K H2 S2 E2 T2 x2) ?_
           unfold cSlotF
           repeat (first | rw [if_pos (by omega)] | rw [if_neg (by omega)])
           first
             | exact b2i_t c49
             | exact b2i_f c49)
    · refine x_tswt (t := 44) rfl 5 ((if_neg (by omega)).trans (by omega)) rfl ?_
      refine x_1 (p' := 45) hC rfl rfl rfl rfl ?_
      refine x_1 (p' := 46) hC rfl rfl rfl rfl ?_
      refine x_1 (p' := 47) hC rfl rfl rfl rfl ?_
      refine x_1 (p' := 48) hC rfl rfl rfl rfl ?_
      refine x_cIV3 (p' := 49) (n := 139) hC rfl rfl rfl rfl rfl (hK.ty) ?_
      refine sp_T_isComplete T hc hg (by omega) hok (fun H2 S2 E2 T2 x2 => ?_)
      refine x_ifeq (p' := 50) hC rfl rfl (fun c49 => ?_) (fun c49 => ?_)
      · have c49 := b2i_0.mp c49
        refine x_1 (p' := 53) hC rfl rfl rfl rfl ?_
        refine x_iret hC rfl rfl rfl ⟨_, rfl, ?_⟩
        first
          | (refine eqK (K h S ExtT.refl T (fun _ _ => rfl)) ?_
             unfold cSlotF
             repeat (first | rw [if_pos (by omega)] | rw [if_neg (by omega)])
             done)
          | (refine eqK (K H2 S2 E2 T2 x2) ?_
             unfold cSlotF
             repeat (first | rw [if_pos (by omega)] | rw [if_neg (by omega)])
             first
               | exact b2i_t c49
               | exact b2i_f c49)
      · have c49 := b2i_n0.mp c49
        refine x_1 (p' := 51) hC rfl rfl rfl rfl ?_
        refine x_1 (p' := 53) hC rfl rfl rfl rfl ?_
        refine x_iret hC rfl rfl rfl ⟨_, rfl, ?_⟩
        first
          | (refine eqK (K h S ExtT.refl T (fun _ _ => rfl)) ?_
             unfold cSlotF
             repeat (first | rw [if_pos (by omega)] | rw [if_neg (by omega)])
             done)
          | (refine eqK (K H2 S2 E2 T2 x2) ?_
             unfold cSlotF
             repeat (first | rw [if_pos (by omega)] | rw [if_neg (by omega)])
             first
               | exact b2i_t c49
               | exact b2i_f c49)
  · refine x_ldc (p' := 14) (v := (-1000004)) hC rfl rfl (by decide) ?_
    refine x_iret hC rfl rfl rfl ⟨_, rfl, ?_⟩
    first
      | (refine eqK (K h S ExtT.refl T (fun _ _ => rfl)) ?_
         unfold cSlotF
         repeat (first | rw [if_pos (by omega)] | rw [if_neg (by omega)])
         done)
      | (refine eqK (K H2 S2 E2 T2 x2) ?_
         unfold cSlotF
         repeat (first | rw [if_pos (by omega)] | rw [if_neg (by omega)])
         first
           | exact b2i_t c49
           | exact b2i_f c49)

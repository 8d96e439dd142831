/-! THE CLASS: ticks; hubs and units made and set -/
set_option maxRecDepth 20000 in
theorem lp_T_el2 {d : Nat} {t : Nat} {o : Nat → Nat} {w : Nat → Nat × Nat} {n : Int} {PT : Int → (Nat → Int → Int) → (Nat → List FV) → Prop} {PB : Int → Int → Int → (Nat → Int → Int) → (Nat → List FV) → Prop} (h1 : ∀ i S R, PT i S R → 0 ≤ i → i < n → (0 ≤ cT S 6 ∧ cT S 6 ≤ 100000) ∧ DuOK (upX S 0 6 (cT S 6 + 1)) R ∧ PB i 4 0 (cBr (upX S 0 6 (cT S 6 + 1)) R).1 (cBr (upX S 0 6 (cT S 6 + 1)) R).2) (h2 : ∀ i dd hh S R, PB i dd hh S R → (1 ≤ cT S 4 ∧ cT S 4 ≤ 5) ∧ 0 ≤ hh ∧ hh ≤ cT S 4) (h3 : ∀ i dd hh S R, PB i dd hh S R → 0 ≤ dd → hh < cT S 4 → cH S hh 4 = dd → ∀ {h : HP} {o : Nat → Nat} {w : Nat → Nat × Nat} {Q : HP → Prop}, TR t h o w S R → (∀ H' o' w' S' R', ExtT h o w t H' o' w' → TR t H' o' w' S' R' → PB i dd (hh + 1) S' R' → Q H') → CaV (d + 4) 141 [.inr (some t), .inl hh] h Q) (h4 : ∀ i dd hh S R, PB i dd hh S R → hh < cT S 4 → ¬ cH S hh 4 = dd → PB i dd (hh + 1) S R) (h5 : ∀ i dd S R, PB i dd (cT S 4) S R → PB i (dd - 1) 0 S R) (h6 : ∀ i S R, PB i (-1) 0 S R → PT (i + 1) S R) {i : Int} (hi : 0 ≤ i ∧ i < n ∧ n ≤ 100000) {h : HP} {Q : HP → Prop} (KN : ∀ H' o' w' S' R' z, ExtT h o w t H' o' w' → TR t H' o' w' S' R' → PT (i + 1) S' R' → At (d + 5) 134 2 [some (.inr (some t)), some (.inl n), some (.inl (i + 1)), some (.inl (-1)), z] [] H' (fun v h' => v = none ∧ Q h')) (k : Nat) : ∀ (dd : Int) (hh : Int) (H : HP) (o1 : Nat → Nat) (w1 : Nat → Nat × Nat) (S : Nat → Int → Int) (R : Nat → List FV), (dd * 10 + 5 - hh).toNat < k → (0 ≤ dd ∧ dd ≤ 4) → (PB i dd hh S R) → (ExtT h o w t H o1 w1) → (TR t H o1 w1 S R) → At (d + 5) 134 19 [some (.inr (some t)), some (.inl n), some (.inl i), some (.inl dd), some (.inl hh)] [] H (fun v h' => v = none ∧ Q h') := by
  have hC : cod 134 = c_T_elapse := rfl
  induction k with
  | zero =>
    intro dd hh H o1 w1 S R hk
    exact absurd hk (Nat.not_lt_zero _)
  | succ k ih =>
    intro dd hh H o1 w1 S R hk hI0 hI1 hI2 hI3
    obtain ⟨h40, hh0, hh1⟩ := h2 _ _ _ _ _ hI1
    have hK := hI3.1
    have hS := hI3.2.2.1
    have hEE : cT S 4 ≤ hh → PB i (dd - 1) 0 S R := fun q => h5 _ _ _ _ (by rw [show cT S 4 = hh by omega]; exact hI1)
    refine x_1 (p' := 20) hC rfl rfl rfl rfl ?_
    refine x_1 (p' := 21) hC rfl rfl rfl rfl ?_
    refine z_ti (p' := 22) (kz := 4) hK hS hC rfl rfl rfl rfl ?_
    refine x_icge (p' := 23) hC rfl rfl (fun c22 => ?_) (fun c22 => ?_)
    · refine x_inc3 (p' := 36) hC rfl rfl (⟨by omega, by omega⟩) ?_
      refine x_1 (p' := 15) hC rfl rfl rfl rfl ?_
      refine x_1 (p' := 16) hC rfl rfl rfl rfl ?_
      refine x_iflt (p' := 17) hC rfl rfl (fun c16 => ?_) (fun c16 => ?_)
      · refine x_inc2 (p' := 38) hC rfl rfl (⟨by omega, by omega⟩) ?_
        refine x_1 (p' := 2) hC rfl rfl rfl rfl ?_
        have hEX := hEE (by omega)
        rw [show dd + -1 = -1 by omega]
        exact KN H o1 w1 S R _ hI2 hI3 (h6 _ _ _ (by rw [show (-1 : Int) = dd - 1 by omega]; exact hEX))
      · refine x_1 (p' := 18) hC rfl rfl rfl rfl ?_
        refine x_stI4 (p' := 19) hC rfl rfl rfl ?_
        first
          | exact ih _ _ H2 o2 w2 S2 R2 (by omega) (by omega) hP2 (hI2.trans E2) T2
          | exact ih _ _ H o1 w1 S R (by omega) (by omega) (h4 _ _ _ _ _ hI1 (by omega) (by omega)) hI2 hI3
          | (have hEX := hEE (by omega)
             obtain ⟨h42, hh2, hh3⟩ := h2 _ _ _ _ _ hEX
             exact ih _ _ H o1 w1 S R (by omega) (by omega) hEX hI2 hI3)
    · refine x_1 (p' := 24) hC rfl rfl rfl rfl ?_
      refine z_tr (p' := 25) (n := 1) hK hC rfl rfl rfl rfl ?_
      refine x_1 (p' := 26) hC rfl rfl rfl rfl ?_
      refine z_hub (p' := 27) hK hC rfl rfl rfl (by omega) (by omega) ?_
      refine z_hg (p' := 28) (kz := 4) hK hS (by omega) (by omega) hC rfl rfl rfl rfl ?_
      refine x_1 (p' := 29) hC rfl rfl rfl rfl ?_
      refine x_icne (p' := 30) hC rfl rfl (fun c29 => ?_) (fun c29 => ?_)
      · refine x_inc4 (p' := 34) hC rfl rfl (⟨by omega, by omega⟩) ?_
        refine x_1 (p' := 19) hC rfl rfl rfl rfl ?_
        first
          | exact ih _ _ H2 o2 w2 S2 R2 (by omega) (by omega) hP2 (hI2.trans E2) T2
          | exact ih _ _ H o1 w1 S R (by omega) (by omega) (h4 _ _ _ _ _ hI1 (by omega) (by omega)) hI2 hI3
          | (have hEX := hEE (by omega)
             obtain ⟨h42, hh2, hh3⟩ := h2 _ _ _ _ _ hEX
             exact ih _ _ H o1 w1 S R (by omega) (by omega) hEX hI2 hI3)
      · refine x_1 (p' := 31) hC rfl rfl rfl rfl ?_
        refine x_1 (p' := 32) hC rfl rfl rfl rfl ?_
        refine x_cVV1 (p' := 33) (n := 141) hC rfl rfl rfl rfl rfl (hK.ty) ?_
        refine h3 _ _ _ _ _ hI1 (by omega) (by omega) (by omega) hI3 (fun H2 o2 w2 S2 R2 E2 T2 hP2 => ?_)
        obtain ⟨h42, hh2, hh3⟩ := h2 _ _ _ _ _ hP2
        refine x_inc4 (p' := 34) hC rfl rfl (⟨by omega, by omega⟩) ?_
        refine x_1 (p' := 19) hC rfl rfl rfl rfl ?_
        first
          | exact ih _ _ H2 o2 w2 S2 R2 (by omega) (by omega) hP2 (hI2.trans E2) T2
          | exact ih _ _ H o1 w1 S R (by omega) (by omega) (h4 _ _ _ _ _ hI1 (by omega) (by omega)) hI2 hI3
          | (have hEX := hEE (by omega)
             obtain ⟨h42, hh2, hh3⟩ := h2 _ _ _ _ _ hEX
             exact ih _ _ H o1 w1 S R (by omega) (by omega) hEX hI2 hI3)
set_option maxRecDepth 20000 in
theorem lp_T_el {d : Nat} {t : Nat} {o : Nat → Nat} {w : Nat → Nat × Nat} {n : Int} {PT : Int → (Nat → Int → Int) → (Nat → List FV) → Prop} {PB : Int → Int → Int → (Nat → Int → Int) → (Nat → List FV) → Prop} (h1 : ∀ i S R, PT i S R → 0 ≤ i → i < n → (0 ≤ cT S 6 ∧ cT S 6 ≤ 100000) ∧ DuOK (upX S 0 6 (cT S 6 + 1)) R ∧ PB i 4 0 (cBr (upX S 0 6 (cT S 6 + 1)) R).1 (cBr (upX S 0 6 (cT S 6 + 1)) R).2) (h2 : ∀ i dd hh S R, PB i dd hh S R → (1 ≤ cT S 4 ∧ cT S 4 ≤ 5) ∧ 0 ≤ hh ∧ hh ≤ cT S 4) (h3 : ∀ i dd hh S R, PB i dd hh S R → 0 ≤ dd → hh < cT S 4 → cH S hh 4 = dd → ∀ {h : HP} {o : Nat → Nat} {w : Nat → Nat × Nat} {Q : HP → Prop}, TR t h o w S R → (∀ H' o' w' S' R', ExtT h o w t H' o' w' → TR t H' o' w' S' R' → PB i dd (hh + 1) S' R' → Q H') → CaV (d + 4) 141 [.inr (some t), .inl hh] h Q) (h4 : ∀ i dd hh S R, PB i dd hh S R → hh < cT S 4 → ¬ cH S hh 4 = dd → PB i dd (hh + 1) S R) (h5 : ∀ i dd S R, PB i dd (cT S 4) S R → PB i (dd - 1) 0 S R) (h6 : ∀ i S R, PB i (-1) 0 S R → PT (i + 1) S R) (hn : n ≤ 100000) {h : HP} {Q : HP → Prop} (K : ∀ H' o' w' S' R', ExtT h o w t H' o' w' → TR t H' o' w' S' R' → PT n S' R' → Q H') (k : Nat) : ∀ (i : Int) (z3 : Option AV) (z4 : Option AV) (H : HP) (o1 : Nat → Nat) (w1 : Nat → Nat × Nat) (S : Nat → Int → Int) (R : Nat → List FV), (n - i).toNat < k → (0 ≤ i ∧ i ≤ n) → (PT i S R) → (ExtT h o w t H o1 w1) → (TR t H o1 w1 S R) → At (d + 5) 134 2 [some (.inr (some t)), some (.inl n), some (.inl i), z3, z4] [] H (fun v h' => v = none ∧ Q h') := by
  have hC : cod 134 = c_T_elapse := rfl
  induction k with
  | zero =>
    intro i z3 z4 H o1 w1 S R hk
    exact absurd hk (Nat.not_lt_zero _)
  | succ k ih =>
    intro i z3 z4 H o1 w1 S R hk hI0 hI1 hI2 hI3
    have hK := hI3.1
    have hS := hI3.2.2.1
    refine x_1 (p' := 3) hC rfl rfl rfl rfl ?_
    refine x_1 (p' := 4) hC rfl rfl rfl rfl ?_
    refine x_icge (p' := 5) hC rfl rfl (fun c4 => ?_) (fun c4 => ?_)
    · refine x_ret hC rfl rfl rfl ⟨rfl, ?_⟩
      exact K _ _ _ _ _ hI2 hI3 (by rw [show n = i by omega]; exact hI1)
    · obtain ⟨ht6, hdu, hpb⟩ := h1 _ _ _ hI1 (by omega) (by omega)
      refine x_1 (p' := 6) hC rfl rfl rfl rfl ?_
      refine x_1 (p' := 7) hC rfl rfl rfl rfl ?_
      refine z_ti (p' := 8) (kz := 6) hK hS hC rfl rfl rfl rfl ?_
      refine x_1 (p' := 9) hC rfl rfl rfl rfl ?_
      refine x_add (p' := 10) hC rfl rfl rfl (⟨by omega, by omega⟩) ?_
      refine x_putI (p' := 11) hC rfl rfl rfl hK.ty (by have := hK.1; omega) ?_
      rw [show (((6 : Nat) : Int)) = 6 from rfl]
      have T1 := hI3.int (n := 0) (k := 6) (v := cT S 6 + 1) (by decide) (by decide) (by decide)
      rw [Nat.add_zero] at T1
      refine x_1 (p' := 12) hC rfl rfl rfl rfl ?_
      refine x_cVV0 (p' := 13) (n := 135) hC rfl rfl rfl rfl rfl (hK.ty) ?_
      refine sp_T_bringDueFrames T1.2 hdu (fun H2 o2 w2 E2 T2 => ?_)
      have h40 := (h2 _ _ _ _ _ hpb).1
      refine x_1 (p' := 14) hC rfl rfl rfl rfl ?_
      refine x_stI3 (p' := 15) hC rfl rfl rfl ?_
      refine x_1 (p' := 16) hC rfl rfl rfl rfl ?_
      refine x_iflt (p' := 17) hC rfl rfl (fun c => absurd c (by decide)) (fun _ => ?_)
      refine x_1 (p' := 18) hC rfl rfl rfl rfl ?_
      refine x_stI4 (p' := 19) hC rfl rfl rfl ?_
      refine lp_T_el2 h1 h2 h3 h4 h5 h6 ⟨by omega, by omega, hn⟩ (h := h) (o := o) (w := w) (fun H3 o3 w3 S3 R3 z E3 T3 hp3 => ?_) _ 4 0 H2 o2 w2 _ _ (Nat.lt_succ_self _) (by omega) hpb ((hI2.trans T1.1).trans E2) T2
      exact ih _ _ _ H3 o3 w3 S3 R3 (by omega) (by omega) hp3 E3 T3
set_option maxRecDepth 20000 in
set_option maxHeartbeats 2000000 in
theorem sp_T_elapse {d : Nat} {t : Nat} {o : Nat → Nat} {w : Nat → Nat × Nat} {n : Int} {PT : Int → (Nat → Int → Int) → (Nat → List FV) → Prop} {PB : Int → Int → Int → (Nat → Int → Int) → (Nat → List FV) → Prop} (h1 : ∀ i S R, PT i S R → 0 ≤ i → i < n → (0 ≤ cT S 6 ∧ cT S 6 ≤ 100000) ∧ DuOK (upX S 0 6 (cT S 6 + 1)) R ∧ PB i 4 0 (cBr (upX S 0 6 (cT S 6 + 1)) R).1 (cBr (upX S 0 6 (cT S 6 + 1)) R).2) (h2 : ∀ i dd hh S R, PB i dd hh S R → (1 ≤ cT S 4 ∧ cT S 4 ≤ 5) ∧ 0 ≤ hh ∧ hh ≤ cT S 4) (h3 : ∀ i dd hh S R, PB i dd hh S R → 0 ≤ dd → hh < cT S 4 → cH S hh 4 = dd → ∀ {h : HP} {o : Nat → Nat} {w : Nat → Nat × Nat} {Q : HP → Prop}, TR t h o w S R → (∀ H' o' w' S' R', ExtT h o w t H' o' w' → TR t H' o' w' S' R' → PB i dd (hh + 1) S' R' → Q H') → CaV (d + 4) 141 [.inr (some t), .inl hh] h Q) (h4 : ∀ i dd hh S R, PB i dd hh S R → hh < cT S 4 → ¬ cH S hh 4 = dd → PB i dd (hh + 1) S R) (h5 : ∀ i dd S R, PB i dd (cT S 4) S R → PB i (dd - 1) 0 S R) (h6 : ∀ i S R, PB i (-1) 0 S R → PT (i + 1) S R) (hn : n ≤ 100000) (hn0 : 0 ≤ n) {h : HP} {S : Nat → Int → Int} {R : Nat → List FV} (T : TR t h o w S R) (hT : PT 0 S R) {Q : HP → Prop} (K : ∀ H' o' w' S' R', ExtT h o w t H' o' w' → TR t H' o' w' S' R' → PT n S' R' → Q H') : CaV (d + 5) 134 [.inr (some t), .inl n] h Q := by
  have hC : cod 134 = c_T_elapse := rfl
  refine CaV.start rfl ?_
  refine x_1 (p' := 1) hC rfl rfl rfl rfl ?_
  refine x_stI2 (p' := 2) hC rfl rfl rfl ?_
  exact lp_T_el h1 h2 h3 h4 h5 h6 hn K _ 0 _ _ h o w S R (Nat.lt_succ_self _) (by omega) hT ExtT.refl T
set_option maxRecDepth 20000 in
set_option maxHeartbeats 2000000 in
theorem sp_T_retire {d : Nat} {h : HP} {t : Nat} {o : Nat → Nat} {w : Nat → Nat × Nat} {S : Nat → Int → Int} {R : Nat → List FV} (T : TR t h o w S R) {u : Int} (hu : 0 ≤ u ∧ u < 10) {Q : HP → Prop} (K : ∀ H', ExtT h o w t H' o w → TR t H' o w (upX S (46 + u.toNat) 2 1) R → Q H') : CaV d 117 [.inr (some t), .inl u] h Q := by
  have hC : cod 117 = c_T_retire := rfl
  refine CaV.start rfl ?_
  have hK := T.1
  have hS := T.2.2.1
  refine x_1 (p' := 1) hC rfl rfl rfl rfl ?_
  refine z_tr (p' := 2) (n := 2) hK hC rfl rfl rfl rfl ?_
  refine x_1 (p' := 3) hC rfl rfl rfl rfl ?_
  refine z_unit (p' := 4) hK hC rfl rfl rfl (by omega) (by omega) ?_
  refine x_1 (p' := 5) hC rfl rfl rfl rfl ?_
  refine x_putB (p' := 6) hC rfl rfl rfl (hK.uty hu.1 hu.2) (by have := hK.1; omega) (by decide) ?_
  have T1 := T.int (n := 46 + u.toNat) (k := 2) (v := 1) (by omega) (by rw [sk_u ⟨u.toNat, by omega⟩]; decide) (by rw [sk_u ⟨u.toNat, by omega⟩]; decide)
  refine x_ret hC rfl rfl rfl ⟨rfl, ?_⟩
  exact K _ T1.1 T1.2
set_option maxRecDepth 20000 in
set_option maxHeartbeats 2000000 in
theorem sp_T_changeSetting {d : Nat} {h : HP} {t : Nat} {o : Nat → Nat} {w : Nat → Nat × Nat} {S : Nat → Int → Int} {R : Nat → List FV} (T : TR t h o w S R) {g k v : Int} (hg : 0 ≤ g ∧ g < 5) (hk : 0 ≤ k ∧ k < 5) {Q : Int → HP → Prop} (K : ∀ H', ExtT h o w t H' o w → TR t H' o w (upX S (12 + 7 * g.toNat) k v) R → Q (cSe S g k) H') : CaI d 120 [.inr (some t), .inl g, .inl k, .inl v] h Q := by
  have hC : cod 120 = c_T_changeSetting := rfl
  refine CaI.start rfl ?_
  have hK := T.1
  have hS := T.2.2.1
  refine x_1 (p' := 1) hC rfl rfl rfl rfl ?_
  refine z_tr (p' := 2) (n := 1) hK hC rfl rfl rfl rfl ?_
  refine x_1 (p' := 3) hC rfl rfl rfl rfl ?_
  refine z_hub (p' := 4) hK hC rfl rfl rfl (by omega) (by omega) ?_
  refine z_hr0 (p' := 5) hK (by omega) (by omega) hC rfl rfl ?_
  refine x_1 (p' := 6) hC rfl rfl rfl rfl ?_
  refine z_sl (p' := 7) hK hS (by omega) (by omega) hC rfl rfl rfl (by omega) (by omega) ?_
  refine x_stI4 (p' := 8) hC rfl rfl rfl ?_
  refine x_1 (p' := 9) hC rfl rfl rfl rfl ?_
  refine z_tr (p' := 10) (n := 1) hK hC rfl rfl rfl rfl ?_
  refine x_1 (p' := 11) hC rfl rfl rfl rfl ?_
  refine z_hub (p' := 12) hK hC rfl rfl rfl (by omega) (by omega) ?_
  refine z_hr0 (p' := 13) hK (by omega) (by omega) hC rfl rfl ?_
  refine x_1 (p' := 14) hC rfl rfl rfl rfl ?_
  refine x_1 (p' := 15) hC rfl rfl rfl rfl ?_
  refine x_iast (p' := 16) hC rfl rfl rfl (hK.sty hg.1 hg.2) (by have := hK.1; omega) hk.1 hk.2 ?_
  have T1 := T.int (n := 12 + 7 * g.toNat) (k := k) (v := v) (by omega) (by rw [(sk_h ⟨g.toNat, by omega⟩).2.1]; decide) (by rw [(sk_h ⟨g.toNat, by omega⟩).2.1]; decide)
  refine x_1 (p' := 17) hC rfl rfl rfl rfl ?_
  refine x_iret hC rfl rfl rfl ⟨_, rfl, ?_⟩
  exact K _ T1.1 T1.2
def cUb (S : Nat → Int → Int) (u g p : Int) : Nat → Int → Int := upX (upX (upX (upX S (46 + u.toNat) 0 g) (46 + u.toNat) 1 p) (46 + u.toNat) 2 0) (46 + u.toNat) 3 0
set_option maxRecDepth 20000 in
set_option maxHeartbeats 2000000 in
theorem sp_U_begin {d : Nat} {h : HP} {t : Nat} {o : Nat → Nat} {w : Nat → Nat × Nat} {S : Nat → Int → Int} {R : Nat → List FV} (T : TR t h o w S R) {u g p : Int} (hu : 0 ≤ u ∧ u < 10) {Q : HP → Prop} (K : ∀ H', ExtT h o w t H' o w → TR t H' o w (cUb S u g p) R → Q H') : CaV d 101 [.inr (some (t + (46 + u.toNat))), .inl g, .inl p] h Q := by
  have hC : cod 101 = c_U_begin := rfl
  refine CaV.start rfl ?_
  have hK := T.1
  have TT0 : ExtT h o w t h o w ∧ TR t h o w S R := ⟨ExtT.refl, T⟩
  refine x_1 (p' := 1) hC rfl rfl rfl rfl ?_
  refine x_1 (p' := 2) hC rfl rfl rfl rfl ?_
  refine x_putI (p' := 3) hC rfl rfl rfl (hK.uty hu.1 hu.2) (by have := hK.1; omega) ?_
  have T1 := TT0.2.int (n := 46 + u.toNat) (k := 0) (v := g) (by omega) (by rw [sk_u ⟨u.toNat, by omega⟩]; decide) (by rw [sk_u ⟨u.toNat, by omega⟩]; decide)
  refine x_1 (p' := 4) hC rfl rfl rfl rfl ?_
  refine x_1 (p' := 5) hC rfl rfl rfl rfl ?_
  refine x_putI (p' := 6) hC rfl rfl rfl (hK.uty hu.1 hu.2) (by have := hK.1; omega) ?_
  have T2 := T1.2.int (n := 46 + u.toNat) (k := 1) (v := p) (by omega) (by rw [sk_u ⟨u.toNat, by omega⟩]; decide) (by rw [sk_u ⟨u.toNat, by omega⟩]; decide)
  refine x_1 (p' := 7) hC rfl rfl rfl rfl ?_
  refine x_1 (p' := 8) hC rfl rfl rfl rfl ?_
  refine x_putB (p' := 9) hC rfl rfl rfl (hK.uty hu.1 hu.2) (by have := hK.1; omega) (by decide) ?_
  have T3 := T2.2.int (n := 46 + u.toNat) (k := 2) (v := 0) (by omega) (by rw [sk_u ⟨u.toNat, by omega⟩]; decide) (by rw [sk_u ⟨u.toNat, by omega⟩]; decide)
  refine x_1 (p' := 10) hC rfl rfl rfl rfl ?_
  refine x_1 (p' := 11) hC rfl rfl rfl rfl ?_
  refine x_putI (p' := 12) hC rfl rfl rfl (hK.uty hu.1 hu.2) (by have := hK.1; omega) ?_
  have T4 := T3.2.int (n := 46 + u.toNat) (k := 3) (v := 0) (by omega) (by rw [sk_u ⟨u.toNat, by omega⟩]; decide) (by rw [sk_u ⟨u.toNat, by omega⟩]; decide)
  refine x_ret hC rfl rfl rfl ⟨rfl, ?_⟩
  exact K _ (((T1.1.trans T2.1).trans T3.1).trans T4.1) T4.2
set_option maxRecDepth 20000 in
set_option maxHeartbeats 2000000 in
theorem sp_T_addUnit {d : Nat} {h : HP} {t : Nat} {o : Nat → Nat} {w : Nat → Nat × Nat} {S : Nat → Int → Int} {R : Nat → List FV} (T : TR t h o w S R) {g p : Int} (hn : 0 ≤ cT S 5 ∧ cT S 5 < 10) {Q : Int → HP → Prop} (K : ∀ H', ExtT h o w t H' o w → TR t H' o w (upX (cUb S (cT S 5) g p) 0 5 (cT S 5 + 1)) R → Q (cT S 5) H') : CaI (d + 1) 115 [.inr (some t), .inl g, .inl p] h Q := by
  have hC : cod 115 = c_T_addUnit := rfl
  refine CaI.start rfl ?_
  have hK := T.1
  have hS := T.2.2.1
  refine x_1 (p' := 1) hC rfl rfl rfl rfl ?_
  refine z_tr (p' := 2) (n := 2) hK hC rfl rfl rfl rfl ?_
  refine x_1 (p' := 3) hC rfl rfl rfl rfl ?_
  refine z_ti (p' := 4) (kz := 5) hK hS hC rfl rfl rfl rfl ?_
  refine z_unit (p' := 5) hK hC rfl rfl rfl (by omega) (by omega) ?_
  refine x_1 (p' := 6) hC rfl rfl rfl rfl ?_
  refine x_1 (p' := 7) hC rfl rfl rfl rfl ?_
  refine x_cVV2 (p' := 8) (n := 101) hC rfl rfl rfl rfl rfl (hK.uty hn.1 hn.2) ?_
  refine sp_U_begin T hn (fun H2 E2 T2 => ?_)
  have hK := T2.1
  have hS := T2.2.2.1
  have h5 : cT (cUb S (cT S 5) g p) 5 = cT S 5 := by
    unfold cUb
    rw [cT_upX (by omega), cT_upX (by omega), cT_upX (by omega), cT_upX (by omega)]
  refine x_1 (p' := 9) hC rfl rfl rfl rfl ?_
  refine x_1 (p' := 10) hC rfl rfl rfl rfl ?_
  refine z_ti (p' := 11) (kz := 5) hK hS hC rfl rfl rfl rfl ?_
  rw [h5]
  refine x_1 (p' := 12) hC rfl rfl rfl rfl ?_
  refine x_1 (p' := 13) hC rfl rfl rfl rfl ?_
  refine x_add (p' := 14) hC rfl rfl rfl (⟨by omega, by omega⟩) ?_
  refine x_putI (p' := 15) hC rfl rfl rfl hK.ty (by have := hK.1; omega) ?_
  have T3 := T2.int (n := 0) (k := 5) (v := cT S 5 + 1) (by decide) (by decide) (by decide)
  rw [Nat.add_zero] at T3
  refine x_iret hC rfl rfl rfl ⟨_, rfl, ?_⟩
  exact K _ (E2.trans T3.1) T3.2
def cHb0 (S : Nat → Int → Int) (x p : Int) : Nat → Int → Int := upX (upX (upX (upA S (12 + 7 * x.toNat) (fun j => if 0 ≤ j ∧ j < 5 then 0 else S (12 + 7 * x.toNat) j)) (12 + 7 * x.toNat) 4 p) (13 + 7 * x.toNat) 1 0) (15 + 7 * x.toNat) 5 0
def cHb (S : Nat → Int → Int) (x a e p : Int) : Nat → Int → Int := upX (upX (upX (upX (upX (upX (cHb0 S x p) (11 + 7 * x.toNat) 3 a) (11 + 7 * x.toNat) 4 e) (11 + 7 * x.toNat) 5 0) (11 + 7 * x.toNat) 6 0) (11 + 7 * x.toNat) 7 0) (11 + 7 * x.toNat) 8 (-1)
set_option maxRecDepth 20000 in
set_option maxHeartbeats 2000000 in
theorem sp_H_begin {d : Nat} {h : HP} {t : Nat} {o : Nat → Nat} {w : Nat → Nat × Nat} {S : Nat → Int → Int} {R : Nat → List FV} (T : TR t h o w S R) {x a e p : Int} (hx : 0 ≤ x ∧ x < 5) {Q : HP → Prop} (K : ∀ H', ExtT h o w t H' o w → TR t H' o w (cHb S x a e p) (upR R (13 + 7 * x.toNat) []) → Q H') : CaV (d + 1) 104 [.inr (some (t + (11 + 7 * x.toNat))), .inl a, .inl e, .inl p] h Q := by
  have hC : cod 104 = c_H_begin := rfl
  refine CaV.start rfl ?_
  have hK := T.1
  have hS := T.2.2.1
  refine x_1 (p' := 1) hC rfl rfl rfl rfl ?_
  refine z_hr0 (p' := 2) hK (by omega) (by omega) hC rfl rfl ?_
  refine x_1 (p' := 3) hC rfl rfl rfl rfl ?_
  refine x_cVS2 (p' := 4) (n := 191) hC rfl rfl rfl rfl rfl ?_
  refine sp_JA_fill (hK.sty hx.1 hx.2) (by have := hK.1; omega) (by decide) ?_
  rw [hS _ (by omega)]
  have T1 := T.arr (n := 12 + 7 * x.toNat) (f := fun j => if 0 ≤ j ∧ j < ((5 : Nat) : Int) then 0 else S (12 + 7 * x.toNat) j) (by omega) (by rw [(sk_h ⟨x.toNat, by omega⟩).2.1]; decide) (by rw [(sk_h ⟨x.toNat, by omega⟩).2.1]; decide)
  have hK := T1.2.1
  have hS := T1.2.2.2.1
  refine x_1 (p' := 5) hC rfl rfl rfl rfl ?_
  refine z_hr0 (p' := 6) hK (by omega) (by omega) hC rfl rfl ?_
  refine x_1 (p' := 7) hC rfl rfl rfl rfl ?_
  refine x_1 (p' := 8) hC rfl rfl rfl rfl ?_
  refine x_iast (p' := 9) hC rfl rfl rfl (hK.sty hx.1 hx.2) (by have := hK.1; omega) (by decide) (by decide) ?_
  have T2 := T1.2.int (n := 12 + 7 * x.toNat) (k := 4) (v := p) (by omega) (by rw [(sk_h ⟨x.toNat, by omega⟩).2.1]; decide) (by rw [(sk_h ⟨x.toNat, by omega⟩).2.1]; decide)
  have hK := T2.2.1
  have hS := T2.2.2.2.1
  refine x_1 (p' := 10) hC rfl rfl rfl rfl ?_
  refine z_hr1 (p' := 11) hK (by omega) (by omega) hC rfl rfl ?_
  refine x_1 (p' := 12) hC rfl rfl rfl rfl ?_
  refine x_putI (p' := 13) hC rfl rfl rfl (hK.hrty hx.1 hx.2) (by have := hK.1; omega) ?_
  have hcut := (T2.2.hrow hx.1 hx.2).cut (k := 0) (Nat.zero_le _)
  have T3 := T2.2.row (n := 13 + 7 * x.toNat) (by omega) (sk_r hx.1 hx.2) hcut.1 hcut.2
  rw [List.take_zero] at T3
  have hK := T3.2.1
  have hS := T3.2.2.2.1
  refine x_1 (p' := 14) hC rfl rfl rfl rfl ?_
  refine z_hr2 (p' := 15) hK (by omega) (by omega) hC rfl rfl ?_
  refine x_1 (p' := 16) hC rfl rfl rfl rfl ?_
  refine x_putI (p' := 17) hC rfl rfl rfl (hK.held hx.1 hx.2).ty (by have := hK.1; omega) ?_
  have T4 := T3.2.int (n := 15 + 7 * x.toNat) (k := 5) (v := 0) (by omega) (by rw [(sk_h ⟨x.toNat, by omega⟩).2.2.2]; decide) (by rw [(sk_h ⟨x.toNat, by omega⟩).2.2.2]; decide)
  refine x_1 (p' := 18) hC rfl rfl rfl rfl ?_
  refine x_1 (p' := 19) hC rfl rfl rfl rfl ?_
  refine x_putI (p' := 20) hC rfl rfl rfl (hK.hty hx.1 hx.2) (by have := hK.1; omega) ?_
  have T5 := T4.2.int (n := 11 + 7 * x.toNat) (k := 3) (v := a) (by omega) (by rw [(sk_h ⟨x.toNat, by omega⟩).1]; decide) (by rw [(sk_h ⟨x.toNat, by omega⟩).1]; decide)
  refine x_1 (p' := 21) hC rfl rfl rfl rfl ?_
  refine x_1 (p' := 22) hC rfl rfl rfl rfl ?_
  refine x_putI (p' := 23) hC rfl rfl rfl (hK.hty hx.1 hx.2) (by have := hK.1; omega) ?_
  have T6 := T5.2.int (n := 11 + 7 * x.toNat) (k := 4) (v := e) (by omega) (by rw [(sk_h ⟨x.toNat, by omega⟩).1]; decide) (by rw [(sk_h ⟨x.toNat, by omega⟩).1]; decide)
  refine x_1 (p' := 24) hC rfl rfl rfl rfl ?_
  refine x_1 (p' := 25) hC rfl rfl rfl rfl ?_
  refine x_putI (p' := 26) hC rfl rfl rfl (hK.hty hx.1 hx.2) (by have := hK.1; omega) ?_
  have T7 := T6.2.int (n := 11 + 7 * x.toNat) (k := 5) (v := 0) (by omega) (by rw [(sk_h ⟨x.toNat, by omega⟩).1]; decide) (by rw [(sk_h ⟨x.toNat, by omega⟩).1]; decide)
  refine x_1 (p' := 27) hC rfl rfl rfl rfl ?_
  refine x_1 (p' := 28) hC rfl rfl rfl rfl ?_
  refine x_putI (p' := 29) hC rfl rfl rfl (hK.hty hx.1 hx.2) (by have := hK.1; omega) ?_
  have T8 := T7.2.int (n := 11 + 7 * x.toNat) (k := 6) (v := 0) (by omega) (by rw [(sk_h ⟨x.toNat, by omega⟩).1]; decide) (by rw [(sk_h ⟨x.toNat, by omega⟩).1]; decide)
  refine x_1 (p' := 30) hC rfl rfl rfl rfl ?_
  refine x_1 (p' := 31) hC rfl rfl rfl rfl ?_
  refine x_putI (p' := 32) hC rfl rfl rfl (hK.hty hx.1 hx.2) (by have := hK.1; omega) ?_
  have T9 := T8.2.int (n := 11 + 7 * x.toNat) (k := 7) (v := 0) (by omega) (by rw [(sk_h ⟨x.toNat, by omega⟩).1]; decide) (by rw [(sk_h ⟨x.toNat, by omega⟩).1]; decide)
  refine x_1 (p' := 33) hC rfl rfl rfl rfl ?_
  refine x_1 (p' := 34) hC rfl rfl rfl rfl ?_
  refine x_putI (p' := 35) hC rfl rfl rfl (hK.hty hx.1 hx.2) (by have := hK.1; omega) ?_
  have TA := T9.2.int (n := 11 + 7 * x.toNat) (k := 8) (v := -1) (by omega) (by rw [(sk_h ⟨x.toNat, by omega⟩).1]; decide) (by rw [(sk_h ⟨x.toNat, by omega⟩).1]; decide)
  refine x_ret hC rfl rfl rfl ⟨rfl, ?_⟩
  exact K _ (((((((((T1.1.trans T2.1).trans T3.1).trans T4.1).trans T5.1).trans T6.1).trans T7.1).trans T8.1).trans T9.1).trans TA.1) TA.2
set_option maxRecDepth 20000 in
set_option maxHeartbeats 2000000 in
theorem sp_T_addHub {d : Nat} {h : HP} {t : Nat} {o : Nat → Nat} {w : Nat → Nat × Nat} {S : Nat → Int → Int} {R : Nat → List FV} (T : TR t h o w S R) {a p : Int} (hn : 0 ≤ cT S 4 ∧ cT S 4 < 5) (ha : 0 ≤ a ∧ a < 5) (hd : 0 ≤ cH S a 4 ∧ cH S a 4 ≤ 100) {Q : Int → HP → Prop} (K : ∀ H', ExtT h o w t H' o w → TR t H' o w (upX (cHb S (cT S 4) a (cH S a 4 + 1) p) 0 4 (cT S 4 + 1)) (upR R (13 + 7 * (cT S 4).toNat) []) → Q (cT S 4) H') : CaI (d + 2) 114 [.inr (some t), .inl a, .inl p] h Q := by
  have hC : cod 114 = c_T_addHub := rfl
  refine CaI.start rfl ?_
  have hK := T.1
  have hS := T.2.2.1
  refine x_1 (p' := 1) hC rfl rfl rfl rfl ?_
  refine z_tr (p' := 2) (n := 1) hK hC rfl rfl rfl rfl ?_
  refine x_1 (p' := 3) hC rfl rfl rfl rfl ?_
  refine z_ti (p' := 4) (kz := 4) hK hS hC rfl rfl rfl rfl ?_
  refine z_hub (p' := 5) hK hC rfl rfl rfl (by omega) (by omega) ?_
  refine x_1 (p' := 6) hC rfl rfl rfl rfl ?_
  refine x_1 (p' := 7) hC rfl rfl rfl rfl ?_
  refine z_tr (p' := 8) (n := 1) hK hC rfl rfl rfl rfl ?_
  refine x_1 (p' := 9) hC rfl rfl rfl rfl ?_
  refine z_hub (p' := 10) hK hC rfl rfl rfl (by omega) (by omega) ?_
  refine z_hg (p' := 11) (kz := 4) hK hS (by omega) (by omega) hC rfl rfl rfl rfl ?_
  refine x_1 (p' := 12) hC rfl rfl rfl rfl ?_
  refine x_add (p' := 13) hC rfl rfl rfl (⟨by omega, by omega⟩) ?_
  refine x_1 (p' := 14) hC rfl rfl rfl rfl ?_
  refine x_cVV3 (p' := 15) (n := 104) hC rfl rfl rfl rfl rfl (hK.hty hn.1 hn.2) ?_
  refine sp_H_begin T hn (fun H2 E2 T2 => ?_)
  have hK := T2.1
  have hS := T2.2.2.1
  have h5 : cT (cHb S (cT S 4) a (cH S a 4 + 1) p) 4 = cT S 4 := by
    unfold cHb cHb0
    rw [cT_upX (by omega), cT_upX (by omega), cT_upX (by omega), cT_upX (by omega), cT_upX (by omega), cT_upX (by omega), cT_upX (by omega), cT_upX (by omega), cT_upX (by omega)]
    exact congrFun (upA_ne (by omega)) 4
  refine x_1 (p' := 16) hC rfl rfl rfl rfl ?_
  refine x_1 (p' := 17) hC rfl rfl rfl rfl ?_
  refine z_ti (p' := 18) (kz := 4) hK hS hC rfl rfl rfl rfl ?_
  rw [h5]
  refine x_1 (p' := 19) hC rfl rfl rfl rfl ?_
  refine x_1 (p' := 20) hC rfl rfl rfl rfl ?_
  refine x_add (p' := 21) hC rfl rfl rfl (⟨by omega, by omega⟩) ?_
  refine x_putI (p' := 22) hC rfl rfl rfl hK.ty (by have := hK.1; omega) ?_
  have T3 := T2.int (n := 0) (k := 4) (v := cT S 4 + 1) (by decide) (by decide) (by decide)
  rw [Nat.add_zero] at T3
  refine x_iret hC rfl rfl rfl ⟨_, rfl, ?_⟩
  exact K _ (E2.trans T3.1) T3.2

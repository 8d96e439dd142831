/-! THE CLASS: its objects made -/
/-- from h to h' cells are made and the cell t alone is written -/
def Al (t : Nat) (h h' : HP) : Prop := hZ h ≤ hZ h' ∧ (∀ b, b < hZ h → hTy h' b = hTy h b) ∧ ∀ b, b < hZ h → b ≠ t → hI h' b = hI h b ∧ hR h' b = hR h b
theorem Al.refl {t : Nat} {h : HP} : Al t h h := ⟨Nat.le_refl _, fun _ _ => rfl, fun _ _ _ => ⟨rfl, rfl⟩⟩
theorem Al.trans {t : Nat} {a b c : HP} (x : Al t a b) (y : Al t b c) : Al t a c := ⟨by have := x.1; have := y.1; omega, fun q hq => (y.2.1 q (by have := x.1; omega)).trans (x.2.1 q hq), fun q hq hn => ⟨(y.2.2 q (by have := x.1; omega) hn).1.trans (x.2.2 q hq hn).1, (y.2.2 q (by have := x.1; omega) hn).2.trans (x.2.2 q hq hn).2⟩⟩
theorem Al.sI {t : Nat} {h : HP} {k v : Int} : Al t h (Jvm.Pilot.CPhasorTreeLaw_law_r4566_d5a5ba.sI h t k v) := ⟨Nat.le_refl _, fun _ _ => rfl, fun _ _ hn => ⟨hI_sI_ne hn, rfl⟩⟩
theorem Al.sR {t : Nat} {h : HP} {k : Int} {v : Option Nat} : Al t h (Jvm.Pilot.CPhasorTreeLaw_law_r4566_d5a5ba.sR h t k v) := ⟨Nat.le_refl _, fun _ _ => rfl, fun _ _ hn => ⟨rfl, hR_sR_ne hn⟩⟩
theorem Al.new {t : Nat} {h : HP} {ty : Nat × Nat} {n : Nat} : Al t h (sNew h ty n) := ⟨Nat.le_succ _, fun _ hb => hTy_new hb, fun _ hb _ => ⟨hI_new hb, hR_new hb⟩⟩
/-- what an object made anew did is done to no cell that was there -/
theorem Al.obj {t : Nat} {h h' : HP} {ty : Nat × Nat} {n : Nat} (x : Al (hZ h) (sNew h ty n) h') : Al t h h' := by
  obtain ⟨x1, x2, x3⟩ := x
  have hz : hZ (sNew h ty n) = hZ h + 1 := rfl
  rw [hz] at x1 x2 x3
  exact ⟨by omega, fun b hb => (x2 b (by omega)).trans (hTy_new hb), fun b hb _ => ⟨(x3 b (by omega) (by omega)).1.trans (hI_new hb), (x3 b (by omega) (by omega)).2.trans (hR_new hb)⟩⟩
theorem hTy_sI {h : HP} {a : Nat} {k v : Int} : hTy (Jvm.Pilot.CPhasorTreeLaw_law_r4566_d5a5ba.sI h a k v) = hTy h := rfl
theorem hR_sI {h : HP} {a : Nat} {k v : Int} : hR (Jvm.Pilot.CPhasorTreeLaw_law_r4566_d5a5ba.sI h a k v) = hR h := rfl
def FrI (h : HP) (a : Nat) : Prop := hTy h a = (1, 0) ∧ hTy h (a + 1) = (100, 10) ∧ hTy h (a + 2) = (100, 10) ∧ hR h a 6 = some (a + 1) ∧ hR h a 7 = some (a + 2)
def RowI (h : HP) (a : Nat) : Prop := hTy h a = (4, 0) ∧ hTy h (a + 1) = (200, 8) ∧ hR h a 0 = some (a + 1) ∧ (∀ j, hR h (a + 1) j = none) ∧ hI h a 1 = 0
def HubI (h : HP) (a : Nat) : Prop := hTy h a = (2, 0) ∧ hTy h (a + 1) = (100, 5) ∧ RowI h (a + 2) ∧ FrI h (a + 4) ∧ hR h a 0 = some (a + 1) ∧ hR h a 1 = some (a + 2) ∧ hR h a 2 = some (a + 4)
theorem FrI.keep {h h' : HP} {a t : Nat} (F : FrI h a) (x : Al t h h') (hz : a + 2 < hZ h) (hn : a ≠ t) : FrI h' a := by
  obtain ⟨f1, f2, f3, f4, f5⟩ := F
  exact ⟨by rw [x.2.1 _ (by omega)]; exact f1, by rw [x.2.1 _ (by omega)]; exact f2, by rw [x.2.1 _ (by omega)]; exact f3, by rw [(x.2.2 _ (by omega) hn).2]; exact f4, by rw [(x.2.2 _ (by omega) hn).2]; exact f5⟩
theorem RowI.keep {h h' : HP} {a t : Nat} (F : RowI h a) (x : Al t h h') (hz : a + 1 < hZ h) (hn : a ≠ t) (hn1 : a + 1 ≠ t) : RowI h' a := by
  obtain ⟨f1, f2, f3, f4, f5⟩ := F
  exact ⟨by rw [x.2.1 _ (by omega)]; exact f1, by rw [x.2.1 _ (by omega)]; exact f2, by rw [(x.2.2 _ (by omega) hn).2]; exact f3, fun j => by rw [(x.2.2 _ (by omega) hn1).2]; exact f4 j, by rw [(x.2.2 _ (by omega) hn).1]; exact f5⟩
theorem HubI.keep {h h' : HP} {a t : Nat} (F : HubI h a) (x : Al t h h') (hz : a + 6 < hZ h) (hn : t < a ∨ a + 6 < t) : HubI h' a := by
  obtain ⟨f1, f2, f3, f4, f5, f6, f7⟩ := F
  exact ⟨by rw [x.2.1 _ (by omega)]; exact f1, by rw [x.2.1 _ (by omega)]; exact f2, f3.keep x (by omega) (by omega) (by omega), f4.keep x (by omega) (by omega), by rw [(x.2.2 _ (by omega) (by omega)).2]; exact f5, by rw [(x.2.2 _ (by omega) (by omega)).2]; exact f6, by rw [(x.2.2 _ (by omega) (by omega)).2]; exact f7⟩
theorem FrP.fri {h : HP} {a : Nat} (F : FrP h a) : FrI h a := F.2.2
theorem sp_F_init2 {d : Nat} {h : HP} {Q : HP → Prop} (h3 : 3 ≤ hZ h) (K : ∀ H, Al (hZ h) (sNew h (1, 0) 8) H → hZ H = hZ h + 3 → hU H = hU h + 28 → FrI H (hZ h) → Q H) : CaV (d + 1) 81 [.inr (some (hZ h))] (sNew h (1, 0) 8) Q :=
  sp_F_init (a := hZ h) hTy_at h3 rfl (fun H z u ty io F => K H ⟨by rw [z]; show hZ h + 1 ≤ _; omega, ty, io⟩ z (by rw [u]; rfl) F.fri)
set_option maxRecDepth 20000 in
set_option maxHeartbeats 2000000 in
theorem sp_R_init {d : Nat} {h : HP} {a : Nat} (hK0 : hTy h a = (4, 0)) (h3 : 3 ≤ a) (hz : a + 1 = hZ h) {Q : HP → Prop} (K : ∀ H', Al a h H' → hZ H' = a + 2 → hU H' = hU h + 8 → RowI H' a → Q H') : CaV (d + 1) 88 [.inr (some a)] h Q := by
  have hC : cod 88 = c_R_init := rfl
  refine CaV.start rfl ?_
  refine x_1 (p' := 1) hC rfl rfl rfl rfl ?_
  refine x_obj (p' := 2) hC rfl rfl rfl ?_
  refine x_1 (p' := 3) hC rfl rfl rfl rfl ?_
  refine x_1 (p' := 4) hC rfl rfl rfl rfl ?_
  refine x_newr (p' := 5) hC rfl rfl rfl (by decide) ?_
  refine x_putR (p' := 6) hC rfl rfl rfl (by rw [hTy_new (by show a < hZ h; omega), hK0]) (by omega) ?_
  refine x_1 (p' := 7) hC rfl rfl rfl rfl ?_
  refine x_1 (p' := 8) hC rfl rfl rfl rfl ?_
  refine x_putI (p' := 9) hC rfl rfl rfl (by rw [hTy_sR, hTy_new (by show a < hZ h; omega), hK0]) (by omega) ?_
  refine x_ret hC rfl rfl rfl ⟨rfl, ?_⟩
  have e1 : hZ h = a + 1 := hz.symm
  refine K _ ((Al.new.trans Al.sR).trans Al.sI) (by show hZ h + 1 = a + 2; omega) rfl ⟨?_, ?_, ?_, fun j => ?_, ?_⟩
  · rw [hTy_sI, hTy_sR, hTy_new (by omega), hK0]
  · rw [hTy_sI, hTy_sR, hz, hTy_at]; rfl
  · rw [hR_sI]
    exact hR_sR_eq.trans (congrArg some e1)
  · rw [hR_sI, hR_sR_ne (by omega), hz, hR_at]
  · exact (if_pos ⟨rfl, rfl⟩ : hI (sI _ a ((1 : Nat) : Int) 0) a 1 = 0)
theorem sp_R_init2 {d : Nat} {h : HP} {Q : HP → Prop} (h3 : 3 ≤ hZ h) (K : ∀ H, Al (hZ h) (sNew h (4, 0) 2) H → hZ H = hZ h + 2 → hU H = hU h + 10 → RowI H (hZ h) → Q H) : CaV (d + 1) 88 [.inr (some (hZ h))] (sNew h (4, 0) 2) Q :=
  sp_R_init (a := hZ h) hTy_at h3 rfl (fun H x z u F => K H x z (by rw [u]; rfl) F)
set_option maxRecDepth 20000 in
set_option maxHeartbeats 2000000 in
theorem sp_U_init {d : Nat} {h : HP} {a : Nat} (hK0 : hTy h a = (6, 0)) (h3 : 3 ≤ a) {Q : HP → Prop} (K : ∀ H', Al a h H' → hZ H' = hZ h → hU H' = hU h → Q H') : CaV (d + 1) 100 [.inr (some a)] h Q := by
  have hC : cod 100 = c_U_init := rfl
  refine CaV.start rfl ?_
  refine x_1 (p' := 1) hC rfl rfl rfl rfl ?_
  refine x_obj (p' := 2) hC rfl rfl rfl ?_
  refine x_1 (p' := 3) hC rfl rfl rfl rfl ?_
  refine x_1 (p' := 4) hC rfl rfl rfl rfl ?_
  refine x_putI (p' := 5) hC rfl rfl rfl (by show (hTy h a).1 = 5 + 1; rw [hK0]) (by omega) ?_
  refine x_1 (p' := 6) hC rfl rfl rfl rfl ?_
  refine x_1 (p' := 7) hC rfl rfl rfl rfl ?_
  refine x_putI (p' := 8) hC rfl rfl rfl (by show (hTy h a).1 = 5 + 1; rw [hK0]) (by omega) ?_
  refine x_1 (p' := 9) hC rfl rfl rfl rfl ?_
  refine x_1 (p' := 10) hC rfl rfl rfl rfl ?_
  refine x_putB (p' := 11) hC rfl rfl rfl (by show (hTy h a).1 = 5 + 1; rw [hK0]) (by omega) (by decide) ?_
  refine x_1 (p' := 12) hC rfl rfl rfl rfl ?_
  refine x_1 (p' := 13) hC rfl rfl rfl rfl ?_
  refine x_putI (p' := 14) hC rfl rfl rfl (by show (hTy h a).1 = 5 + 1; rw [hK0]) (by omega) ?_
  refine x_ret hC rfl rfl rfl ⟨rfl, ?_⟩
  exact K _ (((Al.sI.trans Al.sI).trans Al.sI).trans Al.sI) rfl rfl
set_option maxRecDepth 20000 in
set_option maxHeartbeats 2000000 in
theorem sp_H_init {d : Nat} {h : HP} {a : Nat} (hK0 : hTy h a = (2, 0)) (h3 : 3 ≤ a) (hz : a + 1 = hZ h) {Q : HP → Prop} (K : ∀ H', Al a h H' → hZ H' = a + 7 → hU H' = hU h + 43 → HubI H' a → Q H') : CaV (d + 2) 103 [.inr (some a)] h Q := by
  have hC : cod 103 = c_H_init := rfl
  refine CaV.start rfl ?_
  refine x_1 (p' := 1) hC rfl rfl rfl rfl ?_
  refine x_obj (p' := 2) hC rfl rfl rfl ?_
  refine x_1 (p' := 3) hC rfl rfl rfl rfl ?_
  refine x_1 (p' := 4) hC rfl rfl rfl rfl ?_
  refine x_newi (p' := 5) hC rfl rfl (by decide) ?_
  refine x_putR (p' := 6) hC rfl rfl rfl (by rw [hTy_new (by omega), hK0]) h3 ?_
  obtain ⟨H1, hH1⟩ : ∃ H1, H1 = sR (sNew h (100, 5) 5) a 0 (some (hZ h)) := ⟨_, rfl⟩
  have A1 : Al a h H1 := by rw [hH1]; exact Al.new.trans Al.sR
  have z1 : hZ H1 = a + 2 := by rw [hH1]; show hZ h + 1 = _; omega
  have u1 : hU H1 = hU h + 5 := by rw [hH1]; rfl
  have t1 : hTy H1 a = (2, 0) := (A1.2.1 a (by omega)).trans hK0
  have t2 : hTy H1 (a + 1) = (100, 5) := by rw [hH1, hTy_sR, hz, hTy_at]
  have r0 : hR H1 a 0 = some (a + 1) := by rw [hH1, hz]; exact hR_sR_eq
  refine At.heap (h' := H1) (by rw [hH1]; rfl) ?_
  refine x_1 (p' := 7) hC rfl rfl rfl rfl ?_
  refine x_new (p' := 8) hC rfl rfl rfl ?_
  refine x_1 (p' := 9) hC rfl rfl rfl rfl ?_
  refine x_cVN0 (p' := 10) (n := 88) hC rfl rfl rfl rfl rfl ?_
  refine sp_R_init2 (h := H1) (by omega) (fun H2 x2 z2 u2 F2 => ?_)
  have A2 : Al a H1 H2 := x2.obj
  have o2 : hR H2 a = hR H1 a := (x2.2.2 a (by show a < hZ H1 + 1; omega) (by omega)).2.trans (hR_new (by omega))
  refine x_putR (p' := 11) hC rfl rfl rfl (by rw [A2.2.1 a (by omega), t1]) h3 ?_
  obtain ⟨H3, hH3⟩ : ∃ H3, H3 = sR H2 a 1 (some (hZ H1)) := ⟨_, rfl⟩
  have A3 : Al a H2 H3 := by rw [hH3]; exact Al.sR
  have z3 : hZ H3 = a + 4 := by rw [hH3]; show hZ H2 = _; omega
  have u3 : hU H3 = hU h + 15 := by rw [hH3]; show hU H2 = _; omega
  have t3 : hTy H3 a = (2, 0) := by rw [A3.2.1 a (by omega), A2.2.1 a (by omega), t1]
  have t4 : hTy H3 (a + 1) = (100, 5) := by rw [A3.2.1 _ (by omega), A2.2.1 _ (by omega), t2]
  have w3 : RowI H3 (a + 2) := by rw [← z1]; exact F2.keep A3 (by omega) (by omega) (by omega)
  have q0 : hR H3 a 0 = some (a + 1) := by rw [hH3, hR_sR, if_neg (fun q => absurd q.2 (by decide)), o2, r0]
  have q1 : hR H3 a 1 = some (a + 2) := by rw [hH3, z1]; exact hR_sR_eq
  refine At.heap (h' := H3) (by rw [hH3]; rfl) ?_
  refine x_1 (p' := 12) hC rfl rfl rfl rfl ?_
  refine x_new (p' := 13) hC rfl rfl rfl ?_
  refine x_1 (p' := 14) hC rfl rfl rfl rfl ?_
  refine x_cVN0 (p' := 15) (n := 81) hC rfl rfl rfl rfl rfl ?_
  refine sp_F_init2 (h := H3) (by omega) (fun H4 x4 z4 u4 F4 => ?_)
  have A4 : Al a H3 H4 := x4.obj
  have o4 : hR H4 a = hR H3 a := (x4.2.2 a (by show a < hZ H3 + 1; omega) (by omega)).2.trans (hR_new (by omega))
  refine x_putR (p' := 16) hC rfl rfl rfl (by rw [A4.2.1 a (by omega), t3]) h3 ?_
  obtain ⟨H5, hH5⟩ : ∃ H5, H5 = sR H4 a 2 (some (hZ H3)) := ⟨_, rfl⟩
  have A5 : Al a H4 H5 := by rw [hH5]; exact Al.sR
  have z5 : hZ H5 = a + 7 := by rw [hH5]; show hZ H4 = _; omega
  have u5 : hU H5 = hU h + 43 := by rw [hH5]; show hU H4 = _; omega
  have t5 : hTy H5 a = (2, 0) := by rw [A5.2.1 a (by omega), A4.2.1 a (by omega), t3]
  have I5 : HubI H5 a := by
    refine ⟨t5, by rw [A5.2.1 _ (by omega), A4.2.1 _ (by omega), t4], (w3.keep A4 (by omega) (by omega) (by omega)).keep A5 (by omega) (by omega) (by omega), ?_, ?_, ?_, ?_⟩
    · rw [← z3]; exact F4.keep A5 (by omega) (by omega)
    · rw [hH5, hR_sR, if_neg (fun q => absurd q.2 (by decide)), o4, q0]
    · rw [hH5, hR_sR, if_neg (fun q => absurd q.2 (by decide)), o4, q1]
    · rw [hH5, z3]; exact hR_sR_eq
  have AA := (((A1.trans A2).trans A3).trans A4).trans A5
  have ty5 : (hTy H5 a).1 = 1 + 1 := by rw [t5]
  refine At.heap (h' := H5) (by rw [hH5]; rfl) ?_
  refine x_1 (p' := 17) hC rfl rfl rfl rfl ?_
  refine x_1 (p' := 18) hC rfl rfl rfl rfl ?_
  refine x_putI (p' := 19) hC rfl rfl rfl (ty5) (by omega) ?_
  refine x_1 (p' := 20) hC rfl rfl rfl rfl ?_
  refine x_1 (p' := 21) hC rfl rfl rfl rfl ?_
  refine x_putI (p' := 22) hC rfl rfl rfl (ty5) (by omega) ?_
  refine x_1 (p' := 23) hC rfl rfl rfl rfl ?_
  refine x_1 (p' := 24) hC rfl rfl rfl rfl ?_
  refine x_putI (p' := 25) hC rfl rfl rfl (ty5) (by omega) ?_
  refine x_1 (p' := 26) hC rfl rfl rfl rfl ?_
  refine x_1 (p' := 27) hC rfl rfl rfl rfl ?_
  refine x_putI (p' := 28) hC rfl rfl rfl (ty5) (by omega) ?_
  refine x_1 (p' := 29) hC rfl rfl rfl rfl ?_
  refine x_1 (p' := 30) hC rfl rfl rfl rfl ?_
  refine x_putI (p' := 31) hC rfl rfl rfl (ty5) (by omega) ?_
  refine x_1 (p' := 32) hC rfl rfl rfl rfl ?_
  refine x_1 (p' := 33) hC rfl rfl rfl rfl ?_
  refine x_putI (p' := 34) hC rfl rfl rfl (ty5) (by omega) ?_
  refine x_ret hC rfl rfl rfl ⟨rfl, ?_⟩
  refine K _ (AA.trans (((((Al.sI.trans Al.sI).trans Al.sI).trans Al.sI).trans Al.sI).trans Al.sI)) z5 u5 ?_
  obtain ⟨i1, i2, ⟨i3, i4, i5, i6, i7⟩, i8, i9, i10, i11⟩ := I5
  refine ⟨i1, i2, ⟨i3, i4, i5, i6, ?_⟩, i8, i9, i10, i11⟩
  rw [hI_sI_ne (by omega), hI_sI_ne (by omega), hI_sI_ne (by omega), hI_sI_ne (by omega), hI_sI_ne (by omega), hI_sI_ne (by omega)]
  exact i7
theorem sp_H_init2 {d : Nat} {h : HP} {Q : HP → Prop} (h3 : 3 ≤ hZ h) (K : ∀ H, Al (hZ h) (sNew h (2, 0) 9) H → hZ H = hZ h + 7 → hU H = hU h + 52 → HubI H (hZ h) → Q H) : CaV (d + 2) 103 [.inr (some (hZ h))] (sNew h (2, 0) 9) Q :=
  sp_H_init (a := hZ h) hTy_at h3 rfl (fun H x z u F => K H x z (by rw [u]; rfl) F)
theorem sp_U_init2 {d : Nat} {h : HP} {Q : HP → Prop} (h3 : 3 ≤ hZ h) (K : ∀ H, Al (hZ h) (sNew h (6, 0) 4) H → hZ H = hZ h + 1 → hU H = hU h + 4 → hTy H (hZ h) = (6, 0) → Q H) : CaV (d + 1) 100 [.inr (some (hZ h))] (sNew h (6, 0) 4) Q :=
  sp_U_init (a := hZ h) hTy_at h3 (fun H x z u => K H x z (by rw [u]; rfl) ((x.2.1 _ (Nat.lt_succ_self _)).trans hTy_at))

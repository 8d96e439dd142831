/-! THE CLASS: a tree made -/
def OldS (t : Nat) (h h' : HP) : Prop := ∀ b, b < t → hTy h' b = hTy h b ∧ hI h' b = hI h b ∧ hR h' b = hR h b
theorem OldS.refl {t : Nat} {h : HP} : OldS t h h := fun _ _ => ⟨rfl, rfl, rfl⟩
theorem OldS.al {t c : Nat} {h h' h2 : HP} (x : OldS t h h') (y : Al c h' h2) (hc : t ≤ c) (hz : t ≤ hZ h') : OldS t h h2 := fun b hb => ⟨(y.2.1 b (by omega)).trans (x b hb).1, (y.2.2 b (by omega) (by omega)).1.trans (x b hb).2.1, (y.2.2 b (by omega) (by omega)).2.trans (x b hb).2.2⟩
/-- a tree's own object and what lies right behind it -/
def BF (t : Nat) (H : HP) : Prop := (hTy H t = (5, 0) ∧ hTy H (t + 1) = (201, 5) ∧ hTy H (t + 2) = (205, 10) ∧ hTy H (t + 5) = (200, 8) ∧ hTy H (t + 9) = (100, 15) ∧ hTy H (t + 10) = (100, 20)) ∧ RowI H (t + 3) ∧ FrI H (t + 6) ∧ (hR H t 0 = some (t + 1) ∧ hR H t 1 = some (t + 2) ∧ hR H t 2 = some (t + 3) ∧ hR H t 3 = some (t + 5) ∧ hR H t 9 = some (t + 6) ∧ hR H t 10 = some (t + 9) ∧ hR H t 11 = some (t + 10)) ∧ ∀ k : Int, 4 ≤ k → k ≤ 8 → hI H t k = 0
theorem BF.keep {t c : Nat} {H H' : HP} (F : BF t H) (x : Al c H H') (hc : c = t + 1 ∨ c = t + 2 ∨ c = t + 5) (hz : t + 11 ≤ hZ H) : BF t H' := by
  obtain ⟨⟨a0, a1, a2, a3, a4, a5⟩, f1, f2, ⟨r0, r1, r2, r3, r4, r5, r6⟩, f3⟩ := F
  have hr := (x.2.2 t (by omega) (by omega)).2
  have hi := (x.2.2 t (by omega) (by omega)).1
  exact ⟨⟨(x.2.1 _ (by omega)).trans a0, (x.2.1 _ (by omega)).trans a1, (x.2.1 _ (by omega)).trans a2, (x.2.1 _ (by omega)).trans a3, (x.2.1 _ (by omega)).trans a4, (x.2.1 _ (by omega)).trans a5⟩, f1.keep x (by omega) (by omega) (by omega), f2.keep x (by omega) (by omega), by rw [hr]; exact ⟨r0, r1, r2, r3, r4, r5, r6⟩, fun k h1 h2 => by rw [hi]; exact f3 k h1 h2⟩
def HbA (t n : Nat) (H : HP) : Prop := ∀ j : Nat, j < n → hR H (t + 1) j = some (t + (11 + 7 * j)) ∧ HubI H (t + (11 + 7 * j))
def UnA (t n : Nat) (H : HP) : Prop := ∀ j : Nat, j < n → hR H (t + 2) j = some (t + (46 + j)) ∧ hTy H (t + (46 + j)) = (6, 0)
def OuA (t n : Nat) (H : HP) : Prop := ∀ j : Nat, j < n → hR H (t + 5) j = some (t + (56 + 3 * j)) ∧ FrI H (t + (56 + 3 * j))
theorem HbA.keep {t c n : Nat} {H H' : HP} (F : HbA t n H) (x : Al c H H') (hc : c = t + 2 ∨ c = t + 5) (hz : t + 11 + 7 * n ≤ hZ H) : HbA t n H' := fun j hj => ⟨by rw [(x.2.2 (t + 1) (by omega) (by omega)).2]; exact (F j hj).1, (F j hj).2.keep x (by omega) (by omega)⟩
theorem UnA.keep {t c n : Nat} {H H' : HP} (F : UnA t n H) (x : Al c H H') (hc : c = t + 5) (hz : t + 46 + n ≤ hZ H) : UnA t n H' := fun j hj => ⟨by rw [(x.2.2 (t + 2) (by omega) (by omega)).2]; exact (F j hj).1, by rw [x.2.1 _ (by omega)]; exact (F j hj).2⟩
theorem sk_all {P : Nat → Prop} (h0 : P 0) (h1 : P 1) (h2 : P 2) (h3 : P 3) (h4 : P 4) (h5 : P 5) (h6 : P 6) (h7 : P 7) (h8 : P 8) (h9 : P 9) (h10 : P 10) (hh : ∀ i, i < 5 → P (11 + 7 * i) ∧ P (12 + 7 * i) ∧ P (13 + 7 * i) ∧ P (14 + 7 * i) ∧ P (15 + 7 * i) ∧ P (16 + 7 * i) ∧ P (17 + 7 * i)) (hu : ∀ i, i < 10 → P (46 + i)) (ho : ∀ i, i < 8 → P (56 + 3 * i) ∧ P (57 + 3 * i) ∧ P (58 + 3 * i)) : ∀ n, n < 80 → P n := by
  intro n hn
  by_cases a : n < 11
  · rcases (show n = 0 ∨ n = 1 ∨ n = 2 ∨ n = 3 ∨ n = 4 ∨ n = 5 ∨ n = 6 ∨ n = 7 ∨ n = 8 ∨ n = 9 ∨ n = 10 by omega) with q | q | q | q | q | q | q | q | q | q | q
    all_goals (subst q; assumption)
  · by_cases b : n < 46
    · have e := hh ((n - 11) / 7) (by omega)
      rcases (show n = 11 + 7 * ((n - 11) / 7) ∨ n = 12 + 7 * ((n - 11) / 7) ∨ n = 13 + 7 * ((n - 11) / 7) ∨ n = 14 + 7 * ((n - 11) / 7) ∨ n = 15 + 7 * ((n - 11) / 7) ∨ n = 16 + 7 * ((n - 11) / 7) ∨ n = 17 + 7 * ((n - 11) / 7) by omega) with q | q | q | q | q | q | q
      · rw [q]; exact e.1
      · rw [q]; exact e.2.1
      · rw [q]; exact e.2.2.1
      · rw [q]; exact e.2.2.2.1
      · rw [q]; exact e.2.2.2.2.1
      · rw [q]; exact e.2.2.2.2.2.1
      · rw [q]; exact e.2.2.2.2.2.2
    · by_cases c : n < 56
      · have e := hu (n - 46) (by omega)
        rwa [show 46 + (n - 46) = n by omega] at e
      · have e := ho ((n - 56) / 3) (by omega)
        rcases (show n = 56 + 3 * ((n - 56) / 3) ∨ n = 57 + 3 * ((n - 56) / 3) ∨ n = 58 + 3 * ((n - 56) / 3) by omega) with q | q | q
        · rw [q]; exact e.1
        · rw [q]; exact e.2.1
        · rw [q]; exact e.2.2
theorem sk_h2 : ∀ i : Fin 5, skTy (14 + 7 * i.val) = (200, 8) ∧ skTy (16 + 7 * i.val) = (100, 10) ∧ skTy (17 + 7 * i.val) = (100, 10) := by decide
theorem sk_o2 : ∀ i : Fin 8, skTy (57 + 3 * i.val) = (100, 10) ∧ skTy (58 + 3 * i.val) = (100, 10) := by decide
theorem sk_fr2 : ∀ n : Fin 80, skTy n.val = (1, 0) → n.val = 6 ∨ (n.val < 46 ∧ n.val = 15 + 7 * ((n.val - 15) / 7) ∧ 15 ≤ n.val) ∨ (56 ≤ n.val ∧ n.val = 56 + 3 * ((n.val - 56) / 3)) := by decide
theorem ow_row1 : ∀ n : Fin 80, skTy n.val = (4, 0) → ow n.val = n.val ∧ ow (n.val + 1) = n.val ∧ n.val + 1 < 80 := by decide
theorem BF.sk {t : Nat} {H : HP} (F : BF t H) (hb : HbA t 5 H) (hu : UnA t 10 H) (ho : OuA t 8 H) (h3 : 3 ≤ t) (hz : t + 80 ≤ hZ H) : SkT t H := by
  obtain ⟨⟨a0, a1, a2, a3, a4, a5⟩, ⟨w1, w2, w3, w4, w5⟩, ⟨f1, f2, f3, f4, f5⟩, ⟨r0, r1, r2, r3, r4, r5, r6⟩, fi⟩ := F
  refine ⟨h3, hz, ?_, ⟨r0, r1, r2, r3, r4, r5, r6⟩, fun i hi => ?_, fun i hi => (hu i hi).1, fun i hi => (ho i hi).1, fun n hn h1 => ?_⟩
  · refine sk_all (P := fun n => hTy H (t + n) = skTy n) a0 a1 a2 w1 w2 a3 f1 f2 f3 a4 a5 (fun i hi => ?_) (fun i hi => ?_) (fun i hi => ?_)
    · obtain ⟨b1, b2, ⟨c1, c2, c3, c4, c5⟩, ⟨d1, d2, d3, d4, d5⟩, b3, b4, b5⟩ := (hb i hi).2
      have s1 := sk_h ⟨i, hi⟩
      have s2 := sk_h2 ⟨i, hi⟩
      dsimp only at s1 s2
      refine ⟨by rw [s1.1]; exact b1, by rw [s1.2.1, show t + (12 + 7 * i) = t + (11 + 7 * i) + 1 by omega]; exact b2, by rw [s1.2.2.1, show t + (13 + 7 * i) = t + (11 + 7 * i) + 2 by omega]; exact c1, by rw [s2.1, show t + (14 + 7 * i) = t + (11 + 7 * i) + 2 + 1 by omega]; exact c2, by rw [s1.2.2.2, show t + (15 + 7 * i) = t + (11 + 7 * i) + 4 by omega]; exact d1, by rw [s2.2.1, show t + (16 + 7 * i) = t + (11 + 7 * i) + 4 + 1 by omega]; exact d2, by rw [s2.2.2, show t + (17 + 7 * i) = t + (11 + 7 * i) + 4 + 2 by omega]; exact d3⟩
    · rw [sk_u ⟨i, hi⟩]; exact (hu i hi).2
    · obtain ⟨d1, d2, d3, d4, d5⟩ := (ho i hi).2
      have s2 := sk_o2 ⟨i, hi⟩
      dsimp only at s2
      refine ⟨by rw [sk_o ⟨i, hi⟩]; exact d1, by rw [s2.1, show t + (57 + 3 * i) = t + (56 + 3 * i) + 1 by omega]; exact d2, by rw [s2.2, show t + (58 + 3 * i) = t + (56 + 3 * i) + 2 by omega]; exact d3⟩
  · obtain ⟨b1, b2, c, d, b3, b4, b5⟩ := (hb i hi).2
    refine ⟨(hb i hi).1, by rw [b3]; congr 1; omega, by rw [b4]; congr 1; omega, by rw [b5]; congr 1; omega⟩
  · have s := sk_fr2 ⟨n, hn⟩ h1
    dsimp only at s
    rcases s with q | q | q
    · subst q; exact ⟨f4, f5⟩
    · obtain ⟨b1, b2, c, ⟨d1, d2, d3, d4, d5⟩, b3, b4, b5⟩ := (hb ((n - 15) / 7) (by omega)).2
      rw [show t + n = t + (11 + 7 * ((n - 15) / 7)) + 4 by omega]
      refine ⟨by rw [d4]; congr 1; omega, by rw [d5]; congr 1; omega⟩
    · obtain ⟨d1, d2, d3, d4, d5⟩ := (ho ((n - 56) / 3) (by omega)).2
      rw [show t + n = t + (56 + 3 * ((n - 56) / 3)) by omega]
      refine ⟨by rw [d4]; congr 1; omega, by rw [d5]; congr 1; omega⟩
theorem RowI.rowP {H : HP} {t n : Nat} {o : Nat → Nat} {w : Nat → Nat × Nat} (F : RowI H (t + n)) (hn : n < 80) (hs : skTy n = (4, 0)) (h3 : 3 ≤ t) (hz : t + 80 ≤ hZ H) (ho : ∀ n, n < 80 → o (t + n) = t + ow n) (hw : w (t + n) = (0, 8)) : RowP H o w (t + n) [] := by
  obtain ⟨w1, w2, w3, w4, w5⟩ := F
  obtain ⟨o1, o2, o3⟩ := ow_row1 ⟨n, hn⟩ hs
  dsimp only at o1 o2 o3
  unfold RowP
  rw [hw]
  refine ⟨by rw [ho n hn, o1], Or.inl rfl, t + n + 1, fun _ => 0, ⟨⟨by omega, by omega, w1⟩, w3, ⟨by omega, by omega, w2, by decide⟩, w5, ⟨by decide, by decide⟩, fun i hi => absurd hi (by omega), fun i _ _ => w4 i, fun i j hi => absurd hi (by omega), fun i hi => absurd hi (Nat.not_lt_zero _)⟩, by rw [show t + n + 1 = t + (n + 1) by omega, ho _ o3, o2], fun i hi => absurd hi (by omega)⟩
theorem BF.tr {t : Nat} {H : HP} (F : BF t H) (hb : HbA t 5 H) (hu : UnA t 10 H) (ho : OuA t 8 H) (h3 : 3 ≤ t) (hz : t + 80 ≤ hZ H) {o : Nat → Nat} {w : Nat → Nat × Nat} (hO : ∀ n, n < 80 → o (t + n) = t + ow n) (hw : ∀ n, n < 80 → skTy n = (4, 0) → w (t + n) = (0, 8)) : TR t H o w (fun n => hI H (t + n)) (fun _ => []) := by
  refine ⟨F.sk hb hu ho h3 hz, hO, fun _ _ => rfl, fun n hn hs => ?_⟩
  refine RowI.rowP ?_ hn hs h3 hz hO (hw n hn hs)
  have s := sk_row ⟨n, hn⟩ hs
  dsimp only at s
  rcases s with q | q | q | q | q | q
  · subst q; exact F.2.1
  · have := (hb 0 (by decide)).2.2.2.1; rw [show t + n = t + (11 + 7 * 0) + 2 by omega]; exact this
  · have := (hb 1 (by decide)).2.2.2.1; rw [show t + n = t + (11 + 7 * 1) + 2 by omega]; exact this
  · have := (hb 2 (by decide)).2.2.2.1; rw [show t + n = t + (11 + 7 * 2) + 2 by omega]; exact this
  · have := (hb 3 (by decide)).2.2.2.1; rw [show t + n = t + (11 + 7 * 3) + 2 by omega]; exact this
  · have := (hb 4 (by decide)).2.2.2.1; rw [show t + n = t + (11 + 7 * 4) + 2 by omega]; exact this
/-- a tree as it is made -/
def InitS (S : Nat → Int → Int) : Prop := cT S 4 = 1 ∧ cT S 5 = 0 ∧ cT S 6 = 0 ∧ cT S 7 = 0 ∧ cH S 0 3 = -1 ∧ cH S 0 4 = 0 ∧ cH S 0 5 = 0 ∧ cH S 0 6 = 0 ∧ cH S 0 7 = 0 ∧ cH S 0 8 = -1 ∧ (∀ k : Int, 0 ≤ k → k < 4 → cSe S 0 k = 0) ∧ cSe S 0 4 = 1 ∧ SF S 15 5 = 0 ∧ cT S 8 = 0
/-- an ownership by the tree's cells alone -/
def oL (t : Nat) : Nat → Nat := fun b => if t ≤ b ∧ b < t + 80 then t + ow (b - t) else if b < t then b else b
theorem oL_in {t n : Nat} (hn : n < 80) : oL t (t + n) = t + ow n := by
  unfold oL
  rw [if_pos ⟨by omega, by omega⟩, Nat.add_sub_cancel_left]
theorem TR.owner {t : Nat} {H : HP} {o o' : Nat → Nat} {w w' : Nat → Nat × Nat} {S : Nat → Int → Int} (T : TR t H o w S (fun _ => [])) (hw0 : ∀ n, n < 80 → skTy n = (4, 0) → w (t + n) = (0, 8)) (hO : ∀ n, n < 80 → o' (t + n) = t + ow n) (hw : ∀ n, n < 80 → skTy n = (4, 0) → w' (t + n) = (0, 8)) (hr : ∀ n, n < 80 → skTy n = (4, 0) → RowI H (t + n)) : TR t H o' w' S (fun _ => []) :=
  ⟨T.1, hO, T.2.2.1, fun n hn hs => (hr n hn hs).rowP hn hs T.1.1 T.1.2.1 hO (hw n hn hs)⟩
set_option maxRecDepth 20000 in
theorem lp_T_mk3 {d : Nat} {h : HP} {t : Nat} (h3 : 3 ≤ t) {o : Nat → Nat} {w : Nat → Nat × Nat} (hO : ∀ n, n < 80 → o (t + n) = t + ow n) (hw : ∀ n, n < 80 → skTy n = (4, 0) → w (t + n) = (0, 8)) (hob : ∀ b, b < t → ¬ (t ≤ o b ∧ o b < t + 80)) {Q : HP → Prop} (K : ∀ H S, OldS t h H → hZ H = t + 80 → hU H = hU h + 620 → TR t H o w S (fun _ => []) → InitS S → Q H) (k : Nat) : ∀ (i : Nat) (H : HP), 8 - i < k → (i ≤ 8) → (OldS t h H) → (hZ H = t + 56 + 3 * i ∧ hU H = hU h + 396 + 28 * i) → (BF t H) → (HbA t 5 H) → (UnA t 10 H) → (OuA t i H) → At (d + 3) 109 77 [some (.inr (some t)), some (.inl (i : Nat))] [] H (fun v h' => v = none ∧ Q h') := by
  have hC : cod 109 = c_T_init := rfl
  induction k with
  | zero =>
    intro i H hk
    exact absurd hk (Nat.not_lt_zero _)
  | succ k ih =>
    intro i H hk hI0 hI1 hI2 hI3 hI4 hI5 hI6
    refine x_1 (p' := 78) hC rfl rfl rfl rfl ?_
    refine x_1 (p' := 79) hC rfl rfl rfl rfl ?_
    refine x_icge (p' := 80) hC rfl rfl (fun c79 => ?_) (fun c79 => ?_)
    · have TF := BF.tr hI3 hI4 hI5 (show OuA t 8 H by rw [show 8 = i by omega]; exact hI6) h3 (by omega) hO hw
      have hK := TF.1
      have hS := TF.2.2.1
      refine x_1 (p' := 90) hC rfl rfl rfl rfl ?_
      refine z_tr (p' := 91) (n := 1) hK hC rfl rfl rfl rfl ?_
      refine x_1 (p' := 92) hC rfl rfl rfl rfl ?_
      refine z_hub (p' := 93) hK hC rfl rfl rfl (by decide) (by decide) ?_
      refine x_1 (p' := 94) hC rfl rfl rfl rfl ?_
      refine x_1 (p' := 95) hC rfl rfl rfl rfl ?_
      refine x_1 (p' := 96) hC rfl rfl rfl rfl ?_
      refine x_cVV3 (p' := 97) (n := 104) hC rfl rfl rfl rfl rfl (hK.hty (g := 0) (by decide) (by decide)) ?_
      refine sp_H_begin TF (x := 0) ⟨by decide, by decide⟩ (fun H5 E5 T5 => ?_)
      have hK := T5.1
      refine x_1 (p' := 98) hC rfl rfl rfl rfl ?_
      refine x_1 (p' := 99) hC rfl rfl rfl rfl ?_
      refine x_putI (p' := 100) hC rfl rfl rfl hK.ty (by omega) ?_
      have T6 := T5.int (n := 0) (k := 4) (v := 1) (by decide) (by decide) (by decide)
      rw [Nat.add_zero] at T6
      have EX := E5.trans T6.1
      refine x_ret hC rfl rfl rfl ⟨rfl, ?_⟩
      have hRR : upR (fun _ => ([] : List FV)) (13 + 7 * (0 : Int).toNat) [] = fun _ => [] := by
        funext m
        unfold upR
        split <;> rfl
      rw [hRR] at T6
      refine K _ _ (fun b hb => ?_) ?_ ?_ T6.2 ?_
      · have h1 := EX.2.1 b (by omega)
        have h2 := EX.2.2.1 b (by omega) (hob b hb)
        exact ⟨h1.1.trans (hI1 b hb).1, h2.1.trans (hI1 b hb).2.1, h2.2.trans (hI1 b hb).2.2⟩
      · have e1 : hZ H ≤ hZ H5 := EX.1
        have e7 : hU H5 + pot t w = hU H + pot t w := EX.2.2.2.2.2.2.1
        have e8 : 9 * hZ H5 + hU H ≤ 9 * hZ H + hU H5 := EX.2.2.2.2.2.2.2
        show hZ H5 = _
        omega
      · have e7 : hU H5 + pot t w = hU H + pot t w := EX.2.2.2.2.2.2.1
        show hU H5 = _
        omega
      · have hF := hI3.2.2.2.2
        have hc : ∀ k : Int, 5 ≤ k → k ≤ 8 → cT (upX (cHb (fun n => hI H (t + n)) 0 (-1) 0 1) 0 4 1) k = 0 := fun k k1 k2 => by
          have e : cT (upX (cHb (fun n => hI H (t + n)) 0 (-1) 0 1) 0 4 1) k = cHb (fun n => hI H (t + n)) 0 (-1) 0 1 0 k := by
            unfold cT upX
            rw [if_neg (fun q => by have := q.2; omega)]
          rw [e]
          exact hF k (by omega) k2
        refine ⟨rfl, hc 5 (by decide) (by decide), hc 6 (by decide) (by decide), hc 7 (by decide) (by decide), rfl, rfl, rfl, rfl, rfl, rfl, fun k k0 k1 => ?_, rfl, rfl, hc 8 (by decide) (by decide)⟩
        rcases (show k = 0 ∨ k = 1 ∨ k = 2 ∨ k = 3 by omega) with q | q | q | q
        all_goals (subst q; rfl)
    · refine x_1 (p' := 81) hC rfl rfl rfl rfl ?_
      refine x_getR (p' := 82) (q := some (t + 5)) hC rfl rfl rfl (by rw [hI3.1.1]) hI3.2.2.2.1.2.2.2.1 ?_
      refine x_1 (p' := 83) hC rfl rfl rfl rfl ?_
      refine x_new (p' := 84) hC rfl rfl rfl ?_
      refine x_1 (p' := 85) hC rfl rfl rfl rfl ?_
      refine x_cVN0 (p' := 86) (n := 81) hC rfl rfl rfl rfl rfl ?_
      refine sp_F_init2 (h := H) (by omega) (fun H2 x2 z2 u2 F2 => ?_)
      have A2 : Al (t + 5) H H2 := x2.obj
      have B2 := hI3.keep A2 (Or.inr (Or.inr rfl)) (by omega)
      refine x_aast (p' := 87) (t := 200) (n := 8) hC rfl rfl rfl B2.1.2.2.2.1 rfl (by rw [F2.1]) (by omega) (by omega) (by omega) ?_
      have A3 : Al (t + 5) H2 (sR H2 (t + 5) (i : Nat) (some (hZ H))) := Al.sR
      have hr3 : ∀ j, hR (sR H2 (t + 5) (i : Nat) (some (hZ H))) (t + 5) j = if j = (i : Nat) then some (hZ H) else hR H2 (t + 5) j := fun j => by
        rw [hR_sR]
        by_cases hj : j = (i : Nat)
        · rw [if_pos ⟨rfl, hj⟩, if_pos hj]
        · rw [if_neg (fun q => hj q.2), if_neg hj]
      have z3 : hZ (sR H2 (t + 5) (i : Nat) (some (hZ H))) = hZ H2 := rfl
      have u3 : hU (sR H2 (t + 5) (i : Nat) (some (hZ H))) = hU H2 := rfl
      generalize sR H2 (t + 5) (i : Nat) (some (hZ H)) = H3 at *
      refine x_inc1 (p' := 88) hC rfl rfl (⟨by omega, by omega⟩) ?_
      refine x_1 (p' := 77) hC rfl rfl rfl rfl ?_
      rw [show (((i : Nat) : Int) + 1) = ((i + 1 : Nat) : Int) by omega]
      have B3 := B2.keep A3 (Or.inr (Or.inr rfl)) (by omega)
      refine ih (i + 1) H3 (by omega) (by omega) ((hI1.al A2 (by omega) (by omega)).al A3 (by omega) (by omega)) ⟨by omega, by omega⟩ B3 ((hI4.keep A2 (by omega) (by omega)).keep A3 (by omega) (by omega)) ((hI5.keep A2 rfl (by omega)).keep A3 rfl (by omega)) (fun j hj => ?_)
      by_cases hji : j = i
      · refine ⟨by rw [hr3, if_pos (by omega)]; congr 1; omega, ?_⟩
        rw [hji, show t + (56 + 3 * i) = hZ H by omega]
        exact F2.keep A3 (by omega) (by omega)
      · refine ⟨?_, ?_⟩
        · have hrr : hR H2 (t + 5) j = hR H (t + 5) j := congrFun ((x2.2.2 (t + 5) (by show t + 5 < hZ H + 1; omega) (by omega)).2.trans (hR_new (by omega))) j
          rw [hr3, if_neg (by omega), hrr]; exact (hI6 j (by omega)).1
        · exact ((hI6 j (by omega)).2.keep A2 (by omega) (by omega)).keep A3 (by omega) (by omega)
set_option maxRecDepth 20000 in
theorem lp_T_mk2 {d : Nat} {h : HP} {t : Nat} (h3 : 3 ≤ t) {o : Nat → Nat} {w : Nat → Nat × Nat} (hO : ∀ n, n < 80 → o (t + n) = t + ow n) (hw : ∀ n, n < 80 → skTy n = (4, 0) → w (t + n) = (0, 8)) (hob : ∀ b, b < t → ¬ (t ≤ o b ∧ o b < t + 80)) {Q : HP → Prop} (K : ∀ H S, OldS t h H → hZ H = t + 80 → hU H = hU h + 620 → TR t H o w S (fun _ => []) → InitS S → Q H) (k : Nat) : ∀ (i : Nat) (H : HP), 10 - i < k → (i ≤ 10) → (OldS t h H) → (hZ H = t + 46 + i ∧ hU H = hU h + 356 + 4 * i) → (BF t H) → (HbA t 5 H) → (UnA t i H) → At (d + 3) 109 63 [some (.inr (some t)), some (.inl (i : Nat))] [] H (fun v h' => v = none ∧ Q h') := by
  have hC : cod 109 = c_T_init := rfl
  induction k with
  | zero =>
    intro i H hk
    exact absurd hk (Nat.not_lt_zero _)
  | succ k ih =>
    intro i H hk hI0 hI1 hI2 hI3 hI4 hI5
    refine x_1 (p' := 64) hC rfl rfl rfl rfl ?_
    refine x_1 (p' := 65) hC rfl rfl rfl rfl ?_
    refine x_icge (p' := 66) hC rfl rfl (fun c65 => ?_) (fun c65 => ?_)
    · refine x_1 (p' := 76) hC rfl rfl rfl rfl ?_
      refine x_stI1 (p' := 77) hC rfl rfl rfl ?_
      exact lp_T_mk3 h3 hO hw hob K _ 0 H (Nat.lt_succ_self _) (by omega) hI1 ⟨by omega, by omega⟩ hI3 hI4 (show UnA t 10 H by rw [show 10 = i by omega]; exact hI5) (fun j hj => absurd hj (by omega))
    · refine x_1 (p' := 67) hC rfl rfl rfl rfl ?_
      refine x_getR (p' := 68) (q := some (t + 2)) hC rfl rfl rfl (by rw [hI3.1.1]) hI3.2.2.2.1.2.1 ?_
      refine x_1 (p' := 69) hC rfl rfl rfl rfl ?_
      refine x_new (p' := 70) hC rfl rfl rfl ?_
      refine x_1 (p' := 71) hC rfl rfl rfl rfl ?_
      refine x_cVN0 (p' := 72) (n := 100) hC rfl rfl rfl rfl rfl ?_
      refine sp_U_init2 (h := H) (by omega) (fun H2 x2 z2 u2 F2 => ?_)
      have A2 : Al (t + 2) H H2 := x2.obj
      have B2 := hI3.keep A2 (Or.inr (Or.inl rfl)) (by omega)
      refine x_aast (p' := 73) (t := 205) (n := 10) hC rfl rfl rfl B2.1.2.2.1 rfl (by rw [F2]) (by omega) (by omega) (by omega) ?_
      have A3 : Al (t + 2) H2 (sR H2 (t + 2) (i : Nat) (some (hZ H))) := Al.sR
      have hr3 : ∀ j, hR (sR H2 (t + 2) (i : Nat) (some (hZ H))) (t + 2) j = if j = (i : Nat) then some (hZ H) else hR H2 (t + 2) j := fun j => by
        rw [hR_sR]
        by_cases hj : j = (i : Nat)
        · rw [if_pos ⟨rfl, hj⟩, if_pos hj]
        · rw [if_neg (fun q => hj q.2), if_neg hj]
      have z3 : hZ (sR H2 (t + 2) (i : Nat) (some (hZ H))) = hZ H2 := rfl
      have u3 : hU (sR H2 (t + 2) (i : Nat) (some (hZ H))) = hU H2 := rfl
      generalize sR H2 (t + 2) (i : Nat) (some (hZ H)) = H3 at *
      refine x_inc1 (p' := 74) hC rfl rfl (⟨by omega, by omega⟩) ?_
      refine x_1 (p' := 63) hC rfl rfl rfl rfl ?_
      rw [show (((i : Nat) : Int) + 1) = ((i + 1 : Nat) : Int) by omega]
      have B3 := B2.keep A3 (Or.inr (Or.inl rfl)) (by omega)
      refine ih (i + 1) H3 (by omega) (by omega) ((hI1.al A2 (by omega) (by omega)).al A3 (by omega) (by omega)) ⟨by omega, by omega⟩ B3 ((hI4.keep A2 (Or.inl rfl) (by omega)).keep A3 (Or.inl rfl) (by omega)) (fun j hj => ?_)
      by_cases hji : j = i
      · refine ⟨by rw [hr3, if_pos (by omega)]; congr 1; omega, ?_⟩
        rw [hji, show t + (46 + i) = hZ H by omega, A3.2.1 _ (by omega)]
        exact F2
      · refine ⟨?_, ?_⟩
        · have hrr : hR H2 (t + 2) j = hR H (t + 2) j := congrFun ((x2.2.2 (t + 2) (by show t + 2 < hZ H + 1; omega) (by omega)).2.trans (hR_new (by omega))) j
          rw [hr3, if_neg (by omega), hrr]; exact (hI5 j (by omega)).1
        · rw [A3.2.1 _ (by omega), A2.2.1 _ (by omega)]; exact (hI5 j (by omega)).2
set_option maxRecDepth 20000 in
theorem lp_T_mk1 {d : Nat} {h : HP} {t : Nat} (h3 : 3 ≤ t) {o : Nat → Nat} {w : Nat → Nat × Nat} (hO : ∀ n, n < 80 → o (t + n) = t + ow n) (hw : ∀ n, n < 80 → skTy n = (4, 0) → w (t + n) = (0, 8)) (hob : ∀ b, b < t → ¬ (t ≤ o b ∧ o b < t + 80)) {Q : HP → Prop} (K : ∀ H S, OldS t h H → hZ H = t + 80 → hU H = hU h + 620 → TR t H o w S (fun _ => []) → InitS S → Q H) (k : Nat) : ∀ (i : Nat) (H : HP), 5 - i < k → (i ≤ 5) → (OldS t h H) → (hZ H = t + 11 + 7 * i ∧ hU H = hU h + 96 + 52 * i) → (BF t H) → (HbA t i H) → At (d + 3) 109 49 [some (.inr (some t)), some (.inl (i : Nat))] [] H (fun v h' => v = none ∧ Q h') := by
  have hC : cod 109 = c_T_init := rfl
  induction k with
  | zero =>
    intro i H hk
    exact absurd hk (Nat.not_lt_zero _)
  | succ k ih =>
    intro i H hk hI0 hI1 hI2 hI3 hI4
    refine x_1 (p' := 50) hC rfl rfl rfl rfl ?_
    refine x_1 (p' := 51) hC rfl rfl rfl rfl ?_
    refine x_icge (p' := 52) hC rfl rfl (fun c51 => ?_) (fun c51 => ?_)
    · refine x_1 (p' := 62) hC rfl rfl rfl rfl ?_
      refine x_stI1 (p' := 63) hC rfl rfl rfl ?_
      exact lp_T_mk2 h3 hO hw hob K _ 0 H (Nat.lt_succ_self _) (by omega) hI1 ⟨by omega, by omega⟩ hI3 (show HbA t 5 H by rw [show 5 = i by omega]; exact hI4) (fun j hj => absurd hj (by omega))
    · refine x_1 (p' := 53) hC rfl rfl rfl rfl ?_
      refine x_getR (p' := 54) (q := some (t + 1)) hC rfl rfl rfl (by rw [hI3.1.1]) hI3.2.2.2.1.1 ?_
      refine x_1 (p' := 55) hC rfl rfl rfl rfl ?_
      refine x_new (p' := 56) hC rfl rfl rfl ?_
      refine x_1 (p' := 57) hC rfl rfl rfl rfl ?_
      refine x_cVN0 (p' := 58) (n := 103) hC rfl rfl rfl rfl rfl ?_
      refine sp_H_init2 (h := H) (by omega) (fun H2 x2 z2 u2 F2 => ?_)
      have A2 : Al (t + 1) H H2 := x2.obj
      have B2 := hI3.keep A2 (Or.inl rfl) (by omega)
      refine x_aast (p' := 59) (t := 201) (n := 5) hC rfl rfl rfl B2.1.2.1 rfl (by rw [F2.1]) (by omega) (by omega) (by omega) ?_
      have A3 : Al (t + 1) H2 (sR H2 (t + 1) (i : Nat) (some (hZ H))) := Al.sR
      have hr3 : ∀ j, hR (sR H2 (t + 1) (i : Nat) (some (hZ H))) (t + 1) j = if j = (i : Nat) then some (hZ H) else hR H2 (t + 1) j := fun j => by
        rw [hR_sR]
        by_cases hj : j = (i : Nat)
        · rw [if_pos ⟨rfl, hj⟩, if_pos hj]
        · rw [if_neg (fun q => hj q.2), if_neg hj]
      have z3 : hZ (sR H2 (t + 1) (i : Nat) (some (hZ H))) = hZ H2 := rfl
      have u3 : hU (sR H2 (t + 1) (i : Nat) (some (hZ H))) = hU H2 := rfl
      generalize sR H2 (t + 1) (i : Nat) (some (hZ H)) = H3 at *
      refine x_inc1 (p' := 60) hC rfl rfl (⟨by omega, by omega⟩) ?_
      refine x_1 (p' := 49) hC rfl rfl rfl rfl ?_
      rw [show (((i : Nat) : Int) + 1) = ((i + 1 : Nat) : Int) by omega]
      have B3 := B2.keep A3 (Or.inl rfl) (by omega)
      refine ih (i + 1) H3 (by omega) (by omega) ((hI1.al A2 (by omega) (by omega)).al A3 (by omega) (by omega)) ⟨by omega, by omega⟩ B3 (fun j hj => ?_)
      by_cases hji : j = i
      · refine ⟨by rw [hr3, if_pos (by omega)]; congr 1; omega, ?_⟩
        rw [hji, show t + (11 + 7 * i) = hZ H by omega]
        exact F2.keep A3 (by omega) (by omega)
      · refine ⟨?_, ?_⟩
        · have hrr : hR H2 (t + 1) j = hR H (t + 1) j := congrFun ((x2.2.2 (t + 1) (by show t + 1 < hZ H + 1; omega) (by omega)).2.trans (hR_new (by omega))) j
          rw [hr3, if_neg (by omega), hrr]; exact (hI4 j (by omega)).1
        · exact ((hI4 j (by omega)).2.keep A2 (by omega) (by omega)).keep A3 (by omega) (by omega)

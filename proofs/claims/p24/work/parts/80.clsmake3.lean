/-! THE CLASS: all of it made -/
theorem hI_z {h : HP} {a : Nat} {k j : Int} (c : j = k ∨ hI h a j = 0) : hI (sI h a k 0) a j = 0 := by
  rw [hI_sI]
  split
  · rfl
  · rename_i q
    rcases c with c | c
    · exact absurd ⟨rfl, c⟩ q
    · exact c
theorem mkA (H : HP) (t : Nat) (k : Int) (ty : Nat × Nat) (n : Nat) (ht : t < hZ H) : Al t H (sR (sNew H ty n) t k (some (hZ H))) ∧ hZ (sR (sNew H ty n) t k (some (hZ H))) = hZ H + 1 ∧ hU (sR (sNew H ty n) t k (some (hZ H))) = hU H + n ∧ hTy (sR (sNew H ty n) t k (some (hZ H))) (hZ H) = ty ∧ hR (sR (sNew H ty n) t k (some (hZ H))) t k = some (hZ H) ∧ (∀ j, j ≠ k → hR (sR (sNew H ty n) t k (some (hZ H))) t j = hR H t j) ∧ hI (sR (sNew H ty n) t k (some (hZ H))) t = hI H t :=
  ⟨Al.new.trans Al.sR, rfl, rfl, by rw [hTy_sR, hTy_at], hR_sR_eq, fun j hj => by rw [hR_sR, if_neg (fun q => hj q.2), hR_new ht], by rw [hI_sR, hI_new ht]⟩
theorem mkO (H H1 : HP) (t : Nat) (k : Int) {ty : Nat × Nat} {n : Nat} (x : Al (hZ H) (sNew H ty n) H1) (ht : t < hZ H) : Al t H (sR H1 t k (some (hZ H))) ∧ hZ (sR H1 t k (some (hZ H))) = hZ H1 ∧ hU (sR H1 t k (some (hZ H))) = hU H1 ∧ Al t H1 (sR H1 t k (some (hZ H))) ∧ hR (sR H1 t k (some (hZ H))) t k = some (hZ H) ∧ (∀ j, j ≠ k → hR (sR H1 t k (some (hZ H))) t j = hR H t j) ∧ hI (sR H1 t k (some (hZ H))) t = hI H t := by
  have h1 := x.2.2 t (by show t < hZ H + 1; omega) (by omega)
  exact ⟨x.obj.trans Al.sR, rfl, rfl, Al.sR, hR_sR_eq, fun j hj => by rw [hR_sR, if_neg (fun q => hj q.2), h1.2, hR_new ht], by rw [hI_sR, h1.1, hI_new ht]⟩
set_option maxRecDepth 20000 in
set_option maxHeartbeats 2000000 in
theorem sp_T_init {d : Nat} {h : HP} {t : Nat} (h3 : 3 ≤ t) {o : Nat → Nat} {w : Nat → Nat × Nat} (hO : ∀ n, n < 80 → o (t + n) = t + ow n) (hw : ∀ n, n < 80 → skTy n = (4, 0) → w (t + n) = (0, 8)) (hob : ∀ b, b < t → ¬ (t ≤ o b ∧ o b < t + 80)) (hK0 : hTy h t = (5, 0)) (hz : t + 1 = hZ h) {Q : HP → Prop} (K : ∀ H S, OldS t h H → hZ H = t + 80 → hU H = hU h + 620 → TR t H o w S (fun _ => []) → InitS S → Q H) : CaV (d + 3) 109 [.inr (some t)] h Q := by
  have hC : cod 109 = c_T_init := rfl
  refine CaV.start rfl ?_
  refine x_1 (p' := 1) hC rfl rfl rfl rfl ?_
  refine x_obj (p' := 2) hC rfl rfl rfl ?_
  refine x_1 (p' := 3) hC rfl rfl rfl rfl ?_
  refine x_1 (p' := 4) hC rfl rfl rfl rfl ?_
  refine x_newr (p' := 5) hC rfl rfl rfl (by decide) ?_
  refine x_putR (p' := 6) hC rfl rfl rfl (by rw [hTy_new (by omega), hK0]) h3 ?_
  obtain ⟨A1, z1, u1, e1, r1, q1, j1⟩ := mkA h t 0 (201, 5) 5 (by omega)
  refine At.heap (h' := sR (sNew h (201, 5) 5) t 0 (some (hZ h))) rfl ?_
  generalize sR (sNew h (201, 5) 5) t 0 (some (hZ h)) = H1 at *
  have y1 : hTy H1 t = (5, 0) := (A1.2.1 t (by omega)).trans hK0
  refine x_1 (p' := 7) hC rfl rfl rfl rfl ?_
  refine x_1 (p' := 8) hC rfl rfl rfl rfl ?_
  refine x_newr (p' := 9) hC rfl rfl rfl (by decide) ?_
  refine x_putR (p' := 10) hC rfl rfl rfl (by rw [hTy_new (by omega), y1]) h3 ?_
  obtain ⟨A2, z2, u2, e2, r2, q2, j2⟩ := mkA H1 t 1 (205, 10) 10 (by omega)
  refine At.heap (h' := sR (sNew H1 (205, 10) 10) t 1 (some (hZ H1))) rfl ?_
  generalize sR (sNew H1 (205, 10) 10) t 1 (some (hZ H1)) = H2 at *
  have y2 : hTy H2 t = (5, 0) := (A2.2.1 t (by omega)).trans y1
  refine x_1 (p' := 11) hC rfl rfl rfl rfl ?_
  refine x_new (p' := 12) hC rfl rfl rfl ?_
  refine x_1 (p' := 13) hC rfl rfl rfl rfl ?_
  refine x_cVN0 (p' := 14) (n := 88) hC rfl rfl rfl rfl rfl ?_
  refine sp_R_init2 (h := H2) (by omega) (fun HR xR zR uR FR => ?_)
  refine x_putR (p' := 15) hC rfl rfl rfl (by rw [(Al.obj (t := t) xR).2.1 t (by omega), y2]) h3 ?_
  obtain ⟨A3, z3, u3, b3, r3, q3, j3⟩ := mkO H2 HR t 2 xR (by omega)
  refine At.heap (h' := sR HR t 2 (some (hZ H2))) rfl ?_
  generalize sR HR t 2 (some (hZ H2)) = H3 at *
  have y3 : hTy H3 t = (5, 0) := (A3.2.1 t (by omega)).trans y2
  refine x_1 (p' := 16) hC rfl rfl rfl rfl ?_
  refine x_1 (p' := 17) hC rfl rfl rfl rfl ?_
  refine x_newr (p' := 18) hC rfl rfl rfl (by decide) ?_
  refine x_putR (p' := 19) hC rfl rfl rfl (by rw [hTy_new (by omega), y3]) h3 ?_
  obtain ⟨A5, z5, u5, e5, r5, q5, j5⟩ := mkA H3 t 3 (200, 8) 8 (by omega)
  refine At.heap (h' := sR (sNew H3 (200, 8) 8) t 3 (some (hZ H3))) rfl ?_
  generalize sR (sNew H3 (200, 8) 8) t 3 (some (hZ H3)) = H5 at *
  have y5 : hTy H5 t = (5, 0) := (A5.2.1 t (by omega)).trans y3
  refine x_1 (p' := 20) hC rfl rfl rfl rfl ?_
  refine x_1 (p' := 21) hC rfl rfl rfl rfl ?_
  refine x_putI (p' := 22) hC rfl rfl rfl (by show (hTy H5 t).1 = 4 + 1; rw [y5]) (h3) ?_
  refine x_1 (p' := 23) hC rfl rfl rfl rfl ?_
  refine x_1 (p' := 24) hC rfl rfl rfl rfl ?_
  refine x_putI (p' := 25) hC rfl rfl rfl (by show (hTy H5 t).1 = 4 + 1; rw [y5]) (h3) ?_
  refine x_1 (p' := 26) hC rfl rfl rfl rfl ?_
  refine x_1 (p' := 27) hC rfl rfl rfl rfl ?_
  refine x_putI (p' := 28) hC rfl rfl rfl (by show (hTy H5 t).1 = 4 + 1; rw [y5]) (h3) ?_
  refine x_1 (p' := 29) hC rfl rfl rfl rfl ?_
  refine x_1 (p' := 30) hC rfl rfl rfl rfl ?_
  refine x_putI (p' := 31) hC rfl rfl rfl (by show (hTy H5 t).1 = 4 + 1; rw [y5]) (h3) ?_
  refine x_1 (p' := 32) hC rfl rfl rfl rfl ?_
  refine x_1 (p' := 33) hC rfl rfl rfl rfl ?_
  refine x_putI (p' := 34) hC rfl rfl rfl (by show (hTy H5 t).1 = 4 + 1; rw [y5]) (h3) ?_
  obtain ⟨H6, hH6⟩ : ∃ H6, H6 = sI (sI (sI (sI (sI H5 t ((4 : Nat) : Int) 0) t ((5 : Nat) : Int) 0) t ((6 : Nat) : Int) 0) t ((7 : Nat) : Int) 0) t ((8 : Nat) : Int) 0 := ⟨_, rfl⟩
  have A6 : Al t H5 H6 := by rw [hH6]; exact (((Al.sI.trans Al.sI).trans Al.sI).trans Al.sI).trans Al.sI
  have z6 : hZ H6 = hZ H5 := by rw [hH6]; rfl
  have u6 : hU H6 = hU H5 := by rw [hH6]; rfl
  have q6 : hR H6 = hR H5 := by rw [hH6]; rfl
  have y6 : hTy H6 t = (5, 0) := (A6.2.1 t (by omega)).trans y5
  have j6 : ∀ k : Int, 4 ≤ k → k ≤ 8 → hI H6 t k = 0 := fun k k0 k1 => by
    rw [hH6]
    rcases (show k = 4 ∨ k = 5 ∨ k = 6 ∨ k = 7 ∨ k = 8 by omega) with q | q | q | q | q
    all_goals (subst q; repeat (first | exact hI_z (Or.inl rfl) | refine hI_z (Or.inr ?_)))
  refine At.heap (h' := H6) hH6.symm ?_
  refine x_1 (p' := 35) hC rfl rfl rfl rfl ?_
  refine x_new (p' := 36) hC rfl rfl rfl ?_
  refine x_1 (p' := 37) hC rfl rfl rfl rfl ?_
  refine x_cVN0 (p' := 38) (n := 81) hC rfl rfl rfl rfl rfl ?_
  refine sp_F_init2 (h := H6) (by omega) (fun HF xF zF uF FF => ?_)
  refine x_putR (p' := 39) hC rfl rfl rfl (by rw [(Al.obj (t := t) xF).2.1 t (by omega), y6]) h3 ?_
  obtain ⟨A7, z7, u7, b7, r7, q7, j7⟩ := mkO H6 HF t 9 xF (by omega)
  refine At.heap (h' := sR HF t 9 (some (hZ H6))) rfl ?_
  generalize sR HF t 9 (some (hZ H6)) = H7 at *
  have y7 : hTy H7 t = (5, 0) := (A7.2.1 t (by omega)).trans y6
  refine x_1 (p' := 40) hC rfl rfl rfl rfl ?_
  refine x_1 (p' := 41) hC rfl rfl rfl rfl ?_
  refine x_newi (p' := 42) hC rfl rfl (by decide) ?_
  refine x_putR (p' := 43) hC rfl rfl rfl (by rw [hTy_new (by omega), y7]) h3 ?_
  obtain ⟨A8, z8, u8, e8, r8, q8, j8⟩ := mkA H7 t 10 (100, 15) 15 (by omega)
  refine At.heap (h' := sR (sNew H7 (100, 15) 15) t 10 (some (hZ H7))) rfl ?_
  generalize sR (sNew H7 (100, 15) 15) t 10 (some (hZ H7)) = H8 at *
  have y8 : hTy H8 t = (5, 0) := (A8.2.1 t (by omega)).trans y7
  refine x_1 (p' := 44) hC rfl rfl rfl rfl ?_
  refine x_1 (p' := 45) hC rfl rfl rfl rfl ?_
  refine x_newi (p' := 46) hC rfl rfl (by decide) ?_
  refine x_putR (p' := 47) hC rfl rfl rfl (by rw [hTy_new (by omega), y8]) h3 ?_
  obtain ⟨A9, z9, u9, e9, r9, q9, j9⟩ := mkA H8 t 11 (100, 20) 20 (by omega)
  refine At.heap (h' := sR (sNew H8 (100, 20) 20) t 11 (some (hZ H8))) rfl ?_
  generalize sR (sNew H8 (100, 20) 20) t 11 (some (hZ H8)) = H9 at *
  have y9 : hTy H9 t = (5, 0) := (A9.2.1 t (by omega)).trans y8
  refine x_1 (p' := 48) hC rfl rfl rfl rfl ?_
  refine x_stI1 (p' := 49) hC rfl rfl rfl ?_
  have X8 := A9
  have X7 := A8.trans X8
  have X6 := A7.trans X7
  have X5 := A6.trans X6
  have X3 := A5.trans X5
  have X2 := A3.trans X3
  have X1 := A2.trans X2
  have X0 := A1.trans X1
  have rr : ∀ j : Int, j ≠ 9 → j ≠ 10 → j ≠ 11 → hR H9 t j = hR H5 t j := fun j h9 h10 h11 => by rw [q9 j h11, q8 j h10, q7 j h9, q6]
  have hBF : BF t H9 := by
    refine ⟨⟨y9, ?_, ?_, ?_, ?_, ?_⟩, ?_, ?_, ⟨?_, ?_, ?_, ?_, ?_, ?_, ?_⟩, fun k k0 k1 => ?_⟩
    · rw [X1.2.1 _ (by omega), hz]; exact e1
    · rw [X2.2.1 _ (by omega), show t + 2 = hZ H1 by omega]; exact e2
    · rw [X5.2.1 _ (by omega), show t + 5 = hZ H3 by omega]; exact e5
    · rw [X8.2.1 _ (by omega), show t + 9 = hZ H7 by omega]; exact e8
    · rw [show t + 10 = hZ H8 by omega]; exact e9
    · rw [show t + 3 = hZ H2 by omega]; exact (FR.keep b3 (by omega) (by omega) (by omega)).keep X3 (by omega) (by omega) (by omega)
    · rw [show t + 6 = hZ H6 by omega]; exact (FF.keep b7 (by omega) (by omega)).keep X7 (by omega) (by omega)
    · rw [rr 0 (by decide) (by decide) (by decide), q5 0 (by decide), q3 0 (by decide), q2 0 (by decide), r1, ← hz]
    · rw [rr 1 (by decide) (by decide) (by decide), q5 1 (by decide), q3 1 (by decide), r2]; congr 1; omega
    · rw [rr 2 (by decide) (by decide) (by decide), q5 2 (by decide), r3]; congr 1; omega
    · rw [rr 3 (by decide) (by decide) (by decide), r5]; congr 1; omega
    · rw [q9 9 (by decide), q8 9 (by decide), r7]; congr 1; omega
    · rw [q9 10 (by decide), r8]; congr 1; omega
    · rw [r9]; congr 1; omega
    · rw [j9, j8, j7]; exact j6 k k0 k1
  exact lp_T_mk1 h3 hO hw hob K _ 0 H9 (Nat.lt_succ_self _) (by omega) (OldS.refl.al X0 (Nat.le_refl _) (by omega)) ⟨by omega, by omega⟩ hBF (fun j hj => absurd hj (Nat.not_lt_zero _))
set_option maxRecDepth 20000 in
set_option maxHeartbeats 2000000 in
theorem sp_O_init {d : Nat} {h : HP} {a : Nat} (hK0 : hTy h a = (3, 0)) (h3 : 3 ≤ a) (hz : a + 1 = hZ h) {Q : HP → Prop} (K : ∀ H', Al a h H' → hZ H' = a + 3 → hU H' = hU h + 63 → (hTy H' a = (3, 0) ∧ hTy H' (a + 1) = (101, 60) ∧ hTy H' (a + 2) = (100, 3) ∧ hR H' a 0 = some (a + 1) ∧ hR H' a 4 = some (a + 2)) → hI H' a 1 = 0 → Q H') : CaV (d + 1) 156 [.inr (some a)] h Q := by
  have hC : cod 156 = c_O_init := rfl
  refine CaV.start rfl ?_
  refine x_1 (p' := 1) hC rfl rfl rfl rfl ?_
  refine x_obj (p' := 2) hC rfl rfl rfl ?_
  refine x_1 (p' := 3) hC rfl rfl rfl rfl ?_
  refine x_1 (p' := 4) hC rfl rfl rfl rfl ?_
  refine x_newc (p' := 5) hC rfl rfl (by decide) ?_
  refine x_putR (p' := 6) hC rfl rfl rfl (by rw [hTy_new (by omega), hK0]) h3 ?_
  obtain ⟨A1, z1, u1, e1, r1, q1, j1⟩ := mkA h a 0 (101, 60) 60 (by omega)
  refine At.heap (h' := sR (sNew h (101, 60) 60) a 0 (some (hZ h))) rfl ?_
  generalize sR (sNew h (101, 60) 60) a 0 (some (hZ h)) = H1 at *
  have y1 : hTy H1 a = (3, 0) := (A1.2.1 a (by omega)).trans hK0
  have y1t : (hTy H1 a).1 = 2 + 1 := by rw [y1]
  refine x_1 (p' := 7) hC rfl rfl rfl rfl ?_
  refine x_1 (p' := 8) hC rfl rfl rfl rfl ?_
  refine x_putI (p' := 9) hC rfl rfl rfl (y1t) (by omega) ?_
  refine x_1 (p' := 10) hC rfl rfl rfl rfl ?_
  refine x_1 (p' := 11) hC rfl rfl rfl rfl ?_
  refine x_putI (p' := 12) hC rfl rfl rfl (y1t) (by omega) ?_
  refine x_1 (p' := 13) hC rfl rfl rfl rfl ?_
  refine x_1 (p' := 14) hC rfl rfl rfl rfl ?_
  refine x_putB (p' := 15) hC rfl rfl rfl (y1t) (by omega) (by decide) ?_
  refine x_1 (p' := 16) hC rfl rfl rfl rfl ?_
  refine x_1 (p' := 17) hC rfl rfl rfl rfl ?_
  refine x_newi (p' := 18) hC rfl rfl (by decide) ?_
  refine x_putR (p' := 19) hC rfl rfl rfl (by rw [hTy_new (by show a < hZ H1; omega)]; exact y1t) h3 ?_
  obtain ⟨H2, hH2⟩ : ∃ H2, H2 = sI (sI (sI H1 a ((1 : Nat) : Int) 0) a ((2 : Nat) : Int) 0) a ((3 : Nat) : Int) 32 := ⟨_, rfl⟩
  have A2 : Al a H1 H2 := by rw [hH2]; exact (Al.sI.trans Al.sI).trans Al.sI
  have z2 : hZ H2 = hZ H1 := by rw [hH2]; rfl
  have u2 : hU H2 = hU H1 := by rw [hH2]; rfl
  have g2 : hR H2 = hR H1 := by rw [hH2]; rfl
  have j2 : hI H2 a 1 = 0 := by rw [hH2, hI_sI, if_neg (fun q => absurd q.2 (by decide))]; exact hI_z (Or.inr (hI_z (Or.inl rfl)))
  have y2 : hTy H2 a = (3, 0) := (A2.2.1 a (by omega)).trans y1
  obtain ⟨A3, z3, u3, e3, r3, q3, j3⟩ := mkA H2 a 4 (100, 3) 3 (by omega)
  refine At.heap (h' := sR (sNew H2 (100, 3) 3) a 4 (some (hZ H2))) (by rw [hH2]; rfl) ?_
  generalize sR (sNew H2 (100, 3) 3) a 4 (some (hZ H2)) = H3 at *
  have y3 : hTy H3 a = (3, 0) := (A3.2.1 a (by omega)).trans y2
  have y3t : (hTy H3 a).1 = 2 + 1 := by rw [y3]
  refine x_1 (p' := 20) hC rfl rfl rfl rfl ?_
  refine x_1 (p' := 21) hC rfl rfl rfl rfl ?_
  refine x_putI (p' := 22) hC rfl rfl rfl (y3t) (by omega) ?_
  refine x_1 (p' := 23) hC rfl rfl rfl rfl ?_
  refine x_1 (p' := 24) hC rfl rfl rfl rfl ?_
  refine x_putI (p' := 25) hC rfl rfl rfl (y3t) (by omega) ?_
  refine x_1 (p' := 26) hC rfl rfl rfl rfl ?_
  refine x_1 (p' := 27) hC rfl rfl rfl rfl ?_
  refine x_putI (p' := 28) hC rfl rfl rfl (y3t) (by omega) ?_
  refine x_ret hC rfl rfl rfl ⟨rfl, ?_⟩
  refine K _ (((((A1.trans A2).trans A3).trans Al.sI).trans Al.sI).trans Al.sI) (by show hZ H3 = _; omega) (by show hU H3 = _; omega) ⟨y3, ?_, ?_, ?_, ?_⟩ ?_
  · show hTy H3 (a + 1) = _
    rw [A3.2.1 _ (by omega), A2.2.1 _ (by omega), hz]; exact e1
  · show hTy H3 (a + 2) = _
    rw [show a + 2 = hZ H2 by omega]; exact e3
  · show hR H3 a 0 = _
    rw [q3 0 (by decide), g2, r1, ← hz]
  · show hR H3 a 4 = _
    rw [r3]; congr 1; omega
  · rw [hI_sI, if_neg (fun q => absurd q.2 (by decide)), hI_sI, if_neg (fun q => absurd q.2 (by decide)), hI_sI, if_neg (fun q => absurd q.2 (by decide)), j3]
    exact j2
/-- whose a cell of the class is: the trees lie at 8, 88, .., 408 -/
def oG : Nat → Nat := fun b => if 8 ≤ b ∧ b < 488 then b - (b - 8) % 80 + ow ((b - 8) % 80) else b
theorem oG_in {k n : Nat} (hk : k < 6) (hn : n < 80) : oG (8 + 80 * k + n) = 8 + 80 * k + ow n := by
  unfold oG
  rw [if_pos ⟨by omega, by omega⟩, show (8 + 80 * k + n - 8) % 80 = n by omega]
  omega
theorem oG_out {b : Nat} (h : b < 8 ∨ 488 ≤ b) : oG b = b := by
  unfold oG
  rw [if_neg (by omega)]
theorem ow_80 {n : Nat} (h : n < 80) : ow n < 80 := ow_lt ⟨n, h⟩
theorem oG_ob {k b : Nat} (hk : k < 6) (hb : b < 8 + 80 * k) : ¬ (8 + 80 * k ≤ oG b ∧ oG b < 8 + 80 * k + 80) := by
  by_cases h : b < 8
  · rw [oG_out (Or.inl h)]; omega
  · have e := oG_in (k := (b - 8) / 80) (n := (b - 8) % 80) (by omega) (by omega)
    rw [show 8 + 80 * ((b - 8) / 80) + (b - 8) % 80 = b by omega] at e
    have := ow_80 (n := (b - 8) % 80) (by omega)
    omega
def wG : Nat → Nat × Nat := fun _ => (0, 8)
/-- a tree stays, where its cells stay -/
theorem TR.same {t : Nat} {G H : HP} {o : Nat → Nat} {w : Nat → Nat × Nat} {S : Nat → Int → Int} {R : Nat → List FV} (T : TR t G o w S R) (ht : 8 ≤ t) (ho : o 3 = 3 ∧ o 4 = 4) (hz : hZ G ≤ hZ H) (hy : ∀ b, b < hZ G → hTy H b = hTy G b) (hs : ∀ b, b < hZ G → b ≠ 3 → b ≠ 4 → hI H b = hI G b ∧ hR H b = hR G b) : TR t H o w S R := by
  obtain ⟨K, T2, T3, T4⟩ := T
  have kb := K.2.1
  exact ⟨K.keep hz (fun m hm => hy _ (by omega)) (fun m hm _ _ => (hs _ (by omega) (by omega) (by omega)).2), T2, fun m hm => by rw [(hs _ (by omega) (by omega) (by omega)).1]; exact T3 m hm, fun m hm h2 => (T4 m hm h2).keep hz (fun b hb => ⟨hy b hb, rfl⟩) (fun b hb hb2 => hs b hb (fun e => by rw [e, ho.1] at hb2; omega) (fun e => by rw [e, ho.2] at hb2; omega)) rfl⟩

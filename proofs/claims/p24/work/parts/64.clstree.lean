/-! THE CLASS: a row copied; a tree's cells -/
theorem ExtR.keep {G H : HP} {g o : Nat → Nat} {w0 w : Nat → Nat × Nat} {r r2 : Nat} {M : List FV} (E : ExtR G g w0 r H o w) (n : r2 ≠ r) (P : RowP G g w0 r2 M) : RowP H o w r2 M :=
  P.keep E.1 E.2.1 (fun b hb ho => E.2.2.1 b hb (by rw [ho]; exact n)) (E.2.2.2.2.2.2.2.1 r2 n)
theorem take_ins {M : List FV} {i : Int} (h0 : 0 ≤ i) (h1 : i < (M.length : Nat)) : insA (M.take i.toNat) i (gt M i) = M.take (i + 1).toNat := by
  obtain ⟨n, rfl⟩ := Int.eq_ofNat_of_zero_le h0
  have hl : (M.take n).length = n := by rw [List.length_take]; omega
  refine list_ext_gt ?_ (fun k hk => ?_)
  · rw [insA_len, Int.toNat_natCast, hl, List.length_take]; omega
  · rw [insA_len, Int.toNat_natCast, hl] at hk
    rw [Int.toNat_natCast, gt_insA (by omega) (by rw [hl]; omega) (by omega) (by rw [hl]; omega), show ((n : Int) + 1).toNat = n + 1 by omega, gt_take (L := M) (m := n + 1) (k := k) (by omega)]
    by_cases c : k < n
    · rw [if_pos (by omega), gt_take c]
    · rw [if_neg (by omega), if_pos (by omega), show k = n by omega]
set_option maxRecDepth 20000 in
theorem lp_R_copy {d : Nat} {h : HP} {o : Nat → Nat} {w : Nat → Nat × Nat} {r r2 : Nat} {M : List FV} (hP2 : RowP h o w r2 M) (hn : r2 ≠ r) {Q : HP → Prop} (K : ∀ H' o' w', ExtR h o w r H' o' w' → RowP H' o' w' r M → Q H') (k : Nat) : ∀ (i : Int) (H : HP), ((M.length : Nat) - i).toNat < k → (0 ≤ i ∧ i ≤ (M.length : Nat)) → (∃ o1 w1, ExtR h o w r H o1 w1 ∧ RowP H o1 w1 r (M.take i.toNat)) → At (d + 3) 89 5 [some (.inr (some r)), some (.inr (some r2)), some (.inl i)] [] H (fun v h' => v = none ∧ Q h') := by
  have hC : cod 89 = c_R_copyFrom := rfl
  induction k with
  | zero =>
    intro i H hk
    exact absurd hk (Nat.not_lt_zero _)
  | succ k ih =>
    intro i H hk hI0 hI1
    obtain ⟨o1, w1, hE, hP⟩ := hI1
    obtain ⟨q1, q2, arr, ad, W, q3, q4⟩ := hE.keep hn hP2
    have hl := W.len
    refine x_1 (p' := 6) hC rfl rfl rfl rfl ?_
    refine x_1 (p' := 7) hC rfl rfl rfl rfl ?_
    refine z_rs (p' := 8) W hC rfl rfl ?_
    refine x_icge (p' := 9) hC rfl rfl (fun c8 => ?_) (fun c8 => ?_)
    · refine x_ret hC rfl rfl rfl ⟨rfl, ?_⟩
      rw [show i.toNat = M.length by omega, List.take_length] at hP
      exact K _ _ _ hE hP
    · refine x_1 (p' := 10) hC rfl rfl rfl rfl ?_
      refine x_1 (p' := 11) hC rfl rfl rfl rfl ?_
      refine x_1 (p' := 12) hC rfl rfl rfl rfl ?_
      refine z_rf (p' := 13) W hC rfl rfl ?_
      refine x_1 (p' := 14) hC rfl rfl rfl rfl ?_
      refine z_ra (p' := 15) W hC rfl rfl rfl (by omega) (by omega) (fun hF14 hV14 => ?_)
      refine x_cVV2 (p' := 16) (n := 90) hC rfl rfl rfl rfl rfl (hP.rty) ?_
      have hoi := q4 i.toNat (by have := W.2.2.2.2.1; omega)
      refine sp_R_insert hP (by rw [List.length_take]; omega) (by rw [List.length_take]; omega) hF14 ⟨by rw [hoi.1]; exact hn, by rw [hoi.2.1]; exact hn, by rw [hoi.2.2]; exact hn⟩ (fun H2 o2 w2 hE2 hP3 => ?_)
      rw [hV14, take_ins hI0.1 (by omega)] at hP3
      refine x_inc2 (p' := 17) hC rfl rfl (⟨by omega, by omega⟩) ?_
      refine x_1 (p' := 5) hC rfl rfl rfl rfl ?_
      exact ih _ H2 (by omega) (by omega) ⟨o2, w2, hE.trans hE2, hP3⟩
set_option maxRecDepth 20000 in
set_option maxHeartbeats 2000000 in
theorem sp_R_copyFrom {d : Nat} {h : HP} {o : Nat → Nat} {w : Nat → Nat × Nat} {r r2 : Nat} {M : List FV} (hP2 : RowP h o w r2 M) (hn : r2 ≠ r) {Q : HP → Prop} (K : ∀ H' o' w', ExtR h o w r H' o' w' → RowP H' o' w' r M → Q H') {L : List FV} (hP : RowP h o w r L) : CaV (d + 3) 89 [.inr (some r), .inr (some r2)] h Q := by
  have hC : cod 89 = c_R_copyFrom := rfl
  refine CaV.start rfl ?_
  have hc0 := hP.cut (k := 0) (Nat.zero_le _)
  rw [List.take_zero] at hc0
  refine x_1 (p' := 1) hC rfl rfl rfl rfl ?_
  refine x_1 (p' := 2) hC rfl rfl rfl rfl ?_
  refine x_putI (p' := 3) hC rfl rfl rfl hP.rty (by obtain ⟨_, _, _, _, W, _⟩ := hP; exact W.1.1) ?_
  refine x_1 (p' := 4) hC rfl rfl rfl rfl ?_
  refine x_stI2 (p' := 5) hC rfl rfl rfl ?_
  exact lp_R_copy hP2 hn K _ 0 _ (Nat.lt_succ_self _) (by omega) ⟨o, w, hc0.1, hc0.2⟩
def skL : List (Nat × Nat) := [(5, 0), (201, 5), (205, 10), (4, 0), (200, 8), (200, 8), (1, 0), (100, 10), (100, 10), (100, 15), (100, 20),
  (2, 0), (100, 5), (4, 0), (200, 8), (1, 0), (100, 10), (100, 10), (2, 0), (100, 5), (4, 0), (200, 8), (1, 0), (100, 10), (100, 10), (2, 0), (100, 5), (4, 0), (200, 8), (1, 0), (100, 10), (100, 10), (2, 0), (100, 5), (4, 0), (200, 8), (1, 0), (100, 10), (100, 10), (2, 0), (100, 5), (4, 0), (200, 8), (1, 0), (100, 10), (100, 10),
  (6, 0), (6, 0), (6, 0), (6, 0), (6, 0), (6, 0), (6, 0), (6, 0), (6, 0), (6, 0),
  (1, 0), (100, 10), (100, 10), (1, 0), (100, 10), (100, 10), (1, 0), (100, 10), (100, 10), (1, 0), (100, 10), (100, 10), (1, 0), (100, 10), (100, 10), (1, 0), (100, 10), (100, 10), (1, 0), (100, 10), (100, 10), (1, 0), (100, 10), (100, 10)]
def skTy (n : Nat) : Nat × Nat := skL.getD n (0, 0)
/-- whose a cell of the tree is: a row's array is the row's -/
def ow (n : Nat) : Nat := if skTy n = (200, 8) ∧ n ≠ 5 then n - 1 else n
def SkT (t : Nat) (h : HP) : Prop := 3 ≤ t ∧ t + 80 ≤ hZ h ∧ (∀ n, n < 80 → hTy h (t + n) = skTy n) ∧ (hR h t 0 = some (t + 1) ∧ hR h t 1 = some (t + 2) ∧ hR h t 2 = some (t + 3) ∧ hR h t 3 = some (t + 5) ∧ hR h t 9 = some (t + 6) ∧ hR h t 10 = some (t + 9) ∧ hR h t 11 = some (t + 10)) ∧
  (∀ i : Nat, i < 5 → hR h (t + 1) i = some (t + (11 + 7 * i)) ∧ hR h (t + (11 + 7 * i)) 0 = some (t + (12 + 7 * i)) ∧ hR h (t + (11 + 7 * i)) 1 = some (t + (13 + 7 * i)) ∧ hR h (t + (11 + 7 * i)) 2 = some (t + (15 + 7 * i))) ∧ (∀ i : Nat, i < 10 → hR h (t + 2) i = some (t + (46 + i))) ∧ (∀ i : Nat, i < 8 → hR h (t + 5) i = some (t + (56 + 3 * i))) ∧ ∀ n, n < 80 → skTy n = (1, 0) → hR h (t + n) 6 = some (t + (n + 1)) ∧ hR h (t + n) 7 = some (t + (n + 2))
theorem sk_fr : ∀ n : Fin 80, skTy n.val = (1, 0) → skTy (n.val + 1) = (100, 10) ∧ skTy (n.val + 2) = (100, 10) ∧ n.val + 2 < 80 := by decide
theorem sk_row : ∀ n : Fin 80, skTy n.val = (4, 0) → n.val = 3 ∨ n.val = 13 ∨ n.val = 20 ∨ n.val = 27 ∨ n.val = 34 ∨ n.val = 41 := by decide
theorem sk_ow : ∀ n m : Fin 80, ow n.val = m.val → skTy m.val = (4, 0) → n.val = m.val ∨ skTy n.val = (200, 8) := by decide +kernel
theorem ow_ne : ∀ n : Fin 80, skTy n.val ≠ (200, 8) → ow n.val = n.val := by decide
theorem ow_lt : ∀ n : Fin 80, ow n.val < 80 := by decide
theorem sk_h : ∀ i : Fin 5, skTy (11 + 7 * i.val) = (2, 0) ∧ skTy (12 + 7 * i.val) = (100, 5) ∧ skTy (13 + 7 * i.val) = (4, 0) ∧ skTy (15 + 7 * i.val) = (1, 0) := by decide
theorem sk_u : ∀ i : Fin 10, skTy (46 + i.val) = (6, 0) := by decide
theorem sk_o : ∀ i : Fin 8, skTy (56 + 3 * i.val) = (1, 0) := by decide
theorem SkT.fr {t n : Nat} {h : HP} (K : SkT t h) (hn : n < 80) (ht : skTy n = (1, 0)) : FrP h (t + n) := by
  have h1 := sk_fr ⟨n, hn⟩ ht
  dsimp only at h1
  obtain ⟨k1, k2, k3, k4, k5, k6, k7, k8⟩ := K
  have h8 := k8 n hn ht
  exact ⟨by omega, by omega, by rw [k3 n hn]; exact ht, by rw [show t + n + 1 = t + (n + 1) by omega, k3 _ (by omega)]; exact h1.1, by rw [show t + n + 2 = t + (n + 2) by omega, k3 _ (by omega)]; exact h1.2.1, by rw [h8.1]; congr 1, by rw [h8.2]; congr 1⟩
theorem SkT.ty {t : Nat} {h : HP} (K : SkT t h) : (hTy h t).1 = 4 + 1 := by
  have := K.2.2.1 0 (by decide)
  rw [Nat.add_zero] at this
  rw [this]; rfl
theorem SkT.hty {t : Nat} {h : HP} (K : SkT t h) {g : Int} (h0 : 0 ≤ g) (h1 : g < 5) : (hTy h (t + (11 + 7 * g.toNat))).1 = 1 + 1 := by
  rw [K.2.2.1 _ (by omega), (sk_h ⟨g.toNat, by omega⟩).1]
theorem SkT.sty {t : Nat} {h : HP} (K : SkT t h) {g : Int} (h0 : 0 ≤ g) (h1 : g < 5) : hTy h (t + (12 + 7 * g.toNat)) = (100, 5) := by
  rw [K.2.2.1 _ (by omega), (sk_h ⟨g.toNat, by omega⟩).2.1]
theorem SkT.uty {t : Nat} {h : HP} (K : SkT t h) {u : Int} (h0 : 0 ≤ u) (h1 : u < 10) : (hTy h (t + (46 + u.toNat))).1 = 5 + 1 := by
  rw [K.2.2.1 _ (by omega), sk_u ⟨u.toNat, by omega⟩]
theorem SkT.held {t : Nat} {h : HP} (K : SkT t h) {g : Int} (h0 : 0 ≤ g) (h1 : g < 5) : FrP h (t + (15 + 7 * g.toNat)) := K.fr (by omega) (sk_h ⟨g.toNat, by omega⟩).2.2.2
theorem SkT.outp {t : Nat} {h : HP} (K : SkT t h) {i : Int} (h0 : 0 ≤ i) (h1 : i < 8) : FrP h (t + (56 + 3 * i.toNat)) := K.fr (by omega) (sk_o ⟨i.toNat, by omega⟩)
theorem SkT.built {t : Nat} {h : HP} (K : SkT t h) : FrP h (t + 6) := K.fr (by decide) (by decide)
def Sk : Type := Nat → Int → Int
def cT (S : Nat → Int → Int) (k : Int) : Int := S 0 k
def cH (S : Nat → Int → Int) (g k : Int) : Int := S (11 + 7 * g.toNat) k
def cSe (S : Nat → Int → Int) (g k : Int) : Int := S (12 + 7 * g.toNat) k
def cU (S : Nat → Int → Int) (u k : Int) : Int := S (46 + u.toNat) k
/-- the frame at cell n of a tree -/
def SF (S : Nat → Int → Int) (n : Nat) : FV := fun k => if k < 0 then 0 else if k < 6 then S n k else if k < 16 then S (n + 1) (k - 6) else if k < 26 then S (n + 2) (k - 16) else 0
theorem SF_eq {t n : Nat} {h : HP} {S : Nat → Int → Int} (hS : ∀ n, n < 80 → hI h (t + n) = S n) (hn : n + 2 < 80) : fV h (t + n) = SF S n := by
  unfold fV SF
  rw [hS n (by omega), show t + n + 1 = t + (n + 1) by omega, hS (n + 1) (by omega), show t + n + 2 = t + (n + 2) by omega, hS (n + 2) (by omega)]
section ZT
variable {d y pos p' : Nat} {ls : Ls} {h : HP} {Q : Option AV → HP → Prop} {C : List Ins} {t : Nat} {S : Nat → Int → Int} {st : List AV}
theorem z_ti (hK : SkT t h) (hS : ∀ n, n < 80 → hI h (t + n) = S n) (hC : cod y = C) {idx : Nat} {v : Int} {k w : Nat} {sw : List Nat} (hi : C[pos]? = some (.getfield idx, v, 4, k, w, sw)) (hp : pos + 1 = p') (hk : (Nat.blt k (fcn 4) && !(fkd 4 k == 1)) = true) {kz : Int} (hkz : ((k : Nat) : Int) = kz) (kk : At d y p' ls (.inl (cT S kz) :: st) h Q) : At d y pos ls (.inr (some t) :: st) h Q := by
  subst hkz
  refine x_getI hC hi hp hk hK.ty ?_
  have := hS 0 (by decide)
  rw [Nat.add_zero] at this
  rw [this]; exact kk
def tRf (k : Nat) : Nat := [1, 2, 3, 5, 0, 0, 0, 0, 0, 6, 9, 10].getD k 0
theorem z_tr (hK : SkT t h) (hC : cod y = C) {idx : Nat} {v : Int} {k w n : Nat} {sw : List Nat} (hi : C[pos]? = some (.getfield idx, v, 4, k, w, sw)) (hp : pos + 1 = p') (hk : (Nat.blt k (fcn 4) && (fkd 4 k == 1)) = true) (hn : (tRf k == n && !(n == 0)) = true) (kk : At d y p' ls (.inr (some (t + n)) :: st) h Q) : At d y pos ls (.inr (some t) :: st) h Q := by
  simp only [Bool.and_eq_true, beq_iff_eq, Bool.not_eq_true', beq_eq_false_iff_ne] at hn
  obtain ⟨h1, h2⟩ := hn
  subst h1
  refine x_getR hC hi hp hk hK.ty ?_ kk
  obtain ⟨a0, a1, a2, a3, a9, a10, a11⟩ := hK.2.2.2.1
  match k, h2 with
  | 0, _ => exact a0
  | 1, _ => exact a1
  | 2, _ => exact a2
  | 3, _ => exact a3
  | 4, h => exact absurd rfl h
  | 5, h => exact absurd rfl h
  | 6, h => exact absurd rfl h
  | 7, h => exact absurd rfl h
  | 8, h => exact absurd rfl h
  | 9, _ => exact a9
  | 10, _ => exact a10
  | 11, _ => exact a11
  | k + 12, h => exact absurd rfl h
theorem z_hub (hK : SkT t h) (hC : cod y = C) {i : Ins} {j : Int} (hi : C[pos]? = some i) (hI0 : i.1 = .aaload) (hp : pos + 1 = p') (h0 : 0 ≤ j) (h1 : j < 5) (kk : At d y p' ls (.inr (some (t + (11 + 7 * j.toNat))) :: st) h Q) : At d y pos ls (.inl j :: .inr (some (t + 1)) :: st) h Q := by
  refine x_aald (t := 201) (n := 5) hC hi hI0 hp (hK.2.2.1 1 (by decide)) rfl h0 h1 ?_ kk
  have := (hK.2.2.2.2.1 j.toNat (by omega)).1
  rwa [Int.toNat_of_nonneg h0] at this
theorem z_unit (hK : SkT t h) (hC : cod y = C) {i : Ins} {j : Int} (hi : C[pos]? = some i) (hI0 : i.1 = .aaload) (hp : pos + 1 = p') (h0 : 0 ≤ j) (h1 : j < 10) (kk : At d y p' ls (.inr (some (t + (46 + j.toNat))) :: st) h Q) : At d y pos ls (.inl j :: .inr (some (t + 2)) :: st) h Q := by
  refine x_aald (t := 205) (n := 10) hC hi hI0 hp (hK.2.2.1 2 (by decide)) rfl h0 h1 ?_ kk
  have := hK.2.2.2.2.2.1 j.toNat (by omega)
  rwa [Int.toNat_of_nonneg h0] at this
theorem z_out (hK : SkT t h) (hC : cod y = C) {i : Ins} {j : Int} (hi : C[pos]? = some i) (hI0 : i.1 = .aaload) (hp : pos + 1 = p') (h0 : 0 ≤ j) (h1 : j < 8) (kk : At d y p' ls (.inr (some (t + (56 + 3 * j.toNat))) :: st) h Q) : At d y pos ls (.inl j :: .inr (some (t + 5)) :: st) h Q := by
  refine x_aald (t := 200) (n := 8) hC hi hI0 hp (hK.2.2.1 5 (by decide)) rfl h0 h1 ?_ kk
  have := hK.2.2.2.2.2.2.1 j.toNat (by omega)
  rwa [Int.toNat_of_nonneg h0] at this
theorem z_hg (hK : SkT t h) (hS : ∀ n, n < 80 → hI h (t + n) = S n) {g : Int} (h0 : 0 ≤ g) (h1 : g < 5) (hC : cod y = C) {idx : Nat} {v : Int} {k w : Nat} {sw : List Nat} (hi : C[pos]? = some (.getfield idx, v, 1, k, w, sw)) (hp : pos + 1 = p') (hk : (Nat.blt k (fcn 1) && !(fkd 1 k == 1)) = true) {kz : Int} (hkz : ((k : Nat) : Int) = kz) (kk : At d y p' ls (.inl (cH S g kz) :: st) h Q) : At d y pos ls (.inr (some (t + (11 + 7 * g.toNat))) :: st) h Q := by
  subst hkz
  refine x_getI hC hi hp hk (hK.hty h0 h1) ?_
  rw [hS _ (by omega)]; exact kk
theorem z_hr0 (hK : SkT t h) {g : Int} (h0 : 0 ≤ g) (h1 : g < 5) (hC : cod y = C) {idx : Nat} {v : Int} {w : Nat} {sw : List Nat} (hi : C[pos]? = some (.getfield idx, v, 1, 0, w, sw)) (hp : pos + 1 = p') (kk : At d y p' ls (.inr (some (t + (12 + 7 * g.toNat))) :: st) h Q) : At d y pos ls (.inr (some (t + (11 + 7 * g.toNat))) :: st) h Q :=
  x_getR hC hi hp rfl (hK.hty h0 h1) (hK.2.2.2.2.1 g.toNat (by omega)).2.1 kk
theorem z_hr1 (hK : SkT t h) {g : Int} (h0 : 0 ≤ g) (h1 : g < 5) (hC : cod y = C) {idx : Nat} {v : Int} {w : Nat} {sw : List Nat} (hi : C[pos]? = some (.getfield idx, v, 1, 1, w, sw)) (hp : pos + 1 = p') (kk : At d y p' ls (.inr (some (t + (13 + 7 * g.toNat))) :: st) h Q) : At d y pos ls (.inr (some (t + (11 + 7 * g.toNat))) :: st) h Q :=
  x_getR hC hi hp rfl (hK.hty h0 h1) (hK.2.2.2.2.1 g.toNat (by omega)).2.2.1 kk
theorem z_hr2 (hK : SkT t h) {g : Int} (h0 : 0 ≤ g) (h1 : g < 5) (hC : cod y = C) {idx : Nat} {v : Int} {w : Nat} {sw : List Nat} (hi : C[pos]? = some (.getfield idx, v, 1, 2, w, sw)) (hp : pos + 1 = p') (kk : At d y p' ls (.inr (some (t + (15 + 7 * g.toNat))) :: st) h Q) : At d y pos ls (.inr (some (t + (11 + 7 * g.toNat))) :: st) h Q :=
  x_getR hC hi hp rfl (hK.hty h0 h1) (hK.2.2.2.2.1 g.toNat (by omega)).2.2.2 kk
theorem z_sl (hK : SkT t h) (hS : ∀ n, n < 80 → hI h (t + n) = S n) {g : Int} (g0 : 0 ≤ g) (g1 : g < 5) (hC : cod y = C) {i : Ins} {j : Int} (hi : C[pos]? = some i) (hI0 : i.1 = .iaload) (hp : pos + 1 = p') (h0 : 0 ≤ j) (h1 : j < 5) (kk : At d y p' ls (.inl (cSe S g j) :: st) h Q) : At d y pos ls (.inl j :: .inr (some (t + (12 + 7 * g.toNat))) :: st) h Q := by
  refine x_iald hC hi hI0 hp (hK.sty g0 g1) h0 h1 ?_
  rw [hS _ (by omega)]; exact kk
theorem z_ug (hK : SkT t h) (hS : ∀ n, n < 80 → hI h (t + n) = S n) {u : Int} (h0 : 0 ≤ u) (h1 : u < 10) (hC : cod y = C) {idx : Nat} {v : Int} {k w : Nat} {sw : List Nat} (hi : C[pos]? = some (.getfield idx, v, 5, k, w, sw)) (hp : pos + 1 = p') (hk : (Nat.blt k (fcn 5) && !(fkd 5 k == 1)) = true) {kz : Int} (hkz : ((k : Nat) : Int) = kz) (kk : At d y p' ls (.inl (cU S u kz) :: st) h Q) : At d y pos ls (.inr (some (t + (46 + u.toNat))) :: st) h Q := by
  subst hkz
  refine x_getI hC hi hp hk (hK.uty h0 h1) ?_
  rw [hS _ (by omega)]; exact kk
end ZT
def pot (t : Nat) (w : Nat → Nat × Nat) : Nat := kap (w (t + 3)) + kap (w (t + 13)) + kap (w (t + 20)) + kap (w (t + 27)) + kap (w (t + 34)) + kap (w (t + 41))
/-- from G to H only what the tree t owns has changed -/
def ExtT (G : HP) (g : Nat → Nat) (w0 : Nat → Nat × Nat) (t : Nat) (H : HP) (o : Nat → Nat) (w : Nat → Nat × Nat) : Prop :=
  hZ G ≤ hZ H ∧ (∀ b, b < hZ G → hTy H b = hTy G b ∧ o b = g b) ∧ (∀ b, b < hZ G → ¬ (t ≤ g b ∧ g b < t + 80) → hI H b = hI G b ∧ hR H b = hR G b) ∧ (∀ b, hZ G ≤ b → b < hZ H → t ≤ o b ∧ o b < t + 80) ∧ (∀ b, FrP G b → FrP H b) ∧ (∀ q, ¬ (t ≤ q ∧ q < t + 80) → w q = w0 q) ∧ hU H + pot t w0 = hU G + pot t w ∧ 9 * hZ H + hU G ≤ 9 * hZ G + hU H
theorem ExtT.refl {G : HP} {g : Nat → Nat} {w0 : Nat → Nat × Nat} {t : Nat} : ExtT G g w0 t G g w0 :=
  ⟨Nat.le_refl _, fun _ _ => ⟨rfl, rfl⟩, fun _ _ _ => ⟨rfl, rfl⟩, fun b h1 h2 => absurd h2 (by omega), fun _ h => h, fun _ _ => rfl, rfl, Nat.le_refl _⟩
theorem ExtT.trans {G H H' : HP} {g o o' : Nat → Nat} {w0 w w' : Nat → Nat × Nat} {t : Nat} (a : ExtT G g w0 t H o w) (b : ExtT H o w t H' o' w') : ExtT G g w0 t H' o' w' := by
  obtain ⟨a1, a2, a3, a4, a5, a6, a7, a8⟩ := a
  obtain ⟨b1, b2, b3, b4, b5, b6, b7, b8⟩ := b
  refine ⟨by omega, fun c hc => ?_, fun c hc hg => ?_, fun c h1 h2 => ?_, fun c hc => b5 c (a5 c hc), fun q hq => ?_, by omega, by omega⟩
  · exact ⟨by rw [(b2 c (by omega)).1, (a2 c hc).1], by rw [(b2 c (by omega)).2, (a2 c hc).2]⟩
  · have h1 := a3 c hc hg
    have h2 := b3 c (by omega) (by rw [(a2 c hc).2]; exact hg)
    exact ⟨by rw [h2.1, h1.1], by rw [h2.2, h1.2]⟩
  · rcases Nat.lt_or_ge c (hZ H) with h | h
    · rw [(b2 c h).2]; exact a4 c h1 h
    · exact b4 c h h2
  · rw [b6 q hq, a6 q hq]
/-- the tree at t: its cells hold S, its rows (3: the way's; 13 + 7 g: the hub g's) the lists R -/
def TR (t : Nat) (H : HP) (o : Nat → Nat) (w : Nat → Nat × Nat) (S : Nat → Int → Int) (R : Nat → List FV) : Prop :=
  SkT t H ∧ (∀ n, n < 80 → o (t + n) = t + ow n) ∧ (∀ n, n < 80 → hI H (t + n) = S n) ∧ ∀ n, n < 80 → skTy n = (4, 0) → RowP H o w (t + n) (R n)
def upR (R : Nat → List FV) (n : Nat) (L : List FV) : Nat → List FV := fun m => if m = n then L else R m
theorem upR_eq {R : Nat → List FV} {n : Nat} {L : List FV} : upR R n L n = L := if_pos rfl
theorem upR_ne {R : Nat → List FV} {n m : Nat} {L : List FV} (h : m ≠ n) : upR R n L m = R m := if_neg h
theorem SkT.keep {t : Nat} {h h' : HP} (K : SkT t h) (hz : hZ h ≤ hZ h') (ht : ∀ n, n < 80 → hTy h' (t + n) = hTy h (t + n)) (hr : ∀ n, n < 80 → skTy n ≠ (4, 0) → (skTy n ≠ (200, 8) ∨ n = 5) → hR h' (t + n) = hR h (t + n)) : SkT t h' := by
  obtain ⟨k1, k2, k3, ⟨a0, a1, a2, a3, a9, a10, a11⟩, k5, k6, k7, k8⟩ := K
  have h0 := hr 0 (by decide) (by decide) (Or.inl (by decide))
  rw [Nat.add_zero] at h0
  refine ⟨k1, by omega, fun n hn => by rw [ht n hn]; exact k3 n hn, ⟨by rw [h0]; exact a0, by rw [h0]; exact a1, by rw [h0]; exact a2, by rw [h0]; exact a3, by rw [h0]; exact a9, by rw [h0]; exact a10, by rw [h0]; exact a11⟩, fun i hi => ?_, fun i hi => ?_, fun i hi => ?_, fun n hn h1 => ?_⟩
  · have hh := hr (11 + 7 * i) (by omega) (by rw [(sk_h ⟨i, hi⟩).1]; decide) (Or.inl (by rw [(sk_h ⟨i, hi⟩).1]; decide))
    rw [hh, hr 1 (by decide) (by decide) (Or.inl (by decide))]
    exact k5 i hi
  · rw [hr 2 (by decide) (by decide) (Or.inl (by decide))]
    exact k6 i hi
  · rw [hr 5 (by decide) (by decide) (Or.inr rfl)]
    exact k7 i hi
  · rw [hr n hn (by rw [h1]; decide) (Or.inl (by rw [h1]; decide))]
    exact k8 n hn h1
theorem ow_row {n m : Nat} (hn : n < 80) (hm : m < 80) (h : ow n = m) (ht : skTy m = (4, 0)) : n = m ∨ (skTy n = (200, 8) ∧ n ≠ 5) := by
  rcases sk_ow ⟨n, hn⟩ ⟨m, hm⟩ h ht with h1 | h1
  · exact Or.inl h1
  · refine Or.inr ⟨h1, ?_⟩
    rintro rfl
    have h1 : skTy 5 = (200, 8) := h1
    have h2 : m = 5 := by rw [← h]; decide
    rw [h2] at ht
    exact absurd ht (by decide)
/-- a row of the tree changes -/
theorem TR.row {t : Nat} {H H' : HP} {o o' : Nat → Nat} {w w' : Nat → Nat × Nat} {S : Nat → Int → Int} {R : Nat → List FV} (T : TR t H o w S R) {n : Nat} (hn : n < 80) (hr : skTy n = (4, 0)) {L : List FV} (E : ExtR H o w (t + n) H' o' w') (P : RowP H' o' w' (t + n) L) : ExtT H o w t H' o' w' ∧ TR t H' o' w' (upX S n 1 (L.length : Nat)) (upR R n L) := by
  obtain ⟨K, T2, T3, T4⟩ := T
  obtain ⟨e1, e2, e3, e4, e5, e6, e7, e8, e9, e10⟩ := id E
  have kb := K.2.1
  have hown : ∀ m, m < 80 → (m ≠ n ∧ (skTy m ≠ (200, 8) ∨ m = 5)) → o (t + m) ≠ t + n := fun m hm hc e => by
    rw [T2 m hm] at e
    rcases ow_row hm hn (show ow m = n by omega) hr with h | h
    · exact hc.1 h
    · rcases hc.2 with h2 | h2
      · exact h2 h.1
      · exact h.2 h2
  refine ⟨⟨e1, e2, fun b hb hg => e3 b hb (fun e => hg (by omega)), fun b h1 h2 => by rw [e6 b h1 h2]; omega, e7, fun q hq => e8 q (fun e => hq (by omega)), ?_, e10⟩, K.keep e1 (fun m hm => (e2 _ (by omega)).1) (fun m hm h1 h2 => (e3 _ (by omega) (hown m hm ⟨fun e => h1 (by rw [e]; exact hr), h2⟩)).2), fun m hm => by rw [(e2 _ (by omega)).2]; exact T2 m hm, fun m hm => ?_, fun m hm hm2 => ?_⟩
  · unfold pot
    rcases sk_row ⟨n, hn⟩ hr with h | h | h | h | h | h
    all_goals (dsimp only at h; subst h)
    · have a2 := e8 (t + 13) (by omega); have a3 := e8 (t + 20) (by omega); have a4 := e8 (t + 27) (by omega); have a5 := e8 (t + 34) (by omega); have a6 := e8 (t + 41) (by omega)
      rw [a2, a3, a4, a5, a6]; omega
    · have a2 := e8 (t + 3) (by omega); have a3 := e8 (t + 20) (by omega); have a4 := e8 (t + 27) (by omega); have a5 := e8 (t + 34) (by omega); have a6 := e8 (t + 41) (by omega)
      rw [a2, a3, a4, a5, a6]; omega
    · have a2 := e8 (t + 3) (by omega); have a3 := e8 (t + 13) (by omega); have a4 := e8 (t + 27) (by omega); have a5 := e8 (t + 34) (by omega); have a6 := e8 (t + 41) (by omega)
      rw [a2, a3, a4, a5, a6]; omega
    · have a2 := e8 (t + 3) (by omega); have a3 := e8 (t + 13) (by omega); have a4 := e8 (t + 20) (by omega); have a5 := e8 (t + 34) (by omega); have a6 := e8 (t + 41) (by omega)
      rw [a2, a3, a4, a5, a6]; omega
    · have a2 := e8 (t + 3) (by omega); have a3 := e8 (t + 13) (by omega); have a4 := e8 (t + 20) (by omega); have a5 := e8 (t + 27) (by omega); have a6 := e8 (t + 41) (by omega)
      rw [a2, a3, a4, a5, a6]; omega
    · have a2 := e8 (t + 3) (by omega); have a3 := e8 (t + 13) (by omega); have a4 := e8 (t + 20) (by omega); have a5 := e8 (t + 27) (by omega); have a6 := e8 (t + 34) (by omega)
      rw [a2, a3, a4, a5, a6]; omega
  · by_cases hmn : m = n
    · subst hmn
      funext k
      by_cases hk : k = 1
      · obtain ⟨_, _, _, _, W, _⟩ := P
        rw [hk, W.2.2.2.1]
        unfold upX
        rw [if_pos ⟨rfl, rfl⟩]
      · rw [e5 k hk, T3 m hm]
        unfold upX
        rw [if_neg (fun q => hk q.2)]
    · rw [show upX S n 1 (L.length : Nat) m = S m from upX_ne hmn]
      by_cases ha : skTy m = (200, 8) ∧ m ≠ 5
      · rw [e4 _ (by omega) (by rw [K.2.2.1 m hm, ha.1]), T3 m hm]
      · rw [(e3 _ (by omega) (hown m hm ⟨hmn, by
          by_cases h2 : skTy m = (200, 8)
          · exact Or.inr (Classical.byContradiction (fun h5 => ha ⟨h2, h5⟩))
          · exact Or.inl h2⟩)).1, T3 m hm]
  · by_cases hmn : m = n
    · subst hmn
      rw [upR_eq]; exact P
    · rw [upR_ne hmn]
      exact E.keep (by omega) (T4 m hm hm2)
/-- an int of the tree's own changes -/
theorem TR.int {t : Nat} {H : HP} {o : Nat → Nat} {w : Nat → Nat × Nat} {S : Nat → Int → Int} {R : Nat → List FV} (T : TR t H o w S R) {n : Nat} (hn : n < 80) (h4 : skTy n ≠ (4, 0)) (h2 : skTy n ≠ (200, 8)) {k v : Int} : ExtT H o w t (sI H (t + n) k v) o w ∧ TR t (sI H (t + n) k v) o w (upX S n k v) R := by
  obtain ⟨K, T2, T3, T4⟩ := T
  have hon : o (t + n) = t + n := by rw [T2 n hn, ow_ne ⟨n, hn⟩ h2]
  refine ⟨⟨Nat.le_refl _, fun _ _ => ⟨rfl, rfl⟩, fun b hb hg => ⟨hI_sI_ne (fun e => hg (by rw [e, hon]; omega)), rfl⟩, fun b h1 h2 => absurd h2 (Nat.not_lt.mpr h1), fun _ h => h, fun _ _ => rfl, rfl, Nat.le_refl _⟩, K, T2, fun m hm => ?_, fun m hm hm2 => (T4 m hm hm2).keep (Nat.le_refl _) (fun _ _ => ⟨rfl, rfl⟩) (fun b hb ho => ⟨hI_sI_ne (fun e => ?_), rfl⟩) rfl⟩
  · funext j
    rw [hI_sI, T3 m hm]
    unfold upX
    by_cases h : m = n ∧ j = k
    · rw [if_pos ⟨by omega, h.2⟩, if_pos h]
    · rw [if_neg (fun q => h ⟨by omega, q.2⟩), if_neg h]
  · rw [e, hon] at ho
    exact h4 (by rw [show n = m by omega]; exact hm2)
def upF (S : Nat → Int → Int) (n : Nat) (v : FV) : Nat → Int → Int := fun m k => if m = n ∧ 0 ≤ k ∧ k < 6 then v k else if m = n + 1 ∧ 0 ≤ k ∧ k < 10 then v (6 + k) else if m = n + 2 ∧ 0 ≤ k ∧ k < 10 then v (16 + k) else S m k
theorem upF_ne {S : Nat → Int → Int} {n m : Nat} {v : FV} (h0 : m ≠ n) (h1 : m ≠ n + 1) (h2 : m ≠ n + 2) : upF S n v m = S m := by
  funext k
  unfold upF
  rw [if_neg (fun q => h0 q.1), if_neg (fun q => h1 q.1), if_neg (fun q => h2 q.1)]
theorem TR.frm {t : Nat} {H : HP} {o : Nat → Nat} {w : Nat → Nat × Nat} {S : Nat → Int → Int} {R : Nat → List FV} (T : TR t H o w S R) {n : Nat} (hn : n < 80) (h1 : skTy n = (1, 0)) {v : FV} : ExtT H o w t (sF H (t + n) v) o w ∧ TR t (sF H (t + n) v) o w (upF S n v) R := by
  obtain ⟨K, T2, T3, T4⟩ := T
  have hs := sk_fr ⟨n, hn⟩ h1
  dsimp only at hs
  have hon : o (t + n) = t + n := by rw [T2 n hn, ow_ne ⟨n, hn⟩ (by rw [h1]; decide)]
  have hon1 : o (t + n + 1) = t + n + 1 := by rw [show t + n + 1 = t + (n + 1) by omega, T2 (n + 1) (by omega), ow_ne ⟨n + 1, by omega⟩ (by rw [hs.1]; decide)]
  have hon2 : o (t + n + 2) = t + n + 2 := by rw [show t + n + 2 = t + (n + 2) by omega, T2 (n + 2) (by omega), ow_ne ⟨n + 2, by omega⟩ (by rw [hs.2.1]; decide)]
  refine ⟨⟨Nat.le_refl _, fun _ _ => ⟨rfl, rfl⟩, fun b hb hg => ⟨hI_sF_ne (fun e => hg (by rw [e, hon]; omega)) (fun e => hg (by rw [e, hon1]; omega)) (fun e => hg (by rw [e, hon2]; omega)), rfl⟩, fun b h1 h2 => absurd h2 (Nat.not_lt.mpr h1), fun _ h => h, fun _ _ => rfl, rfl, Nat.le_refl _⟩, K, T2, fun m hm => ?_, fun m hm hm2 => (T4 m hm hm2).keep (Nat.le_refl _) (fun _ _ => ⟨rfl, rfl⟩) (fun b hb ho => ⟨hI_sF_ne (fun e => ?_) (fun e => ?_) (fun e => ?_), rfl⟩) rfl⟩
  · funext j
    rw [hI_sF, T3 m hm]
    unfold upF
    by_cases c0 : m = n
    · by_cases c1 : 0 ≤ j ∧ j < 6
      · rw [if_pos ⟨by omega, c1⟩, if_pos ⟨c0, c1⟩]
      · rw [if_neg (by omega), if_neg (by omega), if_neg (by omega), if_neg (by omega), if_neg (by omega), if_neg (by omega)]
    · rw [if_neg (by omega), if_neg (by omega : ¬ (m = n ∧ 0 ≤ j ∧ j < 6))]
      by_cases c1 : m = n + 1 ∧ 0 ≤ j ∧ j < 10
      · rw [if_pos ⟨by omega, c1.2⟩, if_pos c1]
      · rw [if_neg (by omega), if_neg c1]
        by_cases c2 : m = n + 2 ∧ 0 ≤ j ∧ j < 10
        · rw [if_pos ⟨by omega, c2.2⟩, if_pos c2]
        · rw [if_neg (by omega), if_neg c2]
  · rw [e, hon] at ho
    rw [show m = n by omega, h1] at hm2; exact absurd hm2 (by decide)
  · rw [e, hon1] at ho
    rw [show m = n + 1 by omega, hs.1] at hm2; exact absurd hm2 (by decide)
  · rw [e, hon2] at ho
    rw [show m = n + 2 by omega, hs.2.1] at hm2; exact absurd hm2 (by decide)

/-! rules for the reference: one object m, nine arrays behind it; its state X: X 0 its fields, X 1 .. X 9 its arrays -/
def wX (m : Nat) (h : HP) (X : Nat → Int → Int) : HP := (hTy h, fun b j => if m ≤ b ∧ b ≤ m + 9 then X (b - m) j else hI h b j, hR h, hZ h, hU h)
def upX (X : Nat → Int → Int) (i : Nat) (j v : Int) : Nat → Int → Int := fun a b => if a = i ∧ b = j then v else X a b
def ups (s : Int → Int) (j v : Int) : Int → Int := fun b => if b = j then v else s b
theorem upX_eq {X : Nat → Int → Int} {i : Nat} {j v : Int} : upX X i j v i = ups (X i) j v := by funext b; simp [upX, ups]
theorem upX_ne {X : Nat → Int → Int} {i a : Nat} {j v : Int} (h : a ≠ i) : upX X i j v a = X a := by funext b; simp [upX, h]
/-- field k of the reference: which of its arrays it names; 0: it is a number -/
def rIx (k : Nat) : Nat := [1, 2, 3, 4, 0, 5, 0, 0, 0, 6, 7, 8, 9].getD k 0
def rLn (i : Nat) : Nat × Nat := [(8, 0), (100, 15568), (100, 62272), (100, 15568), (100, 15568), (101, 60), (100, 3), (100, 10), (100, 10), (100, 560)].getD i (0, 0)
def RO (m : Nat) (h : HP) : Prop := 3 ≤ m ∧ (∀ i, i ≤ 9 → hTy h (m + i) = rLn i) ∧ ∀ k, k < 14 → rIx k ≠ 0 → hR h m (k : Nat) = some (m + rIx k)
theorem RO.ty {m : Nat} {h : HP} {X : Nat → Int → Int} (hO : RO m h) : (hTy (wX m h X) m).1 = 7 + 1 := by
  have := hO.2.1 0 (by omega)
  show (hTy h m).1 = 8
  rw [Nat.add_zero] at this
  rw [this]; rfl
theorem wX_sI {m i : Nat} {h : HP} {X : Nat → Int → Int} {j v : Int} (hi : i ≤ 9) : sI (wX m h X) (m + i) j v = wX m h (upX X i j v) := by
  unfold sI wX upX
  simp only [hTy, hI, hR, hZ, hU]
  congr 2
  funext b k
  by_cases h1 : m ≤ b ∧ b ≤ m + 9
  · simp only [h1, and_self, if_true]
    by_cases h2 : b = m + i
    · subst h2
      simp
    · have : ¬ (b - m = i) := by omega
      simp [h2, this]
  · have : ¬ (b = m + i) := by omega
    simp only [h1, this, false_and, if_false]
theorem wX_hI {m i : Nat} {h : HP} {X : Nat → Int → Int} {j : Int} (hi : i ≤ 9) : hI (wX m h X) (m + i) j = X i j := by
  show (if m ≤ m + i ∧ m + i ≤ m + 9 then X (m + i - m) j else hI h (m + i) j) = _
  rw [if_pos (by omega), Nat.add_sub_cancel_left]
section YR
variable {d y pos p' m : Nat} {ls : Ls} {st : List AV} {h : HP} {X : Nat → Int → Int} {Q : Option AV → HP → Prop} {C : List Ins}
theorem y_gR (hO : RO m h) (hC : cod y = C) {idx : Nat} {v : Int} {k w n : Nat} {sw : List Nat} {r : List AV} (hi : C[pos]? = some (.getfield idx, v, 7, k, w, sw)) (hp : pos + 1 = p') (hk : (Nat.blt k (fcn 7) && (fkd 7 k == 1)) = true) (hn : (rIx k == n && !(n == 0) && Nat.blt k 14) = true) (kk : At d y p' ls (.inr (some (m + n)) :: r) (wX m h X) Q) : At d y pos ls (.inr (some m) :: r) (wX m h X) Q := by
  simp only [Bool.and_eq_true, beq_iff_eq, Bool.not_eq_true', beq_eq_false_iff_ne] at hn
  obtain ⟨⟨h1, h2⟩, h3⟩ := hn
  subst h1
  exact x_getR hC hi hp hk hO.ty (hO.2.2 k (Nat.le_of_ble_eq_true h3) h2) kk
theorem y_gI (hO : RO m h) (hC : cod y = C) {idx : Nat} {v : Int} {k w : Nat} {sw : List Nat} {r : List AV} (hi : C[pos]? = some (.getfield idx, v, 7, k, w, sw)) (hp : pos + 1 = p') (hk : (Nat.blt k (fcn 7) && !(fkd 7 k == 1)) = true) {kz : Int} (hkz : ((k : Nat) : Int) = kz) (kk : At d y p' ls (.inl (X 0 kz) :: r) (wX m h X) Q) : At d y pos ls (.inr (some m) :: r) (wX m h X) Q := by
  subst hkz
  refine x_getI hC hi hp hk hO.ty ?_
  have := wX_hI (m := m) (i := 0) (h := h) (X := X) (j := (k : Int)) (by omega)
  rw [Nat.add_zero] at this
  rw [this]; exact kk
theorem y_pI (hO : RO m h) (hC : cod y = C) {idx : Nat} {v : Int} {k w : Nat} {sw : List Nat} {r : List AV} {x : Int} (hi : C[pos]? = some (.putfield idx, v, 7, k, w, sw)) (hp : pos + 1 = p') (hk : (Nat.blt k (fcn 7) && (fkd 7 k == 0)) = true) {kz : Int} (hkz : ((k : Nat) : Int) = kz) (kk : At d y p' ls r (wX m h (upX X 0 kz x)) Q) : At d y pos ls (.inl x :: .inr (some m) :: r) (wX m h X) Q := by
  subst hkz
  refine x_putI hC hi hp hk hO.ty hO.1 ?_
  have := wX_sI (m := m) (i := 0) (h := h) (X := X) (j := (k : Int)) (v := x) (by omega)
  rw [Nat.add_zero] at this
  rw [this]; exact kk
theorem y_ld (hO : RO m h) (hC : cod y = C) {i : Ins} {r : List AV} {n L : Nat} {j : Int} (hi : C[pos]? = some i) (hI0 : i.1 = .iaload) (hp : pos + 1 = p') (hn : (rLn n == (100, L) && Nat.ble n 9) = true) (h0 : 0 ≤ j) (h1 : j < (L : Nat)) (kk : At d y p' ls (.inl (X n j) :: r) (wX m h X) Q) : At d y pos ls (.inl j :: .inr (some (m + n)) :: r) (wX m h X) Q := by
  simp only [Bool.and_eq_true, beq_iff_eq] at hn
  have hn9 : n ≤ 9 := Nat.le_of_ble_eq_true hn.2
  refine x_iald hC hi hI0 hp (show hTy h (m + n) = (100, L) by rw [hO.2.1 n hn9, hn.1]) h0 h1 ?_
  rw [wX_hI hn9]; exact kk
theorem y_st (hO : RO m h) (hC : cod y = C) {i : Ins} {r : List AV} {n L : Nat} {j x : Int} (hi : C[pos]? = some i) (hI0 : i.1 = .iastore) (hp : pos + 1 = p') (hn : (rLn n == (100, L) && Nat.ble n 9) = true) (h0 : 0 ≤ j) (h1 : j < (L : Nat)) (kk : At d y p' ls r (wX m h (upX X n j x)) Q) : At d y pos ls (.inl x :: .inl j :: .inr (some (m + n)) :: r) (wX m h X) Q := by
  simp only [Bool.and_eq_true, beq_iff_eq] at hn
  have hn9 : n ≤ 9 := Nat.le_of_ble_eq_true hn.2
  refine x_iast hC hi hI0 hp (show hTy h (m + n) = (100, L) by rw [hO.2.1 n hn9, hn.1]) (by have := hO.1; omega) h0 h1 ?_
  rw [wX_sI hn9]; exact kk
theorem y_cld (hO : RO m h) (hC : cod y = C) {i : Ins} {r : List AV} {j : Int} (hi : C[pos]? = some i) (hI0 : i.1 = .caload) (hp : pos + 1 = p') (h0 : 0 ≤ j) (h1 : j < 60) (kk : At d y p' ls (.inl (X 5 j) :: r) (wX m h X) Q) : At d y pos ls (.inl j :: .inr (some (m + 5)) :: r) (wX m h X) Q := by
  refine x_cald hC hi hI0 hp (show hTy h (m + 5) = (101, 60) from hO.2.1 5 (by omega)) h0 h1 ?_
  rw [wX_hI (by omega)]; exact kk
theorem y_cst (hO : RO m h) (hC : cod y = C) {i : Ins} {r : List AV} {j x : Int} (hi : C[pos]? = some i) (hI0 : i.1 = .castore) (hp : pos + 1 = p') (h0 : 0 ≤ j) (h1 : j < 60) (hx : 0 ≤ x ∧ x ≤ 65535) (kk : At d y p' ls r (wX m h (upX X 5 j x)) Q) : At d y pos ls (.inl x :: .inl j :: .inr (some (m + 5)) :: r) (wX m h X) Q := by
  refine x_cast hC hi hI0 hp (show hTy h (m + 5) = (101, 60) from hO.2.1 5 (by omega)) (by have := hO.1; omega) h0 h1 hx ?_
  rw [wX_sI (by omega)]; exact kk
end YR
noncomputable def cif {α : Type} (p : Prop) (a b : α) : α := @ite α p (Classical.propDecidable p) a b
theorem cif_t {α : Type} {p : Prop} {a b : α} (h : p) : cif p a b = a := @if_pos p (Classical.propDecidable p) h α a b
theorem cif_f {α : Type} {p : Prop} {a b : α} (h : ¬ p) : cif p a b = b := @if_neg p (Classical.propDecidable p) h α a b
noncomputable def b2i (p : Prop) : Int := cif p 1 0
theorem b2i_t {p : Prop} (h : p) : b2i p = 1 := cif_t h
theorem b2i_f {p : Prop} (h : ¬ p) : b2i p = 0 := cif_f h
theorem b2i_01 (p : Prop) : 0 ≤ b2i p ∧ b2i p ≤ 1 := by
  rcases Classical.em p with h | h
  · rw [b2i_t h]; omega
  · rw [b2i_f h]; omega
theorem b2i_0 {p : Prop} : b2i p = 0 ↔ ¬ p := by
  rcases Classical.em p with h | h
  · rw [b2i_t h]; simp [h]
  · rw [b2i_f h]; simp [h]
theorem b2i_n0 {p : Prop} : ¬ b2i p = 0 ↔ p := by rw [b2i_0]; exact Classical.not_not
theorem b2i_congr {p q : Prop} (h : p ↔ q) : b2i p = b2i q := by rw [propext h]
theorem cif_congr {α : Type} {p q : Prop} {a b : α} (h : p ↔ q) : cif p a b = cif q a b := by rw [propext h]
theorem oAnd_1 (x : Int) : 0 ≤ oAnd x 1 ∧ oAnd x 1 ≤ 1 := by
  unfold oAnd
  have h : ∀ y : Int32, 0 ≤ (y &&& 1).toInt ∧ (y &&& 1).toInt ≤ 1 := by
    intro y
    obtain ⟨j, hj, e⟩ := pk_andE y (m := 1) 1 (by decide)
    rw [e, nI_toInt (by omega)]
    omega
  exact h (iS x)
theorem wr_tdiv {a b : Int} (ha : 0 ≤ a) (ha2 : a ≤ 2147483647) (hb : 0 < b) : wr (a.tdiv b) = a / b := by
  rw [Int.tdiv_eq_ediv_of_nonneg ha]
  exact wr_id ⟨by have := Int.ediv_nonneg ha (Int.le_of_lt hb); omega, by have := Int.ediv_le_self b ha; omega⟩
theorem wr_tmod {a b : Int} (ha : 0 ≤ a) (hb : 0 < b) (hb2 : b ≤ 2147483647) : wr (a.tmod b) = a % b := by
  rw [Int.tmod_eq_emod_of_nonneg ha]
  exact wr_id ⟨by have := Int.emod_nonneg a (show b ≠ 0 by omega); omega, by have := Int.emod_lt_of_pos a hb; omega⟩

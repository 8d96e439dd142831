/-! integers for the machine's ints -/
theorem iS_wr (z : Int) : iS (wr z) = iS z := Int32.toInt_inj.mp (by
  show (Int32.ofInt (z.bmod 4294967296)).toInt = (Int32.ofInt z).toInt
  rw [Int32.toInt_ofInt, Int32.toInt_ofInt]
  exact Int.bmod_bmod)
theorem iS_toInt {z : Int} (h : inR z) : (iS z).toInt = z := Int32.toInt_ofInt_of_le (by have := h.1; omega) (by have := h.2; omega)
theorem inR_toInt (x : Int32) : inR x.toInt := ⟨by have := x.le_toInt; omega, by have := x.toInt_lt; omega⟩
theorem iS_of (x : Int32) : iS x.toInt = x := Int32.ofInt_toInt x
theorem wr_toInt (z : Int) : wr z = (iS z).toInt := (Int32.toInt_ofInt (n := z)).symm
theorem inR_wr (z : Int) : inR (wr z) := by rw [wr_toInt]; exact inR_toInt _
theorem wr_id {z : Int} (h : inR z) : wr z = z := by rw [wr_toInt, iS_toInt h]
theorem iS_eq {x y : Int} (hx : inR x) (hy : inR y) : iS x = iS y ↔ x = y := by
  rw [← Int32.toInt_inj, iS_toInt hx, iS_toInt hy]
theorem iS_lt {x y : Int} (hx : inR x) (hy : inR y) : iS x < iS y ↔ x < y := by
  rw [Int32.lt_iff_toInt_lt, iS_toInt hx, iS_toInt hy]
theorem iS_le {x y : Int} (hx : inR x) (hy : inR y) : iS x ≤ iS y ↔ x ≤ y := by
  rw [Int32.le_iff_toInt_le, iS_toInt hx, iS_toInt hy]
theorem iS_0 : iS 0 = 0 := rfl
theorem inR_0 : inR 0 := ⟨by omega, by omega⟩
theorem iS_add (x y : Int) : iS x + iS y = iS (wr (x + y)) := by rw [iS_wr]; exact (Int32.ofInt_add x y).symm
theorem iS_sub (x y : Int) : iS x - iS y = iS (wr (x - y)) := by rw [iS_wr]; exact (Int32.ofInt_sub x y).symm
theorem iS_mul (x y : Int) : iS x * iS y = iS (wr (x * y)) := by rw [iS_wr]; exact (Int32.ofInt_mul x y).symm
theorem iS_neg (x : Int) : - iS x = iS (wr (-x)) := by rw [iS_wr]; exact (Int32.ofInt_neg x).symm
theorem iS_mn : Int32.minValue.toInt = -2147483648 := by decide
theorem iS_mxv : Int32.maxValue.toInt = 2147483647 := by decide
theorem iS_div {x y : Int} (hx : inR x) (hy : inR y) : iS x / iS y = iS (wr (x.tdiv y)) := by
  rw [iS_wr]
  exact (Int32.ofInt_tdiv (by rw [iS_mn]; exact hx.1) (by rw [iS_mxv]; exact hx.2) (by rw [iS_mn]; exact hy.1) (by rw [iS_mxv]; exact hy.2)).symm
theorem iS_rem {x y : Int} (hx : inR x) (hy : inR y) : iS x - iS x / iS y * iS y = iS (wr (x.tmod y)) := by
  rw [iS_div hx hy, iS_wr, iS_wr]
  show Int32.ofInt x - Int32.ofInt _ * Int32.ofInt y = Int32.ofInt _
  rw [← Int32.ofInt_mul, ← Int32.ofInt_sub]
  congr 1
  have := Int.mul_tdiv_add_tmod x y
  rw [Int.mul_comm] at this
  omega
theorem inR_and (x y : Int) : inR (oAnd x y) := inR_toInt _
theorem inR_or (x y : Int) : inR (oOr x y) := inR_toInt _
theorem inR_shl (x y : Int) : inR (oShl x y) := inR_toInt _
theorem inR_shr (x y : Int) : inR (oShr x y) := inR_toInt _
theorem inR_ushr (x y : Int) : inR (oUshr x y) := inR_toInt _
theorem inR_i2c (x : Int) : inR (oI2c x) := inR_toInt _
theorem iS_bip {n : Int} (h1 : -128 ≤ n) (h2 : n ≤ 127) : (Int8.ofInt n).toInt32 = iS n := Int32.toInt_inj.mp (by
  rw [Int8.toInt_toInt32, iS_toInt ⟨by omega, by omega⟩, Int8.toInt_ofInt_of_le (by omega) (by omega)])
theorem iS_sip {n : Int} (h1 : -32768 ≤ n) (h2 : n ≤ 32767) : (Int16.ofInt n).toInt32 = iS n := Int32.toInt_inj.mp (by
  rw [Int16.toInt_toInt32, iS_toInt ⟨by omega, by omega⟩, Int16.toInt_ofInt_of_le (by omega) (by omega)])
theorem iS_nat {j : Int} (h0 : 0 ≤ j) (h : j ≤ 2147483647) : (iS j).toNatClampNeg = j.toNat := by
  show (iS j).toInt.toNat = _
  rw [iS_toInt ⟨by omega, h⟩]
theorem iS_vin {j : Int} {n : Nat} (h0 : 0 ≤ j) (h1 : inR j) (h2 : j < n) : vp_in (iS j) n := by
  rw [vp_in_iff, iS_toInt h1]
  exact ⟨h0, h2⟩
theorem iS_nI (n : Nat) : iS (n : Int) = nI n := Int32.ofInt_eq_ofNat
theorem iS_char {v : Int} (h0 : 0 ≤ v) (h1 : v ≤ 65535) : narrow .char (.int (iS v)) = .int (iS v) ∧ fits .char (.int (iS v)) = true := by
  obtain ⟨q, rfl⟩ := Int.eq_ofNat_of_zero_le h0
  have := pk_charN (q := q) (by omega)
  rw [← iS_nI] at this
  exact this
theorem iS_bool {v : Int} (h0 : 0 ≤ v) (h1 : v ≤ 1) : narrow .boolean (.int (iS v)) = .int (iS v) ∧ fits .boolean (.int (iS v)) = true := by
  rcases (show v = 0 ∨ v = 1 by omega) with rfl | rfl <;> exact ⟨rfl, rfl⟩
theorem iS_int (v : Int32) : narrow .int (.int v) = .int v ∧ fits .int (.int v) = true := ⟨rfl, rfl⟩
theorem rf_nar (ty : FieldType) (h : ty.isReference = true) (r : Option Nat) : narrow ty (va_rf r) = va_rf r ∧ fits ty (va_rf r) = true := by
  cases ty <;> first | (simp [FieldType.isReference] at h; done) | (cases r <;> exact ⟨rfl, rfl⟩)

/-! THE SIMULATION: bits -/
theorem iS_or (a b : Int) : iS (oOr a b) = iS a ||| iS b := iS_of _
theorem oOr_c (a b : Int) : oOr a b = oOr b a := by unfold oOr; rw [Int32.or_comm]
theorem oOr_a (a b c : Int) : oOr (oOr a b) c = oOr a (oOr b c) := by
  show (iS (oOr a b) ||| iS c).toInt = (iS a ||| iS (oOr b c)).toInt
  rw [iS_or, iS_or, Int32.or_assoc]
theorem oOr_i (a b : Int) : oOr (oOr a b) b = oOr a b := by
  show (iS (oOr a b) ||| iS b).toInt = (iS a ||| iS b).toInt
  rw [iS_or, Int32.or_assoc, Int32.or_self]
theorem and_or_r32 (x y z : Int32) : (x ||| y) &&& z = (x &&& z) ||| (y &&& z) := by
  apply Int32.toBitVec_inj.mp
  rw [Int32.toBitVec_and, Int32.toBitVec_or, Int32.toBitVec_or, Int32.toBitVec_and, Int32.toBitVec_and, BitVec.and_or_distrib_right]
theorem and_or_1 (x : Int32) : (x &&& 1) ||| 1 = 1 := by
  apply Int32.toBitVec_inj.mp
  rw [Int32.toBitVec_or, Int32.toBitVec_and]
  ext i hi
  rw [BitVec.getElem_or, BitVec.getElem_and]
  cases (Int32.toBitVec 1)[i] <;> simp
theorem rBit_iff (v u : Int) : rBit v u ↔ (iS v >>> (iS u &&& 31)) &&& 1 = 1 := by
  unfold rBit oAnd oShr
  rw [iS_of]
  show ((iS v >>> (iS u &&& 31)) &&& 1).toInt = (1 : Int32).toInt ↔ _
  exact Int32.toInt_inj
theorem shl_bit : ∀ u k : Fin 10, (iS (oShl 1 (u.val : Int)) >>> (iS (k.val : Int) &&& 31)) &&& 1 = if k = u then 1 else 0 := by decide +kernel
theorem rBit_or {m u k : Int} (hu : 0 ≤ u ∧ u < 10) (hk : 0 ≤ k ∧ k < 10) : rBit (oOr m (oShl 1 u)) k ↔ rBit m k ∨ k = u := by
  have e := shl_bit ⟨u.toNat, by omega⟩ ⟨k.toNat, by omega⟩
  dsimp only at e
  rw [show ((u.toNat : Nat) : Int) = u by omega, show ((k.toNat : Nat) : Int) = k by omega] at e
  rw [rBit_iff, rBit_iff, iS_or, Int32.shiftRight_or, and_or_r32, e]
  by_cases q : k = u
  · rw [if_pos (Fin.ext (by dsimp only; omega)), and_or_1]
    exact ⟨fun _ => Or.inr q, fun _ => rfl⟩
  · rw [if_neg (fun z => q (by have := congrArg Fin.val z; dsimp only at this; omega)), Int32.or_zero]
    exact ⟨Or.inl, fun z => z.resolve_right q⟩
theorem rBit_0 {k : Int} (hk : 0 ≤ k ∧ k < 10) : ¬ rBit 0 k := by
  have key : ∀ j : Fin 10, ¬ ((iS 0 >>> (iS (j.val : Int) &&& 31)) &&& 1 = (1 : Int32)) := by decide +kernel
  have e := key ⟨k.toNat, by omega⟩
  dsimp only at e
  rw [show ((k.toNat : Nat) : Int) = k by omega] at e
  rw [rBit_iff]
  exact e
/-- a mask of ten bits stays one -/
theorem mask_or {m u : Int} (hm : 0 ≤ m ∧ m < 1024) (hu : 0 ≤ u ∧ u < 10) : 0 ≤ oOr m (oShl 1 u) ∧ oOr m (oShl 1 u) < 1024 := by
  have key : ∀ (x : Fin 1024) (j : Fin 10), 0 ≤ oOr (x.val : Int) (oShl 1 (j.val : Int)) ∧ oOr (x.val : Int) (oShl 1 (j.val : Int)) < 1024 := by decide +kernel
  have e := key ⟨m.toNat, by omega⟩ ⟨u.toNat, by omega⟩
  dsimp only at e
  rw [show ((m.toNat : Nat) : Int) = m by omega, show ((u.toNat : Nat) : Int) = u by omega] at e
  exact e
/-- all of a list, together -/
def orL : List Int → Int32
  | [] => 0
  | a :: l => iS a ||| orL l
theorem orL_perm {l m : List Int} (h : l.Perm m) : orL l = orL m := by
  induction h with
  | nil => rfl
  | cons x _ ih => show iS x ||| _ = iS x ||| _; rw [ih]
  | swap x y l =>
    show iS y ||| (iS x ||| orL l) = iS x ||| (iS y ||| orL l)
    rw [← Int32.or_assoc, ← Int32.or_assoc, Int32.or_comm (iS y)]
  | trans _ _ i1 i2 => exact i1.trans i2
theorem foldl_orL : ∀ (l : List Int) (a : Int), iS (l.foldl oOr a) = iS a ||| orL l
  | [], a => by show iS a = iS a ||| 0; rw [Int32.or_zero]
  | x :: l, a => by
    show iS (l.foldl oOr (oOr a x)) = iS a ||| (iS x ||| orL l)
    rw [foldl_orL l, iS_or, Int32.or_assoc]
theorem foldl_oOr_in : ∀ (l : List Int) (a : Int), inR a → inR (l.foldl oOr a)
  | [], a, h => h
  | x :: l, a, _ => foldl_oOr_in l (oOr a x) (inR_toInt _)
theorem eq_iS {a b : Int} (ha : inR a) (hb : inR b) (h : iS a = iS b) : a = b := (iS_eq ha hb).mp h
/-- the flags of what is filtered -/
theorem pFl_is {P : List (Int × Int)} : pFl P = oOr (orAll (P.map (fun q => q.2))) 64 := by
  have e : ∀ (P : List (Int × Int)) (a : Int), P.foldl (fun a q => oOr a q.2) a = (P.map (fun q => q.2)).foldl oOr a := by
    intro P
    induction P with
    | nil => intro a; rfl
    | cons x P ih => intro a; exact ih _
  unfold pFl orAll
  rw [e]
  refine eq_iS (foldl_oOr_in _ _ ⟨by decide, by decide⟩) (inR_toInt _) ?_
  rw [iS_or, foldl_orL, foldl_orL, show iS 0 = 0 by decide, Int32.zero_or, Int32.or_comm]
theorem orAll_perm {l m : List Int} (h : l.Perm m) : orAll l = orAll m := by
  unfold orAll
  refine eq_iS (foldl_oOr_in _ _ ⟨by decide, by decide⟩) (foldl_oOr_in _ _ ⟨by decide, by decide⟩) ?_
  rw [foldl_orL, foldl_orL, orL_perm h]
/-- a median asks for no order -/
theorem rMed_perm {l m : List Int} (h : l.Perm m) : rMed l = rMed m := by
  have e : l.mergeSort (fun x y => decide (x ≤ y)) = m.mergeSort (fun x y => decide (x ≤ y)) := by
    have sl := List.pairwise_mergeSort (le := fun (x y : Int) => decide (x ≤ y)) (fun a b c p q => by simp only [decide_eq_true_eq] at *; omega) (fun a b => by simp only [Bool.or_eq_true, decide_eq_true_eq]; omega) l
    have sm := List.pairwise_mergeSort (le := fun (x y : Int) => decide (x ≤ y)) (fun a b c p q => by simp only [decide_eq_true_eq] at *; omega) (fun a b => by simp only [Bool.or_eq_true, decide_eq_true_eq]; omega) m
    refine List.Perm.eq_of_pairwise (fun a b _ _ p q => by simp only [decide_eq_true_eq] at *; omega) sl sm ?_
    exact ((List.mergeSort_perm l _).trans h).trans (List.mergeSort_perm m _).symm
  unfold rMed
  rw [e, h.length_eq]

/-! LISTS, ROWS, BITS (out of whole's) -/
theorem fI_congr {α : Type} {n : Int} {f g : Int → α → α} {a : α} (h : ∀ i, 0 ≤ i → i < n → ∀ x, f i x = g i x) : fI n f a = fI n g a := by
  unfold fI
  have key : ∀ k : Nat, (k : Int) ≤ n ∨ k = 0 → (List.range k).foldl (fun acc (i : Nat) => f (i : Int) acc) a = (List.range k).foldl (fun acc (i : Nat) => g (i : Int) acc) a := by
    intro k
    induction k with
    | zero => intro _; rfl
    | succ k ih =>
      intro hk
      rw [List.range_succ, List.foldl_append, List.foldl_append, ih (by omega)]
      exact h k (by omega) (by omega) _
  exact key n.toNat (by omega)
theorem fI_ind {α : Type} {n : Int} {g : Int → α → α} {a : α} (P : Int → α → Prop) (hn : 0 ≤ n) (h0 : P 0 a) (hs : ∀ i x, 0 ≤ i → i < n → P i x → P (i + 1) (g i x)) : P n (fI n g a) := by
  have key : ∀ k : Nat, (k : Int) ≤ n → P k (fI (k : Int) g a) := by
    intro k
    induction k with
    | zero => intro _; exact h0
    | succ k ih =>
      intro hk
      rw [show ((k + 1 : Nat) : Int) = (k : Int) + 1 by omega, fI_succ (by omega)]
      exact hs _ _ (by omega) (by omega) (ih (by omega))
  have := key n.toNat (by omega)
  rw [Int.toNat_of_nonneg hn] at this
  exact this
noncomputable def pd {α : Type} (p : α → Prop) : α → Bool := fun i => @decide (p i) (Classical.propDecidable _)
theorem pd_t {α : Type} {p : α → Prop} {x : α} : pd p x = true ↔ p x := @decide_eq_true_iff (p x) (Classical.propDecidable _)
theorem pd_f {α : Type} {p : α → Prop} {x : α} : pd p x = false ↔ ¬ p x := @decide_eq_false_iff_not (p x) (Classical.propDecidable _)
/-- counting by a fold -/
theorem foldl_b2i {q : Int → Prop} : ∀ (l : List Int) (a : Int), l.foldl (fun n i => n + b2i (q i)) a = a + (l.countP (pd q) : Nat)
  | [], a => by simp
  | x :: l, a => by
    rw [List.foldl_cons, foldl_b2i l]
    by_cases hq : q x
    · rw [b2i_t hq, List.countP_cons_of_pos (pd_t.mpr hq)]; omega
    · rw [b2i_f hq, List.countP_cons_of_neg (by rw [pd_f.mpr hq]; decide)]; omega
theorem gtC {L : List FV} {q : FV → Prop} : fI (L.length : Nat) (fun i n => n + b2i (q (gt L i))) 0 = (L.countP (pd q) : Nat) := by
  have key : ∀ (j : Nat), j ≤ L.length → fI (j : Nat) (fun i n => n + b2i (q (gt L i))) 0 = (((L.take j).countP (pd q) : Nat) : Int) := by
    intro j
    induction j with
    | zero => intro _; rfl
    | succ j ih =>
      intro hj
      rw [show ((j + 1 : Nat) : Int) = (j : Int) + 1 by omega, fI_succ (by omega), ih (by omega)]
      have e : gt L (j : Int) = L[j]'(by omega) := by
        unfold gt
        rw [show ((j : Int)).toNat = j by omega, List.getD_eq_getElem?_getD, List.getElem?_eq_getElem (by omega)]
        rfl
      rw [List.take_succ_eq_append_getElem (by omega), List.countP_append, ← e]
      by_cases hq : q (gt L (j : Int))
      · rw [b2i_t hq, List.countP_cons_of_pos (pd_t.mpr hq), List.countP_nil]; omega
      · rw [b2i_f hq, List.countP_cons_of_neg (by rw [pd_f.mpr hq]; decide), List.countP_nil]; omega
  have := key L.length (Nat.le_refl _)
  rw [List.take_length] at this
  exact this
def SortS (L : List FV) : Prop := ∀ i j : Int, 0 ≤ i → i < j → j < (L.length : Nat) → gt L i 2 ≤ gt L j 2
theorem tw_all {L : List FV} {sl : Int} : ∀ (n : Nat) (e : Int), 0 ≤ e → (L.length : Nat) - e ≤ (n : Nat) → (∀ i, e ≤ i → i < e + tw L e sl → gt L i 2 = sl) ∧ (e + tw L e sl < (L.length : Nat) → ¬ gt L (e + tw L e sl) 2 = sl)
  | 0, e, h0, hn => by
    have := tw_stop (L := L) (sl := sl) h0 (Or.inl (by omega))
    rw [this]
    exact ⟨fun i h1 h2 => absurd h2 (by omega), fun h => absurd h (by omega)⟩
  | n + 1, e, h0, hn => by
    by_cases hl : (L.length : Nat) ≤ e
    · have := tw_stop (L := L) (sl := sl) h0 (Or.inl hl)
      rw [this]
      exact ⟨fun i h1 h2 => absurd h2 (by omega), fun h => absurd h (by omega)⟩
    · by_cases hs : gt L e 2 = sl
      · have e1 := tw_step h0 (by omega) hs
        have ih := tw_all (L := L) (sl := sl) n (e + 1) (by omega) (by omega)
        rw [e1]
        refine ⟨fun i h1 h2 => ?_, fun h => ?_⟩
        · by_cases hi : i = e
          · rw [hi]; exact hs
          · exact ih.1 i (by omega) (by omega)
        · rw [show e + (1 + tw L (e + 1) sl) = e + 1 + tw L (e + 1) sl by omega]
          exact ih.2 (by omega)
      · have := tw_stop (L := L) (sl := sl) h0 (Or.inr hs)
        rw [this]
        exact ⟨fun i h1 h2 => absurd h2 (by omega), fun _ => by rw [Int.add_zero]; exact hs⟩
theorem cEnd_in {L : List FV} {st i : Int} (h0 : 0 ≤ st) (h1 : st ≤ i) (h2 : i < cEnd L st) : gt L i 2 = gt L st 2 :=
  (tw_all (L := L) (sl := gt L st 2) L.length st h0 (by omega)).1 i h1 h2
theorem cEnd_out {L : List FV} {st i : Int} (hS : SortS L) (h0 : 0 ≤ st) (h1 : cEnd L st ≤ i) (h2 : i < (L.length : Nat)) : gt L st 2 < gt L i 2 := by
  have hr := cEnd_rng h0 (show st < (L.length : Nat) by
    unfold cEnd at h1
    have := (tw_rng (L := L) (e := st) (sl := gt L st 2) h0)
    by_cases q : st ≤ (L.length : Nat)
    · have := this q; omega
    · have := tw_stop (L := L) (e := st) (sl := gt L st 2) h0 (Or.inl (by omega)); omega)
  have hne := (tw_all (L := L) (sl := gt L st 2) L.length st h0 (by omega)).2 (by unfold cEnd at h1; omega)
  have hle := hS st (cEnd L st) h0 hr.1 (by omega)
  have hge : gt L (cEnd L st) 2 ≤ gt L i 2 := by
    by_cases q : cEnd L st = i
    · rw [q]; exact Int.le_refl _
    · exact hS _ _ (by omega) (by omega) h2
  have hne' : ¬ gt L (cEnd L st) 2 = gt L st 2 := hne
  omega
/-- a slot starts at st -/
def SlSt (L : List FV) (st : Int) : Prop := (0 ≤ st ∧ st < (L.length : Nat)) ∧ ∀ i, 0 ≤ i → i < st → gt L i 2 < gt L st 2
theorem SlSt.zero {L : List FV} (h : 0 < L.length) : SlSt L 0 := ⟨by omega, fun i h0 h1 => absurd h1 (by omega)⟩
theorem SlSt.run {L : List FV} {st i : Int} (hS : SortS L) (h : SlSt L st) (h0 : 0 ≤ i) (h1 : i < (L.length : Nat)) : gt L i 2 = gt L st 2 ↔ st ≤ i ∧ i < cEnd L st := by
  constructor
  · intro e
    constructor
    · by_cases q : st ≤ i
      · exact q
      · have := h.2 i h0 (by omega); omega
    · by_cases q : i < cEnd L st
      · exact q
      · have := cEnd_out hS h.1.1 (show cEnd L st ≤ i by omega) h1; omega
  · rintro ⟨a, b⟩
    exact cEnd_in h.1.1 a b
theorem gt_mem {L : List FV} {i : Int} (h0 : 0 ≤ i) (h1 : i < (L.length : Nat)) : gt L i ∈ L := by
  obtain ⟨n, rfl⟩ := Int.eq_ofNat_of_zero_le h0
  rw [gt_nat (by omega)]
  exact List.getElem_mem _
theorem mem_gt {L : List FV} {v : FV} (h : v ∈ L) : ∃ i : Int, 0 ≤ i ∧ i < (L.length : Nat) ∧ gt L i = v := by
  obtain ⟨n, hn, e⟩ := List.getElem_of_mem h
  exact ⟨(n : Int), by omega, by omega, by rw [gt_nat hn]; exact e⟩
/-- the class's cells stay, but for counts and what is built -/
def Sq (S S' : Nat → Int → Int) : Prop := ∀ m k, ¬ (6 ≤ m ∧ m ≤ 10) → m ≠ 3 → (∀ g : Nat, g < 5 → ¬ (m = 11 + 7 * g ∧ (k = 6 ∨ k = 7)) ∧ ¬ (m = 13 + 7 * g ∧ k = 1)) → S' m k = S m k
theorem Sq.sf {S S' : Nat → Int → Int} (h : Sq S S') {n : Nat} (hn : (∃ g : Nat, g < 5 ∧ n = 15 + 7 * g) ∨ 56 ≤ n) : SF S' n = SF S n := by
  have e : ∀ j, j < 3 → ∀ k, S' (n + j) k = S (n + j) k := fun j hj k => by
    rcases hn with ⟨x, hx, hn⟩ | hn
    · exact h _ _ (by omega) (by omega) (fun g hg => ⟨fun c => by omega, fun c => by omega⟩)
    · exact h _ _ (by omega) (by omega) (fun g hg => ⟨fun c => by omega, fun c => by omega⟩)
  funext k
  unfold SF
  rw [e 1 (by omega), e 2 (by omega), show S' n k = S n k from e 0 (by omega) k]
theorem cPl_is {L : List FV} {sl : Int} : ∀ n : Nat, n ≤ L.length → (∀ i : Int, cPl L sl n ≤ i → i < (n : Nat) → sl < gt L i 2) ∧ (0 < cPl L sl n → gt L (cPl L sl n - 1) 2 ≤ sl)
  | 0, _ => ⟨fun i a b => by rw [cPl] at a; omega, fun h => by rw [cPl] at h; omega⟩
  | n + 1, hn => by
    have ih := cPl_is (L := L) (sl := sl) n (by omega)
    rw [cPl]
    by_cases q : sl < gt L (n : Int) 2
    · rw [if_pos q]
      refine ⟨fun i a b => ?_, ih.2⟩
      by_cases e : i = n
      · rw [e]; exact q
      · exact ih.1 i a (by omega)
    · rw [if_neg q]
      refine ⟨fun i a b => by omega, fun _ => ?_⟩
      rw [show ((n + 1 : Nat) : Int) - 1 = (n : Int) by omega]
      omega
theorem cPlace_is {L : List FV} {sl : Int} (hS : SortS L) : (0 ≤ cPlace L sl ∧ cPlace L sl ≤ (L.length : Nat)) ∧ (∀ i : Int, 0 ≤ i → i < cPlace L sl → gt L i 2 ≤ sl) ∧ ∀ i : Int, cPlace L sl ≤ i → i < (L.length : Nat) → sl < gt L i 2 := by
  have r := cPl_rng (L := L) (sl := sl) L.length
  have p := cPl_is (L := L) (sl := sl) L.length (Nat.le_refl _)
  unfold cPlace
  refine ⟨r, fun i a b => ?_, p.1⟩
  have := p.2 (by omega)
  by_cases e : i = cPl L sl L.length - 1
  · rw [e]; exact this
  · have := hS i (cPl L sl L.length - 1) a (by omega) (by omega)
    omega
theorem kR_up3 {R : Nat → List FV} {L : List FV} {g : Int} : kR (upR R 3 L) g = kR R g := upR_ne (by omega)
theorem upX_at {S : Nat → Int → Int} {n m : Nat} {j k v : Int} (h : ¬ (m = n ∧ k = j)) : upX S n j v m k = S m k := if_neg h
theorem upX_is {S : Nat → Int → Int} {n : Nat} {j v : Int} : upX S n j v n j = v := if_pos ⟨rfl, rfl⟩
theorem upX_comm {S : Nat → Int → Int} {n m : Nat} {j k v w : Int} (h : n ≠ m) : upX (upX S n j v) m k w = upX (upX S m k w) n j v := by
  funext a b
  unfold upX
  by_cases x : a = m ∧ b = k
  · rw [if_pos x, if_neg (by omega), if_pos x]
  · rw [if_neg x]
    by_cases y : a = n ∧ b = j
    · rw [if_pos y, if_pos y]
    · rw [if_neg y, if_neg y, if_neg x]
theorem upR_upR {R : Nat → List FV} {n : Nat} {L M : List FV} : upR (upR R n L) n M = upR R n M := by
  funext a
  unfold upR
  split <;> rfl
theorem gt_dropc {L : List FV} {i : Int} (h0 : 0 ≤ i) (h1 : i < (L.length : Nat)) : L.drop i.toNat = gt L i :: L.drop (i + 1).toNat := by
  obtain ⟨n, rfl⟩ := Int.eq_ofNat_of_zero_le h0
  rw [gt_nat (by omega), show ((n : Int)).toNat = n by omega, show ((n : Int) + 1).toNat = n + 1 by omega]
  exact List.drop_eq_getElem_cons (by omega)
theorem iS_or (a b : Int) : iS (oOr a b) = iS a ||| iS b := iS_of _
theorem oOr_c (a b : Int) : oOr a b = oOr b a := by unfold oOr; rw [Int32.or_comm]
theorem oOr_a (a b c : Int) : oOr (oOr a b) c = oOr a (oOr b c) := by
  show (iS (oOr a b) ||| iS c).toInt = (iS a ||| iS (oOr b c)).toInt
  rw [iS_or, iS_or, Int32.or_assoc]
theorem oOr_i (a b : Int) : oOr (oOr a b) b = oOr a b := by
  show (iS (oOr a b) ||| iS b).toInt = (iS a ||| iS b).toInt
  rw [iS_or, Int32.or_assoc, Int32.or_self]
theorem and_or_r32 (x y z : Int32) : (x ||| y) &&& z = (x &&& z) ||| (y &&& z) := by
  apply Int32.toBitVec_inj.mp
  rw [Int32.toBitVec_and, Int32.toBitVec_or, Int32.toBitVec_or, Int32.toBitVec_and, Int32.toBitVec_and, BitVec.and_or_distrib_right]
theorem and_or_1 (x : Int32) : (x &&& 1) ||| 1 = 1 := by
  apply Int32.toBitVec_inj.mp
  rw [Int32.toBitVec_or, Int32.toBitVec_and]
  ext i hi
  rw [BitVec.getElem_or, BitVec.getElem_and]
  cases (Int32.toBitVec 1)[i] <;> simp
theorem rBit_iff (v u : Int) : rBit v u ↔ (iS v >>> (iS u &&& 31)) &&& 1 = 1 := by
  unfold rBit oAnd oShr
  rw [iS_of]
  show ((iS v >>> (iS u &&& 31)) &&& 1).toInt = (1 : Int32).toInt ↔ _
  exact Int32.toInt_inj
theorem shl_bit : ∀ u k : Fin 10, (iS (oShl 1 (u.val : Int)) >>> (iS (k.val : Int) &&& 31)) &&& 1 = if k = u then 1 else 0 := by decide +kernel
theorem rBit_or {m u k : Int} (hu : 0 ≤ u ∧ u < 10) (hk : 0 ≤ k ∧ k < 10) : rBit (oOr m (oShl 1 u)) k ↔ rBit m k ∨ k = u := by
  have e := shl_bit ⟨u.toNat, by omega⟩ ⟨k.toNat, by omega⟩
  dsimp only at e
  rw [show ((u.toNat : Nat) : Int) = u by omega, show ((k.toNat : Nat) : Int) = k by omega] at e
  rw [rBit_iff, rBit_iff, iS_or, Int32.shiftRight_or, and_or_r32, e]
  by_cases q : k = u
  · rw [if_pos (Fin.ext (by dsimp only; omega)), and_or_1]
    exact ⟨fun _ => Or.inr q, fun _ => rfl⟩
  · rw [if_neg (fun z => q (by have := congrArg Fin.val z; dsimp only at this; omega)), Int32.or_zero]
    exact ⟨Or.inl, fun z => z.resolve_right q⟩
theorem rBit_0 {k : Int} (hk : 0 ≤ k ∧ k < 10) : ¬ rBit 0 k := by
  have key : ∀ j : Fin 10, ¬ ((iS 0 >>> (iS (j.val : Int) &&& 31)) &&& 1 = (1 : Int32)) := by decide +kernel
  have e := key ⟨k.toNat, by omega⟩
  dsimp only at e
  rw [show ((k.toNat : Nat) : Int) = k by omega] at e
  rw [rBit_iff]
  exact e
theorem fPut_at {v : FV} {u x f k : Int} : fPut v u x f k = if k = 16 + u then f else if k = 6 + u then x else if k = 5 then oOr (v 5) (oShl 1 u) else v k := rfl
theorem fPut_has {v : FV} {u x f k : Int} (hu : 0 ≤ u ∧ u < 10) (hk : 0 ≤ k ∧ k < 10) : fHas (fPut v u x f) k ↔ fHas v k ∨ k = u := by
  show rBit (fPut v u x f 5) k ↔ rBit (v 5) k ∨ k = u
  rw [fPut_at, if_neg (by omega), if_neg (by omega), if_pos rfl]
  exact rBit_or hu hk
theorem fPut_v {v : FV} {u x f : Int} : fPut v u x f (6 + u) = x ∧ fPut v u x f (16 + u) = f := by
  rw [fPut_at, fPut_at, if_neg (by omega), if_pos rfl, if_pos rfl]
  exact ⟨rfl, rfl⟩
theorem fPut_o {v : FV} {u x f k : Int} (hu : 0 ≤ u ∧ u < 10) (hk : 0 ≤ k ∧ k < 10) (h : k ≠ u) : fPut v u x f (6 + k) = v (6 + k) ∧ fPut v u x f (16 + k) = v (16 + k) := by
  rw [fPut_at, fPut_at, if_neg (by omega), if_neg (by omega), if_neg (by omega), if_neg (by omega), if_neg (by omega), if_neg (by omega)]
  exact ⟨rfl, rfl⟩

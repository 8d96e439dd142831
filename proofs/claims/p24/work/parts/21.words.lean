/-! WORDS: what the class's parts need of the pure layer (out of whole's parts 21, 40-57) -/
def upX (X : Nat → Int → Int) (i : Nat) (j v : Int) : Nat → Int → Int := fun a b => if a = i ∧ b = j then v else X a b
def ups (s : Int → Int) (j v : Int) : Int → Int := fun b => if b = j then v else s b
theorem upX_ne {X : Nat → Int → Int} {i a : Nat} {j v : Int} (h : a ≠ i) : upX X i j v a = X a := by funext b; simp [upX, h]
noncomputable def cif {α : Type} (p : Prop) (a b : α) : α := @ite α p (Classical.propDecidable p) a b
theorem cif_t {α : Type} {p : Prop} {a b : α} (h : p) : cif p a b = a := @if_pos p (Classical.propDecidable p) h α a b
theorem cif_f {α : Type} {p : Prop} {a b : α} (h : ¬ p) : cif p a b = b := @if_neg p (Classical.propDecidable p) h α a b
noncomputable def b2i (p : Prop) : Int := cif p 1 0
theorem b2i_t {p : Prop} (h : p) : b2i p = 1 := cif_t h
theorem b2i_f {p : Prop} (h : ¬ p) : b2i p = 0 := cif_f h
theorem b2i_01 (p : Prop) : 0 ≤ b2i p ∧ b2i p ≤ 1 := by
  rcases Classical.em p with h | h
  · rw [b2i_t h]; omega
  · rw [b2i_f h]; omega
theorem b2i_0 {p : Prop} : b2i p = 0 ↔ ¬ p := by
  rcases Classical.em p with h | h
  · rw [b2i_t h]; simp [h]
  · rw [b2i_f h]; simp [h]
theorem b2i_n0 {p : Prop} : ¬ b2i p = 0 ↔ p := by rw [b2i_0]; exact Classical.not_not
theorem b2i_congr {p q : Prop} (h : p ↔ q) : b2i p = b2i q := by rw [propext h]
theorem oAnd_1 (x : Int) : 0 ≤ oAnd x 1 ∧ oAnd x 1 ≤ 1 := by
  unfold oAnd
  have h : ∀ y : Int32, 0 ≤ (y &&& 1).toInt ∧ (y &&& 1).toInt ≤ 1 := by
    intro y
    obtain ⟨j, hj, e⟩ := pk_andE y (m := 1) 1 (by decide)
    rw [e, nI_toInt (by omega)]
    omega
  exact h (iS x)
theorem wr_tdiv {a b : Int} (ha : 0 ≤ a) (ha2 : a ≤ 2147483647) (hb : 0 < b) : wr (a.tdiv b) = a / b := by
  rw [Int.tdiv_eq_ediv_of_nonneg ha]
  exact wr_id ⟨by have := Int.ediv_nonneg ha (Int.le_of_lt hb); omega, by have := Int.ediv_le_self b ha; omega⟩
theorem wr_tmod {a b : Int} (ha : 0 ≤ a) (hb : 0 < b) (hb2 : b ≤ 2147483647) : wr (a.tmod b) = a % b := by
  rw [Int.tmod_eq_emod_of_nonneg ha]
  exact wr_id ⟨by have := Int.emod_nonneg a (show b ≠ 0 by omega); omega, by have := Int.emod_lt_of_pos a hb; omega⟩
theorem eqK {Q : Int → HP → Prop} {a b : Int} {h : HP} (K : Q a h) (e : a = b) : Q b h := e ▸ K
def fI {α : Type} (n : Int) (g : Int → α → α) (a : α) : α := (List.range n.toNat).foldl (fun acc (k : Nat) => g ((k : Nat) : Int) acc) a
theorem fI_0 {α : Type} {g : Int → α → α} {a : α} : fI 0 g a = a := rfl
theorem fI_succ {α : Type} {g : Int → α → α} {a : α} {i : Int} (h : 0 ≤ i) : fI (i + 1) g a = g i (fI i g a) := by
  unfold fI
  rw [show (i + 1).toNat = i.toNat + 1 by omega, List.range_succ, List.foldl_append]
  show g ((i.toNat : Nat) : Int) _ = _
  rw [Int.toNat_of_nonneg h]
def rOnes (x : Int) : Int := fI 10 (fun k n => n + oAnd (oShr x k) 1) 0
theorem ups_eq {s : Int → Int} {j v k : Int} (h : k = j) : ups s j v k = v := if_pos h
theorem ups_ne {s : Int → Int} {j v k : Int} (h : ¬ k = j) : ups s j v k = s k := if_neg h
theorem mul_div_le {a p : Int} (ha : 0 ≤ a) (hp : 0 < p) : 0 ≤ a / p * p ∧ a / p * p ≤ a := ⟨Int.mul_nonneg (Int.ediv_nonneg ha (Int.le_of_lt hp)) (Int.le_of_lt hp), Int.ediv_mul_le a (by omega)⟩
def rBit (v u : Int) : Prop := oAnd (oShr v u) 1 = 1
/-- the first n places of a row, as a list -/
def lOf (a : Int → Int) (n : Nat) : List Int := (List.range n).map (fun (i : Nat) => a (i : Int))
theorem lOf_len {a : Int → Int} {n : Nat} : (lOf a n).length = n := by simp [lOf]
theorem lOf_get {a : Int → Int} {n i : Nat} (h : i < n) : (lOf a n)[i]? = some (a (i : Int)) := by unfold lOf; rw [List.getElem?_map, List.getElem?_range h]; rfl
theorem lOf_split {a : Int → Int} {n p : Nat} (hp : p ≤ n) : lOf a n = lOf a p ++ (List.range (n - p)).map (fun (i : Nat) => a ((p + i : Nat) : Int)) := by
  apply List.ext_getElem?
  intro i
  by_cases h1 : i < p
  · rw [List.getElem?_append_left (by rw [lOf_len]; exact h1), lOf_get h1, lOf_get (by omega)]
  · rw [List.getElem?_append_right (by rw [lOf_len]; omega), lOf_len]
    by_cases h2 : i < n
    · rw [lOf_get h2, List.getElem?_map, List.getElem?_range (by omega)]
      simp
      congr 1
      omega
    · rw [List.getElem?_eq_none (by rw [lOf_len]; omega), List.getElem?_eq_none (by simp; omega)]
/-- a value is laid into a sorted row at its place -/
theorem lOf_ins {a b : Int → Int} {n p : Nat} {v : Int} (hp : p ≤ n) (h0 : ∀ i : Nat, i < p → b i = a i) (h1 : b p = v) (h2 : ∀ i : Nat, p ≤ i → i < n → b ((i : Int) + 1) = a i) : lOf b (n + 1) = lOf a p ++ v :: (List.range (n - p)).map (fun (i : Nat) => a ((p + i : Nat) : Int)) := by
  apply List.ext_getElem?
  intro i
  rcases (show i < p ∨ i = p ∨ (p < i ∧ i < n + 1) ∨ n + 1 ≤ i by omega) with h | h | h | h
  · rw [lOf_get (by omega), List.getElem?_append_left (by rw [lOf_len]; exact h), lOf_get h, h0 i h]
  · subst h
    rw [lOf_get (by omega), List.getElem?_append_right (by rw [lOf_len]; omega), lOf_len, Nat.sub_self, h1]
    rfl
  · rw [lOf_get h.2, List.getElem?_append_right (by rw [lOf_len]; omega), lOf_len, show i - p = (i - p - 1) + 1 by omega, List.getElem?_cons_succ, List.getElem?_map, List.getElem?_range (by omega)]
    have := h2 (i - 1) (by omega) (by omega)
    rw [show (((i - 1 : Nat) : Int) + 1) = (i : Int) by omega] at this
    rw [this]
    simp
    congr 1
    omega
  · rw [List.getElem?_eq_none (by rw [lOf_len]; exact h), List.getElem?_eq_none (by simp [lOf_len]; omega)]
def Srt (l : List Int) : Prop := l.Pairwise (fun x y => x ≤ y)
theorem ins_srt {a b : Int → Int} {n p : Nat} {v : Int} {l : List Int} (hp : p ≤ n) (h0 : ∀ i : Nat, i < p → b i = a i) (h1 : b p = v) (h2 : ∀ i : Nat, p ≤ i → i < n → b ((i : Int) + 1) = a i) (hgt : ∀ i : Nat, p ≤ i → i < n → v < a i) (hle : p = 0 ∨ a ((p : Int) - 1) ≤ v) (hs : Srt (lOf a n)) (hl : (lOf a n).Perm l) : Srt (lOf b (n + 1)) ∧ (lOf b (n + 1)).Perm (l ++ [v]) := by
  have e := lOf_ins hp h0 h1 h2
  have es := lOf_split (a := a) hp
  rw [e]
  unfold Srt at hs ⊢
  rw [es] at hs
  rw [List.pairwise_append] at hs ⊢
  obtain ⟨s1, s2, s3⟩ := hs
  have hlast : ∀ x ∈ lOf a p, x ≤ v := by
    intro x hx
    rcases hle with h | h
    · subst h; simp [lOf] at hx
    · obtain ⟨i, hi, rfl⟩ := List.mem_map.mp hx
      have hi := List.mem_range.mp hi
      rcases (show i = p - 1 ∨ i < p - 1 by omega) with h3 | h3
      · subst h3
        rw [show ((p - 1 : Nat) : Int) = (p : Int) - 1 by omega]
        exact h
      · have hpw : (lOf a p).Pairwise (fun x y => x ≤ y) := s1
        have := List.pairwise_iff_getElem.mp hpw i (p - 1) (by rw [lOf_len]; exact hi) (by rw [lOf_len]; omega) h3
        simp only [lOf, List.getElem_map, List.getElem_range] at this
        rw [show ((p - 1 : Nat) : Int) = (p : Int) - 1 by omega] at this
        omega
  have hrest : ∀ x ∈ (List.range (n - p)).map (fun (i : Nat) => a ((p + i : Nat) : Int)), v < x := by
    intro x hx
    obtain ⟨i, hi, rfl⟩ := List.mem_map.mp hx
    have hi := List.mem_range.mp hi
    exact hgt (p + i) (by omega) (by omega)
  refine ⟨⟨s1, List.pairwise_cons.mpr ⟨fun x hx => Int.le_of_lt (hrest x hx), s2⟩, fun x hx y hy => ?_⟩, ?_⟩
  · rcases List.mem_cons.mp hy with rfl | hy
    · exact hlast x hx
    · exact s3 x hx y hy
  · refine (List.perm_middle).trans ?_
    refine List.Perm.trans (List.Perm.cons v ?_) (List.perm_append_singleton v l).symm
    rw [← es]
    exact hl
theorem wr_wr (a v : Int) : wr (wr a + v) = wr (a + v) := by unfold wr; simp
def lsum : List Int → Int
  | [] => 0
  | a :: l => a + lsum l
theorem lsum_snoc (l : List Int) (v : Int) : lsum (l ++ [v]) = lsum l + v := by
  induction l with
  | nil => simp [lsum]
  | cons a l ih => simp only [List.cons_append, lsum, ih]; omega
def rMed (l : List Int) : Int := (l.mergeSort (fun x y => decide (x ≤ y))).getD ((l.length - 1) / 2) 0
theorem srt_eq {l l' : List Int} (hs : Srt l) (hp : l.Perm l') : l = l'.mergeSort (fun x y => decide (x ≤ y)) := by
  refine List.Perm.eq_of_pairwise (le := fun x y => x ≤ y) (fun a b _ _ h1 h2 => Int.le_antisymm h1 h2) hs ?_ (hp.trans (List.mergeSort_perm _ _).symm)
  have := List.pairwise_mergeSort (le := fun x y : Int => decide (x ≤ y)) (fun a b c h1 h2 => by simp at *; omega) (fun a b => by simp; omega) l'
  exact this.imp (fun h => by simpa using h)
theorem med_eq {b : Int → Int} {n : Nat} {l : List Int} (hs : Srt (lOf b n)) (hp : (lOf b n).Perm l) (h0 : 0 < n) : b (((n : Int) - 1) / 2) = rMed l := by
  have e := srt_eq hs hp
  have hl : l.length = n := by rw [← hp.length_eq, lOf_len]
  unfold rMed
  rw [← e, hl, List.getD_eq_getElem?_getD, lOf_get (by omega)]
  show _ = b _
  congr 1
  omega
abbrev rGo (a b : Int) : Prop := a % b = 0 ∨ b % a = 0
def sMax (w : Int) : Int := if w = 0 then 40 else if w = 1 then 1 else if w = 2 then 2 else 20
theorem x_tswt {d y pos : Nat} {ls : List (Option AV)} {h : HP} {Q : Option AV → HP → Prop} {df lo hi v : Int} {offs : Array Int} {a b w : Nat} {sw : List Nat} {r : List AV} {x : Int} (hI : (cod y)[pos]? = some (.tableswitch df lo hi offs, v, a, b, w, sw)) (k0 : Nat) {t : Nat} (hk : (if x < lo ∨ hi < x then 0 else (x - lo).toNat + 1) = k0) (ht : sw[k0]? = some t) (K : At d y t ls r h Q) : At d y pos ls (.inl x :: r) h Q :=
  x_tsw rfl hI (fun t' ht' => by rw [hk, ht] at ht'; cases ht'; exact K) ⟨t, by rw [hk]; exact ht⟩

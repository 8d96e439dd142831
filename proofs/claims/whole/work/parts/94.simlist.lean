/-! THE SIMULATION: folds over a row's frames as folds over lists -/
/-- the ints below n -/
def ir (n : Int) : List Int := (List.range n.toNat).map (fun (j : Nat) => (j : Int))
theorem ir_mem {n x : Int} : x ∈ ir n ↔ 0 ≤ x ∧ x < n := by
  unfold ir
  rw [List.mem_map]
  constructor
  · rintro ⟨j, hj, rfl⟩
    have := List.mem_range.mp hj
    omega
  · intro h
    exact ⟨x.toNat, List.mem_range.mpr (by omega), by omega⟩
theorem ir_zero : ir 0 = [] := rfl
theorem ir_succ {n : Int} (h : 0 ≤ n) : ir (n + 1) = ir n ++ [n] := by
  unfold ir
  rw [show (n + 1).toNat = n.toNat + 1 by omega, List.range_succ, List.map_append]
  simp only [List.map_cons, List.map_nil]
  rw [show ((n.toNat : Nat) : Int) = n by omega]
theorem ir_nodup {n : Int} : (ir n).Nodup := by
  unfold ir
  exact List.Pairwise.map _ (fun a b h e => h (by omega)) (List.nodup_range)
noncomputable def pd {α : Type} (p : α → Prop) : α → Bool := fun i => @decide (p i) (Classical.propDecidable _)
theorem pd_t {α : Type} {p : α → Prop} {x : α} : pd p x = true ↔ p x := @decide_eq_true_iff (p x) (Classical.propDecidable _)
theorem pd_f {α : Type} {p : α → Prop} {x : α} : pd p x = false ↔ ¬ p x := @decide_eq_false_iff_not (p x) (Classical.propDecidable _)
/-- the indices below n where p holds -/
noncomputable def irP (n : Int) (p : Int → Prop) : List Int := (ir n).filter (pd p)
theorem irP_mem {n x : Int} {p : Int → Prop} : x ∈ irP n p ↔ (0 ≤ x ∧ x < n) ∧ p x := by
  unfold irP
  rw [List.mem_filter, ir_mem, pd_t]
theorem irP_nodup {n : Int} {p : Int → Prop} : (irP n p).Nodup := by
  unfold irP
  exact List.Pairwise.filter _ ir_nodup
/-- a fold over a row's frames that heeds those of p alone is a fold over their list -/
theorem fI_irP {α : Type} {n : Int} {p : Int → Prop} {g : Int → α → α} {a : α} (h : ∀ i x, 0 ≤ i → i < n → ¬ p i → g i x = x) (hn : 0 ≤ n) : fI n g a = (irP n p).foldl (fun acc i => g i acc) a := by
  refine fI_ind (fun m x => m ≤ n → x = (irP m p).foldl (fun acc i => g i acc) a) hn (fun _ => rfl) (fun i x h0 h1 ih h2 => ?_) (Int.le_refl _)
  have ih := ih (by omega)
  unfold irP at ih ⊢
  rw [ir_succ h0, List.filter_append, List.foldl_append, ← ih]
  by_cases hp : p i
  · rw [show [i].filter (pd p) = [i] from by rw [List.filter_cons_of_pos (pd_t.mpr hp)]; rfl]
    rfl
  · rw [show [i].filter (pd p) = [] from by rw [List.filter_cons_of_neg (by rw [pd_f.mpr hp]; decide)]; rfl]
    exact h i x h0 h1 hp
/-- counting by a fold -/
theorem foldl_b2i {q : Int → Prop} : ∀ (l : List Int) (a : Int), l.foldl (fun n i => n + b2i (q i)) a = a + (l.countP (pd q) : Nat)
  | [], a => by simp
  | x :: l, a => by
    rw [List.foldl_cons, foldl_b2i l]
    by_cases hq : q x
    · rw [b2i_t hq, List.countP_cons_of_pos (pd_t.mpr hq)]; omega
    · rw [b2i_f hq, List.countP_cons_of_neg (by rw [pd_f.mpr hq]; decide)]; omega
/-- a count over a row's frames is a count over any list of those that matter -/
theorem fI_count {n : Int} {p q : Int → Prop} {J : List Int} (hJ : J.Perm (irP n p)) (hn : 0 ≤ n) (hq : ∀ i, 0 ≤ i → i < n → q i → p i) : fI n (fun i x => x + b2i (q i)) 0 = (J.countP (pd q) : Nat) := by
  rw [fI_irP (p := p) (fun i x h0 h1 hp => by rw [b2i_f (fun h => hp (hq i h0 h1 h))]; omega) hn, foldl_b2i, hJ.countP_eq]
  omega
theorem perm_foldl {β : Type} {f : β → Int → β} {l m : List Int} (h : l.Perm m) (c : ∀ x, x ∈ l → ∀ y, y ∈ l → ∀ z, f (f z x) y = f (f z y) x) (a : β) : l.foldl f a = m.foldl f a :=
  h.foldl_eq' c a
theorem perm_count {l m : List Int} (h : l.Perm m) (p : Int → Bool) : l.countP p = m.countP p := h.countP_eq p
theorem perm_filter {l m : List Int} (h : l.Perm m) (p : Int → Bool) : (l.filter p).Perm (m.filter p) := h.filter p

/-! THE SIMULATION: readers -/
theorem Rel.cs {s : Int → Int} {S : Nat → Int → Int} {R : Nat → List FV} (h : Rel s S R) {g k : Int} (hg : 0 ≤ g ∧ g < s 0) (hk : 0 ≤ k ∧ k < 5) : rOf s g k = cSe S g k := (h.2.1 g hg.1 hg.2).1.1 k hk.1 hk.2
theorem Rel.up {s : Int → Int} {S : Nat → Int → Int} {R : Nat → List FV} (h : Rel s S R) {g : Int} (hg : 0 ≤ g ∧ g < s 0) : rOf s g 5 = cH S g 3 := (h.2.1 g hg.1 hg.2).1.2.1
theorem Rel.cu {s : Int → Int} {S : Nat → Int → Int} {R : Nat → List FV} (h : Rel s S R) {u k : Int} (hu : 0 ≤ u ∧ u < s 1) (hk : 0 ≤ k ∧ k < 4) : rIts s u k = cU S u k := h.2.2.1 u hu.1 hu.2 k hk.1 hk.2
theorem Rel.child {s : Int → Int} {S : Nat → Int → Int} {R : Nat → List FV} (h : Rel s S R) {g c : Int} (hc : 0 ≤ c ∧ c < 15) : rChild s g c ↔ cChild S g (kid c) := by
  obtain ⟨e0, e1, e2, e4, e5, e6⟩ := h.1
  unfold rChild cChild kid
  by_cases h10 : c < 10
  · rw [if_pos h10, show c + 5 - 5 = c by omega]
    constructor
    · rintro (⟨_, q1, q2, q3, q4⟩ | ⟨q, _⟩)
      · rw [h.cu ⟨q1, by omega⟩ (by decide)] at q3 q4
        exact Or.inr ⟨by omega, by omega, q4, q3⟩
      · omega
    · rintro (⟨q, _⟩ | ⟨_, q1, q2, q3⟩)
      · omega
      · rw [← h.cu ⟨hc.1, by omega⟩ (by decide)] at q2 q3
        exact Or.inl ⟨h10, hc.1, by omega, q3, q2⟩
  · rw [if_neg h10]
    constructor
    · rintro (⟨q, _⟩ | ⟨_, q1, q2, q3⟩)
      · omega
      · rw [h.up ⟨q1, by omega⟩] at q3
        exact Or.inl ⟨by omega, by omega, q3⟩
    · rintro (⟨_, q1, q2⟩ | ⟨q, _⟩)
      · rw [← h.up ⟨by omega, by omega⟩] at q2
        exact Or.inr ⟨by omega, by omega, by omega, q2⟩
      · omega
/-- c is a unit or a hub -/
def kidOK (s : Int → Int) (c : Int) : Prop := (c < 10 ∧ 0 ≤ c ∧ c < s 1) ∨ (10 ≤ c ∧ c < 15 ∧ c - 10 < s 0)
theorem Rel.per {s : Int → Int} {S : Nat → Int → Int} {R : Nat → List FV} (h : Rel s S R) {c : Int} (hc : kidOK s c) : rPer s c = cPer S (kid c) := by
  unfold rPer cPer
  rcases hc with ⟨a, b, e⟩ | ⟨a, a2, b⟩
  · rw [show kid c = c + 5 by unfold kid; rw [if_pos a]]
    rw [if_pos a, if_neg (by omega), show c + 5 - 5 = c by omega]
    exact h.cu ⟨b, e⟩ (by decide)
  · rw [show kid c = c - 10 by unfold kid; rw [if_neg (by omega)]]
    rw [if_neg (by omega), if_pos (by omega)]
    exact h.cs ⟨by omega, b⟩ (by decide)
theorem Rel.exp {s : Int → Int} {S : Nat → Int → Int} {R : Nat → List FV} (h : Rel s S R) {g c sl : Int} (hg : 0 ≤ g ∧ g < s 0) (hc : kidOK s c) : rExp s g c sl = cExp S g (kid c) sl := by
  unfold rExp cExp
  rw [h.per hc, h.cs hg (by decide)]
/-- how many frames are kept at g by q, a question about frames that the relation carries over -/
theorem RelK.count {s : Int → Int} {S : Nat → Int → Int} {R : Nat → List FV} {g : Int} (h : RelK s S R g) (hn : 0 ≤ s 7) {p : Int → Prop} {q : FV → Prop} (hp : ∀ f, 0 ≤ f → f < s 7 → p f → isK s g f) (hpq : ∀ f v, 0 ≤ f → f < s 7 → isK s g f → v ∈ kR R g → FrK s f v → (p f ↔ q v)) : fI (s 7) (fun f n => n + b2i (p f)) 0 = ((kR R g).countP (pd q) : Nat) := by
  obtain ⟨hc, J, hJ, hl⟩ := h
  rw [fI_count hJ hn hp]
  refine congrArg (fun n : Nat => (n : Int)) (hl.count (fun f hf v hv hr => ?_))
  have hf := irP_mem.mp (hJ.mem_iff.mp hf)
  have e := hpq f v hf.1.1 hf.1.2 hf.2 hv hr
  unfold pd
  exact @decide_eq_decide _ _ (Classical.propDecidable _) (Classical.propDecidable _) |>.mpr e
theorem gtC {L : List FV} {q : FV → Prop} : fI (L.length : Nat) (fun i n => n + b2i (q (gt L i))) 0 = (L.countP (pd q) : Nat) := by
  have key : ∀ (j : Nat), j ≤ L.length → fI (j : Nat) (fun i n => n + b2i (q (gt L i))) 0 = (((L.take j).countP (pd q) : Nat) : Int) := by
    intro j
    induction j with
    | zero => intro _; rfl
    | succ j ih =>
      intro hj
      rw [show ((j + 1 : Nat) : Int) = (j : Int) + 1 by omega, fI_succ (by omega), ih (by omega)]
      have e : gt L (j : Int) = L[j]'(by omega) := by
        unfold gt
        rw [show ((j : Int)).toNat = j by omega, List.getD_eq_getElem?_getD, List.getElem?_eq_getElem (by omega)]
        rfl
      rw [List.take_succ_eq_append_getElem (by omega), List.countP_append, ← e]
      by_cases hq : q (gt L (j : Int))
      · rw [b2i_t hq, List.countP_cons_of_pos (pd_t.mpr hq), List.countP_nil]; omega
      · rw [b2i_f hq, List.countP_cons_of_neg (by rw [pd_f.mpr hq]; decide), List.countP_nil]; omega
  have := key L.length (Nat.le_refl _)
  rw [List.take_length] at this
  exact this

/-! THE CLASS: its face, time -/
theorem OT.re {G h : HP} {L A C D B E : Int} {tx nu : Int → Int} (O : OT G h L A C D B E tx nu) : OT h h L A C D B E tx nu := ⟨EO.refl, O.2⟩
theorem OT.ck {G h H : HP} {L A C D B E : Int} {tx nu : Int → Int} (O : OT G h L A C D B E tx nu) (c : CK h H) : OT H H L A C D B E tx nu := by
  obtain ⟨_, ⟨o1, o2, o3, o4, o5⟩, o6, o7, o8⟩ := O
  have c5 := c 5 (Or.inl (by decide))
  have c6 := c 6 (Or.inl (by decide))
  have c7 := c 7 (Or.inl (by decide))
  exact ⟨EO.refl, ⟨by rw [c5.1]; exact o1, by rw [c6.1]; exact o2, by rw [c7.1]; exact o3, by rw [c5.2.2]; exact o4, by rw [c5.2.2]; exact o5⟩, by rw [c5.2.1]; exact o6, by rw [c6.2.1]; exact o7, by rw [c7.2.1]; exact o8⟩
theorem upG_self {α : Type} {f : Nat → α} {r : Nat} : upG f r (f r) = f := by
  funext q
  unfold upG
  split
  · rename_i e; rw [e]
  · rfl
theorem upG_upG {α : Type} {f : Nat → α} {r : Nat} {x y : α} : upG (upG f r x) r y = upG f r y := by
  funext q
  unfold upG
  split <;> rfl
/-- the rows' counts are their lengths -/
def CntR (S : Nat → Int → Int) (R : Nat → List FV) : Prop := cW S = ((R 3).length : Nat) ∧ ∀ g, 0 ≤ g → g < 5 → cZ S g = ((kR R g).length : Nat)
theorem TR.cnt {t : Nat} {h : HP} {o : Nat → Nat} {w : Nat → Nat × Nat} {S : Nat → Int → Int} {R : Nat → List FV} (T : TR t h o w S R) : CntR S R := ⟨T.cW.1, fun g a b => (T.cZ a b).1⟩

/-! THE SIMULATION: what is touched -/
theorem rSl_nn {s : Int → Int} {g : Int} : ∀ (n : Nat) (sl : Int), 0 ≤ rSl s g n sl
  | 0, sl => by rw [rSl]; omega
  | n + 1, sl => by
    have := rSl_nn (s := s) (g := g) n (rBehind s g sl)
    rw [rSl]
    split <;> omega
theorem Rel.touch {s : Int → Int} {S : Nat → Int → Int} {R : Nat → List FV} (h : Rel s S R) (hs : RI s) (hf : RF s) {g : Int} (hg : 0 ≤ g ∧ g < s 0) (hI : RowI2 s (kR R g) g) : (rSls s g (-1) = 0 ∧ rOf s g 6 = 0) ↔ cTouch S g := by
  have hK := (h.2.1 g hg.1 hg.2).2
  have q6 := (h.2.1 g hg.1 hg.2).1.2.2.2.1
  have hb := hK.behind hs.2.2.1.1 hI.1 (fun i a b => (hI.2.2.1 i a b).2.1.1)
  have e := rSls_eq hs hf (g := g) (sl := -1) (by omega)
  have nn : 0 ≤ rSls s g (rBehind s g (-1)) := by unfold rSls; exact rSl_nn _ _
  unfold cTouch
  rw [hK.1, ← q6]
  by_cases hl : (kR R g).length = 0
  · rw [if_pos hl] at hb
    rw [if_pos (by omega)] at e
    rw [e, hl]
    exact Iff.rfl
  · rw [if_neg hl] at hb
    have p0 := (hI.2.2.1 0 (by omega) (by omega)).2.1.1
    rw [if_neg (by omega)] at e
    constructor
    · rintro ⟨a, _⟩; omega
    · rintro ⟨a, _⟩; omega

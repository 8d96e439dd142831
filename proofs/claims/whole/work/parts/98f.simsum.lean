/-! THE SIMULATION: sums -/
theorem Rel.sum {s : Int → Int} {S : Nat → Int → Int} {R : Nat → List FV} (h : Rel s S R) {w j : Int} (hw : (w = 6 ∧ j = 5) ∨ (w = 7 ∧ j = 6) ∨ (w = 8 ∧ j = 7)) : rSum s w = cSum S j := by
  unfold rSum cSum
  rw [← h.1.1]
  refine fI_congr (fun g a b n => ?_)
  obtain ⟨_, _, _, q6, q7, q8, _⟩ := (h.2.1 g a b).1
  rcases hw with ⟨rfl, rfl⟩ | ⟨rfl, rfl⟩ | ⟨rfl, rfl⟩
  · rw [q6]
  · rw [q7]
  · rw [q8]
theorem Rel.heldBy {s : Int → Int} {S : Nat → Int → Int} {R : Nat → List FV} (h : Rel s S R) {g u w : Int} (hg : 0 ≤ g ∧ g < s 0) (hu : 0 ≤ u ∧ u < 10) (hw : w = 0 ∨ w = 1) : (if s (98 + 30 * g + 3 * u) = 1 then s (98 + 30 * g + 3 * u + 1 + w) else -1000004) = fRd (SF S (15 + 7 * g.toNat)) u w := by
  have q := (h.2.1 g hg.1 hg.2).1.2.2.2.2.2.2.2.2 u hu.1 hu.2
  unfold fRd
  by_cases e : fHas (SF S (15 + 7 * g.toNat)) u
  · rw [if_pos (q.1.mpr e), cif_t e]
    have v := q.2 e
    rcases hw with rfl | rfl
    · rw [if_pos rfl, ← v.1, Int.add_zero]
    · rw [if_neg (by decide), ← v.2, show 98 + 30 * g + 3 * u + 1 + 1 = 98 + 30 * g + 3 * u + 2 by omega]
  · rw [if_neg (fun z => e (q.1.mp z)), cif_f e]

/-! THE SIMULATION: the first time, what is complete -/
theorem rFirst_is {s : Int → Int} {g sl : Int} (hn : 0 ≤ s 7) (ht : ∀ f, 0 ≤ f → f < s 7 → rIn s f g sl → 0 ≤ rFr s f 5) : (rFirst s g sl = -1 ∧ ∀ f, 0 ≤ f → f < s 7 → ¬ rIn s f g sl) ∨ ((∃ f, 0 ≤ f ∧ f < s 7 ∧ rIn s f g sl ∧ rFr s f 5 = rFirst s g sl) ∧ ∀ f, 0 ≤ f → f < s 7 → rIn s f g sl → rFirst s g sl ≤ rFr s f 5) := by
  unfold rFirst
  refine fI_ind (fun n x => (x = -1 ∧ ∀ f, 0 ≤ f → f < n → ¬ rIn s f g sl) ∨ ((∃ f, 0 ≤ f ∧ f < n ∧ rIn s f g sl ∧ rFr s f 5 = x) ∧ ∀ f, 0 ≤ f → f < n → rIn s f g sl → x ≤ rFr s f 5)) hn (Or.inl ⟨rfl, fun f a b => absurd b (by omega)⟩) (fun i x h0 h1 ih => ?_)
  by_cases hc : rIn s i g sl ∧ (x < 0 ∨ rFr s i 5 < x)
  · rw [cif_t hc]
    refine Or.inr ⟨⟨i, h0, by omega, hc.1, rfl⟩, fun f a b kf => ?_⟩
    by_cases hfi : f = i
    · rw [hfi]; exact Int.le_refl _
    · rcases ih with ⟨q1, q2⟩ | ⟨⟨f0, a0, b0, k0, e0⟩, q3⟩
      · exact absurd kf (q2 f a (by omega))
      · have := q3 f a (by omega) kf
        have := ht f0 a0 (by omega) k0
        have := hc.2
        omega
  · rw [cif_f hc]
    rcases ih with ⟨q1, q2⟩ | ⟨⟨f0, a0, b0, k0, e0⟩, q3⟩
    · refine Or.inl ⟨q1, fun f a b kf => ?_⟩
      by_cases hfi : f = i
      · subst hfi; exact hc ⟨kf, Or.inl (by omega)⟩
      · exact q2 f a (by omega) kf
    · refine Or.inr ⟨⟨f0, a0, by omega, k0, e0⟩, fun f a b kf => ?_⟩
      by_cases hfi : f = i
      · subst hfi
        by_cases q : rFr s f 5 < x
        · exact absurd ⟨kf, Or.inr q⟩ hc
        · omega
      · exact q3 f a (by omega) kf
/-- times do not fall within a slot -/
def TimeS (L : List FV) : Prop := ∀ i j : Int, 0 ≤ i → i < j → j < (L.length : Nat) → gt L i 2 = gt L j 2 → gt L i 3 ≤ gt L j 3
theorem RelK.first {s : Int → Int} {S : Nat → Int → Int} {R : Nat → List FV} {g st : Int} (h : RelK s S R g) (hn : 0 ≤ s 7) (hS : SortS (kR R g)) (hT : TimeS (kR R g)) (hR : RowOK (kR R g)) (hs : SlSt (kR R g) st) : rFirst s g (gt (kR R g) st 2) = gt (kR R g) st 3 := by
  have to : ∀ f, 0 ≤ f → f < s 7 → rIn s f g (gt (kR R g) st 2) → ∃ i : Int, (0 ≤ i ∧ i < ((kR R g).length : Nat)) ∧ FrK s f (gt (kR R g) i) ∧ gt (kR R g) i 2 = gt (kR R g) st 2 := fun f a b k => by
    obtain ⟨i, hi, hf⟩ := h.to a b ⟨k.1, k.2.1⟩
    exact ⟨i, hi, hf, by rw [hf.2.2.1]; exact k.2.2⟩
  obtain ⟨f0, ⟨a0, b0⟩, k0, e0⟩ := h.of hs.1.1 hs.1.2
  have k0' : rIn s f0 g (gt (kR R g) st 2) := ⟨k0.1, k0.2, by rw [e0.2.2.1]⟩
  rcases rFirst_is (s := s) (g := g) (sl := gt (kR R g) st 2) hn (fun f a b k => by
    obtain ⟨i, hi, hf, _⟩ := to f a b k
    have := (hR i hi.1 hi.2).2.2.1
    rw [hf.2.2.2.1] at this; exact this) with ⟨_, q⟩ | ⟨⟨f, a, b, k, e⟩, q⟩
  · exact absurd k0' (q f0 a0 b0)
  · have m := q f0 a0 b0 k0'
    obtain ⟨i, hi, hf, es⟩ := to f a b k
    have e1 := hf.2.2.2.1
    have e2 := e0.2.2.2.1
    have hru := (hs.run hS hi.1 hi.2).mp es
    by_cases hist : i = st
    · subst hist; omega
    · have := hT st i hs.1.1 (by omega) hi.2 es.symm
      omega
/-- how many frames of child c (all, if c < 0) wait at g for the slot at st -/
theorem RelK.frames {s : Int → Int} {S : Nat → Int → Int} {R : Nat → List FV} {g st c : Int} (h : RelK s S R g) (hn : 0 ≤ s 7) (hS : SortS (kR R g)) (hs : SlSt (kR R g) st) (hc : 0 ≤ c ∧ c < 15) (hf : ∀ f, 0 ≤ f → f < s 7 → isK s g f → 0 ≤ rFr s f 2 ∧ rFr s f 2 < 15) : rFrames s g c (gt (kR R g) st 2) = cTal (kR R g) st (cEnd (kR R g) st) (kid c) := by
  unfold rFrames cTal
  rw [← slot_count (q := fun v => v 0 = kid c) hS hs]
  refine h.count (p := fun f => rIn s f g (gt (kR R g) st 2) ∧ (c < 0 ∨ rFr s f 2 = c)) (q := fun v => v 2 = gt (kR R g) st 2 ∧ v 0 = kid c) hn (fun f _ _ k => ⟨k.1.1, k.1.2.1⟩) (fun f v a b k _ e => ?_)
  have hc2 := hf f a b k
  constructor
  · rintro ⟨k1, k2⟩
    refine ⟨by rw [e.2.2.1]; exact k1.2.2, ?_⟩
    rw [e.1]
    rcases k2 with k2 | k2
    · omega
    · rw [k2]
  · rintro ⟨k1, k2⟩
    rw [e.1] at k2
    exact ⟨⟨k.1, k.2, by rw [← e.2.2.1]; exact k1⟩, Or.inr (kid_in hc2 hc k2)⟩

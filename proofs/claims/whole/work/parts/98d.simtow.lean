/-! THE SIMULATION: through which child -/
theorem rThr_low {s : Int → Int} {S : Nat → Int → Int} {R : Nat → List FV} (h : Rel s S R) (hC : CI S) {g : Int} : ∀ (n : Nat) (c x : Int), x < g → x < s 0 → rThr s g n c x = -1
  | 0, _, _, _, _ => rfl
  | n + 1, c, x, hx, h0 => by
    rw [rThr]
    by_cases q : x < 0
    · rw [if_pos q]
    · rw [if_neg q, if_neg (by omega)]
      have e := h.up (g := x) ⟨by omega, h0⟩
      have hh := hC.2.2.1 x (by omega) (by have := h.1.1; omega)
      exact rThr_low h hC n _ _ (by omega) (by omega)
theorem rThr_tw {s : Int → Int} {S : Nat → Int → Int} {R : Nat → List FV} (h : Rel s S R) (hC : CI S) {g : Int} (hg : 0 ≤ g) : ∀ (n j : Nat) (c x : Int), 0 ≤ c → (-1 ≤ x ∧ x < s 0) → x + 1 ≤ (n : Nat) → x ≤ (j : Nat) → (rThr s g n c x = -1 ∧ cTw S g j (kid c) x = -1) ∨ (0 ≤ rThr s g n c x ∧ cTw S g j (kid c) x = kid (rThr s g n c x))
  | 0, j, c, x, hc, hx, hn, hj => by
    refine Or.inl ⟨rfl, ?_⟩
    cases j with
    | zero => rw [cTw, if_neg (by omega)]
    | succ j => rw [cTw, if_neg (by omega), if_neg (by omega)]
  | n + 1, j, c, x, hc, hx, hn, hj => by
    by_cases q : x < 0
    · refine Or.inl ⟨by rw [rThr, if_pos q], ?_⟩
      cases j with
      | zero => rw [cTw, if_neg (by omega)]
      | succ j => rw [cTw, if_neg (by omega), if_neg (by omega)]
    · by_cases qg : x = g
      · rw [rThr, if_neg q, if_pos qg]
        refine Or.inr ⟨hc, ?_⟩
        cases j with
        | zero => rw [cTw, if_pos qg]
        | succ j => rw [cTw, if_neg (by omega), if_pos qg]
      · have e := h.up (g := x) ⟨by omega, hx.2⟩
        have hh := hC.2.2.1 x (by omega) (by have := h.1.1; omega)
        rw [rThr, if_neg q, if_neg qg, e]
        by_cases ql : g < x
        · obtain ⟨i, rfl⟩ : ∃ i, j = i + 1 := ⟨j - 1, by omega⟩
          rw [cTw, if_pos ql]
          have ih := rThr_tw h hC hg n i (10 + x) (cH S x 3) (by omega) ⟨by omega, by omega⟩ (by omega) (by omega)
          rw [show kid (10 + x) = x by unfold kid; rw [if_neg (by omega)]; omega] at ih
          exact ih
        · refine Or.inl ⟨rThr_low h hC n _ _ (by omega) (by omega), ?_⟩
          cases j with
          | zero => rw [cTw, if_neg qg]
          | succ j => rw [cTw, if_neg ql, if_neg qg]
theorem Rel.tow {s : Int → Int} {S : Nat → Int → Int} {R : Nat → List FV} (h : Rel s S R) (hC : CI S) {g u : Int} (hg : 0 ≤ g) (hu : 0 ≤ u ∧ u < s 1) : (rIsOf s g u ∧ cTow S u g = kid (rThrough s g u)) ∨ (¬ rIsOf s g u ∧ cTow S u g = -1) := by
  unfold rIsOf cTow rThrough
  have e2 := h.cu (u := u) (k := 2) hu (by decide)
  have e0 := h.cu (u := u) (k := 0) hu (by decide)
  have hh := hC.2.2.2 u hu.1 (by have := h.1.2.1; omega)
  have h0 := h.1.1
  have hc0 := hC.1
  rw [e2, e0]
  by_cases q : cU S u 2 = 0
  · rw [if_pos q]
    have t := rThr_tw h hC hg 6 5 u (cU S u 0) hu.1 ⟨by omega, by omega⟩ (by omega) (by omega)
    rw [show kid u = 5 + u by unfold kid; rw [if_pos (by have := hC.2.1; have := h.1.2.1; omega)]; omega] at t
    rcases t with ⟨a, b⟩ | ⟨a, b⟩
    · exact Or.inr ⟨fun z => by have := z.2; omega, b⟩
    · exact Or.inl ⟨⟨q, a⟩, b⟩
  · rw [if_neg q]
    exact Or.inr ⟨fun z => q z.1, rfl⟩

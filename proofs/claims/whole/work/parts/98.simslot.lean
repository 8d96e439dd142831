/-! THE SIMULATION: the slots that wait -/
theorem rBehind_is {s : Int → Int} {g sl : Int} (hn : 0 ≤ s 7) (hsl : -1 ≤ sl) : (rBehind s g sl = -1 ∧ ∀ f, 0 ≤ f → f < s 7 → isK s g f → rFr s f 4 ≤ sl) ∨ (sl < rBehind s g sl ∧ (∃ f, 0 ≤ f ∧ f < s 7 ∧ isK s g f ∧ rFr s f 4 = rBehind s g sl) ∧ ∀ f, 0 ≤ f → f < s 7 → isK s g f → sl < rFr s f 4 → rBehind s g sl ≤ rFr s f 4) := by
  unfold rBehind
  refine fI_ind (fun n x => (x = -1 ∧ ∀ f, 0 ≤ f → f < n → isK s g f → rFr s f 4 ≤ sl) ∨ (sl < x ∧ (∃ f, 0 ≤ f ∧ f < n ∧ isK s g f ∧ rFr s f 4 = x) ∧ ∀ f, 0 ≤ f → f < n → isK s g f → sl < rFr s f 4 → x ≤ rFr s f 4)) hn (Or.inl ⟨rfl, fun f a b => absurd b (by omega)⟩) (fun i x h0 h1 ih => ?_)
  by_cases hc : rFr s i 0 = 2 ∧ rFr s i 1 = g ∧ sl < rFr s i 4 ∧ (x < 0 ∨ rFr s i 4 < x)
  · rw [cif_t hc]
    obtain ⟨c1, c2, c3, c4⟩ := hc
    refine Or.inr ⟨c3, ⟨i, h0, by omega, ⟨c1, c2⟩, rfl⟩, fun f a b kf sf => ?_⟩
    by_cases hfi : f = i
    · rw [hfi]; exact Int.le_refl _
    · rcases ih with ⟨q1, q2⟩ | ⟨q1, q2, q3⟩
      · have := q2 f a (by omega) kf; omega
      · have := q3 f a (by omega) kf sf; omega
  · rw [cif_f hc]
    rcases ih with ⟨q1, q2⟩ | ⟨q1, ⟨f0, a0, b0, k0, e0⟩, q3⟩
    · refine Or.inl ⟨q1, fun f a b kf => ?_⟩
      by_cases hfi : f = i
      · subst hfi
        by_cases q : sl < rFr s f 4
        · exact absurd ⟨kf.1, kf.2, q, Or.inl (by omega)⟩ hc
        · omega
      · exact q2 f a (by omega) kf
    · refine Or.inr ⟨q1, ⟨f0, a0, by omega, k0, e0⟩, fun f a b kf sf => ?_⟩
      by_cases hfi : f = i
      · subst hfi
        by_cases q : rFr s f 4 < x
        · exact absurd ⟨kf.1, kf.2, sf, Or.inr q⟩ hc
        · omega
      · exact q3 f a (by omega) kf sf
theorem L2.left {α β : Type} {r : α → β → Prop} : ∀ {l : List α} {m : List β}, L2 r l m → ∀ a, a ∈ l → ∃ b, b ∈ m ∧ r a b
  | [], [], _, a, h => absurd h (List.not_mem_nil)
  | x :: l, y :: m, h, a, k => by
    rcases List.mem_cons.mp k with e | e
    · exact ⟨y, List.mem_cons_self, e ▸ h.1⟩
    · obtain ⟨b, hb, hr⟩ := L2.left (l := l) (m := m) h.2 a e
      exact ⟨b, List.mem_cons_of_mem _ hb, hr⟩
  | [], _ :: _, h, _, _ => h.elim
  | _ :: _, [], h, _, _ => h.elim
theorem L2.right {α β : Type} {r : α → β → Prop} : ∀ {l : List α} {m : List β}, L2 r l m → ∀ b, b ∈ m → ∃ a, a ∈ l ∧ r a b
  | [], [], _, a, h => absurd h (List.not_mem_nil)
  | x :: l, y :: m, h, b, k => by
    rcases List.mem_cons.mp k with e | e
    · exact ⟨x, List.mem_cons_self, e ▸ h.1⟩
    · obtain ⟨a, ha, hr⟩ := L2.right (l := l) (m := m) h.2 b e
      exact ⟨a, List.mem_cons_of_mem _ ha, hr⟩
  | [], _ :: _, h, _, _ => h.elim
  | _ :: _, [], h, _, _ => h.elim
theorem gt_mem {L : List FV} {i : Int} (h0 : 0 ≤ i) (h1 : i < (L.length : Nat)) : gt L i ∈ L := by
  obtain ⟨n, rfl⟩ := Int.eq_ofNat_of_zero_le h0
  rw [gt_nat (by omega)]
  exact List.getElem_mem _
theorem mem_gt {L : List FV} {v : FV} (h : v ∈ L) : ∃ i : Int, 0 ≤ i ∧ i < (L.length : Nat) ∧ gt L i = v := by
  obtain ⟨n, hn, e⟩ := List.getElem_of_mem h
  exact ⟨(n : Int), by omega, by omega, by rw [gt_nat hn]; exact e⟩
theorem RelK.to {s : Int → Int} {S : Nat → Int → Int} {R : Nat → List FV} {g f : Int} (h : RelK s S R g) (h0 : 0 ≤ f) (h1 : f < s 7) (hk : isK s g f) : ∃ i : Int, (0 ≤ i ∧ i < ((kR R g).length : Nat)) ∧ FrK s f (gt (kR R g) i) := by
  obtain ⟨hc, J, hJ, hl⟩ := h
  obtain ⟨v, hv, hr⟩ := hl.left f (hJ.mem_iff.mpr (irP_mem.mpr ⟨⟨h0, h1⟩, hk⟩))
  obtain ⟨i, a, b, e⟩ := mem_gt hv
  exact ⟨i, ⟨a, b⟩, e ▸ hr⟩
theorem RelK.of {s : Int → Int} {S : Nat → Int → Int} {R : Nat → List FV} {g i : Int} (h : RelK s S R g) (h0 : 0 ≤ i) (h1 : i < ((kR R g).length : Nat)) : ∃ f, (0 ≤ f ∧ f < s 7) ∧ isK s g f ∧ FrK s f (gt (kR R g) i) := by
  obtain ⟨hc, J, hJ, hl⟩ := h
  obtain ⟨f, hf, hr⟩ := hl.right _ (gt_mem h0 h1)
  have := irP_mem.mp (hJ.mem_iff.mp hf)
  exact ⟨f, this.1, this.2, hr⟩
/-- the first slot that waits -/
theorem RelK.behind {s : Int → Int} {S : Nat → Int → Int} {R : Nat → List FV} {g : Int} (h : RelK s S R g) (hn : 0 ≤ s 7) (hS : SortS (kR R g)) (hp : ∀ i : Int, 0 ≤ i → i < ((kR R g).length : Nat) → 0 ≤ gt (kR R g) i 2) : rBehind s g (-1) = if (kR R g).length = 0 then -1 else gt (kR R g) 0 2 := by
  rcases rBehind_is (s := s) (g := g) (sl := -1) hn (by omega) with ⟨e, q⟩ | ⟨q1, ⟨f, a, b, kf, ef⟩, q3⟩
  · by_cases hl : (kR R g).length = 0
    · rw [if_pos hl]; exact e
    · obtain ⟨f, ⟨a, b⟩, kf, hf⟩ := h.of (i := 0) (by omega) (by omega)
      have := q f a b kf
      have := hp 0 (by omega) (by omega)
      have := hf.2.2.1
      omega
  · obtain ⟨i, ⟨i0, i1⟩, hf⟩ := h.to a b kf
    rw [if_neg (by omega)]
    obtain ⟨f2, ⟨a2, b2⟩, kf2, hf2⟩ := h.of (i := 0) (by omega) (by omega)
    have p0 := hp 0 (by omega) (by omega)
    have e2 := hf2.2.2.1
    have e1 := hf.2.2.1
    have m := q3 f2 a2 b2 kf2 (by omega)
    by_cases hi : i = 0
    · subst hi; omega
    · have := hS 0 i (by omega) (by omega) i1
      omega

/-! A ROW'S SLOTS, a hub's units, as the law reads them -/
theorem stq {L : List FV} {n : Nat} : ∀ {s : Int}, cSt L (n + 1) s = if cSt L n s < (L.length : Nat) then cEnd L (cSt L n s) else cSt L n s := by
  induction n with
  | zero => intro s; rfl
  | succ n ih =>
    intro s
    rw [cSt]
    by_cases q : s < (L.length : Nat)
    · rw [if_pos q, ih]
      rw [show cSt L (n + 1) s = cSt L n (cEnd L s) by rw [cSt, if_pos q]]
    · rw [if_neg q]
      have e : ∀ m : Nat, cSt L m s = s := fun m => by
        cases m with
        | zero => rfl
        | succ m => rw [cSt, if_neg q]
      rw [e, if_neg q]
noncomputable def stN (L : List FV) (s : Int) : Int := fI s (fun i n => n + b2i (i = 0 ∨ ¬ gt L i 2 = gt L (i - 1) 2)) 0
theorem stN_run {L : List FV} {s : Int} (h0 : 0 ≤ s) (h1 : s < (L.length : Nat)) (hs : s = 0 ∨ ¬ gt L s 2 = gt L (s - 1) 2) : ∀ n : Nat, s + 1 + n ≤ cEnd L s → stN L (s + 1 + n) = stN L s + 1
  | 0, _ => by
    rw [show s + 1 + ((0 : Nat) : Int) = s + 1 by omega]
    unfold stN
    rw [fI_succ h0, b2i_t hs]
  | n + 1, hn => by
    have ih := stN_run h0 h1 hs n (by omega)
    rw [show s + 1 + ((n + 1 : Nat) : Int) = s + 1 + (n : Int) + 1 by omega]
    unfold stN at *
    rw [fI_succ (by omega), ih, b2i_f]
    · omega
    · have a := cEnd_in (L := L) (i := s + 1 + (n : Int)) h0 (by omega) (by omega)
      have b := cEnd_in (L := L) (i := s + 1 + (n : Int) - 1) h0 (by omega) (by omega)
      intro q
      rcases q with q | q
      · omega
      · exact q (by rw [a, b])
/-- the slot with the index k starts where it should -/
theorem slot_at {L : List FV} (hS : SortS L) : ∀ n : Nat, (0 ≤ cSt L n 0 ∧ cSt L n 0 ≤ (L.length : Nat)) ∧ (cSt L n 0 < (L.length : Nat) → stN L (cSt L n 0) = n ∧ SlSt L (cSt L n 0)) ∧ (cSt L n 0 = (L.length : Nat) → stN L (L.length : Nat) ≤ n)
  | 0 => by
    have e : cSt L 0 0 = 0 := rfl
    rw [e]
    refine ⟨⟨Int.le_refl _, by omega⟩, fun h => ⟨rfl, SlSt.zero (by omega)⟩, fun h => by rw [← h]; exact Int.le_refl _⟩
  | n + 1 => by
    obtain ⟨⟨a, a2⟩, b, c⟩ := slot_at hS n
    rw [stq]
    by_cases q : cSt L n 0 < (L.length : Nat)
    · rw [if_pos q]
      obtain ⟨b1, b2⟩ := b q
      generalize cSt L n 0 = s at *
      have rE := cEnd_rng (L := L) a q
      have hs : s = 0 ∨ ¬ gt L s 2 = gt L (s - 1) 2 := by
        by_cases z : s = 0
        · exact Or.inl z
        · have := b2.2 (s - 1) (by omega) (by omega)
          exact Or.inr (by omega)
      have run := stN_run a q hs (cEnd L s - s - 1).toNat (by omega)
      rw [show s + 1 + (((cEnd L s - s - 1).toNat : Nat) : Int) = cEnd L s by omega, b1] at run
      refine ⟨⟨by omega, rE.2⟩, fun h => ⟨by rw [run]; omega, ⟨⟨by omega, h⟩, fun i i0 i1 => ?_⟩⟩, fun h => by rw [← h, run]; omega⟩
      have lt := cEnd_out (i := cEnd L s) hS a (Int.le_refl _) h
      by_cases z : i < s
      · have := b2.2 i i0 z; omega
      · have := cEnd_in (L := L) (i := i) a (by omega) i1; omega
    · rw [if_neg q]
      refine ⟨⟨a, a2⟩, fun h => absurd h q, fun h => by have := c h; omega⟩
theorem cSlots_is {L : List FV} : cSlots L = stN L (L.length : Nat) := rfl
theorem stN_nn {L : List FV} : ∀ n : Nat, 0 ≤ stN L n
  | 0 => Int.le_refl _
  | n + 1 => by
    have := stN_nn (L := L) n
    rw [show ((n + 1 : Nat) : Int) = (n : Int) + 1 by omega]
    unfold stN at *
    rw [fI_succ (by omega)]
    have := (b2i_01 ((n : Int) = 0 ∨ ¬ gt L (n : Int) 2 = gt L ((n : Int) - 1) 2)).1
    omega
theorem stN_mono {L : List FV} {s : Int} (h0 : 0 ≤ s) : ∀ n : Nat, stN L s ≤ stN L (s + n)
  | 0 => by rw [show s + ((0 : Nat) : Int) = s by omega]; exact Int.le_refl _
  | n + 1 => by
    have ih := stN_mono (L := L) h0 n
    rw [show s + ((n + 1 : Nat) : Int) = s + (n : Int) + 1 by omega]
    unfold stN at *
    rw [fI_succ (by omega)]
    have := (b2i_01 (s + (n : Int) = 0 ∨ ¬ gt L (s + (n : Int)) 2 = gt L (s + (n : Int) - 1) 2)).1
    omega
theorem cSlots_rng {L : List FV} : 0 ≤ cSlots L ∧ cSlots L ≤ (L.length : Nat) := by
  rw [cSlots_is]
  refine ⟨stN_nn _, ?_⟩
  have key : ∀ n : Nat, stN L n ≤ n := by
    intro n
    induction n with
    | zero => exact Int.le_refl _
    | succ n ih =>
      rw [show ((n + 1 : Nat) : Int) = (n : Int) + 1 by omega]
      unfold stN at *
      rw [fI_succ (by omega)]
      have := (b2i_01 ((n : Int) = 0 ∨ ¬ gt L (n : Int) 2 = gt L ((n : Int) - 1) 2)).2
      omega
  exact key _
/-- there are as many slots as are told -/
theorem start_in {L : List FV} (hS : SortS L) {k : Int} (h0 : 0 ≤ k) (h1 : k < cSlots L) : cStart L k = cSt L k.toNat 0 ∧ SlSt L (cStart L k) := by
  obtain ⟨a, b, c⟩ := slot_at hS k.toNat
  have hl : cSt L k.toNat 0 < (L.length : Nat) := by
    by_cases q : cSt L k.toNat 0 < (L.length : Nat)
    · exact q
    · have := c (by omega)
      rw [cSlots_is] at h1
      omega
  have e : cStart L k = cSt L k.toNat 0 := if_pos hl
  rw [e]
  exact ⟨rfl, (b hl).2⟩
theorem start_out {L : List FV} (hS : SortS L) : cStart L (cSlots L) = -1 := by
  obtain ⟨a, b, c⟩ := slot_at hS (cSlots L).toNat
  refine if_neg (fun q => ?_)
  obtain ⟨b1, b2⟩ := b q
  have hn := (cSlots_rng (L := L)).1
  generalize cSt L (cSlots L).toNat 0 = s at *
  have hs : s = 0 ∨ ¬ gt L s 2 = gt L (s - 1) 2 := by
    by_cases z : s = 0
    · exact Or.inl z
    · have := b2.2 (s - 1) (by omega) (by omega)
      exact Or.inr (by omega)
  have e1 : stN L (s + 1) = stN L s + 1 := by
    unfold stN
    rw [fI_succ a.1, b2i_t hs]
  have e2 := stN_mono (L := L) (s := s + 1) (by omega) ((L.length : Int) - (s + 1)).toNat
  rw [show s + 1 + ((((L.length : Int) - (s + 1)).toNat : Nat) : Int) = (L.length : Nat) by omega, ← cSlots_is] at e2
  omega
theorem start_0 {L : List FV} (h : 0 < L.length) : cStart L 0 = 0 := if_pos (show (0 : Int) < (L.length : Nat) by omega)
theorem start_lt {L : List FV} (hS : SortS L) {k : Int} (h0 : 0 < k) (h1 : k < cSlots L) : gt L (cStart L (k - 1)) 2 < gt L (cStart L k) 2 := by
  obtain ⟨e1, s1⟩ := start_in hS (k := k - 1) (by omega) (by omega)
  obtain ⟨e2, s2⟩ := start_in hS (k := k) (by omega) h1
  refine s2.2 _ s1.1.1 ?_
  have q : cSt L k.toNat 0 = cEnd L (cSt L (k - 1).toNat 0) := by
    rw [show k.toNat = (k - 1).toNat + 1 by omega, stq, if_pos (by rw [← e1]; exact s1.1.2)]
  rw [e2, q, e1]
  have := cEnd_rng (L := L) s1.1.1 s1.1.2
  rw [e1] at this
  exact this.1
/-- the units of a hub, one by one -/
noncomputable def uC (S : Nat → Int → Int) (g u : Int) : Int := fI u (fun i n => n + b2i (¬ cTow S i g = -1)) 0
theorem uA_is {S : Nat → Int → Int} {g x : Int} : ∀ (n : Nat) (u a : Int), 0 ≤ u → u ≤ cT S 5 → cT S 5 - u < n → a ≤ x → (x - a < uC S g (cT S 5) - uC S g u → 0 ≤ cUA S g x n u a) ∧ (uC S g (cT S 5) - uC S g u ≤ x - a → cUA S g x n u a = -1000004)
  | 0, u, a, _, _, h, _ => by omega
  | n + 1, u, a, h0, h1, h2, h3 => by
    rw [cUA]
    by_cases q : cT S 5 ≤ u
    · rw [if_pos q]
      have e : u = cT S 5 := by omega
      refine ⟨fun z => ?_, fun _ => rfl⟩
      rw [e] at z
      omega
    · rw [if_neg q]
      have e : uC S g (u + 1) = uC S g u + b2i (¬ cTow S u g = -1) := by unfold uC; rw [fI_succ h0]
      by_cases t : cTow S u g = -1
      · rw [if_pos t]
        rw [b2i_f (fun z => z t)] at e
        have ih := uA_is (S := S) (g := g) (x := x) n (u + 1) a (by omega) (by omega) (by omega) h3
        rw [e] at ih
        exact ⟨fun z => ih.1 (by omega), fun z => ih.2 (by omega)⟩
      · rw [if_neg t]
        rw [b2i_t t] at e
        by_cases r : a = x
        · rw [if_pos r]
          refine ⟨fun _ => h0, fun z => ?_⟩
          exfalso
          have m : uC S g (u + 1) ≤ uC S g (cT S 5) := by
            have key : ∀ k : Nat, uC S g (u + 1) ≤ uC S g (u + 1 + k) := by
              intro k
              induction k with
              | zero => rw [show u + 1 + ((0 : Nat) : Int) = u + 1 by omega]; exact Int.le_refl _
              | succ k ih =>
                rw [show u + 1 + ((k + 1 : Nat) : Int) = u + 1 + (k : Int) + 1 by omega]
                have e2 : uC S g (u + 1 + (k : Int) + 1) = uC S g (u + 1 + (k : Int)) + b2i (¬ cTow S (u + 1 + (k : Int)) g = -1) := by unfold uC; rw [fI_succ (by omega)]
                have := (b2i_01 (¬ cTow S (u + 1 + (k : Int)) g = -1)).1
                omega
            have := key (cT S 5 - (u + 1)).toNat
            rw [show u + 1 + (((cT S 5 - (u + 1)).toNat : Nat) : Int) = cT S 5 by omega] at this
            exact this
          omega
        · rw [if_neg r]
          have ih := uA_is (S := S) (g := g) (x := x) n (u + 1) (a + 1) (by omega) (by omega) (by omega) (by omega)
          rw [e] at ih
          exact ⟨fun z => ih.1 (by omega), fun z => ih.2 (by omega)⟩
theorem unitAt_is {S : Nat → Int → Int} (h : CfgS S) {g : Int} (hg : 0 ≤ g ∧ g < 4) {x : Int} (hx : 0 ≤ x) : (x < cUnder S g → 0 ≤ qUnitAt S g x) ∧ (cUnder S g ≤ x → qUnitAt S g x = -1000004) := by
  have c4 := h.1.1
  have c5 := h.1.2
  unfold qUnitAt
  rw [if_neg (fun z => z ⟨⟨hg.1, by omega⟩, hx⟩)]
  have := uA_is (S := S) (g := g) (x := x) 11 0 0 (by decide) (by omega) (by omega) hx
  have e : uC S g 0 = 0 := rfl
  have e2 : uC S g (cT S 5) = cUnder S g := rfl
  rw [e, e2] at this
  exact ⟨fun z => this.1 (by omega), fun z => this.2 (by omega)⟩
theorem cUnder_rng {S : Nat → Int → Int} (h : CfgS S) {g : Int} : 0 ≤ cUnder S g ∧ cUnder S g ≤ 5 := by
  unfold cUnder
  rw [h.1.2]
  have := fI_ind (n := 5) (g := fun u n => n + b2i (¬ cTow S u g = -1)) (a := 0) (fun i x => 0 ≤ x ∧ x ≤ i) (by decide) (by decide) (fun i x a b q => by
    have := b2i_01 (¬ cTow S i g = -1)
    omega)
  exact this

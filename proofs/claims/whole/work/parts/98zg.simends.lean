/-! THE SIMULATION: where the orders' runs end -/
theorem PFr.gd {tx : Int → Int} {L : Int} {s0 : Int → Int} {O : List (Int × Int)} {B : Int} {a n : Int} {s : Int → Int} (hc : RunC tx L O B) (h : PFr tx L s0 O B a n s) : Gd s := by
  obtain ⟨c1, c2, c3, c4⟩ := hc
  obtain ⟨k, hk, ha, hr, S, R, h1, h2, h3⟩ := h
  exact ⟨O, S, R, B + k, c1, ⟨by omega, by omega⟩, h1, h2, by omega⟩
theorem RunC.runH {tx : Int → Int} {L : Int} {s0 : Int → Int} {O : List (Int × Int)} {B : Int} (hc : RunC tx L O B) : RunH Tk Gd tx L (PFr tx L s0 O B) := by
  refine ⟨fun a n s h => h.gd hc, fun a n s n0 n1 n2 nx v s' h ha hL O2 q D hv => ?_⟩
  obtain ⟨c1, c2, c3, c4⟩ := hc
  obtain ⟨k, hk, hka, hr, S, R, h1, h2, h3⟩ := h
  have ol := O2.lt
  have cc := h1.2.1.2.2.2.2.1
  have run : RunS tx L s0 (k + 1) nx s' := ⟨a, s, n0, n1, n2, v, hr, ⟨ha, hL⟩, O2, q, D, hv⟩
  refine ⟨k + 1, by omega, ⟨by omega, by omega⟩, run, ?_⟩
  have h1' := h1.mono (C' := B + ((k + 1 : Nat) : Int) + 14000 * s 2) (by omega) (by omega)
  rcases D with ⟨e, D⟩ | ⟨e, D⟩ | ⟨e1, e2, D⟩
  · rcases D with ⟨_, z, _⟩ | ⟨_, _, z, _⟩ | ⟨_, _, _, z, _⟩ | ⟨ok, po, h40, _, e2⟩
    · omega
    · omega
    · omega
    · rw [e] at O2
      obtain ⟨r1, ⟨r2, r3⟩, _⟩ := h1'.sendOne c1 ok (c4 a n0 n1 n2 nx ha O2) h40 (by omega)
      have l : LI (rOne (rFreed s) (rFree s) n0 n1 n2 0 1) (upR R 3 (insA (R 3) ((R 3).length : Nat) (cDpV S n0 n1 n2 0 1))) := by
        unfold LI
        rw [r3]
        intro g x y
        rw [kR_up3]
        exact h2 g x y
      rw [← r2] at r1 h3
      rw [e2]
      exact ⟨_, _, r1, l, h3⟩
  · rcases D with ⟨_, z, _⟩ | ⟨_, _, z, _⟩ | ⟨_, z, ⟨j, hj, tk⟩, _⟩
    · omega
    · omega
    · obtain ⟨_, t2, S', R', g', l'⟩ := ticks_pure c1 (B := B + ((k + 1 : Nat) : Int)) ⟨by omega, by omega⟩ h1' h2 j s' (by omega) tk
      exact ⟨S', R', g', l', by omega⟩
  · rcases D with ⟨_, z, _⟩ | ⟨_, _, z, _⟩ | ⟨iu, i2, _, e⟩
    · omega
    · omega
    · have u0 := iu.1
      have r2 : ups s (58 + 4 * n0 + 2) 1 2 = s 2 := ups_ne (by omega)
      have r3 : ups s (58 + 4 * n0 + 2) 1 0 = s 0 := ups_ne (by omega)
      have r1 := h1'.unit23 (u := n0) (w := 2) (v := 1) ⟨iu.1, by have := iu.2; omega⟩ (Or.inl rfl) (fun _ => Or.inr rfl)
      have l : LI (ups s (58 + 4 * n0 + 2) 1) R := by
        unfold LI
        rw [r3]
        exact h2
      rw [← r2] at r1 h3
      rw [e]
      exact ⟨_, _, r1, l, h3⟩
theorem PFr.start {tx : Int → Int} {L : Int} {s0 : Int → Int} {O : List (Int × Int)} {B : Int} {s : Int → Int} {S : Nat → Int → Int} {R : Nat → List FV} (hc : RunC tx L O B) (e : EqR s s0) (h : Sim s0 (s0 2 + 1) O (B + 14000 * s0 2) S R) (hl : LI s0 R) (h2 : s0 2 ≤ 20000) : PFr tx L s0 O B 0 0 s := by
  have e2 : s 2 = s0 2 := e 2 (by decide) (by decide)
  have e0 : s 0 = s0 0 := e 0 (by decide) (by decide)
  refine ⟨0, rfl, ⟨by decide, hc.2.2.1.1⟩, ⟨rfl, e⟩, S, R, ?_, by unfold LI; rw [e0]; exact hl, by omega⟩
  rw [e2, show B + ((0 : Nat) : Int) + 14000 * s0 2 = B + 14000 * s0 2 by omega]
  exact h.eqR e
theorem PFc.start {tx : Int → Int} {L : Int} {s0 : Int → Int} {O : List (Int × Int)} {B : Int} {S : Nat → Int → Int} {R : Nat → List FV} (hc : RunC tx L O B) (h : Sim s0 (s0 2 + 1) O (B + 14000 * s0 2) S R) (hl : LI s0 R) (h2 : s0 2 ≤ 20000) : PFc tx L s0 O B 0 0 S R := by
  refine ⟨0, rfl, ⟨by decide, hc.2.2.1.1⟩, ⟨s0 2, h2, ⟨s0, rfl, EqR.refl⟩, fun s hs => ?_⟩, fun j hj => absurd hj (Nat.not_lt_zero _)⟩
  have e := hs.2
  have e2 : s 2 = s0 2 := e 2 (by decide) (by decide)
  have e0 : s 0 = s0 0 := e 0 (by decide) (by decide)
  refine ⟨?_, by unfold LI; rw [e0]; exact hl, e2, e0⟩
  rw [e2, show B + ((0 : Nat) : Int) + 14000 * s0 2 = B + 14000 * s0 2 by omega]
  exact h.eqR e
/-- the class's fault at a, and its reason -/
def Fc (tx : Int → Int) (L a : Int) (S1 : Nat → Int → Int) (r : Int) : Prop := (r = 1 ∧ ∀ n0 n1 n2 nx, ¬ OrdIs tx L a (tx a) n0 n1 n2 nx) ∨ (r = 2 ∧ ∃ n0 n1 n2 nx, OrdIs tx L a (tx a) n0 n1 n2 nx ∧ ¬ tx a = 112 ∧ ¬ cUnit S1 n0) ∨ (r = 3 ∧ ∃ n0 n1 n2 nx, OrdIs tx L a (tx a) n0 n1 n2 nx ∧ (¬ tx a = 112 → cUnit S1 n0) ∧ ¬ cOE S1 (tx a) n0 n1 n2 = 0)
theorem GSm.fault {T n0' : Int} {O : List (Int × Int)} {C : Int} {s : Int → Int} {S : Nat → Int → Int} {R : Nat → List FV} {tx : Int → Int} {L a r : Int} (g : GSm T n0' O C s S R) (h : Fc tx L a S r) : FaultIs Tk tx L s a r := by
  have hs := g.1
  have t1 := hs.1.1.2.1
  rcases h with ⟨e, z⟩ | ⟨e, n0, n1, n2, nx, O2, z1, z2⟩ | ⟨e, n0, n1, n2, nx, O2, z1, z2⟩
  · exact Or.inl ⟨e, z⟩
  · exact Or.inr ⟨n0, n1, n2, nx, O2, Or.inl ⟨e, z1, fun y => z2 ⟨y.1, by have := y.2; omega⟩⟩⟩
  · refine Or.inr ⟨n0, n1, n2, nx, O2, Or.inr ⟨e, ?_, ?_⟩⟩
    · by_cases q : tx a = 112
      · exact Or.inl q
      · have y := z1 q
        exact Or.inr ⟨y.1, by have := y.2; omega⟩
    · unfold cOE at z2
      by_cases q9 : tx a = 109
      · rw [if_pos q9] at z2
        have dp := hs.dep (u := n0) (st := n1) (v := n2) (fl := 0) (tk := 1)
        by_cases ok : okSend s n0 n1 n2 0 1
        · by_cases po : poSend s n0 n1
          · by_cases h40 : rAllWay s < 40
            · exact absurd (dp.2.2.2 ok po h40) z2
            · exact ⟨-1000003, s, Or.inl ⟨q9, Or.inr (Or.inr (Or.inl ⟨ok, po, by omega, rfl, rfl⟩))⟩, by decide⟩
          · exact ⟨-1000002, s, Or.inl ⟨q9, Or.inr (Or.inl ⟨ok, po, rfl, rfl⟩)⟩, by decide⟩
        · exact ⟨-1000001, s, Or.inl ⟨q9, Or.inl ⟨ok, rfl, rfl⟩⟩, by decide⟩
      · rw [if_neg q9] at z2
        by_cases q12 : tx a = 112
        · rw [if_pos q12, hs.ela] at z2
          by_cases ok : 1 ≤ n0 ∧ n0 ≤ 100
          · by_cases tm : s 2 + n0 ≤ 20000
            · rw [if_neg (fun z => z ok), if_pos tm] at z2
              exact absurd rfl z2
            · exact ⟨-1000003, s, Or.inr (Or.inl ⟨q12, Or.inr (Or.inl ⟨ok, by omega, rfl, rfl⟩)⟩), by decide⟩
          · exact ⟨-1000001, s, Or.inr (Or.inl ⟨q12, Or.inl ⟨ok, rfl, rfl⟩⟩), by decide⟩
        · rw [if_neg q12] at z2
          have dp := hs.ret (u := n0)
          by_cases ok : isU s n0
          · by_cases po : rIts s n0 2 = 0
            · exact absurd (dp.2.2 ok po) z2
            · exact ⟨-1000002, s, Or.inr (Or.inr ⟨q9, q12, Or.inr (Or.inl ⟨ok, po, rfl, rfl⟩)⟩), by decide⟩
          · exact ⟨-1000001, s, Or.inr (Or.inr ⟨q9, q12, Or.inl ⟨ok, rfl, rfl⟩⟩), by decide⟩
theorem PFc.outF {tx : Int → Int} {L : Int} {s0 : Int → Int} {O : List (Int × Int)} {B : Int} {a n r : Int} {S : Nat → Int → Int} {R : Nat → List FV} (hc : RunC tx L O B) (h : PFc tx L s0 O B a n S R) (ha : 0 ≤ a ∧ a < L) (hf : Fc tx L a S r) {v r' : Int} (ho : FOut Tk tx L (PFr tx L s0 O B) v r') : v = a ∧ r' = r := by
  obtain ⟨c1, c2, c3, c4⟩ := hc
  obtain ⟨k, hk, hka, ⟨T, hT, sr⟩, hn⟩ := h
  obtain ⟨s1, hs1⟩ := sr.1
  have stop : ∀ (k' : Nat) (a' : Int) (s' : Int → Int), RunS tx L s0 k' a' s' → k' ≤ k := fun k' a' s' h' => by
    by_cases q : k' ≤ k
    · exact q
    · obtain ⟨a0, s, n0, n1, n2, nx, w, t, p1, p2, p3, p4, p5, p6⟩ := h'.pre k (by omega)
      have ea := RunS.place p1 hs1
      subst ea
      have g := sr.2 s p1
      exact absurd (g.fault hf) (FaultIs.no p3 p4 p5 p6 (GSm.hp (B := B + (k : Int)) (by exact g) c1 ⟨by omega, by omega⟩))
  rcases ho with ⟨_, a', n', s', ⟨k', _, hka', hr', _⟩, hL'⟩ | ⟨v0, v1, n', s', ⟨k', _, _, hr', _⟩, hfi⟩
  · exfalso
    have := stop k' a' s' hr'
    by_cases q : k' = k
    · subst q
      have := RunS.place hr' hs1
      omega
    · obtain ⟨a0, s, n0, n1, n2, nx, w, t, p1, p2, _⟩ := hs1.pre k' (by omega)
      have := RunS.place p1 hr'
      omega
  · have := stop k' v s' hr'
    by_cases q : k' = k
    · subst q
      have ea := RunS.place hr' hs1
      subst ea
      exact ⟨rfl, FaultIs.uniq hfi ((sr.2 s' hr').fault hf)⟩
    · exact absurd hfi (hn k' (by omega) v s' r' hr')
theorem PFc.outK {tx : Int → Int} {L : Int} {s0 : Int → Int} {O : List (Int × Int)} {B : Int} {a n : Int} {S : Nat → Int → Int} {R : Nat → List FV} (h : PFc tx L s0 O B a n S R) (ha : L ≤ a) : (∀ v r', FOut Tk tx L (PFr tx L s0 O B) v r' → v = -1000004) ∧ (∀ a' n' s', PFr tx L s0 O B a' n' s' → L ≤ a' → n' = n ∧ ∃ T, T ≤ 20000 ∧ GSm T (s0 0) O (B + n + 14000 * T) s' S R) ∧ ∀ a' n' s' r', PFr tx L s0 O B a' n' s' → 0 ≤ a' → a' < L → ¬ FaultIs Tk tx L s' a' r' := by
  obtain ⟨k, hk, hka, ⟨T, hT, sr⟩, hn⟩ := h
  obtain ⟨s1, hs1⟩ := sr.1
  have stop : ∀ (k' : Nat) (a' : Int) (s' : Int → Int), RunS tx L s0 k' a' s' → k' ≤ k := fun k' a' s' h' => by
    by_cases q : k' ≤ k
    · exact q
    · obtain ⟨a0, s, n0, n1, n2, nx, w, t, p1, p2, _⟩ := h'.pre k (by omega)
      have := RunS.place p1 hs1
      omega
  have nof : ∀ a' n' s' r', PFr tx L s0 O B a' n' s' → 0 ≤ a' → a' < L → ¬ FaultIs Tk tx L s' a' r' := fun a' n' s' r' hp h0 hL hfi => by
    obtain ⟨k', _, _, hr', _⟩ := hp
    have := stop k' a' s' hr'
    by_cases q : k' = k
    · subst q
      have := RunS.place hr' hs1
      omega
    · exact hn k' (by omega) a' s' r' hr' hfi
  refine ⟨fun v r' ho => ?_, fun a' n' s' hp hL => ?_, nof⟩
  · rcases ho with ⟨e, _⟩ | ⟨v0, v1, n', s', hp, hfi⟩
    · exact e
    · exact absurd hfi (nof v n' s' r' hp v0 v1)
  · obtain ⟨k', hk', hka', hr', _⟩ := hp
    have := stop k' a' s' hr'
    by_cases q : k' = k
    · subst q
      have ea := RunS.place hr' hs1
      subst ea
      refine ⟨by omega, T, hT, ?_⟩
      rw [← hk]
      exact sr.2 s' hr'
    · exfalso
      obtain ⟨a0, s, n0, n1, n2, nx, w, t, p1, p2, _⟩ := hs1.pre k' (by omega)
      have := RunS.place p1 hr'
      omega

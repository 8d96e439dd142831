/-! THE SIMULATION: the orders' runs -/
theorem FaultIs.no {tx : Int → Int} {L a r n0 n1 n2 nx v : Int} {s t : Int → Int} (O : OrdIs tx L a (tx a) n0 n1 n2 nx) (q : tx a = 112 ∨ (0 ≤ n0 ∧ n0 ≤ s 1 - 1)) (D : DoesS Tk s (tx a) n0 n1 n2 v t) (hv : -1000001 < v) (hp : ∀ (j : Nat) (x : Int → Int), s 2 + j ≤ 20000 → TkN Tk j s x → 0 ≤ x 2) : ¬ FaultIs Tk tx L s a r := by
  rintro (⟨_, z⟩ | ⟨m0, m1, m2, mx, O', z⟩)
  · exact z _ _ _ _ O
  · obtain ⟨_, e0, e1, e2, _⟩ := O'.uniq O
    rcases z with ⟨_, z1, z2⟩ | ⟨_, _, v', t', D', hv'⟩
    · rw [e0] at z2
      rcases q with q | q
      · exact z1 q
      · exact z2 q
    · rw [e0, e1, e2] at D'
      have := D'.one D hp hv'
      omega
theorem FaultIs.uniq {tx : Int → Int} {L a r r' : Int} {s : Int → Int} (h : FaultIs Tk tx L s a r) (k : FaultIs Tk tx L s a r') : r = r' := by
  rcases h with ⟨e, z⟩ | ⟨n0, n1, n2, nx, O, z⟩
  · rcases k with ⟨e', _⟩ | ⟨m0, m1, m2, mx, O', _⟩
    · omega
    · exact absurd O' (z _ _ _ _)
  · rcases k with ⟨_, y⟩ | ⟨m0, m1, m2, mx, O', y⟩
    · exact absurd O (y _ _ _ _)
    · obtain ⟨_, e0, _⟩ := O'.uniq O
      rw [e0] at y
      rcases z with ⟨e, z1, z2⟩ | ⟨e, z1, _⟩
      · rcases y with ⟨e', _⟩ | ⟨_, y1, _⟩
        · omega
        · rcases y1 with y1 | y1
          · exact absurd y1 z1
          · exact absurd y1 z2
      · rcases y with ⟨_, y1, y2⟩ | ⟨e', _⟩
        · rcases z1 with z1 | z1
          · exact absurd z1 y1
          · exact absurd z1 y2
        · omega
theorem GSm.askEx {T n0 : Int} {O : List (Int × Int)} {C : Int} (hO : O.length ≤ 512) {g : Int} (hg : 0 ≤ g ∧ g < n0) (hC : C + 560 ≤ 1000000000) {s : Int → Int} {S : Nat → Int → Int} {R : Nat → List FV} (h : GSm T n0 O C s S R) : ∃ s', AskS g s s' := by
  have key : ∀ (m : Nat) (C : Int) (s : Int → Int) (S : Nat → Int → Int) (R : Nat → List FV), GSm T n0 O C s S R → (kR R g).length ≤ m → C + m ≤ 1000000000 → ∃ s', AskS g s s' := by
    intro m
    induction m with
    | zero =>
      intro C s S R h hm _
      exact ⟨s, 0, rfl, fun z => by have := ((h.due hg).mp z).1; omega⟩
    | succ m ih =>
      intro C s S R h hm hC
      by_cases q : rDue s g
      · obtain ⟨s2, h2⟩ := RlS.ex q
        obtain ⟨g2, l2⟩ := h.rl hO hg (by omega) h2
        obtain ⟨s', j, a, nd⟩ := ih _ s2 _ _ g2 (by omega) (by omega)
        refine ⟨s', j + 1, ?_, nd⟩
        have cat : ∀ (j : Nat) (x : Int → Int), AskN g j s2 x → AskN g (j + 1) s x := by
          intro j
          induction j with
          | zero => intro x hx; exact ⟨s, rfl, by have hx : x = s2 := hx; rw [hx]; exact h2⟩
          | succ j ih => intro x hx; obtain ⟨t, a, b⟩ := hx; exact ⟨t, ih t a, b⟩
        exact cat j s' a
      · exact ⟨s, 0, rfl, q⟩
  have := (h.1.len hO).1 g hg.1 (by rw [h.2.2.2]; exact hg.2)
  exact key 552 C s S R h this (by omega)
theorem LvN.ex {T n0 : Int} {O : List (Int × Int)} {C c4 dd : Int} (hO : O.length ≤ 512) (hC : C + 2800 ≤ 1000000000) {s : Int → Int} (h : GE T n0 O C c4 s) (hn5 : n0 ≤ 5) : ∀ n : Nat, (n : Int) ≤ n0 → ∃ s', LvN dd n s s'
  | 0, _ => ⟨s, rfl⟩
  | n + 1, hn => by
    obtain ⟨t, ht⟩ := LvN.ex (dd := dd) hO hC h hn5 n (by omega)
    obtain ⟨_, S, R, gs⟩ := h.lv hO hC hn5 n t (by omega) ht
    by_cases q : rDepth t (n : Int) = dd
    · obtain ⟨s', a⟩ := gs.askEx hO (g := (n : Int)) ⟨by omega, by omega⟩ (by omega)
      exact ⟨s', t, ht, Or.inl ⟨q, a⟩⟩
    · exact ⟨t, t, ht, Or.inr ⟨q, rfl⟩⟩
theorem DpN.ex {T n0 : Int} {O : List (Int × Int)} {C c4 : Int} (hO : O.length ≤ 512) (hC : C + 14000 ≤ 1000000000) (hn0 : 0 ≤ n0) (hn5 : n0 ≤ 5) {s : Int → Int} (h : GE T n0 O C c4 s) : ∀ m : Nat, m ≤ 5 → ∃ s', DpN n0.toNat m s s'
  | 0, _ => ⟨s, rfl⟩
  | m + 1, hm => by
    obtain ⟨t, ht⟩ := DpN.ex hO hC hn0 hn5 h m (by omega)
    obtain ⟨s', hs'⟩ := LvN.ex (dd := 4 - (m : Int)) hO (by omega) (h.dp hO hC hn0 hn5 m t (by omega) ht) hn5 n0.toNat (by omega)
    exact ⟨s', t, ht, hs'⟩
theorem Tk.ex {s : Int → Int} {O : List (Int × Int)} {B : Int} {S : Nat → Int → Int} {R : Nat → List FV} (h : Sim s (s 2 + 1) O (B + 14000 * s 2) S R) (hL : LI s R) (hO : O.length ≤ 512) (hB : 0 ≤ B ∧ B ≤ 20000) (hT : s 2 < 30000) : ∃ s', Tk s s' := by
  have c := h.2.1.2.2.2.2.1
  have n5 := h.2.1.1.1
  have sr : SRA (fun x => x = s) (s 2) (s 0) O (B + 14000 * s 2) S R := ⟨⟨s, rfl⟩, fun x e => by rw [e]; exact ⟨h, hL, rfl, rfl⟩⟩
  obtain ⟨_, sb⟩ := sr.begin hO (by omega)
  obtain ⟨s1, a, ea, it⟩ := sb.1
  have g1 := sb.2 s1 ⟨a, ea, it⟩
  rw [ea] at it
  obtain ⟨s2, A, ⟨_, _, t, ht, hs⟩ | ⟨z, _⟩⟩ := it
  · have ht : t = s2 := ht
    have hs : s1 = t := hs
    rw [← ht, ← hs] at A
    obtain ⟨s', D⟩ := DpN.ex hO (by omega) (by omega) n5.2 (c4 := s1 4) ⟨Int.le_refl _, _, _, g1⟩ 5 (Nat.le_refl _)
    exact ⟨s', s1, A, Or.inr ⟨by decide, D⟩⟩
  · omega
theorem TkN.ex {T n0 : Int} {O : List (Int × Int)} {B : Int} (hO : O.length ≤ 512) (hB : 0 ≤ B ∧ B ≤ 20000) {s : Int → Int} {S : Nat → Int → Int} {R : Nat → List FV} (h : GSm T n0 O (B + 14000 * T) s S R) : ∀ n : Nat, T + n ≤ 30000 → ∃ s', TkN Tk n s s'
  | 0, _ => ⟨s, rfl⟩
  | n + 1, hn => by
    obtain ⟨t, ht⟩ := TkN.ex hO hB h n (by omega)
    have e := h.2.2.1
    obtain ⟨_, t2, S', R', g', l'⟩ := ticks_pure hO hB (s := s) (by rw [e]; have := h.1; rw [e] at this; exact this) h.2.1 n t (by omega) ht
    obtain ⟨s', k⟩ := Tk.ex g' l' hO hB (by omega)
    exact ⟨s', t, ht, k⟩
/-- the class's tree at place a, n orders done: all rows of the same place are related to it, and no order failed before -/
def PFc (tx : Int → Int) (L : Int) (s0 : Int → Int) (O : List (Int × Int)) (B a n : Int) (S : Nat → Int → Int) (R : Nat → List FV) : Prop := ∃ k : Nat, (k : Int) = n ∧ (3 * (k : Int) ≤ a ∧ a ≤ L) ∧ (∃ T, T ≤ 20000 ∧ SRA (RunS tx L s0 k a) T (s0 0) O (B + k + 14000 * T) S R) ∧ ∀ j, j < k → ∀ a' s' r, RunS tx L s0 j a' s' → ¬ FaultIs Tk tx L s' a' r
/-- the reference's row at place a, n orders done -/
def PFr (tx : Int → Int) (L : Int) (s0 : Int → Int) (O : List (Int × Int)) (B a n : Int) (s : Int → Int) : Prop := ∃ k : Nat, (k : Int) = n ∧ (3 * (k : Int) ≤ a ∧ a ≤ L) ∧ RunS tx L s0 k a s ∧ ∃ S R, Sim s (s 2 + 1) O (B + k + 14000 * s 2) S R ∧ LI s R ∧ s 2 ≤ 20000
/-- what the runs stand on -/
def RunC (tx : Int → Int) (L : Int) (O : List (Int × Int)) (B : Int) : Prop := O.length ≤ 512 ∧ (0 ≤ B ∧ B ≤ 19000) ∧ (0 ≤ L ∧ L ≤ 60) ∧ ∀ a n0 n1 n2 nx, 0 ≤ a → OrdIs tx L a 109 n0 n1 n2 nx → (n0, n1) ∈ O
theorem GSm.hp {T n0 : Int} {O : List (Int × Int)} {B : Int} {s : Int → Int} {S : Nat → Int → Int} {R : Nat → List FV} (h : GSm T n0 O (B + 14000 * T) s S R) (hO : O.length ≤ 512) (hB : 0 ≤ B ∧ B ≤ 20000) : ∀ (j : Nat) (x : Int → Int), s 2 + j ≤ 20000 → TkN Tk j s x → 0 ≤ x 2 := fun j x a b => by
  have c := h.1.2.1.2.2.2.2.1
  have e := h.2.2.1
  have r := ticks_pure hO hB (s := s) (by rw [e]; have := h.1; rw [e] at this; exact this) h.2.1 j x (by omega) b
  omega
theorem PFc.ci {tx : Int → Int} {L : Int} {s0 : Int → Int} {O : List (Int × Int)} {B : Int} {a n : Int} {S : Nat → Int → Int} {R : Nat → List FV} (h : PFc tx L s0 O B a n S R) : CI S ∧ 0 ≤ cT S 6 ∧ cT S 6 ≤ 50000 := by
  obtain ⟨k, _, _, ⟨T, hT, sr⟩, _⟩ := h
  obtain ⟨s, hs⟩ := sr.1
  have g := sr.2 s hs
  have gn := g.n0
  exact ⟨g.1.CI, by omega, by omega⟩
theorem PFc.send {tx : Int → Int} {L : Int} {s0 : Int → Int} {O : List (Int × Int)} {B : Int} {a n n0 n1 n2 nx : Int} {S : Nat → Int → Int} {R : Nat → List FV} (hc : RunC tx L O B) (h : PFc tx L s0 O B a n S R) (hO : OrdIs tx L a 109 n0 n1 n2 nx) (h0 : cDep S n0 n1 n2 0 1 = 0) : PFc tx L s0 O B nx (n + 1) (upX (upX (upF S 6 (cDpV S n0 n1 n2 0 1)) 3 1 (((R 3).length : Nat) + 1)) (46 + n0.toNat) 3 (wr (cU S n0 3 + 1))) (upR R 3 (insA (R 3) ((R 3).length : Nat) (cDpV S n0 n1 n2 0 1))) := by
  obtain ⟨c1, c2, c3, c4⟩ := hc
  obtain ⟨k, hk, ha, ⟨T, hT, sr⟩, hn⟩ := h
  have ol := hO.lt
  have eta : tx a = 109 := hO.2.1
  have hO' : OrdIs tx L a (tx a) n0 n1 n2 nx := by rw [eta]; exact hO
  have inO := c4 a n0 n1 n2 nx (by omega) hO
  have step : ∀ s, RunS tx L s0 k a s → (okSend s n0 n1 n2 0 1 ∧ poSend s n0 n1 ∧ rAllWay s < 40) ∧ GSm T (s0 0) O (B + ((k + 1 : Nat) : Int) + 14000 * T) (rOne (rFreed s) (rFree s) n0 n1 n2 0 1) (upX (upX (upF S 6 (cDpV S n0 n1 n2 0 1)) 3 1 (((R 3).length : Nat) + 1)) (46 + n0.toNat) 3 (wr (cU S n0 3 + 1))) (upR R 3 (insA (R 3) ((R 3).length : Nat) (cDpV S n0 n1 n2 0 1))) ∧ -1000001 < rAllWay (rOne (rFreed s) (rFree s) n0 n1 n2 0 1) ∧ ∀ (j : Nat) (x : Int → Int), s 2 + j ≤ 20000 → TkN Tk j s x → 0 ≤ x 2 := fun s hs => by
    have g := sr.2 s hs
    have dp := g.1.dep (u := n0) (st := n1) (v := n2) (fl := 0) (tk := 1)
    have ok : okSend s n0 n1 n2 0 1 := by
      by_cases q : okSend s n0 n1 n2 0 1
      · exact q
      · have := dp.1 q; omega
    have po : poSend s n0 n1 := by
      by_cases q : poSend s n0 n1
      · exact q
      · have := dp.2.1 ok q; omega
    have h40 : rAllWay s < 40 := by
      by_cases q : rAllWay s < 40
      · exact q
      · have := dp.2.2.1 ok po (by omega); omega
    have cc := g.1.2.1.2.2.2.2.1
    have g2 := g.mono (C' := B + ((k + 1 : Nat) : Int) + 14000 * T) (by omega) (by omega)
    obtain ⟨r1, ⟨r2, r3⟩, r4⟩ := g2.1.sendOne c1 ok inO h40 (by omega)
    refine ⟨⟨ok, po, h40⟩, ⟨by rw [r2]; exact r1, fun q x y => ?_, by rw [r2]; exact g.2.2.1, by rw [r3]; exact g.2.2.2⟩, by omega, ?_⟩
    · rw [r3] at x
      rw [kR_up3]
      exact g.2.1 q x y
    · refine GSm.hp (B := B + (k : Int)) (T := T) (n0 := s0 0) (O := O) (S := S) (R := R) ?_ c1 ⟨by omega, by omega⟩
      exact g
  refine ⟨k + 1, by omega, ⟨by omega, by omega⟩, ⟨T, hT, ?_, fun s' hs' => ?_⟩, fun j hj a' s' r hr => ?_⟩
  · obtain ⟨s, hs⟩ := sr.1
    obtain ⟨⟨ok, po, h40⟩, _, v1, _⟩ := step s hs
    exact ⟨_, a, s, n0, n1, n2, _, hs, ⟨by omega, by omega⟩, hO', Or.inr ok.1, Or.inl ⟨eta, Or.inr (Or.inr (Or.inr ⟨ok, po, h40, rfl, rfl⟩))⟩, v1⟩
  · obtain ⟨a0, s, m0, m1, m2, v, hs, _, O2, q, D, hv⟩ := hs'
    obtain ⟨s1, hs1⟩ := sr.1
    have ea := RunS.place hs hs1
    subst ea
    obtain ⟨_, e0, e1, e2, _⟩ := O2.uniq hO'
    subst e0; subst e1; subst e2
    obtain ⟨⟨ok, po, h40⟩, g, _, _⟩ := step s hs
    rcases D with ⟨_, D⟩ | ⟨z, _⟩ | ⟨z, _⟩
    · rcases D with ⟨z, _⟩ | ⟨_, z, _⟩ | ⟨_, _, z, _⟩ | ⟨_, _, _, _, e⟩
      · exact absurd ok z
      · exact absurd po z
      · omega
      · rw [e]; exact g
    · omega
    · exact absurd eta z
  · by_cases q : j = k
    · subst q
      obtain ⟨s1, hs1⟩ := sr.1
      have ea := RunS.place hr hs1
      subst ea
      obtain ⟨⟨ok, po, h40⟩, _, v1, hp⟩ := step s' hr
      exact FaultIs.no hO' (Or.inr ok.1) (Or.inl ⟨eta, Or.inr (Or.inr (Or.inr ⟨ok, po, h40, rfl, rfl⟩))⟩) v1 hp
    · exact hn j (by omega) a' s' r hr
theorem PFc.off {tx : Int → Int} {L : Int} {s0 : Int → Int} {O : List (Int × Int)} {B : Int} {a n n0 n1 n2 nx : Int} {S : Nat → Int → Int} {R : Nat → List FV} (hc : RunC tx L O B) (h : PFc tx L s0 O B a n S R) (hO : OrdIs tx L a 120 n0 n1 n2 nx) (h0 : cRet S n0 = 0) : PFc tx L s0 O B nx (n + 1) (upX S (46 + n0.toNat) 2 1) R := by
  obtain ⟨c1, c2, c3, c4⟩ := hc
  obtain ⟨k, hk, ha, ⟨T, hT, sr⟩, hn⟩ := h
  have ol := hO.lt
  have eta : tx a = 120 := hO.2.1
  have hO' : OrdIs tx L a (tx a) n0 n1 n2 nx := by rw [eta]; exact hO
  have step : ∀ s, RunS tx L s0 k a s → (isU s n0 ∧ rIts s n0 2 = 0) ∧ GSm T (s0 0) O (B + ((k + 1 : Nat) : Int) + 14000 * T) (ups s (58 + 4 * n0 + 2) 1) (upX S (46 + n0.toNat) 2 1) R ∧ -1000001 < rOn (ups s (58 + 4 * n0 + 2) 1) ∧ ∀ (j : Nat) (x : Int → Int), s 2 + j ≤ 20000 → TkN Tk j s x → 0 ≤ x 2 := fun s hs => by
    have g := sr.2 s hs
    have dp := g.1.ret (u := n0)
    have ok : isU s n0 := by
      by_cases q : isU s n0
      · exact q
      · have := dp.1 q; omega
    have po : rIts s n0 2 = 0 := by
      by_cases q : rIts s n0 2 = 0
      · exact q
      · have := dp.2.1 ok q; omega
    have cc := g.1.2.1.2.2.2.2.1
    have g2 := g.mono (C' := B + ((k + 1 : Nat) : Int) + 14000 * T) (by omega) (by omega)
    have ok0 := ok.1
    have r1 := g2.1.unit23 (u := n0) (w := 2) (v := 1) ⟨ok.1, by have := ok.2; omega⟩ (Or.inl rfl) (fun _ => Or.inr rfl)
    have r2 : ups s (58 + 4 * n0 + 2) 1 2 = s 2 := ups_ne (by omega)
    have r3 : ups s (58 + 4 * n0 + 2) 1 0 = s 0 := ups_ne (by omega)
    have no : 0 ≤ rOn (ups s (58 + 4 * n0 + 2) 1) := by
      unfold rOn fI
      generalize (ups s (58 + 4 * n0 + 2) 1 1).toNat = m
      induction m with
      | zero => exact Int.le_refl _
      | succ m ih =>
        rw [List.range_succ, List.foldl_append]
        have := b2i_01 (rIts (ups s (58 + 4 * n0 + 2) 1) (m : Int) 2 = 0)
        show 0 ≤ _ + b2i (rIts (ups s (58 + 4 * n0 + 2) 1) (m : Int) 2 = 0)
        omega
    refine ⟨⟨ok, po⟩, ⟨by rw [r2]; exact r1, fun q x y => ?_, by rw [r2]; exact g.2.2.1, by rw [r3]; exact g.2.2.2⟩, by omega, ?_⟩
    · rw [r3] at x
      exact g.2.1 q x y
    · refine GSm.hp (B := B + (k : Int)) (T := T) (n0 := s0 0) (O := O) (S := S) (R := R) ?_ c1 ⟨by omega, by omega⟩
      exact g
  refine ⟨k + 1, by omega, ⟨by omega, by omega⟩, ⟨T, hT, ?_, fun s' hs' => ?_⟩, fun j hj a' s' r hr => ?_⟩
  · obtain ⟨s, hs⟩ := sr.1
    obtain ⟨⟨ok, po⟩, _, v1, _⟩ := step s hs
    exact ⟨_, a, s, n0, n1, n2, _, hs, ⟨by omega, by omega⟩, hO', Or.inr ok, Or.inr (Or.inr ⟨by omega, by omega, Or.inr (Or.inr ⟨ok, po, rfl, rfl⟩)⟩), v1⟩
  · obtain ⟨a0, s, m0, m1, m2, v, hs, _, O2, q, D, hv⟩ := hs'
    obtain ⟨s1, hs1⟩ := sr.1
    have ea := RunS.place hs hs1
    subst ea
    obtain ⟨_, e0, e1, e2, _⟩ := O2.uniq hO'
    subst e0; subst e1; subst e2
    obtain ⟨⟨ok, po⟩, g, _, _⟩ := step s hs
    rcases D with ⟨z, _⟩ | ⟨z, _⟩ | ⟨_, _, D⟩
    · omega
    · omega
    · rcases D with ⟨z, _⟩ | ⟨_, z, _⟩ | ⟨_, _, _, e⟩
      · exact absurd ok z
      · exact absurd po z
      · rw [e]; exact g
  · by_cases q : j = k
    · subst q
      obtain ⟨s1, hs1⟩ := sr.1
      have ea := RunS.place hr hs1
      subst ea
      obtain ⟨⟨ok, po⟩, _, v1, hp⟩ := step s' hr
      exact FaultIs.no hO' (Or.inr ok) (Or.inr (Or.inr ⟨by omega, by omega, Or.inr (Or.inr ⟨ok, po, rfl, rfl⟩)⟩)) v1 hp
    · exact hn j (by omega) a' s' r hr
/-- time passes by an order -/
theorem PFc.time {tx : Int → Int} {L : Int} {s0 : Int → Int} {O : List (Int × Int)} {B : Int} {a n n0 n1 n2 nx : Int} {S : Nat → Int → Int} {R : Nat → List FV} (hc : RunC tx L O B) (h : PFc tx L s0 O B a n S R) (hO : OrdIs tx L a 112 n0 n1 n2 nx) (h0 : cEla S n0 = 0) : ∃ (k : Nat) (T : Int), (0 ≤ T ∧ T + n0 ≤ 20000 ∧ 1 ≤ n0 ∧ n0 ≤ 100) ∧ (0 ≤ B + (k : Int) ∧ B + (k : Int) ≤ 20000) ∧ SRA (RunS tx L s0 k a) T (s0 0) O (B + k + 14000 * T) S R ∧ ∀ S' R', SRA (fun s => ∃ b, RunS tx L s0 k a b ∧ TkN Tk n0.toNat b s) (T + n0) (s0 0) O (B + k + 14000 * (T + n0)) S' R' → PFc tx L s0 O B nx (n + 1) S' R' := by
  obtain ⟨c1, c2, c3, c4⟩ := hc
  obtain ⟨k, hk, ha, ⟨T, hT, sr⟩, hn⟩ := h
  have ol := hO.lt
  have eta : tx a = 112 := hO.2.1
  have hO' : OrdIs tx L a (tx a) n0 n1 n2 nx := by rw [eta]; exact hO
  obtain ⟨s1, hs1⟩ := sr.1
  have g1 := sr.2 s1 hs1
  have gn := g1.n0
  have el := g1.1.ela (n := n0)
  rw [h0, g1.2.2.1] at el
  have ok : 1 ≤ n0 ∧ n0 ≤ 100 := by
    by_cases q : 1 ≤ n0 ∧ n0 ≤ 100
    · exact q
    · rw [if_pos q] at el; omega
  have tm : T + n0 ≤ 20000 := by
    by_cases q : T + n0 ≤ 20000
    · exact q
    · rw [if_neg (fun z => z ok), if_neg q] at el; omega
  have hp : ∀ s, RunS tx L s0 k a s → ∀ (j : Nat) (x : Int → Int), s 2 + j ≤ 20000 → TkN Tk j s x → 0 ≤ x 2 := fun s hs => by
    refine GSm.hp (B := B + (k : Int)) (T := T) (n0 := s0 0) (O := O) (S := S) (R := R) ?_ c1 ⟨by omega, by omega⟩
    exact sr.2 s hs
  refine ⟨k, T, ⟨by omega, tm, ok⟩, ⟨by omega, by omega⟩, sr, fun S' R' h' => ?_⟩
  have dn : ∀ b s, RunS tx L s0 k a b → TkN Tk n0.toNat b s → DoesS Tk b (tx a) n0 n1 n2 (s 2) s ∧ -1000001 < s 2 := fun b s hb tk => by
    have gb := (sr.2 b hb).2.2.1
    have := hp b hb n0.toNat s (by omega) tk
    exact ⟨Or.inr (Or.inl ⟨eta, Or.inr (Or.inr ⟨ok, by omega, ⟨n0.toNat, by omega, tk⟩, rfl⟩)⟩), by omega⟩
  have e' : ∀ s, (∃ b, RunS tx L s0 k a b ∧ TkN Tk n0.toNat b s) ↔ RunS tx L s0 (k + 1) nx s := fun s => by
    constructor
    · rintro ⟨b, hb, tk⟩
      obtain ⟨d1, d2⟩ := dn b s hb tk
      exact ⟨a, b, n0, n1, n2, _, hb, ⟨by omega, by omega⟩, hO', Or.inl eta, d1, d2⟩
    · rintro ⟨a0, b, m0, m1, m2, v, hb, _, O2, q, D, hv⟩
      have ea := RunS.place hb hs1
      subst ea
      obtain ⟨_, e0, e1, e2, _⟩ := O2.uniq hO'
      subst e0; subst e1; subst e2
      have gb := (sr.2 b hb).2.2.1
      rcases D with ⟨z, _⟩ | ⟨_, D⟩ | ⟨_, z, _⟩
      · omega
      · rcases D with ⟨z, _⟩ | ⟨_, z, _⟩ | ⟨_, _, ⟨j, hj, tk⟩, _⟩
        · exact absurd ok z
        · omega
        · exact ⟨b, hb, by rw [show m0.toNat = j by omega]; exact tk⟩
      · exact absurd eta z
  refine ⟨k + 1, by omega, ⟨by omega, by omega⟩, ⟨T + n0, tm, (h'.iff e').mono (by omega) (by omega)⟩, fun j hj a' s' r hr => ?_⟩
  by_cases q : j = k
  · subst q
    have ea := RunS.place hr hs1
    subst ea
    have ex : ∃ x, TkN Tk n0.toNat s' x := by
      have sa : SRA (fun y => y = s') T (s0 0) O (B + j + 14000 * T) S R := ⟨⟨s', rfl⟩, fun y e => by rw [e]; exact sr.2 s' hr⟩
      exact TkN.ex c1 ⟨by omega, by omega⟩ (sa.2 s' rfl) n0.toNat (by omega)
    obtain ⟨x, tk⟩ := ex
    obtain ⟨d1, d2⟩ := dn s' x hr tk
    exact FaultIs.no hO' (Or.inl eta) d1 d2 (hp s' hr)
  · exact hn j (by omega) a' s' r hr

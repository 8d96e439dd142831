/-! THE SIMULATION: ticks of rows, orders of rows -/
theorem rComes_4 {s : Int → Int} {f : Int} (hf : 0 ≤ f) (hg : 0 ≤ rFr s f 1) : rComes s f 4 = s 4 := by
  unfold rComes
  by_cases q : rLate s (rFr s f 1) (rFr s f 2) (rSlot s (rFr s f 1) (rFr s f 2) (rFr s f 3))
  · rw [cif_t q]; unfold rDrop; rw [ups_ne (by omega), ups_ne (by omega)]
  · rw [cif_f q]
    by_cases z : rDblN s f (rFr s f 1) (rFr s f 2) (rSlot s (rFr s f 1) (rFr s f 2) (rFr s f 3)) (s 7)
    · rw [cif_t z]; unfold rDrop; rw [ups_ne (by omega), ups_ne (by omega)]
    · rw [cif_f z]; unfold rKeep; rw [ups_ne (by omega), ups_ne (by omega), ups_ne (by omega)]
theorem rRel_4 {s : Int → Int} {g sl C : Int} {r : Int → Option (Int × Int)} {V F : Int → Int} (h : HdI s C) (hg : 0 ≤ g ∧ g < s 0) : s 4 ≤ rRel s g sl r V F 4 := by
  have hs := h.1
  have h00 := hs.1
  have g5 : 0 ≤ g ∧ g < 5 := ⟨hg.1, by omega⟩
  have he := rB_he (sl := sl) (msk := rMsk s g r (s 1)) (V := V) (F := F) h hg
  have eR : rRel s g sl r V F = cif (g = 0) (rOut (rB s g sl (rMsk s g r (s 1)) V F) sl (rMsk s g r (s 1)) (rMis s g r (s 1)) (rFlg s g r (s 1)) V F) (rSends (rB s g sl (rMsk s g r (s 1)) V F) g sl (rMsk s g r (s 1)) V F) := rfl
  rw [eR]
  generalize rB s g sl (rMsk s g r (s 1)) V F = b at he
  have b4 := he.lo g5 (k := 4) (by decide) (by decide)
  have b5 := he.lo g5 (k := 5) (by decide) (by decide)
  have b7 := he.lo g5 (k := 7) (by decide) (by decide)
  have c := h.2.2.2.2.1
  by_cases q : g = 0
  · rw [cif_t q, (rOut_n (by rw [b5]; exact hs.2.2.2.1)).1, b4, wr_id ⟨by omega, by omega⟩]
    omega
  · rw [cif_f q]
    have f0 : 0 ≤ rFree b := (rFree0_le b 560 0 (by omega) (by rw [b7]; exact hs.2.2.1.1)).1
    have e1 : rT1 b g sl (rMsk s g r (s 1)) V F 4 = b 4 := by
      unfold rT1
      rw [ups_ne (by decide), rSent_lo f0 (by decide)]
      unfold rFreed
      exact ups_ne (by decide)
    have eS : rSends b g sl (rMsk s g r (s 1)) V F = cif (rOf b g 3 = 0) (rComes (rT1 b g sl (rMsk s g r (s 1)) V F) (rFree b)) (rT1 b g sl (rMsk s g r (s 1)) V F) := rfl
    rw [eS]
    have up : 0 ≤ rFr (rT1 b g sl (rMsk s g r (s 1)) V F) (rFree b) 1 := by
      unfold rT1
      rw [rFr_ups, if_neg (by omega), rSent_hd.2.1, he.of g5 g5 (by decide) (fun _ => by decide)]
      exact h.2.1.2 g (by omega) hg.2
    by_cases z : rOf b g 3 = 0
    · rw [cif_t z, rComes_4 f0 up, e1, b4]; exact Int.le_refl _
    · rw [cif_f z, e1, b4]; exact Int.le_refl _
theorem GSm.rl4 {T n0 : Int} {O : List (Int × Int)} {C : Int} {s s2 : Int → Int} {S : Nat → Int → Int} {R : Nat → List FV} (h : GSm T n0 O C s S R) {g : Int} (hg : 0 ≤ g ∧ g < n0) (hr : RlS g s s2) : s 4 ≤ s2 4 := by
  obtain ⟨_, V, F, r, _, rfl⟩ := hr
  exact rRel_4 h.1.2.1 (by rw [h.2.2.2]; exact hg)
/-- a row that some tree of the class is related to -/
def GE (T n0 : Int) (O : List (Int × Int)) (C c4 : Int) (s : Int → Int) : Prop := c4 ≤ s 4 ∧ ∃ S R, GSm T n0 O C s S R
theorem GE.ask {T n0 : Int} {O : List (Int × Int)} {C c4 : Int} (hO : O.length ≤ 512) {g : Int} (hg : 0 ≤ g ∧ g < n0) (hC : C + 560 ≤ 1000000000) {s : Int → Int} (h : GE T n0 O C c4 s) : ∀ (j : Nat) (s' : Int → Int), AskN g j s s' → c4 ≤ s' 4 ∧ ∃ S R, GSm T n0 O (C + j) s' S R ∧ j + (kR R g).length ≤ 552
  | 0, s', e => by
    have e : s' = s := e
    obtain ⟨h4, S, R, gs⟩ := h
    refine ⟨by rw [e]; exact h4, S, R, by rw [e, show C + ((0 : Nat) : Int) = C by omega]; exact gs, ?_⟩
    have := (gs.1.len hO).1 g hg.1 (by rw [gs.2.2.2]; exact hg.2)
    omega
  | j + 1, s', e => by
    obtain ⟨t, a, b⟩ := e
    obtain ⟨h4, S, R, gs, hl⟩ := GE.ask hO hg hC h j t a
    obtain ⟨g2, l2⟩ := gs.rl hO hg (by omega) b
    have := gs.rl4 hg b
    refine ⟨by omega, (cRl S R g).1, (cRl S R g).2, ?_, ?_⟩
    · rw [show C + ((j + 1 : Nat) : Int) = C + (j : Int) + 1 by omega]
      exact g2
    · omega
theorem GE.lv {T n0 : Int} {O : List (Int × Int)} {C c4 dd : Int} (hO : O.length ≤ 512) (hC : C + 2800 ≤ 1000000000) {s : Int → Int} (h : GE T n0 O C c4 s) (hn5 : n0 ≤ 5) : ∀ (n : Nat) (s' : Int → Int), (n : Int) ≤ n0 → LvN dd n s s' → GE T n0 O (C + 560 * n) c4 s'
  | 0, s', _, e => by
    have e : s' = s := e
    rw [e, show C + 560 * ((0 : Nat) : Int) = C by omega]
    exact h
  | n + 1, s', hn, e => by
    obtain ⟨t, a, b⟩ := e
    have ih := GE.lv hO hC h hn5 n t (by omega) a
    rcases b with ⟨_, j, an, _⟩ | ⟨_, e⟩
    · obtain ⟨h4, S, R, gs, hl⟩ := ih.ask (g := (n : Int)) hO ⟨by omega, by omega⟩ (by omega) j s' an
      exact ⟨h4, S, R, gs.mono (by omega) (by omega)⟩
    · rw [e]
      obtain ⟨h4, S, R, gs⟩ := ih
      exact ⟨h4, S, R, gs.mono (by omega) (by omega)⟩
theorem GE.dp {T n0 : Int} {O : List (Int × Int)} {C c4 : Int} (hO : O.length ≤ 512) (hC : C + 14000 ≤ 1000000000) (hn0 : 0 ≤ n0) (hn5 : n0 ≤ 5) {s : Int → Int} (h : GE T n0 O C c4 s) : ∀ (m : Nat) (s' : Int → Int), m ≤ 5 → DpN n0.toNat m s s' → GE T n0 O (C + 2800 * m) c4 s'
  | 0, s', _, e => by
    have e : s' = s := e
    rw [e, show C + 2800 * ((0 : Nat) : Int) = C by omega]
    exact h
  | m + 1, s', hm, e => by
    obtain ⟨t, a, b⟩ := e
    have ih := GE.dp hO hC hn0 hn5 h m t (by omega) a
    obtain ⟨h4, S, R, gs⟩ := ih.lv hO (by omega) hn5 n0.toNat s' (by omega) b
    exact ⟨h4, S, R, gs.mono (by omega) (by omega)⟩
theorem tick_pure {s s' : Int → Int} {O : List (Int × Int)} {B : Int} {S : Nat → Int → Int} {R : Nat → List FV} (h : Sim s (s 2 + 1) O (B + 14000 * s 2) S R) (hL : LI s R) (hO : O.length ≤ 512) (hB : 0 ≤ B ∧ B ≤ 20000) (hT : s 2 < 30000) (ht : Tk s s') : s 4 ≤ s' 4 ∧ (s' 2 = s 2 + 1 ∧ s' 0 = s 0) ∧ ∃ S' R', Sim s' (s' 2 + 1) O (B + 14000 * s' 2) S' R' ∧ LI s' R' := by
  have c := h.2.1.2.2.2.2.1
  have n5 := h.2.1.1.1
  have sr : SRA (fun x => x = s) (s 2) (s 0) O (B + 14000 * s 2) S R := ⟨⟨s, rfl⟩, fun x e => by rw [e]; exact ⟨h, hL, rfl, rfl⟩⟩
  obtain ⟨_, sb⟩ := sr.begin hO (by omega)
  obtain ⟨s1, A, ⟨z, _⟩ | ⟨_, D⟩⟩ := ht
  · exact absurd z (by decide)
  · have g1 := sb.2 s1 ⟨s, rfl, s1, A, Or.inl ⟨by decide, by decide, s1, rfl, rfl⟩⟩
    have e4 : s1 4 = s 4 := by
      obtain ⟨K, e, i2, _⟩ := A
      have T1 := h.tick (by omega)
      have T2 : Sim (ups s 2 (s 2 + 1)) (ups s 2 (s 2 + 1) 2) O (B + 14000 * s 2) (upX S 0 6 (cT S 6 + 1)) R := by
        rw [show ups s 2 (s 2 + 1) 2 = s 2 + 1 from ups_eq rfl]
        exact T1
      obtain ⟨N, j1, j2, j3, _, _⟩ := T2.arrived
      have kN : K ≤ N := by
        by_cases q : K ≤ N
        · exact q
        · have := i2 N (by omega)
          omega
      have key : ∀ k, k ≤ N → sq (ups s 2 (s 2 + 1)) k 4 = s 4 := by
        intro k
        induction k with
        | zero => intro _; exact ups_ne (by decide)
        | succ k ih =>
          intro hk
          obtain ⟨S1, R1, hs1⟩ := j1 k (by omega)
          have nx := j2 k (by omega)
          show rComes (sq (ups s 2 (s 2 + 1)) k) (rNext (sq (ups s 2 (s 2 + 1)) k)) 4 = s 4
          have hw : mW (sq (ups s 2 (s 2 + 1)) k) (rNext (sq (ups s 2 (s 2 + 1)) k)) := by
            rcases rNext_is (s := sq (ups s 2 (s 2 + 1)) k) hs1.2.1.1.2.2.1.1 with ⟨a, _⟩ | ⟨⟨a, _⟩, _⟩
            · omega
            · exact a
          have fo := (hs1.2.2.1.1 _ hw.1 (by have := hw.2; unfold isW at this; omega)).2
          rw [rComes_4 nx (fo.hub hs1.2.1.1).1]
          exact ih (by omega)
      rw [e]
      exact key K kN
    have ge : GE (s 2 + 1) (s 0) O (B + 14000 * s 2) (s 4) s1 := ⟨by omega, _, _, g1⟩
    obtain ⟨h4, S', R', gs⟩ := ge.dp hO (by omega) (by omega) n5.2 5 s' (Nat.le_refl _) D
    have t2 := gs.2.2.1
    refine ⟨h4, ⟨t2, gs.2.2.2⟩, S', R', ?_, gs.2.1⟩
    rw [show B + 14000 * s' 2 = B + 14000 * s 2 + 2800 * ((5 : Nat) : Int) by rw [t2]; omega]
    exact gs.1
theorem ticks_pure {O : List (Int × Int)} {B : Int} (hO : O.length ≤ 512) (hB : 0 ≤ B ∧ B ≤ 20000) {s : Int → Int} {S : Nat → Int → Int} {R : Nat → List FV} (h : Sim s (s 2 + 1) O (B + 14000 * s 2) S R) (hL : LI s R) : ∀ (n : Nat) (s' : Int → Int), s 2 + n ≤ 30000 → TkN Tk n s s' → s 4 ≤ s' 4 ∧ (s' 2 = s 2 + n ∧ s' 0 = s 0) ∧ ∃ S' R', Sim s' (s' 2 + 1) O (B + 14000 * s' 2) S' R' ∧ LI s' R'
  | 0, s', _, e => by
    have e : s' = s := e
    subst e
    exact ⟨Int.le_refl _, ⟨by omega, rfl⟩, S, R, h, hL⟩
  | n + 1, s', hn, e => by
    obtain ⟨t, a, b⟩ := e
    obtain ⟨i4, i2, S1, R1, i1, iL⟩ := ticks_pure hO hB h hL n t (by omega) a
    obtain ⟨j4, j2, S2, R2, j1, jL⟩ := tick_pure i1 iL hO hB (by omega) b
    exact ⟨by omega, ⟨by omega, by rw [j2.2, i2.2]⟩, S2, R2, j1, jL⟩
/-- n orders of the text done from a row that is s0: a is the next place -/
def RunS (tx : Int → Int) (L : Int) (s0 : Int → Int) : Nat → Int → (Int → Int) → Prop
  | 0, a, s => a = 0 ∧ EqR s s0
  | n + 1, a, s' => ∃ a0 s n0 n1 n2 v, RunS tx L s0 n a0 s ∧ (0 ≤ a0 ∧ a0 < L) ∧ OrdIs tx L a0 (tx a0) n0 n1 n2 a ∧ (tx a0 = 112 ∨ (0 ≤ n0 ∧ n0 ≤ s 1 - 1)) ∧ DoesS Tk s (tx a0) n0 n1 n2 v s' ∧ -1000001 < v
theorem RunS.place {tx : Int → Int} {L : Int} {s0 : Int → Int} : ∀ {n : Nat} {a a' : Int} {s s' : Int → Int}, RunS tx L s0 n a s → RunS tx L s0 n a' s' → a = a'
  | 0, _, _, _, _, h, k => h.1.trans k.1.symm
  | n + 1, a, a', s, s', h, k => by
    obtain ⟨a0, t, n0, n1, n2, v, h1, _, h2, _⟩ := h
    obtain ⟨b0, u, m0, m1, m2, w, k1, _, k2, _⟩ := k
    have e := RunS.place h1 k1
    subst e
    exact (h2.uniq k2).2.2.2.2
/-- the orders before the n-th: at each a row whose order was done -/
theorem RunS.pre {tx : Int → Int} {L : Int} {s0 : Int → Int} : ∀ {n : Nat} {a : Int} {s' : Int → Int}, RunS tx L s0 n a s' → ∀ j, j < n → ∃ a0 s n0 n1 n2 nx v t, RunS tx L s0 j a0 s ∧ (0 ≤ a0 ∧ a0 < L) ∧ OrdIs tx L a0 (tx a0) n0 n1 n2 nx ∧ (tx a0 = 112 ∨ (0 ≤ n0 ∧ n0 ≤ s 1 - 1)) ∧ DoesS Tk s (tx a0) n0 n1 n2 v t ∧ -1000001 < v
  | 0, _, _, _, j, hj => absurd hj (Nat.not_lt_zero _)
  | n + 1, a, s', h, j, hj => by
    obtain ⟨a0, s, n0, n1, n2, v, h1, h2, h3, h4, h5, h6⟩ := h
    by_cases q : j = n
    · exact ⟨a0, s, n0, n1, n2, a, v, s', q ▸ h1, h2, h3, h4, h5, h6⟩
    · exact h1.pre j (by omega)
/-- an order of a row is done, or it is not -/
theorem DoesS.one {s : Int → Int} {c n0 n1 n2 v v' : Int} {t t' : Int → Int} (h : DoesS Tk s c n0 n1 n2 v t) (k : DoesS Tk s c n0 n1 n2 v' t') (hp : ∀ (j : Nat) (x : Int → Int), s 2 + j ≤ 20000 → TkN Tk j s x → 0 ≤ x 2) (hv : v ≤ -1000001) : v' ≤ -1000001 := by
  have nn : ∀ x : Int → Int, 0 ≤ rAllWay x := fun x => by
    unfold rAllWay fI
    generalize (x 7).toNat = n
    induction n with
    | zero => exact Int.le_refl _
    | succ n ih =>
      rw [List.range_succ, List.foldl_append]
      have := b2i_01 (rFr x (n : Int) 0 = 1)
      show 0 ≤ _ + b2i (rFr x (n : Int) 0 = 1)
      omega
  have no : ∀ x : Int → Int, 0 ≤ rOn x := fun x => by
    unfold rOn fI
    generalize (x 1).toNat = n
    induction n with
    | zero => exact Int.le_refl _
    | succ n ih =>
      rw [List.range_succ, List.foldl_append]
      have := b2i_01 (rIts x (n : Int) 2 = 0)
      show 0 ≤ _ + b2i (rIts x (n : Int) 2 = 0)
      omega
  rcases h with ⟨c1, h⟩ | ⟨c1, h⟩ | ⟨c1, c2, h⟩
  · rcases k with ⟨_, k⟩ | ⟨c2, _⟩ | ⟨c2, _⟩
    · rcases h with ⟨a, b, _⟩ | ⟨a, b, d, _⟩ | ⟨a, b, d, e, _⟩ | ⟨a, b, d, e, _⟩
      · rcases k with ⟨a', b', _⟩ | ⟨a', _⟩ | ⟨a', _⟩ | ⟨a', _⟩
        · omega
        · exact absurd a' a
        · exact absurd a' a
        · exact absurd a' a
      · rcases k with ⟨a', b', _⟩ | ⟨a', b', d', _⟩ | ⟨a', b', _⟩ | ⟨a', b', _⟩
        · omega
        · omega
        · exact absurd b' b
        · exact absurd b' b
      · rcases k with ⟨a', b', _⟩ | ⟨a', b', d', _⟩ | ⟨a', b', d', e', _⟩ | ⟨a', b', d', _⟩
        · omega
        · omega
        · omega
        · omega
      · have := nn t
        omega
    · omega
    · exact absurd c1 c2
  · rcases k with ⟨c2, _⟩ | ⟨_, k⟩ | ⟨_, c2, _⟩
    · omega
    · rcases h with ⟨a, b, _⟩ | ⟨a, b, d, _⟩ | ⟨a, b, ⟨j, hj, tk⟩, d⟩
      · rcases k with ⟨a', b', _⟩ | ⟨a', _⟩ | ⟨a', _⟩
        · omega
        · exact absurd a' a
        · exact absurd a' a
      · rcases k with ⟨a', b', _⟩ | ⟨a', b', d', _⟩ | ⟨a', b', _⟩
        · omega
        · omega
        · omega
      · rcases k with ⟨a', b', _⟩ | ⟨a', b', d', _⟩ | ⟨a', b', _⟩
        · omega
        · omega
        · have := hp j t (by omega) tk
          omega
    · exact absurd c1 c2
  · rcases k with ⟨c3, _⟩ | ⟨c3, _⟩ | ⟨_, _, k⟩
    · exact absurd c3 c1
    · exact absurd c3 c2
    · rcases h with ⟨a, b, _⟩ | ⟨a, b, d, _⟩ | ⟨a, b, d, _⟩
      · rcases k with ⟨a', b', _⟩ | ⟨a', _⟩ | ⟨a', _⟩
        · omega
        · exact absurd a' a
        · exact absurd a' a
      · rcases k with ⟨a', b', _⟩ | ⟨a', b', d', _⟩ | ⟨a', b', _⟩
        · omega
        · omega
        · exact absurd b' b
      · have := no t
        omega

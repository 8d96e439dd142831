/-! THE SIMULATION: the whole object -/
theorem FmI.wide {s : Int → Int} {t : Int} {O O' : List (Int × Int)} (h : FmI s t O) (hO : ∀ x, x ∈ O → x ∈ O') : FmI s t O' := by
  obtain ⟨h1, h2, h3, h4, ⟨og, o1, o2⟩, h6⟩ := h
  exact ⟨h1, h2, fun f a b => ⟨(h3 f a b).1, fun c => hO _ ((h3 f a b).2 c)⟩, h4, ⟨og, fun f k => ⟨hO _ (o1 f k).1, (o1 f k).2⟩, o2⟩, h6⟩
def SimG (s : Int → Int) (O : List (Int × Int)) (B : Int) (S : Nat → Int → Int) (R : Nat → List FV) : Prop := Sim s (s 2 + 1) O (B + 14000 * s 2) S R ∧ LI s R ∧ s 2 ≤ 20000
theorem SimG.wide {s : Int → Int} {O O' : List (Int × Int)} {B B' : Int} {S : Nat → Int → Int} {R : Nat → List FV} (h : SimG s O B S R) (hO : ∀ x, x ∈ O → x ∈ O') (hB : B ≤ B' ∧ B' ≤ 20000) : SimG s O' B' S R := by
  obtain ⟨a, b, c⟩ := h
  have cc := a.2.1.2.2.2.2.1
  have a := a.mono (C' := B' + 14000 * s 2) (by omega) (by omega)
  exact ⟨⟨a.1, a.2.1, a.2.2.1.wide hO, a.2.2.2⟩, b, c⟩
theorem SimG.eqR {s s' : Int → Int} {O : List (Int × Int)} {B : Int} {S : Nat → Int → Int} {R : Nat → List FV} (h : SimG s O B S R) (e : EqR s' s) : SimG s' O B S R := by
  obtain ⟨a, b, c⟩ := h
  have e2 : s' 2 = s 2 := e 2 (by decide) (by decide)
  have e0 : s' 0 = s 0 := e 0 (by decide) (by decide)
  refine ⟨by rw [e2]; exact a.eqR e, by unfold LI; rw [e0]; exact b, by omega⟩
/-- all rows of a tree are short -/
def LA (R : Nat → List FV) : Prop := ∀ q, 0 ≤ q → q < 5 → (kR R q).length ≤ 600
theorem SimG.la {s : Int → Int} {O : List (Int × Int)} {B : Int} {S : Nat → Int → Int} {R : Nat → List FV} (h : SimG s O B S R) (hO : O.length ≤ 512) : LA R := fun q a b => by
  by_cases z : q < s 0
  · have := (h.1.len hO).1 q a z
    omega
  · exact h.2.1 q (by omega) b
theorem SimG.copy {s : Int → Int} {O : List (Int × Int)} {B : Int} {S S2 : Nat → Int → Int} {R R2 S0 : Nat → List FV} (h : SimG s O B S2 R2) (hO : O.length ≤ 512) (q : CQ S0 S2 R2 S R) (hc : CntR S R) (h0 : LA S0) : SimG s O B S R ∧ LA R := by
  have h2 := h.la hO
  have la : LA R := fun g a b => by
    rcases q.2.2.2.2.2 g a b with e | e
    · rw [e]; exact h0 g a b
    · rw [e]; exact h2 g a b
  exact ⟨⟨h.1.copy q hc, fun g a b => la g (by have := h.1.2.1.1.1; omega) b, h.2.2⟩, la⟩
/-- the origins of the text's orders are in O -/
def TxtO (tx : Int → Int) (L : Int) (O : List (Int × Int)) : Prop := ∀ a n0 n1 n2 nx, 0 ≤ a → OrdIs tx L a 109 n0 n1 n2 nx → (n0, n1) ∈ O
def blk (X : Nat → Int → Int) (j : Int) : Int → Int := fun b => X 2 (15568 * j + b)
/-- the reference's state and the class's trees by their roles, n calls done -/
def PureG (n : Nat) (st : Int) (X : Nat → Int → Int) (L : Int) (tx : Int → Int) (O : List (Int × Int)) (Bd : Int) (S : Nat → Nat → Int → Int) (R : Nat → Nat → List FV) : Prop :=
  (X 0 4 = st ∧ X 0 6 = L ∧ (0 ≤ L ∧ L ≤ 60) ∧ 0 ≤ st ∧ st ≤ 4) ∧ (∀ j, 0 ≤ j → j < L → X 5 j = tx j ∧ 32 ≤ tx j ∧ tx j ≤ 126) ∧ (O.length ≤ n ∧ n ≤ 512) ∧ (0 ≤ Bd ∧ Bd ≤ 20 * (n : Int)) ∧ TxtO tx L O ∧ SimG (X 1) O Bd (S 4) (R 4) ∧ (∀ j : Nat, (j : Int) < st → SimG (blk X j) O Bd (S j) (R j)) ∧ ∀ r, r < 6 → LA (R r)
theorem PureG.next {n : Nat} {st : Int} {X X' : Nat → Int → Int} {L : Int} {tx : Int → Int} {O : List (Int × Int)} {Bd : Int} {S S' : Nat → Nat → Int → Int} {R R' : Nat → Nat → List FV} (h : PureG n st X L tx O Bd S R) (hn : n + 1 ≤ 512) (e0 : X' 0 4 = X 0 4 ∧ X' 0 6 = X 0 6) (e1 : EqR (X' 1) (X 1)) (e2 : X' 2 = X 2) (e5 : X' 5 = X 5) (s4 : SimG (X 1) O Bd (S' 4) (R' 4)) (sj : ∀ j : Nat, j < 4 → S' j = S j ∧ R' j = R j) (hl : ∀ r, r < 6 → LA (R' r)) : PureG (n + 1) st X' L tx O Bd S' R' := by
  obtain ⟨⟨a1, a2, a3, a4, a5⟩, b, ⟨c1, c2⟩, d, e, f, g, i⟩ := h
  refine ⟨⟨e0.1.trans a1, e0.2.trans a2, a3, a4, a5⟩, fun j x y => by rw [e5]; exact b j x y, ⟨by omega, hn⟩, ⟨d.1, by omega⟩, e, s4.eqR e1, fun j hj => ?_, hl⟩
  rw [(sj j (by omega)).1, (sj j (by omega)).2]
  unfold blk
  rw [e2]
  exact g j hj
theorem acX_is {X : Nat → Int → Int} {st n : Int} (h4 : X 0 4 = st) (hs : 0 ≤ st ∧ st ≤ 4) (hn : n = if st = 4 then 3 else st) : acX X 0 4 = n + 1 ∧ (∀ a, a ≠ 0 → a ≠ 2 → acX X a = X a) ∧ acX X 0 6 = X 0 6 ∧ (∀ j, 0 ≤ j → j < n → EqR (blk (acX X) j) (blk X (if st = 4 then j + 1 else j))) ∧ EqR (blk (acX X) n) (X 3) := by
  have ey4 : acY X 0 4 = n := by
    unfold acY
    by_cases q : st = 4
    · rw [if_pos (by omega)]
      unfold upX
      rw [if_pos ⟨rfl, rfl⟩, hn, if_pos q]; omega
    · rw [if_neg (by omega), hn, if_neg q]; exact h4
  have ey : ∀ a, a ≠ 0 → a ≠ 2 → acY X a = X a := fun a a0 a2 => by
    unfold acY
    by_cases q : X 0 4 = 4
    · rw [if_pos q]
      funext b
      unfold upX shX
      rw [if_neg (by omega), if_neg (by omega)]
    · rw [if_neg q]
  have ey6 : acY X 0 6 = X 0 6 := by
    unfold acY
    by_cases q : X 0 4 = 4
    · rw [if_pos q]
      unfold upX shX
      rw [if_neg (by omega), if_neg (by omega)]
    · rw [if_neg q]
  have ey2 : ∀ b, 0 ≤ b → b < 15568 * n → acY X 2 b = X 2 (if st = 4 then b + 15568 else b) := fun b b0 b1 => by
    unfold acY
    by_cases q : st = 4
    · rw [if_pos (by omega), if_pos q]
      rw [if_pos q] at hn
      unfold upX shX
      rw [if_neg (by omega), if_pos (by omega)]
    · rw [if_neg (by omega), if_neg q]
  refine ⟨?_, fun a a0 a2 => ?_, ?_, fun j j0 j1 b b0 b1 => ?_, fun b b0 b1 => ?_⟩
  · unfold acX upX
    rw [if_pos ⟨rfl, rfl⟩, ey4]
  · funext b
    unfold acX upX laX
    rw [if_neg (by omega), if_neg (by omega), ey a a0 a2]
  · unfold acX upX laX
    rw [if_neg (by omega), if_neg (by omega), ey6]
  · unfold blk acX upX laX
    rw [if_neg (by omega), if_neg (by rw [ey4]; omega), ey2 _ (by omega) (by omega)]
    by_cases q : st = 4
    · rw [if_pos q, if_pos q]; congr 1; omega
    · rw [if_neg q, if_neg q]
  · unfold blk acX upX laX
    rw [if_neg (by omega), if_pos (by rw [ey4]; omega), ey 3 (by decide) (by decide), ey4]
    congr 1
    omega
/-- a call that changed the state: the old one is remembered -/
theorem PureG.acted {n : Nat} {st st' : Int} {X Z : Nat → Int → Int} {L : Int} {tx : Int → Int} {O O' : List (Int × Int)} {Bd Bd' : Int} {S S' : Nat → Nat → Int → Int} {R R' : Nat → Nat → List FV} {S4 : Nat → Int → Int} {R4 : Nat → List FV} (h : PureG n st X L tx O Bd S R) (hn : n + 1 ≤ 512) (hr : RemP st S R S' R' st') (hc : ∀ j, j < 4 → CntR (S' j) (R' j)) (z0 : Z 0 4 = X 0 4 ∧ Z 0 6 = X 0 6) (z2 : Z 2 = X 2) (z3 : EqR (Z 3) (X 1)) (z5 : Z 5 = X 5) (hO : (∀ x, x ∈ O → x ∈ O') ∧ O'.length ≤ n + 1) (hB : Bd ≤ Bd' ∧ Bd' ≤ 20 * (n : Int) + 20) (h4 : SimG (Z 1) O' Bd' S4 R4) (h5 : LA (R' 5)) : PureG (n + 1) st' (acX Z) L tx O' Bd' (upG S' 4 S4) (upG R' 4 R4) := by
  obtain ⟨⟨a1, a2, a3, a4, a5⟩, b, ⟨c1, c2⟩, d, e, f, g, i⟩ := h
  obtain ⟨m, hm, hst, hst', ⟨_, _, _, _⟩, hj, ⟨q, hq, cq⟩, hk⟩ := hr
  obtain ⟨x4, xa, x6, xj, xn⟩ := acX_is (X := Z) (st := st) (n := (m : Int)) (z0.1.trans a1) ⟨a4, a5⟩ hst
  have bb : blk Z = blk X := by funext j; unfold blk; rw [z2]
  have cp := f.copy (by omega) cq (hc m hm) (i q (by omega))
  refine ⟨⟨by rw [x4]; exact hst'.symm, by rw [x6]; exact z0.2.trans a2, a3, by omega, by omega⟩, fun j x y => by rw [xa 5 (by decide) (by decide), z5]; exact b j x y, ⟨hO.2, hn⟩, ⟨by omega, by omega⟩, fun a n0 n1 n2 nx x y => hO.1 _ (e a n0 n1 n2 nx x y), ?_, fun j hj' => ?_, fun r hr => ?_⟩
  · rw [xa 1 (by decide) (by decide), upG_eq, upG_eq]
    exact h4
  · rw [upG_ne (by omega), upG_ne (by omega)]
    by_cases z : j = m
    · subst z
      exact ((cp.1.eqR z3).eqR xn).wide hO.1 ⟨hB.1, by omega⟩
    · have jm : j < m := by omega
      have xx := xj j (by omega) (by omega)
      rw [bb] at xx
      obtain ⟨s1, r1⟩ := hj j jm
      rw [s1, r1]
      by_cases s4 : st = 4
      · rw [if_pos s4] at xx
        rw [if_pos s4]
        exact ((g (j + 1) (by omega)).eqR xx).wide hO.1 ⟨hB.1, by omega⟩
      · rw [if_neg s4] at xx
        rw [if_neg s4]
        exact ((g j (by omega)).eqR xx).wide hO.1 ⟨hB.1, by omega⟩
  · by_cases r4 : r = 4
    · rw [r4, upG_eq]; exact h4.la (by omega)
    · rw [upG_ne r4]
      by_cases r5 : r = 5
      · rw [r5]; exact h5
      · by_cases z : r = m
        · rw [z]; exact cp.2
        · by_cases z2 : r < m
          · rw [(hj r z2).2]
            split <;> exact i _ (by omega)
          · obtain ⟨p, hp, _, e⟩ := hk r (by omega) (by omega)
            rw [e]; exact i p (by omega)
theorem NumIs.sub {tx tx' : Int → Int} {L L' a e x nx : Int} (h : NumIs tx' L' a e x nx) (ha : 0 ≤ a) (hn : nx ≤ L) (et : ∀ j, 0 ≤ j → j < L → tx' j = tx j) : NumIs tx L a e x nx := by
  obtain ⟨D, a1, a2, a3, a4, a5, a6⟩ := h
  refine ⟨D, a1, fun j hj => by rw [← et _ (by omega) (by omega)]; exact a2 j hj, by omega, by rw [← et _ (by omega) (by omega)]; exact a4, ?_, a6⟩
  rw [a5]
  have key : ∀ d : Nat, d ≤ D → dVal tx' a d = dVal tx a d := by
    intro d
    induction d with
    | zero => intro _; rfl
    | succ d ih =>
      intro hd
      rw [dVal, dVal, ih (by omega), et _ (by omega) (by omega)]
  exact key D (Nat.le_refl _)
theorem NumIs.lo {tx : Int → Int} {L a e x nx : Int} (h : NumIs tx L a e x nx) : a + 2 ≤ nx := by
  obtain ⟨D, a1, _, _, _, _, a6⟩ := h
  omega
theorem OrdIs.sub {tx tx' : Int → Int} {L L' a n0 n1 n2 nx : Int} (h : OrdIs tx' L' a 109 n0 n1 n2 nx) (ha : 0 ≤ a) (hn : nx ≤ L) (et : ∀ j, 0 ≤ j → j < L → tx' j = tx j) : OrdIs tx L a 109 n0 n1 n2 nx := by
  have ol := h.lt
  obtain ⟨h1, h2, h3⟩ := h
  refine ⟨by omega, by rw [← et _ ha (by omega)]; exact h2, ?_⟩
  rcases h3 with ⟨c, a1, a2, k1, k2, k3⟩ | ⟨c, _⟩
  · left
    have l1 := k1.lo
    have l2 := k2.lo
    rcases k3 with ⟨p, q, x, r, t⟩ | ⟨p, r⟩
    · have l3 := r.lo
      exact ⟨c, a1, a2, k1.sub (by omega) (by omega) et, k2.sub (by omega) (by omega) et, Or.inl ⟨by omega, by rw [← et _ (by omega) (by omega)]; exact q, x, r.sub (by omega) hn et, t⟩⟩
    · have l3 := r.lo
      exact ⟨c, a1, a2, k1.sub (by omega) (by omega) et, k2.sub (by omega) (by omega) et, Or.inr ⟨fun z => p ⟨by omega, by rw [et _ (by omega) (by omega)]; exact z.2⟩, r.sub (by omega) hn et⟩⟩
  · omega
/-- no m within what follows an m -/
theorem NumIs.noM {tx : Int → Int} {L a e x nx : Int} (h : NumIs tx L a e x nx) (he : e = 44 ∨ e = 59) : ∀ j, a ≤ j → j < nx → tx j ≠ 109 := fun j a0 b0 q => by
  obtain ⟨D, a1, a2, a3, a4, a5, a6⟩ := h
  by_cases z : j = a + D
  · rw [z, a4] at q
    omega
  · have := a2 (j - a).toNat (by omega)
    rw [show a + ((j - a).toNat : Nat) = j by omega, q] at this
    unfold isDig at this
    omega
theorem OrdIs.noM {tx : Int → Int} {L a n0 n1 n2 nx : Int} (h : OrdIs tx L a 109 n0 n1 n2 nx) : ∀ j, a < j → j < nx → tx j ≠ 109 := fun j a0 b0 => by
  obtain ⟨h1, h2, h3⟩ := h
  rcases h3 with ⟨c, a1, a2, k1, k2, k3⟩ | ⟨c, _⟩
  · by_cases q1 : j < a1
    · exact k1.noM (Or.inl rfl) j (by omega) q1
    · by_cases q2 : j < a2
      · exact k2.noM (Or.inl rfl) j (by omega) q2
      · rcases k3 with ⟨p, q, x, r, t⟩ | ⟨p, r⟩
        · by_cases q3 : j = a2
          · rw [q3, q]; decide
          · exact r.noM (Or.inr rfl) j (by omega) b0
        · exact r.noM (Or.inr rfl) j (by omega) b0
  · omega
/-- one more character ends at most one order that sends -/
theorem TxtO.typed {tx : Int → Int} {L c : Int} {O : List (Int × Int)} (h : TxtO tx L O) (hL : 0 ≤ L) : ∃ O', TxtO (ups tx L c) (L + 1) O' ∧ (∀ x, x ∈ O → x ∈ O') ∧ O'.length ≤ O.length + 1 := by
  have et : ∀ j, 0 ≤ j → j < L → ups tx L c j = tx j := fun j a b => ups_ne (by omega)
  by_cases q : ∃ a n0 n1 n2, 0 ≤ a ∧ OrdIs (ups tx L c) (L + 1) a 109 n0 n1 n2 (L + 1)
  · obtain ⟨a, n0, n1, n2, a0, k⟩ := q
    refine ⟨O ++ [(n0, n1)], fun b m0 m1 m2 mx b0 k' => ?_, fun x hx => List.mem_append.mpr (Or.inl hx), by rw [List.length_append, List.length_singleton]; exact Nat.le_refl _⟩
    have ol := k'.lt
    have ol0 := k.lt
    by_cases z : mx ≤ L
    · exact List.mem_append.mpr (Or.inl (h b m0 m1 m2 mx b0 (k'.sub b0 z et)))
    · have e : mx = L + 1 := by omega
      subst e
      have eab : a = b := by
        by_cases y : a < b
        · exact absurd k'.2.1 (k.noM b y (by omega))
        · by_cases y2 : b < a
          · exact absurd k.2.1 (k'.noM a y2 (by omega))
          · omega
      subst eab
      obtain ⟨_, e0, e1, _⟩ := k'.uniq k
      rw [e0, e1]
      exact List.mem_append.mpr (Or.inr (List.mem_singleton.mpr rfl))
  · refine ⟨O, fun b m0 m1 m2 mx b0 k' => ?_, fun x hx => hx, Nat.le_succ _⟩
    have ol := k'.lt
    by_cases z : mx ≤ L
    · exact h b m0 m1 m2 mx b0 (k'.sub b0 z et)
    · exact absurd ⟨b, m0, m1, m2, b0, by rw [show L + 1 = mx by omega]; rw [show L + 1 = mx by omega] at k'; exact k'⟩ q

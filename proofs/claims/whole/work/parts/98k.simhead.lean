/-! THE SIMULATION: heads that stay but for counts -/
/-- the head stays, but for the counts of dropped frames, the number and the frames in use -/
def Hq (s s' : Int → Int) : Prop := ∀ k, 0 ≤ k → k < 448 → k ≠ 3 → k ≠ 7 → (∀ g, 0 ≤ g → g < 5 → k ≠ 8 + 10 * g + 7 ∧ k ≠ 8 + 10 * g + 8) → s' k = s k
theorem Hq.lo {s s' : Int → Int} (h : Hq s s') {k : Int} (h0 : 0 ≤ k) (h1 : k < 8) (h3 : k ≠ 3) (h7 : k ≠ 7) : s' k = s k := h k h0 (by omega) h3 h7 (fun g a b => by omega)
theorem Hq.hi {s s' : Int → Int} (h : Hq s s') {k : Int} (h0 : 58 ≤ k) (h1 : k < 448) : s' k = s k := h k (by omega) h1 (by omega) (by omega) (fun g a b => by omega)
theorem Hq.of {s s' : Int → Int} (h : Hq s s') {g w : Int} (hg : 0 ≤ g ∧ g < 5) (hw : 0 ≤ w ∧ w < 10) (h7 : w ≠ 7) (h8 : w ≠ 8) : rOf s' g w = rOf s g w := h _ (by omega) (by omega) (by omega) (by omega) (fun x a b => by omega)
theorem Hq.its {s s' : Int → Int} (h : Hq s s') {u w : Int} (hu : 0 ≤ u ∧ u < 10) (hw : 0 ≤ w ∧ w < 4) : rIts s' u w = rIts s u w := h.hi (by omega) (by omega)
theorem Hq.refl {s : Int → Int} : Hq s s := fun _ _ _ _ _ _ => rfl
theorem Hq.trans {s s' s2 : Int → Int} (h : Hq s s') (h2 : Hq s' s2) : Hq s s2 := fun k a b c d e => (h2 k a b c d e).trans (h k a b c d e)
theorem Hq.dep {s s' : Int → Int} (h : Hq s s') (hs : RI s) {g : Int} (hg : 0 ≤ g ∧ g < s 0) : rDepth s' g = rDepth s g := by
  have h0 := hs.1
  have key : ∀ (n : Nat) (x : Int), x < s 0 → rDep s' n x = rDep s n x := by
    intro n
    induction n with
    | zero => intro x _; rfl
    | succ n ih =>
      intro x hx
      rw [rDep, rDep]
      by_cases q : x < 0
      · rw [if_pos q, if_pos q]
      · have hh := hs.2.2.2.2.1 x (by omega) hx
        rw [if_neg q, if_neg q, h.of ⟨by omega, by omega⟩ (by decide) (by decide) (by decide), ih _ (by omega)]
  have hh := hs.2.2.2.2.1 g hg.1 hg.2
  unfold rDepth
  rw [h.of ⟨hg.1, by omega⟩ (by decide) (by decide) (by decide)]
  exact key 6 _ (by omega)
theorem Hq.per {s s' : Int → Int} (h : Hq s s') {c : Int} (hc : 0 ≤ c ∧ c < 15) : rPer s' c = rPer s c := by
  unfold rPer
  by_cases q : c < 10
  · rw [if_pos q, if_pos q, h.its ⟨hc.1, q⟩ (by decide)]
  · rw [if_neg q, if_neg q, h.of ⟨by omega, by omega⟩ (by decide) (by decide) (by decide)]
theorem Hq.prt {s s' : Int → Int} (h : Hq s s') {c : Int} (hc : 0 ≤ c ∧ c < 15) : par s' c = par s c := by
  unfold par
  by_cases q : c < 10
  · rw [if_pos q, if_pos q, h.its ⟨hc.1, q⟩ (by decide)]
  · rw [if_neg q, if_neg q, h.of ⟨by omega, by omega⟩ (by decide) (by decide) (by decide)]
theorem Hq.sl0 {s s' : Int → Int} (h : Hq s s') {g c st : Int} (hc : 0 ≤ c ∧ c < 15) (hg : 0 ≤ g ∧ g < 5) : rSl0 s' g c st = rSl0 s g c st := by
  unfold rSl0
  rw [h.per hc, h.of hg (by decide) (by decide) (by decide)]
theorem Hq.kid {s s' : Int → Int} (h : Hq s s') {c : Int} (k : kidOK s c) : kidOK s' c := by
  unfold kidOK
  rw [h.lo (k := 0) (by decide) (by decide) (by decide) (by decide), h.lo (k := 1) (by decide) (by decide) (by decide) (by decide)]
  exact k
theorem FrSame.fok {s s' : Int → Int} {f : Int} (e : FrSame s s' f) (h : Hq s s') (k : FrOK s f) : FrOK s' f := by
  obtain ⟨a, b, c⟩ := k
  unfold FrOK
  rw [e 1 (by decide) (by decide), e 2 (by decide) (by decide), e 3 (by decide) (by decide), h.prt a.r15]
  exact ⟨h.kid a, b, c⟩
theorem FrSame.kok {s s' : Int → Int} {f : Int} (e : FrSame s s' f) (h : Hq s s') (hs : RI s) (k : FrOK s f) (q : KeptOK s f) : KeptOK s' f := by
  have hh := k.hub hs
  have h0 := hs.1
  unfold KeptOK at q ⊢
  rw [e 1 (by decide) (by decide), e 2 (by decide) (by decide), e 3 (by decide) (by decide), e 4 (by decide) (by decide), e 5 (by decide) (by decide), h.sl0 k.1.r15 ⟨hh.1, by omega⟩, h.of ⟨hh.1, by omega⟩ (by decide) (by decide) (by decide), h.of ⟨hh.1, by omega⟩ (by decide) (by decide) (by decide), h.lo (by decide) (by decide) (by decide) (by decide)]
  exact q
theorem FrSame.has {s s' : Int → Int} {f : Int} (e : FrSame s s' f) (i : inR7 s' f ↔ inR7 s f) : hasO s' f ↔ hasO s f := by
  unfold hasO
  rw [e 0 (by decide) (by decide), e 2 (by decide) (by decide), i]
theorem FrSame.org {s s' : Int → Int} {f : Int} (e : FrSame s s' f) (h : Hq s s') (hs : RI s) {q : Int × Int} (k : OrgAt s f q) : OrgAt s' f q := by
  have h0 := hs.1
  have h1 := hs.2.1
  have k0 := k.1
  have hu := hs.2.2.2.2.2 q.1 k.1.1 k.1.2
  unfold OrgAt at k ⊢
  rw [e 0 (by decide) (by decide), e 2 (by decide) (by decide), e 3 (by decide) (by decide), h.lo (k := 1) (by decide) (by decide) (by decide) (by decide), h.its ⟨k0.1, by omega⟩ (by decide), h.sl0 ⟨k0.1, by omega⟩ ⟨hu.1, by omega⟩, h.of ⟨hu.1, by omega⟩ (by decide) (by decide) (by decide), h.of ⟨hu.1, by omega⟩ (by decide) (by decide) (by decide)]
  exact k
theorem HdI.hq {s s' : Int → Int} {C C' : Int} (h : HdI s C) (q : Hq s s') (h7 : 0 ≤ s' 7 ∧ s' 7 ≤ 559) (h3 : 0 ≤ s' 3 ∧ s' 3 ≤ C') (hC : C ≤ C') (hC2 : C' ≤ 1000000000) : HdI s' C' := by
  obtain ⟨⟨a0, a1, a7, a5, ah, au⟩, b, c, d, ⟨e2, e2', e3, e3', e4, e4', e5⟩, m⟩ := h
  have q0 := q.lo (k := 0) (by decide) (by decide) (by decide) (by decide)
  have q1 := q.lo (k := 1) (by decide) (by decide) (by decide) (by decide)
  have q2 := q.lo (k := 2) (by decide) (by decide) (by decide) (by decide)
  have q4 := q.lo (k := 4) (by decide) (by decide) (by decide) (by decide)
  have q5 := q.lo (k := 5) (by decide) (by decide) (by decide) (by decide)
  have o : ∀ g w, 0 ≤ g → g < s 0 → 0 ≤ w → w < 10 → w ≠ 7 → w ≠ 8 → rOf s' g w = rOf s g w := fun g w x y z z' u v => q.of ⟨x, by omega⟩ ⟨z, z'⟩ u v
  have i : ∀ u w, 0 ≤ u → u < s 1 → 0 ≤ w → w < 4 → rIts s' u w = rIts s u w := fun u w x y z z' => q.its ⟨x, by omega⟩ ⟨z, z'⟩
  refine ⟨⟨by rw [q0]; exact a0, by rw [q1]; exact a1, h7, by rw [q5]; exact a5, fun g x y => ?_, fun u x y => ?_⟩, ⟨?_, fun g x y => ?_⟩, fun g x y => ?_, fun u x y => ?_, ?_, fun j x y => ?_⟩
  · rw [q0] at y
    rw [o g 5 x y (by decide) (by decide) (by decide) (by decide), o g 4 x y (by decide) (by decide) (by decide) (by decide)]
    exact ah g x y
  · rw [q1] at y
    rw [i u 0 x y (by decide) (by decide), i u 1 x y (by decide) (by decide), q0]
    exact au u x y
  · rw [o 0 5 (by decide) (by omega) (by decide) (by decide) (by decide) (by decide)]; exact b.1
  · rw [q0] at y
    rw [o g 5 (by omega) y (by decide) (by decide) (by decide) (by decide)]
    exact b.2 g x y
  · rw [q0] at y
    rw [o g 0 x y (by decide) (by decide) (by decide) (by decide), o g 1 x y (by decide) (by decide) (by decide) (by decide), o g 2 x y (by decide) (by decide) (by decide) (by decide), o g 3 x y (by decide) (by decide) (by decide) (by decide), o g 6 x y (by decide) (by decide) (by decide) (by decide), o g 9 x y (by decide) (by decide) (by decide) (by decide)]
    obtain ⟨r1, r2, r3, r4, r5, r6, r7⟩ := c g x y
    exact ⟨r1, r2, r3, r4, r5, by omega, r7⟩
  · rw [q1] at y
    rw [i u 2 x y (by decide) (by decide)]
    exact d u x y
  · rw [q2, q4]
    exact ⟨e2, e2', h3.1, h3.2, e4, by omega, hC2⟩
  · rw [q5] at y
    rw [q.hi (by omega) (by omega)]
    exact m j x y
/-- one frame changes -/
theorem FmI.step {s s' : Int → Int} {t t' : Int} {O : List (Int × Int)} {f : Int} (h : FmI s t O) (hs : RI s) (q : Hq s s') (h3 : s 3 ≤ s' 3) (ho : OthP s s' (fun x => x = f)) (ht : ∀ e, e ≠ f → mW s e → t' ≤ rFr s e 4)
  (a1 : inR7 s' f → ¬ rFr s' f 0 = 0 → (rFr s' f 0 = 1 ∨ rFr s' f 0 = 2) ∧ FrOK s' f) (a2 : inR7 s' f → rFr s' f 0 = 2 → KeptOK s' f) (a3 : inR7 s' f → rFr s' f 0 = 1 → WayOK s' t' f ∧ (rFr s' f 2 < 10 → (rFr s' f 2, rFr s' f 3) ∈ O))
  (a4 : inR7 s' f → rFr s' f 0 = 2 → ∀ e, e ≠ f → inR7 s e → rFr s e 0 = 2 → rFr s' f 2 = rFr s e 2 → rFr s' f 3 = rFr s e 3 → False)
  (a5 : ∃ og : Int → Int × Int, (∀ e, e ≠ f → hasO s e → og e ∈ O ∧ OrgAt s e (og e)) ∧ (∀ e e', e ≠ f → e' ≠ f → hasO s e → hasO s e' → og e = og e' → e = e') ∧ (hasO s' f → og f ∈ O ∧ OrgAt s' f (og f) ∧ ∀ e, e ≠ f → hasO s e → og e ≠ og f))
  (a6 : (irP (s' 7) (fun x => rFr s' x 0 = 1 ∧ rFr s' x 2 < 10)).length ≤ 40) : FmI s' t' O := by
  obtain ⟨h1, h2, hw, hu, _, _⟩ := h
  refine ⟨fun e x y => ?_, fun e x y => ?_, fun e x y => ?_, fun e e' x x' y y' z z' => ?_, ?_, a6⟩
  · by_cases c : e = f
    · subst c; exact a1 x y
    · obtain ⟨i, sm⟩ := ho e c
      have sm := sm (i.mp x)
      rw [sm 0 (by decide) (by decide)] at y ⊢
      have r := h1 e (i.mp x) y
      exact ⟨r.1, sm.fok q r.2⟩
  · by_cases c : e = f
    · subst c; exact a2 x y
    · obtain ⟨i, sm⟩ := ho e c
      have sm := sm (i.mp x)
      rw [sm 0 (by decide) (by decide)] at y
      exact sm.kok q hs (h1 e (i.mp x) (by omega)).2 (h2 e (i.mp x) y)
  · by_cases c : e = f
    · subst c; exact a3 x y
    · obtain ⟨i, sm⟩ := ho e c
      have sm := sm (i.mp x)
      rw [sm 0 (by decide) (by decide)] at y
      have r := hw e (i.mp x) y
      have r2 := ht e c ⟨i.mp x, y⟩
      unfold WayOK at r ⊢
      rw [sm 2 (by decide) (by decide), sm 3 (by decide) (by decide), sm 4 (by decide) (by decide), sm 5 (by decide) (by decide)]
      exact ⟨⟨r2, r.1.2.1, by omega⟩, r.2⟩
  · by_cases c : e = f
    · by_cases c' : e' = f
      · rw [c, c']
      · obtain ⟨i, sm⟩ := ho e' c'
        have sm := sm (i.mp x')
        subst c
        rw [sm 2 (by decide) (by decide)] at z
        rw [sm 3 (by decide) (by decide)] at z'
        rw [sm 0 (by decide) (by decide)] at y'
        exact (a4 x y e' c' (i.mp x') y' z z').elim
    · obtain ⟨i, sm⟩ := ho e c
      have sm := sm (i.mp x)
      rw [sm 2 (by decide) (by decide)] at z
      rw [sm 3 (by decide) (by decide)] at z'
      rw [sm 0 (by decide) (by decide)] at y
      by_cases c' : e' = f
      · subst c'
        exact (a4 x' y' e c (i.mp x) y z.symm z'.symm).elim
      · obtain ⟨i', sm'⟩ := ho e' c'
        have sm' := sm' (i'.mp x')
        rw [sm' 2 (by decide) (by decide)] at z
        rw [sm' 3 (by decide) (by decide)] at z'
        rw [sm' 0 (by decide) (by decide)] at y'
        exact hu e e' (i.mp x) (i'.mp x') y y' z z'
  · obtain ⟨og, b1, b2, b3⟩ := a5
    have tr : ∀ e, e ≠ f → hasO s' e → hasO s e ∧ FrSame s s' e := fun e c x => by
      obtain ⟨i, sm⟩ := ho e c
      have sm := sm (i.mp x.1)
      exact ⟨(sm.has i).mp x, sm⟩
    refine ⟨og, fun e x => ?_, fun e e' x x' y => ?_⟩
    · by_cases c : e = f
      · subst c; exact ⟨(b3 x).1, (b3 x).2.1⟩
      · obtain ⟨r, sm⟩ := tr e c x
        exact ⟨(b1 e c r).1, sm.org q hs (b1 e c r).2⟩
    · by_cases c : e = f
      · by_cases c' : e' = f
        · rw [c, c']
        · subst c
          exact absurd y.symm ((b3 x).2.2 e' c' (tr e' c' x').1)
      · by_cases c' : e' = f
        · subst c'
          exact absurd y ((b3 x').2.2 e c (tr e c x).1)
        · exact b2 e e' c c' (tr e c x).1 (tr e' c' x').1 y
/-- fewer units' frames on their way -/
theorem irP_fewer {s s' : Int → Int} {f : Int} (ho : OthP s s' (fun x => x = f)) (hf : inR7 s' f → ¬ (rFr s' f 0 = 1 ∧ rFr s' f 2 < 10)) : (irP (s' 7) (fun x => rFr s' x 0 = 1 ∧ rFr s' x 2 < 10)).length ≤ (irP (s 7) (fun x => rFr s x 0 = 1 ∧ rFr s x 2 < 10)).length := by
  refine len_le_of irP_nodup (fun e he => ?_)
  obtain ⟨a, b, c⟩ := irP_mem.mp he
  by_cases k : e = f
  · subst k; exact absurd ⟨b, c⟩ (hf a)
  · obtain ⟨i, sm⟩ := ho e k
    have sm := sm (i.mp a)
    rw [sm 0 (by decide) (by decide)] at b
    rw [sm 2 (by decide) (by decide)] at c
    exact irP_mem.mpr ⟨i.mp a, b, c⟩
/-- the class's cells stay, but for counts and what is built -/
def Sq (S S' : Nat → Int → Int) : Prop := ∀ m k, ¬ (6 ≤ m ∧ m ≤ 10) → m ≠ 3 → (∀ g : Nat, g < 5 → ¬ (m = 11 + 7 * g ∧ (k = 6 ∨ k = 7)) ∧ ¬ (m = 13 + 7 * g ∧ k = 1)) → S' m k = S m k
theorem Sq.sf {S S' : Nat → Int → Int} (h : Sq S S') {n : Nat} (hn : (∃ g : Nat, g < 5 ∧ n = 15 + 7 * g) ∨ 56 ≤ n) : SF S' n = SF S n := by
  have e : ∀ j, j < 3 → ∀ k, S' (n + j) k = S (n + j) k := fun j hj k => by
    rcases hn with ⟨x, hx, hn⟩ | hn
    · exact h _ _ (by omega) (by omega) (fun g hg => ⟨fun c => by omega, fun c => by omega⟩)
    · exact h _ _ (by omega) (by omega) (fun g hg => ⟨fun c => by omega, fun c => by omega⟩)
  funext k
  unfold SF
  rw [e 1 (by omega), e 2 (by omega), show S' n k = S n k from e 0 (by omega) k]
theorem Rel.hq {s s' : Int → Int} {S S' : Nat → Int → Int} {R R' : Nat → List FV} (h : Rel s S R) (hs : RI s) (q : Hq s s') (p : Sq S S') (hc : ∀ g, 0 ≤ g → g < s 0 → rOf s' g 7 = cH S' g 6 ∧ rOf s' g 8 = cH S' g 7) (hK : ∀ g, 0 ≤ g → g < s 0 → RelK s' S' R' g) (hW : RelW s' S' R') : Rel s' S' R' := by
  obtain ⟨⟨t0, t1, t2, t4, t5, t6⟩, hh, hu, ho, _⟩ := h
  have h00 := hs.1
  have h01 := hs.2.1
  have h05 := hs.2.2.2.1
  have q0 := q.lo (k := 0) (by decide) (by decide) (by decide) (by decide)
  have q1 := q.lo (k := 1) (by decide) (by decide) (by decide) (by decide)
  have q2 := q.lo (k := 2) (by decide) (by decide) (by decide) (by decide)
  have q4 := q.lo (k := 4) (by decide) (by decide) (by decide) (by decide)
  have q5 := q.lo (k := 5) (by decide) (by decide) (by decide) (by decide)
  have q6 := q.lo (k := 6) (by decide) (by decide) (by decide) (by decide)
  have pT : ∀ k, cT S' k = cT S k := fun k => p 0 k (by omega) (by omega) (fun g hg => by omega)
  have pH : ∀ g k : Int, 0 ≤ g → g < 5 → k ≠ 6 → k ≠ 7 → cH S' g k = cH S g k := fun g k a b c d => p _ k (by omega) (by omega) (fun x hx => by omega)
  have pS : ∀ g k : Int, 0 ≤ g → g < 5 → cSe S' g k = cSe S g k := fun g k a b => p _ k (by omega) (by omega) (fun x hx => by omega)
  have pU : ∀ u k : Int, 0 ≤ u → cU S' u k = cU S u k := fun u k a => p _ k (by omega) (by omega) (fun x hx => by omega)
  refine ⟨⟨by rw [q0, pT]; exact t0, by rw [q1, pT]; exact t1, by rw [q2, pT]; exact t2, by rw [q4, pT]; exact t4, by unfold cKept at t5 ⊢; rw [q5, pT]; exact t5, by rw [q6, pT]; exact t6⟩, fun g a b => ?_, fun u a b k c d => ?_, fun i a b => ?_, hW⟩
  · rw [q0] at b
    obtain ⟨r1, r2, r3, r4, r5, r6, r7, r8, r9⟩ := (hh g a b).1
    have g5 : 0 ≤ g ∧ g < 5 := ⟨a, by omega⟩
    refine ⟨⟨fun k x y => ?_, ?_, ?_, ?_, (hc g a b).1, (hc g a b).2, ?_, ?_, fun u x y => ?_⟩, hK g a b⟩
    · rw [q.of g5 ⟨x, by omega⟩ (by omega) (by omega), pS g k a g5.2]; exact r1 k x y
    · rw [q.of g5 (by decide) (by decide) (by decide), pH g 3 a g5.2 (by decide) (by decide)]; exact r2
    · rw [q.dep hs ⟨a, b⟩, pH g 4 a g5.2 (by decide) (by decide)]; exact r3
    · rw [q.of g5 (by decide) (by decide) (by decide), pH g 5 a g5.2 (by decide) (by decide)]; exact r4
    · rw [q.of g5 (by decide) (by decide) (by decide), q.of g5 (by decide) (by decide) (by decide), pH g 8 a g5.2 (by decide) (by decide)]; exact r7
    · rw [q.of g5 (by decide) (by decide) (by decide), pH g 8 a g5.2 (by decide) (by decide)]; exact r8
    · rw [p.sf (Or.inl ⟨g.toNat, by omega, rfl⟩), q.hi (by omega) (by omega), q.hi (by omega) (by omega), q.hi (by omega) (by omega)]
      exact r9 u x y
  · rw [q1] at b
    rw [q.its ⟨a, by omega⟩ ⟨c, d⟩, pU u k a]
    exact hu u a b k c d
  · rw [q5] at b
    have r := ho i a b
    unfold RelO at r ⊢
    rw [q5, pT, p.sf (Or.inr (by omega)), q.hi (by omega) (by omega), q.hi (by omega) (by omega), q.hi (by omega) (by omega), q.hi (by omega) (by omega), q.hi (by omega) (by omega)]
    obtain ⟨r1, r2, r3, r4, r5, r6⟩ := r
    refine ⟨r1, r2, r3, r4, r5, fun u x y z => ?_⟩
    rw [q.hi (by omega) (by omega), q.hi (by omega) (by omega)]
    exact r6 u x y z

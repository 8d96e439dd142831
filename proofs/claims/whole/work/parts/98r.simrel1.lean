/-! THE SIMULATION: a release, its first half -/
theorem Sim.sx {s : Int → Int} {t : Int} {O : List (Int × Int)} {C : Int} {S S' : Nat → Int → Int} {R : Nat → List FV} (h : Sim s t O C S R) (x : ∀ m, ¬ (6 ≤ m ∧ m ≤ 10) → S' m = S m) : Sim s t O C S' R := by
  obtain ⟨hr, hd, hf, hk⟩ := h
  refine ⟨hr.hq hd.1 Hq.refl (fun m k a _ _ => by rw [x m a]) (fun g a b => ?_) (fun g a b => ?_) ?_, hd, hf, hk⟩
  · obtain ⟨_, _, _, _, r5, r6, _⟩ := (hr.2.1 g a b).1
    unfold cH
    rw [x _ (by omega)]
    exact ⟨r5, r6⟩
  · refine RelK.keep (D := fun _ => False) (hr.2.1 g a b).2 (fun f _ => ⟨Iff.rfl, fun _ w _ _ => rfl⟩) (fun f e => e.elim) ?_ rfl
    unfold cZ; rw [x _ (by omega)]
  · obtain ⟨a, b⟩ := RelW.iff.mp hr.2.2.2.2
    refine RelW.iff.mpr ⟨?_, b⟩
    rw [← a]
    unfold cW; rw [x 3 (by omega)]
/-- the head of a release: one more slot released at g, the last one sl, what is held -/
def He (s b : Int → Int) (g sl : Int) : Prop := (∀ k, 0 ≤ k → k < 448 → k ≠ 8 + 10 * g + 6 → k ≠ 8 + 10 * g + 9 → (k < 98 + 30 * g ∨ 98 + 30 * g + 30 ≤ k) → b k = s k) ∧ rOf b g 6 = rOf s g 6 + 1 ∧ rOf b g 9 = sl
theorem He.lo {s b : Int → Int} {g sl : Int} (h : He s b g sl) (hg : 0 ≤ g ∧ g < 5) {k : Int} (h0 : 0 ≤ k) (h1 : k < 8) : b k = s k := h.1 k h0 (by omega) (by omega) (by omega) (by omega)
theorem He.of {s b : Int → Int} {g sl : Int} (h : He s b g sl) (hg : 0 ≤ g ∧ g < 5) {x w : Int} (hx : 0 ≤ x ∧ x < 5) (hw : 0 ≤ w ∧ w < 10) (h6 : x = g → w ≠ 6 ∧ w ≠ 9) : rOf b x w = rOf s x w := h.1 _ (by omega) (by omega) (by omega) (by omega) (by omega)
theorem He.its {s b : Int → Int} {g sl : Int} (h : He s b g sl) (hg : 0 ≤ g ∧ g < 5) {u w : Int} (hu : 0 ≤ u ∧ u < 10) (hw : 0 ≤ w ∧ w < 4) : rIts b u w = rIts s u w := h.1 _ (by omega) (by omega) (by omega) (by omega) (by omega)
theorem He.dep {s b : Int → Int} {g sl : Int} (h : He s b g sl) (hg : 0 ≤ g ∧ g < 5) (hs : RI s) {x : Int} (hx : 0 ≤ x ∧ x < s 0) : rDepth b x = rDepth s x := by
  have h0 := hs.1
  have key : ∀ (n : Nat) (x : Int), x < s 0 → rDep b n x = rDep s n x := by
    intro n
    induction n with
    | zero => intro x _; rfl
    | succ n ih =>
      intro x hx
      rw [rDep, rDep]
      by_cases q : x < 0
      · rw [if_pos q, if_pos q]
      · have hh := hs.2.2.2.2.1 x (by omega) hx
        rw [if_neg q, if_neg q, h.of hg ⟨by omega, by omega⟩ (by decide) (fun _ => ⟨by decide, by decide⟩), ih _ (by omega)]
  have hh := hs.2.2.2.2.1 x hx.1 hx.2
  unfold rDepth
  rw [h.of hg ⟨hx.1, by omega⟩ (by decide) (fun _ => ⟨by decide, by decide⟩)]
  exact key 6 _ (by omega)
theorem He.per {s b : Int → Int} {g sl : Int} (h : He s b g sl) (hg : 0 ≤ g ∧ g < 5) {c : Int} (hc : 0 ≤ c ∧ c < 15) : rPer b c = rPer s c := by
  unfold rPer
  by_cases q : c < 10
  · rw [if_pos q, if_pos q, h.its hg ⟨hc.1, q⟩ (by decide)]
  · rw [if_neg q, if_neg q, h.of hg ⟨by omega, by omega⟩ (by decide) (fun _ => ⟨by decide, by decide⟩)]
theorem He.prt {s b : Int → Int} {g sl : Int} (h : He s b g sl) (hg : 0 ≤ g ∧ g < 5) {c : Int} (hc : 0 ≤ c ∧ c < 15) : par b c = par s c := by
  unfold par
  by_cases q : c < 10
  · rw [if_pos q, if_pos q, h.its hg ⟨hc.1, q⟩ (by decide)]
  · rw [if_neg q, if_neg q, h.of hg ⟨by omega, by omega⟩ (by decide) (fun _ => ⟨by decide, by decide⟩)]
theorem He.sl0 {s b : Int → Int} {g sl : Int} (h : He s b g sl) (hg : 0 ≤ g ∧ g < 5) {x c st : Int} (hc : 0 ≤ c ∧ c < 15) (hx : 0 ≤ x ∧ x < 5) : rSl0 b x c st = rSl0 s x c st := by
  unfold rSl0
  rw [h.per hg hc, h.of hg hx (by decide) (fun _ => ⟨by decide, by decide⟩)]
theorem He.fok {s b : Int → Int} {g sl f : Int} (h : He s b g sl) (hg : 0 ≤ g ∧ g < 5) (e : FrSame s b f) (k : FrOK s f) : FrOK b f := by
  obtain ⟨x, y, z⟩ := k
  unfold FrOK
  rw [e 1 (by decide) (by decide), e 2 (by decide) (by decide), e 3 (by decide) (by decide), h.prt hg x.r15]
  refine ⟨?_, y, z⟩
  unfold kidOK
  rw [h.lo hg (k := 0) (by decide) (by decide), h.lo hg (k := 1) (by decide) (by decide)]
  exact x
/-- the origins, and one that no frame has now -/
def OrgS (s : Int → Int) (O : List (Int × Int)) (q : Int × Int) : Prop := q ∈ O ∧ (0 ≤ q.1 ∧ q.1 < s 1) ∧ (0 < rOf s (rIts s q.1 0) 6 ∧ rSl0 s (rIts s q.1 0) q.1 q.2 ≤ rOf s (rIts s q.1 0) 9) ∧ ∃ og : Int → Int × Int, (∀ f, hasO s f → og f ∈ O ∧ OrgAt s f (og f)) ∧ (∀ f e, hasO s f → hasO s e → og f = og e → f = e) ∧ ∀ f, hasO s f → og f ≠ q
theorem HdI.he {s b : Int → Int} {g sl C : Int} (h : HdI s C) (q : He s b g sl) (hg : 0 ≤ g ∧ g < s 0) (hsl : 0 ≤ sl) (hC : C + 1 ≤ 1000000000) : HdI b (C + 1) := by
  obtain ⟨⟨a0, a1, a7, a5, ah, au⟩, b', c, d, ⟨e2, e2', e3, e3', e4, e4', e5⟩, m⟩ := h
  have g5 : 0 ≤ g ∧ g < 5 := ⟨hg.1, by omega⟩
  have lo : ∀ k : Int, 0 ≤ k → k < 8 → b k = s k := fun k x y => q.lo g5 x y
  have o : ∀ x w, 0 ≤ x → x < s 0 → 0 ≤ w → w < 10 → w ≠ 6 → w ≠ 9 → rOf b x w = rOf s x w := fun x w p1 p2 p3 p4 p5 p6 => q.of g5 ⟨p1, by omega⟩ ⟨p3, p4⟩ (fun _ => ⟨p5, p6⟩)
  have i : ∀ u w, 0 ≤ u → u < s 1 → 0 ≤ w → w < 4 → rIts b u w = rIts s u w := fun u w x y z z' => q.its g5 ⟨x, by omega⟩ ⟨z, z'⟩
  have q0 := lo 0 (by decide) (by decide)
  have q1 := lo 1 (by decide) (by decide)
  have q2 := lo 2 (by decide) (by decide)
  have q3 := lo 3 (by decide) (by decide)
  have q4 := lo 4 (by decide) (by decide)
  have q5 := lo 5 (by decide) (by decide)
  have q7 := lo 7 (by decide) (by decide)
  refine ⟨⟨by rw [q0]; exact a0, by rw [q1]; exact a1, by rw [q7]; exact a7, by rw [q5]; exact a5, fun x p1 p2 => ?_, fun u x y => ?_⟩, ⟨?_, fun x p1 p2 => ?_⟩, fun x p1 p2 => ?_, fun u x y => ?_, ?_, fun j x y => ?_⟩
  · rw [q0] at p2
    rw [o x 5 p1 p2 (by decide) (by decide) (by decide) (by decide), o x 4 p1 p2 (by decide) (by decide) (by decide) (by decide)]
    exact ah x p1 p2
  · rw [q1] at y
    rw [i u 0 x y (by decide) (by decide), i u 1 x y (by decide) (by decide), q0]
    exact au u x y
  · rw [o 0 5 (by decide) (by omega) (by decide) (by decide) (by decide) (by decide)]; exact b'.1
  · rw [q0] at p2
    rw [o x 5 (by omega) p2 (by decide) (by decide) (by decide) (by decide)]
    exact b'.2 x p1 p2
  · rw [q0] at p2
    rw [o x 0 p1 p2 (by decide) (by decide) (by decide) (by decide), o x 1 p1 p2 (by decide) (by decide) (by decide) (by decide), o x 2 p1 p2 (by decide) (by decide) (by decide) (by decide), o x 3 p1 p2 (by decide) (by decide) (by decide) (by decide)]
    obtain ⟨r1, r2, r3, r4, r5, r6, r7⟩ := c x p1 p2
    refine ⟨r1, r2, r3, r4, ?_⟩
    by_cases z : x = g
    · rw [z, q.2.1, q.2.2]
      rw [z] at r5 r6
      exact ⟨by omega, by omega, fun _ => hsl⟩
    · rw [q.of g5 ⟨p1, by omega⟩ (by decide) (fun y => absurd y z), q.of g5 ⟨p1, by omega⟩ (by decide) (fun y => absurd y z)]
      exact ⟨r5, by omega, r7⟩
  · rw [q1] at y
    rw [i u 2 x y (by decide) (by decide)]
    exact d u x y
  · rw [q2, q3, q4]
    exact ⟨e2, e2', e3, by omega, e4, by omega, hC⟩
  · rw [q5] at y
    rw [q.1 _ (by omega) (by omega) (by omega) (by omega) (by omega)]
    exact m j x y
/-- the frames of the slot are gone -/
theorem FmI.cut {s b : Int → Int} {g sl t C : Int} {O : List (Int × Int)} (h : FmI s t O) (hH : HdI s C) (q : He s b g sl) (hg : 0 ≤ g ∧ g < s 0) (ho : OthP s b (fun f => inR7 s f ∧ rIn s f g sl)) (h7 : b 7 = s 7) (hz : ∀ f, inR7 s f → rIn s f g sl → rFr b f 0 = 0) (hlast : 0 < rOf s g 6 → rOf s g 9 < sl) (hmin : ∀ f, inR7 s f → isK s g f → ¬ rFr s f 4 = sl → sl < rFr s f 4) (hex : ∃ f, inR7 s f ∧ rIn s f g sl) : FmI b t O ∧ ∃ p, OrgS b O p := by
  have hs := hH.1
  have g5 : 0 ≤ g ∧ g < 5 := ⟨hg.1, by have := hs.1; omega⟩
  obtain ⟨h1, h2, hw, hu, ⟨og, o1, o2⟩, h40⟩ := h
  have i7 : ∀ f, inR7 b f ↔ inR7 s f := fun f => by unfold inR7; rw [h7]
  have nd : ∀ f, inR7 b f → ¬ rFr b f 0 = 0 → ¬ (inR7 s f ∧ rIn s f g sl) := fun f _ z y => z (hz f y.1 y.2)
  have sm : ∀ f, inR7 b f → ¬ rFr b f 0 = 0 → FrSame s b f := fun f x z => (ho f (nd f x z)).2 ((i7 f).mp x)
  have hasB : ∀ f, hasO b f → hasO s f ∧ FrSame s b f := fun f x => by
    have z : ¬ rFr b f 0 = 0 := by rcases x.2 with y | y <;> omega
    have e := sm f x.1 z
    exact ⟨(e.has (i7 f)).mp x, e⟩
  have q1 : b 1 = s 1 := q.lo g5 (by decide) (by decide)
  have ob : ∀ p : Int × Int, (0 ≤ p.1 ∧ p.1 < s 1) → (0 < rOf s (rIts s p.1 0) 6 ∧ rSl0 s (rIts s p.1 0) p.1 p.2 ≤ rOf s (rIts s p.1 0) 9) → (0 < rOf b (rIts b p.1 0) 6 ∧ rSl0 b (rIts b p.1 0) p.1 p.2 ≤ rOf b (rIts b p.1 0) 9) := fun p hp k => by
    have hu1 := hs.2.2.2.2.2 p.1 hp.1 hp.2
    have h01 := hs.2.1
    have h00 := hs.1
    rw [q.its g5 ⟨hp.1, by omega⟩ (by decide), q.sl0 g5 ⟨hp.1, by omega⟩ ⟨hu1.1, by omega⟩]
    by_cases z : rIts s p.1 0 = g
    · rw [z] at k ⊢
      rw [q.2.1, q.2.2]
      have := hlast k.1
      omega
    · rw [q.of g5 ⟨hu1.1, by omega⟩ (by decide) (fun y => absurd y z), q.of g5 ⟨hu1.1, by omega⟩ (by decide) (fun y => absurd y z)]
      exact k
  have oat : ∀ f p, FrSame s b f → OrgAt s f p → OrgAt b f p := fun f p e k => by
    refine ⟨by rw [q1]; exact k.1, ?_⟩
    rw [e 0 (by decide) (by decide), e 2 (by decide) (by decide), e 3 (by decide) (by decide)]
    rcases k.2 with x | x
    · exact Or.inl x
    · exact Or.inr (ob p k.1 x)
  refine ⟨⟨fun f x z => ?_, fun f x z => ?_, fun f x z => ?_, fun f e x x' z z' w w' => ?_, ⟨og, fun f x => ?_, fun f e x y z => o2 f e (hasB f x).1 (hasB e y).1 z⟩, ?_⟩, ?_⟩
  · have e := sm f x z
    have r := h1 f ((i7 f).mp x) (by rw [← e 0 (by decide) (by decide)]; exact z)
    rw [e 0 (by decide) (by decide)]
    exact ⟨r.1, q.fok g5 e r.2⟩
  · have z0 : ¬ rFr b f 0 = 0 := by omega
    have e := sm f x z0
    rw [e 0 (by decide) (by decide)] at z
    have r := h2 f ((i7 f).mp x) z
    have k := (h1 f ((i7 f).mp x) (by omega)).2
    have hb := k.hub hs
    have h00 := hs.1
    unfold KeptOK at r ⊢
    rw [e 1 (by decide) (by decide), e 2 (by decide) (by decide), e 3 (by decide) (by decide), e 4 (by decide) (by decide), e 5 (by decide) (by decide), q.sl0 g5 k.1.r15 ⟨hb.1, by omega⟩, q.lo g5 (k := 2) (by decide) (by decide)]
    refine ⟨r.1, fun y => ?_, r.2.2⟩
    by_cases w : rFr s f 1 = g
    · rw [w, q.2.2]
      refine hmin f ((i7 f).mp x) ⟨z, w⟩ (fun v => ?_)
      exact nd f x z0 ⟨(i7 f).mp x, z, w, v⟩
    · rw [q.of g5 ⟨hb.1, by omega⟩ (by decide) (fun v => absurd v w)] at y
      rw [q.of g5 ⟨hb.1, by omega⟩ (by decide) (fun v => absurd v w)]
      exact r.2.1 y
  · have e := sm f x (by omega)
    rw [e 0 (by decide) (by decide)] at z
    have r := hw f ((i7 f).mp x) z
    unfold WayOK at r ⊢
    rw [e 2 (by decide) (by decide), e 3 (by decide) (by decide), e 4 (by decide) (by decide), e 5 (by decide) (by decide), q.lo g5 (k := 3) (by decide) (by decide)]
    exact r
  · have e1 := sm f x (by omega)
    have e2 := sm e x' (by omega)
    rw [e1 0 (by decide) (by decide)] at z
    rw [e2 0 (by decide) (by decide)] at z'
    rw [e1 2 (by decide) (by decide), e2 2 (by decide) (by decide)] at w
    rw [e1 3 (by decide) (by decide), e2 3 (by decide) (by decide)] at w'
    exact hu f e ((i7 f).mp x) ((i7 e).mp x') z z' w w'
  · obtain ⟨y, e⟩ := hasB f x
    exact ⟨(o1 f y).1, oat f _ e (o1 f y).2⟩
  · refine Nat.le_trans (len_le_of irP_nodup (fun f hf => ?_)) h40
    obtain ⟨x, y, z⟩ := irP_mem.mp hf
    have e := sm f x (by omega)
    rw [e 0 (by decide) (by decide)] at y
    rw [e 2 (by decide) (by decide)] at z
    exact irP_mem.mpr ⟨(i7 f).mp x, y, z⟩
  · obtain ⟨f, x, y⟩ := hex
    have hf : hasO s f := ⟨x, Or.inl y.1⟩
    have r := o1 f hf
    have k := (h1 f x (by rw [y.1]; decide)).2
    have kk := h2 f x y.1
    refine ⟨og f, r.1, by rw [q1]; exact r.2.1, ?_, og, fun e z => ⟨(o1 e (hasB e z).1).1, oat e _ (hasB e z).2 (o1 e (hasB e z).1).2⟩, fun e e' z z' w => o2 e e' (hasB e z).1 (hasB e' z').1 w, fun e z w => ?_⟩
    · rcases r.2.2 with ⟨_, w2, w3⟩ | w
      · have h01 := hs.2.1
        have r1 := r.2.1
        have pc : rIts s (og f).1 0 = g := by
          have := k.2.1.1
          rw [w2, y.2.1] at this
          unfold par at this
          rw [if_pos (by omega)] at this
          exact this.symm
        have h6 := (hH.2.2.1 g hg.1 hg.2).2.2.2.2.1
        rw [q.its g5 ⟨r1.1, by omega⟩ (by decide), pc, q.sl0 g5 ⟨r1.1, by omega⟩ g5, q.2.1, q.2.2]
        have := kk.1
        rw [y.2.1, w2, w3, y.2.2] at this
        omega
      · exact ob _ r.2.1 w
    · have := o2 e f (hasB e z).1 hf w
      rw [this] at z
      have := hz f x y
      rcases z.2 with v | v <;> omega

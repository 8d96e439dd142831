/-! THE SIMULATION: what a call changes -/
theorem FmI.gen {s s' : Int → Int} {t : Int} {O : List (Int × Int)} (h : FmI s t O) (hs : RI s) (e3 : s' 3 = s 3) (e7 : s' 7 = s 7) (e0 : s 0 ≤ s' 0) (e1 : s 1 ≤ s' 1) (eh : ∀ g w, 0 ≤ g → g < s 0 → (w = 5 ∨ w = 6 ∨ w = 9) → rOf s' g w = rOf s g w) (eu : ∀ u, 0 ≤ u → u < s 1 → rIts s' u 0 = rIts s u 0) (ef : ∀ k, 448 ≤ k → k < 15568 → s' k = s k) (h2t : s 2 ≤ s' 2) (es : ∀ f, inR7 s f → rFr s f 0 = 2 → FrOK s f → rSl0 s' (rFr s f 1) (rFr s f 2) (rFr s f 3) = rSl0 s (rFr s f 1) (rFr s f 2) (rFr s f 3)) (eo : ∀ u st, 0 ≤ u → u < s 1 → 0 < rOf s (rIts s u 0) 6 → rSl0 s' (rIts s u 0) u st = rSl0 s (rIts s u 0) u st) : FmI s' t O := by
  have h00 := hs.1
  have h01 := hs.2.1
  have h07 := hs.2.2.1
  have i7 : ∀ f, inR7 s' f ↔ inR7 s f := fun f => by unfold inR7; rw [e7]
  have fr : ∀ f w, inR7 s f → (0 ≤ w ∧ w < 27) → rFr s' f w = rFr s f w := fun f w a b => by
    have a1 := a.1
    have a2 := a.2
    exact ef _ (by omega) (by omega)
  have kd : ∀ c, kidOK s c → kidOK s' c := fun c k => by
    rcases k with ⟨a, b, c⟩ | ⟨a, b, c⟩
    · exact Or.inl ⟨a, b, by omega⟩
    · exact Or.inr ⟨a, b, by omega⟩
  have prt : ∀ c, kidOK s c → par s' c = par s c := fun c k => by
    unfold par
    rcases k with ⟨a, b, c⟩ | ⟨a, b, c⟩
    · rw [if_pos a, if_pos a]; exact eu _ b c
    · rw [if_neg (by omega), if_neg (by omega)]; exact eh _ 5 (by omega) c (Or.inl rfl)
  have has : ∀ f, hasO s' f ↔ hasO s f := fun f => by
    unfold hasO
    rw [i7]
    constructor
    · rintro ⟨a, b⟩; rw [fr f 0 a (by decide), fr f 2 a (by decide)] at b; exact ⟨a, b⟩
    · rintro ⟨a, b⟩; rw [← fr f 0 a (by decide), ← fr f 2 a (by decide)] at b; exact ⟨a, b⟩
  obtain ⟨h1, h2, h3, h4, ⟨og, o1, o2⟩, h40⟩ := h
  refine ⟨fun f x z => ?_, fun f x z => ?_, fun f x z => ?_, fun f g x y z w p q => ?_, ⟨og, fun f x => ?_, fun f g x y z => o2 f g ((has f).mp x) ((has g).mp y) z⟩, ?_⟩
  · have x' := (i7 f).mp x
    rw [fr f 0 x' (by decide)] at z ⊢
    have r := h1 f x' z
    refine ⟨r.1, ?_⟩
    unfold FrOK
    rw [fr f 1 x' (by decide), fr f 2 x' (by decide), fr f 3 x' (by decide), prt _ r.2.1]
    exact ⟨kd _ r.2.1, r.2.2⟩
  · have x' := (i7 f).mp x
    rw [fr f 0 x' (by decide)] at z
    have r := h2 f x' z
    have k := (h1 f x' (by omega)).2
    have hb := k.hub hs
    unfold KeptOK
    rw [fr f 1 x' (by decide), fr f 2 x' (by decide), fr f 3 x' (by decide), fr f 4 x' (by decide), fr f 5 x' (by decide), es f x' z k, eh _ 6 hb.1 hb.2 (by decide), eh _ 9 hb.1 hb.2 (by decide)]
    exact ⟨r.1, r.2.1, r.2.2.1, by have := r.2.2.2; omega⟩
  · have x' := (i7 f).mp x
    rw [fr f 0 x' (by decide)] at z
    unfold WayOK
    rw [fr f 2 x' (by decide), fr f 3 x' (by decide), fr f 4 x' (by decide), fr f 5 x' (by decide), e3]
    exact h3 f x' z
  · rw [fr f 0 ((i7 f).mp x) (by decide)] at z
    rw [fr g 0 ((i7 g).mp y) (by decide)] at w
    rw [fr f 2 ((i7 f).mp x) (by decide), fr g 2 ((i7 g).mp y) (by decide)] at p
    rw [fr f 3 ((i7 f).mp x) (by decide), fr g 3 ((i7 g).mp y) (by decide)] at q
    exact h4 f g ((i7 f).mp x) ((i7 g).mp y) z w p q
  · have r := o1 f ((has f).mp x)
    have x' := (i7 f).mp x.1
    refine ⟨r.1, ?_⟩
    have r2 := r.2
    have r1 := r2.1
    have hu := hs.2.2.2.2.2 (og f).1 r1.1 r1.2
    refine ⟨⟨r1.1, by omega⟩, ?_⟩
    rw [fr f 0 x' (by decide), fr f 2 x' (by decide), fr f 3 x' (by decide), eu _ r1.1 r1.2, eh _ 6 hu.1 hu.2.1 (by decide), eh _ 9 hu.1 hu.2.1 (by decide)]
    rcases r2.2 with z | z
    · exact Or.inl z
    · exact Or.inr ⟨z.1, by rw [eo _ _ r1.1 r1.2 z.1]; exact z.2⟩
  · refine Nat.le_trans (len_le_of irP_nodup (fun f hf => ?_)) h40
    obtain ⟨x, y, z⟩ := irP_mem.mp hf
    rw [fr f 0 ((i7 f).mp x) (by decide)] at y
    rw [fr f 2 ((i7 f).mp x) (by decide)] at z
    exact irP_mem.mpr ⟨(i7 f).mp x, y, z⟩
theorem rDep_congr {s s' : Int → Int} {n0 : Int} (e : ∀ x, 0 ≤ x → x < n0 → rOf s' x 5 = rOf s x 5) (lt : ∀ x, 0 ≤ x → x < n0 → rOf s x 5 < n0) : ∀ (n : Nat) (x : Int), x < n0 → rDep s' n x = rDep s n x
  | 0, _, _ => rfl
  | n + 1, x, hx => by
    rw [rDep, rDep]
    by_cases q : x < 0
    · rw [if_pos q, if_pos q]
    · rw [if_neg q, if_neg q, e x (by omega) hx, rDep_congr e lt n _ (lt x (by omega) hx)]
theorem rDepth_congr {s s' : Int → Int} (hs : RI s) (e : ∀ x, 0 ≤ x → x < s 0 → rOf s' x 5 = rOf s x 5) {g : Int} (hg : 0 ≤ g ∧ g < s 0) : rDepth s' g = rDepth s g := by
  have lt : ∀ x, 0 ≤ x → x < s 0 → rOf s x 5 < s 0 := fun x a b => by have := (hs.2.2.2.2.1 x a b).2.1; omega
  unfold rDepth
  rw [e g hg.1 hg.2]
  exact rDep_congr e lt 6 _ (lt g hg.1 hg.2)
theorem RelO.to {s s' : Int → Int} {S S' : Nat → Int → Int} {i : Int} (h : RelO s S i) (hi : 0 ≤ i ∧ i < s 5) (h5 : s 5 ≤ 8) (e5 : s' 5 = s 5) (e : ∀ k, 248 ≤ k → k < 448 → s' k = s k) (c7 : cT S' 7 = cT S 7) (sf : ∀ j : Nat, j < 8 → SF S' (56 + 3 * j) = SF S (56 + 3 * j)) : RelO s' S' i := by
  have m := Int.emod_lt_of_pos (cT S 7 - 1 - i) (show (0 : Int) < 8 by decide)
  obtain ⟨o1, o2, o3, o4, o5, o6⟩ := h
  unfold RelO
  rw [e5, c7, sf _ (by omega), e _ (by omega) (by omega), e _ (by omega) (by omega), e _ (by omega) (by omega), e _ (by omega) (by omega), e _ (by omega) (by omega)]
  refine ⟨o1, o2, o3, o4, o5, fun u x y z => ?_⟩
  rw [e _ (by omega) (by omega), e _ (by omega) (by omega)]
  exact o6 u x y z
theorem OthP.of {s s' : Int → Int} (e7 : s' 7 = s 7) (h7 : s 7 ≤ 559) (ef : ∀ k, 448 ≤ k → k < 15568 → s' k = s k) : OthP s s' (fun _ => False) := fun f _ => ⟨by unfold inR7; rw [e7], fun x w a b => ef _ (by have := x.1; omega) (by have := x.1; have := x.2; omega)⟩
/-- the head of a hub, the class's own -/
theorem RelH.to {s s' : Int → Int} {S S' : Nat → Int → Int} {g : Int} (h : RelH s S g) (e : ∀ w, 5 ≤ w → w < 10 → rOf s' g w = rOf s g w) (es : ∀ k, 0 ≤ k → k < 5 → rOf s' g k = cSe S' g k) (eh : ∀ k, 98 + 30 * g ≤ k → k < 98 + 30 * g + 30 → s' k = s k) (ed : rDepth s' g = rDepth s g) (cH' : ∀ k : Int, 3 ≤ k → k ≤ 8 → cH S' g k = cH S g k) (sf : SF S' (15 + 7 * g.toNat) = SF S (15 + 7 * g.toNat)) : RelH s' S' g := by
  obtain ⟨r1, r2, r3, r4, r5, r6, r7, r8, r9⟩ := h
  refine ⟨es, ?_, ?_, ?_, ?_, ?_, ?_, ?_, fun u x y => ?_⟩
  · rw [e 5 (by decide) (by decide), cH' 3 (by decide) (by decide)]; exact r2
  · rw [ed, cH' 4 (by decide) (by decide)]; exact r3
  · rw [e 6 (by decide) (by decide), cH' 5 (by decide) (by decide)]; exact r4
  · rw [e 7 (by decide) (by decide), cH' 6 (by decide) (by decide)]; exact r5
  · rw [e 8 (by decide) (by decide), cH' 7 (by decide) (by decide)]; exact r6
  · rw [e 6 (by decide) (by decide), e 9 (by decide) (by decide), cH' 8 (by decide) (by decide)]; exact r7
  · rw [e 6 (by decide) (by decide), cH' 8 (by decide) (by decide)]; exact r8
  · rw [sf, eh _ (by omega) (by omega), eh _ (by omega) (by omega), eh _ (by omega) (by omega)]
    exact r9 u x y
/-- rows that are equal where a row has cells -/
theorem Sim.eqR {s : Int → Int} {t : Int} {O : List (Int × Int)} {C : Int} {S : Nat → Int → Int} {R : Nat → List FV} (h : Sim s t O C S R) {s' : Int → Int} (e : EqR s' s) : Sim s' t O C S R := by
  obtain ⟨hr, hd, hf, hk⟩ := h
  have hs := hd.1
  have h00 := hs.1
  have hq : Hq s s' := fun k a b _ _ _ => e k a (by omega)
  have e7 : s' 7 = s 7 := e 7 (by decide) (by decide)
  have e0 : s' 0 = s 0 := e 0 (by decide) (by decide)
  have ho := OthP.of e7 hs.2.2.1.2 (fun k a b => e k (by omega) b)
  have c := hd.2.2.2.2.1
  refine ⟨hr.hq hs hq (fun _ _ _ _ _ => rfl) (fun g a b => ?_) (fun g a b => (hr.2.1 g a b).2.keep ho (fun f z => z.elim) rfl rfl) (RelW.iff.mpr ⟨(RelW.iff.mp hr.2.2.2.2).1, (RelW.iff.mp hr.2.2.2.2).2.keep ho (fun f z => z.elim)⟩), hd.hq hq (by rw [e7]; exact hs.2.2.1) (by rw [e 3 (by decide) (by decide)]; exact ⟨c.2.2.1, c.2.2.2.1⟩) (Int.le_refl _) c.2.2.2.2.2.2, hf.same hs (fun k q => e k (by unfold FR at q; omega) (by unfold FR at q; omega)) (by rw [e 2 (by decide) (by decide)]; exact Int.le_refl _), fun g a b => hk g a (by rw [← e0]; exact b)⟩
  obtain ⟨_, _, _, _, r5, r6, _⟩ := (hr.2.1 g a b).1
  unfold rOf at r5 r6 ⊢
  rw [e _ (by omega) (by omega), e _ (by omega) (by omega)]
  exact ⟨r5, r6⟩
theorem Sim.copy {s : Int → Int} {t : Int} {O : List (Int × Int)} {C : Int} {S S2 : Nat → Int → Int} {R R2 S0 : Nat → List FV} (h : Sim s t O C S2 R2) (q : CQ S0 S2 R2 S R) (hc : CntR S R) : Sim s t O C S R := by
  obtain ⟨hr, hd, hf, hk⟩ := h
  have hs := hd.1
  have h00 := hs.1
  have h01 := hs.2.1
  obtain ⟨t0, t1, t2, t4, t5, t6⟩ := hr.1
  obtain ⟨q1, q3, qh, qu, qo, qr⟩ := q
  have c := hd.2.2.2.2.1
  have g5 : ∀ g, 0 ≤ g → g < s 0 → CqH S2 R2 S R g := fun g a b => qh g a (by rw [← t0]; exact b)
  have c7 : cT S 7 = cT S2 7 := q1 7 (by decide) (by decide)
  refine ⟨⟨⟨by rw [q1 4 (by decide) (by decide)]; exact t0, by rw [q1 5 (by decide) (by decide)]; exact t1, by rw [q1 6 (by decide) (by decide)]; exact t2, by rw [c7]; exact t4, by unfold cKept at t5 ⊢; rw [c7]; exact t5, by rw [q1 8 (by decide) (by decide)]; exact t6⟩, fun g a b => ⟨?_, ?_⟩, fun u a b k x y => ?_, fun i a b => ?_, RelW.iff.mpr ⟨hc.1, by rw [q3]; exact (RelW.iff.mp hr.2.2.2.2).2⟩⟩, hd, hf, fun g a b => by rw [(g5 g a b).2.2.2]; exact hk g a b⟩
  · have z := g5 g a b
    exact (hr.2.1 g a b).1.to (fun w _ _ => rfl) (fun k x y => by rw [z.2.1 k x y]; exact (hr.2.1 g a b).1.1 k x y) (fun k _ _ => rfl) rfl (fun k x y => z.1 k x y) z.2.2.1
  · have z := g5 g a b
    obtain ⟨_, J, hJ, hl⟩ := RelK.iff.mp (hr.2.1 g a b).2
    exact RelK.iff.mpr ⟨hc.2 g a (by omega), J, hJ, by rw [z.2.2.2]; exact hl⟩
  · rw [qu u a (by rw [← t1]; exact b) k x y]
    exact hr.2.2.1 u a b k x y
  · have m := Int.emod_lt_of_pos (cT S2 7 - 1 - i) (show (0 : Int) < 8 by decide)
    have m0 := Int.emod_nonneg (cT S2 7 - 1 - i) (show (8 : Int) ≠ 0 by decide)
    have kp : (cT S2 7 - 1 - i) % 8 < cKept S2 := by
      unfold cKept e_mnF at t5 ⊢
      by_cases z : cT S2 7 ≤ 8
      · rw [if_pos z] at t5 ⊢
        have := Int.emod_eq_of_lt (a := cT S2 7 - 1 - i) (b := 8) (by omega) (by omega)
        omega
      · rw [if_neg z]; exact m
    have sf : SF S (56 + 3 * ((cT S2 7 - 1 - i) % 8).toNat) = SF S2 (56 + 3 * ((cT S2 7 - 1 - i) % 8).toNat) := qo _ m0 kp
    have r := hr.2.2.2.1 i a b
    unfold RelO at r ⊢
    rw [c7, sf]
    exact r
/-- one cell of the head that no frame asks for -/
theorem Sim.head {s : Int → Int} {t : Int} {O : List (Int × Int)} {C : Int} {S : Nat → Int → Int} {R : Nat → List FV} (h : Sim s t O C S R) {j v : Int} {S' : Nat → Int → Int} (h8 : 8 ≤ j ∧ j < 98) (hf' : FmI (ups s j v) t O) (cm : ∀ m k, (m < 12 ∨ 56 ≤ m ∨ (∃ g : Nat, g < 5 ∧ (m = 11 + 7 * g ∨ (13 + 7 * g ≤ m ∧ m ≤ 17 + 7 * g)))) → S' m k = S m k) (eH : ∀ g k, 0 ≤ g → g < s 0 → 0 ≤ k → k < 5 → rOf (ups s j v) g k = cSe S' g k) (eU : ∀ u k, 0 ≤ u → u < s 1 → 0 ≤ k → k < 4 → rIts (ups s j v) u k = cU S' u k) (e59 : ∀ g w, 0 ≤ g → g < s 0 → 5 ≤ w → w < 10 → 8 + 10 * g + w ≠ j) (hd' : HdI (ups s j v) C) : Sim (ups s j v) t O C S' R := by
  obtain ⟨hr, hd, hf, hk⟩ := h
  have hs := hd.1
  have h00 := hs.1
  have h01 := hs.2.1
  have h05 := hs.2.2.2.1
  obtain ⟨t0, t1, t2, t4, t5, t6⟩ := hr.1
  have e : ∀ k, k ≠ j → ups s j v k = s k := fun k q => ups_ne q
  generalize ups s j v = s' at *
  have ho := OthP.of (e 7 (by omega)) hs.2.2.1.2 (fun k a b => e k (by omega))
  have cT' : ∀ k, cT S' k = cT S k := fun k => cm _ _ (by omega)
  have sf : ∀ n : Nat, (∃ g : Nat, g < 5 ∧ n = 15 + 7 * g) ∨ 56 ≤ n → SF S' n = SF S n := fun n q => by
    have z : ∀ i, i < 3 → ∀ k, S' (n + i) k = S (n + i) k := fun i hi k => by
      rcases q with ⟨g, a, b⟩ | q
      · exact cm _ _ (Or.inr (Or.inr ⟨g, a, by omega⟩))
      · exact cm _ _ (Or.inr (Or.inl (by omega)))
    funext k
    unfold SF
    rw [z 1 (by omega), z 2 (by omega), show S' n k = S n k from z 0 (by omega) k]
  have e50 : ∀ x, 0 ≤ x → x < s 0 → rOf s' x 5 = rOf s x 5 := fun x a b => e _ (e59 x 5 a b (by decide) (by decide))
  refine ⟨⟨⟨by rw [e 0 (by omega), cT']; exact t0, by rw [e 1 (by omega), cT']; exact t1, by rw [e 2 (by omega), cT']; exact t2, by rw [e 4 (by omega), cT']; exact t4, by unfold cKept at t5 ⊢; rw [e 5 (by omega), cT']; exact t5, by rw [e 6 (by omega), cT']; exact t6⟩, fun g a b => ?_, fun u a b k x y => ?_, fun i a b => ?_, RelW.iff.mpr ⟨?_, ?_⟩⟩, hd', hf', fun g a b => ?_⟩
  · rw [e 0 (by omega)] at b
    refine ⟨(hr.2.1 g a b).1.to (fun w x y => e _ (e59 g w a b x y)) (fun k x y => eH g k a b x y) (fun k x y => e _ (by omega)) (rDepth_congr hs e50 ⟨a, b⟩) (fun k _ _ => cm _ _ (Or.inr (Or.inr ⟨g.toNat, by omega, by omega⟩))) (sf _ (Or.inl ⟨g.toNat, by omega, rfl⟩)), ?_⟩
    exact (hr.2.1 g a b).2.keep ho (fun f z => z.elim) (cm _ _ (Or.inr (Or.inr ⟨g.toNat, by omega, by omega⟩))) rfl
  · rw [e 1 (by omega)] at b
    exact eU u k a b x y
  · rw [e 5 (by omega)] at b
    exact (hr.2.2.2.1 i a b).to ⟨a, b⟩ h05.2 (e 5 (by omega)) (fun k x y => e k (by omega)) (cT' 7) (fun j _ => sf _ (Or.inr (by omega)))
  · exact (cm 3 1 (by omega)).trans (RelW.iff.mp hr.2.2.2.2).1
  · exact (RelW.iff.mp hr.2.2.2.2).2.keep ho (fun f z => z.elim)
  · rw [e 0 (by omega)] at b
    exact hk g a b
/-- one cell of a unit: taken off (2) or counted (3) -/
theorem Sim.unit23 {s : Int → Int} {t : Int} {O : List (Int × Int)} {C : Int} {S : Nat → Int → Int} {R : Nat → List FV} (h : Sim s t O C S R) {u w v : Int} (hu : 0 ≤ u ∧ u < s 1) (hw : w = 2 ∨ w = 3) (hv : w = 2 → v = 0 ∨ v = 1) : Sim (ups s (58 + 4 * u + w) v) t O C (upX S (46 + u.toNat) w v) R := by
  have hd := h.2.1
  have hs := hd.1
  have h00 := hs.1
  have h01 := hs.2.1
  have e : ∀ k, k ≠ 58 + 4 * u + w → ups s (58 + 4 * u + w) v k = s k := fun k q => ups_ne q
  have eq : ups s (58 + 4 * u + w) v (58 + 4 * u + w) = v := ups_eq rfl
  refine h.head (by omega) (h.2.2.1.same hs (fun k q => e k (by unfold FR at q; omega)) (by rw [e 2 (by omega)]; exact Int.le_refl _)) (fun m k q => upX_at (by rcases q with q | q | ⟨g, q1, q2⟩ <;> omega)) (fun g k a b x y => ?_) (fun u' k a b x y => ?_) (fun g x a b c d => by omega) ?_
  · unfold rOf
    rw [e _ (by omega)]
    exact (h.1.cs ⟨a, b⟩ ⟨x, y⟩).trans (show cSe S g k = cSe (upX S (46 + u.toNat) w v) g k from (upX_at (by omega)).symm)
  · unfold rIts cU
    by_cases q : u' = u ∧ k = w
    · rw [q.1, q.2, eq, upX_is]
    · rw [e _ (by omega), upX_at (by omega)]
      exact h.1.cu ⟨a, b⟩ ⟨x, y⟩
  · generalize ups s (58 + 4 * u + w) v = s' at *
    have of : ∀ g x, 0 ≤ g → g < 5 → 0 ≤ x → x < 10 → rOf s' g x = rOf s g x := fun g x a b c d => e _ (by omega)
    have it : ∀ u' x, 0 ≤ u' → u' < 10 → (x = 0 ∨ x = 1) → rIts s' u' x = rIts s u' x := fun u' x a b c => e _ (by omega)
    obtain ⟨_, b1, b2, b3, b4, b5⟩ := hd
    refine ⟨⟨by rw [e 0 (by omega)]; exact hs.1, by rw [e 1 (by omega)]; exact hs.2.1, by rw [e 7 (by omega)]; exact hs.2.2.1, by rw [e 5 (by omega)]; exact hs.2.2.2.1, fun g a b => ?_, fun u' a b => ?_⟩, ⟨by rw [of 0 5 (by decide) (by decide) (by decide) (by decide)]; exact b1.1, fun g a b => ?_⟩, fun g a b => ?_, fun u' a b => ?_, by rw [e 2 (by omega), e 3 (by omega), e 4 (by omega)]; exact b4, fun i a b => ?_⟩
    · rw [e 0 (by omega)] at b
      rw [of g 5 a (by omega) (by decide) (by decide), of g 4 a (by omega) (by decide) (by decide)]
      exact hs.2.2.2.2.1 g a b
    · rw [e 1 (by omega)] at b
      rw [it u' 0 a (by omega) (Or.inl rfl), it u' 1 a (by omega) (Or.inr rfl), e 0 (by omega)]
      exact hs.2.2.2.2.2 u' a b
    · rw [e 0 (by omega)] at b
      rw [of g 5 (by omega) (by omega) (by decide) (by decide)]
      exact b1.2 g a b
    · rw [e 0 (by omega)] at b
      rw [of g 0 a (by omega) (by decide) (by decide), of g 1 a (by omega) (by decide) (by decide), of g 2 a (by omega) (by decide) (by decide), of g 3 a (by omega) (by decide) (by decide), of g 6 a (by omega) (by decide) (by decide), of g 9 a (by omega) (by decide) (by decide)]
      exact b2 g a b
    · rw [e 1 (by omega)] at b
      unfold rIts
      by_cases q : u' = u ∧ w = 2
      · have : 58 + 4 * u' + 2 = 58 + 4 * u + w := by omega
        rw [this, eq]
        exact hv q.2
      · rw [e _ (by omega)]
        exact b3 u' a b
    · rw [e 5 (by omega)] at b
      rw [e _ (by omega)]
      exact b5 i a b

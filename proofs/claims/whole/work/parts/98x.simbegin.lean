/-! THE SIMULATION: a tick begins, frames come -/
theorem Sim.tick {s : Int → Int} {O : List (Int × Int)} {C : Int} {S : Nat → Int → Int} {R : Nat → List FV} (h : Sim s (s 2 + 1) O C S R) (ht : s 2 < 50000) : Sim (ups s 2 (s 2 + 1)) (s 2 + 1) O C (upX S 0 6 (cT S 6 + 1)) R := by
  obtain ⟨hr, hd, hf, hk⟩ := h
  have hs := hd.1
  have h00 := hs.1
  have h01 := hs.2.1
  have h05 := hs.2.2.2.1
  obtain ⟨t0, t1, t2, t4, t5, t6⟩ := hr.1
  have e : ∀ k, k ≠ 2 → ups s 2 (s 2 + 1) k = s k := fun k q => ups_ne q
  have e2 : ups s 2 (s 2 + 1) 2 = s 2 + 1 := ups_eq rfl
  have c0 : ∀ k, k ≠ 6 → cT (upX S 0 6 (cT S 6 + 1)) k = cT S k := fun k q => upX_at (by omega)
  have c6 : cT (upX S 0 6 (cT S 6 + 1)) 6 = cT S 6 + 1 := upX_is
  have cm : ∀ m k, m ≠ 0 → upX S 0 6 (cT S 6 + 1) m k = S m k := fun m k q => upX_at (by omega)
  have sf : ∀ n, 0 < n → SF (upX S 0 6 (cT S 6 + 1)) n = SF S n := fun n q => SF_upX (by omega)
  generalize ups s 2 (s 2 + 1) = s' at *
  generalize upX S 0 6 (cT S 6 + 1) = S' at *
  have of : ∀ g w, 0 ≤ g → 0 ≤ w → rOf s' g w = rOf s g w := fun g w a b => e _ (by omega)
  have it : ∀ u w, 0 ≤ u → 0 ≤ w → rIts s' u w = rIts s u w := fun g w a b => e _ (by omega)
  have hdep : ∀ g, 0 ≤ g → rDepth s' g = rDepth s g := fun g a => by
    have key : ∀ (n : Nat) (x : Int), rDep s' n x = rDep s n x := by
      intro n
      induction n with
      | zero => intro x; rfl
      | succ n ih =>
        intro x
        rw [rDep, rDep]
        by_cases q : x < 0
        · rw [if_pos q, if_pos q]
        · rw [if_neg q, if_neg q, of x 5 (by omega) (by decide), ih]
    unfold rDepth
    rw [of g 5 a (by decide)]
    exact key 6 _
  have ho : OthP s s' (fun _ => False) := fun f _ => ⟨by unfold inR7; rw [e 7 (by decide)], fun x w a b => e _ (by have := x.1; omega)⟩
  have hcn := hd.2.2.2.2.1
  refine ⟨⟨⟨?_, ?_, ?_, ?_, ?_, ?_⟩, fun g a b => ⟨⟨fun k p q => ?_, ?_, ?_, ?_, ?_, ?_, ?_, ?_, fun u p q => ?_⟩, ?_⟩, fun u a b k p q => ?_, fun i a b => ?_, RelW.iff.mpr ⟨?_, ?_⟩⟩, ⟨⟨?_, ?_, ?_, ?_, fun g a b => ?_, fun u a b => ?_⟩, ⟨?_, fun g a b => ?_⟩, fun g a b => ?_, fun u a b => ?_, ?_, fun j a b => ?_⟩, hf.same hs (fun k q => e k (by unfold FR at q; omega)) (by rw [e2]; omega), fun g a b => ?_⟩
  · rw [e 0 (by decide), c0 4 (by decide)]; exact t0
  · rw [e 1 (by decide), c0 5 (by decide)]; exact t1
  · rw [e2, c6, t2]
  · rw [e 4 (by decide), c0 7 (by decide)]; exact t4
  · unfold cKept at t5 ⊢
    rw [e 5 (by decide), c0 7 (by decide)]; exact t5
  · rw [e 6 (by decide), c0 8 (by decide)]; exact t6
  · rw [e 0 (by decide)] at b
    rw [of g k a p]
    exact ((hr.2.1 g a b).1.1 k p q).trans (cm _ _ (by omega)).symm
  · rw [e 0 (by decide)] at b
    rw [of g 5 a (by decide)]
    exact ((hr.2.1 g a b).1.2.1).trans (cm _ _ (by omega)).symm
  · rw [e 0 (by decide)] at b
    rw [hdep g a]
    exact ((hr.2.1 g a b).1.2.2.1).trans (cm _ _ (by omega)).symm
  · rw [e 0 (by decide)] at b
    rw [of g 6 a (by decide)]
    exact ((hr.2.1 g a b).1.2.2.2.1).trans (cm _ _ (by omega)).symm
  · rw [e 0 (by decide)] at b
    rw [of g 7 a (by decide)]
    exact ((hr.2.1 g a b).1.2.2.2.2.1).trans (cm _ _ (by omega)).symm
  · rw [e 0 (by decide)] at b
    rw [of g 8 a (by decide)]
    exact ((hr.2.1 g a b).1.2.2.2.2.2.1).trans (cm _ _ (by omega)).symm
  · rw [e 0 (by decide)] at b
    rw [of g 6 a (by decide), of g 9 a (by decide)]
    intro z
    exact ((hr.2.1 g a b).1.2.2.2.2.2.2.1 z).trans (cm _ _ (by omega)).symm
  · rw [e 0 (by decide)] at b
    rw [of g 6 a (by decide)]
    intro z
    exact (cm _ _ (by omega)).trans ((hr.2.1 g a b).1.2.2.2.2.2.2.2.1 z)
  · rw [e 0 (by decide)] at b
    rw [sf _ (by omega), e _ (by omega), e _ (by omega), e _ (by omega)]
    exact (hr.2.1 g a b).1.2.2.2.2.2.2.2.2 u p q
  · rw [e 0 (by decide)] at b
    exact (hr.2.1 g a b).2.keep ho (fun f e => e.elim) (cm _ _ (by omega)) rfl
  · rw [e 1 (by decide)] at b
    rw [it u k a p]
    exact (hr.2.2.1 u a b k p q).trans (cm _ _ (by omega)).symm
  · rw [e 5 (by decide)] at b
    obtain ⟨o1, o2, o3, o4, o5, o6⟩ := hr.2.2.2.1 i a b
    unfold RelO
    rw [c0 7 (by decide), sf _ (by omega), e 5 (by decide), e _ (by omega), e _ (by omega), e _ (by omega), e _ (by omega), e _ (by omega)]
    refine ⟨o1, o2, o3, o4, o5, fun u x y z => ?_⟩
    rw [e _ (by omega), e _ (by omega)]
    exact o6 u x y z
  · exact (cm 3 1 (by omega)).trans (RelW.iff.mp hr.2.2.2.2).1
  · exact (RelW.iff.mp hr.2.2.2.2).2.keep ho (fun f e => e.elim)
  · rw [e 0 (by decide)]; exact hs.1
  · rw [e 1 (by decide)]; exact hs.2.1
  · rw [e 7 (by decide)]; exact hs.2.2.1
  · rw [e 5 (by decide)]; exact hs.2.2.2.1
  · rw [e 0 (by decide)] at b
    rw [of g 5 a (by decide), of g 4 a (by decide)]
    exact hs.2.2.2.2.1 g a b
  · rw [e 1 (by decide)] at b
    rw [it u 0 a (by decide), it u 1 a (by decide), e 0 (by decide)]
    exact hs.2.2.2.2.2 u a b
  · rw [of 0 5 (by decide) (by decide)]; exact hd.2.1.1
  · rw [e 0 (by decide)] at b
    rw [of g 5 (by omega) (by decide)]
    exact hd.2.1.2 g a b
  · rw [e 0 (by decide)] at b
    rw [of g 0 a (by decide), of g 1 a (by decide), of g 2 a (by decide), of g 3 a (by decide), of g 6 a (by decide), of g 9 a (by decide)]
    exact hd.2.2.1 g a b
  · rw [e 1 (by decide)] at b
    rw [it u 2 a (by decide)]
    exact hd.2.2.2.1 u a b
  · rw [e2, e 3 (by decide), e 4 (by decide)]
    exact ⟨by omega, by omega, hcn.2.2⟩
  · rw [e 5 (by decide)] at b
    rw [e _ (by omega)]
    exact hd.2.2.2.2.2 j a b
  · rw [e 0 (by decide)] at b
    exact hk g a b
theorem CI_hat {S : Nat → Int → Int} {x : Int} (h : CI (upX S 3 1 x)) : CI S := by
  have e1 : ∀ g k, cH (upX S 3 1 x) g k = cH S g k := fun g k => upX_at (by omega)
  have e2 : ∀ g k, cSe (upX S 3 1 x) g k = cSe S g k := fun g k => upX_at (by omega)
  have e3 : ∀ g k, cU (upX S 3 1 x) g k = cU S g k := fun g k => upX_at (by omega)
  have e4 : ∀ k, cT (upX S 3 1 x) k = cT S k := fun k => upX_at (by omega)
  unfold CI at h ⊢
  simp only [e1, e2, e3, e4] at h
  exact h
theorem Sim.duOK {s : Int → Int} {O : List (Int × Int)} {C : Int} {S : Nat → Int → Int} {R : Nat → List FV} (h : Sim s (s 2) O C S R) (hO : O.length ≤ 512) (hL : LI s R) : DuOK S R := by
  intro i h0 h1
  obtain ⟨K, _, _, ⟨_, e0, eq⟩, i4⟩ := h.arrive i h0 (by omega)
  have dr := gt_dropc (L := R 3) h0 h1
  refine ⟨CI_hat i4.CI, fun _ _ => rfl, fun _ => ?_⟩
  have ci := i4.CI
  have ln := i4.len hO
  have hV := (RelW.iff.mp i4.1.2.2.2.2).2
  have e3 : (hat (cDu S R i) (cRm S (R 3) i ++ (R 3).drop i.toNat)).2 3 = cRm S (R 3) i ++ gt (R 3) i :: (R 3).drop (i + 1).toNat := by
    rw [dr]; unfold hat; dsimp only; exact upR_eq
  rw [e3] at hV
  obtain ⟨f, hw, hv, _, _⟩ := hV.at
  have fo := (i4.2.2.1.1 f hw.1 (by have : rFr (sq s K) f 0 = 1 := hw.2; omega)).2
  have hs := i4.2.1.1
  have k15 := kid_rng fo.1.r15
  have st := fo.2.2
  have t01 := i4.1.1
  have b0 : cT (cDu S R i).1 4 = sq s K 0 := (i4.1.1.1.trans (show cT (upX (cDu S R i).1 3 1 _) 4 = cT (cDu S R i).1 4 from upX_at (by omega))).symm
  have b1 : cT (cDu S R i).1 5 = sq s K 1 := (i4.1.1.2.1.trans (show cT (upX (cDu S R i).1 3 1 _) 5 = cT (cDu S R i).1 5 from upX_at (by omega))).symm
  refine ⟨⟨by rw [hv.1]; exact k15, fun q => ?_, fun q => ?_⟩, ?_, fun g a b => ?_⟩
  · rw [hv.1] at q ⊢
    rcases fo.1 with ⟨c, _, _⟩ | ⟨c, c1, c2⟩
    · unfold kid at q; rw [if_pos c] at q; omega
    · have e : kid (rFr (sq s K) f 2) = rFr (sq s K) f 2 - 10 := by unfold kid; rw [if_neg (by omega)]
      rw [e, b0]
      refine ⟨c2, ?_⟩
      have u := i4.1.up (g := rFr (sq s K) f 2 - 10) ⟨by omega, c2⟩
      have u2 : cH (hat (cDu S R i) (cRm S (R 3) i ++ (R 3).drop i.toNat)).1 (rFr (sq s K) f 2 - 10) 3 = cH (cDu S R i).1 (rFr (sq s K) f 2 - 10) 3 := by unfold hat; exact upX_at (by omega)
      rw [← u2, ← u]
      have p := fo.2.1
      rw [p.1] at p
      unfold par at p
      rw [if_neg (by omega)] at p
      exact p.2
  · rw [hv.1] at q ⊢
    rcases fo.1 with ⟨c, c1, c2⟩ | ⟨c, c1, c2⟩
    · have e : kid (rFr (sq s K) f 2) = rFr (sq s K) f 2 + 5 := by unfold kid; rw [if_pos c]
      rw [e, b1]; omega
    · unfold kid at q; rw [if_neg (by omega)] at q; have := hs.1; omega
  · rw [hv.2.1]
    have := fo.1.r15
    unfold stMax at st
    split at st <;> omega
  · by_cases q : g < s 0
    · have := ln.1 g a (by rw [e0]; exact q)
      have e : kR (hat (cDu S R i) (cRm S (R 3) i ++ (R 3).drop i.toNat)).2 g = kR (cDu S R i).2 g := by unfold hat; exact kR_up3
      rw [e] at this
      omega
    · rw [eq g (by omega) b]
      have := hL g (by omega) b
      omega
/-- all have come -/
theorem Sim.arrived {s : Int → Int} {O : List (Int × Int)} {C : Int} {S : Nat → Int → Int} {R : Nat → List FV} (h : Sim s (s 2) O C S R) : ∃ K : Nat, (∀ k, k ≤ K → ∃ S1 R1, Sim (sq s k) (s 2) O C S1 R1) ∧ (∀ k, k < K → 0 ≤ rNext (sq s k)) ∧ rNext (sq s K) < 0 ∧ (sq s K 2 = s 2 ∧ sq s K 0 = s 0 ∧ ∀ q, s 0 ≤ q → q < 5 → kR (cBr S R).2 q = kR R q) ∧ Sim (sq s K) (s 2 + 1) O C (cBr S R).1 (cBr S R).2 := by
  have e2 : s 2 = cT S 6 := h.1.1.2.2.1
  obtain ⟨K, i1, i2, ⟨i3, i30, iq⟩, i4⟩ := h.arrive ((R 3).length : Nat) (by omega) (Int.le_refl _)
  have eb : hat (cDu S R ((R 3).length : Nat)) (cRm S (R 3) ((R 3).length : Nat) ++ (R 3).drop (((R 3).length : Nat) : Int).toNat) = cBr S R := by
    rw [show (((R 3).length : Nat) : Int).toNat = (R 3).length by omega, List.drop_length, List.append_nil]
    rfl
  rw [eb] at i4
  have hV := (RelW.iff.mp i4.1.2.2.2.2).2
  have e3 : (cBr S R).2 3 = cRm S (R 3) ((R 3).length : Nat) := by unfold cBr; dsimp only; exact upR_eq
  rw [e3] at hV
  have nd : ∀ f, mW (sq s K) f → s 2 + 1 ≤ rFr (sq s K) f 4 := fun f hf => by
    obtain ⟨W, ⟨_, hm⟩, _, hl⟩ := hV
    obtain ⟨w, hw, k⟩ := hl.left f ((hm f).mpr hf)
    have := cRm_not (S := S) (L := R 3) (n := ((R 3).length : Nat)) (by omega) w hw
    have := k.2.2.1
    omega
  refine ⟨K, i1, i2, ?_, ⟨i3, i30, fun q a b => ?_⟩, i4.raise nd⟩
  · rcases rNext_is (s := sq s K) i4.2.1.1.2.2.1.1 with ⟨a, _⟩ | ⟨⟨a, b⟩, _⟩
    · rw [a]; decide
    · have := nd _ a
      omega
  · rw [← iq q a b]
    unfold cBr
    exact kR_up3
theorem SRA.begin {A : (Int → Int) → Prop} {T n0 : Int} {O : List (Int × Int)} {C : Int} {S : Nat → Int → Int} {R : Nat → List FV} (h : SRA A T n0 O C S R) (hO : O.length ≤ 512) (hT : T < 50000) : DuOK (upX S 0 6 (cT S 6 + 1)) R ∧ SRA (fun s => ∃ a, A a ∧ InT 4 0 a s) (T + 1) n0 O C (cBr (upX S 0 6 (cT S 6 + 1)) R).1 (cBr (upX S 0 6 (cT S 6 + 1)) R).2 := by
  obtain ⟨⟨a, ha⟩, hall⟩ := h
  have tk : ∀ a, A a → Sim (ups a 2 (a 2 + 1)) (ups a 2 (a 2 + 1) 2) O C (upX S 0 6 (cT S 6 + 1)) R ∧ LI (ups a 2 (a 2 + 1)) R := fun a ha => by
    have g := hall a ha
    have e : ups a 2 (a 2 + 1) 2 = a 2 + 1 := ups_eq rfl
    have e0 : ups a 2 (a 2 + 1) 0 = a 0 := ups_ne (by decide)
    rw [e]
    refine ⟨g.1.tick (by have := g.2.2.1; omega), ?_⟩
    unfold LI
    rw [e0]
    exact g.2.1
  have ar : ∀ a, A a → ∃ s1, Arr a s1 := fun a ha => by
    obtain ⟨K, _, i2, i3, _⟩ := (tk a ha).1.arrived
    exact ⟨_, K, rfl, i2, i3⟩
  refine ⟨(tk a ha).1.duOK hO (tk a ha).2, ?_, fun s ⟨a', ha', s1, hs1, hs⟩ => ?_⟩
  · obtain ⟨s1, h1⟩ := ar a ha
    exact ⟨s1, a, ha, s1, h1, Or.inl ⟨by decide, by decide, s1, rfl, rfl⟩⟩
  · have es : s = s1 := by
      rcases hs with ⟨_, _, t, ht, hs⟩ | ⟨z, _⟩
      · have ht : t = s1 := ht
        have hs : s = t := hs
        rw [hs, ht]
      · omega
    subst es
    obtain ⟨K', e', l', n'⟩ := hs1
    obtain ⟨K, _, i2, i3, ⟨j2, j0, jq⟩, i4⟩ := (tk a' ha').1.arrived
    have eK : K' = K := by
      by_cases q : K' < K
      · have := i2 K' q
        rw [← e'] at this
        omega
      · by_cases q2 : K < K'
        · have := l' K q2
          omega
        · omega
    subst eK
    rw [← e'] at i4 j2 j0
    have g := hall a' ha'
    have e2 : ups a' 2 (a' 2 + 1) 2 = a' 2 + 1 := ups_eq rfl
    have e0 : ups a' 2 (a' 2 + 1) 0 = a' 0 := ups_ne (by decide)
    rw [e2] at i4 j2
    rw [e0] at j0
    refine ⟨by rw [j2]; exact i4, fun q x y => ?_, by rw [j2, g.2.2.1], by rw [j0]; exact g.2.2.2⟩
    rw [j0] at x
    rw [jq q (by rw [e0]; exact x) y]
    exact g.2.1 q x y
theorem SRA.iff {A B : (Int → Int) → Prop} {T n0 : Int} {O : List (Int × Int)} {C : Int} {S : Nat → Int → Int} {R : Nat → List FV} (h : SRA A T n0 O C S R) (e : ∀ s, A s ↔ B s) : SRA B T n0 O C S R := ⟨h.1.imp (fun s hs => (e s).mp hs), fun s hs => h.2 s ((e s).mpr hs)⟩
theorem SRA.mono {A : (Int → Int) → Prop} {T n0 : Int} {O : List (Int × Int)} {C C' : Int} {S : Nat → Int → Int} {R : Nat → List FV} (h : SRA A T n0 O C S R) (h1 : C ≤ C') (h2 : C' ≤ 1000000000) : SRA A T n0 O C' S R := ⟨h.1, fun s hs => (h.2 s hs).mono h1 h2⟩
theorem SRA.sx {A : (Int → Int) → Prop} {T n0 : Int} {O : List (Int × Int)} {C : Int} {S S' : Nat → Int → Int} {R : Nat → List FV} (h : SRA A T n0 O C S R) (x : ∀ m, ¬ (6 ≤ m ∧ m ≤ 10) → S' m = S m) : SRA A T n0 O C S' R := ⟨h.1, fun s hs => (h.2 s hs).sx x⟩
theorem GSm.dep {T n0 : Int} {O : List (Int × Int)} {C : Int} {s : Int → Int} {S : Nat → Int → Int} {R : Nat → List FV} (h : GSm T n0 O C s S R) {g : Int} (hg : 0 ≤ g ∧ g < n0) : rDepth s g = cH S g 4 := (h.1.1.2.1 g hg.1 (by rw [h.2.2.2]; exact hg.2)).1.2.2.1
def Gd (s : Int → Int) : Prop := ∃ (O : List (Int × Int)) (S : Nat → Int → Int) (R : Nat → List FV) (B : Int), O.length ≤ 512 ∧ (0 ≤ B ∧ B ≤ 20000) ∧ Sim s (s 2 + 1) O (B + 14000 * s 2) S R ∧ LI s R ∧ s 2 ≤ 30000
theorem Gd.ri (s : Int → Int) (h : Gd s) : RI s ∧ 0 ≤ s 2 ∧ s 2 ≤ 100000 := by
  obtain ⟨O, S, R, B, _, _, hS, _, _⟩ := h
  have c := hS.2.1.2.2.2.2.1
  exact ⟨hS.2.1.1, c.1, by omega⟩
theorem GSm.n0 {T n0 : Int} {O : List (Int × Int)} {C : Int} {s : Int → Int} {S : Nat → Int → Int} {R : Nat → List FV} (h : GSm T n0 O C s S R) : cT S 4 = n0 ∧ cT S 6 = T ∧ (1 ≤ n0 ∧ n0 ≤ 5) ∧ 0 ≤ T := by
  have t := h.1.1.1
  have hs := h.1.2.1
  have a := h.2.2.1
  have b := h.2.2.2
  have r := hs.1.1
  have c := hs.2.2.2.2.1
  refine ⟨by rw [← b]; exact t.1.symm, by rw [← a]; exact t.2.2.1.symm, by omega, by omega⟩
theorem InT.step {dd hh : Int} (h0 : 0 ≤ dd) (hh0 : 0 ≤ hh) {a s : Int → Int} : InT dd (hh + 1) a s ↔ ∃ t, InT dd hh a t ∧ HubR dd hh t s := by
  have e : (hh + 1).toNat = hh.toNat + 1 := by omega
  have e2 : ((hh.toNat : Nat) : Int) = hh := by omega
  constructor
  · rintro ⟨s1, A, ⟨_, h4, t, D, L⟩ | ⟨z, _⟩⟩
    · rw [e] at L
      obtain ⟨w, L1, L2⟩ := L
      rw [e2] at L2
      exact ⟨w, ⟨s1, A, Or.inl ⟨h0, h4, t, D, L1⟩⟩, L2⟩
    · omega
  · rintro ⟨w, ⟨s1, A, ⟨_, h4, t, D, L⟩ | ⟨z, _⟩⟩, H⟩
    · refine ⟨s1, A, Or.inl ⟨h0, h4, t, D, ?_⟩⟩
      rw [e]
      exact ⟨w, L, by rw [e2]; exact H⟩
    · omega
theorem InT.turn {dd n : Int} (h0 : 0 ≤ dd) {a s : Int → Int} (hn : n = a 0) (hn0 : 0 ≤ n) : InT (dd - 1) 0 a s ∧ dd ≤ 4 ↔ InT dd n a s := by
  subst hn
  constructor
  · rintro ⟨⟨s1, A, ⟨p, h4, t, D, L⟩ | ⟨z, D⟩⟩, h4'⟩
    · have L : s = t := L
      subst L
      rw [show (4 - (dd - 1)).toNat = (4 - dd).toNat + 1 by omega] at D
      obtain ⟨w, D1, L1⟩ := D
      rw [show 4 - (((4 - dd).toNat : Nat) : Int) = dd by omega] at L1
      exact ⟨s1, A, Or.inl ⟨h0, h4', w, D1, L1⟩⟩
    · have d0 : dd = 0 := by omega
      subst d0
      obtain ⟨w, D1, L1⟩ := D
      exact ⟨s1, A, Or.inl ⟨h0, h4', w, D1, L1⟩⟩
  · rintro ⟨s1, A, ⟨p, h4, t, D, L⟩ | ⟨z, D⟩⟩
    · refine ⟨⟨s1, A, ?_⟩, h4⟩
      by_cases d0 : dd = 0
      · subst d0
        exact Or.inr ⟨by decide, t, D, L⟩
      · refine Or.inl ⟨by omega, by omega, s, ?_, rfl⟩
        rw [show (4 - (dd - 1)).toNat = (4 - dd).toNat + 1 by omega]
        exact ⟨t, D, by rw [show 4 - (((4 - dd).toNat : Nat) : Int) = dd by omega]; exact L⟩
    · omega
theorem InT.low {dd hh d2 h2 : Int} (h0 : dd < 0) (h1 : d2 < 0) {a s : Int → Int} (h : InT dd hh a s) : InT d2 h2 a s := by
  obtain ⟨s1, A, ⟨p, _⟩ | ⟨z, D⟩⟩ := h
  · omega
  · exact ⟨s1, A, Or.inr ⟨h1, D⟩⟩

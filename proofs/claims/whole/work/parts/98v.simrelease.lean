/-! THE SIMULATION: a release -/
theorem built_flags {s : Int → Int} {g sl : Int} {r : Int → Option (Int × Int)} {hd : FV} {p : FV × FV} (hs1 : 0 ≤ s 1 ∧ s 1 ≤ 10) (h : BuiltN s g sl r hd (s 1) p) : fFlg (nf p.1) = oOr (rFlg s g r (s 1)) (if 0 < rMis s g r (s 1) then 16 else 0) := by
  obtain ⟨⟨_, _, p4, p5⟩, _, _, pb, pv, _⟩ := h
  have e4 : nf p.1 4 = rMis s g r (s 1) := by rw [nf_in (by decide) (by decide)]; exact p4
  have hb : ∀ u, 0 ≤ u → u < 10 → (fHas (nf p.1) u ↔ u < s 1 ∧ rIsOf s g u ∧ (r u).isSome = true) := fun u a b => by
    show rBit (nf p.1 5) u ↔ _
    rw [nf_in (by decide) (by decide), p5]
    exact pb u a b
  have step : ∀ u, 0 ≤ u → u < 10 → ∀ x, iS (oOr x (cif (fHas (nf p.1) u) (nf p.1 (16 + u)) 0)) = iS x ||| cif (u < s 1 ∧ rIsOf s g u) (iS (fOf (r u))) 0 := fun u a b x => by
    rw [iS_or]
    by_cases q : u < s 1 ∧ rIsOf s g u
    · rw [cif_t q]
      cases hru : r u with
      | none =>
        rw [cif_f (fun z => by have := ((hb u a b).mp z).2.2; rw [hru] at this; exact absurd this (by decide))]
        rfl
      | some w =>
        rw [cif_t ((hb u a b).mpr ⟨q.1, q.2, by rw [hru]; rfl⟩), nf_in (by omega) (by omega), (pv u a b q.1 q.2 w.1 w.2 hru).2]
        rfl
    · rw [cif_f q, cif_f (fun z => q ⟨((hb u a b).mp z).1, ((hb u a b).mp z).2.1⟩)]
      rfl
  have key1 : ∀ n : Nat, (n : Int) ≤ 10 → ∀ a, iS (fI (n : Int) (fun u x => oOr x (cif (fHas (nf p.1) u) (nf p.1 (16 + u)) 0)) a) = iS a ||| fI (n : Int) (fun u x => x ||| cif (u < s 1 ∧ rIsOf s g u) (iS (fOf (r u))) 0) (0 : Int32) := by
    intro n
    induction n with
    | zero => intro _ a; show iS a = iS a ||| 0; rw [Int32.or_zero]
    | succ n ih =>
      intro hn a
      rw [show ((n + 1 : Nat) : Int) = (n : Int) + 1 by omega, fI_succ (by omega), fI_succ (by omega), step _ (by omega) (by omega), ih (by omega), Int32.or_assoc]
  have key2 : ∀ n : Nat, (n : Int) ≤ s 1 → iS (rFlg s g r (n : Int)) = fI (n : Int) (fun u x => x ||| cif (u < s 1 ∧ rIsOf s g u) (iS (fOf (r u))) 0) (0 : Int32) := by
    intro n
    induction n with
    | zero => intro _; rfl
    | succ n ih =>
      intro hn
      have e : rFlg s g r ((n : Int) + 1) = cif (rIsOf s g (n : Int)) (oOr (rFlg s g r (n : Int)) (fOf (r (n : Int)))) (rFlg s g r (n : Int)) := by unfold rFlg; rw [fI_succ (by omega)]
      rw [show ((n + 1 : Nat) : Int) = (n : Int) + 1 by omega, fI_succ (by omega), e, ← ih (by omega)]
      by_cases q : rIsOf s g (n : Int)
      · rw [cif_t q, cif_t ⟨by omega, q⟩, iS_or]
      · rw [cif_f q, cif_f (fun z => q z.2), Int32.or_zero]
  have key3 : ∀ n : Nat, fI (s 1 + (n : Int)) (fun u x => x ||| cif (u < s 1 ∧ rIsOf s g u) (iS (fOf (r u))) 0) (0 : Int32) = fI (s 1) (fun u x => x ||| cif (u < s 1 ∧ rIsOf s g u) (iS (fOf (r u))) 0) (0 : Int32) := by
    intro n
    induction n with
    | zero => rw [show s 1 + ((0 : Nat) : Int) = s 1 by omega]
    | succ n ih => rw [show s 1 + ((n + 1 : Nat) : Int) = s 1 + (n : Int) + 1 by omega, fI_succ (by omega), ih, cif_f (fun z => by omega), Int32.or_zero]
  have k3 := key3 (10 - s 1).toNat
  rw [show s 1 + ((10 - s 1).toNat : Int) = ((10 : Nat) : Int) by omega] at k3
  have k2 := key2 (s 1).toNat (by omega)
  rw [show ((s 1).toNat : Int) = s 1 by omega] at k2
  have k1 := key1 10 (by decide) (if 0 < rMis s g r (s 1) then 16 else 0)
  rw [k3, ← k2] at k1
  have inF : inR (fFlg (nf p.1)) := by
    unfold fFlg
    rw [show (10 : Int) = 9 + 1 by decide, fI_succ (by decide)]
    exact inR_toInt _
  refine eq_iS inF (inR_toInt _) ?_
  rw [iS_or, Int32.or_comm]
  show iS (fI 10 (fun u x => oOr x (cif (fHas (nf p.1) u) (nf p.1 (16 + u)) 0)) (if 0 < nf p.1 4 then 16 else 0)) = _
  rw [e4]
  exact k1
theorem Sim.release {s : Int → Int} {O : List (Int × Int)} {C : Int} {S : Nat → Int → Int} {R : Nat → List FV} {g : Int} {r : Int → Option (Int × Int)} {V F : Int → Int} (h : Sim s (s 2 + 1) O C S R) (hO : O.length ≤ 512) (hg : 0 ≤ g ∧ g < s 0) (hl : 0 < (kR R g).length) (hr : ∀ u, 0 ≤ u → u < s 1 → rIsOf s g u → RRead s g u (gt (kR R g) 0 2) (r u)) (hV : ∀ u, 0 ≤ u → u < s 1 → rIsOf s g u → ∀ x y, r u = some (x, y) → V u = x ∧ F u = y) (hC : C + 1 ≤ 1000000000) : Sim (rRel s g (gt (kR R g) 0 2) r V F) (s 2 + 1) O (C + 1) (cRl S R g).1 (cRl S R g).2 := by
  have hs := h.2.1.1
  have hd := h.2.1
  have h00 := hs.1
  have g5 : 0 ≤ g ∧ g < 5 := ⟨hg.1, by omega⟩
  have e5 : cT S 5 = s 1 := h.1.1.2.1.symm
  obtain ⟨_, _, _, z4, _⟩ := h.slot0 hg hl
  obtain ⟨bu, hh, p, hp⟩ := h.half hg hl hr hV hC
  have fl := built_flags hs.2.1 bu
  have he := rB_he (sl := gt (kR R g) 0 2) (msk := rMsk s g r (s 1)) (V := V) (F := F) hd hg
  have b0 := he.lo g5 (k := 0) (by decide) (by decide)
  have b2 := he.lo g5 (k := 2) (by decide) (by decide)
  have b3 := he.lo g5 (k := 3) (by decide) (by decide)
  have b4 := he.lo g5 (k := 4) (by decide) (by decide)
  have hcn := hd.2.2.2.2.1
  obtain ⟨⟨p0, p1, p4, p5⟩, pm, pq, pb, pv, _⟩ := bu
  have sb : SF (cRl0 S (kR R g) g) 6 = nf (cB S (kR R g) g (s 1)).1 := by rw [cRl0_built, e5]
  have w0 : SF (cRl0 S (kR R g) g) 6 0 = g := by rw [sb, nf_in (by decide) (by decide)]; exact p0
  have w1 : SF (cRl0 S (kR R g) g) 6 1 = gt (kR R g) 0 2 := by rw [sb, nf_in (by decide) (by decide)]; exact p1
  have w4 : SF (cRl0 S (kR R g) g) 6 4 = rMis s g r (s 1) := by rw [sb, nf_in (by decide) (by decide)]; exact p4
  have w5 : SF (cRl0 S (kR R g) g) 6 5 = rMsk s g r (s 1) := by rw [sb, nf_in (by decide) (by decide)]; exact p5
  have wv : ∀ u, 0 ≤ u → u < 10 → rBit (rMsk s g r (s 1)) u → SF (cRl0 S (kR R g) g) 6 (6 + u) = V u ∧ SF (cRl0 S (kR R g) g) 6 (16 + u) = F u := fun u a b z => by
    obtain ⟨y1, y2, y3⟩ := (pb u a b).mp z
    obtain ⟨⟨vx, vy⟩, hq⟩ := Option.isSome_iff_exists.mp y3
    rw [sb, nf_in (by omega) (by omega), nf_in (by omega) (by omega), (pv u a b y1 y2 vx vy hq).1, (pv u a b y1 y2 vx vy hq).2, (hV u a y1 y2 vx vy hq).1, (hV u a y1 y2 vx vy hq).2]
    exact ⟨rfl, rfl⟩
  have eR : rRel s g (gt (kR R g) 0 2) r V F = cif (g = 0) (rOut (rB s g (gt (kR R g) 0 2) (rMsk s g r (s 1)) V F) (gt (kR R g) 0 2) (rMsk s g r (s 1)) (rMis s g r (s 1)) (rFlg s g r (s 1)) V F) (rSends (rB s g (gt (kR R g) 0 2) (rMsk s g r (s 1)) V F) g (gt (kR R g) 0 2) (rMsk s g r (s 1)) V F) := rfl
  rw [eR]
  unfold cRl
  by_cases q : g = 0
  · rw [cif_t q]
    have e : cTl (cRl0 S (kR R g) g) (upR R (13 + 7 * g.toNat) ((kR R g).drop (cEnd (kR R g) 0).toNat)) g = (cPut (cRl0 S (kR R g) g), upR R (13 + 7 * g.toNat) ((kR R g).drop (cEnd (kR R g) 0).toNat)) := by unfold cTl; rw [if_pos q]
    rw [e]
    exact hh.outs (by omega) pm w1 w4 w5 (by rw [sb]; exact fl) wv
  · rw [cif_f q]
    rw [← b2] at hh ⊢
    exact hh.sends hO hp ⟨by omega, by omega⟩ (by omega) z4 w0 w1 w5 wv
/-- of one child no more than twenty frames are of one slot -/
theorem Sim.pick20 {s : Int → Int} {t : Int} {O : List (Int × Int)} {C : Int} {S : Nat → Int → Int} {R : Nat → List FV} {g c u : Int} {ov : Prop} (h : Sim s t O C S R) (hg : 0 ≤ g ∧ g < s 0) (hl : 0 < (kR R g).length) (hu : 0 ≤ u ∧ u < 10) : (cPick (kR R g) c u ov (cEnd (kR R g) 0)).length ≤ 20 := by
  have hI := h.RowOK hg
  obtain ⟨hr, hd, hf, hk⟩ := h
  have hs := hd.1
  have hs7 := hs.2.2.1.1
  have hK := (hr.2.1 g hg.1 hg.2).2
  have re := cEnd_rng (L := kR R g) (st := 0) (by omega) (by omega)
  by_cases c15 : 0 ≤ c ∧ c < 15
  · obtain ⟨k1, k2, k3⟩ := kid_dik c15
    have g20 : ∀ al, (rGath s g u (dik c) (gt (kR R g) 0 2) al (s 7)).length ≤ 20 := fun al => by
      rw [gath_is hs7, List.length_map]
      have nd : ((irP (s 7) (rGT s g u (dik c) (gt (kR R g) 0 2) al)).map (fun f => rFr s f 3)).Nodup := by
        refine List.pairwise_map.mpr (List.Pairwise.imp_of_mem (fun {a b} ha hb kk q => kk ?_) irP_nodup)
        obtain ⟨i1, m1⟩ := irP_mem.mp ha
        obtain ⟨i2, m2⟩ := irP_mem.mp hb
        exact hf.uniq i1 i2 m1.1.1 m2.1.1 (m1.1.2.1.trans m2.1.2.1.symm) q
      have sb : ∀ x, x ∈ (irP (s 7) (rGT s g u (dik c) (gt (kR R g) 0 2) al)).map (fun f => rFr s f 3) → x ∈ (ir 20).map (fun j => gt (kR R g) 0 2 - j) := fun x hx => by
        obtain ⟨f, hf2, rfl⟩ := List.mem_map.mp hx
        obtain ⟨i1, m1⟩ := irP_mem.mp hf2
        have kk := m1.1.1
        have fo := (hf.1 f i1 (by rw [kk.1]; decide)).2
        have ko := hf.2.1 f i1 kk.1
        have sl := fo.slot hs
        have e := kk.2.2
        have e2 := ko.1
        refine List.mem_map.mpr ⟨gt (kR R g) 0 2 - rFr s f 3, ir_mem.mpr ⟨by omega, by omega⟩, by omega⟩
      have := List.Nodup.length_le_of_subset nd sb
      rw [List.length_map, List.length_map] at this
      exact this
    by_cases q : ov
    · have := (pick_perm (c := dik c) (al := 0) hs7 hK hf (hk g hg.1 hg.2).1 hl ⟨k2, k3⟩ hu ⟨fun _ => rfl, fun _ => q⟩).length_eq
      rw [k1] at this
      rw [this]; exact g20 0
    · have := (pick_perm (c := dik c) (al := 1) hs7 hK hf (hk g hg.1 hg.2).1 hl ⟨k2, k3⟩ hu ⟨fun z => absurd z q, fun z => absurd z (by decide)⟩).length_eq
      rw [k1] at this
      rw [this]; exact g20 1
  · have e : cPick (kR R g) c u ov (cEnd (kR R g) 0) = [] := by
      unfold cPick
      refine fI_ind (fun _ x => x = []) (by omega) rfl (fun i x a b ih => ?_)
      rw [cif_f (fun z => ?_)]
      · exact ih
      · have m : gt (kR R g) i 0 = c := z.1.1
        have := (hI.1.2.2.1 i a (by omega)).1
        rw [m] at this
        exact c15 this
    rw [e]
    exact Nat.zero_le _
theorem Sim.len {s : Int → Int} {t : Int} {O : List (Int × Int)} {C : Int} {S : Nat → Int → Int} {R : Nat → List FV} (h : Sim s t O C S R) (hO : O.length ≤ 512) : (∀ g, 0 ≤ g → g < s 0 → (kR R g).length ≤ 552) ∧ (R 3).length ≤ 552 := by
  obtain ⟨hr, hd, hf, hk⟩ := h
  have al := hf.alive
  constructor
  · intro g a b
    obtain ⟨_, J, ⟨hJ, hm⟩, hl⟩ := RelK.iff.mp (hr.2.1 g a b).2
    have := len_le_of hJ (m := irP (s 7) (fun f => ¬ rFr s f 0 = 0)) (fun f hf2 => by
      have m := (hm f).mp hf2
      exact irP_mem.mpr ⟨m.1, by rw [m.2.1]; decide⟩)
    rw [← hl.len]
    omega
  · obtain ⟨_, J, ⟨hJ, hm⟩, _, hl⟩ := RelW.iff.mp hr.2.2.2.2
    have := len_le_of hJ (m := irP (s 7) (fun f => ¬ rFr s f 0 = 0)) (fun f hf2 => by
      have m := (hm f).mp hf2
      exact irP_mem.mpr ⟨m.1, by have : rFr s f 0 = 1 := m.2; omega⟩)
    rw [← hl.len]
    omega
/-- the rows of hubs that are not there -/
def LI (s : Int → Int) (R : Nat → List FV) : Prop := ∀ q, s 0 ≤ q → q < 5 → (kR R q).length ≤ 600
theorem Sim.RlOK {s : Int → Int} {t : Int} {O : List (Int × Int)} {C : Int} {S : Nat → Int → Int} {R : Nat → List FV} {g : Int} (h : Sim s t O C S R) (hO : O.length ≤ 512) (hL : LI s R) (hg : 0 ≤ g ∧ g < s 0) : RlOK S R g := by
  have hI := h.RowOK hg
  have ci := h.CI
  have ln := h.len hO
  have p20 := fun (hl : 0 < (kR R g).length) (c u : Int) (ov : Prop) (hu : 0 ≤ u ∧ u < 10) => h.pick20 (c := c) (ov := ov) hg hl hu
  have sl := fun hl => (h.slot0 hg hl).2.2.2.1
  obtain ⟨hr, hd, hf, hk⟩ := h
  have hg0 := hd.2.2.1 g hg.1 hg.2
  have hcn := hd.2.2.2.2.1
  obtain ⟨t0, t1, t2, t4, _⟩ := hr.1
  refine ⟨ci, ⟨hg.1, by rw [← t0]; exact hg.2⟩, hI.1.2.2.1, ?_, by rw [← t2]; exact ⟨hcn.1, hcn.2.1⟩, fun q a b => ?_, by have := ln.2; omega, by rw [← t4]; omega, fun z => ?_, fun hl => ⟨?_, fun c u a b => p20 hl c u _ ⟨a, b⟩⟩⟩
  · rw [← hr.cs hg (by decide)]; exact hg0.1
  · by_cases z : q < s 0
    · have := ln.1 q a z; omega
    · have := hL q (by omega) b; omega
  · rw [← hr.up hg]; exact hd.2.1.2 g (by omega) hg.2
  · have := sl hl
    omega
theorem cTl_g {S : Nat → Int → Int} {R : Nat → List FV} {g q : Int} (hg : 0 ≤ g ∧ g < 5) (hq : 0 ≤ q ∧ q < 5) (hv : SF S 6 0 = g) (hu : cH S g 3 ≠ q) (h0 : g ≠ 0 → 0 ≤ cH S g 3) : kR (cTl S R g).2 q = kR R q := by
  unfold cTl
  by_cases z : g = 0
  · rw [if_pos z]
  · rw [if_neg z]
    by_cases w : cSe S g 3 = 0
    · rw [if_pos w]
      unfold cArB
      dsimp only
      have et : cTgt S (SF S 6 0) = cH S g 3 := by unfold cTgt; rw [hv, if_pos hg.2]
      rw [et]
      generalize cSlt S (cH S g 3) (SF S 6 1) (cPer S (SF S 6 0)) = y
      by_cases x : cLate S (cH S g 3) (SF S 6 0) y
      · rw [cif_t x]
      · rw [cif_f x]
        by_cases x2 : cHas (kR R (cH S g 3)) y (SF S 6)
        · rw [cif_t x2]
        · rw [cif_f x2]
          have := h0 z
          exact upR_ne (by omega)
    · rw [if_neg w]
      exact kR_up3
theorem Sim.relRows {s : Int → Int} {t : Int} {O : List (Int × Int)} {C : Int} {S : Nat → Int → Int} {R : Nat → List FV} {g : Int} {r : Int → Option (Int × Int)} (h : Sim s t O C S R) (hg : 0 ≤ g ∧ g < s 0) (hl : 0 < (kR R g).length) (hr : ∀ u, 0 ≤ u → u < s 1 → rIsOf s g u → RRead s g u (gt (kR R g) 0 2) (r u)) : (kR (cRl S R g).2 g).length < (kR R g).length ∧ ∀ q, s 0 ≤ q → q < 5 → kR (cRl S R g).2 q = kR R q := by
  have hs := h.2.1.1
  have h00 := hs.1
  have g5 : 0 ≤ g ∧ g < 5 := ⟨hg.1, by omega⟩
  have e5 : cT S 5 = s 1 := h.1.1.2.1.symm
  have bu := cB_is h.1 h.CI hs hg h.2.2.1 (h.2.2.2 g hg.1 hg.2).1 hl hr
  have w0 : SF (cRl0 S (kR R g) g) 6 0 = g := by rw [cRl0_built, e5, nf_in (by decide) (by decide)]; exact bu.1.1
  have up : cH (cRl0 S (kR R g) g) g 3 = rOf s g 5 := (cRl0_at (by omega) (by omega) (by omega) (by omega)).trans (h.1.up hg).symm
  have lt := (hs.2.2.2.2.1 g hg.1 hg.2).2.1
  have up0 : g ≠ 0 → 0 ≤ cH (cRl0 S (kR R g) g) g 3 := fun z => by rw [up]; exact h.2.1.2.1.2 g (by omega) hg.2
  have re := cEnd_rng (L := kR R g) (st := 0) (by omega) (by omega)
  constructor
  · unfold cRl
    rw [cTl_g g5 g5 w0 (by rw [up]; omega) up0]
    have e : kR (upR R (13 + 7 * g.toNat) ((kR R g).drop (cEnd (kR R g) 0).toNat)) g = (kR R g).drop (cEnd (kR R g) 0).toNat := upR_eq
    rw [e, List.length_drop]
    omega
  · intro q a b
    unfold cRl
    rw [cTl_g g5 ⟨by omega, b⟩ w0 (by rw [up]; omega) up0]
    exact upR_ne (by omega)

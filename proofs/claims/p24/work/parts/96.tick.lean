/-! THE INVARIANTS: a tick -/
/-- at most 20 frames of a child in a slot -/
theorem pick_st {L : List FV} (hd : L.Pairwise DifF) {c u : Int} {ov : Prop} : ∀ n : Nat, n ≤ L.length → ∃ P : List Int, P.length = (cPick L c u ov n).length ∧ P.Nodup ∧ ∀ x, x ∈ P → ∃ i : Int, 0 ≤ i ∧ i < n ∧ gt L i 0 = c ∧ x = gt L i 1
  | 0, _ => ⟨[], (by rw [show ((0 : Nat) : Int) = 0 by rfl, cPick_0]; rfl), List.nodup_nil, fun x hx => absurd hx List.not_mem_nil⟩
  | n + 1, hn => by
    obtain ⟨P, h1, h2, h3⟩ := pick_st hd (c := c) (u := u) (ov := ov) n (by omega)
    rw [show ((n + 1 : Nat) : Int) = (n : Int) + 1 by omega, cPick_succ (by omega)]
    rcases Classical.em (cM3 L c u ov n) with k | k
    · rw [cif_t k]
      refine ⟨gt L (n : Int) 1 :: P, by rw [List.length_cons, List.length_append, h1]; rfl, List.nodup_cons.mpr ⟨fun hm => ?_, h2⟩, fun x hx => ?_⟩
      · obtain ⟨i, i0, i1, ic, ie⟩ := h3 _ hm
        obtain ⟨m, rfl⟩ := Int.eq_ofNat_of_zero_le i0
        have := (List.pairwise_iff_getElem.mp hd) m n (by omega) (by omega) (by omega)
        rw [← gt_nat (by omega), ← gt_nat (by omega)] at this
        exact this ⟨ic.trans k.1.1.symm, ie.symm⟩
      · rcases List.mem_cons.mp hx with z | z
        · exact ⟨n, by omega, by omega, k.1.1, z⟩
        · obtain ⟨i, i0, i1, q⟩ := h3 x z
          exact ⟨i, i0, by omega, q⟩
    · rw [cif_f k]
      refine ⟨P, h1, h2, fun x hx => ?_⟩
      obtain ⟨i, i0, i1, q⟩ := h3 x hx
      exact ⟨i, i0, by omega, q⟩
theorem HubK.pick20 {S : Nat → Int → Int} {R : Nat → List FV} {g : Int} (h : HubK S R g) (hl : 0 < (kR R g).length) {c u : Int} {ov : Prop} : (cPick (kR R g) c u ov (cEnd (kR R g) 0)).length ≤ 20 := by
  obtain ⟨q1, q2, q3, _, _⟩ := h
  have rE := cEnd_rng (L := kR R g) (st := 0) (by decide) (by omega)
  obtain ⟨e, he⟩ := Int.eq_ofNat_of_zero_le (show 0 ≤ cEnd (kR R g) 0 by omega)
  obtain ⟨P, h1, h2, h3⟩ := pick_st q3 (c := c) (u := u) (ov := ov) e (by omega)
  rw [he, ← h1]
  have := List.Nodup.length_le_of_subset (l₂ := (List.range 20).map (fun (j : Nat) => gt (kR R g) 0 2 - (j : Int))) h2 (fun x hx => by
    obtain ⟨i, i0, i1, ic, ie⟩ := h3 x hx
    have k := (q1 _ (gt_mem (L := kR R g) (i := i) i0 (by omega))).2.1
    have s := cEnd_in (L := kR R g) (i := i) (Int.le_refl 0) i0 (by omega)
    refine List.mem_map.mpr ⟨(gt (kR R g) 0 2 - x).toNat, List.mem_range.mpr (by omega), by omega⟩)
  rw [List.length_map, List.length_range] at this
  exact this
theorem IvvN.rowok {n : Int} {S : Nat → Int → Int} {R : Nat → List FV} (h : IvvN n S R) {g : Int} (hg : 0 ≤ g ∧ g < 4) : RowOK (kR R g) := by
  intro i a b
  have k := (h.1.2.2.1 g hg.1 hg.2).1 _ (gt_mem (L := kR R g) (i := i) a b)
  have s := slB_le h.1.1 hg
  have t := h.1.2.1
  obtain ⟨⟨k1, k2⟩, k3, k4, k5, k6, k7, k8⟩ := k
  refine ⟨?_, by omega, by omega⟩
  rcases k1 with z | z <;> omega
theorem IvvN.rlok {n : Int} {S : Nat → Int → Int} {R : Nat → List FV} (h : IvvN n S R) (hn : n ≤ 100) {g : Int} (hg : 0 ≤ g ∧ g < 4) : RlOK S R g := by
  have hr := h.rowok hg
  have hC := h.1
  have hN := h.2.2.1
  obtain ⟨hc, h6, hh, ho, h7, hl⟩ := hC
  have s0 := slB_le hc (g := 0) ⟨by decide, by decide⟩
  refine ⟨hc.ci, ⟨hg.1, by rw [hc.1.1]; exact hg.2⟩, hr, (hc.2.2.2.1 g hg.1 hg.2).2.1, by omega, fun q a b => ?_, by omega, ?_, fun q => (hc.up (g := g) (by omega) hg.2).1.1, fun q => ⟨?_, fun c u _ _ => (hh g hg.1 hg.2).pick20 q⟩⟩
  · by_cases q4 : q = 4
    · rw [q4, hN.2]; decide
    · have := TKR_le (R := R) (g := q) ⟨a, by omega⟩
      omega
  · rw [h7]
    rcases (hh 0 (by decide) (by decide)).2.2.2.2 with z | z <;> omega
  · have k := (hh g hg.1 hg.2).1 _ (gt_mem (L := kR R g) (i := 0) (by decide) (by omega))
    have s := slB_le hc hg
    have := k.2.1
    omega
theorem chd_sq {S S' : Nat → Int → Int} (hc : CfgS S) (x : SqC S S') (hu : ∀ u : Int, 0 ≤ u → u < 5 → cU S' u = cU S u) {g c : Int} (c0 : 0 ≤ c) (h : cChild S g c) : cChild S' g c ∧ cPer S' c = cPer S c := by
  unfold cChild cPer at *
  rw [x.1.1, x.1.2]
  have a := hc.1.1
  have b := hc.1.2
  rcases h with ⟨h1, h2, h3⟩ | ⟨h1, h2, h3, h4⟩
  · have e := x.2.1 c c0 (by omega)
    rw [if_pos h1, if_pos h1, e.1, e.2.2]
    exact ⟨Or.inl ⟨h1, h2, h3⟩, rfl⟩
  · rw [if_neg (by omega), if_neg (by omega), hu (c - 5) (by omega) (by omega)]
    exact ⟨Or.inr ⟨h1, h2, h3, h4⟩, rfl⟩
theorem rdy_sq {S S' : Nat → Int → Int} {R R' : Nat → List FV} (hc : CfgS S) (x : SqC S S') (hu : ∀ u : Int, 0 ≤ u → u < 5 → cU S' u = cU S u) (h6 : cT S' 6 = cT S 6) {g : Int} (hg : 0 ≤ g ∧ g < 4) (hr : kR R' g = kR R g) (h : cReady S' R' g) : cReady S R g := by
  unfold cReady at *
  rw [hr, h6] at h
  refine ⟨h.1, ?_⟩
  rcases h.2 with z | z
  · left
    unfold cWait at *
    rw [x.se hg] at z
    exact z
  · right
    intro c a b k
    obtain ⟨k1, k2⟩ := chd_sq hc x hu a k
    have := z c a b k1
    unfold cExp at *
    rw [k2, x.se hg] at this
    exact this
def PrcD (S : Nat → Int → Int) (dd hh g : Int) : Prop := dd < cH S g 4 ∨ (dd = cH S g 4 ∧ g < hh)
def NRD (S : Nat → Int → Int) (R : Nat → List FV) (dd hh : Int) : Prop := ∀ g : Int, 0 ≤ g → g < 4 → PrcD S dd hh g → ¬ cReady S R g
def PRk (n T c0 hh dd : Int) (k : Nat) (S : Nat → Int → Int) (R : Nat → List FV) : Prop := IvvN n S R ∧ cT S 6 = T ∧ c0 ≤ cT S 7 ∧ NRD S R dd hh ∧ cH S hh 4 = dd ∧ (kR R hh).length ≤ k
theorem PRk.sx {n T c0 hh dd : Int} {k : Nat} {S S' : Nat → Int → Int} {R : Nat → List FV} (h : PRk n T c0 hh dd k S R) (x : SX S S') : PRk n T c0 hh dd k S' R := by
  have q : Sq S S' := fun m k a b _ => congrFun (x m (by omega) (by omega) (by omega) (by omega) (by omega)) k
  obtain ⟨a, b, c, d, e, f⟩ := h
  refine ⟨a.sqq q, by rw [q.t]; exact b, by rw [q.t]; exact c, fun g p r z => ?_, by rw [q.hh (by decide) (by decide)]; exact e, f⟩
  unfold PrcD at z
  rw [q.hh (by decide) (by decide)] at z
  exact fun y => d g p r z (rdy_sq a.1.1 q.c (fun u _ _ => by rw [q.u]) (by rw [q.t]) ⟨p, r⟩ rfl y)
theorem PRk.step {n T c0 hh dd : Int} (hg : 0 ≤ hh ∧ hh < 4) {k : Nat} {S : Nat → Int → Int} {R : Nat → List FV} (h : PRk n T c0 hh dd k S R) (hr : cReady S R hh) : PRk n T c0 hh dd (k - 1) (cRl S R hh).1 (cRl S R hh).2 := by
  obtain ⟨a, b, c, d, e, f⟩ := h
  have hc := a.1.1
  obtain ⟨i, s6, s7, sc, su, sr, sl⟩ := a.rl hg hr.1
  generalize cRl S R hh = p at *
  refine ⟨i, by rw [s6]; exact b, by omega, fun g x y z => ?_, by rw [(sc.2.1 hh hg.1 (by omega)).2.1]; exact e, by omega⟩
  unfold PrcD at z
  rw [(sc.2.1 g x (by omega)).2.1] at z
  refine fun w => d g x y z (rdy_sq hc sc su s6 ⟨x, y⟩ (sr g x ?_ ?_) w)
  · intro q
    subst q
    rcases z with z | z <;> omega
  · intro q
    by_cases h0 : hh = 0
    · have := hc.2.1.1
      rw [h0, this] at q
      omega
    · have := hc.up (g := hh) (by omega) hg.2
      rw [← q] at this
      rcases z with z | z <;> omega
def PTk (n T c0 i : Int) (S : Nat → Int → Int) (R : Nat → List FV) : Prop := IvvN n S R ∧ cT S 6 = T + i ∧ c0 ≤ cT S 7 ∧ (0 < i → ∀ g : Int, 0 ≤ g → g < 4 → ¬ cReady S R g)
def PBk (n T c0 i dd hh : Int) (S : Nat → Int → Int) (R : Nat → List FV) : Prop := IvvN n S R ∧ cT S 6 = T + i + 1 ∧ c0 ≤ cT S 7 ∧ NRD S R dd hh ∧ (0 ≤ hh ∧ hh ≤ 4)
theorem sp_el {d : Nat} {n m : Int} (hn : n ≤ 100) {t : Nat} {h : HP} {o : Nat → Nat} {w : Nat → Nat × Nat} {S : Nat → Int → Int} {R : Nat → List FV} (hI : IvvN n S R) (hm : 0 ≤ m ∧ cT S 6 + m ≤ 1000) (TT : TR t h o w S R) {Q : HP → Prop} (K : ∀ H' o' w' S' R', ExtT h o w t H' o' w' → TR t H' o' w' S' R' → PTk n (cT S 6) (cT S 7) m S' R' → Q H') : CaV (d + 5) 134 [.inr (some t), .inl m] h Q := by
  have t0 := hI.1.2.1
  refine sp_T_elapse (PT := PTk n (cT S 6) (cT S 7)) (PB := PBk n (cT S 6) (cT S 7)) (fun i S1 R1 h1 a b => ?_) (fun i dd hh S1 R1 h1 => ?_) (fun i dd hh S1 R1 h1 a b c => ?_) (fun i dd hh S1 R1 h1 a b => ?_) (fun i dd S1 R1 h1 => ?_) (fun i S1 R1 h1 => ?_) (by omega) hm.1 TT ⟨hI, by omega, Int.le_refl _, fun q => absurd q (by decide)⟩ K
  · obtain ⟨p1, p2, p3, p4⟩ := h1
    have p5 := p1.time (by omega)
    obtain ⟨b1, b2⟩ := p5.br
    have e6 : cT (upX S1 0 6 (cT S1 6 + 1)) 6 = cT S1 6 + 1 := upX_is
    have e7 : cT (upX S1 0 6 (cT S1 6 + 1)) 7 = cT S1 7 := upX_at (by omega)
    refine ⟨by omega, p5.duok hn, b1, by rw [b2.t, e6]; omega, by rw [b2.t, e7]; exact p3, fun g x y z => ?_, by decide, by decide⟩
    have := b1.1.1.dp x y
    rcases z with z | z <;> omega
  · have := h1.1.1.1.1.1
    have := h1.2.2.2.2
    omega
  · obtain ⟨p1, p2, p3, p4, p5⟩ := h1
    have c4 := p1.1.1.1.1
    intro h' o' w' Q' TR' K'
    have hg : 0 ≤ hh ∧ hh < 4 := ⟨p5.1, by omega⟩
    refine sp_T_releaseReadySlots (P := PRk n (cT S 6 + i + 1) (cT S 7) hh dd) (fun k S2 R2 q => ⟨q.1.rlok hn hg, q.2.2.2.2.2⟩) (fun k S2 S3 R2 q x => q.sx x.1) (fun k S2 R2 q r => q.step hg r) (fun H2 o2 w2 k S2 R2 E T q r => ?_) TR' (k := (kR R1 hh).length) ⟨p1, p2, p3, p4, c, Nat.le_refl _⟩ rfl
    obtain ⟨q1, q2, q3, q4, q5, q6⟩ := q
    refine K' H2 o2 w2 S2 R2 E T ⟨q1, q2, q3, fun g x y z => ?_, by omega, by omega⟩
    by_cases e : g = hh
    · rw [e]; exact r
    · refine q4 g x y ?_
      unfold PrcD at *
      omega
  · obtain ⟨p1, p2, p3, p4, p5⟩ := h1
    have c4 := p1.1.1.1.1
    refine ⟨p1, p2, p3, fun g x y z => ?_, by omega, by omega⟩
    refine p4 g x y ?_
    unfold PrcD at *
    by_cases e : g = hh
    · rw [e] at z ⊢; omega
    · omega
  · obtain ⟨p1, p2, p3, p4, p5⟩ := h1
    have c4 := p1.1.1.1.1
    refine ⟨p1, p2, p3, fun g x y z => ?_, by decide, by decide⟩
    refine p4 g x y ?_
    unfold PrcD at *
    omega
  · obtain ⟨p1, p2, p3, p4, p5⟩ := h1
    refine ⟨p1, by omega, p3, fun _ g x y => p4 g x y ?_⟩
    have := p1.1.1.dp x y
    exact Or.inl (by omega)

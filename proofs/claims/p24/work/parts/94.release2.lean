/-! THE INVARIANTS: a whole release keeps them -/
theorem CoreS.sqq {S S' : Nat → Int → Int} {R R' : Nat → List FV} (h : CoreS S R) (x : Sq S S') (hr : ∀ g : Int, 0 ≤ g → g < 4 → kR R' g = kR R g) : CoreS S' R' := by
  obtain ⟨hc, ht, hh, ho, h7, hl⟩ := h
  exact ⟨hc.sqq x, by rw [x.t]; exact ht, fun g a b => (hh g a b).sqq ⟨a, b⟩ x (hr g a b), ho.sqq x, by rw [x.t, x.hh (by decide) (by decide)]; exact h7, hl.sqq x⟩
theorem put_t {S : Nat → Int → Int} {k : Int} (h7 : k ≠ 7) (h8 : k ≠ 8) : cT (cPut S) k = cT S k := by
  unfold cT cPut
  rw [upX_at (fun q => h7 q.2), upF_ne (by omega) (by omega) (by omega), upF_ne (by omega) (by omega) (by omega), upX_at (fun q => h8 q.2)]
theorem put_t7 {S : Nat → Int → Int} : cT (cPut S) 7 = cT S 7 + 1 := by
  unfold cPut
  exact upX_is
theorem put_t8 {S : Nat → Int → Int} : cT (cPut S) 8 = cMost S := by
  unfold cPut
  show upX _ _ _ _ 0 8 = _
  rw [upX_at (by omega), upF_ne (by omega) (by omega) (by omega), upF_ne (by omega) (by omega) (by omega)]
  exact upX_is
theorem put_ne {S : Nat → Int → Int} {m : Nat} (h0 : m ≠ 0) (h1 : 8 < m) (h2 : m < 56) : cPut S m = S m := by
  unfold cPut
  rw [upX_ne (by omega), upF_ne (by omega) (by omega) (by omega), upF_ne (by omega) (by omega) (by omega), upX_ne (by omega)]
theorem put_o {S : Nat → Int → Int} : SF (cPut S) (56 + 3 * (cT S 7 % 8).toNat) = ups (SF S 6) 3 (cT S 6) := by
  unfold cPut
  rw [SF_upX (by omega) (by omega) (by omega), SF_upF, nf_ups (by decide) (by decide), nf_SF]
theorem put_on {S : Nat → Int → Int} {k : Nat} (h : k ≠ (cT S 7 % 8).toNat) : SF (cPut S) (56 + 3 * k) = SF S (56 + 3 * k) := by
  unfold cPut
  rw [SF_upX (by omega) (by omega) (by omega), SF_ne (by omega), SF_ne (by omega), SF_upX (by omega) (by omega) (by omega)]
theorem put_h {S : Nat → Int → Int} {g : Int} (hg : 0 ≤ g ∧ g < 4) : cH (cPut S) g = cH S g := put_ne (by omega) (by omega) (by omega)
theorem put_u {S : Nat → Int → Int} {u : Int} (hu : 0 ≤ u ∧ u < 5) : cU (cPut S) u = cU S u := put_ne (by omega) (by omega) (by omega)
theorem CoreS.put {S : Nat → Int → Int} {R : Nat → List FV} (hc : CfgS S) (ht : 0 ≤ cT S 6 ∧ cT S 6 ≤ 1000) (hh : ∀ g : Int, 0 ≤ g → g < 4 → HubK S R g) (ho : OutQ S) (h0 : 0 ≤ cT S 7) (h7 : cH S 0 5 = cT S 7 + 1) (hf : FlK (SF S 6)) (hs : 0 ≤ SF S 6 1 ∧ SF S 6 1 ≤ 1060) (h8 : cH S 0 8 = SF S 6 1) (hl : 0 < cT S 7 → OFS S 0 1 < SF S 6 1) : CoreS (cPut S) R ∧ SqC S (cPut S) := by
  have sc : SqC S (cPut S) := by
    refine ⟨⟨put_t (by decide) (by decide), put_t (by decide) (by decide)⟩, fun g a b => ?_, fun u a b => by rw [put_u ⟨a, b⟩]; exact ⟨rfl, rfl⟩⟩
    have e1 : cH (cPut S) g = cH S g := put_ne (by omega) (by omega) (by omega)
    have e2 : cSe (cPut S) g = cSe S g := put_ne (by omega) (by omega) (by omega)
    rw [e1, e2]
    exact ⟨rfl, rfl, rfl⟩
  have m0 := Int.emod_nonneg (cT S 7) (show (8 : Int) ≠ 0 by decide)
  have m1 := Int.emod_lt_of_pos (cT S 7) (show (0 : Int) < 8 by decide)
  have e0 : OFS (cPut S) 0 = ups (SF S 6) 3 (cT S 6) := by
    unfold OFS
    rw [put_t7, show cT S 7 + 1 - 1 - 0 = cT S 7 by omega]
    exact put_o
  have e1 : ∀ i : Int, 1 ≤ i → i ≤ 7 → OFS (cPut S) i = OFS S (i - 1) := fun i a b => by
    unfold OFS
    rw [put_t7, show cT S 7 + 1 - 1 - i = cT S 7 - 1 - (i - 1) by omega]
    exact put_on (by omega)
  have em : cT S 6 - SF S 6 1 ≤ cMost S ∧ (0 < cT S 7 → cT S 8 ≤ cMost S) := by
    unfold cMost
    by_cases q : cT S 7 = 0
    · rw [if_pos q]; exact ⟨Int.le_refl _, fun z => by omega⟩
    · rw [if_neg q]
      unfold e_mxF
      split <;> exact ⟨by omega, fun _ => by omega⟩
  have ek : cKept (cPut S) = if cT S 7 + 1 ≤ 8 then cT S 7 + 1 else 8 := by unfold cKept e_mnF; rw [put_t7]
  have ek0 : cKept S = if cT S 7 ≤ 8 then cT S 7 else 8 := rfl
  have b3 : ups (SF S 6) 3 (cT S 6) 3 = cT S 6 := ups_eq rfl
  have b1 : ups (SF S 6) 3 (cT S 6) 1 = SF S 6 1 := ups_ne (by decide)
  have e6 : cT (cPut S) 6 = cT S 6 := put_t (by decide) (by decide)
  refine ⟨⟨hc.sq sc (fun u a b => by rw [put_u ⟨a, b⟩]; exact (hc.2.2.2.2.1 u a b).2.2), by rw [e6]; exact ht, fun g a b => ?_, fun i a b => ?_, ?_, fun _ => ?_⟩, sc⟩
  · refine (hh g a b).sq ⟨a, b⟩ sc (by rw [put_h ⟨a, b⟩]) (by rw [put_h ⟨a, b⟩]) (by rw [e6]; exact Int.le_refl _) rfl ?_
    unfold SF
    rw [put_ne (by omega) (by omega) (by omega), put_ne (by omega) (by omega) (by omega), put_ne (by omega) (by omega) (by omega)]
  · rw [ek] at b
    rw [ek, put_t8, e6]
    by_cases q : i = 0
    · rw [q, e0, b3, b1]
      refine ⟨hf.up (fun k hk => ups_ne (by omega)), by omega, fun z => ?_⟩
      have z1 : 0 < cT S 7 := by split at z <;> omega
      have o := ho 0 (by decide) (by rw [ek0]; split <;> omega)
      rw [show (0 : Int) + 1 = 1 by decide, e1 1 (by decide) (by decide), show (1 : Int) - 1 = 0 by decide]
      exact ⟨hl z1, by omega⟩
    · have i7 : i ≤ 7 := by split at b <;> omega
      have i1 : i - 1 < cKept S := by rw [ek0]; split at b <;> split <;> omega
      have o := ho (i - 1) (by omega) i1
      have z1 : 0 < cT S 7 := by split at b <;> omega
      have em2 := em.2 z1
      rw [e1 i (by omega) i7]
      refine ⟨o.1, by omega, fun z => ?_⟩
      have i8 : i + 1 ≤ 7 := by split at z <;> omega
      rw [e1 (i + 1) (by omega) i8, show i + 1 - 1 = i - 1 + 1 by omega]
      refine o.2.2 ?_
      rw [ek0]; split at z <;> split <;> omega
  · rw [put_t7, put_h ⟨by decide, by decide⟩, h7]
  · rw [e0, b1, put_h ⟨by decide, by decide⟩, h8]
def IvvN (n : Int) (S : Nat → Int → Int) (R : Nat → List FV) : Prop := CoreS S R ∧ (∀ v, v ∈ R 3 → WayK S v) ∧ ((((R 3).length : Nat) : Int) + ((TKR R : Nat) : Int) ≤ n ∧ kR R 4 = []) ∧ ∀ u : Int, 0 ≤ u → u < 5 → (((R 3).countP (pd fun v => v 0 = 5 + u) : Nat) : Int) ≤ cU S u 3 ∧ cU S u 3 ≤ n
def StpR (S : Nat → Int → Int) (R : Nat → List FV) (g : Int) (S' : Nat → Int → Int) (R' : Nat → List FV) : Prop := cT S' 6 = cT S 6 ∧ cT S 7 ≤ cT S' 7 ∧ SqC S S' ∧ (∀ u : Int, 0 ≤ u → u < 5 → cU S' u = cU S u) ∧ (∀ x : Int, 0 ≤ x → x ≠ g → x ≠ cH S g 3 → kR R' x = kR R x) ∧ (kR R' g).length < (kR R g).length
theorem StpR.way {n : Int} {S S' : Nat → Int → Int} {R : Nat → List FV} (h : IvvN n S R) (x : SqC S S') : ∀ v, v ∈ R 3 → WayK S' v := fun v hv => (h.2.1 v hv).sq h.1.1 x
theorem IvvN.rl {n : Int} {S : Nat → Int → Int} {R : Nat → List FV} {g : Int} (h : IvvN n S R) (hg : 0 ≤ g ∧ g < 4) (hl : 0 < (kR R g).length) : IvvN n (cRl S R g).1 (cRl S R g).2 ∧ StpR S R g (cRl S R g).1 (cRl S R g).2 := by
  have hw := fun (S' : Nat → Int → Int) (x : SqC S S') => StpR.way h x
  obtain ⟨hC, _, ⟨hn, hk4⟩, hu⟩ := h
  obtain ⟨c1, c2, ⟨b0, b1, bf⟩, ⟨s0, s1, s2, s3⟩, h8, h5⟩ := hC.half hg hl
  obtain ⟨hc, ht, hh, ho, h7, hk⟩ := hC
  obtain ⟨sc, su⟩ := rl0_c (S := S) (L := kR R g) hg
  have st := rl0_t (S := S) (L := kR R g) (g := g)
  have hcl : CfgS (cRl0 S (kR R g) g) := hc.sq sc (fun u a b => by rw [su]; exact (hc.2.2.2.2.1 u a b).2.2)
  have rE := cEnd_rng (L := kR R g) (st := 0) (by decide) (by omega)
  have hT := TKR_up (R := R) (L := (kR R g).drop (cEnd (kR R g) 0).toNat) hg
  have hD : ((kR R g).drop (cEnd (kR R g) 0).toNat).length < (kR R g).length := by rw [List.length_drop]; omega
  have r3 : (upR R (13 + 7 * g.toNat) ((kR R g).drop (cEnd (kR R g) 0).toNat)) 3 = R 3 := upR_ne (by omega)
  have r4 : kR (upR R (13 + 7 * g.toNat) ((kR R g).drop (cEnd (kR R g) 0).toNat)) 4 = [] := by rw [kR_ne hg.1 (by decide) (by omega)]; exact hk4
  have rg : kR (upR R (13 + 7 * g.toNat) ((kR R g).drop (cEnd (kR R g) 0).toNat)) g = (kR R g).drop (cEnd (kR R g) 0).toNat := kR_eq
  have rx : ∀ x : Int, 0 ≤ x → x ≠ g → kR (upR R (13 + 7 * g.toNat) ((kR R g).drop (cEnd (kR R g) 0).toNat)) x = kR R x := fun x a b => kR_ne hg.1 a b
  have so : ∀ n, 56 ≤ n → SF (cRl0 S (kR R g) g) n = SF S n := fun n hn => by
    unfold SF
    rw [rl0_ne (by omega) (by omega), rl0_ne (by omega) (by omega), rl0_ne (by omega) (by omega)]
  have sh : ∀ x : Int, 0 ≤ x → x ≠ g → cH (cRl0 S (kR R g) g) x = cH S x := fun x a b => rl0_hx hg.1 a b
  unfold cRl
  generalize cRl0 S (kR R g) g = S1 at *
  generalize upR R (13 + 7 * g.toNat) ((kR R g).drop (cEnd (kR R g) 0).toNat) = R1 at *
  have t6 : 0 ≤ cT S1 6 ∧ cT S1 6 ≤ 1000 := by rw [st]; exact ht
  unfold cTl
  by_cases g0 : g = 0
  · rw [if_pos g0]
    subst g0
    have lk : 0 ≤ cT S 7 := by
      rcases (hh 0 (by decide) (by decide)).2.2.2.2 with z | z <;> omega
    have d0 := hc.2.2.1.1
    obtain ⟨cp, sp⟩ := CoreS.put hcl t6 c1 c2 (by rw [st]; exact lk) (by rw [st, h5, h7]) bf (by rw [b1]; unfold slB at s1; omega) (by rw [h8, b1]) (fun z => by
      rw [st] at z
      have := hk z
      unfold OFS at *
      rw [st, b1]
      have e : SF S1 (56 + 3 * ((cT S 7 - 1 - 0) % 8).toNat) = SF S (56 + 3 * ((cT S 7 - 1 - 0) % 8).toNat) := so _ (by omega)
      rw [e]; omega)
    dsimp only
    refine ⟨⟨cp, fun v hv => ?_, ⟨?_, r4⟩, fun u a b => ?_⟩, put_t (by decide) (by decide) |>.trans (by rw [st]), ?_, sc.trans sp, fun u a b => by rw [put_u ⟨a, b⟩, su], fun x a b _ => rx x a b, by rw [rg]; exact hD⟩
    · rw [r3] at hv
      exact hw _ (sc.trans sp) v hv
    · rw [r3]; omega
    · rw [r3, put_u ⟨a, b⟩, su]; exact hu u a b
    · rw [put_t7, st]; omega
  · rw [if_neg g0]
    have hup := hc.up (g := g) (by omega) hg.2
    have hch : ChOK g := Or.inl (by omega)
    have etg : cTgt S1 (SF S1 6 0) = cH S g 3 := by
      rw [b0]
      unfold cTgt
      rw [if_pos (by omega), (sc.2.1 g hg.1 (by omega)).1]
    have hwb : WayK S1 (SF S1 6) := by
      refine ⟨by rw [b0]; exact hch, ?_, ?_, bf⟩
      · rw [etg, b1]
        have e := (sc.2.1 (cH S g 3) hup.1.1 (by omega)).2.1
        unfold slB at *
        rw [e]
        omega
      · rw [b0, b1]
        unfold cPer
        rw [if_pos (by omega), (sc.2.1 g hg.1 (by omega)).2.2]
        exact s2
    have C1 : CoreS S1 R1 := ⟨hcl, t6, c1, c2, by rw [st, sh 0 (by decide) (fun q => g0 q.symm)]; exact h7, fun z => by
      rw [st] at z
      have := hk z
      unfold OFS at *
      rw [st, so _ (by omega), sh 0 (by decide) (fun q => g0 q.symm)]
      exact this⟩
    by_cases d0 : cSe S1 g 3 = 0
    · rw [if_pos d0]
      have hr := hcl.tg (c := SF S1 6 0) (by rw [b0]; exact hch)
      have A := ArrS.ofB (R := R1) hr
      have AR := A.rows hr
      have AS := A.1
      refine ⟨⟨C1.arr hwb A, fun v hv => ?_, ⟨?_, ?_⟩, fun u a b => ?_⟩, ?_, ?_, sc.trans AS.c, fun u a b => by rw [AS.u, su], fun x a b c => ?_, ?_⟩
      · rw [AR.1, r3] at hv
        exact hw _ (sc.trans AS.c) v hv
      · rw [AR.1, r3]
        have := AR.2.1
        omega
      · rw [AR.2.2 4 (by decide) (by rw [etg]; omega)]; exact r4
      · rw [AR.1, r3, AS.u, su]; exact hu u a b
      · rw [AS.t, st]
      · rw [AS.t, st]; exact Int.le_refl _
      · rw [AR.2.2 x a (by rw [etg]; exact c)]; exact rx x a b
      · rw [AR.2.2 g hg.1 (by rw [etg]; omega), rg]; exact hD
    · rw [if_neg d0]
      have AS : Sq S1 (upX (upF S1 6 (ups (SF S1 6) 3 (cT S1 6 + cSe S1 g 3))) 3 1 (((R1 3).length : Nat) + 1)) := Sq.f6.trans Sq.up3
      have hwv : WayK S1 (ups (SF S1 6) 3 (cT S1 6 + cSe S1 g 3)) := by
        obtain ⟨w1, w2, w3, w4⟩ := hwb
        have f0 : ups (SF S1 6) 3 (cT S1 6 + cSe S1 g 3) 0 = SF S1 6 0 := ups_ne (by decide)
        have f1 : ups (SF S1 6) 3 (cT S1 6 + cSe S1 g 3) 1 = SF S1 6 1 := ups_ne (by decide)
        refine ⟨by rw [f0]; exact w1, by rw [f0, f1]; exact w2, by rw [f0, f1]; exact w3, w4.up (fun k hk => ups_ne (by omega))⟩
      have fv : ups (SF S1 6) 3 (cT S1 6 + cSe S1 g 3) 0 = g := by rw [ups_ne (by decide)]; exact b0
      generalize ups (SF S1 6) 3 (cT S1 6 + cSe S1 g 3) = w at *
      dsimp only
      have i3 : upR R1 3 (insA (R1 3) ((R1 3).length : Nat) w) 3 = insA (R1 3) ((R1 3).length : Nat) w := upR_eq
      have iT : TKR (upR R1 3 (insA (R1 3) ((R1 3).length : Nat) w)) = TKR R1 := by unfold TKR; rw [kR_up3, kR_up3, kR_up3, kR_up3]
      refine ⟨⟨C1.sqq AS (fun x _ _ => kR_up3), fun v hv => ?_, ⟨?_, by rw [kR_up3]; exact r4⟩, fun u a b => ?_⟩, ?_, ?_, sc.trans AS.c, fun u a b => by rw [AS.u, su], fun x a b c => ?_, ?_⟩
      · rw [i3, insA_mem, r3] at hv
        rcases hv with z | z
        · rw [z]; exact hwv.sq hcl AS.c
        · exact hw _ (sc.trans AS.c) v z
      · rw [i3, insA_len, iT, r3]
        omega
      · rw [i3, insA_perm.countP_eq, List.countP_cons_of_neg (by rw [Bool.not_eq_true]; exact pd_f.mpr (show ¬ (w 0 = 5 + u) by omega)), AS.u, su, r3]
        exact hu u a b
      · rw [AS.t, st]
      · rw [AS.t, st]; exact Int.le_refl _
      · rw [kR_up3]; exact rx x a b
      · rw [kR_up3, rg]; exact hD

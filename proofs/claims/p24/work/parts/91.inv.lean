/-! THE INVARIANTS: the tree that the law builds, what its frames keep to -/
def ChOK (c : Int) : Prop := (1 ≤ c ∧ c ≤ 3) ∨ (5 ≤ c ∧ c ≤ 9)
def CfgS (S : Nat → Int → Int) : Prop := (cT S 4 = 4 ∧ cT S 5 = 5) ∧ (cH S 0 3 = -1 ∧ cH S 1 3 = 0 ∧ cH S 2 3 = 0 ∧ cH S 3 3 = 2) ∧ (cH S 0 4 = 0 ∧ cH S 1 4 = 1 ∧ cH S 2 4 = 1 ∧ cH S 3 4 = 2) ∧ (∀ g : Int, 0 ≤ g → g < 4 → (1 ≤ cSe S g 4 ∧ cSe S g 4 ≤ 20) ∧ (0 ≤ cSe S g 0 ∧ cSe S g 0 ≤ 40) ∧ 0 ≤ cSe S g 3 ∧ cSe S g 3 ≤ 20) ∧ (∀ u : Int, 0 ≤ u → u < 5 → (0 ≤ cU S u 0 ∧ cU S u 0 < 4) ∧ (1 ≤ cU S u 1 ∧ cU S u 1 ≤ 20) ∧ 0 ≤ cU S u 2 ∧ cU S u 2 ≤ 1) ∧ ∀ c, ChOK c → rGo (cPer S c) (cSe S (cTgt S c) 4)
def slB (S : Nat → Int → Int) (g : Int) : Int := 1060 - 20 * cH S g 4
def FlK (v : FV) : Prop := (0 ≤ v 5 ∧ v 5 < 32) ∧ ∀ u : Int, 0 ≤ u → u < 5 → fHas v u → 0 ≤ v (16 + u) ∧ v (16 + u) < 1024
def WayK (S : Nat → Int → Int) (v : FV) : Prop := ChOK (v 0) ∧ (0 ≤ v 1 ∧ v 1 ≤ slB S (cTgt S (v 0)) - 20) ∧ v 1 % cPer S (v 0) = 0 ∧ FlK v
def KepK (S : Nat → Int → Int) (g : Int) (v : FV) : Prop := (ChOK (v 0) ∧ cTgt S (v 0) = g) ∧ (0 ≤ v 1 ∧ v 1 ≤ v 2 ∧ v 2 < v 1 + 20 ∧ v 2 ≤ slB S g) ∧ v 2 = cSlt S g (v 1) (cPer S (v 0)) ∧ v 2 % cSe S g 4 = 0 ∧ cH S g 8 < v 2 ∧ (0 ≤ v 3 ∧ v 3 ≤ cT S 6) ∧ FlK v
def DifF (a b : FV) : Prop := ¬ (a 0 = b 0 ∧ a 1 = b 1)
def LatK (S : Nat → Int → Int) (g : Int) : Prop := (cH S g 8 = -1 ∧ cH S g 5 = 0) ∨ (0 ≤ cH S g 8 ∧ cH S g 8 ≤ slB S g ∧ 1 ≤ cH S g 5 ∧ cH S g 5 ≤ cH S g 8 + 1)
def HubK (S : Nat → Int → Int) (R : Nat → List FV) (g : Int) : Prop := (∀ v, v ∈ kR R g → KepK S g v) ∧ SortS (kR R g) ∧ (kR R g).Pairwise DifF ∧ FlK (SF S (15 + 7 * g.toNat)) ∧ LatK S g
def OFS (S : Nat → Int → Int) (i : Int) : FV := SF S (56 + 3 * ((cT S 7 - 1 - i) % 8).toNat)
def OutQ (S : Nat → Int → Int) : Prop := ∀ i : Int, 0 ≤ i → i < cKept S → FlK (OFS S i) ∧ (OFS S i 3 - OFS S i 1 ≤ cT S 8 ∧ 0 ≤ OFS S i 3 ∧ OFS S i 3 ≤ cT S 6 ∧ 0 ≤ OFS S i 1 ∧ OFS S i 1 ≤ 1060) ∧ (i + 1 < cKept S → OFS S (i + 1) 1 < OFS S i 1 ∧ OFS S (i + 1) 3 ≤ OFS S i 3)
def LnkK (S : Nat → Int → Int) : Prop := 0 < cT S 7 → OFS S 0 1 = cH S 0 8
def CoreS (S : Nat → Int → Int) (R : Nat → List FV) : Prop := CfgS S ∧ (0 ≤ cT S 6 ∧ cT S 6 ≤ 1000) ∧ (∀ g : Int, 0 ≤ g → g < 4 → HubK S R g) ∧ OutQ S ∧ cT S 7 = cH S 0 5 ∧ LnkK S
theorem g4 {g : Int} (h0 : 0 ≤ g) (h1 : g < 4) : g = 0 ∨ g = 1 ∨ g = 2 ∨ g = 3 := by omega
theorem CfgS.tg {S : Nat → Int → Int} (h : CfgS S) {c : Int} (hc : ChOK c) : 0 ≤ cTgt S c ∧ cTgt S c < 4 := by
  obtain ⟨_, ⟨p0, p1, p2, p3⟩, _, _, hu, _⟩ := h
  unfold cTgt
  rcases hc with hc | hc
  · rw [if_pos (by omega)]
    rcases (show c = 1 ∨ c = 2 ∨ c = 3 by omega) with e | e | e
    · rw [e, p1]; decide
    · rw [e, p2]; decide
    · rw [e, p3]; decide
  · rw [if_neg (by omega)]
    exact (hu (c - 5) (by omega) (by omega)).1
theorem CfgS.pr {S : Nat → Int → Int} (h : CfgS S) {c : Int} (hc : ChOK c) : 1 ≤ cPer S c ∧ cPer S c ≤ 20 := by
  obtain ⟨_, _, _, hs, hu, _⟩ := h
  unfold cPer
  rcases hc with hc | hc
  · rw [if_pos (by omega)]
    exact (hs c (by omega) (by omega)).1
  · rw [if_neg (by omega)]
    exact (hu (c - 5) (by omega) (by omega)).2.1
theorem CfgS.dp {S : Nat → Int → Int} (h : CfgS S) {g : Int} (h0 : 0 ≤ g) (h1 : g < 4) : 0 ≤ cH S g 4 ∧ cH S g 4 ≤ 2 := by
  obtain ⟨_, _, ⟨p0, p1, p2, p3⟩, _⟩ := h
  rcases g4 h0 h1 with e | e | e | e
  · rw [e, p0]; decide
  · rw [e, p1]; decide
  · rw [e, p2]; decide
  · rw [e, p3]; decide
theorem CfgS.up {S : Nat → Int → Int} (h : CfgS S) {g : Int} (h0 : 1 ≤ g) (h1 : g < 4) : (0 ≤ cH S g 3 ∧ cH S g 3 < g) ∧ cH S (cH S g 3) 4 = cH S g 4 - 1 := by
  obtain ⟨_, ⟨p0, p1, p2, p3⟩, ⟨d0, d1, d2, d3⟩, _⟩ := h
  rcases (show g = 1 ∨ g = 2 ∨ g = 3 by omega) with e | e | e
  · rw [e, p1, d0, d1]; decide
  · rw [e, p2, d0, d2]; decide
  · rw [e, p3, d2, d3]; decide
theorem CfgS.ci {S : Nat → Int → Int} (h : CfgS S) : CI S := by
  have hup := fun (g : Int) => h.up (g := g)
  obtain ⟨⟨a, b⟩, ⟨p0, p1, p2, p3⟩, _, hs, hu, _⟩ := h
  refine ⟨by omega, by omega, fun g h0 h1 => ?_, fun u h0 h1 => ?_⟩
  · have hs := hs g h0 (by omega)
    have : -1 ≤ cH S g 3 ∧ cH S g 3 < g := by
      by_cases e : g = 0
      · rw [e, p0]; decide
      · have := hup g (by omega) (by omega)
        omega
    omega
  · have hu := hu u h0 (by omega)
    omega
theorem CfgS.fo {S : Nat → Int → Int} (h : CfgS S) {c : Int} (hc : ChOK c) : cFrom_ok S c := by
  have hup := fun (g : Int) => h.up (g := g)
  obtain ⟨⟨a, b⟩, _⟩ := h
  refine ⟨?_, fun q => ?_, fun q => ?_⟩
  · rcases hc with q | q <;> omega
  · rcases hc with z | z
    · have := hup c (by omega) (by omega)
      omega
    · omega
  · rcases hc with z | z <;> omega
/-- slots -/
theorem slt_is {S : Nat → Int → Int} {g st per : Int} (hP : 1 ≤ cSe S g 4 ∧ cSe S g 4 ≤ 20) (hp : 1 ≤ per ∧ per ≤ 20) (hg : rGo per (cSe S g 4)) (hm : st % per = 0) : cSlt S g st per % cSe S g 4 = 0 ∧ st ≤ cSlt S g st per ∧ cSlt S g st per < st + cSe S g 4 := by
  unfold cSlt
  by_cases q : per ≤ cSe S g 4
  · rw [if_pos q]
    generalize cSe S g 4 = P at *
    have e := Int.mul_ediv_add_emod (st + P - 1) P
    have l := Int.emod_nonneg (st + P - 1) (show P ≠ 0 by omega)
    have u := Int.emod_lt_of_pos (st + P - 1) (show 0 < P by omega)
    rw [Int.mul_comm] at e
    refine ⟨Int.mul_emod_left _ _, by omega, by omega⟩
  · rw [if_neg q]
    refine ⟨?_, Int.le_refl _, by omega⟩
    generalize cSe S g 4 = P at *
    have hd : P ∣ per := by
      rcases hg with z | z
      · exact Int.dvd_of_emod_eq_zero z
      · rw [Int.emod_eq_of_lt (by omega) (by omega)] at z
        omega
    exact Int.emod_eq_zero_of_dvd (Int.dvd_trans hd (Int.dvd_of_emod_eq_zero hm))
/-- the same tree -/
def SqC (S S' : Nat → Int → Int) : Prop := (cT S' 4 = cT S 4 ∧ cT S' 5 = cT S 5) ∧ (∀ g : Int, 0 ≤ g → g < 5 → cH S' g 3 = cH S g 3 ∧ cH S' g 4 = cH S g 4 ∧ cSe S' g = cSe S g) ∧ ∀ u : Int, 0 ≤ u → u < 5 → cU S' u 0 = cU S u 0 ∧ cU S' u 1 = cU S u 1
theorem SqC.refl {S : Nat → Int → Int} : SqC S S := ⟨⟨rfl, rfl⟩, fun _ _ _ => ⟨rfl, rfl, rfl⟩, fun _ _ _ => ⟨rfl, rfl⟩⟩
theorem SqC.trans {A B C : Nat → Int → Int} (x : SqC A B) (y : SqC B C) : SqC A C := ⟨⟨y.1.1.trans x.1.1, y.1.2.trans x.1.2⟩, fun g a b => ⟨(y.2.1 g a b).1.trans (x.2.1 g a b).1, (y.2.1 g a b).2.1.trans (x.2.1 g a b).2.1, (y.2.1 g a b).2.2.trans (x.2.1 g a b).2.2⟩, fun u a b => ⟨(y.2.2 u a b).1.trans (x.2.2 u a b).1, (y.2.2 u a b).2.trans (x.2.2 u a b).2⟩⟩
theorem SqC.tg {S S' : Nat → Int → Int} (x : SqC S S') {c : Int} (hc : ChOK c) : cTgt S' c = cTgt S c := by
  unfold cTgt
  rcases hc with q | q
  · rw [if_pos (by omega), if_pos (by omega)]
    exact (x.2.1 c (by omega) (by omega)).1
  · rw [if_neg (by omega), if_neg (by omega)]
    exact (x.2.2 _ (by omega) (by omega)).1
theorem SqC.pr {S S' : Nat → Int → Int} (x : SqC S S') {c : Int} (hc : ChOK c) : cPer S' c = cPer S c := by
  unfold cPer
  rcases hc with q | q
  · rw [if_pos (by omega), if_pos (by omega), (x.2.1 c (by omega) (by omega)).2.2]
  · rw [if_neg (by omega), if_neg (by omega)]
    exact (x.2.2 _ (by omega) (by omega)).2
theorem SqC.sl {S S' : Nat → Int → Int} (x : SqC S S') {g st per : Int} (hg : 0 ≤ g ∧ g < 4) : cSlt S' g st per = cSlt S g st per := by
  unfold cSlt; rw [(x.2.1 g hg.1 (by omega)).2.2]
theorem SqC.sb {S S' : Nat → Int → Int} (x : SqC S S') {g : Int} (hg : 0 ≤ g ∧ g < 4) : slB S' g = slB S g := by
  unfold slB; rw [(x.2.1 g hg.1 (by omega)).2.1]
theorem SqC.se {S S' : Nat → Int → Int} (x : SqC S S') {g : Int} (hg : 0 ≤ g ∧ g < 4) : cSe S' g = cSe S g := (x.2.1 g hg.1 (by omega)).2.2
theorem CfgS.sq {S S' : Nat → Int → Int} (h : CfgS S) (x : SqC S S') (hb : ∀ u : Int, 0 ≤ u → u < 5 → 0 ≤ cU S' u 2 ∧ cU S' u 2 ≤ 1) : CfgS S' := by
  have htg := fun (c : Int) (hc : ChOK c) => h.tg hc
  obtain ⟨a, b, c, d, e, f⟩ := h
  refine ⟨?_, ?_, ?_, fun g h0 h1 => ?_, fun u h0 h1 => ?_, fun c hc => ?_⟩
  · rw [x.1.1, x.1.2]; exact a
  · rw [(x.2.1 0 (by decide) (by decide)).1, (x.2.1 1 (by decide) (by decide)).1, (x.2.1 2 (by decide) (by decide)).1, (x.2.1 3 (by decide) (by decide)).1]; exact b
  · rw [(x.2.1 0 (by decide) (by decide)).2.1, (x.2.1 1 (by decide) (by decide)).2.1, (x.2.1 2 (by decide) (by decide)).2.1, (x.2.1 3 (by decide) (by decide)).2.1]; exact c
  · rw [x.se ⟨h0, h1⟩]; exact d g h0 h1
  · have q := x.2.2 u h0 h1
    rw [q.1, q.2]
    exact ⟨(e u h0 h1).1, (e u h0 h1).2.1, hb u h0 h1⟩
  · rw [x.tg hc, x.pr hc, x.se (htg c hc)]; exact f c hc
theorem WayK.sq {S S' : Nat → Int → Int} {v : FV} (h : WayK S v) (hc : CfgS S) (x : SqC S S') : WayK S' v := by
  obtain ⟨a, b, c, d⟩ := h
  refine ⟨a, ?_, ?_, d⟩
  · rw [x.tg a, x.sb (hc.tg a)]; exact b
  · rw [x.pr a]; exact c
theorem KepK.sq {S S' : Nat → Int → Int} {g : Int} {v : FV} (h : KepK S g v) (hg : 0 ≤ g ∧ g < 4) (x : SqC S S') (h8 : cH S' g 8 < v 2) (ht : cT S 6 ≤ cT S' 6) : KepK S' g v := by
  obtain ⟨⟨a1, a2⟩, b, c, d, e, f, k⟩ := h
  refine ⟨⟨a1, by rw [x.tg a1]; exact a2⟩, by rw [x.sb hg]; exact b, by rw [x.sl hg, x.pr a1]; exact c, by rw [x.se hg]; exact d, h8, by omega, k⟩
theorem HubK.sq {S S' : Nat → Int → Int} {R R' : Nat → List FV} {g : Int} (h : HubK S R g) (hg : 0 ≤ g ∧ g < 4) (x : SqC S S') (h8 : cH S' g 8 = cH S g 8) (h5 : cH S' g 5 = cH S g 5) (ht : cT S 6 ≤ cT S' 6) (hr : kR R' g = kR R g) (hf : SF S' (15 + 7 * g.toNat) = SF S (15 + 7 * g.toNat)) : HubK S' R' g := by
  obtain ⟨a, b, c, d, e⟩ := h
  refine ⟨fun v hv => ?_, by rw [hr]; exact b, by rw [hr]; exact c, by rw [hf]; exact d, ?_⟩
  · rw [hr] at hv
    have := a v hv
    exact this.sq hg x (by rw [h8]; exact this.2.2.2.2.1) ht
  · unfold LatK at *
    rw [h8, h5, x.sb hg]; exact e
theorem OutQ.sq {S S' : Nat → Int → Int} (h : OutQ S) (h7 : cT S' 7 = cT S 7) (h8 : cT S' 8 = cT S 8) (h6 : cT S 6 ≤ cT S' 6) (hf : ∀ n, 56 ≤ n → SF S' n = SF S n) : OutQ S' := by
  have ek : cKept S' = cKept S := by unfold cKept; rw [h7]
  have eo : ∀ i, OFS S' i = OFS S i := fun i => by unfold OFS; rw [h7, hf _ (by omega)]
  intro i a b
  rw [ek] at b
  obtain ⟨q1, q2, q3⟩ := h i a b
  rw [eo, eo, ek, h8]
  exact ⟨q1, by omega, q3⟩
/-- nothing that matters has changed but rows and late and double frames' counts -/
theorem Sq.refl {S : Nat → Int → Int} : Sq S S := fun _ _ _ _ _ => rfl
theorem Sq.trans {A B C : Nat → Int → Int} (x : Sq A B) (y : Sq B C) : Sq A C := fun m k a b c => (y m k a b c).trans (x m k a b c)
theorem Sq.t {S S' : Nat → Int → Int} (h : Sq S S') : cT S' = cT S := by
  funext k
  exact h 0 k (by omega) (by decide) (fun g hg => ⟨by omega, by omega⟩)
theorem Sq.se {S S' : Nat → Int → Int} (h : Sq S S') : cSe S' = cSe S := by
  funext g k
  exact h _ k (by omega) (by omega) (fun x hx => ⟨by omega, by omega⟩)
theorem Sq.u {S S' : Nat → Int → Int} (h : Sq S S') : cU S' = cU S := by
  funext g k
  exact h _ k (by omega) (by omega) (fun x hx => ⟨by omega, by omega⟩)
theorem Sq.hh {S S' : Nat → Int → Int} (h : Sq S S') {g k : Int} (h6 : k ≠ 6) (h7 : k ≠ 7) : cH S' g k = cH S g k :=
  h _ k (by omega) (by omega) (fun x hx => ⟨by omega, by omega⟩)
theorem Sq.c {S S' : Nat → Int → Int} (h : Sq S S') : SqC S S' :=
  ⟨⟨by rw [h.t], by rw [h.t]⟩, fun g _ _ => ⟨h.hh (by decide) (by decide), h.hh (by decide) (by decide), by rw [h.se]⟩, fun u _ _ => ⟨by rw [h.u], by rw [h.u]⟩⟩
theorem CfgS.sqq {S S' : Nat → Int → Int} (h : CfgS S) (x : Sq S S') : CfgS S' := h.sq x.c (fun u a b => by rw [x.u]; exact (h.2.2.2.2.1 u a b).2.2)
theorem HubK.sqq {S S' : Nat → Int → Int} {R R' : Nat → List FV} {g : Int} (h : HubK S R g) (hg : 0 ≤ g ∧ g < 4) (x : Sq S S') (hr : kR R' g = kR R g) : HubK S' R' g :=
  h.sq hg x.c (x.hh (by decide) (by decide)) (x.hh (by decide) (by decide)) (by rw [x.t]; exact Int.le_refl _) hr (x.sf (Or.inl ⟨g.toNat, by omega, rfl⟩))
theorem OutQ.sqq {S S' : Nat → Int → Int} (h : OutQ S) (x : Sq S S') : OutQ S' :=
  h.sq (by rw [x.t]) (by rw [x.t]) (by rw [x.t]; exact Int.le_refl _) (fun n hn => x.sf (Or.inr hn))
theorem LnkK.sqq {S S' : Nat → Int → Int} (h : LnkK S) (x : Sq S S') : LnkK S' := by
  intro q
  rw [x.t] at q
  have := h q
  unfold OFS at *
  rw [x.t, x.sf (Or.inr (by omega)), x.hh (by decide) (by decide)]
  exact this
/-- an arrival -/
def ArrS (S : Nat → Int → Int) (R : Nat → List FV) (v : FV) (S' : Nat → Int → Int) (R' : Nat → List FV) : Prop :=
  Sq S S' ∧ (R' = R ∨ (cH S (cTgt S (v 0)) 8 < cSlt S (cTgt S (v 0)) (v 1) (cPer S (v 0)) ∧ ¬ cHas (kR R (cTgt S (v 0))) (cSlt S (cTgt S (v 0)) (v 1) (cPer S (v 0))) v ∧ R' = upR R (13 + 7 * (cTgt S (v 0)).toNat) (insA (kR R (cTgt S (v 0))) (cPlace (kR R (cTgt S (v 0))) (cSlt S (cTgt S (v 0)) (v 1) (cPer S (v 0)))) (ups (ups v 2 (cSlt S (cTgt S (v 0)) (v 1) (cPer S (v 0)))) 3 (cT S 6)))))
theorem insA_perm {L : List FV} {x : Int} {v : FV} : (insA L x v).Perm (v :: L) := by
  unfold insA
  refine List.perm_middle.trans ?_
  rw [List.take_append_drop]
theorem insA_mem {L : List FV} {x : Int} {v w : FV} : w ∈ insA L x v ↔ w = v ∨ w ∈ L := by
  rw [insA_perm.mem_iff, List.mem_cons]
theorem insA_dif {L : List FV} {x : Int} {v : FV} (h : L.Pairwise DifF) (hv : ∀ w, w ∈ L → DifF v w) : (insA L x v).Pairwise DifF := by
  refine (insA_perm.pairwise_iff (fun {a b} q z => q ⟨z.1.symm, z.2.symm⟩)).mpr ?_
  exact List.pairwise_cons.mpr ⟨hv, h⟩
theorem insA_sort {L : List FV} {v : FV} {sl : Int} (hS : SortS L) (hv : v 2 = sl) : SortS (insA L (cPlace L sl) v) := by
  obtain ⟨r, p, q⟩ := cPlace_is (sl := sl) hS
  have g := fun (k : Int) (a : 0 ≤ k) (b : k ≤ (L.length : Nat)) => gt_insA (v := v) r.1 r.2 a b
  have l : (insA L (cPlace L sl) v).length = L.length + 1 := insA_len
  intro i j a b c
  rw [l] at c
  rw [g i a (by omega), g j (by omega) (by omega)]
  split
  · split
    · exact hS i j a b (by omega)
    · split
      · rw [hv]; exact p i a (by omega)
      · by_cases e : i = j - 1
        · rw [e]; exact Int.le_refl _
        · exact hS i (j - 1) a (by omega) (by omega)
  · split
    · rw [if_neg (by omega), if_neg (by omega), hv]
      have := q (j - 1) (by omega) (by omega)
      omega
    · rw [if_neg (by omega), if_neg (by omega)]
      exact hS (i - 1) (j - 1) (by omega) (by omega) (by omega)
theorem kR_ne {R : Nat → List FV} {g x : Int} {L : List FV} (hg : 0 ≤ g) (hx : 0 ≤ x) (h : x ≠ g) : kR (upR R (13 + 7 * g.toNat) L) x = kR R x := upR_ne (by omega)
theorem kR_eq {R : Nat → List FV} {g : Int} {L : List FV} : kR (upR R (13 + 7 * g.toNat) L) g = L := upR_eq
theorem FlK.up {v w : FV} (h : FlK v) (e : ∀ k : Int, 5 ≤ k → w k = v k) : FlK w := by
  refine ⟨by rw [e 5 (by decide)]; exact h.1, fun u a b c => ?_⟩
  rw [e _ (by omega)]
  refine h.2 u a b ?_
  have c : rBit (w 5) u := c
  rw [e 5 (by decide)] at c
  exact c
theorem KepK.new {S : Nat → Int → Int} {v : FV} {sl t : Int} (hc : CfgS S) (hv : WayK S v) (e : sl = cSlt S (cTgt S (v 0)) (v 1) (cPer S (v 0))) (h8 : cH S (cTgt S (v 0)) 8 < sl) (ht : t = cT S 6) (h0 : 0 ≤ t) : KepK S (cTgt S (v 0)) (ups (ups v 2 sl) 3 t) := by
  have hg := hc.tg hv.1
  have hP := (hc.2.2.2.1 (cTgt S (v 0)) hg.1 hg.2).1
  have hsl := slt_is (st := v 1) hP (hc.pr hv.1) (hc.2.2.2.2.2 (v 0) hv.1) hv.2.2.1
  have hb := hv.2.1
  rw [← e] at hsl
  have w0 : ups (ups v 2 sl) 3 t 0 = v 0 := by rw [ups_ne (by decide), ups_ne (by decide)]
  have w1 : ups (ups v 2 sl) 3 t 1 = v 1 := by rw [ups_ne (by decide), ups_ne (by decide)]
  have w2 : ups (ups v 2 sl) 3 t 2 = sl := by rw [ups_ne (by decide), ups_eq rfl]
  have w3 : ups (ups v 2 sl) 3 t 3 = t := by rw [ups_eq rfl]
  have wf : FlK (ups (ups v 2 sl) 3 t) := hv.2.2.2.up (fun k hk => by rw [ups_ne (by omega), ups_ne (by omega)])
  generalize ups (ups v 2 sl) 3 t = w at *
  unfold KepK
  rw [w0, w1, w2, w3]
  exact ⟨⟨hv.1, rfl⟩, ⟨by omega, by omega, by omega, by omega⟩, e, hsl.1, h8, by omega, wf⟩
theorem CoreS.arr {S S' : Nat → Int → Int} {R R' : Nat → List FV} {v : FV} (h : CoreS S R) (hv : WayK S v) (x : ArrS S R v S' R') : CoreS S' R' := by
  obtain ⟨hc, ht, hh, ho, h7, hl⟩ := h
  obtain ⟨xq, xr⟩ := x
  have hg := hc.tg hv.1
  have hgo : ∀ g : Int, 0 ≤ g → g < 4 → g ≠ cTgt S (v 0) ∨ R' = R → HubK S' R' g := fun g a b q => by
    refine (hh g a b).sqq ⟨a, b⟩ xq ?_
    rcases q with q | q
    · rcases xr with e | ⟨_, _, e⟩
      · rw [e]
      · rw [e]; exact kR_ne hg.1 a q
    · rw [q]
  refine ⟨hc.sqq xq, by rw [xq.t]; exact ht, fun g a b => ?_, ho.sqq xq, by rw [xq.t, xq.hh (by decide) (by decide)]; exact h7, hl.sqq xq⟩
  rcases xr with e | ⟨n8, nh, e⟩
  · exact hgo g a b (Or.inr e)
  · by_cases q : g = cTgt S (v 0)
    · obtain ⟨q1, q2, q3, q4, q5⟩ := hh _ hg.1 hg.2
      obtain ⟨sl, hsl⟩ : ∃ sl, sl = cSlt S (cTgt S (v 0)) (v 1) (cPer S (v 0)) := ⟨_, rfl⟩
      rw [← hsl] at n8 nh e
      have er : kR R' (cTgt S (v 0)) = insA (kR R (cTgt S (v 0))) (cPlace (kR R (cTgt S (v 0))) sl) (ups (ups v 2 sl) 3 (cT S 6)) := by rw [e]; exact kR_eq
      have hn := KepK.new hc hv hsl n8 rfl ht.1
      have key : HubK S R' (cTgt S (v 0)) := by
        refine ⟨fun w hw => ?_, ?_, ?_, q4, q5⟩
        · rw [er, insA_mem] at hw
          rcases hw with z | z
          · rw [z]; exact hn
          · exact q1 w z
        · rw [er]
          exact insA_sort q2 (by rw [ups_ne (by decide), ups_eq rfl])
        · rw [er]
          refine insA_dif q3 (fun w hw z => nh ?_)
          have w0 : ups (ups v 2 sl) 3 (cT S 6) 0 = v 0 := by rw [ups_ne (by decide), ups_ne (by decide)]
          have w1 : ups (ups v 2 sl) 3 (cT S 6) 1 = v 1 := by rw [ups_ne (by decide), ups_ne (by decide)]
          rw [w0, w1] at z
          obtain ⟨i, i0, i1, ie⟩ := mem_gt hw
          have k := (q1 w hw).2.2.1
          rw [← z.1, ← z.2, ← hsl] at k
          exact ⟨i, i0, i1, by rw [ie]; exact k, by rw [ie]; exact z.1.symm, by rw [ie]; exact z.2.symm⟩
      rw [q]
      exact key.sqq hg xq rfl
    · exact hgo g a b (Or.inl q)

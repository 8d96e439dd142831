/-! THE LAW: the tree as it is built -/
def par4 (g : Int) : Int := if g = 0 then -1 else if g = 3 then 2 else 0
def dep4 (g : Int) : Int := if g = 0 then 0 else if g = 3 then 2 else 1
def PreH (S : Nat → Int → Int) (g : Int) : Prop := (cH S g 3 = par4 g ∧ cH S g 4 = dep4 g ∧ cH S g 5 = 0 ∧ cH S g 8 = -1) ∧ ((1 ≤ cSe S g 4 ∧ cSe S g 4 ≤ 20) ∧ (0 ≤ cSe S g 0 ∧ cSe S g 0 ≤ 40) ∧ 0 ≤ cSe S g 3 ∧ cSe S g 3 ≤ 20) ∧ SF S (15 + 7 * g.toNat) 5 = 0 ∧ (1 ≤ g → rGo (cSe S g 4) (cSe S (par4 g) 4))
def PreU (S : Nat → Int → Int) (u : Int) : Prop := (0 ≤ cU S u 0 ∧ cU S u 0 < 4) ∧ (1 ≤ cU S u 1 ∧ cU S u 1 ≤ 20) ∧ cU S u 2 = 0 ∧ cU S u 3 = 0 ∧ rGo (cU S u 1) (cSe S (cU S u 0) 4)
def PreT (nh nu : Int) (S : Nat → Int → Int) (R : Nat → List FV) : Prop := (cT S 4 = nh ∧ cT S 5 = nu ∧ cT S 6 = 0 ∧ cT S 7 = 0) ∧ (1 ≤ nh ∧ nh ≤ 4 ∧ 0 ≤ nu ∧ nu ≤ 5 ∧ (0 < nu → nh = 4)) ∧ (R 3 = [] ∧ ∀ g : Int, 0 ≤ g → g < 5 → kR R g = []) ∧ (∀ g : Int, 0 ≤ g → g < nh → PreH S g) ∧ ∀ u : Int, 0 ≤ u → u < nu → PreU S u
def ZeS (S : Nat → Int → Int) (g : Int) : Prop := ∀ k : Int, 0 ≤ k → k < 4 → cSe S g k = 0
theorem par4_lt {g : Int} (h1 : 1 ≤ g) (h4 : g < 5) : 0 ≤ par4 g ∧ par4 g < g := by
  unfold par4
  rw [if_neg (by omega)]
  split <;> omega
theorem dep4_rng {g : Int} : 0 ≤ dep4 g ∧ dep4 g ≤ 2 := by
  unfold dep4
  split
  · omega
  · split <;> omega
theorem PreT.ci {nh nu : Int} {S : Nat → Int → Int} {R : Nat → List FV} (h : PreT nh nu S R) : CI S := by
  obtain ⟨⟨a, b, _⟩, ⟨c1, c2, c3, c4, c5⟩, _, d, e⟩ := h
  refine ⟨by omega, by omega, fun g h0 h1 => ?_, fun u h0 h1 => ?_⟩
  · have k := d g h0 (by omega)
    have p : -1 ≤ par4 g ∧ par4 g < g := by
      by_cases q : g = 0
      · rw [q]; decide
      · have := par4_lt (g := g) (by omega) (by omega); omega
    rw [k.1.1]
    have := k.2.1
    omega
  · have k := e u h0 (by omega)
    have := c5 (by omega)
    have := k.1
    have := k.2.1
    omega
theorem PreT.side {nh nu : Int} {S : Nat → Int → Int} {R : Nat → List FV} (h : PreT nh nu S R) : CI S ∧ 0 ≤ cT S 7 ∧ (∀ u : Int, 0 ≤ u → u < cT S 5 → 0 ≤ cU S u 2 ∧ cU S u 2 ≤ 1) ∧ ∀ g : Int, 0 ≤ g → g < cT S 4 → 0 ≤ cH S g 4 ∧ cH S g 4 ≤ 100 := by
  refine ⟨h.ci, by rw [h.1.2.2.2]; decide, fun u a b => ?_, fun g a b => ?_⟩
  · rw [h.1.2.1] at b
    rw [(h.2.2.2.2 u a b).2.2.1]; decide
  · rw [h.1.1] at b
    rw [(h.2.2.2.1 g a b).1.2.1]
    have := dep4_rng (g := g)
    omega
theorem PreT.init {S : Nat → Int → Int} (I : InitS S) : PreT 1 0 S (fun _ => []) ∧ ZeS S 0 ∧ cSe S 0 4 = 1 := by
  obtain ⟨i4, i5, i6, i7, h3, h4, h5, h6, h7, h8, se, se4, sf, i8⟩ := I
  refine ⟨⟨⟨i4, i5, i6, i7⟩, by decide, ⟨rfl, fun _ _ _ => rfl⟩, fun g a b => ?_, fun u a b => by omega⟩, se, se4⟩
  have e : g = 0 := by omega
  subst e
  refine ⟨⟨h3, h4, h5, h8⟩, ⟨by omega, by rw [se 0 (by decide) (by decide)]; decide, by rw [se 3 (by decide) (by decide)]; decide⟩, sf, fun q => by omega⟩
/-- a setting -/
theorem set_ne {S : Nat → Int → Int} {g k v : Int} : (∀ m, m ≠ 12 + 7 * g.toNat → upX S (12 + 7 * g.toNat) k v m = S m) ∧ (∀ j, j ≠ k → cSe (upX S (12 + 7 * g.toNat) k v) g j = cSe S g j) ∧ cSe (upX S (12 + 7 * g.toNat) k v) g k = v :=
  ⟨fun m hm => upX_ne hm, fun j hj => upX_at (fun q => hj q.2), upX_is⟩
theorem set_x {S : Nat → Int → Int} {g k v x : Int} (hg : 0 ≤ g) (hx : 0 ≤ x) (h : x ≠ g) : cSe (upX S (12 + 7 * g.toNat) k v) x = cSe S x := upX_ne (by omega)
theorem PreH.keep {S S' : Nat → Int → Int} {g : Int} (h : PreH S g) (e1 : cH S' g = cH S g) (e2 : SF S' (15 + 7 * g.toNat) 5 = SF S (15 + 7 * g.toNat) 5) (e3 : cSe S' g 4 = cSe S g 4) (e4 : 1 ≤ g → cSe S' (par4 g) 4 = cSe S (par4 g) 4) (e5 : (0 ≤ cSe S' g 0 ∧ cSe S' g 0 ≤ 40) ∧ 0 ≤ cSe S' g 3 ∧ cSe S' g 3 ≤ 20) : PreH S' g := by
  obtain ⟨a, b, c, d⟩ := h
  refine ⟨by rw [e1]; exact a, ⟨by rw [e3]; exact b.1, e5⟩, by rw [e2]; exact c, fun q => by rw [e3, e4 q]; exact d q⟩
theorem PreT.set {nh nu : Int} {S : Nat → Int → Int} {R : Nat → List FV} (h : PreT nh nu S R) {g k v : Int} (hg : 0 ≤ g ∧ g < nh) (hk : 0 ≤ k ∧ k < 4) (hv : 0 ≤ v ∧ v ≤ sMax k) : PreT nh nu (upX S (12 + 7 * g.toNat) k v) R ∧ cSetE S g k v = 0 := by
  have sc := h.side
  obtain ⟨⟨a1, a2, a3, a4⟩, b, c, d, e⟩ := h
  obtain ⟨s1, s2, s3⟩ := set_ne (S := S) (g := g) (k := k) (v := v)
  have et : cT (upX S (12 + 7 * g.toNat) k v) = cT S := s1 0 (by omega)
  have e4 : ∀ x : Int, 0 ≤ x → cSe (upX S (12 + 7 * g.toNat) k v) x 4 = cSe S x 4 := fun x hx => by
    by_cases q : x = g
    · rw [q]; exact s2 4 (by omega)
    · rw [set_x hg.1 hx q]
  have e0 : ∀ x j : Int, 0 ≤ x → (x = g ∧ j = k) ∨ cSe (upX S (12 + 7 * g.toNat) k v) x j = cSe S x j := fun x j hx => by
    by_cases q : x = g
    · by_cases z : j = k
      · exact Or.inl ⟨q, z⟩
      · rw [q]; exact Or.inr (s2 j z)
    · rw [set_x hg.1 hx q]; exact Or.inr rfl
  refine ⟨⟨by rw [et]; exact ⟨a1, a2, a3, a4⟩, b, c, fun x p q => ?_, fun u p q => ?_⟩, ?_⟩
  · have k0 := d x p q
    refine k0.keep (s1 _ (by omega)) (by rw [SF_upX (by omega) (by omega) (by omega)]) (e4 x p) (fun z => e4 _ (par4_lt z (by omega)).1) ⟨?_, ?_⟩
    · rcases e0 x 0 p with z | z
      · have m : sMax k = 40 := by rw [← z.2]; rfl
        rw [z.1, z.2, s3]; omega
      · rw [z]; exact k0.2.1.2.1
    · rcases e0 x 3 p with z | z
      · have m : sMax k = 20 := by rw [← z.2]; rfl
        rw [z.1, z.2, s3]; omega
      · rw [z]; exact k0.2.1.2.2
  · have k0 := e u p q
    have eu : cU (upX S (12 + 7 * g.toNat) k v) u = cU S u := s1 _ (by omega)
    unfold PreU at *
    rw [eu, e4 _ k0.1.1]
    exact k0
  · unfold cSetE
    rw [if_neg (fun z => z ⟨⟨hg.1, by omega⟩, ⟨hk.1, by omega⟩, by rw [if_neg (by omega)]; exact hv.1, hv.2⟩), cif_t (fun q => by omega)]
theorem PreT.set4 {S : Nat → Int → Int} {R : Nat → List FV} (h : PreT 1 0 S R) (hc : CntR S R) {v : Int} (hv : 1 ≤ v ∧ v ≤ 20) : PreT 1 0 (upX S (12 + 7 * (0 : Int).toNat) 4 v) R ∧ cSetE S 0 4 v = 0 ∧ cSe (upX S (12 + 7 * (0 : Int).toNat) 4 v) 0 4 = v ∧ (ZeS S 0 → ZeS (upX S (12 + 7 * (0 : Int).toNat) 4 v) 0) := by
  obtain ⟨⟨a1, a2, a3, a4⟩, b, c, d, e⟩ := h
  obtain ⟨s1, s2, s3⟩ := set_ne (S := S) (g := 0) (k := 4) (v := v)
  have et : cT (upX S (12 + 7 * (0 : Int).toNat) 4 v) = cT S := s1 0 (by omega)
  have k0 := d 0 (by decide) (by decide)
  refine ⟨⟨by rw [et]; exact ⟨a1, a2, a3, a4⟩, b, c, fun x p q => ?_, fun u p q => by omega⟩, ?_, s3, fun z k p q => ?_⟩
  · have x0 : x = 0 := by omega
    subst x0
    obtain ⟨k1, k2, k3, k4⟩ := k0
    have eh : cH (upX S (12 + 7 * (0 : Int).toNat) 4 v) 0 = cH S 0 := s1 _ (by omega)
    refine ⟨by rw [eh]; exact k1, ⟨by rw [s3]; exact hv, by rw [s2 0 (by decide)]; exact k2.2.1, by rw [s2 3 (by decide)]; exact k2.2.2⟩, by rw [SF_upX (by omega) (by omega) (by omega)]; exact k3, fun q => by omega⟩
  · unfold cSetE
    rw [if_neg (fun z => z ⟨⟨by decide, by omega⟩, ⟨by decide, by decide⟩, by rw [if_pos rfl]; exact hv.1, hv.2⟩), cif_t]
    intro _
    refine ⟨⟨⟨?_, k0.1.2.2.1⟩, fun q => ?_⟩, fun x p q z => ?_⟩
    · rw [hc.2 0 (by decide) (by decide), c.2 0 (by decide) (by decide)]; rfl
    · rw [k0.1.1] at q; exact absurd q (by decide)
    · exfalso
      rcases z with ⟨z1, z2, z3⟩ | ⟨z1, z2, _⟩
      · have : x = 0 := by omega
        rw [this, k0.1.1] at z3
        exact absurd z3 (by decide)
      · omega
  · rw [s2 k (by omega)]; exact z k p q
/-- a hub more -/
theorem PreT.hub {nh : Int} {S : Nat → Int → Int} {R : Nat → List FV} (h : PreT nh 0 S R) (h1 : 1 ≤ nh ∧ nh ≤ 3) {p : Int} (hp : 1 ≤ p ∧ p ≤ 20) (hr : rGo p (cSe S (par4 nh) 4)) : PreT (nh + 1) 0 (upX (cHb S (cT S 4) (par4 nh) (cH S (par4 nh) 4 + 1) p) 0 4 (cT S 4 + 1)) (upR R (13 + 7 * (cT S 4).toNat) []) ∧ cJoin S (par4 nh) p (if cT S 4 < 5 then 1 else 0) = 0 ∧ (cSe (upX (cHb S (cT S 4) (par4 nh) (cH S (par4 nh) 4 + 1) p) 0 4 (cT S 4 + 1)) nh 4 = p ∧ (∀ g : Int, 0 ≤ g → g < nh → cSe (upX (cHb S (cT S 4) (par4 nh) (cH S (par4 nh) 4 + 1) p) 0 4 (cT S 4 + 1)) g = cSe S g)) ∧ ZeS (upX (cHb S (cT S 4) (par4 nh) (cH S (par4 nh) 4 + 1) p) 0 4 (cT S 4 + 1)) nh := by
  obtain ⟨⟨a1, a2, a3, a4⟩, b, c, d, e⟩ := h
  have pl := par4_lt (g := nh) (by omega) (by omega)
  have kp := d (par4 nh) pl.1 pl.2
  rw [a1, kp.1.2.1]
  have eS : ∀ m, m ≠ 0 → ¬ (11 + 7 * nh.toNat ≤ m ∧ m ≤ 15 + 7 * nh.toNat) → upX (cHb S nh (par4 nh) (dep4 (par4 nh) + 1) p) 0 4 (nh + 1) m = S m := fun m q0 q => by
    unfold cHb cHb0
    rw [upX_ne q0, upX_ne (by omega), upX_ne (by omega), upX_ne (by omega), upX_ne (by omega), upX_ne (by omega), upX_ne (by omega), upX_ne (by omega), upX_ne (by omega), upX_ne (by omega), upA_ne (by omega)]
  have e16 : ∀ m, m = 16 + 7 * nh.toNat ∨ m = 17 + 7 * nh.toNat → upX (cHb S nh (par4 nh) (dep4 (par4 nh) + 1) p) 0 4 (nh + 1) m = S m := fun m q => eS m (by omega) (by omega)
  have et : ∀ k, k ≠ 4 → cT (upX (cHb S nh (par4 nh) (dep4 (par4 nh) + 1) p) 0 4 (nh + 1)) k = cT S k := fun k q => by
    unfold cT cHb cHb0
    rw [upX_at (fun z => q z.2), upX_ne (by omega), upX_ne (by omega), upX_ne (by omega), upX_ne (by omega), upX_ne (by omega), upX_ne (by omega), upX_ne (by omega), upX_ne (by omega), upX_ne (by omega), upA_ne (by omega)]
  have et4 : cT (upX (cHb S nh (par4 nh) (dep4 (par4 nh) + 1) p) 0 4 (nh + 1)) 4 = nh + 1 := upX_is
  have hh : ∀ k, cH (upX (cHb S nh (par4 nh) (dep4 (par4 nh) + 1) p) 0 4 (nh + 1)) nh k = if k = 8 then -1 else if k = 7 then 0 else if k = 6 then 0 else if k = 5 then 0 else if k = 4 then dep4 (par4 nh) + 1 else if k = 3 then par4 nh else cH S nh k := fun k => by
    unfold cH cHb cHb0
    rw [upX_ne (by omega)]
    by_cases q8 : k = 8
    · rw [if_pos q8, q8]; exact upX_is
    rw [if_neg q8, upX_at (fun z => q8 z.2)]
    by_cases q7 : k = 7
    · rw [if_pos q7, q7]; exact upX_is
    rw [if_neg q7, upX_at (fun z => q7 z.2)]
    by_cases q6 : k = 6
    · rw [if_pos q6, q6]; exact upX_is
    rw [if_neg q6, upX_at (fun z => q6 z.2)]
    by_cases q5 : k = 5
    · rw [if_pos q5, q5]; exact upX_is
    rw [if_neg q5, upX_at (fun z => q5 z.2)]
    by_cases q4 : k = 4
    · rw [if_pos q4, q4]; exact upX_is
    rw [if_neg q4, upX_at (fun z => q4 z.2)]
    by_cases q3 : k = 3
    · rw [if_pos q3, q3]; exact upX_is
    rw [if_neg q3, upX_at (fun z => q3 z.2), upX_ne (by omega), upX_ne (by omega), upX_ne (by omega), upA_ne (by omega)]
  have hs : ∀ k, cSe (upX (cHb S nh (par4 nh) (dep4 (par4 nh) + 1) p) 0 4 (nh + 1)) nh k = if k = 4 then p else if 0 ≤ k ∧ k < 5 then 0 else S (12 + 7 * nh.toNat) k := fun k => by
    unfold cSe cHb cHb0
    rw [upX_ne (by omega), upX_ne (by omega), upX_ne (by omega), upX_ne (by omega), upX_ne (by omega), upX_ne (by omega), upX_ne (by omega), upX_ne (by omega), upX_ne (by omega)]
    by_cases q4 : k = 4
    · rw [if_pos q4, q4]; exact upX_is
    rw [if_neg q4, upX_at (fun z => q4 z.2), upA_eq]
  have hf : SF (upX (cHb S nh (par4 nh) (dep4 (par4 nh) + 1) p) 0 4 (nh + 1)) (15 + 7 * nh.toNat) 5 = 0 := by
    show upX _ _ _ _ (15 + 7 * nh.toNat) 5 = 0
    unfold cHb cHb0
    rw [upX_ne (by omega), upX_ne (by omega), upX_ne (by omega), upX_ne (by omega), upX_ne (by omega), upX_ne (by omega), upX_ne (by omega)]
    exact upX_is
  generalize upX (cHb S nh (par4 nh) (dep4 (par4 nh) + 1) p) 0 4 (nh + 1) = S' at *
  have hx : ∀ g : Int, 0 ≤ g → g < nh → cH S' g = cH S g ∧ cSe S' g = cSe S g ∧ SF S' (15 + 7 * g.toNat) 5 = SF S (15 + 7 * g.toNat) 5 := fun g p q => by
    refine ⟨eS _ (by omega) (by omega), eS _ (by omega) (by omega), ?_⟩
    show S' (15 + 7 * g.toNat) 5 = S (15 + 7 * g.toNat) 5
    rw [eS _ (by omega) (by omega)]
  have pd : dep4 nh = dep4 (par4 nh) + 1 := by
    rcases (show nh = 1 ∨ nh = 2 ∨ nh = 3 by omega) with q | q | q <;> rw [q] <;> decide
  refine ⟨⟨⟨et4, by rw [et 5 (by decide)]; exact a2, by rw [et 6 (by decide)]; exact a3, by rw [et 7 (by decide)]; exact a4⟩, by omega, ⟨?_, fun g q z => ?_⟩, fun g q z => ?_, fun u q z => by omega⟩, ?_, ⟨by rw [hs, if_pos rfl], fun g q z => (hx g q z).2.1⟩, fun k q z => by rw [hs, if_neg (by omega), if_pos (by omega)]⟩
  · rw [upR_ne (by omega)]; exact c.1
  · by_cases w : g = nh
    · rw [w]; exact kR_eq
    · rw [kR_ne (by omega) q w]; exact c.2 g q z
  · by_cases w : g = nh
    · rw [w]
      refine ⟨⟨by rw [hh]; rfl, by rw [hh]; exact pd.symm, by rw [hh]; rfl, by rw [hh]; rfl⟩, ⟨by rw [hs, if_pos rfl]; exact hp, by rw [hs, if_neg (by decide), if_pos (by decide)]; decide, by rw [hs, if_neg (by decide), if_pos (by decide)]; decide⟩, hf, fun _ => ?_⟩
      rw [hs, if_pos rfl, (hx _ pl.1 pl.2).2.1]
      exact hr
    · have k0 := d g q (by omega)
      obtain ⟨x1, x2, x3⟩ := hx g q (by omega)
      refine k0.keep x1 x3 (by rw [x2]) (fun y => ?_) (by rw [x2]; exact k0.2.1.2)
      have := par4_lt (g := g) y (by omega)
      rw [(hx _ this.1 (by omega)).2.1]
  · unfold cJoin
    rw [if_neg (fun z => z ⟨⟨pl.1, by omega⟩, hp⟩), if_neg (fun z => z hr), show (if nh < 5 then (1 : Int) else 0) = 1 from if_pos (by omega), if_neg (by decide)]
/-- a unit more -/
theorem PreT.unit {nu : Int} {S : Nat → Int → Int} {R : Nat → List FV} (h : PreT 4 nu S R) (h1 : nu ≤ 4) {a p : Int} (ha : 0 ≤ a ∧ a < 4) (hp : 1 ≤ p ∧ p ≤ 20) (hr : rGo p (cSe S a 4)) : PreT 4 (nu + 1) (upX (cUb S (cT S 5) a p) 0 5 (cT S 5 + 1)) R ∧ cJoin S a p (if cT S 5 < 10 then 1 else 0) = 0 ∧ ∀ g : Int, 0 ≤ g → g < 4 → cSe (upX (cUb S (cT S 5) a p) 0 5 (cT S 5 + 1)) g = cSe S g := by
  obtain ⟨⟨a1, a2, a3, a4⟩, b, c, d, e⟩ := h
  rw [a2]
  have eS : ∀ m, m ≠ 0 → m ≠ 46 + nu.toNat → upX (cUb S nu a p) 0 5 (nu + 1) m = S m := fun m q0 q => by
    unfold cUb
    rw [upX_ne q0, upX_ne q, upX_ne q, upX_ne q, upX_ne q]
  have et : ∀ k, k ≠ 5 → cT (upX (cUb S nu a p) 0 5 (nu + 1)) k = cT S k := fun k q => by
    unfold cT cUb
    rw [upX_at (fun z => q z.2), upX_ne (by omega), upX_ne (by omega), upX_ne (by omega), upX_ne (by omega)]
  have et5 : cT (upX (cUb S nu a p) 0 5 (nu + 1)) 5 = nu + 1 := upX_is
  have hu : cU (upX (cUb S nu a p) 0 5 (nu + 1)) nu 0 = a ∧ cU (upX (cUb S nu a p) 0 5 (nu + 1)) nu 1 = p ∧ cU (upX (cUb S nu a p) 0 5 (nu + 1)) nu 2 = 0 ∧ cU (upX (cUb S nu a p) 0 5 (nu + 1)) nu 3 = 0 := by
    unfold cU cUb
    rw [upX_ne (by omega)]
    refine ⟨?_, ?_, ?_, upX_is⟩
    · rw [upX_at (by omega), upX_at (by omega), upX_at (by omega)]; exact upX_is
    · rw [upX_at (by omega), upX_at (by omega)]; exact upX_is
    · rw [upX_at (by omega)]; exact upX_is
  generalize upX (cUb S nu a p) 0 5 (nu + 1) = S' at *
  have es : ∀ g : Int, 0 ≤ g → g < 4 → cSe S' g = cSe S g := fun g q z => eS _ (by omega) (by omega)
  refine ⟨⟨⟨by rw [et 4 (by decide)]; exact a1, et5, by rw [et 6 (by decide)]; exact a3, by rw [et 7 (by decide)]; exact a4⟩, by omega, c, fun g q z => ?_, fun u q z => ?_⟩, ?_, es⟩
  · have k0 := d g q z
    refine k0.keep (eS _ (by omega) (by omega)) ?_ (by rw [es g q z]) (fun y => ?_) (by rw [es g q z]; exact k0.2.1.2)
    · show S' (15 + 7 * g.toNat) 5 = S (15 + 7 * g.toNat) 5
      rw [eS _ (by omega) (by omega)]
    · have := par4_lt (g := g) y (by omega)
      rw [es _ this.1 (by omega)]
  · by_cases w : u = nu
    · rw [w]
      unfold PreU
      rw [hu.1, hu.2.1, hu.2.2.1, hu.2.2.2, es a ha.1 ha.2]
      exact ⟨ha, hp, rfl, rfl, hr⟩
    · have k0 := e u q (by omega)
      have eu : cU S' u = cU S u := eS _ (by omega) (by omega)
      unfold PreU at *
      rw [eu, es _ k0.1.1 k0.1.2]
      exact k0
  · unfold cJoin
    rw [if_neg (fun z => z ⟨⟨ha.1, by omega⟩, hp⟩), if_neg (fun z => z hr), show (if nu < 10 then (1 : Int) else 0) = 1 from if_pos (by omega), if_neg (by decide)]
/-- what is built keeps to the invariants -/
theorem PreT.inv {S : Nat → Int → Int} {R : Nat → List FV} (h : PreT 4 5 S R) : IvvN 0 S R := by
  obtain ⟨⟨a1, a2, a3, a4⟩, b, ⟨c3, c⟩, d, e⟩ := h
  have k0 := d 0 (by decide) (by decide)
  have k1 := d 1 (by decide) (by decide)
  have k2 := d 2 (by decide) (by decide)
  have k3 := d 3 (by decide) (by decide)
  have hc : CfgS S := by
    refine ⟨⟨a1, a2⟩, ⟨k0.1.1, k1.1.1, k2.1.1, k3.1.1⟩, ⟨k0.1.2.1, k1.1.2.1, k2.1.2.1, k3.1.2.1⟩, fun g p q => (d g p q).2.1, fun u p q => ?_, fun x hx => ?_⟩
    · have z := e u p q
      exact ⟨z.1, z.2.1, by rw [z.2.2.1]; decide, by rw [z.2.2.1]; decide⟩
    · unfold cPer cTgt
      rcases hx with z | z
      · rw [if_pos (by omega), if_pos (by omega), (d x (by omega) (by omega)).1.1]
        exact (d x (by omega) (by omega)).2.2.2 z.1
      · rw [if_neg (by omega), if_neg (by omega)]
        exact (e (x - 5) (by omega) (by omega)).2.2.2.2
  have ek : cKept S = 0 := by unfold cKept; rw [a4]; rfl
  refine ⟨⟨hc, by omega, fun g p q => ?_, fun i p q => by rw [ek] at q; omega, by rw [a4, k0.1.2.2.1], fun z => by rw [a4] at z; exact absurd z (by decide)⟩, fun v hv => by rw [c3] at hv; exact absurd hv List.not_mem_nil, ⟨?_, c 4 (by decide) (by decide)⟩, fun u p q => ?_⟩
  · have kg := d g p q
    refine ⟨fun v hv => by rw [c g p (by omega)] at hv; exact absurd hv List.not_mem_nil, fun i j x y z => ?_, by rw [c g p (by omega)]; exact List.Pairwise.nil, ⟨by rw [kg.2.2.1]; decide, fun u x y z => ?_⟩, Or.inl ⟨kg.1.2.2.2, kg.1.2.2.1⟩⟩
    · rw [c g p (by omega)] at z
      exfalso
      have z : j < ((0 : Nat) : Int) := z
      omega
    · have z : rBit (SF S (15 + 7 * g.toNat) 5) u := z
      rw [kg.2.2.1] at z
      exact absurd z (rBit_0 ⟨x, by omega⟩)
  · unfold TKR
    rw [c3, c 0 (by decide) (by decide), c 1 (by decide) (by decide), c 2 (by decide) (by decide), c 3 (by decide) (by decide)]
    decide
  · have z := e u p q
    rw [c3, z.2.2.2.1]
    exact ⟨Int.le_refl _, Int.le_refl _⟩

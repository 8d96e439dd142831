/-! THE CLASS: slots released -/
def SY (A B : Nat → Int → Int) : Prop := SX A B ∧ SF B 6 = SF A 6
theorem SY.refl {A : Nat → Int → Int} : SY A A := ⟨SX.refl, rfl⟩
theorem SY.trans {A B C : Nat → Int → Int} (a : SY A B) (b : SY B C) : SY A C := ⟨a.1.trans b.1, b.2.trans a.2⟩
theorem SF6_upX {A : Nat → Int → Int} {n : Nat} {k v : Int} (h : n ≠ 6 ∧ n ≠ 7 ∧ n ≠ 8) : SF (upX A n k v) 6 = SF A 6 := by
  unfold SF
  rw [upX_ne (by omega), upX_ne (by omega), upX_ne (by omega)]
theorem SY.upX {A B : Nat → Int → Int} (x : SY A B) {n : Nat} {k v : Int} (h : n ≠ 6 ∧ n ≠ 7 ∧ n ≠ 8) : SY (Jvm.Pilot.CPhasorTreeLaw_law_r4566_d5a5ba.upX A n k v) (Jvm.Pilot.CPhasorTreeLaw_law_r4566_d5a5ba.upX B n k v) := ⟨x.1.upX, by rw [SF6_upX h, SF6_upX h, x.2]⟩
theorem SY.upF6 {A B : Nat → Int → Int} (x : SX A B) {v : FV} : SY (upF A 6 v) (upF B 6 v) := ⟨x.upF, by rw [SF_upF, SF_upF]⟩
theorem SY.upFn {A B : Nat → Int → Int} (x : SY A B) {n : Nat} {v : FV} (h : 10 < n) : SY (upF A n v) (upF B n v) := ⟨x.1.upF, by rw [SF_ne (by omega), SF_ne (by omega), x.2]⟩
/-- the built frame comes to its hub -/
noncomputable def cArB (S : Nat → Int → Int) (R : Nat → List FV) : (Nat → Int → Int) × (Nat → List FV) :=
  let v := SF S 6
  let g := cTgt S (v 0)
  let sl := cSlt S g (v 1) (cPer S (v 0))
  cif (cLate S g (v 0) sl) (upX S (11 + 7 * g.toNat) 6 (wr (cH S g 6 + 1)), R) (cif (cHas (kR R g) sl v) (upX S (11 + 7 * g.toNat) 7 (wr (cH S g 7 + 1)), R) (upX (upF S 6 (ups (ups v 2 sl) 3 (cT S 6))) (13 + 7 * g.toNat) 1 (((kR R g).length : Nat) + 1), upR R (13 + 7 * g.toNat) (insA (kR R g) (cPlace (kR R g) sl) (ups (ups v 2 sl) 3 (cT S 6)))))
theorem cArB_sy {A B : Nat → Int → Int} (x : SY A B) {R : Nat → List FV} : SY (cArB A R).1 (cArB B R).1 ∧ (cArB B R).2 = (cArB A R).2 := by
  have sr := x.1.sr
  have e1 : cTgt B (SF B 6 0) = cTgt A (SF A 6 0) := by unfold cTgt; rw [x.2, sr.2.1, sr.2.2.2]
  have e2 : cPer B (SF B 6 0) = cPer A (SF A 6 0) := by rw [x.2, sr.cPer]
  have e3 : ∀ g s p, cSlt B g s p = cSlt A g s p := fun g s p => by unfold cSlt; rw [sr.2.2.1]
  have e4 : ∀ g sl, cLate B g (SF B 6 0) sl ↔ cLate A g (SF A 6 0) sl := fun g sl => by unfold cLate cGone; rw [x.2, sr.2.1, sr.2.2.2]
  unfold cArB
  dsimp only
  rw [e1, e2, e3, x.2]
  rw [x.2] at e4
  generalize cTgt A (SF A 6 0) = g
  generalize cSlt A g (SF A 6 1) (cPer A (SF A 6 0)) = sl
  rcases Classical.em (cLate A g (SF A 6 0) sl) with h | h
  · rw [cif_t h, cif_t ((e4 g sl).mpr h), sr.2.1]
    exact ⟨x.upX (by omega), rfl⟩
  · rw [cif_f h, cif_f (fun q => h ((e4 g sl).mp q))]
    rcases Classical.em (cHas (kR R g) sl (SF A 6)) with h2 | h2
    · rw [cif_t h2, cif_t h2, sr.2.1]
      exact ⟨x.upX (by omega), rfl⟩
    · rw [cif_f h2, cif_f h2, sr.1]
      exact ⟨(SY.upF6 x.1).upX (by omega), rfl⟩
theorem cPut_sy {A B : Nat → Int → Int} (x : SY A B) : SY (cPut A) (cPut B) := by
  have sr := x.1.sr
  have e : cMost B = cMost A := by unfold cMost; rw [sr.1, x.2]
  unfold cPut
  rw [e, sr.1, x.2]
  exact ((SY.upF6 x.1.upX).upFn (by omega)).upX (by decide)
/-- what becomes of the built frame of hub g -/
noncomputable def cTl (S : Nat → Int → Int) (R : Nat → List FV) (g : Int) : (Nat → Int → Int) × (Nat → List FV) :=
  if g = 0 then (cPut S, R) else if cSe S g 3 = 0 then cArB S R else (upX (upF S 6 (ups (SF S 6) 3 (cT S 6 + cSe S g 3))) 3 1 (((R 3).length : Nat) + 1), upR R 3 (insA (R 3) ((R 3).length : Nat) (ups (SF S 6) 3 (cT S 6 + cSe S g 3))))
theorem cTl_sy {A B : Nat → Int → Int} (x : SY A B) {R : Nat → List FV} {g : Int} : SY (cTl A R g).1 (cTl B R g).1 ∧ (cTl B R g).2 = (cTl A R g).2 := by
  have sr := x.1.sr
  unfold cTl
  rw [sr.2.2.1, sr.1, x.2]
  split
  · exact ⟨cPut_sy x, rfl⟩
  · split
    · exact cArB_sy x
    · exact ⟨(SY.upF6 x.1).upX (by decide), rfl⟩
noncomputable def cRl0 (S : Nat → Int → Int) (L : List FV) (g : Int) : Nat → Int → Int := upX (upX (upX (upF (upF S (15 + 7 * g.toNat) (cB S L g (cT S 5)).2) 6 (cB S L g (cT S 5)).1) (13 + 7 * g.toNat) 1 ((L.drop (cEnd L 0).toNat).length : Nat)) (11 + 7 * g.toNat) 5 (wr (cH S g 5 + 1))) (11 + 7 * g.toNat) 8 ((cB S L g (cT S 5)).1 1)
/-- hub g releases its first slot -/
noncomputable def cRl (S : Nat → Int → Int) (R : Nat → List FV) (g : Int) : (Nat → Int → Int) × (Nat → List FV) := cTl (cRl0 S (kR R g) g) (upR R (13 + 7 * g.toNat) ((kR R g).drop (cEnd (kR R g) 0).toNat)) g
def RlOK (S : Nat → Int → Int) (R : Nat → List FV) (g : Int) : Prop := CI S ∧ (0 ≤ g ∧ g < cT S 4) ∧ RowOK (kR R g) ∧ (0 ≤ cSe S g 0 ∧ cSe S g 0 ≤ 40) ∧ (0 ≤ cT S 6 ∧ cT S 6 ≤ 50000) ∧ (∀ q : Int, 0 ≤ q → q < 5 → (kR R q).length < 1000) ∧ (R 3).length < 1000 ∧ (0 ≤ cT S 7 ∧ cT S 7 ≤ 1000000000) ∧ (g ≠ 0 → 0 ≤ cH S g 3) ∧ (0 < (kR R g).length → (0 ≤ gt (kR R g) 0 2 ∧ gt (kR R g) 0 2 ≤ 50000) ∧ ∀ c u, 0 ≤ u → u < 10 → (cPick (kR R g) c u (cVal (kR R g) c u (cEnd (kR R g) 0)) (cEnd (kR R g) 0)).length ≤ 20)
theorem cReady_sx {S S' : Nat → Int → Int} (x : SX S S') {R : Nat → List FV} {g : Int} : cReady S' R g ↔ cReady S R g := by
  unfold cReady cComp cCompN
  rw [cWait_sx x, x.cT]
  have : ∀ c, (cChild S' g c → cExp S' g c (gt (kR R g) 0 2) ≤ cTal (kR R g) 0 (cEnd (kR R g) 0) c) ↔ (cChild S g c → cExp S g c (gt (kR R g) 0 2) ≤ cTal (kR R g) 0 (cEnd (kR R g) 0) c) := fun c => by rw [x.cChild, x.cExp]
  simp only [this]
theorem SX.up6l {A B : Nat → Int → Int} (x : SX A B) {v : FV} : SX (Jvm.Pilot.CPhasorTreeLaw_law_r4566_d5a5ba.upF A 6 v) B := fun m h1 h2 h3 h4 h5 => by rw [x m h1 h2 h3 h4 h5, upF_ne h1 h2 h3]
theorem cT_upX {S : Nat → Int → Int} {n : Nat} {k v : Int} (h : n ≠ 0) : cT (upX S n k v) = cT S := by funext j; exact congrFun (upX_ne (by omega)) j
/-- a hub's counters are not what the readers' ranges speak of -/
theorem CI_upX {S : Nat → Int → Int} {g k v : Int} (h5 : g < 5) (hc : CI S) (hk : k ≠ 3) : CI (upX S (11 + 7 * g.toNat) k v) := by
  have e1 : cT (upX S (11 + 7 * g.toNat) k v) = cT S := cT_upX (by omega)
  have e2 : cSe (upX S (11 + 7 * g.toNat) k v) = cSe S := by funext q j; exact congrFun (upX_ne (by omega)) j
  have e4 : ∀ q, cH (upX S (11 + 7 * g.toNat) k v) q 3 = cH S q 3 := fun q => by
    unfold cH upX
    rw [if_neg (fun q => hk q.2.symm)]
  have e3 : cU (upX S (11 + 7 * g.toNat) k v) = cU S := by funext u j; exact congrFun (upX_ne (by omega)) j
  unfold CI at *
  rw [e1, e2, e3]
  exact ⟨hc.1, hc.2.1, fun q h0 h1 => by rw [e4]; exact hc.2.2.1 q h0 h1, hc.2.2.2⟩
theorem SR.upX13 {S : Nat → Int → Int} {g k v : Int} (h5 : g < 5) : SR S (upX S (13 + 7 * g.toNat) k v) := by
  refine ⟨?_, ?_, ?_, ?_⟩
  · funext j; exact congrFun (upX_ne (by omega)) j
  · funext q j; exact congrFun (upX_ne (by omega)) j
  · funext q j; exact congrFun (upX_ne (by omega)) j
  · funext q j; exact congrFun (upX_ne (by omega)) j
set_option maxRecDepth 20000 in
theorem lp_T_rel {d : Nat} {h : HP} {t : Nat} {o : Nat → Nat} {w : Nat → Nat × Nat} {g : Int} {P : Nat → (Nat → Int → Int) → (Nat → List FV) → Prop} (hP : ∀ k S R, P k S R → RlOK S R g ∧ (kR R g).length ≤ k) (hX : ∀ k S S' R, P k S R → SY S S' → P k S' R) (hStp : ∀ k S R, P k S R → cReady S R g → P (k - 1) (cRl S R g).1 (cRl S R g).2) {Q : HP → Prop} (K : ∀ H' o' w' k S' R', ExtT h o w t H' o' w' → TR t H' o' w' S' R' → P k S' R' → ¬ cReady S' R' g → Q H') (k : Nat) : ∀ (l : Nat) (H : HP) (o1 : Nat → Nat) (w1 : Nat → Nat × Nat) (S : Nat → Int → Int) (R : Nat → List FV), l < k → (l ≤ 100000) → (ExtT h o w t H o1 w1) → (TR t H o1 w1 S R) → (P l S R) → At (d + 4) 141 9 [some (.inr (some t)), some (.inl g), some (.inr (some (t + (11 + 7 * g.toNat)))), some (.inl (l : Nat))] [] H (fun v h' => v = none ∧ Q h') := by
  have hC : cod 141 = c_T_releaseReadySlots := rfl
  induction k with
  | zero =>
    intro l H o1 w1 S R hk
    exact absurd hk (Nat.not_lt_zero _)
  | succ k ih =>
    intro l H o1 w1 S R hk hI0 hI1 hI2 hI3
    obtain ⟨⟨hc, hg, hok, hwt, htm, hlen, hlw, ho, hab, hrd⟩, hkl⟩ := hP _ _ _ hI3
    have h4 := hc.1
    have hg5 : g < 5 := by omega
    have hK := hI2.1
    have hS := hI2.2.2.1
    refine x_1 (p' := 10) hC rfl rfl rfl rfl ?_
    refine x_ifle (p' := 11) hC rfl rfl (fun c10 => ?_) (fun c10 => ?_)
    · 
      refine x_ret hC rfl rfl rfl ⟨rfl, ?_⟩
      first
        | exact K _ _ _ _ _ _ hI1 hI2 hI3 (fun q => by have := q.1; omega)
        | exact K _ _ _ _ _ _ (hI1.trans E2) T2 hP2 (fun q => c14 ((cReady_sx sx2).mp q))
    · refine x_1 (p' := 12) hC rfl rfl rfl rfl ?_
      refine x_1 (p' := 13) hC rfl rfl rfl rfl ?_
      refine x_cIV1 (p' := 14) (n := 140) hC rfl rfl rfl rfl rfl (hK.ty) ?_
      refine sp_T_isFirstSlotReady hI2 hc hg hok hwt (by omega) (fun H2 S2 E2 T2 x2 => ?_)
      have sx2 : SX S S2 := fun m h1 h2 h3 h4 h5 => x2 m h4
      have sy2 : SY S S2 := ⟨sx2, by unfold SF; rw [x2 6 (by decide), x2 7 (by decide), x2 8 (by decide)]⟩
      have hP2 := hX _ _ _ _ hI3 sy2
      obtain ⟨⟨hc2, hg2, _, _, htm2, _, _, ho2, hab2, _⟩, _⟩ := hP _ _ _ hP2
      have hK := T2.1
      have hS := T2.2.2.1
      refine x_ifeq (p' := 15) hC rfl rfl (fun c14 => ?_) (fun c14 => ?_)
      · have c14 := b2i_0.mp c14
        refine x_ret hC rfl rfl rfl ⟨rfl, ?_⟩
        first
          | exact K _ _ _ _ _ _ hI1 hI2 hI3 (fun q => by have := q.1; omega)
          | exact K _ _ _ _ _ _ (hI1.trans E2) T2 hP2 (fun q => c14 ((cReady_sx sx2).mp q))
      · have c14 := b2i_n0.mp c14
        refine x_1 (p' := 16) hC rfl rfl rfl rfl ?_
        refine x_1 (p' := 17) hC rfl rfl rfl rfl ?_
        refine x_cVV1 (p' := 18) (n := 143) hC rfl rfl rfl rfl rfl (hK.ty) ?_
        have hpos : 0 < (kR R g).length := c14.1
        obtain ⟨hs0, hpk⟩ := hrd hpos
        refine sp_T_build T2 hc2 hg2 hpos hs0.1 hpk (fun H3 S3 E3 T3 x3 v3 => ?_)
        have hK := T3.1
        have hS := T3.2.2.1
        have h5 := hc2.2.1
        obtain ⟨n, hn⟩ := Int.eq_ofNat_of_zero_le h5.1
        have hpi := cB_inv (S := S2) (L := kR R g) (g := g) hpos n (by omega)
        rw [← hn] at hpi
        obtain ⟨_, _, arr, ad, W, _⟩ := T3.hrow hg.1 hg5
        refine x_1 (p' := 19) hC rfl rfl rfl rfl ?_
        refine z_hr1 (p' := 20) hK (by omega) (by omega) hC rfl rfl ?_
        refine x_1 (p' := 21) hC rfl rfl rfl rfl ?_
        refine z_hr1 (p' := 22) hK (by omega) (by omega) hC rfl rfl ?_
        refine x_1 (p' := 23) hC rfl rfl rfl rfl ?_
        refine x_cIV1 (p' := 24) (n := 95) hC rfl rfl rfl rfl rfl (hK.hrty (by omega) (by omega)) ?_
        refine sp_R_slotEnd W (by omega) ?_
        have hE := cEnd_rng (L := kR R g) (st := 0) (by omega) (by omega)
        refine x_cVV1 (p' := 25) (n := 93) hC rfl rfl rfl rfl rfl (hK.hrty (by omega) (by omega)) ?_
        refine sp_R_removeFirst (T3.hrow hg.1 hg5) (by omega) (fun H4 E4 P4 => ?_)
        have T4 := T3.row (n := 13 + 7 * g.toNat) (by omega) (sk_r hg.1 hg5) E4 P4
        have hK := T4.2.1
        have hS := T4.2.2.2.1
        refine x_1 (p' := 26) hC rfl rfl rfl rfl ?_
        refine x_1 (p' := 27) hC rfl rfl rfl rfl ?_
        refine z_hg (p' := 28) (kz := 5) hK hS (by omega) (by omega) hC rfl rfl rfl rfl ?_
        refine x_1 (p' := 29) hC rfl rfl rfl rfl ?_
        refine x_1 (p' := 30) hC rfl rfl rfl rfl ?_
        refine x_putI (p' := 31) hC rfl rfl rfl (hK.hty hg.1 hg5) (by have := hK.1; omega) ?_
        rw [show (((5 : Nat) : Int)) = 5 from rfl]
        have hcg5 : ∀ n, cH (upX S3 (13 + 7 * g.toNat) 1 n) g 5 = cH S2 g 5 := fun n => by
          have e : cH (upX S3 (13 + 7 * g.toNat) 1 n) g 5 = cH S3 g 5 := congrFun (upX_ne (by omega)) 5
          rw [e, x3.cH, (SR.upFh hg.1 hg5).2.1]
        rw [hcg5]
        have T5 := T4.2.int (n := 11 + 7 * g.toNat) (k := 5) (v := wr (cH S2 g 5 + 1)) (by omega) (by rw [(sk_h ⟨g.toNat, by omega⟩).1]; decide) (by rw [(sk_h ⟨g.toNat, by omega⟩).1]; decide)
        have hK := T5.2.1
        have hS := T5.2.2.2.1
        have hB5 := hK.built
        have hV5 := SF_eq hS (n := 6) (by decide)
        rw [SF6_upX (by omega), SF6_upX (by omega), v3] at hV5
        refine x_1 (p' := 32) hC rfl rfl rfl rfl ?_
        refine x_1 (p' := 33) hC rfl rfl rfl rfl ?_
        refine z_tr (p' := 34) (n := 6) hK hC rfl rfl rfl rfl ?_
        refine z_fg (p' := 35) (kz := 1) hB5 hV5 hC rfl rfl rfl rfl ?_
        refine x_putI (p' := 36) hC rfl rfl rfl (hK.hty hg.1 hg5) (by have := hK.1; omega) ?_
        rw [show (((8 : Nat) : Int)) = 8 from rfl]
        have T6 := T5.2.int (n := 11 + 7 * g.toNat) (k := 8) (v := (cB S2 (kR R g) g (cT S2 5)).1 1) (by omega) (by rw [(sk_h ⟨g.toNat, by omega⟩).1]; decide) (by rw [(sk_h ⟨g.toNat, by omega⟩).1]; decide)
        have hrdy : cReady S2 R g := (cReady_sx sx2).mpr c14
        have E6 := ((((hI1.trans E2).trans E3).trans T4.1).trans T5.1).trans T6.1
        have T6 := T6.2
        have hC3T : cT (cRl0 S2 (kR R g) g) = cT S2 := by
          funext k
          unfold cRl0
          refine (congrFun (upX_ne (by omega)) k).trans ((congrFun (upX_ne (by omega)) k).trans ((congrFun (upX_ne (by omega)) k).trans ((congrFun (upF_ne (by omega) (by omega) (by omega)) k).trans (congrFun (upF_ne (by omega) (by omega) (by omega)) k))))
        have hC3H3 : cH (cRl0 S2 (kR R g) g) g 3 = cH S2 g 3 := by
          have e1 : cH (cRl0 S2 (kR R g) g) g 3 = cH (upF (upF S2 (15 + 7 * g.toNat) (cB S2 (kR R g) g (cT S2 5)).2) 6 (cB S2 (kR R g) g (cT S2 5)).1) g 3 := by
            unfold cRl0 cH upX
            rw [if_neg (by omega), if_neg (by omega), if_neg (by omega)]
          rw [e1, (SX.upF6).cH, (SR.upFh hg.1 hg5).2.1]
        have sy6 : SY (cRl0 S2 (kR R g) g) (upX (upX (upX S3 (13 + 7 * g.toNat) 1 (((kR R g).drop (cEnd (kR R g) 0).toNat).length : Nat)) (11 + 7 * g.toNat) 5 (wr (cH S2 g 5 + 1))) (11 + 7 * g.toNat) 8 ((cB S2 (kR R g) g (cT S2 5)).1 1)) := by
          have s0 : SY (upF (upF S2 (15 + 7 * g.toNat) (cB S2 (kR R g) g (cT S2 5)).2) 6 (cB S2 (kR R g) g (cT S2 5)).1) S3 := ⟨x3.up6l, by rw [v3, SF_upF, hpi.1]⟩
          exact ((s0.upX (by omega)).upX (by omega)).upX (by omega)
        have hv6 : SF (upX (upX (upX S3 (13 + 7 * g.toNat) 1 (((kR R g).drop (cEnd (kR R g) 0).toNat).length : Nat)) (11 + 7 * g.toNat) 5 (wr (cH S2 g 5 + 1))) (11 + 7 * g.toNat) 8 ((cB S2 (kR R g) g (cT S2 5)).1 1)) 6 = (cB S2 (kR R g) g (cT S2 5)).1 := by rw [SF6_upX (by omega), SF6_upX (by omega), SF6_upX (by omega), v3]
        have hc6 : CI (upX (upX (upX S3 (13 + 7 * g.toNat) 1 (((kR R g).drop (cEnd (kR R g) 0).toNat).length : Nat)) (11 + 7 * g.toNat) 5 (wr (cH S2 g 5 + 1))) (11 + 7 * g.toNat) 8 ((cB S2 (kR R g) g (cT S2 5)).1 1)) := by
          have c3 : CI S3 := x3.sr.CI ((SR.upFh hg.1 hg5).CI hc2)
          refine CI_upX hg5 ?_ (by decide)
          refine CI_upX hg5 ?_ (by decide)
          exact (SR.upX13 hg5).CI c3
        generalize upX (upX (upX S3 (13 + 7 * g.toNat) 1 (((kR R g).drop (cEnd (kR R g) 0).toNat).length : Nat)) (11 + 7 * g.toNat) 5 (wr (cH S2 g 5 + 1))) (11 + 7 * g.toNat) 8 ((cB S2 (kR R g) g (cT S2 5)).1 1) = S6 at *
        have hv61 : SF S6 6 1 = gt (kR R g) 0 2 := by rw [hv6]; exact hpi.2.2.2.1
        have hv60 : SF S6 6 0 = g := by rw [hv6]; exact hpi.2.2.1
        have hK := T6.1
        have hS := T6.2.2.1
        generalize hH6 : sI (sI H4 (t + (11 + 7 * g.toNat)) 5 (wr (cH S2 g 5 + 1))) (t + (11 + 7 * g.toNat)) 8 ((cB S2 (kR R g) g (cT S2 5)).1 1) = H6 at *
        refine x_1 (p' := 37) hC rfl rfl rfl rfl ?_
        refine x_ifne (p' := 38) hC rfl rfl (fun c37 => ?_) (fun c37 => ?_)
        · refine x_1 (p' := 42) hC rfl rfl rfl rfl ?_
          refine z_hr0 (p' := 43) hK (by omega) (by omega) hC rfl rfl ?_
          refine x_1 (p' := 44) hC rfl rfl rfl rfl ?_
          refine z_sl (p' := 45) hK hS (by omega) (by omega) hC rfl rfl rfl (by omega) (by omega) ?_
          refine x_ifne (p' := 46) hC rfl rfl (fun c45 => ?_) (fun c45 => ?_)
          · refine x_1 (p' := 52) hC rfl rfl rfl rfl ?_
            refine z_tr (p' := 53) (n := 6) hK hC rfl rfl rfl rfl ?_
            refine x_1 (p' := 54) hC rfl rfl rfl rfl ?_
            refine z_ti (p' := 55) (kz := 6) hK hS hC rfl rfl rfl rfl ?_
            refine x_1 (p' := 56) hC rfl rfl rfl rfl ?_
            refine z_hr0 (p' := 57) hK (by omega) (by omega) hC rfl rfl ?_
            refine x_1 (p' := 58) hC rfl rfl rfl rfl ?_
            refine z_sl (p' := 59) hK hS (by omega) (by omega) hC rfl rfl rfl (by omega) (by omega) ?_
            have hcT : cT S6 = cT S2 := sy6.1.cT.trans hC3T
            have hdl := hc6.2.2.1 g hg.1 (by rw [hcT]; omega)
            refine x_add (p' := 60) hC rfl rfl rfl (by rw [hcT]; exact ⟨by rw [← hcT]; rw [hcT]; omega, by rw [← hcT]; rw [hcT]; omega⟩) ?_
            refine x_putI (p' := 61) hC rfl rfl rfl hK.built.ty (by have := hK.1; omega) ?_
            have hVB := SF_eq hS (n := 6) (by decide)
            have hB6 := hK.built
            rw [show (((3 : Nat) : Int)) = 3 from rfl, sI_sF (by decide) (by decide), hVB]
            have T7 := T6.frm (n := 6) (v := ups (SF S6 6) 3 (cT S6 6 + cSe S6 g 3)) (by decide) (by decide)
            have hK := T7.2.1
            have hS := T7.2.2.2.1
            obtain ⟨_, _, arr2, ad2, W2, _⟩ := T7.2.way
            obtain ⟨R8, hR8⟩ : ∃ R8, R8 = upR R (13 + 7 * g.toNat) ((kR R g).drop (cEnd (kR R g) 0).toNat) := ⟨_, rfl⟩
            refine x_1 (p' := 62) hC rfl rfl rfl rfl ?_
            refine z_tr (p' := 63) (n := 3) hK hC rfl rfl rfl rfl ?_
            refine x_1 (p' := 64) hC rfl rfl rfl rfl ?_
            refine z_tr (p' := 65) (n := 3) hK hC rfl rfl rfl rfl ?_
            refine z_rs (p' := 66) W2 hC rfl rfl ?_
            refine x_1 (p' := 67) hC rfl rfl rfl rfl ?_
            refine z_tr (p' := 68) (n := 6) hK hC rfl rfl rfl rfl ?_
            refine x_cVV2 (p' := 69) (n := 90) hC rfl rfl rfl rfl rfl (hK.wty) ?_
            refine sp_R_insert (T7.2.way) (by rw [upR_ne (by omega)]; omega) (by rw [upR_ne (by omega)]; omega) hB6 ⟨by rw [T6.2.1 6 (by decide)]; show t + 6 ≠ t + 3; omega, by rw [show t + 6 + 1 = t + 7 by omega, T6.2.1 7 (by decide)]; show t + 7 ≠ t + 3; omega, by rw [show t + 6 + 2 = t + 8 by omega, T6.2.1 8 (by decide)]; show t + 8 ≠ t + 3; omega⟩ (fun H8 o8 w8 E8 P8 => ?_)
            rw [fV_sF, nf_ups (by decide) (by decide), nf_SF] at P8
            have T8 := T7.2.row (n := 3) (by decide) (by decide) E8 P8
            rw [insA_len] at T8
            have hst := hStp _ _ _ hP2 hrdy
            have hRl : cRl S2 R g = (upX (upF (cRl0 S2 (kR R g) g) 6 (ups (SF (cRl0 S2 (kR R g) g) 6) 3 (cT (cRl0 S2 (kR R g) g) 6 + cSe (cRl0 S2 (kR R g) g) g 3))) 3 1 (((R8 3).length : Nat) + 1), upR R8 3 (insA (R8 3) ((R8 3).length : Nat) (ups (SF (cRl0 S2 (kR R g) g) 6) 3 (cT (cRl0 S2 (kR R g) g) 6 + cSe (cRl0 S2 (kR R g) g) g 3)))) := by
              rw [hR8]
              unfold cRl cTl
              rw [if_neg c37, if_neg (by rw [← sy6.1.cSe]; exact c45)]
            rw [hRl] at hst
            dsimp only at hst
            rw [← sy6.1.cT, ← sy6.1.cSe, ← sy6.2] at hst
            have hfin := hX _ _ _ _ hst ((SY.upF6 sy6.1 (v := ups (SF S6 6) 3 (cT S6 6 + cSe S6 g 3))).upX (n := 3) (k := 1) (v := ((R8 3).length : Nat) + 1) (by decide))
            rw [hR8] at hfin
            refine x_inc3 (p' := 70) hC rfl rfl (⟨by omega, by omega⟩) ?_
            refine x_1 (p' := 9) hC rfl rfl rfl rfl ?_
            first
              | (rw [show ((l : Nat) : Int) + -1 = ((l - 1 : Nat) : Int) by omega]
                 exact ih _ _ _ _ _ _ (by omega) (by omega) EE TT7 hfin)
              | (rw [show ((l : Nat) : Int) + -1 = ((l - 1 : Nat) : Int) by omega]
                 exact ih _ _ _ _ _ _ (by omega) (by omega) ((E6.trans T7.1).trans T8.1) T8.2 hfin)
          · refine x_1 (p' := 47) hC rfl rfl rfl rfl ?_
            refine x_1 (p' := 48) hC rfl rfl rfl rfl ?_
            refine z_tr (p' := 49) (n := 6) hK hC rfl rfl rfl rfl ?_
            refine x_cVV1 (p' := 50) (n := 136) hC rfl rfl rfl rfl rfl (hK.ty) ?_
            have hst := hStp _ _ _ hP2 hrdy
            have hcT : cT S6 = cT S2 := sy6.1.cT.trans hC3T
            have hcH : cH S6 = cH (cRl0 S2 (kR R g) g) := sy6.1.cH
            have hci6 : CI S6 := hc6
            have hh3 := hab2 (by omega)
            have hB6 := hK.built
            have hVB := SF_eq hS (n := 6) (by decide)
            have hRl : cRl S2 R g = cArB (cRl0 S2 (kR R g) g) (upR R (13 + 7 * g.toNat) ((kR R g).drop (cEnd (kR R g) 0).toNat)) := by
              unfold cRl cTl
              rw [if_neg c37, if_pos (by rw [← sy6.1.cSe]; exact c45)]
            have hab6 := cArB_sy sy6 (R := upR R (13 + 7 * g.toNat) ((kR R g).drop (cEnd (kR R g) 0).toNat))
            rw [← hRl] at hab6
            have hgo : ∀ H7 o7 w7, ExtT H6 o1 w1 t H7 o7 w7 → TR t H7 o7 w7 (cArB S6 (upR R (13 + 7 * g.toNat) ((kR R g).drop (cEnd (kR R g) 0).toNat))).1 (cArB S6 (upR R (13 + 7 * g.toNat) ((kR R g).drop (cEnd (kR R g) 0).toNat))).2 → At (d + 3 + 1) 141 50 [some (.inr (some t)), some (.inl g), some (.inr (some (t + (11 + 7 * g.toNat)))), some (.inl (l : Nat))] [] H7 (fun v h' => v = none ∧ Q h') := by
              intro H7 o7 w7 E7 T7
              have hfin := hX _ _ _ _ hst hab6.1
              rw [← hab6.2] at hfin
              refine x_1 (p' := 69) hC rfl rfl rfl rfl ?_
              refine x_inc3 (p' := 70) hC rfl rfl ⟨by omega, by omega⟩ ?_
              refine x_1 (p' := 9) hC rfl rfl rfl rfl ?_
              rw [show ((l : Nat) : Int) + -1 = ((l - 1 : Nat) : Int) by omega]
              exact ih _ _ _ _ _ _ (by omega) (by omega) (E6.trans E7) T7 hfin
            generalize hgd : cTgt S6 (SF S6 6 0) = g6
            generalize hsd : cSlt S6 g6 (SF S6 6 1) (cPer S6 (SF S6 6 0)) = sl6
            refine sp_T_arrive T6 hci6 hB6 hVB (SW := fun v => upF S6 6 v) (RW := fun _ => upR R (13 + 7 * g.toNat) ((kR R g).drop (cEnd (kR R g) 0).toNat)) (fun v => T6.frm (by decide) (by decide)) (fun _ => SX.upF6.sr) (fun _ _ _ _ => rfl) (by rw [hv60]; exact ⟨by omega, fun _ => ⟨by rw [hcT]; omega, by rw [hcH, hC3H3]; exact hh3⟩, fun q => absurd q (by omega)⟩) (by rw [hv61]; omega) (fun q h0 h1 => ?_) (fun q h0 h1 => ?_) hgd.symm hsd.symm (fun c1 H7 E7 T7 => ?_) (fun c1 c2 H7 E7 T7 => ?_) (fun c1 c2 H7 o7 w7 E7 T7 => ?_)
            · rw [T6.2.1 6 (by decide), show t + 6 + 1 = t + 7 by omega, T6.2.1 7 (by decide), show t + 6 + 2 = t + 8 by omega, T6.2.1 8 (by decide)]
              show t + 6 ≠ _ ∧ t + 7 ≠ _ ∧ t + 8 ≠ _
              omega
            · have := hlen q h0 h1
              by_cases hq : q = g
              · rw [hq, show kR (upR R (13 + 7 * g.toNat) ((kR R g).drop (cEnd (kR R g) 0).toNat)) g = (kR R g).drop (cEnd (kR R g) 0).toNat from upR_eq, List.length_drop]; rw [hq] at this; omega
              · rw [show kR (upR R (13 + 7 * g.toNat) ((kR R g).drop (cEnd (kR R g) 0).toNat)) q = kR R q from upR_ne (by omega)]; omega
            · refine hgo _ _ _ E7 ?_
              unfold cArB
              dsimp only
              rw [hgd, hsd, cif_t c1]
              exact T7
            · refine hgo _ _ _ E7 ?_
              unfold cArB
              dsimp only
              rw [hgd, hsd, cif_f c1, cif_t c2]
              exact T7
            · refine hgo _ _ _ E7 ?_
              unfold cArB
              dsimp only
              rw [hgd, hsd, cif_f c1, cif_f c2]
              exact T7
            
        · refine x_1 (p' := 39) hC rfl rfl rfl rfl ?_
          refine x_cVV0 (p' := 40) (n := 142) hC rfl rfl rfl rfl rfl (hK.ty) ?_
          have hcT : cT S6 = cT S2 := sy6.1.cT.trans hC3T
          refine sp_T_putOut T6 (by rw [hcT]; omega) (by rw [hcT]; omega) (by rw [hv61]; omega) (fun H7 E7 T7 => ?_)
          have hst := hStp _ _ _ hP2 hrdy
          have hfin := hX _ _ _ _ hst (show SY (cRl S2 R g).1 (cPut S6) by
            unfold cRl cTl
            rw [if_pos c37]
            exact cPut_sy sy6)
          have hR7 : (cRl S2 R g).2 = upR R (13 + 7 * g.toNat) ((kR R g).drop (cEnd (kR R g) 0).toNat) := by
            unfold cRl cTl
            rw [if_pos c37]
          rw [hR7] at hfin
          have EE := (E6.trans E7)
          have TT7 := T7
          have oo := o1
          have ww := w1
          refine x_1 (p' := 69) hC rfl rfl rfl rfl ?_
          refine x_inc3 (p' := 70) hC rfl rfl (⟨by omega, by omega⟩) ?_
          refine x_1 (p' := 9) hC rfl rfl rfl rfl ?_
          first
            | (rw [show ((l : Nat) : Int) + -1 = ((l - 1 : Nat) : Int) by omega]
               exact ih _ _ _ _ _ _ (by omega) (by omega) EE TT7 hfin)
            | (rw [show ((l : Nat) : Int) + -1 = ((l - 1 : Nat) : Int) by omega]
               exact ih _ _ _ _ _ _ (by omega) (by omega) ((E6.trans T7.1).trans T8.1) T8.2 hfin)
set_option maxRecDepth 20000 in
set_option maxHeartbeats 2000000 in
theorem sp_T_releaseReadySlots {d : Nat} {h : HP} {t : Nat} {o : Nat → Nat} {w : Nat → Nat × Nat} {g : Int} {P : Nat → (Nat → Int → Int) → (Nat → List FV) → Prop} (hP : ∀ k S R, P k S R → RlOK S R g ∧ (kR R g).length ≤ k) (hX : ∀ k S S' R, P k S R → SY S S' → P k S' R) (hStp : ∀ k S R, P k S R → cReady S R g → P (k - 1) (cRl S R g).1 (cRl S R g).2) {Q : HP → Prop} (K : ∀ H' o' w' k S' R', ExtT h o w t H' o' w' → TR t H' o' w' S' R' → P k S' R' → ¬ cReady S' R' g → Q H') {k : Nat} {S : Nat → Int → Int} {R : Nat → List FV} (T : TR t h o w S R) (hk : P k S R) (hkl : k = (kR R g).length) : CaV (d + 4) 141 [.inr (some t), .inl g] h Q := by
  have hC : cod 141 = c_T_releaseReadySlots := rfl
  refine CaV.start rfl ?_
  obtain ⟨⟨hc, hg, hok, hwt, htm, hlen, hlw, ho, hab, hrd⟩, _⟩ := hP _ _ _ hk
  have h4 := hc.1
  have hg5 : g < 5 := by omega
  have hK := T.1
  have hS := T.2.2.1
  have hz := T.cZ hg.1 hg5
  refine x_1 (p' := 1) hC rfl rfl rfl rfl ?_
  refine z_tr (p' := 2) (n := 1) hK hC rfl rfl rfl rfl ?_
  refine x_1 (p' := 3) hC rfl rfl rfl rfl ?_
  refine z_hub (p' := 4) hK hC rfl rfl rfl (by omega) (by omega) ?_
  refine x_stA2 (p' := 5) hC rfl rfl rfl ?_
  refine x_1 (p' := 6) hC rfl rfl rfl rfl ?_
  refine z_hr1 (p' := 7) hK (by omega) (by omega) hC rfl rfl ?_
  refine z_rwh (p' := 8) hK hS (by omega) (by omega) hC rfl rfl ?_
  rw [hz.1, ← hkl]
  refine x_stI3 (p' := 9) hC rfl rfl rfl ?_
  exact lp_T_rel hP hX hStp K _ k h o w S R (Nat.lt_succ_self _) (by omega) ExtT.refl T hk

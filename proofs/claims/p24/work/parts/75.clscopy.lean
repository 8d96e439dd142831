/-! THE CLASS: a tree copied -/
theorem TR.other {t t2 : Nat} {G H : HP} {g o : Nat → Nat} {w0 w : Nat → Nat × Nat} {S : Nat → Int → Int} {R : Nat → List FV} (T : TR t2 G g w0 S R) (E : ExtT G g w0 t H o w) (hd : t + 80 ≤ t2 ∨ t2 + 80 ≤ t) : TR t2 H o w S R := by
  obtain ⟨K, T2, T3, T4⟩ := T
  obtain ⟨e1, e2, e3, e4, e5, e6, e7, e8⟩ := E
  have kb := K.2.1
  have hown : ∀ m, m < 80 → ¬ (t ≤ g (t2 + m) ∧ g (t2 + m) < t + 80) := fun m hm => by
    have := ow_lt ⟨m, hm⟩
    dsimp only at this
    rw [T2 m hm]; omega
  refine ⟨K.keep e1 (fun m hm => (e2 _ (by omega)).1) (fun m hm _ _ => (e3 _ (by omega) (hown m hm)).2), fun m hm => by rw [(e2 _ (by omega)).2]; exact T2 m hm, fun m hm => by rw [(e3 _ (by omega) (hown m hm)).1]; exact T3 m hm, fun m hm h2 => (T4 m hm h2).keep e1 e2 (fun b hb ho => e3 b hb (by rw [ho]; omega)) (e6 _ (by omega))⟩
theorem sCp_sIA {h : HP} {a b : Nat} {n : Int} : sCp h a 0 b 0 n = sIA h b (fun j => if 0 ≤ j ∧ j < n then hI h a j else hI h b j) := by
  show ((hTy h, _, hR h, hZ h, hU h) : HP) = (hTy h, _, hR h, hZ h, hU h)
  congr 2
  funext c j
  by_cases hc : c = b
  · by_cases hj : 0 ≤ j ∧ j < n
    · rw [if_pos ⟨hc, hj.1, by omega⟩, if_pos hc, show (0 : Int) + (j - 0) = j by omega]
      exact (if_pos hj).symm
    · rw [if_neg (by omega), if_pos hc, hc]
      exact (if_neg hj).symm
  · rw [if_neg (fun q => hc q.1), if_neg hc]
/-- hub g is in S, R as it is in S2, R2 -/
def CqH (S2 : Nat → Int → Int) (R2 : Nat → List FV) (S : Nat → Int → Int) (R : Nat → List FV) (g : Int) : Prop := (∀ k : Int, 3 ≤ k → k ≤ 8 → cH S g k = cH S2 g k) ∧ (∀ k : Int, 0 ≤ k → k < 5 → cSe S g k = cSe S2 g k) ∧ SF S (15 + 7 * g.toNat) = SF S2 (15 + 7 * g.toNat) ∧ kR R g = kR R2 g
def CqU (S2 : Nat → Int → Int) (S : Nat → Int → Int) (u : Int) : Prop := ∀ k : Int, 0 ≤ k → k < 4 → cU S u k = cU S2 u k
def CqO (S2 : Nat → Int → Int) (S : Nat → Int → Int) (i : Int) : Prop := SF S (56 + 3 * i.toNat) = SF S2 (56 + 3 * i.toNat)
def CQn (S0 : Nat → List FV) (S2 : Nat → Int → Int) (R2 : Nat → List FV) (S : Nat → Int → Int) (R : Nat → List FV) (a b c : Int) : Prop := (∀ k : Int, 4 ≤ k → k ≤ 8 → cT S k = cT S2 k) ∧ R 3 = R2 3 ∧ (∀ g, 0 ≤ g → g < a → CqH S2 R2 S R g) ∧ (∀ u, 0 ≤ u → u < b → CqU S2 S u) ∧ (∀ i, 0 ≤ i → i < c → CqO S2 S i) ∧ ∀ q : Int, 0 ≤ q → q < 5 → kR R q = kR S0 q ∨ kR R q = kR R2 q
abbrev CQ (S0 : Nat → List FV) (S2 : Nat → Int → Int) (R2 : Nat → List FV) (S : Nat → Int → Int) (R : Nat → List FV) : Prop := CQn S0 S2 R2 S R (cT S2 4) (cT S2 5) (cKept S2)
def cHcp (S S2 : Nat → Int → Int) (g n : Int) : Nat → Int → Int := upX (upX (upX (upX (upX (upX (upF (upX (upA S (12 + 7 * g.toNat) (fun j => if 0 ≤ j ∧ j < 5 then S2 (12 + 7 * g.toNat) j else S (12 + 7 * g.toNat) j)) (13 + 7 * g.toNat) 1 n) (15 + 7 * g.toNat) (SF S2 (15 + 7 * g.toNat))) (11 + 7 * g.toNat) 3 (cH S2 g 3)) (11 + 7 * g.toNat) 4 (cH S2 g 4)) (11 + 7 * g.toNat) 5 (cH S2 g 5)) (11 + 7 * g.toNat) 6 (cH S2 g 6)) (11 + 7 * g.toNat) 7 (cH S2 g 7)) (11 + 7 * g.toNat) 8 (cH S2 g 8)
theorem cHcp_ne {S S2 : Nat → Int → Int} {g n : Int} {m : Nat} (h : m < 11 + 7 * g.toNat ∨ 17 + 7 * g.toNat < m) : cHcp S S2 g n m = S m := by
  unfold cHcp
  rw [upX_ne (by omega), upX_ne (by omega), upX_ne (by omega), upX_ne (by omega), upX_ne (by omega), upX_ne (by omega), upF_ne (by omega) (by omega) (by omega), upX_ne (by omega), upA_ne (by omega)]
theorem cHcp_eq {S S2 : Nat → Int → Int} {g n : Int} {R2 R : Nat → List FV} : CqH S2 R2 (cHcp S S2 g n) (upR R (13 + 7 * g.toNat) (kR R2 g)) g := by
  refine ⟨fun k h0 h1 => ?_, fun k h0 h1 => ?_, ?_, upR_eq⟩
  · unfold cHcp
    show upX _ _ _ _ (11 + 7 * g.toNat) k = _
    unfold upX
    by_cases a8 : k = 8
    · rw [if_pos ⟨rfl, a8⟩, a8]
    · rw [if_neg (fun q => a8 q.2)]
      by_cases a7 : k = 7
      · rw [if_pos ⟨rfl, a7⟩, a7]
      · rw [if_neg (fun q => a7 q.2)]
        by_cases a6 : k = 6
        · rw [if_pos ⟨rfl, a6⟩, a6]
        · rw [if_neg (fun q => a6 q.2)]
          by_cases a5 : k = 5
          · rw [if_pos ⟨rfl, a5⟩, a5]
          · rw [if_neg (fun q => a5 q.2)]
            by_cases a4 : k = 4
            · rw [if_pos ⟨rfl, a4⟩, a4]
            · rw [if_neg (fun q => a4 q.2), if_pos ⟨rfl, by omega⟩, show k = 3 by omega]
  · unfold cSe cHcp
    rw [upX_ne (by omega), upX_ne (by omega), upX_ne (by omega), upX_ne (by omega), upX_ne (by omega), upX_ne (by omega), upF_ne (by omega) (by omega) (by omega), upX_ne (by omega), upA_eq]
    exact if_pos ⟨h0, h1⟩
  · have e : ∀ A : Nat → Int → Int, SF (upX (upX (upX (upX (upX (upX A (11 + 7 * g.toNat) 3 (cH S2 g 3)) (11 + 7 * g.toNat) 4 (cH S2 g 4)) (11 + 7 * g.toNat) 5 (cH S2 g 5)) (11 + 7 * g.toNat) 6 (cH S2 g 6)) (11 + 7 * g.toNat) 7 (cH S2 g 7)) (11 + 7 * g.toNat) 8 (cH S2 g 8)) (15 + 7 * g.toNat) = SF A (15 + 7 * g.toNat) := fun A => by
      have q : ∀ m, m ≠ 11 + 7 * g.toNat → upX (upX (upX (upX (upX (upX A (11 + 7 * g.toNat) 3 (cH S2 g 3)) (11 + 7 * g.toNat) 4 (cH S2 g 4)) (11 + 7 * g.toNat) 5 (cH S2 g 5)) (11 + 7 * g.toNat) 6 (cH S2 g 6)) (11 + 7 * g.toNat) 7 (cH S2 g 7)) (11 + 7 * g.toNat) 8 (cH S2 g 8) m = A m := fun m hm => by
        rw [upX_ne hm, upX_ne hm, upX_ne hm, upX_ne hm, upX_ne hm, upX_ne hm]
      unfold SF
      rw [q _ (by omega), q _ (by omega), q _ (by omega)]
    unfold cHcp
    rw [e, SF_upF, nf_SF]
theorem CqH.keep {S2 : Nat → Int → Int} {R2 : Nat → List FV} {S S' : Nat → Int → Int} {R R' : Nat → List FV} {g : Int} (c : CqH S2 R2 S R g) (hs : ∀ m, 11 + 7 * g.toNat ≤ m → m ≤ 17 + 7 * g.toNat → m ≠ 14 + 7 * g.toNat → m ≠ 13 + 7 * g.toNat → S' m = S m) (hr : kR R' g = kR R g) : CqH S2 R2 S' R' g := by
  obtain ⟨c1, c2, c3, c4⟩ := c
  refine ⟨fun k h0 h1 => ?_, fun k h0 h1 => ?_, ?_, by rw [hr]; exact c4⟩
  · rw [← c1 k h0 h1]; exact congrFun (hs _ (by omega) (by omega) (by omega) (by omega)) k
  · rw [← c2 k h0 h1]; exact congrFun (hs _ (by omega) (by omega) (by omega) (by omega)) k
  · rw [← c3]
    unfold SF
    rw [hs _ (by omega) (by omega) (by omega) (by omega), hs _ (by omega) (by omega) (by omega) (by omega), hs _ (by omega) (by omega) (by omega) (by omega)]
def cUcp (S S2 : Nat → Int → Int) (u : Int) : Nat → Int → Int := upX (upX (upX (upX S (46 + u.toNat) 0 (cU S2 u 0)) (46 + u.toNat) 1 (cU S2 u 1)) (46 + u.toNat) 2 (cU S2 u 2)) (46 + u.toNat) 3 (cU S2 u 3)
theorem cUcp_ne {S S2 : Nat → Int → Int} {u : Int} {m : Nat} (h : m ≠ 46 + u.toNat) : cUcp S S2 u m = S m := by
  unfold cUcp
  rw [upX_ne h, upX_ne h, upX_ne h, upX_ne h]
theorem cUcp_eq {S S2 : Nat → Int → Int} {u : Int} : CqU S2 (cUcp S S2 u) u := fun k h0 h1 => by
  unfold cUcp
  show upX _ _ _ _ (46 + u.toNat) k = _
  unfold upX
  by_cases a3 : k = 3
  · rw [if_pos ⟨rfl, a3⟩, a3]
  · rw [if_neg (fun q => a3 q.2)]
    by_cases a2 : k = 2
    · rw [if_pos ⟨rfl, a2⟩, a2]
    · rw [if_neg (fun q => a2 q.2)]
      by_cases a1 : k = 1
      · rw [if_pos ⟨rfl, a1⟩, a1]
      · rw [if_neg (fun q => a1 q.2), if_pos ⟨rfl, by omega⟩, show k = 0 by omega]
set_option maxRecDepth 20000 in
set_option maxHeartbeats 2000000 in
theorem sp_U_copyFrom {d : Nat} {h : HP} {t t2 : Nat} {o : Nat → Nat} {w : Nat → Nat × Nat} {S S2 : Nat → Int → Int} {R R2 : Nat → List FV} (T : TR t h o w S R) (V : TR t2 h o w S2 R2) (hd : t + 80 ≤ t2 ∨ t2 + 80 ≤ t) {u : Int} (hu : 0 ≤ u ∧ u < 10) (hb : 0 ≤ cU S2 u 2 ∧ cU S2 u 2 ≤ 1) {Q : HP → Prop} (K : ∀ H', ExtT h o w t H' o w → TR t H' o w (cUcp S S2 u) R → Q H') : CaV d 102 [.inr (some (t + (46 + u.toNat))), .inr (some (t2 + (46 + u.toNat)))] h Q := by
  have hC : cod 102 = c_U_copyFrom := rfl
  refine CaV.start rfl ?_
  have hK := T.1
  have hK2 := V.1
  have hV2 := V.2.2.1
  have TQ : ExtT h o w t h o w ∧ TR t h o w S R := ⟨ExtT.refl, T⟩
  have ETQ : ExtT h o w t h o w := ExtT.refl
  refine x_1 (p' := 1) hC rfl rfl rfl rfl ?_
  refine x_1 (p' := 2) hC rfl rfl rfl rfl ?_
  refine z_ug (p' := 3) (kz := 0) hK2 hV2 (by omega) (by omega) hC rfl rfl rfl rfl ?_
  refine x_putI (p' := 4) hC rfl rfl rfl (hK.uty hu.1 hu.2) (by have := hK.1; omega) ?_
  have T1 := TQ.2.int (n := 46 + u.toNat) (k := 0) (v := cU S2 u 0) (by omega) (by rw [sk_u ⟨u.toNat, by omega⟩]; decide) (by rw [sk_u ⟨u.toNat, by omega⟩]; decide)
  have ET1 := ETQ.trans T1.1
  have hK2 := (V.other ET1 hd).1
  have hV2 := (V.other ET1 hd).2.2.1
  refine x_1 (p' := 5) hC rfl rfl rfl rfl ?_
  refine x_1 (p' := 6) hC rfl rfl rfl rfl ?_
  refine z_ug (p' := 7) (kz := 1) hK2 hV2 (by omega) (by omega) hC rfl rfl rfl rfl ?_
  refine x_putI (p' := 8) hC rfl rfl rfl (hK.uty hu.1 hu.2) (by have := hK.1; omega) ?_
  have T2 := T1.2.int (n := 46 + u.toNat) (k := 1) (v := cU S2 u 1) (by omega) (by rw [sk_u ⟨u.toNat, by omega⟩]; decide) (by rw [sk_u ⟨u.toNat, by omega⟩]; decide)
  have ET2 := ET1.trans T2.1
  have hK2 := (V.other ET2 hd).1
  have hV2 := (V.other ET2 hd).2.2.1
  refine x_1 (p' := 9) hC rfl rfl rfl rfl ?_
  refine x_1 (p' := 10) hC rfl rfl rfl rfl ?_
  refine z_ug (p' := 11) (kz := 2) hK2 hV2 (by omega) (by omega) hC rfl rfl rfl rfl ?_
  refine x_putB (p' := 12) hC rfl rfl rfl (hK.uty hu.1 hu.2) (by have := hK.1; omega) ⟨by omega, by omega, by omega⟩ ?_
  have T3 := T2.2.int (n := 46 + u.toNat) (k := 2) (v := cU S2 u 2) (by omega) (by rw [sk_u ⟨u.toNat, by omega⟩]; decide) (by rw [sk_u ⟨u.toNat, by omega⟩]; decide)
  have ET3 := ET2.trans T3.1
  have hK2 := (V.other ET3 hd).1
  have hV2 := (V.other ET3 hd).2.2.1
  refine x_1 (p' := 13) hC rfl rfl rfl rfl ?_
  refine x_1 (p' := 14) hC rfl rfl rfl rfl ?_
  refine z_ug (p' := 15) (kz := 3) hK2 hV2 (by omega) (by omega) hC rfl rfl rfl rfl ?_
  refine x_putI (p' := 16) hC rfl rfl rfl (hK.uty hu.1 hu.2) (by have := hK.1; omega) ?_
  have T4 := T3.2.int (n := 46 + u.toNat) (k := 3) (v := cU S2 u 3) (by omega) (by rw [sk_u ⟨u.toNat, by omega⟩]; decide) (by rw [sk_u ⟨u.toNat, by omega⟩]; decide)
  have ET4 := ET3.trans T4.1
  have hK2 := (V.other ET4 hd).1
  have hV2 := (V.other ET4 hd).2.2.1
  refine x_ret hC rfl rfl rfl ⟨rfl, ?_⟩
  exact K _ ET4 T4.2
set_option maxRecDepth 20000 in
set_option maxHeartbeats 2000000 in
theorem sp_H_copyFrom {d : Nat} {h : HP} {t t2 : Nat} {o : Nat → Nat} {w : Nat → Nat × Nat} {S S2 : Nat → Int → Int} {R R2 : Nat → List FV} (T : TR t h o w S R) (V : TR t2 h o w S2 R2) (hd : t + 80 ≤ t2 ∨ t2 + 80 ≤ t) {g : Int} (hg : 0 ≤ g ∧ g < 5) {Q : HP → Prop} (K : ∀ H' o' w', ExtT h o w t H' o' w' → TR t H' o' w' (cHcp S S2 g ((kR R2 g).length : Nat)) (upR R (13 + 7 * g.toNat) (kR R2 g)) → Q H') : CaV (d + 4) 105 [.inr (some (t + (11 + 7 * g.toNat))), .inr (some (t2 + (11 + 7 * g.toNat)))] h Q := by
  have hC : cod 105 = c_H_copyFrom := rfl
  refine CaV.start rfl ?_
  have hK := T.1
  have hS := T.2.2.1
  have hK2 := V.1
  have hV2 := V.2.2.1
  refine x_1 (p' := 1) hC rfl rfl rfl rfl ?_
  refine z_hr0 (p' := 2) hK2 (by omega) (by omega) hC rfl rfl ?_
  refine x_1 (p' := 3) hC rfl rfl rfl rfl ?_
  refine x_1 (p' := 4) hC rfl rfl rfl rfl ?_
  refine z_hr0 (p' := 5) hK (by omega) (by omega) hC rfl rfl ?_
  refine x_1 (p' := 6) hC rfl rfl rfl rfl ?_
  refine x_1 (p' := 7) hC rfl rfl rfl rfl ?_
  refine x_cpy (p' := 8) hC rfl rfl rfl (hK2.sty hg.1 hg.2) (hK.sty hg.1 hg.2) (by have := hK2.1; omega) (by have := hK.1; omega) ⟨by decide, by decide, by decide, by decide, by decide⟩ ?_
  rw [sCp_sIA, hV2 _ (by omega), hS _ (by omega)]
  have T1 := T.arr (n := 12 + 7 * g.toNat) (f := fun j => if 0 ≤ j ∧ j < 5 then S2 (12 + 7 * g.toNat) j else S (12 + 7 * g.toNat) j) (by omega) (by rw [(sk_h ⟨g.toNat, by omega⟩).2.1]; decide) (by rw [(sk_h ⟨g.toNat, by omega⟩).2.1]; decide)
  have V1 := V.other T1.1 hd
  have hK := T1.2.1
  have hS := T1.2.2.2.1
  have hK2 := V1.1
  have hV2 := V1.2.2.1
  refine x_1 (p' := 9) hC rfl rfl rfl rfl ?_
  refine z_hr1 (p' := 10) hK (by omega) (by omega) hC rfl rfl ?_
  refine x_1 (p' := 11) hC rfl rfl rfl rfl ?_
  refine z_hr1 (p' := 12) hK2 (by omega) (by omega) hC rfl rfl ?_
  refine x_cVV1 (p' := 13) (n := 89) hC rfl rfl rfl rfl rfl (hK.hrty hg.1 hg.2) ?_
  refine sp_R_copyFrom (V1.hrow hg.1 hg.2) (by omega) (fun H2 o2 w2 E2 P2 => ?_) (T1.2.hrow hg.1 hg.2)
  have T2 := T1.2.row (n := 13 + 7 * g.toNat) (by omega) (sk_r hg.1 hg.2) E2 P2
  have EA := T1.1.trans T2.1
  have V2 := V.other EA hd
  have hK := T2.2.1
  have hS := T2.2.2.2.1
  have hK2 := V2.1
  have hV2 := V2.2.2.1
  refine x_1 (p' := 14) hC rfl rfl rfl rfl ?_
  refine z_hr2 (p' := 15) hK (by omega) (by omega) hC rfl rfl ?_
  refine x_1 (p' := 16) hC rfl rfl rfl rfl ?_
  refine z_hr2 (p' := 17) hK2 (by omega) (by omega) hC rfl rfl ?_
  refine x_cVV1 (p' := 18) (n := 82) hC rfl rfl rfl rfl rfl ((hK.held hg.1 hg.2).ty) ?_
  refine sp_F_copyFrom (hK.held hg.1 hg.2) (hK2.held hg.1 hg.2) (by omega) ?_
  rw [SF_eq hV2 (n := 15 + 7 * g.toNat) (by omega)]
  have T3 := T2.2.frm (n := 15 + 7 * g.toNat) (v := SF S2 (15 + 7 * g.toNat)) (by omega) (sk_h ⟨g.toNat, by omega⟩).2.2.2
  have ET3 := EA.trans T3.1
  have hK := T3.2.1
  have hK2 := (V.other ET3 hd).1
  have hV2 := (V.other ET3 hd).2.2.1
  refine x_1 (p' := 19) hC rfl rfl rfl rfl ?_
  refine x_1 (p' := 20) hC rfl rfl rfl rfl ?_
  refine z_hg (p' := 21) (kz := 3) hK2 hV2 (by omega) (by omega) hC rfl rfl rfl rfl ?_
  refine x_putI (p' := 22) hC rfl rfl rfl (hK.hty hg.1 hg.2) (by have := hK.1; omega) ?_
  have T4 := T3.2.int (n := 11 + 7 * g.toNat) (k := 3) (v := cH S2 g 3) (by omega) (by rw [(sk_h ⟨g.toNat, by omega⟩).1]; decide) (by rw [(sk_h ⟨g.toNat, by omega⟩).1]; decide)
  have ET4 := ET3.trans T4.1
  have hK := T4.2.1
  have hK2 := (V.other ET4 hd).1
  have hV2 := (V.other ET4 hd).2.2.1
  refine x_1 (p' := 23) hC rfl rfl rfl rfl ?_
  refine x_1 (p' := 24) hC rfl rfl rfl rfl ?_
  refine z_hg (p' := 25) (kz := 4) hK2 hV2 (by omega) (by omega) hC rfl rfl rfl rfl ?_
  refine x_putI (p' := 26) hC rfl rfl rfl (hK.hty hg.1 hg.2) (by have := hK.1; omega) ?_
  have T5 := T4.2.int (n := 11 + 7 * g.toNat) (k := 4) (v := cH S2 g 4) (by omega) (by rw [(sk_h ⟨g.toNat, by omega⟩).1]; decide) (by rw [(sk_h ⟨g.toNat, by omega⟩).1]; decide)
  have ET5 := ET4.trans T5.1
  have hK := T5.2.1
  have hK2 := (V.other ET5 hd).1
  have hV2 := (V.other ET5 hd).2.2.1
  refine x_1 (p' := 27) hC rfl rfl rfl rfl ?_
  refine x_1 (p' := 28) hC rfl rfl rfl rfl ?_
  refine z_hg (p' := 29) (kz := 5) hK2 hV2 (by omega) (by omega) hC rfl rfl rfl rfl ?_
  refine x_putI (p' := 30) hC rfl rfl rfl (hK.hty hg.1 hg.2) (by have := hK.1; omega) ?_
  have T6 := T5.2.int (n := 11 + 7 * g.toNat) (k := 5) (v := cH S2 g 5) (by omega) (by rw [(sk_h ⟨g.toNat, by omega⟩).1]; decide) (by rw [(sk_h ⟨g.toNat, by omega⟩).1]; decide)
  have ET6 := ET5.trans T6.1
  have hK := T6.2.1
  have hK2 := (V.other ET6 hd).1
  have hV2 := (V.other ET6 hd).2.2.1
  refine x_1 (p' := 31) hC rfl rfl rfl rfl ?_
  refine x_1 (p' := 32) hC rfl rfl rfl rfl ?_
  refine z_hg (p' := 33) (kz := 6) hK2 hV2 (by omega) (by omega) hC rfl rfl rfl rfl ?_
  refine x_putI (p' := 34) hC rfl rfl rfl (hK.hty hg.1 hg.2) (by have := hK.1; omega) ?_
  have T7 := T6.2.int (n := 11 + 7 * g.toNat) (k := 6) (v := cH S2 g 6) (by omega) (by rw [(sk_h ⟨g.toNat, by omega⟩).1]; decide) (by rw [(sk_h ⟨g.toNat, by omega⟩).1]; decide)
  have ET7 := ET6.trans T7.1
  have hK := T7.2.1
  have hK2 := (V.other ET7 hd).1
  have hV2 := (V.other ET7 hd).2.2.1
  refine x_1 (p' := 35) hC rfl rfl rfl rfl ?_
  refine x_1 (p' := 36) hC rfl rfl rfl rfl ?_
  refine z_hg (p' := 37) (kz := 7) hK2 hV2 (by omega) (by omega) hC rfl rfl rfl rfl ?_
  refine x_putI (p' := 38) hC rfl rfl rfl (hK.hty hg.1 hg.2) (by have := hK.1; omega) ?_
  have T8 := T7.2.int (n := 11 + 7 * g.toNat) (k := 7) (v := cH S2 g 7) (by omega) (by rw [(sk_h ⟨g.toNat, by omega⟩).1]; decide) (by rw [(sk_h ⟨g.toNat, by omega⟩).1]; decide)
  have ET8 := ET7.trans T8.1
  have hK := T8.2.1
  have hK2 := (V.other ET8 hd).1
  have hV2 := (V.other ET8 hd).2.2.1
  refine x_1 (p' := 39) hC rfl rfl rfl rfl ?_
  refine x_1 (p' := 40) hC rfl rfl rfl rfl ?_
  refine z_hg (p' := 41) (kz := 8) hK2 hV2 (by omega) (by omega) hC rfl rfl rfl rfl ?_
  refine x_putI (p' := 42) hC rfl rfl rfl (hK.hty hg.1 hg.2) (by have := hK.1; omega) ?_
  have T9 := T8.2.int (n := 11 + 7 * g.toNat) (k := 8) (v := cH S2 g 8) (by omega) (by rw [(sk_h ⟨g.toNat, by omega⟩).1]; decide) (by rw [(sk_h ⟨g.toNat, by omega⟩).1]; decide)
  have ET9 := ET8.trans T9.1
  have hK := T9.2.1
  have hK2 := (V.other ET9 hd).1
  have hV2 := (V.other ET9 hd).2.2.1
  refine x_ret hC rfl rfl rfl ⟨rfl, ?_⟩
  exact K _ _ _ ET9 T9.2
set_option maxRecDepth 20000 in
theorem lp_T_cp3 {d : Nat} {h : HP} {t t2 : Nat} {o : Nat → Nat} {w : Nat → Nat × Nat} {S2 : Nat → Int → Int} {R R2 : Nat → List FV} (V : TR t2 h o w S2 R2) (hd : t + 80 ≤ t2 ∨ t2 + 80 ≤ t) (h4 : 0 ≤ cT S2 4 ∧ cT S2 4 ≤ 5) (h5 : 0 ≤ cT S2 5 ∧ cT S2 5 ≤ 10) (h7 : 0 ≤ cT S2 7) (hb : ∀ u : Int, 0 ≤ u → u < cT S2 5 → 0 ≤ cU S2 u 2 ∧ cU S2 u 2 ≤ 1) {Q : HP → Prop} (K : ∀ H' o' w' S' R', ExtT h o w t H' o' w' → TR t H' o' w' S' R' → CQ R S2 R2 S' R' → Q H') (k : Nat) : ∀ (i : Int) (H : HP) (o1 : Nat → Nat) (w1 : Nat → Nat × Nat) (S1 : Nat → Int → Int) (R1 : Nat → List FV), (8 - i).toNat < k → (0 ≤ i ∧ i ≤ cKept S2 ∧ cKept S2 ≤ 8) → (ExtT h o w t H o1 w1) → (TR t H o1 w1 S1 R1) → (CQn R S2 R2 S1 R1 (cT S2 4) (cT S2 5) i) → At (d + 5) 110 61 [some (.inr (some t)), some (.inr (some t2)), some (.inl i)] [] H (fun v h' => v = none ∧ Q h') := by
  have hC : cod 110 = c_T_copyFrom := rfl
  induction k with
  | zero =>
    intro i H o1 w1 S1 R1 hk
    exact absurd hk (Nat.not_lt_zero _)
  | succ k ih =>
    intro i H o1 w1 S1 R1 hk hI0 hI1 hI2 hI3
    have hK := hI2.1
    have hS := hI2.2.2.1
    have V1 := V.other hI1 hd
    have hK2 := V1.1
    have hV2 := V1.2.2.1
    obtain ⟨a1, a2, a3, a4, a5, a6⟩ := hI3
    have hk1 : cKept S1 = cKept S2 := by unfold cKept; rw [a1 7 (by decide) (by decide)]
    refine x_1 (p' := 62) hC rfl rfl rfl rfl ?_
    refine x_1 (p' := 63) hC rfl rfl rfl rfl ?_
    refine x_cIV0 (p' := 64) (n := 150) hC rfl rfl rfl rfl rfl (hK.ty) ?_
    refine sp_T_outputsKept hK hS ?_
    rw [hk1]
    refine x_icge (p' := 65) hC rfl rfl (fun c64 => ?_) (fun c64 => ?_)
    · refine x_ret hC rfl rfl rfl ⟨rfl, ?_⟩
      exact K _ _ _ _ _ hI1 hI2 ⟨a1, a2, a3, a4, fun q h0 h1 => a5 q h0 (by omega), a6⟩
    · refine x_1 (p' := 66) hC rfl rfl rfl rfl ?_
      refine z_tr (p' := 67) (n := 5) hK hC rfl rfl rfl rfl ?_
      refine x_1 (p' := 68) hC rfl rfl rfl rfl ?_
      refine z_out (p' := 69) hK hC rfl rfl rfl (by omega) (by omega) ?_
      refine x_1 (p' := 70) hC rfl rfl rfl rfl ?_
      refine z_tr (p' := 71) (n := 5) hK2 hC rfl rfl rfl rfl ?_
      refine x_1 (p' := 72) hC rfl rfl rfl rfl ?_
      refine z_out (p' := 73) hK2 hC rfl rfl rfl (by omega) (by omega) ?_
      refine x_cVV1 (p' := 74) (n := 82) hC rfl rfl rfl rfl rfl ((hK.outp hI0.1 (by omega)).ty) ?_
      refine sp_F_copyFrom (hK.outp hI0.1 (by omega)) (hK2.outp hI0.1 (by omega)) (by omega) ?_
      rw [SF_eq hV2 (n := 56 + 3 * i.toNat) (by omega)]
      have T3 := hI2.frm (n := 56 + 3 * i.toNat) (v := SF S2 (56 + 3 * i.toNat)) (by omega) (sk_o ⟨i.toNat, by omega⟩)
      refine x_inc2 (p' := 75) hC rfl rfl (⟨by omega, by omega⟩) ?_
      refine x_1 (p' := 61) hC rfl rfl rfl rfl ?_
      refine ih _ _ _ _ _ _ (by omega) (by omega) (hI1.trans T3.1) T3.2 ⟨fun k h0 h1 => ?_, a2, fun g h0 h1 => ?_, fun u h0 h1 k k0 k1 => ?_, fun q h0 h1 => ?_, a6⟩
      · rw [← a1 k h0 h1]; exact congrFun (upF_ne (by omega) (by omega) (by omega)) k
      · exact (a3 g h0 h1).keep (fun m _ _ _ _ => upF_ne (by omega) (by omega) (by omega)) rfl
      · rw [← a4 u h0 h1 k k0 k1]; exact congrFun (upF_ne (by omega) (by omega) (by omega)) k
      · by_cases hq : q = i
        · rw [hq]; exact (SF_upF).trans nf_SF
        · unfold CqO
          rw [SF_ne (by omega)]
          exact a5 q h0 (by omega)
set_option maxRecDepth 20000 in
theorem lp_T_cp2 {d : Nat} {h : HP} {t t2 : Nat} {o : Nat → Nat} {w : Nat → Nat × Nat} {S2 : Nat → Int → Int} {R R2 : Nat → List FV} (V : TR t2 h o w S2 R2) (hd : t + 80 ≤ t2 ∨ t2 + 80 ≤ t) (h4 : 0 ≤ cT S2 4 ∧ cT S2 4 ≤ 5) (h5 : 0 ≤ cT S2 5 ∧ cT S2 5 ≤ 10) (h7 : 0 ≤ cT S2 7) (hb : ∀ u : Int, 0 ≤ u → u < cT S2 5 → 0 ≤ cU S2 u 2 ∧ cU S2 u 2 ≤ 1) {Q : HP → Prop} (K : ∀ H' o' w' S' R', ExtT h o w t H' o' w' → TR t H' o' w' S' R' → CQ R S2 R2 S' R' → Q H') (k : Nat) : ∀ (i : Int) (H : HP) (o1 : Nat → Nat) (w1 : Nat → Nat × Nat) (S1 : Nat → Int → Int) (R1 : Nat → List FV), (10 - i).toNat < k → (0 ≤ i ∧ i ≤ cT S2 5) → (ExtT h o w t H o1 w1) → (TR t H o1 w1 S1 R1) → (CQn R S2 R2 S1 R1 (cT S2 4) i 0) → At (d + 5) 110 44 [some (.inr (some t)), some (.inr (some t2)), some (.inl i)] [] H (fun v h' => v = none ∧ Q h') := by
  have hC : cod 110 = c_T_copyFrom := rfl
  induction k with
  | zero =>
    intro i H o1 w1 S1 R1 hk
    exact absurd hk (Nat.not_lt_zero _)
  | succ k ih =>
    intro i H o1 w1 S1 R1 hk hI0 hI1 hI2 hI3
    have hK := hI2.1
    have hS := hI2.2.2.1
    have V1 := V.other hI1 hd
    have hK2 := V1.1
    have hV2 := V1.2.2.1
    obtain ⟨a1, a2, a3, a4, a5, a6⟩ := hI3
    refine x_1 (p' := 45) hC rfl rfl rfl rfl ?_
    refine x_1 (p' := 46) hC rfl rfl rfl rfl ?_
    refine z_ti (p' := 47) (kz := 5) hK hS hC rfl rfl rfl rfl ?_
    rw [a1 5 (by decide) (by decide)]
    refine x_icge (p' := 48) hC rfl rfl (fun c47 => ?_) (fun c47 => ?_)
    · refine x_1 (p' := 60) hC rfl rfl rfl rfl ?_
      refine x_stI2 (p' := 61) hC rfl rfl rfl ?_
      have hkk : cKept S2 ≤ 8 ∧ 0 ≤ cKept S2 := by
        unfold cKept e_mnF
        split <;> omega
      exact lp_T_cp3 V hd h4 h5 h7 hb K _ 0 _ _ _ _ _ (Nat.lt_succ_self _) (by omega) hI1 hI2 ⟨a1, a2, a3, fun u h0 h1 => a4 u h0 (by omega), fun q h0 h1 => absurd h1 (by omega), a6⟩
    · refine x_1 (p' := 49) hC rfl rfl rfl rfl ?_
      refine z_tr (p' := 50) (n := 2) hK hC rfl rfl rfl rfl ?_
      refine x_1 (p' := 51) hC rfl rfl rfl rfl ?_
      refine z_unit (p' := 52) hK hC rfl rfl rfl (by omega) (by omega) ?_
      refine x_1 (p' := 53) hC rfl rfl rfl rfl ?_
      refine z_tr (p' := 54) (n := 2) hK2 hC rfl rfl rfl rfl ?_
      refine x_1 (p' := 55) hC rfl rfl rfl rfl ?_
      refine z_unit (p' := 56) hK2 hC rfl rfl rfl (by omega) (by omega) ?_
      refine x_cVV1 (p' := 57) (n := 102) hC rfl rfl rfl rfl rfl (hK.uty hI0.1 (by omega)) ?_
      refine sp_U_copyFrom hI2 V1 hd (u := i) (by omega) (hb i (by omega) (by omega)) (fun H2 E2 T2 => ?_)
      refine x_inc2 (p' := 58) hC rfl rfl (⟨by omega, by omega⟩) ?_
      refine x_1 (p' := 44) hC rfl rfl rfl rfl ?_
      refine ih _ _ _ _ _ _ (by omega) (by omega) (hI1.trans E2) T2 ⟨fun k h0 h1 => ?_, a2, fun g h0 h1 => ?_, fun u h0 h1 => ?_, fun q h0 h1 => absurd h1 (by omega), a6⟩
      · rw [← a1 k h0 h1]; exact congrFun (cUcp_ne (by omega)) k
      · exact (a3 g h0 h1).keep (fun m _ _ _ _ => cUcp_ne (by omega)) rfl
      · by_cases hq : u = i
        · rw [hq]; exact cUcp_eq
        · intro k k0 k1
          rw [← a4 u h0 (by omega) k k0 k1]; exact congrFun (cUcp_ne (by omega)) k
set_option maxRecDepth 20000 in
theorem lp_T_cp1 {d : Nat} {h : HP} {t t2 : Nat} {o : Nat → Nat} {w : Nat → Nat × Nat} {S2 : Nat → Int → Int} {R R2 : Nat → List FV} (V : TR t2 h o w S2 R2) (hd : t + 80 ≤ t2 ∨ t2 + 80 ≤ t) (h4 : 0 ≤ cT S2 4 ∧ cT S2 4 ≤ 5) (h5 : 0 ≤ cT S2 5 ∧ cT S2 5 ≤ 10) (h7 : 0 ≤ cT S2 7) (hb : ∀ u : Int, 0 ≤ u → u < cT S2 5 → 0 ≤ cU S2 u 2 ∧ cU S2 u 2 ≤ 1) {Q : HP → Prop} (K : ∀ H' o' w' S' R', ExtT h o w t H' o' w' → TR t H' o' w' S' R' → CQ R S2 R2 S' R' → Q H') (k : Nat) : ∀ (i : Int) (H : HP) (o1 : Nat → Nat) (w1 : Nat → Nat × Nat) (S1 : Nat → Int → Int) (R1 : Nat → List FV), (5 - i).toNat < k → (0 ≤ i ∧ i ≤ cT S2 4) → (ExtT h o w t H o1 w1) → (TR t H o1 w1 S1 R1) → (CQn R S2 R2 S1 R1 i 0 0) → At (d + 5) 110 27 [some (.inr (some t)), some (.inr (some t2)), some (.inl i)] [] H (fun v h' => v = none ∧ Q h') := by
  have hC : cod 110 = c_T_copyFrom := rfl
  induction k with
  | zero =>
    intro i H o1 w1 S1 R1 hk
    exact absurd hk (Nat.not_lt_zero _)
  | succ k ih =>
    intro i H o1 w1 S1 R1 hk hI0 hI1 hI2 hI3
    have hK := hI2.1
    have hS := hI2.2.2.1
    have V1 := V.other hI1 hd
    have hK2 := V1.1
    have hV2 := V1.2.2.1
    obtain ⟨a1, a2, a3, a4, a5, a6⟩ := hI3
    refine x_1 (p' := 28) hC rfl rfl rfl rfl ?_
    refine x_1 (p' := 29) hC rfl rfl rfl rfl ?_
    refine z_ti (p' := 30) (kz := 4) hK hS hC rfl rfl rfl rfl ?_
    rw [a1 4 (by decide) (by decide)]
    refine x_icge (p' := 31) hC rfl rfl (fun c30 => ?_) (fun c30 => ?_)
    · refine x_1 (p' := 43) hC rfl rfl rfl rfl ?_
      refine x_stI2 (p' := 44) hC rfl rfl rfl ?_
      exact lp_T_cp2 V hd h4 h5 h7 hb K _ 0 _ _ _ _ _ (Nat.lt_succ_self _) (by omega) hI1 hI2 ⟨a1, a2, fun u h0 h1 => a3 u h0 (by omega), fun u h0 h1 => absurd h1 (by omega), fun q h0 h1 => absurd h1 (by omega), a6⟩
    · refine x_1 (p' := 32) hC rfl rfl rfl rfl ?_
      refine z_tr (p' := 33) (n := 1) hK hC rfl rfl rfl rfl ?_
      refine x_1 (p' := 34) hC rfl rfl rfl rfl ?_
      refine z_hub (p' := 35) hK hC rfl rfl rfl (by omega) (by omega) ?_
      refine x_1 (p' := 36) hC rfl rfl rfl rfl ?_
      refine z_tr (p' := 37) (n := 1) hK2 hC rfl rfl rfl rfl ?_
      refine x_1 (p' := 38) hC rfl rfl rfl rfl ?_
      refine z_hub (p' := 39) hK2 hC rfl rfl rfl (by omega) (by omega) ?_
      refine x_cVV1 (p' := 40) (n := 105) hC rfl rfl rfl rfl rfl (hK.hty hI0.1 (by omega)) ?_
      refine sp_H_copyFrom hI2 V1 hd (g := i) (by omega) (fun H2 o2 w2 E2 T2 => ?_)
      refine x_inc2 (p' := 41) hC rfl rfl (⟨by omega, by omega⟩) ?_
      refine x_1 (p' := 27) hC rfl rfl rfl rfl ?_
      refine ih _ _ _ _ _ _ (by omega) (by omega) (hI1.trans E2) T2 ⟨fun k h0 h1 => ?_, ?_, fun g h0 h1 => ?_, fun u h0 h1 => absurd h1 (by omega), fun q h0 h1 => absurd h1 (by omega), fun q h0 h1 => ?_⟩
      · rw [← a1 k h0 h1]; exact congrFun (cHcp_ne (by omega)) k
      · rw [upR_ne (by omega)]; exact a2
      · by_cases hq : g = i
        · rw [hq]; exact cHcp_eq
        · exact (a3 g h0 (by omega)).keep (fun m _ _ _ _ => cHcp_ne (by omega)) (upR_ne (by omega))
      · by_cases hq : q = i
        · exact Or.inr (by rw [hq]; exact upR_eq)
        · rw [show kR (upR R1 (13 + 7 * i.toNat) (kR R2 i)) q = kR R1 q from upR_ne (by omega)]
          exact a6 q h0 h1
set_option maxRecDepth 20000 in
set_option maxHeartbeats 2000000 in
theorem sp_T_copyFrom {d : Nat} {h : HP} {t t2 : Nat} {o : Nat → Nat} {w : Nat → Nat × Nat} {S S2 : Nat → Int → Int} {R R2 : Nat → List FV} (T : TR t h o w S R) (V : TR t2 h o w S2 R2) (hd : t + 80 ≤ t2 ∨ t2 + 80 ≤ t) (h4 : 0 ≤ cT S2 4 ∧ cT S2 4 ≤ 5) (h5 : 0 ≤ cT S2 5 ∧ cT S2 5 ≤ 10) (h7 : 0 ≤ cT S2 7) (hb : ∀ u : Int, 0 ≤ u → u < cT S2 5 → 0 ≤ cU S2 u 2 ∧ cU S2 u 2 ≤ 1) {Q : HP → Prop} (K : ∀ H' o' w' S' R', ExtT h o w t H' o' w' → TR t H' o' w' S' R' → CQ R S2 R2 S' R' → Q H') : CaV (d + 5) 110 [.inr (some t), .inr (some t2)] h Q := by
  have hC : cod 110 = c_T_copyFrom := rfl
  refine CaV.start rfl ?_
  have hK := T.1
  have hS := T.2.2.1
  have hK2 := V.1
  have hV2 := V.2.2.1
  have TQ : ExtT h o w t h o w ∧ TR t h o w S R := ⟨ExtT.refl, T⟩
  have ETQ : ExtT h o w t h o w := ExtT.refl
  refine x_1 (p' := 1) hC rfl rfl rfl rfl ?_
  refine x_1 (p' := 2) hC rfl rfl rfl rfl ?_
  refine z_ti (p' := 3) (kz := 4) hK2 hV2 hC rfl rfl rfl rfl ?_
  refine x_putI (p' := 4) hC rfl rfl rfl hK.ty (by have := hK.1; omega) ?_
  have T1 := TQ.2.int (n := 0) (k := 4) (v := cT S2 4) (by decide) (by decide) (by decide)
  rw [Nat.add_zero] at T1
  have ET1 := ETQ.trans T1.1
  have hK := T1.2.1
  have hS := T1.2.2.2.1
  have VT1 := V.other ET1 hd
  have hK2 := VT1.1
  have hV2 := VT1.2.2.1
  refine x_1 (p' := 5) hC rfl rfl rfl rfl ?_
  refine x_1 (p' := 6) hC rfl rfl rfl rfl ?_
  refine z_ti (p' := 7) (kz := 5) hK2 hV2 hC rfl rfl rfl rfl ?_
  refine x_putI (p' := 8) hC rfl rfl rfl hK.ty (by have := hK.1; omega) ?_
  have T2 := T1.2.int (n := 0) (k := 5) (v := cT S2 5) (by decide) (by decide) (by decide)
  rw [Nat.add_zero] at T2
  have ET2 := ET1.trans T2.1
  have hK := T2.2.1
  have hS := T2.2.2.2.1
  have VT2 := V.other ET2 hd
  have hK2 := VT2.1
  have hV2 := VT2.2.2.1
  refine x_1 (p' := 9) hC rfl rfl rfl rfl ?_
  refine x_1 (p' := 10) hC rfl rfl rfl rfl ?_
  refine z_ti (p' := 11) (kz := 6) hK2 hV2 hC rfl rfl rfl rfl ?_
  refine x_putI (p' := 12) hC rfl rfl rfl hK.ty (by have := hK.1; omega) ?_
  have T3 := T2.2.int (n := 0) (k := 6) (v := cT S2 6) (by decide) (by decide) (by decide)
  rw [Nat.add_zero] at T3
  have ET3 := ET2.trans T3.1
  have hK := T3.2.1
  have hS := T3.2.2.2.1
  have VT3 := V.other ET3 hd
  have hK2 := VT3.1
  have hV2 := VT3.2.2.1
  refine x_1 (p' := 13) hC rfl rfl rfl rfl ?_
  refine x_1 (p' := 14) hC rfl rfl rfl rfl ?_
  refine z_ti (p' := 15) (kz := 7) hK2 hV2 hC rfl rfl rfl rfl ?_
  refine x_putI (p' := 16) hC rfl rfl rfl hK.ty (by have := hK.1; omega) ?_
  have T4 := T3.2.int (n := 0) (k := 7) (v := cT S2 7) (by decide) (by decide) (by decide)
  rw [Nat.add_zero] at T4
  have ET4 := ET3.trans T4.1
  have hK := T4.2.1
  have hS := T4.2.2.2.1
  have VT4 := V.other ET4 hd
  have hK2 := VT4.1
  have hV2 := VT4.2.2.1
  refine x_1 (p' := 17) hC rfl rfl rfl rfl ?_
  refine x_1 (p' := 18) hC rfl rfl rfl rfl ?_
  refine z_ti (p' := 19) (kz := 8) hK2 hV2 hC rfl rfl rfl rfl ?_
  refine x_putI (p' := 20) hC rfl rfl rfl hK.ty (by have := hK.1; omega) ?_
  have T5 := T4.2.int (n := 0) (k := 8) (v := cT S2 8) (by decide) (by decide) (by decide)
  rw [Nat.add_zero] at T5
  have ET5 := ET4.trans T5.1
  have hK := T5.2.1
  have hS := T5.2.2.2.1
  have VT5 := V.other ET5 hd
  have hK2 := VT5.1
  have hV2 := VT5.2.2.1
  refine x_1 (p' := 21) hC rfl rfl rfl rfl ?_
  refine z_tr (p' := 22) (n := 3) hK hC rfl rfl rfl rfl ?_
  refine x_1 (p' := 23) hC rfl rfl rfl rfl ?_
  refine z_tr (p' := 24) (n := 3) hK2 hC rfl rfl rfl rfl ?_
  refine x_cVV1 (p' := 25) (n := 89) hC rfl rfl rfl rfl rfl (hK.wty) ?_
  refine sp_R_copyFrom VT5.way (by omega) (fun H2 o2 w2 E2 P2 => ?_) T5.2.way
  have T6 := T5.2.row (n := 3) (by decide) (by decide) E2 P2
  refine x_1 (p' := 26) hC rfl rfl rfl rfl ?_
  refine x_stI2 (p' := 27) hC rfl rfl rfl ?_
  refine lp_T_cp1 V hd h4 h5 h7 hb K _ 0 _ _ _ _ _ (Nat.lt_succ_self _) (by omega) (ET5.trans T6.1) T6.2 ⟨fun k h0 h1 => ?_, upR_eq, fun u h0 h1 => absurd h1 (by omega), fun u h0 h1 => absurd h1 (by omega), fun q h0 h1 => absurd h1 (by omega), fun q h0 h1 => Or.inl (upR_ne (by omega))⟩
  show upX _ _ _ _ 0 k = _
  rw [upX_ne (by decide)]
  unfold upX
  by_cases a8 : k = 8
  · rw [if_pos ⟨rfl, a8⟩, a8]
  · rw [if_neg (fun q => a8 q.2)]
    by_cases a7 : k = 7
    · rw [if_pos ⟨rfl, a7⟩, a7]
    · rw [if_neg (fun q => a7 q.2)]
      by_cases a6 : k = 6
      · rw [if_pos ⟨rfl, a6⟩, a6]
      · rw [if_neg (fun q => a6 q.2)]
        by_cases a5 : k = 5
        · rw [if_pos ⟨rfl, a5⟩, a5]
        · rw [if_neg (fun q => a5 q.2), if_pos ⟨rfl, by omega⟩, show k = 4 by omega]

/-! THE CLASS: rows of frames, made longer -/
def wUp (w : Nat → Nat × Nat) (r : Nat) (q : Nat × Nat) : Nat → Nat × Nat := fun x => if x = r then q else w x
theorem wUp_eq {w : Nat → Nat × Nat} {r : Nat} {q : Nat × Nat} : wUp w r q r = q := if_pos rfl
theorem wUp_ne {w : Nat → Nat × Nat} {r x : Nat} {q : Nat × Nat} (n : x ≠ r) : wUp w r q x = w x := if_neg n
def oUp (o : Nat → Nat) (z r : Nat) : Nat → Nat := fun b => if z ≤ b then r else o b
theorem oUp_lt {o : Nat → Nat} {z r b : Nat} (h : b < z) : oUp o z r b = o b := if_neg (by omega)
theorem oUp_ge {o : Nat → Nat} {z r b : Nat} (h : z ≤ b) : oUp o z r b = r := if_pos h
def aUp (ad : Nat → Nat) (n s : Nat) : Nat → Nat := fun k => if k = n then s else ad k
theorem aUp_eq {ad : Nat → Nat} {n s : Nat} : aUp ad n s n = s := if_pos rfl
theorem aUp_ne {ad : Nat → Nat} {n s k : Nat} (h : k ≠ n) : aUp ad n s k = ad k := if_neg h
theorem hTy_sR {h : HP} {a : Nat} {k : Int} {v : Option Nat} : hTy (sR h a k v) = hTy h := rfl
theorem hI_sR {h : HP} {a : Nat} {k : Int} {v : Option Nat} : hI (sR h a k v) = hI h := rfl
theorem hTy_sRA {h : HP} {a : Nat} {f : Int → Option Nat} : hTy (sRA h a f) = hTy h := rfl
theorem hI_sRA {h : HP} {a : Nat} {f : Int → Option Nat} : hI (sRA h a f) = hI h := rfl
set_option maxRecDepth 20000 in
set_option maxHeartbeats 2000000 in
theorem sp_F_init {d : Nat} {h : HP} {a : Nat} (hK0 : hTy h a = (1, 0)) (h3 : 3 ≤ a) (hz : a + 1 = hZ h) {Q : HP → Prop} (K : ∀ H', hZ H' = a + 3 → hU H' = hU h + 20 → (∀ b, b < hZ h → hTy H' b = hTy h b) → (∀ b, b < hZ h → b ≠ a → hI H' b = hI h b ∧ hR H' b = hR h b) → FrP H' a → Q H') : CaV (d + 1) 81 [.inr (some a)] h Q := by
  have hC : cod 81 = c_F_init := rfl
  refine CaV.start rfl ?_
  refine x_1 (p' := 1) hC rfl rfl rfl rfl ?_
  refine x_obj (p' := 2) hC rfl rfl rfl ?_
  refine x_1 (p' := 3) hC rfl rfl rfl rfl ?_
  refine x_1 (p' := 4) hC rfl rfl rfl rfl ?_
  refine x_putI (p' := 5) hC rfl rfl rfl (by show (hTy h a).1 = 0 + 1; rw [hK0]) (by omega) ?_
  refine x_1 (p' := 6) hC rfl rfl rfl rfl ?_
  refine x_1 (p' := 7) hC rfl rfl rfl rfl ?_
  refine x_putI (p' := 8) hC rfl rfl rfl (by show (hTy h a).1 = 0 + 1; rw [hK0]) (by omega) ?_
  refine x_1 (p' := 9) hC rfl rfl rfl rfl ?_
  refine x_1 (p' := 10) hC rfl rfl rfl rfl ?_
  refine x_putI (p' := 11) hC rfl rfl rfl (by show (hTy h a).1 = 0 + 1; rw [hK0]) (by omega) ?_
  refine x_1 (p' := 12) hC rfl rfl rfl rfl ?_
  refine x_1 (p' := 13) hC rfl rfl rfl rfl ?_
  refine x_putI (p' := 14) hC rfl rfl rfl (by show (hTy h a).1 = 0 + 1; rw [hK0]) (by omega) ?_
  refine x_1 (p' := 15) hC rfl rfl rfl rfl ?_
  refine x_1 (p' := 16) hC rfl rfl rfl rfl ?_
  refine x_putI (p' := 17) hC rfl rfl rfl (by show (hTy h a).1 = 0 + 1; rw [hK0]) (by omega) ?_
  refine x_1 (p' := 18) hC rfl rfl rfl rfl ?_
  refine x_1 (p' := 19) hC rfl rfl rfl rfl ?_
  refine x_putI (p' := 20) hC rfl rfl rfl (by show (hTy h a).1 = 0 + 1; rw [hK0]) (by omega) ?_
  refine x_1 (p' := 21) hC rfl rfl rfl rfl ?_
  refine x_1 (p' := 22) hC rfl rfl rfl rfl ?_
  refine x_newi (p' := 23) hC rfl rfl (by decide) ?_
  refine x_putR (p' := 24) hC rfl rfl rfl (by rw [hTy_new (by show a < hZ h; omega)]; show (hTy h a).1 = 0 + 1; rw [hK0]) (by omega) ?_
  refine x_1 (p' := 25) hC rfl rfl rfl rfl ?_
  refine x_1 (p' := 26) hC rfl rfl rfl rfl ?_
  refine x_newi (p' := 27) hC rfl rfl (by decide) ?_
  refine x_putR (p' := 28) hC rfl rfl rfl (by rw [hTy_new (by show a < hZ h + 1; omega), hTy_sR, hTy_new (by show a < hZ h; omega)]; show (hTy h a).1 = 0 + 1; rw [hK0]) (by omega) ?_
  refine x_ret hC rfl rfl rfl ⟨rfl, ?_⟩
  have e1 : hZ h = a + 1 := hz.symm
  refine K _ (by show hZ h + 1 + 1 = a + 3; omega) rfl (fun b hb => ?_) (fun b hb hba => ⟨?_, ?_⟩) ⟨h3, ?_, ?_, ?_, ?_, ?_, ?_⟩
  · rw [hTy_sR, hTy_new (by show b < hZ h + 1; omega), hTy_sR, hTy_new (by show b < hZ h; omega)]
    rfl
  · rw [hI_sR, hI_new (by show b < hZ h + 1; omega), hI_sR, hI_new (by show b < hZ h; omega), hI_sI_ne hba, hI_sI_ne hba, hI_sI_ne hba, hI_sI_ne hba, hI_sI_ne hba, hI_sI_ne hba]
  · rw [hR_sR_ne hba, hR_new (by show b < hZ h + 1; omega), hR_sR_ne hba, hR_new (by show b < hZ h; omega)]
    rfl
  · show a + 2 < hZ h + 1 + 1
    omega
  · rw [hTy_sR, hTy_new (by show a < hZ h + 1; omega), hTy_sR, hTy_new (by show a < hZ h; omega)]
    exact hK0
  · rw [hTy_sR, hTy_new (by show a + 1 < hZ h + 1; omega), hTy_sR]
    show (if a + 1 = hZ h then _ else _) = _
    rw [if_pos hz]; rfl
  · show (if a + 2 = hZ h + 1 then _ else _) = _
    rw [if_pos (by omega)]; rfl
  · show (if a = a ∧ (6 : Int) = 7 then _ else hR (sNew _ _ _) a 6) = _
    rw [if_neg (fun q => absurd q.2 (by decide)), hR_new (by show a < hZ h + 1; omega)]
    exact hR_sR_eq.trans (congrArg some e1)
  · exact hR_sR_eq.trans (congrArg some (show hZ h + 1 = a + 2 by omega))
theorem RowP.rty {H : HP} {o : Nat → Nat} {w : Nat → Nat × Nat} {r : Nat} {L : List FV} (P : RowP H o w r L) : (hTy H r).1 = 3 + 1 := by
  obtain ⟨_, _, _, _, W, _⟩ := P
  exact W.ty
theorem okCap.two {c : Nat} (h : okCap c) (h2 : c < 1024) : okCap (2 * c) := by unfold okCap at *; omega
theorem okCap.le {c : Nat} (h : okCap c) : 8 ≤ c ∧ c ≤ 1024 := by unfold okCap at h; omega
/-- a row whose array is exchanged for one twice as long -/
theorem RowP.grown {H : HP} {o : Nat → Nat} {w : Nat → Nat × Nat} {r arr : Nat} {ad : Nat → Nat} {L : List FV} (p1 : o r = r) (p2 : okCap (w r).2) (hc : (w r).2 < 1024) (W : RowQ H r arr ad (w r).1 (w r).2 L) (p4 : ∀ i, i < (w r).1 → o (ad i) = r ∧ o (ad i + 1) = r ∧ o (ad i + 2) = r) {f : Int → Option Nat} (hf : ∀ j, f j = if 0 ≤ j ∧ j < ((w r).2 : Nat) then hR H arr j else none) :
    ExtR H o w r (sR (sRA (sNew H (200, 2 * (w r).2) (2 * (w r).2)) (hZ H) f) r 0 (some (hZ H))) (oUp o (hZ H) r) (wUp w r ((w r).1, 2 * (w r).2)) ∧
    RowP (sR (sRA (sNew H (200, 2 * (w r).2) (2 * (w r).2)) (hZ H) f) r 0 (some (hZ H))) (oUp o (hZ H) r) (wUp w r ((w r).1, 2 * (w r).2)) r L := by
  obtain ⟨⟨q1, q2, q3⟩, q4, ⟨q5, q6, q7, q8⟩, q9, q10, q11, q12, q13, q14⟩ := W
  have hle := p2.le
  generalize e : sR (sRA (sNew H (200, 2 * (w r).2) (2 * (w r).2)) (hZ H) f) r 0 (some (hZ H)) = H2
  have tz : hZ H2 = hZ H + 1 := by rw [← e]; rfl
  have tu : hU H2 = hU H + 2 * (w r).2 := by rw [← e]; rfl
  have tt : ∀ b, b < hZ H → hTy H2 b = hTy H b := fun b hb => by
    rw [← e, hTy_sR, hTy_sRA, hTy_new hb]
  have tn : hTy H2 (hZ H) = (200, 2 * (w r).2) := by
    rw [← e, hTy_sR, hTy_sRA, hTy_at]
  have ti : ∀ b, b < hZ H → hI H2 b = hI H b := fun b hb => by
    rw [← e, hI_sR, hI_sRA, hI_new hb]
  have tr : ∀ b, b < hZ H → b ≠ r → hR H2 b = hR H b := fun b hb hn => by
    rw [← e, hR_sR_ne hn, hR_sRA_ne (by omega), hR_new hb]
  have tq : hR H2 r 0 = some (hZ H) := by rw [← e, hR_sR_eq]
  have tx : ∀ j, hR H2 (hZ H) j = f j := fun j => by
    rw [← e, hR_sR_ne (by omega), hR_sRA]
  have tF : ∀ b, FrP H b → FrP H2 b := fun b hF => hF.congr (by omega) (fun c hc => tt c hc) (tr b (by have := hF.2.1; omega) (by rintro rfl; have := hF.2.2.1; rw [q3] at this; exact absurd this (by decide)))
  constructor
  · refine ⟨by omega, fun b hb => ⟨tt b hb, oUp_lt hb⟩, fun b hb hg => ⟨ti b hb, tr b hb (fun e => hg (by rw [e]; exact p1))⟩, fun b hb _ => ti b hb, fun k _ => by rw [ti r q2], fun b h1 h2 => oUp_ge h1, tF, fun q hq => wUp_ne hq, ?_, ?_⟩
    · rw [wUp_eq]
      unfold kap
      dsimp only
      omega
    · omega
  · unfold RowP
    rw [wUp_eq]
    refine ⟨by rw [oUp_lt q2]; exact p1, p2.two hc, hZ H, ad, ⟨⟨q1, by omega, by rw [tt r q2]; exact q3⟩, tq, ⟨by omega, by omega, tn, (p2.two hc).le.2⟩, by rw [ti r q2]; exact q9, ⟨q10.1, by dsimp only; omega⟩, fun i hi => ⟨?_, tF _ (q11 i hi).2⟩, fun i h1 h2 => ?_, q13, fun i hi => ?_⟩, oUp_ge (Nat.le_refl _), fun i hi => ?_⟩
    · dsimp only at hi
      rw [tx, hf, if_pos (by omega)]
      exact (q11 i hi).1
    · rw [tx, hf]
      split
      · exact q12 i h1 (by omega)
      · rfl
    · have hF := (q11 i (by omega)).2
      have hb := hF.2.1
      rw [← q14 i hi]
      exact fV_same (ti _ (by omega)) (ti _ (by omega)) (ti _ (by omega))
    · have hF := (q11 i hi).2
      have hb := hF.2.1
      rw [oUp_lt (by omega), oUp_lt (by omega), oUp_lt (by omega)]
      exact p4 i hi
set_option maxRecDepth 20000 in
theorem lp_R_grow {d : Nat} {h : HP} {o : Nat → Nat} {w : Nat → Nat × Nat} {r arr : Nat} {ad : Nat → Nat} {L : List FV} (p1 : o r = r) (p2 : okCap (w r).2) (hc : (w r).2 < 1024) (W : RowQ h r arr ad (w r).1 (w r).2 L) (p4 : ∀ i, i < (w r).1 → o (ad i) = r ∧ o (ad i + 1) = r ∧ o (ad i + 2) = r) (hal : (w r).1 = (w r).2) {Q : HP → Prop} (K : ∀ H' o' w', ExtR h o w r H' o' w' → RowP H' o' w' r L → L.length < (w' r).2 → Q H') (k : Nat) : ∀ (i : Int), (((w r).2 : Nat) - i).toNat < k → (0 ≤ i ∧ i ≤ ((w r).2 : Nat)) → At (d) 91 21 [some (.inr (some r)), some (.inr (some (hZ h))), some (.inl i)] [] (sRA (sNew h (200, 2 * (w r).2) (2 * (w r).2)) (hZ h) (fun j => if 0 ≤ j ∧ j < i then hR h arr j else none)) (fun v h' => v = none ∧ Q h') := by
  have hC : cod 91 = c_R_grow := rfl
  induction k with
  | zero =>
    intro i hk
    exact absurd hk (Nat.not_lt_zero _)
  | succ k ih =>
    intro i hk hI0
    have hle := p2.le
    have tY : ∀ f b, b < hZ h → hTy (sRA (sNew h (200, 2 * (w r).2) (2 * (w r).2)) (hZ h) f) b = hTy h b := fun f b hb => by rw [hTy_sRA, hTy_new hb]
    have rR : ∀ f b, b < hZ h → hR (sRA (sNew h (200, 2 * (w r).2) (2 * (w r).2)) (hZ h) f) b = hR h b := fun f b hb => (hR_sRA_ne (by omega)).trans (hR_new hb)
    have hl := W.2.2.2.2.1
    have h7 := W.2.2.1
    have hr2 := W.1.2.1
    refine x_1 (p' := 22) hC rfl rfl rfl rfl ?_
    refine x_1 (p' := 23) hC rfl rfl rfl rfl ?_
    refine x_getR (p' := 24) (q := some arr) hC rfl rfl rfl (by rw [tY _ _ hr2]; exact W.ty) (by rw [rR _ _ hr2]; exact W.2.1) ?_
    refine x_len (p' := 25) (t := 200) (n := (w r).2) hC rfl rfl rfl ((tY _ _ h7.2.1).trans h7.2.2.1) rfl (by omega) ?_
    refine x_icge (p' := 26) hC rfl rfl (fun c25 => ?_) (fun c25 => ?_)
    · refine x_1 (p' := 36) hC rfl rfl rfl rfl ?_
      refine x_1 (p' := 37) hC rfl rfl rfl rfl ?_
      refine x_putR (p' := 38) hC rfl rfl rfl (by rw [tY _ _ hr2]; exact W.ty) W.1.1 ?_
      refine x_ret hC rfl rfl rfl ⟨rfl, ?_⟩
      have hg := RowP.grown p1 p2 hc W p4 (f := fun j => if 0 ≤ j ∧ j < i then hR h arr j else none) (fun j => by rw [show i = ((w r).2 : Nat) by omega])
      refine K _ _ _ hg.1 hg.2 ?_
      rw [wUp_eq]
      show _ < 2 * (w r).2
      omega
    · refine x_1 (p' := 27) hC rfl rfl rfl rfl ?_
      refine x_1 (p' := 28) hC rfl rfl rfl rfl ?_
      refine x_1 (p' := 29) hC rfl rfl rfl rfl ?_
      refine x_getR (p' := 30) (q := some arr) hC rfl rfl rfl (by rw [tY _ _ hr2]; exact W.ty) (by rw [rR _ _ hr2]; exact W.2.1) ?_
      refine x_1 (p' := 31) hC rfl rfl rfl rfl ?_
      refine x_aald (p' := 32) (t := 200) (n := (w r).2) (q := some (ad i.toNat)) hC rfl rfl rfl (by rw [tY _ _ h7.2.1]; exact h7.2.2.1) rfl (by omega) (by omega) (by rw [rR _ _ h7.2.1, ← (W.2.2.2.2.2.1 i.toNat (by omega)).1, Int.toNat_of_nonneg hI0.1]) ?_
      have hFi := (W.2.2.2.2.2.1 i.toNat (by omega)).2
      refine x_aast (p' := 33) (t := 200) (n := 2 * (w r).2) hC rfl rfl rfl (by rw [hTy_sRA, hTy_at]) rfl (by rw [tY _ _ (by have := hFi.2.1; omega), hFi.2.2.1]) (by omega) (by omega) (by omega) ?_
      rw [sR_sRA]
      refine x_inc2 (p' := 34) hC rfl rfl (⟨by omega, by omega⟩) ?_
      refine x_1 (p' := 21) hC rfl rfl rfl rfl ?_
      rw [sRA_congr (f' := fun j => if 0 ≤ j ∧ j < i + 1 then hR h arr j else none) (fun j => by
        by_cases hj : j = i
        · rw [if_pos hj, if_pos (by omega), ← (W.2.2.2.2.2.1 i.toNat (by omega)).1, hj, Int.toNat_of_nonneg hI0.1]
        · rw [if_neg hj]
          by_cases h2 : 0 ≤ j ∧ j < i
          · rw [if_pos h2, if_pos (by omega)]
          · rw [if_neg h2, if_neg (by omega)])]
      exact ih _ (by omega) (by omega)
set_option maxRecDepth 20000 in
set_option maxHeartbeats 2000000 in
theorem sp_R_grow {d : Nat} {h : HP} {o : Nat → Nat} {w : Nat → Nat × Nat} {r : Nat} {L : List FV} (hP : RowP h o w r L) (hlt : L.length < 1024) {Q : HP → Prop} (K : ∀ H' o' w', ExtR h o w r H' o' w' → RowP H' o' w' r L → L.length < (w' r).2 → Q H') : CaV d 91 [.inr (some r)] h Q := by
  have hC : cod 91 = c_R_grow := rfl
  refine CaV.start rfl ?_
  have hP2 := hP
  obtain ⟨p1, p2, arr, ad, W, p3, p4⟩ := hP
  have hl := W.2.2.2.2.1
  have h7 := W.2.2.1
  have hra : r ≠ arr := by
    rintro rfl
    have := W.1.2.2
    rw [h7.2.2.1] at this
    cases this
  have hle := p2.le
  have hnx : (2 * (((w r).2 : Nat) : Int)).toNat = 2 * (w r).2 := by omega
  refine x_1 (p' := 1) hC rfl rfl rfl rfl ?_
  refine z_rs (p' := 2) W hC rfl rfl ?_
  refine x_1 (p' := 3) hC rfl rfl rfl rfl ?_
  refine z_rf (p' := 4) W hC rfl rfl ?_
  refine x_len (p' := 5) hC rfl rfl rfl h7.2.2.1 rfl (by omega) ?_
  refine x_iclt (p' := 6) hC rfl rfl (fun c5 => ?_) (fun c5 => ?_)
  · refine x_ret hC rfl rfl rfl ⟨rfl, ?_⟩
    first
      | (exfalso; omega)
      | exact K _ _ _ ExtR.refl hP2 (by omega)
  · refine x_1 (p' := 7) hC rfl rfl rfl rfl ?_
    refine z_rf (p' := 8) W hC rfl rfl ?_
    refine x_len (p' := 9) hC rfl rfl rfl h7.2.2.1 rfl (by omega) ?_
    refine x_1 (p' := 10) hC rfl rfl rfl rfl ?_
    refine x_iclt (p' := 11) hC rfl rfl (fun c10 => ?_) (fun c10 => ?_)
    · refine x_1 (p' := 13) hC rfl rfl rfl rfl ?_
      refine x_1 (p' := 14) hC rfl rfl rfl rfl ?_
      refine z_rf (p' := 15) W hC rfl rfl ?_
      refine x_len (p' := 16) hC rfl rfl rfl h7.2.2.1 rfl (by omega) ?_
      refine x_mul (p' := 17) hC rfl rfl rfl (⟨by omega, by omega⟩) ?_
      refine x_newr (p' := 18) hC rfl rfl rfl ⟨by omega, by omega⟩ ?_
      rw [hnx]
      refine x_stA1 (p' := 19) hC rfl rfl rfl ?_
      refine x_1 (p' := 20) hC rfl rfl rfl rfl ?_
      refine x_stI2 (p' := 21) hC rfl rfl rfl ?_
      have hlp := lp_R_grow (d := d) p1 p2 (by omega) W p4 (by omega) K _ 0 (Nat.lt_succ_self _) (by omega)
      rw [sRA_self (h := sNew h (200, 2 * (w r).2) (2 * (w r).2)) (arr := hZ h) (f := fun j => if 0 ≤ j ∧ j < 0 then hR h arr j else none) (fun j => by rw [if_neg (by omega)]; exact hR_at.symm)] at hlp
      exact hlp
    · refine x_ret hC rfl rfl rfl ⟨rfl, ?_⟩
      first
        | (exfalso; omega)
        | exact K _ _ _ ExtR.refl hP2 (by omega)
/-- a row into which the frame at a is copied at place x; its place in the array is that of sp -/
def insF (h : HP) (arr sp : Nat) (n x : Int) : Int → Option Nat := fun j => if j = x then some sp else if x < j ∧ j ≤ n then hR h arr (j - 1) else hR h arr j
def RowS (h : HP) (r arr : Nat) (ad : Nat → Nat) (al cap : Nat) (L : List FV) : Prop :=
  (3 ≤ r ∧ r < hZ h ∧ hTy h r = (4, 0)) ∧ hR h r 0 = some arr ∧ (3 ≤ arr ∧ arr < hZ h ∧ hTy h arr = (200, cap) ∧ cap ≤ 1024) ∧ hI h r 1 = (L.length : Nat) ∧ (L.length < al ∧ al ≤ cap) ∧ (∀ i : Nat, i < al → (i ≠ L.length → hR h arr i = some (ad i)) ∧ FrP h (ad i)) ∧ (∀ i : Nat, al ≤ i → i < cap → hR h arr i = none) ∧ (∀ i j : Nat, i < al → j < al → ad i = ad j → i = j) ∧ ∀ i : Nat, i < L.length → fV h (ad i) = gt L i
theorem RowS.done {h : HP} {r arr : Nat} {ad : Nat → Nat} {al cap : Nat} {L : List FV} (S : RowS h r arr ad al cap L) {x : Int} (hx : 0 ≤ x ∧ x ≤ (L.length : Nat)) {a : Nat} (hF : FrP h a) (ha : ∀ i, i < al → ad i ≠ a) :
    RowQ (sI (sF (sRA h arr (insF h arr (ad L.length) (L.length : Nat) x)) (ad L.length) (fV h a)) r 1 ((L.length : Nat) + 1)) r arr (fun k => if (k : Int) = x then ad L.length else if x < (k : Int) ∧ k ≤ L.length then ad (k - 1) else ad k) al cap (insA L x (fV h a)) := by
  obtain ⟨⟨q1, q2, q3⟩, q4, ⟨q5, q6, q7, q8⟩, q9, q10, q11, q12, q13, q14⟩ := S
  have hra : r ≠ arr := by
    rintro rfl
    rw [q3] at q7
    cases q7
  have hsp := (q11 L.length q10.1).2
  have hrs : ∀ b, FrP h b → r ≠ b ∧ r ≠ b + 1 ∧ r ≠ b + 2 := fun b hb => by
    refine ⟨?_, ?_, ?_⟩
    · rintro rfl; have := hb.2.2.1; rw [q3] at this; cases this
    · rintro rfl; have := hb.2.2.2.1; rw [q3] at this; cases this
    · rintro rfl; have := hb.2.2.2.2.1; rw [q3] at this; cases this
  have hv1 : ∀ b v, FrP h b → fV (sI (sF (sRA h arr (insF h arr (ad L.length) (L.length : Nat) x)) (ad L.length) (fV h a)) r 1 v) b = fV (sF h (ad L.length) (fV h a)) b := fun b v hb => by
    have := hrs b hb
    exact fV_same (hI_sI_ne (by omega)) (hI_sI_ne (by omega)) (hI_sI_ne (by omega))
  have hFF : ∀ b, FrP h b → FrP (sI (sF (sRA h arr (insF h arr (ad L.length) (L.length : Nat) x)) (ad L.length) (fV h a)) r 1 ((L.length : Nat) + 1)) b := fun b hb => hb.sRA (f := insF h arr (ad L.length) (L.length : Nat) x) (by rw [q7])
  refine ⟨⟨q1, q2, q3⟩, ?_, ⟨q5, q6, q7, q8⟩, ?_, by rw [insA_len]; omega, fun k hk => ⟨?_, hFF _ ?_⟩, fun k h1 h2 => ?_, fun k l hk hl e => ?_, fun k hk => ?_⟩
  · show hR (sRA h arr _) r 0 = _
    rw [hR_sRA_ne hra]; exact q4
  · rw [insA_len, hI_sI, if_pos ⟨rfl, rfl⟩]; rfl
  · show hR (sRA h arr _) arr k = _
    rw [hR_sRA]
    unfold insF
    dsimp only
    split
    · rfl
    · split
      · rename_i c1 c2
        rw [if_pos (by omega), show ((k : Int) - 1) = ((k - 1 : Nat) : Int) by omega]
        exact (q11 (k - 1) (by omega)).1 (by omega)
      · rename_i c1 c2
        rw [if_neg (by omega)]
        exact (q11 k hk).1 (by omega)
  · try dsimp only
    split
    · exact hsp
    · split
      · exact (q11 (k - 1) (by omega)).2
      · exact (q11 k hk).2
  · show hR (sRA h arr _) arr k = _
    rw [hR_sRA]
    unfold insF
    rw [if_neg (by omega), if_neg (by omega)]
    exact q12 k h1 h2
  · dsimp only at e
    have a1 := q13 L.length (l - 1) (by omega) (by omega)
    have a2 := q13 L.length l (by omega) (by omega)
    have a3 := q13 (k - 1) L.length (by omega) (by omega)
    have a4 := q13 k L.length (by omega) (by omega)
    have a5 := q13 (k - 1) (l - 1) (by omega) (by omega)
    have a6 := q13 (k - 1) l (by omega) (by omega)
    have a7 := q13 k (l - 1) (by omega) (by omega)
    have a8 := q13 k l (by omega) (by omega)
    split at e
    · split at e
      · omega
      · split at e
        · have := a1 e; omega
        · have := a2 e; omega
    · split at e
      · split at e
        · have := a3 e; omega
        · split at e
          · have := a5 e; omega
          · have := a6 e; omega
      · split at e
        · have := a4 e; omega
        · split at e
          · have := a7 e; omega
          · exact a8 e
  · rw [insA_len] at hk
    rw [gt_insA hx.1 hx.2 (by omega) (by omega)]
    dsimp only
    have hold : ∀ j : Nat, j < L.length → fV (sF h (ad L.length) (fV h a)) (ad j) = gt L j := fun j hj => by
      rw [fV_sF_ne hsp (q11 j (by omega)).2 (fun e => by have := q13 _ _ (by omega) (by omega) e; omega)]
      exact q14 j hj
    by_cases c1 : (k : Int) = x
    · rw [if_pos c1, if_neg (by omega), if_pos c1, hv1 _ _ hsp, fV_sF, nf_fV]
    · rw [if_neg c1]
      by_cases c2 : x < (k : Int) ∧ k ≤ L.length
      · rw [if_pos c2, if_neg (by omega), if_neg c1, hv1 _ _ (q11 _ (by omega)).2, hold _ (by omega)]
        congr 1
        omega
      · rw [if_neg c2, if_pos (by omega), hv1 _ _ (q11 _ (by omega)).2, hold _ (by omega)]
set_option maxRecDepth 20000 in
theorem lp_R_insert {d : Nat} {h : HP} {r arr : Nat} {ad : Nat → Nat} {al cap : Nat} {L : List FV} (S : RowS h r arr ad al cap L) {x : Int} (hx : 0 ≤ x ∧ x ≤ (L.length : Nat)) {a : Nat} (hF : FrP h a) (ha : ∀ i, i < al → ad i ≠ a) {Q : HP → Prop} (K : Q (sI (sF (sRA h arr (insF h arr (ad L.length) (L.length : Nat) x)) (ad L.length) (fV h a)) r 1 ((L.length : Nat) + 1))) (k : Nat) : ∀ (i : Int), i.toNat < k → (x ≤ i ∧ i ≤ (L.length : Nat)) → At (d + 2) 90 34 [some (.inr (some r)), some (.inl x), some (.inr (some a)), some (.inr (some (ad L.length))), some (.inl i)] [] (sRA h arr (fun j => if i < j ∧ j ≤ (L.length : Nat) then hR h arr (j - 1) else hR h arr j)) (fun v h' => v = none ∧ Q h') := by
  have hC : cod 90 = c_R_insert := rfl
  induction k with
  | zero =>
    intro i hk
    exact absurd hk (Nat.not_lt_zero _)
  | succ k ih =>
    intro i hk hI0
    obtain ⟨⟨q1, q2, q3⟩, q4, ⟨q5, q6, q7, q8⟩, q9, q10, q11, q12, q13, q14⟩ := id S
    have hra : r ≠ arr := by
      rintro rfl
      rw [q3] at q7
      cases q7
    have hty : (hTy h r).1 = 3 + 1 := by rw [q3]
    refine x_1 (p' := 35) hC rfl rfl rfl rfl ?_
    refine x_1 (p' := 36) hC rfl rfl rfl rfl ?_
    refine x_icle (p' := 37) hC rfl rfl (fun c36 => ?_) (fun c36 => ?_)
    · refine x_1 (p' := 50) hC rfl rfl rfl rfl ?_
      refine x_getR (p' := 51) (q := some arr) hC rfl rfl rfl hty (by first | rw [hR_sRA_ne hra]; exact q4 | exact q4) ?_
      refine x_1 (p' := 52) hC rfl rfl rfl rfl ?_
      refine x_1 (p' := 53) hC rfl rfl rfl rfl ?_
      have hsp := (q11 L.length q10.1).2
      refine x_aast (p' := 54) (t := 200) (n := cap) hC rfl rfl rfl q7 rfl (show (hTy h _).1 + 199 = 200 by rw [hsp.2.2.1]) q5 (by omega) (by omega) ?_
      rw [sR_sRA]
      refine x_1 (p' := 55) hC rfl rfl rfl rfl ?_
      refine x_1 (p' := 56) hC rfl rfl rfl rfl ?_
      refine x_cVV1 (p' := 57) (n := 82) hC rfl rfl rfl rfl rfl (by show (hTy h _).1 = _; rw [hsp.2.2.1]; rfl) ?_
      refine sp_F_copyFrom (hsp.sRA (by rw [q7])) (hF.sRA (by rw [q7])) (ha _ q10.1) ?_
      refine x_1 (p' := 58) hC rfl rfl rfl rfl ?_
      refine x_1 (p' := 59) hC rfl rfl rfl rfl ?_
      refine x_getI (p' := 60) hC rfl rfl rfl hty ?_
      have hrs : r ≠ ad L.length ∧ r ≠ ad L.length + 1 ∧ r ≠ ad L.length + 2 := by
        refine ⟨?_, ?_, ?_⟩
        · intro e; have := hsp.2.2.1; rw [← e, q3] at this; cases this
        · intro e; have := hsp.2.2.2.1; rw [← e, q3] at this; cases this
        · intro e; have := hsp.2.2.2.2.1; rw [← e, q3] at this; cases this
      rw [hI_sF_ne hrs.1 hrs.2.1 hrs.2.2, show ∀ f, hI (sRA h arr f) r ((1 : Nat) : Int) = (L.length : Nat) from fun _ => q9]
      refine x_1 (p' := 61) hC rfl rfl rfl rfl ?_
      refine x_add (p' := 62) hC rfl rfl rfl (⟨by omega, by omega⟩) ?_
      refine x_putI (p' := 63) hC rfl rfl rfl hty q1 ?_
      refine x_ret hC rfl rfl rfl ⟨rfl, ?_⟩
      have hix : i = x := by omega
      subst hix
      exact K
    · refine x_1 (p' := 38) hC rfl rfl rfl rfl ?_
      refine x_getR (p' := 39) (q := some arr) hC rfl rfl rfl hty (by first | rw [hR_sRA_ne hra]; exact q4 | exact q4) ?_
      refine x_1 (p' := 40) hC rfl rfl rfl rfl ?_
      refine x_1 (p' := 41) hC rfl rfl rfl rfl ?_
      refine x_getR (p' := 42) (q := some arr) hC rfl rfl rfl hty (by first | rw [hR_sRA_ne hra]; exact q4 | exact q4) ?_
      refine x_1 (p' := 43) hC rfl rfl rfl rfl ?_
      refine x_1 (p' := 44) hC rfl rfl rfl rfl ?_
      refine x_sub (p' := 45) hC rfl rfl rfl (⟨by omega, by omega⟩) ?_
      refine x_aald (p' := 46) (t := 200) (n := cap) (q := some (ad (i.toNat - 1))) hC rfl rfl rfl q7 rfl (by omega) (by omega) (by rw [hR_sRA, if_neg (by omega), show i - 1 = ((i.toNat - 1 : Nat) : Int) by omega]; exact (q11 _ (by omega)).1 (by omega)) ?_
      have hFi := (q11 (i.toNat - 1) (by omega)).2
      refine x_aast (p' := 47) (t := 200) (n := cap) hC rfl rfl rfl q7 rfl (show (hTy h _).1 + 199 = 200 by rw [hFi.2.2.1]) q5 (by omega) (by omega) ?_
      rw [sR_sRA]
      refine x_inc4 (p' := 48) hC rfl rfl (⟨by omega, by omega⟩) ?_
      refine x_1 (p' := 34) hC rfl rfl rfl rfl ?_
      rw [sRA_congr (f' := fun j => if i + -1 < j ∧ j ≤ (L.length : Nat) then hR h arr (j - 1) else hR h arr j) (fun j => by
        by_cases hj : j = i
        · rw [if_pos hj, if_pos (by omega), hj, show i - 1 = ((i.toNat - 1 : Nat) : Int) by omega]
          exact ((q11 _ (by omega)).1 (by omega)).symm
        · rw [if_neg hj]
          by_cases h2 : i < j ∧ j ≤ (L.length : Nat)
          · rw [if_pos h2, if_pos (by omega)]
          · rw [if_neg h2, if_neg (by omega)])]
      exact ih _ (by omega) (by omega)
theorem shift_self {h : HP} {arr : Nat} {n : Int} : sRA h arr (fun j => if n < j ∧ j ≤ n then hR h arr (j - 1) else hR h arr j) = h := sRA_self (fun j => if_neg (by omega))
theorem RowS.ext {h : HP} {o : Nat → Nat} {w : Nat → Nat × Nat} {r arr : Nat} {ad : Nat → Nat} {L : List FV} (p1 : o r = r) (p2 : okCap (w r).2) (p3 : o arr = r) (p4 : ∀ i, i < (w r).1 → o (ad i) = r ∧ o (ad i + 1) = r ∧ o (ad i + 2) = r) (S : RowS h r arr ad (w r).1 (w r).2 L) {x : Int} (hx : 0 ≤ x ∧ x ≤ (L.length : Nat)) {a : Nat} (hF : FrP h a) (ha : ∀ i, i < (w r).1 → ad i ≠ a) :
    ExtR h o w r (sI (sF (sRA h arr (insF h arr (ad L.length) (L.length : Nat) x)) (ad L.length) (fV h a)) r 1 ((L.length : Nat) + 1)) o w ∧ RowP (sI (sF (sRA h arr (insF h arr (ad L.length) (L.length : Nat) x)) (ad L.length) (fV h a)) r 1 ((L.length : Nat) + 1)) o w r (insA L x (fV h a)) := by
  have D := S.done hx hF ha
  obtain ⟨⟨q1, q2, q3⟩, q4, ⟨q5, q6, q7, q8⟩, q9, q10, q11, q12, q13, q14⟩ := id S
  have hsp := (q11 L.length q10.1).2
  have ho := p4 L.length q10.1
  have hne : ∀ b, b ≠ r → b ≠ ad L.length → b ≠ ad L.length + 1 → b ≠ ad L.length + 2 → hI (sI (sF (sRA h arr (insF h arr (ad L.length) (L.length : Nat) x)) (ad L.length) (fV h a)) r 1 ((L.length : Nat) + 1)) b = hI h b := fun b h0 h1 h2 h3 => by
    rw [hI_sI_ne h0, hI_sF_ne h1 h2 h3]; rfl
  have hrs : r ≠ ad L.length ∧ r ≠ ad L.length + 1 ∧ r ≠ ad L.length + 2 := by
    refine ⟨?_, ?_, ?_⟩
    · intro e; have := hsp.2.2.1; rw [← e, q3] at this; cases this
    · intro e; have := hsp.2.2.2.1; rw [← e, q3] at this; cases this
    · intro e; have := hsp.2.2.2.2.1; rw [← e, q3] at this; cases this
  refine ⟨⟨Nat.le_refl _, fun _ _ => ⟨rfl, rfl⟩, fun b hb hg => ⟨hne b ?_ ?_ ?_ ?_, ?_⟩, fun b hb ht => hne b ?_ ?_ ?_ ?_, fun k hk => ?_, fun b h1 h2 => absurd h2 (Nat.not_lt.mpr h1), fun b hb => ?_, fun _ _ => rfl, rfl, Nat.le_refl _⟩, p1, p2, arr, _, D, p3, fun k hk => ?_⟩
  · rintro rfl; exact hg p1
  · rintro rfl; exact hg ho.1
  · rintro rfl; exact hg ho.2.1
  · rintro rfl; exact hg ho.2.2
  · show hR (sRA h arr _) b = _
    exact hR_sRA_ne (by rintro rfl; exact hg p3)
  · rintro rfl; rw [q3] at ht; cases ht
  · rintro rfl; rw [hsp.2.2.1] at ht; cases ht
  · rintro rfl; rw [hsp.2.2.2.1] at ht; cases ht
  · rintro rfl; rw [hsp.2.2.2.2.1] at ht; cases ht
  · rw [hI_sI, if_neg (fun q => hk q.2), hI_sF_ne hrs.1 hrs.2.1 hrs.2.2]; rfl
  · exact hb.sRA (f := insF h arr (ad L.length) (L.length : Nat) x) (by rw [q7])
  · try dsimp only
    split
    · exact ho
    · split
      · exact p4 _ (by omega)
      · exact p4 k hk
/-- a frame made anew is the spare one -/
theorem RowS.made {H : HP} {o : Nat → Nat} {w : Nat → Nat × Nat} {r arr : Nat} {ad : Nat → Nat} {L : List FV} (p1 : o r = r) (p2 : okCap (w r).2) (p3 : o arr = r) (p4 : ∀ i, i < (w r).1 → o (ad i) = r ∧ o (ad i + 1) = r ∧ o (ad i + 2) = r) (W : RowQ H r arr ad (w r).1 (w r).2 L) (hal : (w r).1 = L.length) (hc : L.length < (w r).2) {H2 : HP} (tz : hZ H2 = hZ H + 3) (tu : hU H2 = hU H + 28) (tt : ∀ b, b < hZ H → hTy H2 b = hTy H b) (ti : ∀ b, b < hZ H → hI H2 b = hI H b ∧ hR H2 b = hR H b) (tF : FrP H2 (hZ H)) :
    ExtR H o w r H2 (oUp o (hZ H) r) (wUp w r (L.length + 1, (w r).2)) ∧ RowS H2 r arr (aUp ad L.length (hZ H)) (L.length + 1) (w r).2 L := by
  obtain ⟨⟨q1, q2, q3⟩, q4, ⟨q5, q6, q7, q8⟩, q9, q10, q11, q12, q13, q14⟩ := W
  have hle := p2.le
  have hFF : ∀ b, FrP H b → FrP H2 b := fun b hb => hb.congr (by omega) tt (ti b (by have := hb.2.1; omega)).2
  refine ⟨⟨by omega, fun b hb => ⟨tt b hb, oUp_lt hb⟩, fun b hb _ => ti b hb, fun b hb _ => (ti b hb).1, fun k _ => by rw [(ti r q2).1], fun b h1 _ => oUp_ge h1, hFF, fun q hq => wUp_ne hq, ?_, by omega⟩, ⟨q1, by omega, by rw [tt r q2]; exact q3⟩, by rw [(ti r q2).2]; exact q4, ⟨q5, by omega, by rw [tt arr q6]; exact q7, q8⟩, by rw [(ti r q2).1]; exact q9, by omega, fun i hi => ⟨fun hn => ?_, ?_⟩, fun i h1 h2 => ?_, fun i j hi hj e => ?_, fun i hi => ?_⟩
  · rw [wUp_eq]
    unfold kap
    dsimp only
    omega
  · rw [aUp_ne hn, (ti arr q6).2]
    exact (q11 i (by omega)).1
  · unfold aUp
    split
    · exact tF
    · exact hFF _ (q11 i (by omega)).2
  · rw [(ti arr q6).2]
    exact q12 i (by omega) h2
  · unfold aUp at e
    have hb : ∀ k, k < L.length → ad k < hZ H := fun k hk => by have := (q11 k (by omega)).2.2.1; omega
    split at e
    · split at e
      · omega
      · have := hb j (by omega); omega
    · split at e
      · have := hb i (by omega); omega
      · exact q13 i j (by omega) (by omega) e
  · rw [aUp_ne (by omega), ← q14 i hi]
    have hF := (q11 i (by omega)).2
    have hb := hF.2.1
    exact fV_same (ti _ (by omega)).1 (ti _ (by omega)).1 (ti _ (by omega)).1
theorem RowS.spare {H : HP} {o : Nat → Nat} {w : Nat → Nat × Nat} {r arr : Nat} {ad : Nat → Nat} {L : List FV} (W : RowQ H r arr ad (w r).1 (w r).2 L) (hal : L.length < (w r).1) : RowS H r arr ad (w r).1 (w r).2 L := by
  obtain ⟨⟨q1, q2, q3⟩, q4, ⟨q5, q6, q7, q8⟩, q9, q10, q11, q12, q13, q14⟩ := W
  exact ⟨⟨q1, q2, q3⟩, q4, ⟨q5, q6, q7, q8⟩, q9, ⟨hal, q10.2⟩, fun i hi => ⟨fun _ => (q11 i hi).1, (q11 i hi).2⟩, q12, q13, q14⟩
set_option maxRecDepth 20000 in
set_option maxHeartbeats 2000000 in
theorem sp_R_insert {d : Nat} {h : HP} {o : Nat → Nat} {w : Nat → Nat × Nat} {r : Nat} {L : List FV} (hP : RowP h o w r L) (hlt : L.length < 1024) {x : Int} (hx : 0 ≤ x ∧ x ≤ (L.length : Nat)) {a : Nat} (hA : FrP h a) (ho : o a ≠ r ∧ o (a + 1) ≠ r ∧ o (a + 2) ≠ r) {Q : HP → Prop} (K : ∀ H' o' w', ExtR h o w r H' o' w' → RowP H' o' w' r (insA L x (fV h a)) → Q H') : CaV (d + 2) 90 [.inr (some r), .inl x, .inr (some a)] h Q := by
  have hC : cod 90 = c_R_insert := rfl
  refine CaV.start rfl ?_
  refine x_1 (p' := 1) hC rfl rfl rfl rfl ?_
  refine x_cVV0 (p' := 2) (n := 91) hC rfl rfl rfl rfl rfl (hP.rty) ?_
  refine sp_R_grow hP hlt (fun H o1 w1 hE hP1 hc => ?_)
  obtain ⟨p1, p2, arr, ad, W, p3, p4⟩ := hP1
  have hl := W.2.2.2.2.1
  have h7 := W.2.2.1
  have hle := p2.le
  have hbA := hA.2.1
  have hA1 := hE.2.2.2.2.2.2.1 a hA
  have hoA : o1 a ≠ r := by rw [(hE.2.1 a (by omega)).2]; exact ho.1
  have hvA : fV H a = fV h a := fV_same (hE.2.2.1 _ (by omega) ho.1).1 (hE.2.2.1 _ (by omega) ho.2.1).1 (hE.2.2.1 _ (by omega) ho.2.2).1
  refine x_1 (p' := 3) hC rfl rfl rfl rfl ?_
  refine z_rs (p' := 4) W hC rfl rfl ?_
  refine x_1 (p' := 5) hC rfl rfl rfl rfl ?_
  refine z_rf (p' := 6) W hC rfl rfl ?_
  refine x_len (p' := 7) hC rfl rfl rfl h7.2.2.1 rfl (by omega) ?_
  refine x_icge (p' := 8) hC rfl rfl (fun c7 => ?_) (fun c7 => ?_)
  · refine x_ret hC rfl rfl rfl ⟨rfl, ?_⟩
    exfalso; omega
  · refine x_1 (p' := 9) hC rfl rfl rfl rfl ?_
    refine x_1 (p' := 10) hC rfl rfl rfl rfl ?_
    refine x_1 (p' := 11) hC rfl rfl rfl rfl ?_
    refine z_rs (p' := 12) W hC rfl rfl ?_
    refine x_cIS3 (p' := 13) (n := 187) hC rfl rfl rfl rfl rfl ?_
    refine sp_P_isWithin ?_
    refine x_ifne (p' := 14) hC rfl rfl (fun c13 => ?_) (fun c13 => ?_)
    · have c13 := b2i_n0.mp c13
      refine x_1 (p' := 16) hC rfl rfl rfl rfl ?_
      refine z_rf (p' := 17) W hC rfl rfl ?_
      refine x_1 (p' := 18) hC rfl rfl rfl rfl ?_
      refine z_rs (p' := 19) W hC rfl rfl ?_
      refine x_aald (p' := 20) (t := 200) (n := (w1 r).2) (q := hR H arr ((L.length : Nat) : Int)) hC rfl rfl rfl h7.2.2.1 rfl (by omega) (by omega) rfl ?_
      refine x_nn (p' := 21) hC rfl rfl (fun q20 c20 => ?_) (fun c20 => ?_)
      · have hlal : L.length < (w1 r).1 := by
          rcases Nat.lt_or_ge L.length (w1 r).1 with q | q
          · exact q
          · rw [W.2.2.2.2.2.2.1 L.length q hc] at c20; cases c20
        have hq20 : q20 = ad L.length := by
          rw [(W.2.2.2.2.2.1 L.length hlal).1] at c20
          exact (Option.some.inj c20).symm
        refine x_1 (p' := 26) hC rfl rfl rfl rfl ?_
        refine z_rf (p' := 27) W hC rfl rfl ?_
        refine x_1 (p' := 28) hC rfl rfl rfl rfl ?_
        refine z_rs (p' := 29) W hC rfl rfl ?_
        refine x_aald (p' := 30) (t := 200) (n := (w1 r).2) (q := some q20) hC rfl rfl rfl h7.2.2.1 rfl (by omega) (by omega) c20 ?_
        refine x_stA3 (p' := 31) hC rfl rfl rfl ?_
        first
          | (subst hq20
             have S := RowS.spare (o := o1) W hlal
             have hne : ∀ i, i < (w1 r).1 → ad i ≠ a := fun i hi e => hoA (by rw [← e]; exact (p4 i hi).1)
             have hX := RowS.ext p1 p2 p3 p4 S hx hA1 hne
             refine x_1 (p' := 32) hC rfl rfl rfl rfl ?_
             refine z_rs (p' := 33) W hC rfl rfl ?_
             refine x_stI4 (p' := 34) hC rfl rfl rfl ?_
             have hlp := lp_R_insert (d := d) S hx hA1 hne (Q := Q) (by have := K _ _ _ (hE.trans hX.1); rw [← hvA] at this; exact this hX.2) _ ((L.length : Nat) : Int) (Nat.lt_succ_self _) (by omega)
             rw [shift_self] at hlp
             exact hlp)
          | (have S := hM.2
             have hbr := W.1.2.1
             have hne : ∀ i, i < L.length + 1 → aUp ad L.length (hZ H) i ≠ a := fun i hi e => by
               unfold aUp at e
               split at e
               · have := hA1.2.1; omega
               · exact hoA (by rw [← e]; exact (p4 i (by omega)).1)
             have hE2 := hM.1
             have hA2 := hE2.2.2.2.2.2.2.1 a hA1
             have hbA1 := hA1.2.1
             have hvA2 : fV H2 a = fV h a := by
               have ho1 : ∀ b, b < hZ h → o1 b = o b := fun b hb => (hE.2.1 b hb).2
               rw [← hvA]
               exact fV_same (hE2.2.2.1 _ (by omega) (by rw [ho1 _ (by omega)]; exact ho.1)).1 (hE2.2.2.1 _ (by omega) (by rw [ho1 _ (by omega)]; exact ho.2.1)).1 (hE2.2.2.1 _ (by omega) (by rw [ho1 _ (by omega)]; exact ho.2.2)).1
             have hX := RowS.ext (h := H2) (o := oUp o1 (hZ H) r) (w := wUp w1 r (L.length + 1, (w1 r).2)) (r := r) (arr := arr) (ad := aUp ad L.length (hZ H)) (L := L) (by rw [oUp_lt hbr]; exact p1) (by rw [wUp_eq]; exact p2) (by rw [oUp_lt h7.2.1]; exact p3) (fun i hi => by
               rw [wUp_eq] at hi
               replace hi : i < L.length + 1 := hi
               by_cases hi2 : i = L.length
               · rw [hi2, aUp_eq, oUp_ge (Nat.le_refl _), oUp_ge (by omega), oUp_ge (by omega)]
                 exact ⟨rfl, rfl, rfl⟩
               · have hF := (W.2.2.2.2.2.1 i (by omega)).2
                 have hb := hF.2.1
                 rw [aUp_ne hi2, oUp_lt (by omega), oUp_lt (by omega), oUp_lt (by omega)]
                 exact p4 i (by omega)) (by rw [wUp_eq]; exact S) hx hA2 (by rw [wUp_eq]; exact hne)
             refine x_1 (p' := 32) hC rfl rfl rfl rfl ?_
             refine x_getI (p' := 33) hC rfl rfl rfl (by rw [S.1.2.2]) ?_
             rw [show hI H2 r ((1 : Nat) : Int) = (L.length : Nat) from S.2.2.2.1]
             refine x_stI4 (p' := 34) hC rfl rfl rfl ?_
             have hlp := lp_R_insert (d := d) S hx hA2 hne (Q := Q) (by have := K _ _ _ ((hE.trans hE2).trans hX.1); rw [← hvA2] at this; exact this hX.2) _ ((L.length : Nat) : Int) (Nat.lt_succ_self _) (by omega)
             rw [shift_self, aUp_eq] at hlp
             exact hlp)
      · have hlal : (w1 r).1 = L.length := by
          rcases Nat.lt_or_ge L.length (w1 r).1 with q | q
          · rw [(W.2.2.2.2.2.1 L.length q).1] at c20; cases c20
          · omega
        refine x_new (p' := 22) hC rfl rfl rfl ?_
        refine x_1 (p' := 23) hC rfl rfl rfl rfl ?_
        refine x_cVN0 (p' := 24) (n := 81) hC rfl rfl rfl rfl rfl ?_
        refine sp_F_init (a := hZ H) hTy_at (by omega) rfl (fun H2 z2 u2 t2 i2 F2 => ?_)
        have hM := RowS.made (H := H) p1 p2 p3 p4 W (by omega) hc (H2 := H2) z2 (by rw [u2]; show hU H + 8 + 20 = _; omega) (fun b hb => (t2 b (by show b < hZ H + 1; omega)).trans (hTy_new hb)) (fun b hb => by have := i2 b (by show b < hZ H + 1; omega) (by omega); exact ⟨this.1.trans (hI_new hb), this.2.trans (hR_new hb)⟩) F2
        refine x_1 (p' := 30) hC rfl rfl rfl rfl ?_
        refine x_stA3 (p' := 31) hC rfl rfl rfl ?_
        first
          | (subst hq20
             have S := RowS.spare (o := o1) W hlal
             have hne : ∀ i, i < (w1 r).1 → ad i ≠ a := fun i hi e => hoA (by rw [← e]; exact (p4 i hi).1)
             have hX := RowS.ext p1 p2 p3 p4 S hx hA1 hne
             refine x_1 (p' := 32) hC rfl rfl rfl rfl ?_
             refine z_rs (p' := 33) W hC rfl rfl ?_
             refine x_stI4 (p' := 34) hC rfl rfl rfl ?_
             have hlp := lp_R_insert (d := d) S hx hA1 hne (Q := Q) (by have := K _ _ _ (hE.trans hX.1); rw [← hvA] at this; exact this hX.2) _ ((L.length : Nat) : Int) (Nat.lt_succ_self _) (by omega)
             rw [shift_self] at hlp
             exact hlp)
          | (have S := hM.2
             have hbr := W.1.2.1
             have hne : ∀ i, i < L.length + 1 → aUp ad L.length (hZ H) i ≠ a := fun i hi e => by
               unfold aUp at e
               split at e
               · have := hA1.2.1; omega
               · exact hoA (by rw [← e]; exact (p4 i (by omega)).1)
             have hE2 := hM.1
             have hA2 := hE2.2.2.2.2.2.2.1 a hA1
             have hbA1 := hA1.2.1
             have hvA2 : fV H2 a = fV h a := by
               have ho1 : ∀ b, b < hZ h → o1 b = o b := fun b hb => (hE.2.1 b hb).2
               rw [← hvA]
               exact fV_same (hE2.2.2.1 _ (by omega) (by rw [ho1 _ (by omega)]; exact ho.1)).1 (hE2.2.2.1 _ (by omega) (by rw [ho1 _ (by omega)]; exact ho.2.1)).1 (hE2.2.2.1 _ (by omega) (by rw [ho1 _ (by omega)]; exact ho.2.2)).1
             have hX := RowS.ext (h := H2) (o := oUp o1 (hZ H) r) (w := wUp w1 r (L.length + 1, (w1 r).2)) (r := r) (arr := arr) (ad := aUp ad L.length (hZ H)) (L := L) (by rw [oUp_lt hbr]; exact p1) (by rw [wUp_eq]; exact p2) (by rw [oUp_lt h7.2.1]; exact p3) (fun i hi => by
               rw [wUp_eq] at hi
               replace hi : i < L.length + 1 := hi
               by_cases hi2 : i = L.length
               · rw [hi2, aUp_eq, oUp_ge (Nat.le_refl _), oUp_ge (by omega), oUp_ge (by omega)]
                 exact ⟨rfl, rfl, rfl⟩
               · have hF := (W.2.2.2.2.2.1 i (by omega)).2
                 have hb := hF.2.1
                 rw [aUp_ne hi2, oUp_lt (by omega), oUp_lt (by omega), oUp_lt (by omega)]
                 exact p4 i (by omega)) (by rw [wUp_eq]; exact S) hx hA2 (by rw [wUp_eq]; exact hne)
             refine x_1 (p' := 32) hC rfl rfl rfl rfl ?_
             refine x_getI (p' := 33) hC rfl rfl rfl (by rw [S.1.2.2]) ?_
             rw [show hI H2 r ((1 : Nat) : Int) = (L.length : Nat) from S.2.2.2.1]
             refine x_stI4 (p' := 34) hC rfl rfl rfl ?_
             have hlp := lp_R_insert (d := d) S hx hA2 hne (Q := Q) (by have := K _ _ _ ((hE.trans hE2).trans hX.1); rw [← hvA2] at this; exact this hX.2) _ ((L.length : Nat) : Int) (Nat.lt_succ_self _) (by omega)
             rw [shift_self, aUp_eq] at hlp
             exact hlp)
    · have c13 := b2i_0.mp c13
      refine x_ret hC rfl rfl rfl ⟨rfl, ?_⟩
      exfalso; omega

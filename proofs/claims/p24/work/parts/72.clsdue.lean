/-! THE CLASS: frames that are due -/
def setL (L : List FV) (i : Int) (v : FV) : List FV := L.set i.toNat v
theorem setL_len {L : List FV} {i : Int} {v : FV} : (setL L i v).length = L.length := List.length_set
theorem gt_setL {L : List FV} {i k : Int} {v : FV} (h0 : 0 ≤ k) (h1 : k < (L.length : Nat)) (hi : 0 ≤ i) : gt (setL L i v) k = if k = i then v else gt L k := by
  obtain ⟨n, rfl⟩ := Int.eq_ofNat_of_zero_le h0
  obtain ⟨m, rfl⟩ := Int.eq_ofNat_of_zero_le hi
  rw [gt_nat (by rw [setL_len]; omega)]
  unfold setL
  simp only [Int.toNat_natCast]
  rw [List.getElem_set]
  by_cases c : m = n
  · rw [if_pos c, if_pos (by omega)]
  · rw [if_neg c, if_neg (by omega), gt_nat (by omega)]
theorem upX_same {S : Nat → Int → Int} {n : Nat} {k v : Int} (h : S n k = v) : upX S n k v = S := by
  funext m j
  unfold upX
  split
  · rename_i q; rw [← h, q.1, q.2]
  · rfl
theorem TR.wayfr {t : Nat} {H : HP} {o : Nat → Nat} {w : Nat → Nat × Nat} {S : Nat → Int → Int} {R : Nat → List FV} (T : TR t H o w S R) {arr : Nat} {ad : Nat → Nat} (p1 : o (t + 3) = t + 3) (p2 : okCap (w (t + 3)).2) (W : RowQ H (t + 3) arr ad (w (t + 3)).1 (w (t + 3)).2 (R 3)) (p3 : o arr = t + 3) (p4 : ∀ i, i < (w (t + 3)).1 → o (ad i) = t + 3 ∧ o (ad i + 1) = t + 3 ∧ o (ad i + 2) = t + 3) {i : Int} (h0 : 0 ≤ i) (h1 : i < ((R 3).length : Nat)) (v : FV) : ExtT H o w t (sF H (ad i.toNat) v) o w ∧ TR t (sF H (ad i.toNat) v) o w S (upR R 3 (setL (R 3) i (nf v))) := by
  have hW := T.cW
  obtain ⟨⟨q1, q2, q3⟩, q4, ⟨q5, q6, q7, q8⟩, q9, q10, q11, q12, q13, q14⟩ := id W
  have hF := (q11 i.toNat (by omega)).2
  have ho := p4 i.toNat (by omega)
  have hrs : t + 3 ≠ ad i.toNat ∧ t + 3 ≠ ad i.toNat + 1 ∧ t + 3 ≠ ad i.toNat + 2 := by
    refine ⟨?_, ?_, ?_⟩
    · intro e; have := hF.2.2.1; rw [← e, q3] at this; cases this
    · intro e; have := hF.2.2.2.1; rw [← e, q3] at this; cases this
    · intro e; have := hF.2.2.2.2.1; rw [← e, q3] at this; cases this
  have hty : ∀ b, (hTy H b).1 = 200 → b ≠ ad i.toNat ∧ b ≠ ad i.toNat + 1 ∧ b ≠ ad i.toNat + 2 := fun b hb => by
    refine ⟨?_, ?_, ?_⟩
    · rintro rfl; rw [hF.2.2.1] at hb; cases hb
    · rintro rfl; rw [hF.2.2.2.1] at hb; cases hb
    · rintro rfl; rw [hF.2.2.2.2.1] at hb; cases hb
  have E : ExtR H o w (t + 3) (sF H (ad i.toNat) v) o w := by
    refine ⟨Nat.le_refl _, fun _ _ => ⟨rfl, rfl⟩, fun b hb hg => ⟨hI_sF_ne ?_ ?_ ?_, rfl⟩, fun b _ hb => hI_sF_ne (hty b hb).1 (hty b hb).2.1 (hty b hb).2.2, fun k _ => by rw [hI_sF_ne hrs.1 hrs.2.1 hrs.2.2], fun b h1 h2 => absurd h2 (Nat.not_lt.mpr h1), fun _ h => h, fun _ _ => rfl, rfl, Nat.le_refl _⟩
    · rintro rfl; exact hg ho.1
    · rintro rfl; exact hg ho.2.1
    · rintro rfl; exact hg ho.2.2
  have P : RowP (sF H (ad i.toNat) v) o w (t + 3) (setL (R 3) i (nf v)) := by
    refine ⟨p1, p2, arr, ad, ⟨⟨q1, q2, q3⟩, q4, ⟨q5, q6, q7, q8⟩, by rw [hI_sF_ne hrs.1 hrs.2.1 hrs.2.2, setL_len]; exact q9, by rw [setL_len]; exact q10, q11, q12, q13, fun k hk => ?_⟩, p3, p4⟩
    rw [setL_len] at hk
    rw [gt_setL (by omega) (by omega) h0]
    by_cases c : (k : Int) = i
    · rw [if_pos c, show k = i.toNat by omega, fV_sF]
    · rw [if_neg c, fV_sF_ne hF (q11 k (by omega)).2 (fun e => c (by have := q13 _ _ (by omega) (by omega) e; omega))]
      exact q14 k hk
  have X := T.row (n := 3) (by decide) (by decide) E P
  rw [setL_len, upX_same (show S 3 1 = ((R 3).length : Nat) from hW.1)] at X
  exact X
/-- a frame that comes to its hub -/
noncomputable def cAr (p : (Nat → Int → Int) × (Nat → List FV)) (v : FV) : (Nat → Int → Int) × (Nat → List FV) :=
  let g := cTgt p.1 (v 0)
  let sl := cSlt p.1 g (v 1) (cPer p.1 (v 0))
  cif (cLate p.1 g (v 0) sl) (upX p.1 (11 + 7 * g.toNat) 6 (wr (cH p.1 g 6 + 1)), p.2) (cif (cHas (kR p.2 g) sl v) (upX p.1 (11 + 7 * g.toNat) 7 (wr (cH p.1 g 7 + 1)), p.2) (upX p.1 (13 + 7 * g.toNat) 1 (((kR p.2 g).length : Nat) + 1), upR p.2 (13 + 7 * g.toNat) (insA (kR p.2 g) (cPlace (kR p.2 g) sl) (ups (ups v 2 sl) 3 (cT p.1 6)))))
theorem cAr_1 {p : (Nat → Int → Int) × (Nat → List FV)} {v : FV} {g sl : Int} (hg : g = cTgt p.1 (v 0)) (hs : sl = cSlt p.1 g (v 1) (cPer p.1 (v 0))) (h : cLate p.1 g (v 0) sl) : cAr p v = (upX p.1 (11 + 7 * g.toNat) 6 (wr (cH p.1 g 6 + 1)), p.2) := by
  subst hg; subst hs
  exact cif_t h
theorem cAr_2 {p : (Nat → Int → Int) × (Nat → List FV)} {v : FV} {g sl : Int} (hg : g = cTgt p.1 (v 0)) (hs : sl = cSlt p.1 g (v 1) (cPer p.1 (v 0))) (h : ¬ cLate p.1 g (v 0) sl) (h2 : cHas (kR p.2 g) sl v) : cAr p v = (upX p.1 (11 + 7 * g.toNat) 7 (wr (cH p.1 g 7 + 1)), p.2) := by
  subst hg; subst hs
  exact (cif_f h).trans (cif_t h2)
theorem cAr_3 {p : (Nat → Int → Int) × (Nat → List FV)} {v : FV} {g sl : Int} (hg : g = cTgt p.1 (v 0)) (hs : sl = cSlt p.1 g (v 1) (cPer p.1 (v 0))) (h : ¬ cLate p.1 g (v 0) sl) (h2 : ¬ cHas (kR p.2 g) sl v) : cAr p v = (upX p.1 (13 + 7 * g.toNat) 1 (((kR p.2 g).length : Nat) + 1), upR p.2 (13 + 7 * g.toNat) (insA (kR p.2 g) (cPlace (kR p.2 g) sl) (ups (ups v 2 sl) 3 (cT p.1 6)))) := by
  subst hg; subst hs
  exact (cif_f h).trans (cif_f h2)
theorem cAr_cT {p : (Nat → Int → Int) × (Nat → List FV)} {v : FV} : cT (cAr p v).1 = cT p.1 := by
  unfold cAr
  dsimp only
  rcases Classical.em (cLate p.1 (cTgt p.1 (v 0)) (v 0) (cSlt p.1 (cTgt p.1 (v 0)) (v 1) (cPer p.1 (v 0)))) with h | h
  · rw [cif_t h]; funext j; exact congrFun (upX_ne (by omega)) j
  · rw [cif_f h]
    rcases Classical.em (cHas (kR p.2 (cTgt p.1 (v 0))) (cSlt p.1 (cTgt p.1 (v 0)) (v 1) (cPer p.1 (v 0))) v) with h2 | h2
    · rw [cif_t h2]; funext j; exact congrFun (upX_ne (by omega)) j
    · rw [cif_f h2]; funext j; exact congrFun (upX_ne (by omega)) j
/-- after the first n frames of the way: those that are due have come -/
noncomputable def cDu (S : Nat → Int → Int) (R : Nat → List FV) (n : Int) : (Nat → Int → Int) × (Nat → List FV) := fI n (fun i p => cif (gt (R 3) i 3 ≤ cT S 6) (cAr p (gt (R 3) i)) p) (S, R)
/-- of the first n frames of the way those that stay on it -/
noncomputable def cRm (S : Nat → Int → Int) (L : List FV) (n : Int) : List FV := fI n (fun i M => cif (gt L i 3 ≤ cT S 6) M (M ++ [gt L i])) []
theorem cDu_0 {S : Nat → Int → Int} {R : Nat → List FV} : cDu S R 0 = (S, R) := fI_0
theorem cDu_succ {S : Nat → Int → Int} {R : Nat → List FV} {n : Int} (hn : 0 ≤ n) : cDu S R (n + 1) = cif (gt (R 3) n 3 ≤ cT S 6) (cAr (cDu S R n) (gt (R 3) n)) (cDu S R n) := by
  unfold cDu
  rw [fI_succ hn]
theorem cRm_succ {S : Nat → Int → Int} {L : List FV} {n : Int} (hn : 0 ≤ n) : cRm S L (n + 1) = cif (gt L n 3 ≤ cT S 6) (cRm S L n) (cRm S L n ++ [gt L n]) := by
  unfold cRm
  rw [fI_succ hn]
theorem cDu_cT {S : Nat → Int → Int} {R : Nat → List FV} : ∀ n : Nat, cT (cDu S R n).1 = cT S
  | 0 => by rw [show ((0 : Nat) : Int) = 0 by rfl, cDu_0]
  | n + 1 => by
    rw [show ((n + 1 : Nat) : Int) = (n : Int) + 1 by omega, cDu_succ (by omega)]
    rcases Classical.em (gt (R 3) n 3 ≤ cT S 6) with h | h
    · rw [cif_t h, cAr_cT]; exact cDu_cT n
    · rw [cif_f h]; exact cDu_cT n
theorem gt_app {L M : List FV} {k : Int} (h0 : 0 ≤ k) (h1 : k < (L.length : Nat)) : gt (L ++ M) k = gt L k := by
  unfold gt
  rw [List.getD_eq_getElem?_getD, List.getD_eq_getElem?_getD, List.getElem?_append_left (by omega)]
theorem gt_last {L : List FV} {v : FV} : gt (L ++ [v]) (L.length : Nat) = v := by
  unfold gt
  rw [Int.toNat_natCast, List.getD_eq_getElem?_getD, List.getElem?_append_right (Nat.le_refl _)]
  simp
/-- the frames that are due come -/
noncomputable def cBr (S : Nat → Int → Int) (R : Nat → List FV) : (Nat → Int → Int) × (Nat → List FV) := (upX (cDu S R ((R 3).length : Nat)).1 3 1 ((cRm S (R 3) ((R 3).length : Nat)).length : Nat), upR (cDu S R ((R 3).length : Nat)).2 3 (cRm S (R 3) ((R 3).length : Nat)))
/-- what a frame that is due must keep to -/
def DuOK (S : Nat → Int → Int) (R : Nat → List FV) : Prop := ∀ i : Int, 0 ≤ i → i < ((R 3).length : Nat) → CI (cDu S R i).1 ∧ (∀ m, m ≠ 3 → (cDu S R i).2 m = (cDu S R i).2 m) ∧ (gt (R 3) i 3 ≤ cT S 6 → cFrom_ok (cDu S R i).1 (gt (R 3) i 0) ∧ (0 ≤ gt (R 3) i 1 ∧ gt (R 3) i 1 ≤ 50000) ∧ ∀ g : Int, 0 ≤ g → g < 5 → (kR (cDu S R i).2 g).length < 1024)
set_option maxRecDepth 20000 in
theorem lp_T_bring {d : Nat} {h : HP} {t : Nat} {o : Nat → Nat} {w : Nat → Nat × Nat} {S : Nat → Int → Int} {R : Nat → List FV} (hd : DuOK S R) {Q : HP → Prop} (K : ∀ H' o' w', ExtT h o w t H' o' w' → TR t H' o' w' (cBr S R).1 (cBr S R).2 → Q H') (k : Nat) : ∀ (i : Int) (l : Int) (H : HP) (o1 : Nat → Nat) (w1 : Nat → Nat × Nat) (R1 : Nat → List FV), (((R 3).length : Nat) - i).toNat < k → (0 ≤ i ∧ i ≤ ((R 3).length : Nat)) → (l = ((cRm S (R 3) i).length : Nat) ∧ l ≤ i) → (ExtT h o w t H o1 w1) → (TR t H o1 w1 (cDu S R i).1 R1) → (∀ m, m ≠ 3 → R1 m = (cDu S R i).2 m) → ((R1 3).length = (R 3).length) → (∀ j, 0 ≤ j → j < l → gt (R1 3) j = gt (cRm S (R 3) i) j) → (∀ j, i ≤ j → j < ((R 3).length : Nat) → gt (R1 3) j = gt (R 3) j) → At (d + 4) 135 4 [some (.inr (some t)), some (.inl l), some (.inl i)] [] H (fun v h' => v = none ∧ Q h') := by
  have hC : cod 135 = c_T_bringDueFrames := rfl
  induction k with
  | zero =>
    intro i l H o1 w1 R1 hk
    exact absurd hk (Nat.not_lt_zero _)
  | succ k ih =>
    intro i l H o1 w1 R1 hk hI0 hI1 hI2 hI3 hI4 hI5 hI6 hI7
    have hK := hI3.1
    have hS := hI3.2.2.1
    obtain ⟨p1, p2, arr, ad, W, p3, p4⟩ := hI3.way
    have hl := W.len
    obtain ⟨n, hn⟩ := Int.eq_ofNat_of_zero_le hI0.1
    have hct := cDu_cT (S := S) (R := R) n
    rw [← hn] at hct
    have hsu := cDu_succ (S := S) (R := R) hI0.1
    have hsm := cRm_succ (S := S) (L := R 3) hI0.1
    have hdi := hd i hI0.1
    refine x_1 (p' := 5) hC rfl rfl rfl rfl ?_
    refine x_1 (p' := 6) hC rfl rfl rfl rfl ?_
    refine z_tr (p' := 7) (n := 3) hK hC rfl rfl rfl rfl ?_
    refine z_rs (p' := 8) W hC rfl rfl ?_
    refine x_icge (p' := 9) hC rfl rfl (fun c8 => ?_) (fun c8 => ?_)
    · refine x_1 (p' := 35) hC rfl rfl rfl rfl ?_
      refine z_tr (p' := 36) (n := 3) hK hC rfl rfl rfl rfl ?_
      refine x_1 (p' := 37) hC rfl rfl rfl rfl ?_
      refine x_putI (p' := 38) hC rfl rfl rfl hK.wty (by have := hK.1; omega) ?_
      have hcut := hI3.way.cut (k := l.toNat) (by omega)
      rw [show ((l.toNat : Nat) : Int) = l by omega] at hcut
      have TC := hI3.row (n := 3) (by decide) (by decide) hcut.1 hcut.2
      refine x_ret hC rfl rfl rfl ⟨rfl, ?_⟩
      refine K _ _ _ (hI2.trans TC.1) ?_
      unfold cBr
      have hin : i = ((R 3).length : Nat) := by omega
      rw [← hin]
      have hLL : (R1 3).take l.toNat = cRm S (R 3) i := by
        refine list_ext_gt (by rw [List.length_take]; omega) (fun j hj => ?_)
        rw [List.length_take] at hj
        rw [gt_take (by omega)]
        exact hI6 j (by omega) (by omega)
      rw [hLL] at TC
      rw [show upR (cDu S R i).2 3 (cRm S (R 3) i) = upR R1 3 (cRm S (R 3) i) by
        funext m
        by_cases hm : m = 3
        · rw [hm, upR_eq, upR_eq]
        · rw [upR_ne hm, upR_ne hm, hI4 m hm]]
      exact TC.2
    · refine x_1 (p' := 10) hC rfl rfl rfl rfl ?_
      refine z_tr (p' := 11) (n := 3) hK hC rfl rfl rfl rfl ?_
      refine z_rf (p' := 12) W hC rfl rfl ?_
      refine x_1 (p' := 13) hC rfl rfl rfl rfl ?_
      refine z_ra (p' := 14) W hC rfl rfl rfl (by omega) (by omega) (fun hF13 hV13 => ?_)
      refine z_fg (p' := 15) (kz := 3) hF13 hV13 hC rfl rfl rfl rfl ?_
      rw [hI7 i (Int.le_refl _) (by omega)]
      refine x_1 (p' := 16) hC rfl rfl rfl rfl ?_
      refine z_ti (p' := 17) (kz := 6) hK hS hC rfl rfl rfl rfl ?_
      rw [hct]
      refine x_icgt (p' := 18) hC rfl rfl (fun c17 => ?_) (fun c17 => ?_)
      · rw [cif_f (by omega)] at hsu
        rw [cif_f (by omega)] at hsm
        refine x_1 (p' := 27) hC rfl rfl rfl rfl ?_
        refine z_tr (p' := 28) (n := 3) hK hC rfl rfl rfl rfl ?_
        refine x_1 (p' := 29) hC rfl rfl rfl rfl ?_
        refine x_1 (p' := 30) hC rfl rfl rfl rfl ?_
        refine x_cVV2 (p' := 31) (n := 92) hC rfl rfl rfl rfl rfl (hK.wty) ?_
        refine sp_R_swap hI3.way (by omega) (by omega) (fun H2 E2 P2 => ?_)
        have TS := hI3.row (n := 3) (by decide) (by decide) E2 P2
        rw [swp_len, upX_same (show (cDu S R i).1 3 1 = ((R1 3).length : Nat) from hI3.cW.1)] at TS
        refine x_inc1 (p' := 32) hC rfl rfl (⟨by omega, by omega⟩) ?_
        refine x_inc2 (p' := 33) hC rfl rfl (⟨by omega, by omega⟩) ?_
        refine x_1 (p' := 4) hC rfl rfl rfl rfl ?_
        refine ih _ _ _ _ _ _ (by omega) (by omega) ⟨by rw [hsm, List.length_append]; show l + 1 = _; rw [hI1.1]; simp, by omega⟩ (hI2.trans TS.1) (by rw [hsu]; exact TS.2) (fun m hm => ?_) ?_ (fun j h0 h1 => ?_) (fun j h0 h1 => ?_)
        · rw [hsu, upR_ne hm]; exact hI4 m hm
        · rw [upR_eq, swp_len]; exact hI5
        · rw [upR_eq, gt_swp (by omega) (by omega), hsm]
          by_cases hji : j = l
          · rw [show gt (cRm S (R 3) i ++ [gt (R 3) i]) j = gt (R 3) i by rw [hji, hI1.1]; exact gt_last]
            by_cases hli : j = i
            · rw [if_pos hli, hji.symm, hli]; exact hI7 i (Int.le_refl _) (by omega)
            · rw [if_neg hli, if_pos hji]; exact hI7 i (Int.le_refl _) (by omega)
          · rw [gt_app h0 (by omega), if_neg (by omega), if_neg hji]
            exact hI6 j h0 (by omega)
        · rw [upR_eq, gt_swp (by omega) (by omega), if_neg (by omega), if_neg (by omega)]; exact hI7 j (by omega) h1
      · rw [cif_t (by omega)] at hsu
        rw [cif_t (by omega)] at hsm
        obtain ⟨hci, _, hdu⟩ := hdi (by omega)
        obtain ⟨hok, hst, hlen⟩ := hdu (by omega)
        refine x_1 (p' := 19) hC rfl rfl rfl rfl ?_
        refine x_1 (p' := 20) hC rfl rfl rfl rfl ?_
        refine z_tr (p' := 21) (n := 3) hK hC rfl rfl rfl rfl ?_
        refine z_rf (p' := 22) W hC rfl rfl ?_
        refine x_1 (p' := 23) hC rfl rfl rfl rfl ?_
        refine z_ra (p' := 24) W hC rfl rfl rfl (by omega) (by omega) (fun hF23 hV23 => ?_)
        refine x_cVV1 (p' := 25) (n := 136) hC rfl rfl rfl rfl rfl (hK.ty) ?_
        have hv23 : fV H (ad i.toNat) = gt (R 3) i := hV23.trans (hI7 i (Int.le_refl _) (by omega))
        have hkR : ∀ g : Int, 0 ≤ g → g < 5 → kR R1 g = kR (cDu S R i).2 g := fun g h0 h1 => hI4 _ (by omega)
        have hgr := cTgt_rng hci hok
        generalize hgd : cTgt (cDu S R i).1 (gt (R 3) i 0) = g at hgr
        generalize hsd : cSlt (cDu S R i).1 g (gt (R 3) i 1) (cPer (cDu S R i).1 (gt (R 3) i 0)) = sl
        have h4 := hci.1
        have hfin : ∀ R2 : Nat → List FV, (∀ m, m ≠ 3 → R2 m = (cDu S R (i + 1)).2 m) → (R2 3).length = (R 3).length → (∀ j : Int, 0 ≤ j → j < ((R 3).length : Nat) → j ≠ i → gt (R2 3) j = gt (R1 3) j) → ∀ H2 o2 w2, ExtT H o1 w1 t H2 o2 w2 → TR t H2 o2 w2 (cDu S R (i + 1)).1 R2 → At (d + 3 + 1) 135 25 [some (.inr (some t)), some (.inl l), some (.inl i)] [] H2 (fun v h' => v = none ∧ Q h') := by
          intro R2 hA hB hD H2 o2 w2 E2 T2
          refine x_1 (p' := 32) hC rfl rfl rfl rfl ?_
          refine x_inc2 (p' := 33) hC rfl rfl ⟨by omega, by omega⟩ ?_
          refine x_1 (p' := 4) hC rfl rfl rfl rfl ?_
          refine ih _ _ _ _ _ R2 (by omega) (by omega) ⟨by rw [hsm]; exact hI1.1, by omega⟩ (hI2.trans E2) T2 hA hB (fun j h0 h1 => ?_) (fun j h0 h1 => ?_)
          · rw [hsm, hD j h0 (by omega) (by omega)]; exact hI6 j h0 h1
          · rw [hD j (by omega) h1 (by omega)]; exact hI7 j (by omega) h1
        refine sp_T_arrive hI3 hci hF23 hv23 (SW := fun _ => (cDu S R i).1) (RW := fun v => upR R1 3 (setL (R1 3) i (nf v))) (fun v => hI3.wayfr p1 p2 W p3 p4 hI0.1 (by omega) v) (fun _ => SR.refl) (fun v g h0 h1 => upR_ne (by omega)) hok hst (fun g h0 h1 => ?_) (fun g h0 h1 => by rw [hkR g h0 h1]; exact hlen g h0 h1) hgd.symm hsd.symm (fun c1 H2 E2 T2 => ?_) (fun c1 c2 H2 E2 T2 => ?_) (fun c1 c2 H2 o2 w2 E2 T2 => ?_)
        · have ho := p4 i.toNat (by have := W.2.2.2.2.1; omega)
          rw [ho.1, ho.2.1, ho.2.2]
          omega
        · rw [cAr_1 hgd.symm hsd.symm c1] at hsu
          refine hfin R1 (fun m hm => ?_) hI5 (fun _ _ _ _ => rfl) _ _ _ E2 ?_
          · rw [hsu]; exact hI4 m hm
          · rw [hsu]; exact T2
        · rw [hkR g hgr.1 (by omega)] at c2
          rw [cAr_2 hgd.symm hsd.symm c1 c2] at hsu
          refine hfin R1 (fun m hm => ?_) hI5 (fun _ _ _ _ => rfl) _ _ _ E2 ?_
          · rw [hsu]; exact hI4 m hm
          · rw [hsu]; exact T2
        · rw [hkR g hgr.1 (by omega)] at c2 T2
          rw [cAr_3 hgd.symm hsd.symm c1 c2] at hsu
          refine hfin _ (fun m hm => ?_) ?_ (fun j h0 h1 h2 => ?_) _ _ _ E2 (by rw [hsu]; exact T2)
          · rw [hsu]
            dsimp only
            by_cases hmg : m = 13 + 7 * g.toNat
            · rw [hmg, upR_eq, upR_eq]
            · rw [upR_ne hmg, upR_ne hmg, upR_ne hm]; exact hI4 m hm
          · rw [upR_ne (by omega), upR_eq, setL_len]; exact hI5
          · rw [upR_ne (by omega), upR_eq, gt_setL h0 (by omega) hI0.1, if_neg h2]
        
set_option maxRecDepth 20000 in
set_option maxHeartbeats 2000000 in
theorem sp_T_bringDueFrames {d : Nat} {h : HP} {t : Nat} {o : Nat → Nat} {w : Nat → Nat × Nat} {S : Nat → Int → Int} {R : Nat → List FV} (T : TR t h o w S R) (hd : DuOK S R) {Q : HP → Prop} (K : ∀ H' o' w', ExtT h o w t H' o' w' → TR t H' o' w' (cBr S R).1 (cBr S R).2 → Q H') : CaV (d + 4) 135 [.inr (some t)] h Q := by
  have hC : cod 135 = c_T_bringDueFrames := rfl
  refine CaV.start rfl ?_
  refine x_1 (p' := 1) hC rfl rfl rfl rfl ?_
  refine x_stI1 (p' := 2) hC rfl rfl rfl ?_
  refine x_1 (p' := 3) hC rfl rfl rfl rfl ?_
  refine x_stI2 (p' := 4) hC rfl rfl rfl ?_
  refine lp_T_bring hd K _ 0 0 _ o w R (Nat.lt_succ_self _) (by omega) ⟨rfl, Int.le_refl _⟩ ExtT.refl (by rw [cDu_0]; exact T) (fun m _ => by rw [cDu_0]) rfl (fun j h0 h1 => absurd h1 (by omega)) (fun _ _ _ => rfl)

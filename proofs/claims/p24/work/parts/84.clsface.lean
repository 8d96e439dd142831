/-! THE CLASS: its face, the tree -/
theorem cJoin_0 {S : Nat → Int → Int} {a p z : Int} (h : cJoin S a p z = 0) : cHub S a ∧ (1 ≤ p ∧ p ≤ 20) ∧ rGo p (cSe S a 4) ∧ ¬ z = 0 := by
  unfold cJoin at h
  split at h
  · exact absurd h (by decide)
  · rename_i q1
    split at h
    · exact absurd h (by decide)
    · rename_i q2
      split at h
      · exact absurd h (by decide)
      · rename_i q3
        exact ⟨by omega, by omega, Classical.not_not.mp q2, q3⟩
theorem cRet_0 {S : Nat → Int → Int} {u : Int} (h : cRet S u = 0) : cUnit S u ∧ cU S u 2 = 0 := by
  unfold cRet at h
  split at h
  · exact absurd h (by decide)
  · split at h
    · exact ⟨by omega, by assumption⟩
    · exact absurd h (by decide)
theorem cSetE_0 {S : Nat → Int → Int} {g w v : Int} (h : cSetE S g w v = 0) : cHub S g ∧ (0 ≤ w ∧ w ≤ 4) ∧ ((if w = 4 then 1 else 0) ≤ v ∧ v ≤ sMax w) ∧ (w = 4 → cCanN S g v 15) := by
  unfold cSetE at h
  rcases Classical.em (cHub S g ∧ (0 ≤ w ∧ w ≤ 4) ∧ (if w = 4 then 1 else 0) ≤ v ∧ v ≤ sMax w) with q | q
  · rw [if_neg (fun z => z q)] at h
    rcases Classical.em (w = 4 → cCanN S g v 15) with c | c
    · exact ⟨q.1, q.2.1, q.2.2, c⟩
    · rw [cif_f c] at h; exact absurd h (by decide)
  · rw [if_pos q] at h; exact absurd h (by decide)
theorem cDep_0 {S : Nat → Int → Int} {u st v fl tk : Int} (h : cDep S u st v fl tk = 0) : (cUnit S u ∧ (0 ≤ st ∧ st ≤ 20000) ∧ (-100000 ≤ v ∧ v ≤ 100000) ∧ (0 ≤ fl ∧ fl ≤ 15) ∧ 1 ≤ tk ∧ tk ≤ 60) ∧ (cU S u 2 = 0 ∧ st % cU S u 1 = 0 ∧ st ≤ cT S 6) ∧ cW S < 40 := by
  unfold cDep at h
  split at h
  · exact absurd h (by decide)
  · rename_i q1
    split at h
    · exact absurd h (by decide)
    · rename_i q2
      split at h
      · exact ⟨Classical.not_not.mp q1, Classical.not_not.mp q2, by assumption⟩
      · exact absurd h (by decide)
theorem cEla_0 {S : Nat → Int → Int} {n : Int} (h : cEla S n = 0) : (1 ≤ n ∧ n ≤ 100) ∧ cT S 6 + n ≤ 20000 := by
  unfold cEla at h
  split at h
  · exact absurd h (by decide)
  · rename_i q1
    split at h
    · exact ⟨Classical.not_not.mp q1, by assumption⟩
    · exact absurd h (by decide)
set_option maxRecDepth 20000 in
set_option maxHeartbeats 2000000 in
theorem sp_P_hub {d : Nat} {h : HP} {o : Nat → Nat} {w : Nat → Nat × Nat} {tr : Nat → Nat} {S : Nat → Nat → Int → Int} {R : Nat → Nat → List FV} {st : Int} {U0 : Nat} (G : GP U0 h o w tr S R st) (hc : CI (S 4)) (h7 : 0 ≤ cT (S 4) 7) (hb : ∀ u : Int, 0 ≤ u → u < cT (S 4) 5 → 0 ≤ cU (S 4) u 2 ∧ cU (S 4) u 2 ≤ 1) (hd : ∀ g : Int, 0 ≤ g → g < cT (S 4) 4 → 0 ≤ cH (S 4) g 4 ∧ cH (S 4) g 4 ≤ 100) {a p : Int} {Q : Int → HP → Prop} (K1 : ¬ (cJoin (S 4) a p (if cT (S 4) 4 < 5 then 1 else 0)) = 0 → Q (cJoin (S 4) a p (if cT (S 4) 4 < 5 then 1 else 0)) h) (K2 : (cJoin (S 4) a p (if cT (S 4) 4 < 5 then 1 else 0)) = 0 → ∀ H o' w' tr' S' R' st', GP U0 H o' w' tr' (upG S' 4 (upX (cHb (S 4) (cT (S 4) 4) a (cH (S 4) a 4 + 1) p) 0 4 (cT (S 4) 4 + 1))) (upG R' 4 (upR (R 4) (13 + 7 * (cT (S 4) 4).toNat) [])) st' → CK h H → RemP st S R S' R' st' → Q (cT (S 4) 4) H) : CaI (d + 7) 165 [.inr (some 3), .inl a, .inl p] h Q := by
  have hC : cod 165 = c_P_hub := rfl
  refine CaI.start rfl ?_
  obtain ⟨g3, g4, r0, r1, r2, r3, gs, gst, gh⟩ := G.face
  have T4 := G.T (show 4 < 6 by decide)
  have hK := T4.1
  have hS := T4.2.2.1
  refine x_1 (p' := 1) hC rfl rfl rfl rfl ?_
  refine x_getR (p' := 2) hC rfl rfl rfl g3 r2 ?_
  refine x_1 (p' := 3) hC rfl rfl rfl rfl ?_
  refine x_1 (p' := 4) hC rfl rfl rfl rfl ?_
  refine x_1 (p' := 5) hC rfl rfl rfl rfl ?_
  refine x_getR (p' := 6) hC rfl rfl rfl g3 r2 ?_
  refine z_ti (p' := 7) (kz := 4) hK hS hC rfl rfl rfl rfl ?_
  refine x_1 (p' := 8) hC rfl rfl rfl rfl ?_
  refine x_icge (p' := 9) hC rfl rfl (fun c8 => ?_) (fun c8 => ?_)
  · have ez : (if cT (S 4) 4 < 5 then (1 : Int) else 0) = 0 := if_neg (by omega)
    rw [ez] at K1 K2
    refine x_1 (p' := 12) hC rfl rfl rfl rfl ?_
    refine x_cIV3 (p' := 13) (n := 113) hC rfl rfl rfl rfl rfl (hK.ty) ?_
    refine sp_T_joinError hK hS hc ?_
    refine x_stI3 (p' := 14) hC rfl rfl rfl ?_
    refine x_1 (p' := 15) hC rfl rfl rfl rfl ?_
    refine x_ifeq (p' := 16) hC rfl rfl (fun c15 => ?_) (fun c15 => ?_)
    · have hj0 := cJoin_0 c15
      refine x_1 (p' := 19) hC rfl rfl rfl rfl ?_
      refine x_cVV0 (p' := 20) (n := 186) hC rfl rfl rfl rfl rfl (g3) ?_
      refine sp_P_remember G (by have := hc.1; omega) hc.2.1 h7 hb (fun H1 o1 w1 tr1 S1 R1 st1 G1 C1 hrm t41 t51 => ?_)
      have hrm2 := hrm
      obtain ⟨n1, hn1, hn2, hn3, ⟨es4, er4, es5, er5⟩, hrest⟩ := hrm2
      obtain ⟨g3, g4, r0, r1, r2, r3, gs, gst, gh⟩ := G1.face
      have T4 := G1.T (show 4 < 6 by decide)
      rw [es4, er4] at T4
      have hK := T4.1
      have hS := T4.2.2.1
      refine x_1 (p' := 21) hC rfl rfl rfl rfl ?_
      refine x_getR (p' := 22) hC rfl rfl rfl g3 r2 ?_
      refine x_1 (p' := 23) hC rfl rfl rfl rfl ?_
      refine x_1 (p' := 24) hC rfl rfl rfl rfl ?_
      refine x_cIV2 (p' := 25) (n := 114) hC rfl rfl rfl rfl rfl (hK.ty) ?_
      have hda := hd a (by omega) (by omega)
      refine sp_T_addHub T4 (by have := hc.1; omega) (by have := hc.1; omega) (by omega) (fun H2 E2 T2 => ?_)
      refine x_iret hC rfl rfl rfl ⟨_, rfl, ?_⟩
      exact K2 c15 _ _ _ _ _ _ _ (G1.tree (show 4 < 6 by decide) E2 T2) (C1.trans (G1.ck (show 4 < 6 by decide) E2)) hrm
    · refine x_1 (p' := 17) hC rfl rfl rfl rfl ?_
      refine x_iret hC rfl rfl rfl ⟨_, rfl, ?_⟩
      exact K1 c15
  · have ez : (if cT (S 4) 4 < 5 then (1 : Int) else 0) = 1 := if_pos (by omega)
    rw [ez] at K1 K2
    refine x_1 (p' := 10) hC rfl rfl rfl rfl ?_
    refine x_1 (p' := 12) hC rfl rfl rfl rfl ?_
    refine x_cIV3 (p' := 13) (n := 113) hC rfl rfl rfl rfl rfl (hK.ty) ?_
    refine sp_T_joinError hK hS hc ?_
    refine x_stI3 (p' := 14) hC rfl rfl rfl ?_
    refine x_1 (p' := 15) hC rfl rfl rfl rfl ?_
    refine x_ifeq (p' := 16) hC rfl rfl (fun c15 => ?_) (fun c15 => ?_)
    · have hj0 := cJoin_0 c15
      refine x_1 (p' := 19) hC rfl rfl rfl rfl ?_
      refine x_cVV0 (p' := 20) (n := 186) hC rfl rfl rfl rfl rfl (g3) ?_
      refine sp_P_remember G (by have := hc.1; omega) hc.2.1 h7 hb (fun H1 o1 w1 tr1 S1 R1 st1 G1 C1 hrm t41 t51 => ?_)
      have hrm2 := hrm
      obtain ⟨n1, hn1, hn2, hn3, ⟨es4, er4, es5, er5⟩, hrest⟩ := hrm2
      obtain ⟨g3, g4, r0, r1, r2, r3, gs, gst, gh⟩ := G1.face
      have T4 := G1.T (show 4 < 6 by decide)
      rw [es4, er4] at T4
      have hK := T4.1
      have hS := T4.2.2.1
      refine x_1 (p' := 21) hC rfl rfl rfl rfl ?_
      refine x_getR (p' := 22) hC rfl rfl rfl g3 r2 ?_
      refine x_1 (p' := 23) hC rfl rfl rfl rfl ?_
      refine x_1 (p' := 24) hC rfl rfl rfl rfl ?_
      refine x_cIV2 (p' := 25) (n := 114) hC rfl rfl rfl rfl rfl (hK.ty) ?_
      have hda := hd a (by omega) (by omega)
      refine sp_T_addHub T4 (by have := hc.1; omega) (by have := hc.1; omega) (by omega) (fun H2 E2 T2 => ?_)
      refine x_iret hC rfl rfl rfl ⟨_, rfl, ?_⟩
      exact K2 c15 _ _ _ _ _ _ _ (G1.tree (show 4 < 6 by decide) E2 T2) (C1.trans (G1.ck (show 4 < 6 by decide) E2)) hrm
    · refine x_1 (p' := 17) hC rfl rfl rfl rfl ?_
      refine x_iret hC rfl rfl rfl ⟨_, rfl, ?_⟩
      exact K1 c15
set_option maxRecDepth 20000 in
set_option maxHeartbeats 2000000 in
theorem sp_P_unit {d : Nat} {h : HP} {o : Nat → Nat} {w : Nat → Nat × Nat} {tr : Nat → Nat} {S : Nat → Nat → Int → Int} {R : Nat → Nat → List FV} {st : Int} {U0 : Nat} (G : GP U0 h o w tr S R st) (hc : CI (S 4)) (h7 : 0 ≤ cT (S 4) 7) (hb : ∀ u : Int, 0 ≤ u → u < cT (S 4) 5 → 0 ≤ cU (S 4) u 2 ∧ cU (S 4) u 2 ≤ 1) (hd : ∀ g : Int, 0 ≤ g → g < cT (S 4) 4 → 0 ≤ cH (S 4) g 4 ∧ cH (S 4) g 4 ≤ 100) {a p : Int} {Q : Int → HP → Prop} (K1 : ¬ (cJoin (S 4) a p (if cT (S 4) 5 < 10 then 1 else 0)) = 0 → Q (cJoin (S 4) a p (if cT (S 4) 5 < 10 then 1 else 0)) h) (K2 : (cJoin (S 4) a p (if cT (S 4) 5 < 10 then 1 else 0)) = 0 → ∀ H o' w' tr' S' R' st', GP U0 H o' w' tr' (upG S' 4 (upX (cUb (S 4) (cT (S 4) 5) a p) 0 5 (cT (S 4) 5 + 1))) (upG R' 4 (R 4)) st' → CK h H → RemP st S R S' R' st' → Q (cT (S 4) 5) H) : CaI (d + 7) 166 [.inr (some 3), .inl a, .inl p] h Q := by
  have hC : cod 166 = c_P_unit := rfl
  refine CaI.start rfl ?_
  obtain ⟨g3, g4, r0, r1, r2, r3, gs, gst, gh⟩ := G.face
  have T4 := G.T (show 4 < 6 by decide)
  have hK := T4.1
  have hS := T4.2.2.1
  refine x_1 (p' := 1) hC rfl rfl rfl rfl ?_
  refine x_getR (p' := 2) hC rfl rfl rfl g3 r2 ?_
  refine x_1 (p' := 3) hC rfl rfl rfl rfl ?_
  refine x_1 (p' := 4) hC rfl rfl rfl rfl ?_
  refine x_1 (p' := 5) hC rfl rfl rfl rfl ?_
  refine x_getR (p' := 6) hC rfl rfl rfl g3 r2 ?_
  refine z_ti (p' := 7) (kz := 5) hK hS hC rfl rfl rfl rfl ?_
  refine x_1 (p' := 8) hC rfl rfl rfl rfl ?_
  refine x_icge (p' := 9) hC rfl rfl (fun c8 => ?_) (fun c8 => ?_)
  · have ez : (if cT (S 4) 5 < 10 then (1 : Int) else 0) = 0 := if_neg (by omega)
    rw [ez] at K1 K2
    refine x_1 (p' := 12) hC rfl rfl rfl rfl ?_
    refine x_cIV3 (p' := 13) (n := 113) hC rfl rfl rfl rfl rfl (hK.ty) ?_
    refine sp_T_joinError hK hS hc ?_
    refine x_stI3 (p' := 14) hC rfl rfl rfl ?_
    refine x_1 (p' := 15) hC rfl rfl rfl rfl ?_
    refine x_ifeq (p' := 16) hC rfl rfl (fun c15 => ?_) (fun c15 => ?_)
    · have hj0 := cJoin_0 c15
      refine x_1 (p' := 19) hC rfl rfl rfl rfl ?_
      refine x_cVV0 (p' := 20) (n := 186) hC rfl rfl rfl rfl rfl (g3) ?_
      refine sp_P_remember G (by have := hc.1; omega) hc.2.1 h7 hb (fun H1 o1 w1 tr1 S1 R1 st1 G1 C1 hrm t41 t51 => ?_)
      have hrm2 := hrm
      obtain ⟨n1, hn1, hn2, hn3, ⟨es4, er4, es5, er5⟩, hrest⟩ := hrm2
      obtain ⟨g3, g4, r0, r1, r2, r3, gs, gst, gh⟩ := G1.face
      have T4 := G1.T (show 4 < 6 by decide)
      rw [es4, er4] at T4
      have hK := T4.1
      have hS := T4.2.2.1
      refine x_1 (p' := 21) hC rfl rfl rfl rfl ?_
      refine x_getR (p' := 22) hC rfl rfl rfl g3 r2 ?_
      refine x_1 (p' := 23) hC rfl rfl rfl rfl ?_
      refine x_1 (p' := 24) hC rfl rfl rfl rfl ?_
      refine x_cIV2 (p' := 25) (n := 115) hC rfl rfl rfl rfl rfl (hK.ty) ?_
      refine sp_T_addUnit T4 (by have := hc.2.1; omega) (fun H2 E2 T2 => ?_)
      refine x_iret hC rfl rfl rfl ⟨_, rfl, ?_⟩
      exact K2 c15 _ _ _ _ _ _ _ (G1.tree (show 4 < 6 by decide) E2 T2) (C1.trans (G1.ck (show 4 < 6 by decide) E2)) hrm
    · refine x_1 (p' := 17) hC rfl rfl rfl rfl ?_
      refine x_iret hC rfl rfl rfl ⟨_, rfl, ?_⟩
      exact K1 c15
  · have ez : (if cT (S 4) 5 < 10 then (1 : Int) else 0) = 1 := if_pos (by omega)
    rw [ez] at K1 K2
    refine x_1 (p' := 10) hC rfl rfl rfl rfl ?_
    refine x_1 (p' := 12) hC rfl rfl rfl rfl ?_
    refine x_cIV3 (p' := 13) (n := 113) hC rfl rfl rfl rfl rfl (hK.ty) ?_
    refine sp_T_joinError hK hS hc ?_
    refine x_stI3 (p' := 14) hC rfl rfl rfl ?_
    refine x_1 (p' := 15) hC rfl rfl rfl rfl ?_
    refine x_ifeq (p' := 16) hC rfl rfl (fun c15 => ?_) (fun c15 => ?_)
    · have hj0 := cJoin_0 c15
      refine x_1 (p' := 19) hC rfl rfl rfl rfl ?_
      refine x_cVV0 (p' := 20) (n := 186) hC rfl rfl rfl rfl rfl (g3) ?_
      refine sp_P_remember G (by have := hc.1; omega) hc.2.1 h7 hb (fun H1 o1 w1 tr1 S1 R1 st1 G1 C1 hrm t41 t51 => ?_)
      have hrm2 := hrm
      obtain ⟨n1, hn1, hn2, hn3, ⟨es4, er4, es5, er5⟩, hrest⟩ := hrm2
      obtain ⟨g3, g4, r0, r1, r2, r3, gs, gst, gh⟩ := G1.face
      have T4 := G1.T (show 4 < 6 by decide)
      rw [es4, er4] at T4
      have hK := T4.1
      have hS := T4.2.2.1
      refine x_1 (p' := 21) hC rfl rfl rfl rfl ?_
      refine x_getR (p' := 22) hC rfl rfl rfl g3 r2 ?_
      refine x_1 (p' := 23) hC rfl rfl rfl rfl ?_
      refine x_1 (p' := 24) hC rfl rfl rfl rfl ?_
      refine x_cIV2 (p' := 25) (n := 115) hC rfl rfl rfl rfl rfl (hK.ty) ?_
      refine sp_T_addUnit T4 (by have := hc.2.1; omega) (fun H2 E2 T2 => ?_)
      refine x_iret hC rfl rfl rfl ⟨_, rfl, ?_⟩
      exact K2 c15 _ _ _ _ _ _ _ (G1.tree (show 4 < 6 by decide) E2 T2) (C1.trans (G1.ck (show 4 < 6 by decide) E2)) hrm
    · refine x_1 (p' := 17) hC rfl rfl rfl rfl ?_
      refine x_iret hC rfl rfl rfl ⟨_, rfl, ?_⟩
      exact K1 c15
set_option maxRecDepth 20000 in
set_option maxHeartbeats 2000000 in
theorem sp_P_takeOff {d : Nat} {h : HP} {o : Nat → Nat} {w : Nat → Nat × Nat} {tr : Nat → Nat} {S : Nat → Nat → Int → Int} {R : Nat → Nat → List FV} {st : Int} {U0 : Nat} (G : GP U0 h o w tr S R st) (hc : CI (S 4)) (h7 : 0 ≤ cT (S 4) 7) (hb : ∀ u : Int, 0 ≤ u → u < cT (S 4) 5 → 0 ≤ cU (S 4) u 2 ∧ cU (S 4) u 2 ≤ 1) {u : Int} {Q : Int → HP → Prop} (K1 : ¬ cRet (S 4) u = 0 → Q (cRet (S 4) u) h) (K2 : cRet (S 4) u = 0 → ∀ H o' w' tr' S' R' st', GP U0 H o' w' tr' (upG S' 4 (upX (S 4) (46 + u.toNat) 2 1)) (upG R' 4 (R 4)) st' → CK h H → RemP st S R S' R' st' → Q (cUnder (upX (S 4) (46 + u.toNat) 2 1) 0) H) : CaI (d + 7) 167 [.inr (some 3), .inl u] h Q := by
  have hC : cod 167 = c_P_takeOff := rfl
  refine CaI.start rfl ?_
  obtain ⟨g3, g4, r0, r1, r2, r3, gs, gst, gh⟩ := G.face
  have T4 := G.T (show 4 < 6 by decide)
  have hK := T4.1
  have hS := T4.2.2.1
  refine x_1 (p' := 1) hC rfl rfl rfl rfl ?_
  refine x_getR (p' := 2) hC rfl rfl rfl g3 r2 ?_
  refine x_1 (p' := 3) hC rfl rfl rfl rfl ?_
  refine x_cIV1 (p' := 4) (n := 116) hC rfl rfl rfl rfl rfl (hK.ty) ?_
  refine sp_T_retireError hK hS hc ?_
  refine x_stI2 (p' := 5) hC rfl rfl rfl ?_
  refine x_1 (p' := 6) hC rfl rfl rfl rfl ?_
  refine x_ifeq (p' := 7) hC rfl rfl (fun c6 => ?_) (fun c6 => ?_)
  · have hr0 := cRet_0 c6
    have h5 := hc.2.1
    refine x_1 (p' := 10) hC rfl rfl rfl rfl ?_
    refine x_cVV0 (p' := 11) (n := 186) hC rfl rfl rfl rfl rfl (g3) ?_
    refine sp_P_remember G (by have := hc.1; omega) hc.2.1 h7 hb (fun H1 o1 w1 tr1 S1 R1 st1 G1 C1 hrm t41 t51 => ?_)
    have hrm2 := hrm
    obtain ⟨n1, hn1, hn2, hn3, ⟨es4, er4, es5, er5⟩, hrest⟩ := hrm2
    obtain ⟨g3, g4, r0, r1, r2, r3, gs, gst, gh⟩ := G1.face
    have T4 := G1.T (show 4 < 6 by decide)
    rw [es4, er4] at T4
    have hK := T4.1
    have hS := T4.2.2.1
    refine x_1 (p' := 12) hC rfl rfl rfl rfl ?_
    refine x_getR (p' := 13) hC rfl rfl rfl g3 r2 ?_
    refine x_1 (p' := 14) hC rfl rfl rfl rfl ?_
    refine x_cVV1 (p' := 15) (n := 117) hC rfl rfl rfl rfl rfl (hK.ty) ?_
    refine sp_T_retire T4 (by omega) (fun H2 E2 T2 => ?_)
    have G2 := G1.tree (show 4 < 6 by decide) E2 T2
    have C2 := G1.ck (show 4 < 6 by decide) E2
    obtain ⟨g3, g4, r0, r1, r2, r3, gs, gst, gh⟩ := G2.face
    have hK := T2.1
    have hS := T2.2.2.1
    have hc2 : CI (upX (S 4) (46 + u.toNat) 2 1) := by
      have e1 : cT (upX (S 4) (46 + u.toNat) 2 1) = cT (S 4) := cT_upX (by omega)
      have e2 : ∀ q : Int, q < 5 → cSe (upX (S 4) (46 + u.toNat) 2 1) q = cSe (S 4) q := fun q hq => by funext j; exact congrFun (upX_ne (by omega)) j
      have e3 : ∀ q : Int, q < 5 → cH (upX (S 4) (46 + u.toNat) 2 1) q = cH (S 4) q := fun q hq => by funext j; exact congrFun (upX_ne (by omega)) j
      have e4 : ∀ q (j : Int), j ≠ 2 → cU (upX (S 4) (46 + u.toNat) 2 1) q j = cU (S 4) q j := fun q j hj => by unfold cU upX; rw [if_neg (fun z => hj z.2)]
      unfold CI at *
      rw [e1]
      exact ⟨hc.1, hc.2.1, fun g a b => by rw [e2 g (by omega), e3 g (by omega)]; exact hc.2.2.1 g a b, fun q a b => by rw [e4 q 0 (by decide), e4 q 1 (by decide)]; exact hc.2.2.2 q a b⟩
    refine x_1 (p' := 16) hC rfl rfl rfl rfl ?_
    refine x_getR (p' := 17) hC rfl rfl rfl g3 r2 ?_
    refine x_cIV0 (p' := 18) (n := 126) hC rfl rfl rfl rfl rfl (hK.ty) ?_
    refine sp_T_unitsLeft hK hS hc2 ?_
    refine x_iret hC rfl rfl rfl ⟨_, rfl, ?_⟩
    exact K2 c6 _ _ _ _ _ _ _ G2 (C1.trans C2) hrm
  · refine x_1 (p' := 8) hC rfl rfl rfl rfl ?_
    refine x_iret hC rfl rfl rfl ⟨_, rfl, ?_⟩
    exact K1 c6
set_option maxRecDepth 20000 in
set_option maxHeartbeats 2000000 in
theorem sp_P_set {d : Nat} {h : HP} {o : Nat → Nat} {w : Nat → Nat × Nat} {tr : Nat → Nat} {S : Nat → Nat → Int → Int} {R : Nat → Nat → List FV} {st : Int} {U0 : Nat} (G : GP U0 h o w tr S R st) (hc : CI (S 4)) (h7 : 0 ≤ cT (S 4) 7) (hb : ∀ u : Int, 0 ≤ u → u < cT (S 4) 5 → 0 ≤ cU (S 4) u 2 ∧ cU (S 4) u 2 ≤ 1) {g k v : Int} {Q : Int → HP → Prop} (K1 : ¬ cSetE (S 4) g k v = 0 → Q (cSetE (S 4) g k v) h) (K2 : cSetE (S 4) g k v = 0 → ∀ H o' w' tr' S' R' st', GP U0 H o' w' tr' (upG S' 4 (upX (S 4) (12 + 7 * g.toNat) k v)) (upG R' 4 (R 4)) st' → CK h H → RemP st S R S' R' st' → Q (cSe (S 4) g k) H) : CaI (d + 7) 168 [.inr (some 3), .inl g, .inl k, .inl v] h Q := by
  have hC : cod 168 = c_P_set := rfl
  refine CaI.start rfl ?_
  obtain ⟨g3, g4, r0, r1, r2, r3, gs, gst, gh⟩ := G.face
  have T4 := G.T (show 4 < 6 by decide)
  have hK := T4.1
  have hS := T4.2.2.1
  refine x_1 (p' := 1) hC rfl rfl rfl rfl ?_
  refine x_getR (p' := 2) hC rfl rfl rfl g3 r2 ?_
  refine x_1 (p' := 3) hC rfl rfl rfl rfl ?_
  refine x_1 (p' := 4) hC rfl rfl rfl rfl ?_
  refine x_1 (p' := 5) hC rfl rfl rfl rfl ?_
  refine x_cIV3 (p' := 6) (n := 118) hC rfl rfl rfl rfl rfl (hK.ty) ?_
  refine sp_T_settingError G.1 hK hS hc ?_
  refine x_stI4 (p' := 7) hC rfl rfl rfl ?_
  refine x_1 (p' := 8) hC rfl rfl rfl rfl ?_
  refine x_ifeq (p' := 9) hC rfl rfl (fun c8 => ?_) (fun c8 => ?_)
  · have hr0 := cSetE_0 c8
    have h4 := hc.1
    refine x_1 (p' := 12) hC rfl rfl rfl rfl ?_
    refine x_cVV0 (p' := 13) (n := 186) hC rfl rfl rfl rfl rfl (g3) ?_
    refine sp_P_remember G (by have := hc.1; omega) hc.2.1 h7 hb (fun H1 o1 w1 tr1 S1 R1 st1 G1 C1 hrm t41 t51 => ?_)
    have hrm2 := hrm
    obtain ⟨n1, hn1, hn2, hn3, ⟨es4, er4, es5, er5⟩, hrest⟩ := hrm2
    obtain ⟨g3, g4, r0, r1, r2, r3, gs, gst, gh⟩ := G1.face
    have T4 := G1.T (show 4 < 6 by decide)
    rw [es4, er4] at T4
    have hK := T4.1
    have hS := T4.2.2.1
    refine x_1 (p' := 14) hC rfl rfl rfl rfl ?_
    refine x_getR (p' := 15) hC rfl rfl rfl g3 r2 ?_
    refine x_1 (p' := 16) hC rfl rfl rfl rfl ?_
    refine x_1 (p' := 17) hC rfl rfl rfl rfl ?_
    refine x_1 (p' := 18) hC rfl rfl rfl rfl ?_
    refine x_cIV3 (p' := 19) (n := 120) hC rfl rfl rfl rfl rfl (hK.ty) ?_
    refine sp_T_changeSetting T4 (by omega) (by omega) (fun H2 E2 T2 => ?_)
    refine x_iret hC rfl rfl rfl ⟨_, rfl, ?_⟩
    exact K2 c8 _ _ _ _ _ _ _ (G1.tree (show 4 < 6 by decide) E2 T2) (C1.trans (G1.ck (show 4 < 6 by decide) E2)) hrm
  · refine x_1 (p' := 10) hC rfl rfl rfl rfl ?_
    refine x_iret hC rfl rfl rfl ⟨_, rfl, ?_⟩
    exact K1 c8
set_option maxRecDepth 20000 in
set_option maxHeartbeats 2000000 in
theorem sp_P_send {d : Nat} {h : HP} {o : Nat → Nat} {w : Nat → Nat × Nat} {tr : Nat → Nat} {S : Nat → Nat → Int → Int} {R : Nat → Nat → List FV} {st : Int} {U0 : Nat} (G : GP U0 h o w tr S R st) (hc : CI (S 4)) (h7 : 0 ≤ cT (S 4) 7) (hb : ∀ u : Int, 0 ≤ u → u < cT (S 4) 5 → 0 ≤ cU (S 4) u 2 ∧ cU (S 4) u 2 ≤ 1) (htm : 0 ≤ cT (S 4) 6 ∧ cT (S 4) 6 ≤ 100000) {u st1 v fl tk : Int} {Q : Int → HP → Prop} (K1 : ¬ cDep (S 4) u st1 v fl tk = 0 → Q (cDep (S 4) u st1 v fl tk) h) (K2 : cDep (S 4) u st1 v fl tk = 0 → ∀ H o' w' tr' S' R' st', GP U0 H o' w' tr' (upG S' 4 (upX (upX (upF (S 4) 6 (cDpV (S 4) u st1 v fl tk)) 3 1 (((R 4 3).length : Nat) + 1)) (46 + u.toNat) 3 (wr (cU (S 4) u 3 + 1)))) (upG R' 4 (upR (R 4) 3 (insA (R 4 3) ((R 4 3).length : Nat) (cDpV (S 4) u st1 v fl tk)))) st' → CK h H → RemP st S R S' R' st' → Q ((((R 4 3).length : Nat) : Int) + 1) H) : CaI (d + 7) 172 [.inr (some 3), .inl u, .inl st1, .inl v, .inl fl, .inl tk] h Q := by
  have hC : cod 172 = c_P_send := rfl
  refine CaI.start rfl ?_
  obtain ⟨g3, g4, r0, r1, r2, r3, gs, gst, gh⟩ := G.face
  have T4 := G.T (show 4 < 6 by decide)
  have hK := T4.1
  have hS := T4.2.2.1
  refine x_1 (p' := 1) hC rfl rfl rfl rfl ?_
  refine x_getR (p' := 2) hC rfl rfl rfl g3 r2 ?_
  refine x_1 (p' := 3) hC rfl rfl rfl rfl ?_
  refine x_1 (p' := 4) hC rfl rfl rfl rfl ?_
  refine x_1 (p' := 5) hC rfl rfl rfl rfl ?_
  refine x_1 (p' := 6) hC rfl rfl rfl rfl ?_
  refine x_1 (p' := 7) hC rfl rfl rfl rfl ?_
  refine x_cIV5 (p' := 8) (n := 131) hC rfl rfl rfl rfl rfl (hK.ty) ?_
  refine sp_T_departError hK hS hc ?_
  refine x_stI6 (p' := 9) hC rfl rfl rfl ?_
  refine x_1 (p' := 10) hC rfl rfl rfl rfl ?_
  refine x_ifeq (p' := 11) hC rfl rfl (fun c10 => ?_) (fun c10 => ?_)
  · have hr0 := cDep_0 c10
    have h5 := hc.2.1
    have hcw := T4.cW
    refine x_1 (p' := 14) hC rfl rfl rfl rfl ?_
    refine x_cVV0 (p' := 15) (n := 186) hC rfl rfl rfl rfl rfl (g3) ?_
    refine sp_P_remember G (by have := hc.1; omega) hc.2.1 h7 hb (fun H1 o1 w1 tr1 S1 R1 stq G1 C1 hrm t41 t51 => ?_)
    have hrm2 := hrm
    obtain ⟨n1, hn1, hn2, hn3, ⟨es4, er4, es5, er5⟩, hrest⟩ := hrm2
    obtain ⟨g3, g4, r0, r1, r2, r3, gs, gst, gh⟩ := G1.face
    have T4 := G1.T (show 4 < 6 by decide)
    rw [es4, er4] at T4
    have hK := T4.1
    have hS := T4.2.2.1
    refine x_1 (p' := 16) hC rfl rfl rfl rfl ?_
    refine x_getR (p' := 17) hC rfl rfl rfl g3 r2 ?_
    refine x_1 (p' := 18) hC rfl rfl rfl rfl ?_
    refine x_1 (p' := 19) hC rfl rfl rfl rfl ?_
    refine x_1 (p' := 20) hC rfl rfl rfl rfl ?_
    refine x_1 (p' := 21) hC rfl rfl rfl rfl ?_
    refine x_1 (p' := 22) hC rfl rfl rfl rfl ?_
    refine x_cVV5 (p' := 23) (n := 132) hC rfl rfl rfl rfl rfl (hK.ty) ?_
    refine sp_T_depart T4 hc (by omega) htm (by omega) (by omega) (fun H2 o2 w2 E2 T2 => ?_)
    have G2 := G1.tree (show 4 < 6 by decide) E2 T2
    have C2 := G1.ck (show 4 < 6 by decide) E2
    obtain ⟨g3, g4, r0, r1, r2, r3, gs, gst, gh⟩ := G2.face
    have hK := T2.1
    have hS := T2.2.2.1
    have hcw2 := T2.cW.1
    rw [upR_eq, insA_len] at hcw2
    refine x_1 (p' := 24) hC rfl rfl rfl rfl ?_
    refine x_getR (p' := 25) hC rfl rfl rfl g3 r2 ?_
    refine z_tr (p' := 26) (n := 3) hK hC rfl rfl rfl rfl ?_
    refine z_rww (p' := 27) hK hS hC rfl rfl ?_
    rw [hcw2]
    refine x_iret hC rfl rfl rfl ⟨_, rfl, ?_⟩
    exact K2 c10 _ _ _ _ _ _ _ G2 (C1.trans C2) hrm
  · refine x_1 (p' := 12) hC rfl rfl rfl rfl ?_
    refine x_iret hC rfl rfl rfl ⟨_, rfl, ?_⟩
    exact K1 c10
noncomputable def qHubOf (S : Nat → Int → Int) (R : Nat → List FV) (g w : Int) : Int := if ¬ (cHub S g ∧ 0 ≤ w ∧ w ≤ 14) then -1000001 else cHubF S R g w
noncomputable def qUnitOf (S : Nat → Int → Int) (R : Nat → List FV) (u w : Int) : Int := if ¬ (cUnit S u ∧ 0 ≤ w ∧ w ≤ 6) then -1000001 else cUnitF S R u w
def qUnitAt (S : Nat → Int → Int) (g x : Int) : Int := if ¬ (cHub S g ∧ 0 ≤ x) then -1000001 else cUA S g x 11 0 0
noncomputable def qSlotAt (S : Nat → Int → Int) (R : Nat → List FV) (g x w : Int) : Int := if ¬ (cHub S g ∧ 0 ≤ x ∧ 0 ≤ w ∧ w ≤ 5) then -1000001 else cSlotF S R g (cStart (kR R g) x) w
noncomputable def qOutAt (S : Nat → Int → Int) (i w : Int) : Int := if ¬ (0 ≤ i ∧ 0 ≤ w ∧ w ≤ 4) then -1000001 else cOutF S i w
noncomputable def qReadAt (S : Nat → Int → Int) (i u w : Int) : Int := if ¬ (0 ≤ i ∧ cUnit S u ∧ 0 ≤ w ∧ w ≤ 1) then -1000001 else if ¬ (0 ≤ i ∧ i < cKept S) then -1000004 else fRd (SF S (56 + 3 * ((cT S 7 - 1 - i) % 8).toNat)) u w
set_option maxRecDepth 20000 in
set_option maxHeartbeats 2000000 in
theorem sp_P_hubOf {d : Nat} {h : HP} {o : Nat → Nat} {w : Nat → Nat × Nat} {tr : Nat → Nat} {S : Nat → Nat → Int → Int} {R : Nat → Nat → List FV} {st : Int} {U0 : Nat} (G : GP U0 h o w tr S R st) (hc : CI (S 4)) {g v : Int} {Q : Int → HP → Prop} (K : Q (qHubOf (S 4) (R 4) g v) h) : CaI (d + 7) 169 [.inr (some 3), .inl g, .inl v] h Q := by
  have hC : cod 169 = c_P_hubOf := rfl
  refine CaI.start rfl ?_
  obtain ⟨g3, g4, r0, r1, r2, r3, gs, gst, gh⟩ := G.face
  have T4 := G.T (show 4 < 6 by decide)
  have hK := T4.1
  have hS := T4.2.2.1
  have h4 := hc.1
  have h5 := hc.2.1
  refine x_1 (p' := 1) hC rfl rfl rfl rfl ?_
  refine x_getR (p' := 2) hC rfl rfl rfl g3 r2 ?_
  refine x_1 (p' := 3) hC rfl rfl rfl rfl ?_
  refine x_cIV1 (p' := 4) (n := 111) hC rfl rfl rfl rfl rfl (hK.ty) ?_
  refine sp_T_hasHub hK hS hc ?_
  refine x_ifeq (p' := 5) hC rfl rfl (fun c4 => ?_) (fun c4 => ?_)
  · have c4 := b2i_0.mp c4
    refine x_ldc (p' := 11) (v := (-1000001)) hC rfl rfl (by decide) ?_
    refine x_iret hC rfl rfl rfl ⟨_, rfl, ?_⟩
    refine eqK K ?_
    unfold qHubOf
    repeat (first | rw [if_pos (by omega)] | rw [if_neg (by omega)])
  · have c4 := b2i_n0.mp c4
    refine x_1 (p' := 6) hC rfl rfl rfl rfl ?_
    refine x_1 (p' := 7) hC rfl rfl rfl rfl ?_
    refine x_1 (p' := 8) hC rfl rfl rfl rfl ?_
    refine x_cIS3 (p' := 9) (n := 187) hC rfl rfl rfl rfl rfl ?_
    refine sp_P_isWithin ?_
    refine x_ifne (p' := 10) hC rfl rfl (fun c9 => ?_) (fun c9 => ?_)
    · have c9 := b2i_n0.mp c9
      refine x_1 (p' := 13) hC rfl rfl rfl rfl ?_
      refine x_getR (p' := 14) hC rfl rfl rfl g3 r2 ?_
      refine x_1 (p' := 15) hC rfl rfl rfl rfl ?_
      refine x_1 (p' := 16) hC rfl rfl rfl rfl ?_
      refine x_cIV2 (p' := 17) (n := 129) hC rfl rfl rfl rfl rfl (hK.ty) ?_
      refine sp_T_hubFact T4 hc (by omega) (by omega) ?_
      refine x_iret hC rfl rfl rfl ⟨_, rfl, ?_⟩
      refine eqK K ?_
      unfold qHubOf
      repeat (first | rw [if_pos (by omega)] | rw [if_neg (by omega)])
    · have c9 := b2i_0.mp c9
      refine x_ldc (p' := 11) (v := (-1000001)) hC rfl rfl (by decide) ?_
      refine x_iret hC rfl rfl rfl ⟨_, rfl, ?_⟩
      refine eqK K ?_
      unfold qHubOf
      repeat (first | rw [if_pos (by omega)] | rw [if_neg (by omega)])
set_option maxRecDepth 20000 in
set_option maxHeartbeats 2000000 in
theorem sp_P_unitOf {d : Nat} {h : HP} {o : Nat → Nat} {w : Nat → Nat × Nat} {tr : Nat → Nat} {S : Nat → Nat → Int → Int} {R : Nat → Nat → List FV} {st : Int} {U0 : Nat} (G : GP U0 h o w tr S R st) (hc : CI (S 4)) (hd : ∀ g : Int, 0 ≤ g → g < cT (S 4) 4 → 0 ≤ cH (S 4) g 4 ∧ cH (S 4) g 4 ≤ 100) {u v : Int} {Q : Int → HP → Prop} (K : Q (qUnitOf (S 4) (R 4) u v) h) : CaI (d + 7) 170 [.inr (some 3), .inl u, .inl v] h Q := by
  have hC : cod 170 = c_P_unitOf := rfl
  refine CaI.start rfl ?_
  obtain ⟨g3, g4, r0, r1, r2, r3, gs, gst, gh⟩ := G.face
  have T4 := G.T (show 4 < 6 by decide)
  have hK := T4.1
  have hS := T4.2.2.1
  have h4 := hc.1
  have h5 := hc.2.1
  refine x_1 (p' := 1) hC rfl rfl rfl rfl ?_
  refine x_getR (p' := 2) hC rfl rfl rfl g3 r2 ?_
  refine x_1 (p' := 3) hC rfl rfl rfl rfl ?_
  refine x_cIV1 (p' := 4) (n := 112) hC rfl rfl rfl rfl rfl (hK.ty) ?_
  refine sp_T_hasUnit hK hS hc ?_
  refine x_ifeq (p' := 5) hC rfl rfl (fun c4 => ?_) (fun c4 => ?_)
  · have c4 := b2i_0.mp c4
    refine x_ldc (p' := 11) (v := (-1000001)) hC rfl rfl (by decide) ?_
    refine x_iret hC rfl rfl rfl ⟨_, rfl, ?_⟩
    refine eqK K ?_
    unfold qUnitOf
    repeat (first | rw [if_pos (by omega)] | rw [if_neg (by omega)])
  · have c4 := b2i_n0.mp c4
    refine x_1 (p' := 6) hC rfl rfl rfl rfl ?_
    refine x_1 (p' := 7) hC rfl rfl rfl rfl ?_
    refine x_1 (p' := 8) hC rfl rfl rfl rfl ?_
    refine x_cIS3 (p' := 9) (n := 187) hC rfl rfl rfl rfl rfl ?_
    refine sp_P_isWithin ?_
    refine x_ifne (p' := 10) hC rfl rfl (fun c9 => ?_) (fun c9 => ?_)
    · have c9 := b2i_n0.mp c9
      refine x_1 (p' := 13) hC rfl rfl rfl rfl ?_
      refine x_getR (p' := 14) hC rfl rfl rfl g3 r2 ?_
      refine x_1 (p' := 15) hC rfl rfl rfl rfl ?_
      refine x_1 (p' := 16) hC rfl rfl rfl rfl ?_
      refine x_cIV2 (p' := 17) (n := 130) hC rfl rfl rfl rfl rfl (hK.ty) ?_
      have hx := hc.2.2.2 u (by omega) (by omega)
      refine sp_T_unitFact T4 hc (by omega) (by omega) (hd _ hx.1 hx.2.1) ?_
      refine x_iret hC rfl rfl rfl ⟨_, rfl, ?_⟩
      refine eqK K ?_
      unfold qUnitOf
      repeat (first | rw [if_pos (by omega)] | rw [if_neg (by omega)])
    · have c9 := b2i_0.mp c9
      refine x_ldc (p' := 11) (v := (-1000001)) hC rfl rfl (by decide) ?_
      refine x_iret hC rfl rfl rfl ⟨_, rfl, ?_⟩
      refine eqK K ?_
      unfold qUnitOf
      repeat (first | rw [if_pos (by omega)] | rw [if_neg (by omega)])
set_option maxRecDepth 20000 in
set_option maxHeartbeats 2000000 in
theorem sp_P_unitAt {d : Nat} {h : HP} {o : Nat → Nat} {w : Nat → Nat × Nat} {tr : Nat → Nat} {S : Nat → Nat → Int → Int} {R : Nat → Nat → List FV} {st : Int} {U0 : Nat} (G : GP U0 h o w tr S R st) (hc : CI (S 4)) {g x : Int} {Q : Int → HP → Prop} (K : Q (qUnitAt (S 4) g x) h) : CaI (d + 7) 171 [.inr (some 3), .inl g, .inl x] h Q := by
  have hC : cod 171 = c_P_unitAt := rfl
  refine CaI.start rfl ?_
  obtain ⟨g3, g4, r0, r1, r2, r3, gs, gst, gh⟩ := G.face
  have T4 := G.T (show 4 < 6 by decide)
  have hK := T4.1
  have hS := T4.2.2.1
  have h4 := hc.1
  have h5 := hc.2.1
  refine x_1 (p' := 1) hC rfl rfl rfl rfl ?_
  refine x_getR (p' := 2) hC rfl rfl rfl g3 r2 ?_
  refine x_1 (p' := 3) hC rfl rfl rfl rfl ?_
  refine x_cIV1 (p' := 4) (n := 111) hC rfl rfl rfl rfl rfl (hK.ty) ?_
  refine sp_T_hasHub hK hS hc ?_
  refine x_ifeq (p' := 5) hC rfl rfl (fun c4 => ?_) (fun c4 => ?_)
  · have c4 := b2i_0.mp c4
    refine x_ldc (p' := 8) (v := (-1000001)) hC rfl rfl (by decide) ?_
    refine x_iret hC rfl rfl rfl ⟨_, rfl, ?_⟩
    refine eqK K ?_
    unfold qUnitAt
    repeat (first | rw [if_pos (by omega)] | rw [if_neg (by omega)])
  · have c4 := b2i_n0.mp c4
    refine x_1 (p' := 6) hC rfl rfl rfl rfl ?_
    refine x_ifge (p' := 7) hC rfl rfl (fun c6 => ?_) (fun c6 => ?_)
    · refine x_1 (p' := 10) hC rfl rfl rfl rfl ?_
      refine x_getR (p' := 11) hC rfl rfl rfl g3 r2 ?_
      refine x_1 (p' := 12) hC rfl rfl rfl rfl ?_
      refine x_1 (p' := 13) hC rfl rfl rfl rfl ?_
      refine x_cIV2 (p' := 14) (n := 127) hC rfl rfl rfl rfl rfl (hK.ty) ?_
      refine sp_T_unitOfHub hK hS hc (by omega) ?_
      refine x_iret hC rfl rfl rfl ⟨_, rfl, ?_⟩
      refine eqK K ?_
      unfold qUnitAt
      repeat (first | rw [if_pos (by omega)] | rw [if_neg (by omega)])
    · refine x_ldc (p' := 8) (v := (-1000001)) hC rfl rfl (by decide) ?_
      refine x_iret hC rfl rfl rfl ⟨_, rfl, ?_⟩
      refine eqK K ?_
      unfold qUnitAt
      repeat (first | rw [if_pos (by omega)] | rw [if_neg (by omega)])
set_option maxRecDepth 20000 in
set_option maxHeartbeats 2000000 in
theorem sp_P_slotAt {d : Nat} {h : HP} {o : Nat → Nat} {w : Nat → Nat × Nat} {tr : Nat → Nat} {S : Nat → Nat → Int → Int} {R : Nat → Nat → List FV} {st : Int} {U0 : Nat} (G : GP U0 h o w tr S R st) (hc : CI (S 4)) (hok : ∀ g : Int, 0 ≤ g → g < cT (S 4) 4 → RowOK (kR (R 4) g)) (hw : ∀ g : Int, 0 ≤ g → g < cT (S 4) 4 → 0 ≤ cSe (S 4) g 0 ∧ cSe (S 4) g 0 ≤ 40) (htm : 0 ≤ cT (S 4) 6 ∧ cT (S 4) 6 ≤ 100000) {g x v : Int} (hx : x ≤ 2147483647) {Q : Int → HP → Prop} (K : ∀ H S', GP U0 H o w tr (upG S 4 S') R st → CK h H → (∀ m, m ≠ 9 → S' m = S 4 m) → Q (qSlotAt (S 4) (R 4) g x v) H) : CaI (d + 7) 174 [.inr (some 3), .inl g, .inl x, .inl v] h Q := by
  have hC : cod 174 = c_P_slotAt := rfl
  refine CaI.start rfl ?_
  obtain ⟨g3, g4, r0, r1, r2, r3, gs, gst, gh⟩ := G.face
  have T4 := G.T (show 4 < 6 by decide)
  have hK := T4.1
  have hS := T4.2.2.1
  have h4 := hc.1
  have h5 := hc.2.1
  have K0 := K h (S 4) (by rw [show upG S 4 (S 4) = S by funext q; unfold upG; split; rename_i e; rw [e]; rfl]; exact G) CK.refl (fun _ _ => rfl)
  refine x_1 (p' := 1) hC rfl rfl rfl rfl ?_
  refine x_getR (p' := 2) hC rfl rfl rfl g3 r2 ?_
  refine x_1 (p' := 3) hC rfl rfl rfl rfl ?_
  refine x_cIV1 (p' := 4) (n := 111) hC rfl rfl rfl rfl rfl (hK.ty) ?_
  refine sp_T_hasHub hK hS hc ?_
  refine x_ifeq (p' := 5) hC rfl rfl (fun c4 => ?_) (fun c4 => ?_)
  · have c4 := b2i_0.mp c4
    refine x_ldc (p' := 13) (v := (-1000001)) hC rfl rfl (by decide) ?_
    refine x_iret hC rfl rfl rfl ⟨_, rfl, ?_⟩
    first
      | (refine eqK K2 ?_
         unfold qSlotAt
         exact if_neg (by omega))
      | (refine eqK K0 ?_
         unfold qSlotAt
         exact if_pos (by omega))
  · have c4 := b2i_n0.mp c4
    refine x_1 (p' := 6) hC rfl rfl rfl rfl ?_
    refine x_iflt (p' := 7) hC rfl rfl (fun c6 => ?_) (fun c6 => ?_)
    · refine x_ldc (p' := 13) (v := (-1000001)) hC rfl rfl (by decide) ?_
      refine x_iret hC rfl rfl rfl ⟨_, rfl, ?_⟩
      first
        | (refine eqK K2 ?_
           unfold qSlotAt
           exact if_neg (by omega))
        | (refine eqK K0 ?_
           unfold qSlotAt
           exact if_pos (by omega))
    · refine x_1 (p' := 8) hC rfl rfl rfl rfl ?_
      refine x_1 (p' := 9) hC rfl rfl rfl rfl ?_
      refine x_1 (p' := 10) hC rfl rfl rfl rfl ?_
      refine x_cIS3 (p' := 11) (n := 187) hC rfl rfl rfl rfl rfl ?_
      refine sp_P_isWithin ?_
      refine x_ifne (p' := 12) hC rfl rfl (fun c11 => ?_) (fun c11 => ?_)
      · have c11 := b2i_n0.mp c11
        refine x_1 (p' := 15) hC rfl rfl rfl rfl ?_
        refine x_getR (p' := 16) hC rfl rfl rfl g3 r2 ?_
        refine x_1 (p' := 17) hC rfl rfl rfl rfl ?_
        refine x_1 (p' := 18) hC rfl rfl rfl rfl ?_
        refine x_1 (p' := 19) hC rfl rfl rfl rfl ?_
        refine x_cIV3 (p' := 20) (n := 149) hC rfl rfl rfl rfl rfl (hK.ty) ?_
        refine sp_T_slotFact T4 hc (by omega) (by omega) (by omega) (hok g (by omega) (by omega)) (hw g (by omega) (by omega)) htm (fun H2 S2 E2 T2 x2 => ?_)
        have G2 := G.tree (show 4 < 6 by decide) E2 T2
        rw [show upG R 4 (R 4) = R by funext q; unfold upG; split; rename_i e; rw [e]; rfl] at G2
        have K2 := K H2 S2 G2 (G.ck (show 4 < 6 by decide) E2) x2
        refine x_iret hC rfl rfl rfl ⟨_, rfl, ?_⟩
        first
          | (refine eqK K2 ?_
             unfold qSlotAt
             exact if_neg (by omega))
          | (refine eqK K0 ?_
             unfold qSlotAt
             exact if_pos (by omega))
      · have c11 := b2i_0.mp c11
        refine x_ldc (p' := 13) (v := (-1000001)) hC rfl rfl (by decide) ?_
        refine x_iret hC rfl rfl rfl ⟨_, rfl, ?_⟩
        first
          | (refine eqK K2 ?_
             unfold qSlotAt
             exact if_neg (by omega))
          | (refine eqK K0 ?_
             unfold qSlotAt
             exact if_pos (by omega))
set_option maxRecDepth 20000 in
set_option maxHeartbeats 2000000 in
theorem sp_P_outAt {d : Nat} {h : HP} {o : Nat → Nat} {w : Nat → Nat × Nat} {tr : Nat → Nat} {S : Nat → Nat → Int → Int} {R : Nat → Nat → List FV} {st : Int} {U0 : Nat} (G : GP U0 h o w tr S R st) (ho : 0 ≤ cT (S 4) 7 ∧ cT (S 4) 7 ≤ 2000000000) (hm : ∀ j : Int, 0 ≤ j → j < cKept (S 4) → 0 ≤ SF (S 4) (56 + 3 * ((cT (S 4) 7 - 1 - j) % 8).toNat) 5 ∧ SF (S 4) (56 + 3 * ((cT (S 4) 7 - 1 - j) % 8).toNat) 5 < 1024) {i v : Int} {Q : Int → HP → Prop} (K : Q (qOutAt (S 4) i v) h) : CaI (d + 7) 175 [.inr (some 3), .inl i, .inl v] h Q := by
  have hC : cod 175 = c_P_outAt := rfl
  refine CaI.start rfl ?_
  obtain ⟨g3, g4, r0, r1, r2, r3, gs, gst, gh⟩ := G.face
  have T4 := G.T (show 4 < 6 by decide)
  have hK := T4.1
  have hS := T4.2.2.1
  refine x_1 (p' := 1) hC rfl rfl rfl rfl ?_
  refine x_iflt (p' := 2) hC rfl rfl (fun c1 => ?_) (fun c1 => ?_)
  · refine x_ldc (p' := 8) (v := (-1000001)) hC rfl rfl (by decide) ?_
    refine x_iret hC rfl rfl rfl ⟨_, rfl, ?_⟩
    refine eqK K ?_
    unfold qOutAt
    repeat (first | rw [if_pos (by omega)] | rw [if_neg (by omega)])
  · refine x_1 (p' := 3) hC rfl rfl rfl rfl ?_
    refine x_1 (p' := 4) hC rfl rfl rfl rfl ?_
    refine x_1 (p' := 5) hC rfl rfl rfl rfl ?_
    refine x_cIS3 (p' := 6) (n := 187) hC rfl rfl rfl rfl rfl ?_
    refine sp_P_isWithin ?_
    refine x_ifne (p' := 7) hC rfl rfl (fun c6 => ?_) (fun c6 => ?_)
    · have c6 := b2i_n0.mp c6
      refine x_1 (p' := 10) hC rfl rfl rfl rfl ?_
      refine x_getR (p' := 11) hC rfl rfl rfl g3 r2 ?_
      refine x_1 (p' := 12) hC rfl rfl rfl rfl ?_
      refine x_1 (p' := 13) hC rfl rfl rfl rfl ?_
      refine x_cIV2 (p' := 14) (n := 152) hC rfl rfl rfl rfl rfl (hK.ty) ?_
      refine sp_T_outputFact hK hS ho (by omega) hm ?_
      refine x_iret hC rfl rfl rfl ⟨_, rfl, ?_⟩
      refine eqK K ?_
      unfold qOutAt
      repeat (first | rw [if_pos (by omega)] | rw [if_neg (by omega)])
    · have c6 := b2i_0.mp c6
      refine x_ldc (p' := 8) (v := (-1000001)) hC rfl rfl (by decide) ?_
      refine x_iret hC rfl rfl rfl ⟨_, rfl, ?_⟩
      refine eqK K ?_
      unfold qOutAt
      repeat (first | rw [if_pos (by omega)] | rw [if_neg (by omega)])
set_option maxRecDepth 20000 in
set_option maxHeartbeats 2000000 in
theorem sp_P_readingAt {d : Nat} {h : HP} {o : Nat → Nat} {w : Nat → Nat × Nat} {tr : Nat → Nat} {S : Nat → Nat → Int → Int} {R : Nat → Nat → List FV} {st : Int} {U0 : Nat} (G : GP U0 h o w tr S R st) (hc : CI (S 4)) (ho : 0 ≤ cT (S 4) 7 ∧ cT (S 4) 7 ≤ 2000000000) {i u v : Int} {Q : Int → HP → Prop} (K : Q (qReadAt (S 4) i u v) h) : CaI (d + 7) 176 [.inr (some 3), .inl i, .inl u, .inl v] h Q := by
  have hC : cod 176 = c_P_readingAt := rfl
  refine CaI.start rfl ?_
  obtain ⟨g3, g4, r0, r1, r2, r3, gs, gst, gh⟩ := G.face
  have T4 := G.T (show 4 < 6 by decide)
  have hK := T4.1
  have hS := T4.2.2.1
  have h4 := hc.1
  have h5 := hc.2.1
  refine x_1 (p' := 1) hC rfl rfl rfl rfl ?_
  refine x_iflt (p' := 2) hC rfl rfl (fun c1 => ?_) (fun c1 => ?_)
  · refine x_ldc (p' := 13) (v := (-1000001)) hC rfl rfl (by decide) ?_
    refine x_iret hC rfl rfl rfl ⟨_, rfl, ?_⟩
    refine eqK K ?_
    unfold qReadAt
    repeat (first | rw [if_pos (by omega)] | rw [if_neg (by omega)])
  · refine x_1 (p' := 3) hC rfl rfl rfl rfl ?_
    refine x_getR (p' := 4) hC rfl rfl rfl g3 r2 ?_
    refine x_1 (p' := 5) hC rfl rfl rfl rfl ?_
    refine x_cIV1 (p' := 6) (n := 112) hC rfl rfl rfl rfl rfl (hK.ty) ?_
    refine sp_T_hasUnit hK hS hc ?_
    refine x_ifeq (p' := 7) hC rfl rfl (fun c6 => ?_) (fun c6 => ?_)
    · have c6 := b2i_0.mp c6
      refine x_ldc (p' := 13) (v := (-1000001)) hC rfl rfl (by decide) ?_
      refine x_iret hC rfl rfl rfl ⟨_, rfl, ?_⟩
      refine eqK K ?_
      unfold qReadAt
      repeat (first | rw [if_pos (by omega)] | rw [if_neg (by omega)])
    · have c6 := b2i_n0.mp c6
      refine x_1 (p' := 8) hC rfl rfl rfl rfl ?_
      refine x_1 (p' := 9) hC rfl rfl rfl rfl ?_
      refine x_1 (p' := 10) hC rfl rfl rfl rfl ?_
      refine x_cIS3 (p' := 11) (n := 187) hC rfl rfl rfl rfl rfl ?_
      refine sp_P_isWithin ?_
      refine x_ifne (p' := 12) hC rfl rfl (fun c11 => ?_) (fun c11 => ?_)
      · have c11 := b2i_n0.mp c11
        refine x_1 (p' := 15) hC rfl rfl rfl rfl ?_
        refine x_getR (p' := 16) hC rfl rfl rfl g3 r2 ?_
        refine x_1 (p' := 17) hC rfl rfl rfl rfl ?_
        refine x_cRV1 (p' := 18) (n := 151) hC rfl rfl rfl rfl rfl (hK.ty) ?_
        refine sp_T_output hK hS ho (fun b0 b1 => ?_) (fun hn => ?_)
        · have hm0 := Int.emod_nonneg (cT (S 4) 7 - 1 - i) (show (8 : Int) ≠ 0 by decide)
          have hm1 := Int.emod_lt_of_pos (cT (S 4) 7 - 1 - i) (show (0 : Int) < 8 by decide)
          have hF := hK.outp hm0 hm1
          have hV := SF_eq hS (n := 56 + 3 * ((cT (S 4) 7 - 1 - i) % 8).toNat) (by omega)
          refine x_stA4 (p' := 19) hC rfl rfl rfl ?_
          refine x_1 (p' := 20) hC rfl rfl rfl rfl ?_
          refine x_nn (p' := 21) hC rfl rfl (fun q c => ?_) (fun c => by cases c)
          refine x_1 (p' := 24) hC rfl rfl rfl rfl ?_
          refine x_1 (p' := 25) hC rfl rfl rfl rfl ?_
          refine x_1 (p' := 26) hC rfl rfl rfl rfl ?_
          refine x_cIV2 (p' := 27) (n := 86) hC rfl rfl rfl rfl rfl hF.ty ?_
          refine sp_F_readingFact hF hV (by omega) ?_
          refine x_iret hC rfl rfl rfl ⟨_, rfl, ?_⟩
          refine eqK K ?_
          unfold qReadAt
          rw [if_neg (by omega), if_neg (by omega)]
        refine x_stA4 (p' := 19) hC rfl rfl rfl ?_
        refine x_1 (p' := 20) hC rfl rfl rfl rfl ?_
        refine x_nn (p' := 21) hC rfl rfl (fun q20 c20 => ?_) (fun c20 => ?_)
        · exact absurd c20 (fun q => by cases q)
        · refine x_ldc (p' := 22) (v := (-1000004)) hC rfl rfl (by decide) ?_
          refine x_1 (p' := 27) hC rfl rfl rfl rfl ?_
          refine x_iret hC rfl rfl rfl ⟨_, rfl, ?_⟩
          refine eqK K ?_
          unfold qReadAt
          repeat (first | rw [if_pos (by omega)] | rw [if_neg (by omega)])
      · have c11 := b2i_0.mp c11
        refine x_ldc (p' := 13) (v := (-1000001)) hC rfl rfl (by decide) ?_
        refine x_iret hC rfl rfl rfl ⟨_, rfl, ?_⟩
        refine eqK K ?_
        unfold qReadAt
        repeat (first | rw [if_pos (by omega)] | rw [if_neg (by omega)])
def swr (n r : Nat) : Nat := if r = 4 then n else if r = n then 4 else r
theorem swr_lt {n r : Nat} (hn : n < 4) (hr : r < 6) : swr n r < 6 := by
  unfold swr
  repeat' split
  all_goals omega
theorem swr_in {n r q : Nat} (hn : n < 4) (hr : r < 6) (hq : q < 6) (e : swr n r = swr n q) : r = q := by
  unfold swr at e
  repeat' split at e
  all_goals omega
set_option maxRecDepth 20000 in
set_option maxHeartbeats 2000000 in
theorem sp_P_undo {d : Nat} {h : HP} {o : Nat → Nat} {w : Nat → Nat × Nat} {tr : Nat → Nat} {S : Nat → Nat → Int → Int} {R : Nat → Nat → List FV} {st : Int} {U0 : Nat} (G : GP U0 h o w tr S R st) {Q : Int → HP → Prop} (K1 : st = 0 → Q (-1000002) h) (K2 : ∀ n : Nat, n < 4 → st = n + 1 → ∀ H, GP U0 H o w (fun r => tr (swr n r)) (fun r => S (swr n r)) (fun r => R (swr n r)) n → CK h H → Q (n : Int) H) : CaI (d + 7) 181 [.inr (some 3)] h Q := by
  have hC : cod 181 = c_P_undo := rfl
  refine CaI.start rfl ?_
  obtain ⟨g3, g4, r0, r1, r2, r3, gs, gst, gh⟩ := G.face
  have T4 := G.T (show 4 < 6 by decide)
  have hK := T4.1
  have hS := T4.2.2.1
  refine x_1 (p' := 1) hC rfl rfl rfl rfl ?_
  refine x_getI (p' := 2) hC rfl rfl rfl g3 ?_
  rw [show hI _ 3 ((4 : Nat) : Int) = _ from gs]
  refine x_ifne (p' := 3) hC rfl rfl (fun c2 => ?_) (fun c2 => ?_)
  · obtain ⟨n, hn⟩ : ∃ n : Nat, st = n + 1 := ⟨(st - 1).toNat, by omega⟩
    have e10 : hI (sI h 3 ((4 : Nat) : Int) (st - 1)) 3 ((4 : Nat) : Int) = (n : Nat) := by rw [hI_sI, if_pos ⟨rfl, rfl⟩]; omega
    refine x_1 (p' := 6) hC rfl rfl rfl rfl ?_
    refine x_1 (p' := 7) hC rfl rfl rfl rfl ?_
    refine x_getI (p' := 8) hC rfl rfl rfl g3 ?_
    rw [show hI h 3 ((4 : Nat) : Int) = st from gs]
    refine x_1 (p' := 9) hC rfl rfl rfl rfl ?_
    refine x_sub (p' := 10) hC rfl rfl rfl (⟨by omega, by omega⟩) ?_
    refine x_putI (p' := 11) hC rfl rfl rfl g3 (by decide) ?_
    refine x_1 (p' := 12) hC rfl rfl rfl rfl ?_
    refine x_getR (p' := 13) (q := some (tr 4)) hC rfl rfl rfl g3 r2 ?_
    refine x_stA1 (p' := 14) hC rfl rfl rfl ?_
    refine x_1 (p' := 15) hC rfl rfl rfl rfl ?_
    refine x_1 (p' := 16) hC rfl rfl rfl rfl ?_
    refine x_getR (p' := 17) (q := some 4) hC rfl rfl rfl g3 r0 ?_
    refine x_1 (p' := 18) hC rfl rfl rfl rfl ?_
    refine x_getI (p' := 19) hC rfl rfl rfl g3 ?_
    rw [e10]
    refine x_aald (p' := 20) (t := 204) (n := 4) (q := some (tr n)) hC rfl rfl rfl g4 rfl (by omega) (by omega) (gh n (by omega)) ?_
    refine x_putR (p' := 21) hC rfl rfl rfl g3 (by decide) ?_
    refine x_1 (p' := 22) hC rfl rfl rfl rfl ?_
    refine x_getR (p' := 23) (q := some 4) hC rfl rfl rfl g3 (by rw [hR_sR, if_neg (fun q => absurd q.2 (by decide))]; exact r0) ?_
    refine x_1 (p' := 24) hC rfl rfl rfl rfl ?_
    refine x_getI (p' := 25) hC rfl rfl rfl g3 ?_
    rw [show hI (sR (sI h 3 ((4 : Nat) : Int) (st - 1)) 3 ((2 : Nat) : Int) (some (tr n))) 3 ((4 : Nat) : Int) = (n : Nat) from e10]
    refine x_1 (p' := 26) hC rfl rfl rfl rfl ?_
    refine x_aast (p' := 27) (t := 204) (n := 4) hC rfl rfl rfl g4 rfl (show (hTy h _).1 + 199 = 204 by rw [hK.ty]) (by decide) (by omega) (by omega) ?_
    obtain ⟨H2, hH2⟩ : ∃ H2, H2 = sR (sR (sI h 3 ((4 : Nat) : Int) (st - 1)) 3 ((2 : Nat) : Int) (some (tr n))) 4 ((n : Nat) : Int) (some (tr 4)) := ⟨_, rfl⟩
    refine At.heap (h' := H2) hH2.symm ?_
    have g3b : (hTy H2 3).1 = 6 + 1 := by rw [hH2]; exact g3
    have gsb : hI H2 3 ((4 : Nat) : Int) = (n : Nat) := by rw [hH2]; exact e10
    have hr3 : ∀ k : Int, k ≠ 2 → hR H2 3 k = hR h 3 k := fun k hk => by rw [hH2, hR_sR_ne (by decide), hR_sR, if_neg (fun q => hk q.2)]; rfl
    have G2 : GP U0 H2 o w (fun r => tr (swr n r)) (fun r => S (swr n r)) (fun r => R (swr n r)) n := by
      refine G.refs (ro := swr n) (fun r hr => swr_lt (by omega) hr) (fun r q hr hq e => swr_in (by omega) hr hq e) (by rw [hH2]; rfl) (by rw [hH2]; rfl) (by rw [hH2]; rfl) (fun b hb => by rw [hH2]; exact hI_sI_ne hb) gsb (by omega) (fun b h3 h4 => by rw [hH2, hR_sR_ne h4, hR_sR_ne h3]; rfl) ⟨by rw [hr3 0 (by decide)]; exact r0, by rw [hr3 1 (by decide)]; exact r1, ?_, ?_⟩ (fun j hj => ?_)
      · rw [hH2, hR_sR_ne (by decide)]
        exact hR_sR_eq
      · rw [hr3 3 (by decide), show swr n 5 = 5 by unfold swr; rw [if_neg (by decide), if_neg (by omega)]]; exact r3
      · rw [hH2, hR_sR]
        by_cases hjn : j = n
        · rw [if_pos ⟨rfl, by omega⟩, hjn, show swr n n = 4 by unfold swr; rw [if_neg (by omega), if_pos rfl]]
        · rw [if_neg (by omega), hR_sR_ne (by decide), show swr n j = j by unfold swr; rw [if_neg (by omega), if_neg hjn]]
          exact gh j hj
    refine x_1 (p' := 28) hC rfl rfl rfl rfl ?_
    refine x_getI (p' := 29) hC rfl rfl rfl g3b ?_
    rw [gsb]
    refine x_iret hC rfl rfl rfl ⟨_, rfl, ?_⟩
    exact K2 n (by omega) hn H2 G2 (fun b hb => ⟨by rw [hH2]; rfl, by rw [hH2]; exact hI_sI_ne (by omega), by rw [hH2, hR_sR_ne (by omega), hR_sR_ne (by omega)]; rfl⟩)
  · refine x_ldc (p' := 4) (v := (-1000002)) hC rfl rfl (by decide) ?_
    refine x_iret hC rfl rfl rfl ⟨_, rfl, ?_⟩
    exact K1 (by omega)

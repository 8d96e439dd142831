/-! the reference's face: play, undo, what is foretold -/
/-- all stays but the row, what was kept and put aside, the numbers, the scratch, the place and the reason -/
def KW (X Z : Nat → Int → Int) : Prop := ∀ i j, i ≠ 1 → i ≠ 3 → i ≠ 4 → i ≠ 6 → i ≠ 7 → i ≠ 8 → i ≠ 9 → ¬ (i = 0 ∧ j = 7) → ¬ (i = 0 ∧ j = 8) → ¬ (i = 0 ∧ j = 13) → Z i j = X i j
theorem KW.t5 {X Z : Nat → Int → Int} (h : KW X Z) : Z 5 = X 5 := funext fun j => h 5 j (by decide) (by decide) (by decide) (by decide) (by decide) (by decide) (by decide) (fun q => absurd q.1 (by decide)) (fun q => absurd q.1 (by decide)) (fun q => absurd q.1 (by decide))
theorem KW.l6 {X Z : Nat → Int → Int} (h : KW X Z) : Z 0 6 = X 0 6 := h 0 6 (by decide) (by decide) (by decide) (by decide) (by decide) (by decide) (by decide) (fun q => absurd q.2 (by decide)) (fun q => absurd q.2 (by decide)) (fun q => absurd q.2 (by decide))
theorem KW.l4 {X Z : Nat → Int → Int} (h : KW X Z) : Z 0 4 = X 0 4 := h 0 4 (by decide) (by decide) (by decide) (by decide) (by decide) (by decide) (by decide) (fun q => absurd q.2 (by decide)) (fun q => absurd q.2 (by decide)) (fun q => absurd q.2 (by decide))
/-- the second run's state, n orders done -/
def PSt (PP : Int → Int → (Int → Int) → Prop) (X : Nat → Int → Int) (n : Int) (Y : Nat → Int → Int) : Prop := KW X Y ∧ EqR (Y 3) (X 1) ∧ (0 ≤ Y 0 7 ∧ Y 0 7 ≤ X 0 6) ∧ (0 ≤ n ∧ 3 * n ≤ Y 0 7) ∧ PP (Y 0 7) n (Y 1)
theorem PSt.step {Tk : (Int → Int) → (Int → Int) → Prop} {Gd : (Int → Int) → Prop} {PP : Int → Int → (Int → Int) → Prop} {X Y Z : Nat → Int → Int} {n r : Int} (hR : RunH Tk Gd (X 5) (X 0 6) PP) (hN0 : ∀ a n s r, PP a n s → 0 ≤ a → a < X 0 6 → ¬ FaultIs Tk (X 5) (X 0 6) s a r) (h : PSt PP X n Y) (hL : Y 0 7 < X 0 6) (hN : RNext Tk Y r Z) : r = 0 ∧ Y 0 7 + 3 ≤ Z 0 7 ∧ PSt PP X (n + 1) Z := by
  obtain ⟨k, e4, y7, hn, hp⟩ := h
  obtain ⟨kz, z7, hN⟩ := hN
  have t5 := k.t5
  have l6 := k.l6
  rw [t5, l6] at hN
  rw [l6] at z7
  have k' : KW X Z := fun i j h1 h2 h3 h4 h5 h6 h7 h8 h9 h10 => by
    rw [kz i j h1 h4 h5 h6 h7 h8 h10, k i j h1 h2 h3 h4 h5 h6 h7 h8 h9 h10]
  have e4' : EqR (Z 3) (X 1) := by
    rw [show Z 3 = Y 3 from funext fun j => kz 3 j (by decide) (by decide) (by decide) (by decide) (by decide) (fun q => absurd q.1 (by decide)) (fun q => absurd q.1 (by decide))]
    exact e4
  have bad : ∀ {P : Prop}, FaultIs Tk (X 5) (X 0 6) (Y 1) (Y 0 7) r → P := fun hf => absurd hf (hN0 _ _ _ _ hp y7.1 hL)
  rcases hN with ⟨hr, O, s1⟩ | ⟨n0, n1, n2, O, hN⟩
  · exact bad (Or.inl ⟨hr, O⟩)
  · rcases hN with ⟨hr, q1, q2, s1⟩ | ⟨q, v, D, ⟨hr, q3⟩ | ⟨hr, q3⟩⟩
    · exact bad (Or.inr ⟨n0, n1, n2, _, O, Or.inl ⟨hr, q1, q2⟩⟩)
    · exact bad (Or.inr ⟨n0, n1, n2, _, O, Or.inr ⟨hr, q, v, _, D, q3⟩⟩)
    · have ol := O.lt
      exact ⟨hr, by omega, k', e4', z7, by omega, hR.2 _ _ _ _ _ _ _ _ _ hp y7.1 hL O q D q3⟩
set_option maxRecDepth 20000 in
theorem lp_m_play {d : Nat} {m : Nat} {h : HP} (hO : RO m h)  {Tk : (Int → Int) → (Int → Int) → Prop} {Gd : (Int → Int) → Prop} (hT : TKH d m h Tk Gd) (hT2 : TKH (d + 1) m h Tk Gd) (hGd : ∀ s, Gd s → RI s ∧ 0 ≤ s 2 ∧ s 2 ≤ 100000) {X : Nat → Int → Int} (hL : 0 ≤ X 0 6 ∧ X 0 6 ≤ 60) (htx : ∀ j, 0 ≤ j → j < X 0 6 → 32 ≤ X 5 j ∧ X 5 j ≤ 126) (hq : 0 ≤ X 0 4 ∧ X 0 4 ≤ 4) {PP : Int → Int → (Int → Int) → Prop} (hR2 : RunH Tk Gd (X 5) (X 0 6) PP) (hN0 : ∀ a n s r, PP a n s → 0 ≤ a → a < X 0 6 → ¬ FaultIs Tk (X 5) (X 0 6) s a r) {Q : Int → HP → Prop} (K2 : ∀ n Y, PSt PP X n Y → X 0 6 ≤ Y 0 7 → Q n (wX m h (aX n Y))) (k : Nat) : ∀ (n : Int) (Y : Nat → Int → Int), (X 0 6 - Y 0 7).toNat < k → (PSt PP X n Y) → At (d + 13) 80 13 [some (.inr (some m)), some (.inl n)] [] (wX m h Y) (fun v h' => ∃ x, v = some (.inl x) ∧ Q x h') := by
  have hC : cod 80 = c_m_play := rfl
  induction k with
  | zero =>
    intro n Y hk
    exact absurd hk (Nat.not_lt_zero _)
  | succ k ih =>
    intro n Y hk hI0
    have hS := hI0
    obtain ⟨ky, e4, y7, hn, hp⟩ := hI0
    have t5 := ky.t5
    have l6 := ky.l6
    have l4 := ky.l4
    refine x_1 (p' := 14) hC rfl rfl rfl rfl ?_
    refine y_gI (p' := 15) (kz := 7) hO hC rfl rfl rfl rfl ?_
    refine x_1 (p' := 16) hC rfl rfl rfl rfl ?_
    refine y_gI (p' := 17) (kz := 6) hO hC rfl rfl rfl rfl ?_
    refine x_icge (p' := 18) hC rfl rfl (fun c17 => ?_) (fun c17 => ?_)
    · refine x_1 (p' := 29) hC rfl rfl rfl rfl ?_
      refine x_1 (p' := 30) hC rfl rfl rfl rfl ?_
      refine x_cIV1 (p' := 31) (n := 11) hC rfl rfl rfl rfl rfl (hO.ty) ?_
      refine sp_m_acted2 hO (by omega) ?_
      refine x_iret hC rfl rfl rfl ⟨_, rfl, ?_⟩
      exact K2 _ _ hS (by omega)
    · refine x_1 (p' := 19) hC rfl rfl rfl rfl ?_
      refine x_1 (p' := 20) hC rfl rfl rfl rfl ?_
      refine x_cIV0 (p' := 21) (n := 77) hC rfl rfl rfl rfl rfl (hO.ty) ?_
      refine sp_m_doesNext hO hT2 hGd (hR2.1 _ _ _ hp) (by rw [l6]; exact hL) (by omega) (by rw [t5]; have := htx (Y 0 7) (by omega) (by omega); omega) (fun r Z hN => ?_)
      obtain ⟨hr0, hz3, hZ⟩ := hS.step hR2 hN0 (by omega) hN
      refine x_ifne (p' := 22) hC rfl rfl (fun c21 => ?_) (fun c21 => ?_)
      · exact absurd hr0 c21
      · refine x_1 (p' := 23) hC rfl rfl rfl rfl ?_
        refine x_1 (p' := 25) hC rfl rfl rfl rfl ?_
        refine x_add (p' := 26) hC rfl rfl rfl (⟨by omega, by omega⟩) ?_
        refine x_stI1 (p' := 27) hC rfl rfl rfl ?_
        refine x_1 (p' := 13) hC rfl rfl rfl rfl ?_
        exact ih _ _ (by omega) hZ
set_option maxRecDepth 20000 in
set_option maxHeartbeats 2000000 in
theorem sp_m_play {d : Nat} {m : Nat} {h : HP} (hO : RO m h) {X : Nat → Int → Int} {Tk : (Int → Int) → (Int → Int) → Prop} {Gd : (Int → Int) → Prop} (hT : TKH d m h Tk Gd) (hT2 : TKH (d + 1) m h Tk Gd) (hGd : ∀ s, Gd s → RI s ∧ 0 ≤ s 2 ∧ s 2 ≤ 100000) (hL : 0 ≤ X 0 6 ∧ X 0 6 ≤ 60) (htx : ∀ j, 0 ≤ j → j < X 0 6 → 32 ≤ X 5 j ∧ X 5 j ≤ 126) (hq : 0 ≤ X 0 4 ∧ X 0 4 ≤ 4) {PF : Int → Int → (Int → Int) → Prop} (hR : RunH Tk Gd (X 5) (X 0 6) PF) (h0 : PF 0 0 (X 1)) {PP : Int → Int → (Int → Int) → Prop} (hR2 : RunH Tk Gd (X 5) (X 0 6) PP) (hN0 : ∀ a n s r, PP a n s → 0 ≤ a → a < X 0 6 → ¬ FaultIs Tk (X 5) (X 0 6) s a r) (hPP : (∃ a n s, PF a n s ∧ X 0 6 ≤ a) → ∀ s, EqR s (X 1) → PP 0 0 s) {Q : Int → HP → Prop} (K1 : ∀ v Z, RFaulty Tk PF X v Z → ¬ v = -1000004 → Q (-1000002) (wX m h Z)) (K2 : ∀ n Y, PSt PP X n Y → X 0 6 ≤ Y 0 7 → Q n (wX m h (aX n Y))) : CaI (d + 13) 80 [.inr (some m)] (wX m h X) Q := by
  have hC : cod 80 = c_m_play := rfl
  refine CaI.start rfl ?_
  refine x_1 (p' := 1) hC rfl rfl rfl rfl ?_
  refine x_cIV0 (p' := 2) (n := 78) hC rfl rfl rfl rfl rfl (hO.ty) ?_
  refine sp_m_faulty hO hT hGd hL htx hR h0 (fun v Z hZ => ?_)
  refine x_ldc (p' := 3) (v := (-1000004)) hC rfl rfl (by decide) ?_
  refine x_iceq (p' := 4) hC rfl rfl (fun c3 => ?_) (fun c3 => ?_)
  · refine x_1 (p' := 7) hC rfl rfl rfl rfl ?_
    refine x_cVV0 (p' := 8) (n := 10) hC rfl rfl rfl rfl rfl (hO.ty) ?_
    refine sp_m_keeps hO ?_
    refine x_1 (p' := 9) hC rfl rfl rfl rfl ?_
    refine x_stI1 (p' := 10) hC rfl rfl rfl ?_
    refine x_1 (p' := 11) hC rfl rfl rfl rfl ?_
    refine x_1 (p' := 12) hC rfl rfl rfl rfl ?_
    refine y_pI (p' := 13) (kz := 7) hO hC rfl rfl rfl rfl ?_
    obtain ⟨kz, ez, hz⟩ := hZ
    have hz := hz.resolve_right (fun q => by omega)
    refine lp_m_play hO hT hT2 hGd hL htx hq hR2 hN0 K2 _ 0 _ (Nat.lt_succ_self _) ⟨fun i j h1 h2 h3 h4 h5 h6 h7 h8 h9 h10 => ?_, ?_, ?_, ?_, ?_⟩
    · unfold upX
      rw [if_neg h8, cpX_nj h2]
      exact kz i j h1 h3 h4 h5 h6 h7 h8 h9 h10
    · rw [upX_ne (by decide)]
      exact cpX_EqR.trans ez
    · rw [show upX (cpX Z 3 15568 (Z 1)) 0 7 0 0 7 = 0 by unfold upX; rw [if_pos ⟨rfl, rfl⟩]]
      omega
    · rw [show upX (cpX Z 3 15568 (Z 1)) 0 7 0 0 7 = 0 by unfold upX; rw [if_pos ⟨rfl, rfl⟩]]
      omega
    · rw [show upX (cpX Z 3 15568 (Z 1)) 0 7 0 0 7 = 0 by unfold upX; rw [if_pos ⟨rfl, rfl⟩], upX_ne (by decide), cpX_ne (by decide)]
      exact hPP hz.2 _ ez
  · refine x_ldc (p' := 5) (v := (-1000002)) hC rfl rfl (by decide) ?_
    refine x_iret hC rfl rfl rfl ⟨_, rfl, ?_⟩
    exact K1 _ _ hZ c3
set_option maxRecDepth 20000 in
theorem lp_m_undo {d : Nat} {m : Nat} {h : HP} (hO : RO m h)  {X : Nat → Int → Int} (hq : 0 ≤ X 0 4 ∧ X 0 4 ≤ 3) {Q : Int → HP → Prop} (K : Q (X 0 4) (wX m h (cpX X 1 15568 (fun b => X 2 (15568 * X 0 4 + b))))) (k : Nat) : ∀ (n : Int), (15568 - n).toNat < k → (0 ≤ n ∧ n ≤ 15568) → At (d) 70 13 [some (.inr (some m)), some (.inl n)] [] (wX m h (cpX X 1 n (fun b => X 2 (15568 * X 0 4 + b)))) (fun v h' => ∃ x, v = some (.inl x) ∧ Q x h') := by
  have hC : cod 70 = c_m_undo := rfl
  induction k with
  | zero =>
    intro n hk
    exact absurd hk (Nat.not_lt_zero _)
  | succ k ih =>
    intro n hk hI0
    refine x_1 (p' := 14) hC rfl rfl rfl rfl ?_
    refine x_1 (p' := 15) hC rfl rfl rfl rfl ?_
    refine x_icge (p' := 16) hC rfl rfl (fun c15 => ?_) (fun c15 => ?_)
    · refine x_1 (p' := 32) hC rfl rfl rfl rfl ?_
      refine y_gI (p' := 33) (kz := 4) hO hC rfl rfl rfl rfl ?_
      rw [cpX_ne (by decide)]
      refine x_iret hC rfl rfl rfl ⟨_, rfl, ?_⟩
      rw [show n = 15568 by omega]
      exact K
    · refine x_1 (p' := 17) hC rfl rfl rfl rfl ?_
      refine y_gR (p' := 18) (n := 1) hO hC rfl rfl rfl rfl ?_
      refine x_1 (p' := 19) hC rfl rfl rfl rfl ?_
      refine x_1 (p' := 20) hC rfl rfl rfl rfl ?_
      refine y_gR (p' := 21) (n := 2) hO hC rfl rfl rfl rfl ?_
      refine x_1 (p' := 22) hC rfl rfl rfl rfl ?_
      refine x_1 (p' := 23) hC rfl rfl rfl rfl ?_
      refine y_gI (p' := 24) (kz := 4) hO hC rfl rfl rfl rfl ?_
      rw [cpX_ne (by decide)]
      refine x_mul (p' := 25) hC rfl rfl rfl (⟨by omega, by omega⟩) ?_
      refine x_1 (p' := 26) hC rfl rfl rfl rfl ?_
      refine x_add (p' := 27) hC rfl rfl rfl (⟨by omega, by omega⟩) ?_
      refine y_ld (p' := 28) (L := 62272) hO hC rfl rfl rfl rfl (by omega) (by omega) ?_
      rw [cpX_ne (by decide)]
      refine y_st (p' := 29) (L := 15568) hO hC rfl rfl rfl rfl (by omega) (by omega) ?_
      rw [show X 2 (15568 * X 0 4 + n) = (fun b => X 2 (15568 * X 0 4 + b)) n from rfl, cpX_succ (by omega)]
      refine x_inc1 (p' := 30) hC rfl rfl (⟨by omega, by omega⟩) ?_
      refine x_1 (p' := 13) hC rfl rfl rfl rfl ?_
      exact ih _ (by omega) (by omega)
set_option maxRecDepth 20000 in
set_option maxHeartbeats 2000000 in
theorem sp_m_undo {d : Nat} {m : Nat} {h : HP} (hO : RO m h) {X : Nat → Int → Int} (hq : 0 ≤ X 0 4 ∧ X 0 4 ≤ 4) {Q : Int → HP → Prop} (K1 : X 0 4 = 0 → Q (-1000002) (wX m h X)) (K2 : ¬ X 0 4 = 0 → Q (X 0 4 - 1) (wX m h (cpX (upX X 0 4 (X 0 4 - 1)) 1 15568 (fun b => X 2 (15568 * (X 0 4 - 1) + b))))) : CaI (d + 1) 70 [.inr (some m)] (wX m h X) Q := by
  have hC : cod 70 = c_m_undo := rfl
  refine CaI.start rfl ?_
  refine x_1 (p' := 1) hC rfl rfl rfl rfl ?_
  refine y_gI (p' := 2) (kz := 4) hO hC rfl rfl rfl rfl ?_
  refine x_ifne (p' := 3) hC rfl rfl (fun c2 => ?_) (fun c2 => ?_)
  · refine x_1 (p' := 6) hC rfl rfl rfl rfl ?_
    refine x_1 (p' := 7) hC rfl rfl rfl rfl ?_
    refine y_gI (p' := 8) (kz := 4) hO hC rfl rfl rfl rfl ?_
    refine x_1 (p' := 9) hC rfl rfl rfl rfl ?_
    refine x_sub (p' := 10) hC rfl rfl rfl (⟨by omega, by omega⟩) ?_
    refine y_pI (p' := 11) (kz := 4) hO hC rfl rfl rfl rfl ?_
    refine x_1 (p' := 12) hC rfl rfl rfl rfl ?_
    refine x_stI1 (p' := 13) hC rfl rfl rfl ?_
    have u4 : upX X 0 4 (X 0 4 - 1) 0 4 = X 0 4 - 1 := by unfold upX; rw [if_pos ⟨rfl, rfl⟩]
    have u2 : upX X 0 4 (X 0 4 - 1) 2 = X 2 := upX_ne (by decide)
    have e0 : upX X 0 4 (X 0 4 - 1) = cpX (upX X 0 4 (X 0 4 - 1)) 1 0 (fun b => upX X 0 4 (X 0 4 - 1) 2 (15568 * upX X 0 4 (X 0 4 - 1) 0 4 + b)) := cpX_0.symm
    rw [e0]
    refine lp_m_undo hO (by rw [u4]; omega) ?_ _ 0 (Nat.lt_succ_self _) (by omega)
    rw [u4, u2]
    exact K2 (by omega)
  · refine x_ldc (p' := 4) (v := (-1000002)) hC rfl rfl (by decide) ?_
    refine x_iret hC rfl rfl rfl ⟨_, rfl, ?_⟩
    exact K1 (by omega)

/-! the reference's face: what is foretold -/
/-- n ticks, the outputs' number c before each -/
def NxN (Tk : (Int → Int) → (Int → Int) → Prop) (c : Int) : Nat → (Int → Int) → (Int → Int) → Prop
  | 0, s, s' => s' = s
  | n + 1, s, s' => ∃ t, NxN Tk c n s t ∧ t 4 = c ∧ Tk t s'
/-- restored: all stays but the row put aside and the scratch -/
def KR (X Z : Nat → Int → Int) : Prop := EqR (Z 1) (X 1) ∧ ∀ i j, i ≠ 1 → i ≠ 4 → i ≠ 7 → i ≠ 8 → i ≠ 9 → ¬ (i = 0 ∧ j = 13) → Z i j = X i j
/-- the trial's state -/
def FrT (X Y : Nat → Int → Int) : Prop := EqR (Y 4) (X 1) ∧ ∀ i j, i ≠ 1 → i ≠ 4 → i ≠ 7 → i ≠ 8 → i ≠ 9 → ¬ (i = 0 ∧ j = 13) → Y i j = X i j
theorem FrT.step {X Y Z : Nat → Int → Int} (h : FrT X Y) (f : FrX Y Z) : FrT X Z := by
  refine ⟨?_, fun i j h1 h2 h3 h4 h5 h6 => (f i j h1 h3 h4 h5 h6).trans (h.2 i j h1 h2 h3 h4 h5 h6)⟩
  rw [show Z 4 = Y 4 from funext fun j => f 4 j (by decide) (by decide) (by decide) (by decide) (fun q => absurd q.1 (by decide))]
  exact h.1
theorem FrT.puts {X : Nat → Int → Int} : FrT X (cpX X 4 15568 (X 1)) := ⟨cpX_EqR, fun i j h1 h2 h3 h4 h5 _ => cpX_nj h2⟩
theorem FrT.back {X Y : Nat → Int → Int} (h : FrT X Y) : KR X (cpX Y 1 15568 (Y 4)) := ⟨cpX_EqR.trans h.1, fun i j h1 h2 h3 h4 h5 h6 => (cpX_nj h1).trans (h.2 i j h1 h2 h3 h4 h5 h6)⟩
set_option maxRecDepth 20000 in
theorem lp_m_nextOut {d : Nat} {m : Nat} {h : HP} (hO : RO m h)  {Tk : (Int → Int) → (Int → Int) → Prop} {Gd : (Int → Int) → Prop} (hT : TKH d m h Tk Gd) (hGd : ∀ s, Gd s → RI s ∧ 0 ≤ s 2 ∧ s 2 ≤ 100000) {X : Nat → Int → Int} (h2 : X 1 2 ≤ 20500) {Q : Int → HP → Prop} (K : ∀ (n : Nat) s' Z, n ≤ 200 → NxN Tk (X 1 4) n (X 1) s' → (n = 200 ∨ ¬ s' 4 = X 1 4) → Gd s' → KR X Z → Q (if X 1 4 < s' 4 then (n : Int) else -1000004) (wX m h Z)) (k : Nat) : ∀ (n : Nat) (Y : Nat → Int → Int) (z : Option AV), 200 - n < k → (n ≤ 200) → (NxN Tk (X 1 4) n (X 1) (Y 1) ∧ Gd (Y 1) ∧ FrT X Y ∧ Y 1 2 = X 1 2 + (n : Int)) → At (d + 9) 66 9 [some (.inr (some m)), some (.inl (X 1 4)), some (.inl (n : Nat)), z] [] (wX m h Y) (fun v h' => ∃ x, v = some (.inl x) ∧ Q x h') := by
  have hC : cod 66 = c_m_nextOut := rfl
  induction k with
  | zero =>
    intro n Y z hk
    exact absurd hk (Nat.not_lt_zero _)
  | succ k ih =>
    intro n Y z hk hI0 hI1
    obtain ⟨hN, hg, hF, hY2⟩ := hI1
    refine x_1 (p' := 10) hC rfl rfl rfl rfl ?_
    refine x_1 (p' := 11) hC rfl rfl rfl rfl ?_
    refine x_icge (p' := 12) hC rfl rfl (fun c11 => ?_) (fun c11 => ?_)
    · refine x_1 (p' := 23) hC rfl rfl rfl rfl ?_
      refine y_gR (p' := 24) (n := 1) hO hC rfl rfl rfl rfl ?_
      refine x_1 (p' := 25) hC rfl rfl rfl rfl ?_
      refine y_ld (p' := 26) (L := 15568) hO hC rfl rfl rfl rfl (by omega) (by omega) ?_
      refine x_1 (p' := 27) hC rfl rfl rfl rfl ?_
      refine x_icle (p' := 28) hC rfl rfl (fun c27 => ?_) (fun c27 => ?_)
      · refine x_1 (p' := 31) hC rfl rfl rfl rfl ?_
        refine x_stI3 (p' := 32) hC rfl rfl rfl ?_
        refine x_1 (p' := 33) hC rfl rfl rfl rfl ?_
        refine x_cVV0 (p' := 34) (n := 13) hC rfl rfl rfl rfl rfl (hO.ty) ?_
        refine sp_m_restores hO ?_
        refine x_1 (p' := 35) hC rfl rfl rfl rfl ?_
        refine x_ifeq (p' := 36) hC rfl rfl (fun _ => ?_) (fun c => absurd c (by decide))
        refine x_ldc (p' := 39) (v := (-1000004)) hC rfl rfl (by decide) ?_
        refine x_iret hC rfl rfl rfl ⟨_, rfl, ?_⟩
        refine eqK (K n _ _ hI0 hN (by omega) hg hF.back) ?_
        split
        all_goals omega
      · refine x_1 (p' := 29) hC rfl rfl rfl rfl ?_
        refine x_1 (p' := 31) hC rfl rfl rfl rfl ?_
        refine x_stI3 (p' := 32) hC rfl rfl rfl ?_
        refine x_1 (p' := 33) hC rfl rfl rfl rfl ?_
        refine x_cVV0 (p' := 34) (n := 13) hC rfl rfl rfl rfl rfl (hO.ty) ?_
        refine sp_m_restores hO ?_
        refine x_1 (p' := 35) hC rfl rfl rfl rfl ?_
        refine x_ifeq (p' := 36) hC rfl rfl (fun c => absurd c (by decide)) (fun _ => ?_)
        refine x_1 (p' := 37) hC rfl rfl rfl rfl ?_
        refine x_1 (p' := 39) hC rfl rfl rfl rfl ?_
        refine x_iret hC rfl rfl rfl ⟨_, rfl, ?_⟩
        refine eqK (K n _ _ hI0 hN (by omega) hg hF.back) ?_
        split
        all_goals omega
    · refine x_1 (p' := 13) hC rfl rfl rfl rfl ?_
      refine y_gR (p' := 14) (n := 1) hO hC rfl rfl rfl rfl ?_
      refine x_1 (p' := 15) hC rfl rfl rfl rfl ?_
      refine y_ld (p' := 16) (L := 15568) hO hC rfl rfl rfl rfl (by omega) (by omega) ?_
      refine x_1 (p' := 17) hC rfl rfl rfl rfl ?_
      refine x_icne (p' := 18) hC rfl rfl (fun c17 => ?_) (fun c17 => ?_)
      · refine x_1 (p' := 23) hC rfl rfl rfl rfl ?_
        refine y_gR (p' := 24) (n := 1) hO hC rfl rfl rfl rfl ?_
        refine x_1 (p' := 25) hC rfl rfl rfl rfl ?_
        refine y_ld (p' := 26) (L := 15568) hO hC rfl rfl rfl rfl (by omega) (by omega) ?_
        refine x_1 (p' := 27) hC rfl rfl rfl rfl ?_
        refine x_icle (p' := 28) hC rfl rfl (fun c27 => ?_) (fun c27 => ?_)
        · refine x_1 (p' := 31) hC rfl rfl rfl rfl ?_
          refine x_stI3 (p' := 32) hC rfl rfl rfl ?_
          refine x_1 (p' := 33) hC rfl rfl rfl rfl ?_
          refine x_cVV0 (p' := 34) (n := 13) hC rfl rfl rfl rfl rfl (hO.ty) ?_
          refine sp_m_restores hO ?_
          refine x_1 (p' := 35) hC rfl rfl rfl rfl ?_
          refine x_ifeq (p' := 36) hC rfl rfl (fun _ => ?_) (fun c => absurd c (by decide))
          refine x_ldc (p' := 39) (v := (-1000004)) hC rfl rfl (by decide) ?_
          refine x_iret hC rfl rfl rfl ⟨_, rfl, ?_⟩
          refine eqK (K n _ _ hI0 hN (by omega) hg hF.back) ?_
          split
          all_goals omega
        · refine x_1 (p' := 29) hC rfl rfl rfl rfl ?_
          refine x_1 (p' := 31) hC rfl rfl rfl rfl ?_
          refine x_stI3 (p' := 32) hC rfl rfl rfl ?_
          refine x_1 (p' := 33) hC rfl rfl rfl rfl ?_
          refine x_cVV0 (p' := 34) (n := 13) hC rfl rfl rfl rfl rfl (hO.ty) ?_
          refine sp_m_restores hO ?_
          refine x_1 (p' := 35) hC rfl rfl rfl rfl ?_
          refine x_ifeq (p' := 36) hC rfl rfl (fun c => absurd c (by decide)) (fun _ => ?_)
          refine x_1 (p' := 37) hC rfl rfl rfl rfl ?_
          refine x_1 (p' := 39) hC rfl rfl rfl rfl ?_
          refine x_iret hC rfl rfl rfl ⟨_, rfl, ?_⟩
          refine eqK (K n _ _ hI0 hN (by omega) hg hF.back) ?_
          split
          all_goals omega
      · refine x_1 (p' := 19) hC rfl rfl rfl rfl ?_
        refine x_cVV0 (p' := 20) (n := 55) hC rfl rfl rfl rfl rfl (hO.ty) ?_
        refine hT Y hg (by omega) (fun Z hf ht ht2 hg2 => ?_)
        refine x_inc2 (p' := 21) hC rfl rfl (⟨by omega, by omega⟩) ?_
        refine x_1 (p' := 9) hC rfl rfl rfl rfl ?_
        rw [show (n : Int) + 1 = ((n + 1 : Nat) : Int) by omega]
        exact ih (n + 1) _ _ (by omega) (by omega) ⟨⟨Y 1, hN, by omega, ht⟩, hg2, hF.step hf, by omega⟩
set_option maxRecDepth 20000 in
set_option maxHeartbeats 2000000 in
theorem sp_m_nextOut {d : Nat} {m : Nat} {h : HP} (hO : RO m h) {X : Nat → Int → Int} {Tk : (Int → Int) → (Int → Int) → Prop} {Gd : (Int → Int) → Prop} (hT : TKH d m h Tk Gd) (hGd : ∀ s, Gd s → RI s ∧ 0 ≤ s 2 ∧ s 2 ≤ 100000) (hG : Gd (X 1)) (h2 : X 1 2 ≤ 20500) {Q : Int → HP → Prop} (K : ∀ (n : Nat) s' Z, n ≤ 200 → NxN Tk (X 1 4) n (X 1) s' → (n = 200 ∨ ¬ s' 4 = X 1 4) → Gd s' → KR X Z → Q (if X 1 4 < s' 4 then (n : Int) else -1000004) (wX m h Z)) : CaI (d + 9) 66 [.inr (some m)] (wX m h X) Q := by
  have hC : cod 66 = c_m_nextOut := rfl
  refine CaI.start rfl ?_
  refine x_1 (p' := 1) hC rfl rfl rfl rfl ?_
  refine x_cVV0 (p' := 2) (n := 12) hC rfl rfl rfl rfl rfl (hO.ty) ?_
  refine sp_m_puts hO ?_
  refine x_1 (p' := 3) hC rfl rfl rfl rfl ?_
  refine y_gR (p' := 4) (n := 1) hO hC rfl rfl rfl rfl ?_
  refine x_1 (p' := 5) hC rfl rfl rfl rfl ?_
  refine y_ld (p' := 6) (L := 15568) hO hC rfl rfl rfl rfl (by omega) (by omega) ?_
  rw [cpX_ne (by decide)]
  refine x_stI1 (p' := 7) hC rfl rfl rfl ?_
  refine x_1 (p' := 8) hC rfl rfl rfl rfl ?_
  refine x_stI2 (p' := 9) hC rfl rfl rfl ?_
  exact lp_m_nextOut hO hT hGd h2 K _ 0 _ _ (Nat.lt_succ_self _) (by omega) ⟨cpX_ne (by decide), by rw [cpX_ne (by decide)]; exact hG, FrT.puts, by rw [cpX_ne (by decide)]; omega⟩
set_option maxRecDepth 20000 in
theorem lp_m_foresee {d : Nat} {m : Nat} {h : HP} (hO : RO m h)  {Tk : (Int → Int) → (Int → Int) → Prop} {Gd : (Int → Int) → Prop} (hT : TKH d m h Tk Gd) (hGd : ∀ s, Gd s → RI s ∧ 0 ≤ s 2 ∧ s 2 ≤ 100000) {X : Nat → Int → Int} {w : Int} (hw : 1 ≤ w ∧ w ≤ 200) (h2 : X 1 2 ≤ 20500) {Q : Int → HP → Prop} (K : (1 ≤ w ∧ w ≤ 200) → ∀ (n : Nat) s' Z, (n : Int) = w → TkN Tk n (X 1) s' → Gd s' → KR X Z → Q (if s' 4 = 0 then -1000004 else s' (248 + 25 * (s' 5 - 1))) (wX m h Z)) (k : Nat) : ∀ (n : Nat) (Y : Nat → Int → Int), 200 - n < k → ((n : Int) ≤ w) → (TkN Tk n (X 1) (Y 1) ∧ Gd (Y 1) ∧ FrT X Y ∧ Y 1 2 = X 1 2 + (n : Int)) → At (d + 9) 67 11 [some (.inr (some m)), some (.inl w), some (.inl (n : Nat))] [] (wX m h Y) (fun v h' => ∃ x, v = some (.inl x) ∧ Q x h') := by
  have hC : cod 67 = c_m_foresee := rfl
  induction k with
  | zero =>
    intro n Y hk
    exact absurd hk (Nat.not_lt_zero _)
  | succ k ih =>
    intro n Y hk hI0 hI1
    obtain ⟨hN, hg, hF, hY2⟩ := hI1
    have h5 := (hGd _ hg).1.2.2.2.1
    refine x_1 (p' := 12) hC rfl rfl rfl rfl ?_
    refine x_1 (p' := 13) hC rfl rfl rfl rfl ?_
    refine x_icge (p' := 14) hC rfl rfl (fun c13 => ?_) (fun c13 => ?_)
    · refine x_1 (p' := 19) hC rfl rfl rfl rfl ?_
      refine y_gR (p' := 20) (n := 1) hO hC rfl rfl rfl rfl ?_
      refine x_1 (p' := 21) hC rfl rfl rfl rfl ?_
      refine y_ld (p' := 22) (L := 15568) hO hC rfl rfl rfl rfl (by omega) (by omega) ?_
      refine x_ifne (p' := 23) hC rfl rfl (fun c22 => ?_) (fun c22 => ?_)
      · refine x_1 (p' := 26) hC rfl rfl rfl rfl ?_
        refine y_gR (p' := 27) (n := 1) hO hC rfl rfl rfl rfl ?_
        refine x_1 (p' := 28) hC rfl rfl rfl rfl ?_
        refine x_1 (p' := 29) hC rfl rfl rfl rfl ?_
        refine x_1 (p' := 30) hC rfl rfl rfl rfl ?_
        refine y_gR (p' := 31) (n := 1) hO hC rfl rfl rfl rfl ?_
        refine x_1 (p' := 32) hC rfl rfl rfl rfl ?_
        refine y_ld (p' := 33) (L := 15568) hO hC rfl rfl rfl rfl (by omega) (by omega) ?_
        refine x_1 (p' := 34) hC rfl rfl rfl rfl ?_
        refine x_sub (p' := 35) hC rfl rfl rfl (⟨by omega, by omega⟩) ?_
        refine x_mul (p' := 36) hC rfl rfl rfl (⟨by omega, by omega⟩) ?_
        refine x_add (p' := 37) hC rfl rfl rfl (⟨by omega, by omega⟩) ?_
        refine y_ld (p' := 38) (L := 15568) hO hC rfl rfl rfl rfl (by omega) (by omega) ?_
        refine x_stI2 (p' := 39) hC rfl rfl rfl ?_
        refine x_1 (p' := 40) hC rfl rfl rfl rfl ?_
        refine x_cVV0 (p' := 41) (n := 13) hC rfl rfl rfl rfl rfl (hO.ty) ?_
        refine sp_m_restores hO ?_
        refine x_1 (p' := 42) hC rfl rfl rfl rfl ?_
        refine x_iret hC rfl rfl rfl ⟨_, rfl, ?_⟩
        refine eqK (K hw n _ _ (by omega) hN hg hF.back) ?_
        first
          | rw [if_pos (by omega)]
          | rw [if_neg (by omega)]
      · refine x_ldc (p' := 24) (v := (-1000004)) hC rfl rfl (by decide) ?_
        refine x_1 (p' := 38) hC rfl rfl rfl rfl ?_
        refine x_stI2 (p' := 39) hC rfl rfl rfl ?_
        refine x_1 (p' := 40) hC rfl rfl rfl rfl ?_
        refine x_cVV0 (p' := 41) (n := 13) hC rfl rfl rfl rfl rfl (hO.ty) ?_
        refine sp_m_restores hO ?_
        refine x_1 (p' := 42) hC rfl rfl rfl rfl ?_
        refine x_iret hC rfl rfl rfl ⟨_, rfl, ?_⟩
        refine eqK (K hw n _ _ (by omega) hN hg hF.back) ?_
        first
          | rw [if_pos (by omega)]
          | rw [if_neg (by omega)]
    · refine x_1 (p' := 15) hC rfl rfl rfl rfl ?_
      refine x_cVV0 (p' := 16) (n := 55) hC rfl rfl rfl rfl rfl (hO.ty) ?_
      refine hT Y hg (by omega) (fun Z hf ht ht2 hg2 => ?_)
      refine x_inc2 (p' := 17) hC rfl rfl (⟨by omega, by omega⟩) ?_
      refine x_1 (p' := 11) hC rfl rfl rfl rfl ?_
      rw [show (n : Int) + 1 = ((n + 1 : Nat) : Int) by omega]
      exact ih (n + 1) _ (by omega) (by omega) ⟨⟨Y 1, hN, ht⟩, hg2, hF.step hf, by omega⟩
set_option maxRecDepth 20000 in
set_option maxHeartbeats 2000000 in
theorem sp_m_foresee {d : Nat} {m : Nat} {h : HP} (hO : RO m h) {X : Nat → Int → Int} {Tk : (Int → Int) → (Int → Int) → Prop} {Gd : (Int → Int) → Prop} (hT : TKH d m h Tk Gd) (hGd : ∀ s, Gd s → RI s ∧ 0 ≤ s 2 ∧ s 2 ≤ 100000) (hG : Gd (X 1)) (h2 : X 1 2 ≤ 20500) {w : Int} {Q : Int → HP → Prop} (K1 : ¬ (1 ≤ w ∧ w ≤ 200) → Q (-1000001) (wX m h X)) (K : (1 ≤ w ∧ w ≤ 200) → ∀ (n : Nat) s' Z, (n : Int) = w → TkN Tk n (X 1) s' → Gd s' → KR X Z → Q (if s' 4 = 0 then -1000004 else s' (248 + 25 * (s' 5 - 1))) (wX m h Z)) : CaI (d + 9) 67 [.inr (some m), .inl w] (wX m h X) Q := by
  have hC : cod 67 = c_m_foresee := rfl
  refine CaI.start rfl ?_
  refine x_1 (p' := 1) hC rfl rfl rfl rfl ?_
  refine x_1 (p' := 2) hC rfl rfl rfl rfl ?_
  refine x_1 (p' := 3) hC rfl rfl rfl rfl ?_
  refine x_cIS3 (p' := 4) (n := 2) hC rfl rfl rfl rfl rfl ?_
  refine sp_m_in ?_
  refine x_ifne (p' := 5) hC rfl rfl (fun c4 => ?_) (fun c4 => ?_)
  · have c4 := b2i_n0.mp c4
    refine x_1 (p' := 8) hC rfl rfl rfl rfl ?_
    refine x_cVV0 (p' := 9) (n := 12) hC rfl rfl rfl rfl rfl (hO.ty) ?_
    refine sp_m_puts hO ?_
    refine x_1 (p' := 10) hC rfl rfl rfl rfl ?_
    refine x_stI2 (p' := 11) hC rfl rfl rfl ?_
    exact lp_m_foresee hO hT hGd c4 h2 K _ 0 _ (Nat.lt_succ_self _) (by omega) ⟨cpX_ne (by decide), by rw [cpX_ne (by decide)]; exact hG, FrT.puts, by rw [cpX_ne (by decide)]; omega⟩
  · have c4 := b2i_0.mp c4
    refine x_ldc (p' := 6) (v := (-1000001)) hC rfl rfl (by decide) ?_
    refine x_iret hC rfl rfl rfl ⟨_, rfl, ?_⟩
    exact K1 c4

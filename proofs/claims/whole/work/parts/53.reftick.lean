/-! the reference's ticks, sends and settings -/
/-- what a frame that comes must keep to -/
def RC (s : Int → Int) (f : Int) : Prop := (0 ≤ f ∧ f < 560) ∧ (0 ≤ rFr s f 1 ∧ rFr s f 1 < 5) ∧ (0 ≤ rFr s f 2 ∧ rFr s f 2 < 15) ∧ (1 ≤ rOf s (rFr s f 1) 4 ∧ rOf s (rFr s f 1) 4 ≤ 20) ∧ 0 ≤ rFr s f 3 ∧ rFr s f 3 ≤ 100000
set_option maxRecDepth 20000 in
theorem lp_m_tick2 {d : Nat} {m : Nat} {h : HP} (hO : RO m h) {PB : Int → Int → (Nat → Int → Int) → Prop} (hPB : ∀ dd hh X, PB dd hh X → RI (X 1) ∧ 0 ≤ hh ∧ hh ≤ X 1 0) (hSB : ∀ dd hh X, PB dd hh X → 0 ≤ dd → hh < X 1 0 → rDepth (X 1) hh = dd → ∀ {Q : HP → Prop}, (∀ X', PB dd (hh + 1) X' → Q (wX m h X')) → CaV (d + 7) 53 [.inr (some m), .inl hh] (wX m h X) Q) (hNB : ∀ dd hh X, PB dd hh X → hh < X 1 0 → ¬ rDepth (X 1) hh = dd → PB dd (hh + 1) X) (hEB : ∀ dd X, PB dd (X 1 0) X → PB (dd - 1) 0 X) {Q : HP → Prop} (K : ∀ X, PB (-1) 0 X → Q (wX m h X)) (k : Nat) : ∀ (dd : Int) (hh : Int) (X : Nat → Int → Int), (dd * 10 + 5 - hh).toNat < k → (0 ≤ dd ∧ dd ≤ 4) → (PB dd hh X) → At (d + 8) 55 26 [some (.inr (some m)), some (.inl dd), some (.inl hh)] [] (wX m h X) (fun v h' => v = none ∧ Q h') := by
  have hC : cod 55 = c_m_tick := rfl
  induction k with
  | zero =>
    intro dd hh X hk
    exact absurd hk (Nat.not_lt_zero _)
  | succ k ih =>
    intro dd hh X hk hI0 hI1
    obtain ⟨hs, hh0, hh1⟩ := hPB dd hh X hI1
    have h0 := hs.1
    have hEE : X 1 0 ≤ hh → PB (dd - 1) 0 X := fun q => hEB dd X (by rw [show X 1 0 = hh by omega]; exact hI1)
    refine x_1 (p' := 27) hC rfl rfl rfl rfl ?_
    refine x_1 (p' := 28) hC rfl rfl rfl rfl ?_
    refine y_gR (p' := 29) (n := 1) hO hC rfl rfl rfl rfl ?_
    refine x_1 (p' := 30) hC rfl rfl rfl rfl ?_
    refine y_ld (p' := 31) (L := 15568) hO hC rfl rfl rfl rfl (by omega) (by omega) ?_
    refine x_icge (p' := 32) hC rfl rfl (fun c31 => ?_) (fun c31 => ?_)
    · refine x_inc1 (p' := 43) hC rfl rfl (⟨by omega, by omega⟩) ?_
      refine x_1 (p' := 22) hC rfl rfl rfl rfl ?_
      refine x_1 (p' := 23) hC rfl rfl rfl rfl ?_
      refine x_iflt (p' := 24) hC rfl rfl (fun c23 => ?_) (fun c23 => ?_)
      · refine x_ret hC rfl rfl rfl ⟨rfl, ?_⟩
        exact K X (by rw [show (-1 : Int) = dd - 1 by omega]; exact hEE (by omega))
      · refine x_1 (p' := 25) hC rfl rfl rfl rfl ?_
        refine x_stI2 (p' := 26) hC rfl rfl rfl ?_
        first
          | exact ih _ _ X2 (by omega) (by omega) hX2
          | exact ih _ _ X (by omega) (by omega) (hNB dd hh X hI1 (by omega) (by omega))
          | exact ih _ _ X (by omega) (by omega) (hEE (by omega))
    · refine x_1 (p' := 33) hC rfl rfl rfl rfl ?_
      refine x_1 (p' := 34) hC rfl rfl rfl rfl ?_
      refine x_cIV1 (p' := 35) (n := 19) hC rfl rfl rfl rfl rfl (hO.ty) ?_
      refine sp_m_depth hO hs (by omega) ?_
      refine x_1 (p' := 36) hC rfl rfl rfl rfl ?_
      refine x_icne (p' := 37) hC rfl rfl (fun c36 => ?_) (fun c36 => ?_)
      · refine x_inc2 (p' := 41) hC rfl rfl (⟨by omega, by omega⟩) ?_
        refine x_1 (p' := 26) hC rfl rfl rfl rfl ?_
        first
          | exact ih _ _ X2 (by omega) (by omega) hX2
          | exact ih _ _ X (by omega) (by omega) (hNB dd hh X hI1 (by omega) (by omega))
          | exact ih _ _ X (by omega) (by omega) (hEE (by omega))
      · refine x_1 (p' := 38) hC rfl rfl rfl rfl ?_
        refine x_1 (p' := 39) hC rfl rfl rfl rfl ?_
        refine x_cVV1 (p' := 40) (n := 53) hC rfl rfl rfl rfl rfl (hO.ty) ?_
        refine hSB dd hh X hI1 (by omega) (by omega) (by omega) (fun X2 hX2 => ?_)
        have hR2 := hPB _ _ _ hX2
        refine x_inc2 (p' := 41) hC rfl rfl (⟨by omega, by omega⟩) ?_
        refine x_1 (p' := 26) hC rfl rfl rfl rfl ?_
        first
          | exact ih _ _ X2 (by omega) (by omega) hX2
          | exact ih _ _ X (by omega) (by omega) (hNB dd hh X hI1 (by omega) (by omega))
          | exact ih _ _ X (by omega) (by omega) (hEE (by omega))
set_option maxRecDepth 20000 in
theorem lp_m_tick {d : Nat} {m : Nat} {h : HP} (hO : RO m h) {PB : Int → Int → (Nat → Int → Int) → Prop} (hPB : ∀ dd hh X, PB dd hh X → RI (X 1) ∧ 0 ≤ hh ∧ hh ≤ X 1 0) (hSB : ∀ dd hh X, PB dd hh X → 0 ≤ dd → hh < X 1 0 → rDepth (X 1) hh = dd → ∀ {Q : HP → Prop}, (∀ X', PB dd (hh + 1) X' → Q (wX m h X')) → CaV (d + 7) 53 [.inr (some m), .inl hh] (wX m h X) Q) (hNB : ∀ dd hh X, PB dd hh X → hh < X 1 0 → ¬ rDepth (X 1) hh = dd → PB dd (hh + 1) X) (hEB : ∀ dd X, PB dd (X 1 0) X → PB (dd - 1) 0 X) {PA : Nat → (Nat → Int → Int) → Prop} (hPA : ∀ n X, PA n X → RI (X 1) ∧ (0 ≤ rNext (X 1) → RC (X 1) (rNext (X 1)))) (hSA : ∀ n X, PA n X → 0 ≤ rNext (X 1) → ∃ j, j < n ∧ PA j (setS X (rComes (X 1) (rNext (X 1))))) (hAB : ∀ n X, PA n X → rNext (X 1) < 0 → PB 4 0 X) {Q : HP → Prop} (K : ∀ X, PB (-1) 0 X → Q (wX m h X)) {z : Option AV} (k : Nat) : ∀ (n : Nat) (X : Nat → Int → Int), n < k → (PA n X) → At (d + 8) 55 11 [some (.inr (some m)), some (.inl (rNext (X 1))), z] [] (wX m h X) (fun v h' => v = none ∧ Q h') := by
  have hC : cod 55 = c_m_tick := rfl
  induction k with
  | zero =>
    intro n X hk
    exact absurd hk (Nat.not_lt_zero _)
  | succ k ih =>
    intro n X hk hI0
    obtain ⟨hs, hc⟩ := hPA n X hI0
    refine x_1 (p' := 12) hC rfl rfl rfl rfl ?_
    refine x_iflt (p' := 13) hC rfl rfl (fun c12 => ?_) (fun c12 => ?_)
    · refine x_1 (p' := 21) hC rfl rfl rfl rfl ?_
      refine x_stI1 (p' := 22) hC rfl rfl rfl ?_
      refine x_1 (p' := 23) hC rfl rfl rfl rfl ?_
      refine x_iflt (p' := 24) hC rfl rfl (fun c => absurd c (by decide)) (fun _ => ?_)
      refine x_1 (p' := 25) hC rfl rfl rfl rfl ?_
      refine x_stI2 (p' := 26) hC rfl rfl rfl ?_
      exact lp_m_tick2 hO hPB hSB hNB hEB K _ 4 0 X (Nat.lt_succ_self _) (by omega) (hAB n X hI0 (by omega))
    · refine x_1 (p' := 14) hC rfl rfl rfl rfl ?_
      refine x_1 (p' := 15) hC rfl rfl rfl rfl ?_
      refine x_cVV1 (p' := 16) (n := 44) hC rfl rfl rfl rfl rfl (hO.ty) ?_
      obtain ⟨c1, c2, c3, c4, c5⟩ := hc (by omega)
      obtain ⟨j, hj, hPj⟩ := hSA n X hI0 (by omega)
      refine sp_m_comes hO hs c1 c2 c3 c4 c5 ?_
      have hRj := (hPA j _ hPj).1
      refine x_1 (p' := 17) hC rfl rfl rfl rfl ?_
      refine x_cIV0 (p' := 18) (n := 54) hC rfl rfl rfl rfl rfl (hO.ty) ?_
      refine sp_m_nextFrame hO hRj ?_
      refine x_stI1 (p' := 19) hC rfl rfl rfl ?_
      refine x_1 (p' := 11) hC rfl rfl rfl rfl ?_
      exact ih j _ (by omega) hPj
set_option maxRecDepth 20000 in
set_option maxHeartbeats 2000000 in
theorem sp_m_tick {d : Nat} {m : Nat} {h : HP} (hO : RO m h) {PB : Int → Int → (Nat → Int → Int) → Prop} (hPB : ∀ dd hh X, PB dd hh X → RI (X 1) ∧ 0 ≤ hh ∧ hh ≤ X 1 0) (hSB : ∀ dd hh X, PB dd hh X → 0 ≤ dd → hh < X 1 0 → rDepth (X 1) hh = dd → ∀ {Q : HP → Prop}, (∀ X', PB dd (hh + 1) X' → Q (wX m h X')) → CaV (d + 7) 53 [.inr (some m), .inl hh] (wX m h X) Q) (hNB : ∀ dd hh X, PB dd hh X → hh < X 1 0 → ¬ rDepth (X 1) hh = dd → PB dd (hh + 1) X) (hEB : ∀ dd X, PB dd (X 1 0) X → PB (dd - 1) 0 X) {PA : Nat → (Nat → Int → Int) → Prop} (hPA : ∀ n X, PA n X → RI (X 1) ∧ (0 ≤ rNext (X 1) → RC (X 1) (rNext (X 1)))) (hSA : ∀ n X, PA n X → 0 ≤ rNext (X 1) → ∃ j, j < n ∧ PA j (setS X (rComes (X 1) (rNext (X 1))))) (hAB : ∀ n X, PA n X → rNext (X 1) < 0 → PB 4 0 X) {Q : HP → Prop} (K : ∀ X, PB (-1) 0 X → Q (wX m h X)) {n : Nat} {X : Nat → Int → Int} (ht : 0 ≤ X 1 2 ∧ X 1 2 ≤ 100000) (hX : PA n (setS X (ups (X 1) 2 (X 1 2 + 1)))) : CaV (d + 8) 55 [.inr (some m)] (wX m h X) Q := by
  have hC : cod 55 = c_m_tick := rfl
  refine CaV.start rfl ?_
  have hs := (hPA n _ hX).1
  refine x_1 (p' := 1) hC rfl rfl rfl rfl ?_
  refine y_gR (p' := 2) (n := 1) hO hC rfl rfl rfl rfl ?_
  refine x_1 (p' := 3) hC rfl rfl rfl rfl ?_
  refine x_1 (p' := 4) hC rfl rfl rfl rfl ?_
  refine y_ld (p' := 5) (L := 15568) hO hC rfl rfl rfl rfl (by omega) (by omega) ?_
  refine x_1 (p' := 6) hC rfl rfl rfl rfl ?_
  refine x_add (p' := 7) hC rfl rfl rfl (⟨by omega, by omega⟩) ?_
  refine y_st (p' := 8) (L := 15568) hO hC rfl rfl rfl rfl (by omega) (by omega) ?_
  simp only [upX_1, setS_setS, setS_1]
  refine x_1 (p' := 9) hC rfl rfl rfl rfl ?_
  refine x_cIV0 (p' := 10) (n := 54) hC rfl rfl rfl rfl rfl (hO.ty) ?_
  refine sp_m_nextFrame hO hs ?_
  refine x_stI1 (p' := 11) hC rfl rfl rfl ?_
  exact lp_m_tick hO hPB hSB hNB hEB hPA hSA hAB K _ n _ (Nat.lt_succ_self _) hX
set_option maxRecDepth 20000 in
theorem lp_m_passes {d : Nat} {m : Nat} {h : HP} (hO : RO m h) {n : Int} {PT : Int → (Nat → Int → Int) → Prop} (hT : ∀ i X, PT i X → 0 ≤ i → i < n → ∀ {Q : HP → Prop}, (∀ X', PT (i + 1) X' → Q (wX m h X')) → CaV (d + 8) 55 [.inr (some m)] (wX m h X) Q) {Q : Int → HP → Prop} (K3 : 1 ≤ n ∧ n ≤ 100 → ∀ X, PT n X → Q (X 1 2) (wX m h X)) (hn : 1 ≤ n ∧ n ≤ 100) (k : Nat) : ∀ (i : Int) (X : Nat → Int → Int), (n - i).toNat < k → (0 ≤ i ∧ i ≤ n) → (PT i X) → At (d + 9) 59 19 [some (.inr (some m)), some (.inl n), some (.inl i)] [] (wX m h X) (fun v h' => ∃ x, v = some (.inl x) ∧ Q x h') := by
  have hC : cod 59 = c_m_passes := rfl
  induction k with
  | zero =>
    intro i X hk
    exact absurd hk (Nat.not_lt_zero _)
  | succ k ih =>
    intro i X hk hI0 hI1
    refine x_1 (p' := 20) hC rfl rfl rfl rfl ?_
    refine x_1 (p' := 21) hC rfl rfl rfl rfl ?_
    refine x_icge (p' := 22) hC rfl rfl (fun c21 => ?_) (fun c21 => ?_)
    · refine x_1 (p' := 27) hC rfl rfl rfl rfl ?_
      refine y_gR (p' := 28) (n := 1) hO hC rfl rfl rfl rfl ?_
      refine x_1 (p' := 29) hC rfl rfl rfl rfl ?_
      refine y_ld (p' := 30) (L := 15568) hO hC rfl rfl rfl rfl (by omega) (by omega) ?_
      refine x_iret hC rfl rfl rfl ⟨_, rfl, ?_⟩
      exact K3 hn X (by rw [show n = i by omega]; exact hI1)
    · refine x_1 (p' := 23) hC rfl rfl rfl rfl ?_
      refine x_cVV0 (p' := 24) (n := 55) hC rfl rfl rfl rfl rfl (hO.ty) ?_
      refine hT i X hI1 (by omega) (by omega) (fun X2 hX2 => ?_)
      refine x_inc2 (p' := 25) hC rfl rfl (⟨by omega, by omega⟩) ?_
      refine x_1 (p' := 19) hC rfl rfl rfl rfl ?_
      exact ih _ X2 (by omega) (by omega) hX2
set_option maxRecDepth 20000 in
set_option maxHeartbeats 2000000 in
theorem sp_m_passes {d : Nat} {m : Nat} {h : HP} (hO : RO m h) {n : Int} {PT : Int → (Nat → Int → Int) → Prop} (hT : ∀ i X, PT i X → 0 ≤ i → i < n → ∀ {Q : HP → Prop}, (∀ X', PT (i + 1) X' → Q (wX m h X')) → CaV (d + 8) 55 [.inr (some m)] (wX m h X) Q) {Q : Int → HP → Prop} (K3 : 1 ≤ n ∧ n ≤ 100 → ∀ X, PT n X → Q (X 1 2) (wX m h X)) {X : Nat → Int → Int} (ht : 0 ≤ X 1 2 ∧ X 1 2 ≤ 100000) (K1 : ¬ (1 ≤ n ∧ n ≤ 100) → Q (-1000001) (wX m h X)) (K2 : 1 ≤ n ∧ n ≤ 100 → 20000 < X 1 2 + n → Q (-1000003) (wX m h X)) (hX : 1 ≤ n ∧ n ≤ 100 → X 1 2 + n ≤ 20000 → PT 0 X) : CaI (d + 9) 59 [.inr (some m), .inl n] (wX m h X) Q := by
  have hC : cod 59 = c_m_passes := rfl
  refine CaI.start rfl ?_
  refine x_1 (p' := 1) hC rfl rfl rfl rfl ?_
  refine x_1 (p' := 2) hC rfl rfl rfl rfl ?_
  refine x_1 (p' := 3) hC rfl rfl rfl rfl ?_
  refine x_cIS3 (p' := 4) (n := 2) hC rfl rfl rfl rfl rfl ?_
  refine sp_m_in ?_
  refine x_ifne (p' := 5) hC rfl rfl (fun c4 => ?_) (fun c4 => ?_)
  · have c4 := b2i_n0.mp c4
    refine x_1 (p' := 8) hC rfl rfl rfl rfl ?_
    refine y_gR (p' := 9) (n := 1) hO hC rfl rfl rfl rfl ?_
    refine x_1 (p' := 10) hC rfl rfl rfl rfl ?_
    refine y_ld (p' := 11) (L := 15568) hO hC rfl rfl rfl rfl (by omega) (by omega) ?_
    refine x_1 (p' := 12) hC rfl rfl rfl rfl ?_
    refine x_add (p' := 13) hC rfl rfl rfl (⟨by omega, by omega⟩) ?_
    refine x_1 (p' := 14) hC rfl rfl rfl rfl ?_
    refine x_icle (p' := 15) hC rfl rfl (fun c14 => ?_) (fun c14 => ?_)
    · refine x_1 (p' := 18) hC rfl rfl rfl rfl ?_
      refine x_stI2 (p' := 19) hC rfl rfl rfl ?_
      exact lp_m_passes hO hT K3 (by omega) _ 0 X (Nat.lt_succ_self _) (by omega) (hX (by omega) (by omega))
    · refine x_ldc (p' := 16) (v := (-1000003)) hC rfl rfl (by decide) ?_
      refine x_iret hC rfl rfl rfl ⟨_, rfl, ?_⟩
      exact K2 (by omega) (by omega)
  · have c4 := b2i_0.mp c4
    refine x_ldc (p' := 6) (v := (-1000001)) hC rfl rfl (by decide) ?_
    refine x_iret hC rfl rfl rfl ⟨_, rfl, ?_⟩
    exact K1 (by omega)
def rOne (s : Int → Int) (f u st v fl del : Int) : Int → Int :=
  let t := ups (ups (ups (ups (ups (ups (ups (ups (ups s (448 + 27 * f + 0) 1) (448 + 27 * f + 1) (rIts s u 0)) (448 + 27 * f + 2) u) (448 + 27 * f + 3) st) (448 + 27 * f + 4) (s 2 + del)) (448 + 27 * f + 5) (s 3)) (448 + 27 * f + 6) (oShl 1 u)) (448 + 27 * f + (7 + u)) v) (448 + 27 * f + (17 + u)) fl
  ups (ups t 3 (wr (s 3 + 1))) (58 + 4 * u + 3) (wr (rIts s u 3 + 1))
def okSend (s : Int → Int) (u st v fl del : Int) : Prop := (0 ≤ u ∧ u ≤ s 1 - 1) ∧ (0 ≤ st ∧ st ≤ 20000) ∧ (-100000 ≤ v ∧ v ≤ 100000) ∧ (0 ≤ fl ∧ fl ≤ 15) ∧ 1 ≤ del ∧ del ≤ 60
def poSend (s : Int → Int) (u st : Int) : Prop := rIts s u 2 = 0 ∧ st % rIts s u 1 = 0 ∧ st ≤ s 2
set_option maxRecDepth 20000 in
set_option maxHeartbeats 2000000 in
theorem tl_m_sendsOne {d : Nat} {m : Nat} {h : HP} (hO : RO m h) {X : Nat → Int → Int} {Q : Int → HP → Prop} {s : Int → Int} (hs : RI s) {f u st v fl del : Int} (hf : 0 ≤ f ∧ f < 560) (hu : 0 ≤ u ∧ u < 10) (hd : 0 ≤ s 2 ∧ s 2 ≤ 100000) (hdel : 1 ≤ del ∧ del ≤ 60) (K : Q (rAllWay (rOne s f u st v fl del)) (wX m h (setS X (rOne s f u st v fl del)))) : At (d + 2) 57 54 [some (.inr (some m)), some (.inl u), some (.inl st), some (.inl v), some (.inl fl), some (.inl del), some (.inl f)] [] (wX m h (setS X s)) (fun v h' => ∃ x, v = some (.inl x) ∧ Q x h') := by
  have hC : cod 57 = c_m_sendsOne := rfl
  have h7 := hs.2.2.1
  have h5 := hs.2.2.2.1
  refine x_1 (p' := 55) hC rfl rfl rfl rfl ?_
  refine x_1 (p' := 56) hC rfl rfl rfl rfl ?_
  refine x_1 (p' := 57) hC rfl rfl rfl rfl ?_
  refine x_1 (p' := 58) hC rfl rfl rfl rfl ?_
  refine x_cVV3 (p' := 59) (n := 6) hC rfl rfl rfl rfl rfl (hO.ty) ?_
  refine sp_m_lays hO (by omega) (by omega) ?_
  simp only [upX_1, setS_setS, setS_1]
  generalize e0 : ups _ (448 + 27 * f + 0) _ = t0
  have q0 : Lo s t0 := e0 ▸ Lo.up Lo.refl (by omega)
  refine x_1 (p' := 60) hC rfl rfl rfl rfl ?_
  refine x_1 (p' := 61) hC rfl rfl rfl rfl ?_
  refine x_1 (p' := 62) hC rfl rfl rfl rfl ?_
  refine x_1 (p' := 63) hC rfl rfl rfl rfl ?_
  refine x_1 (p' := 64) hC rfl rfl rfl rfl ?_
  refine x_1 (p' := 65) hC rfl rfl rfl rfl ?_
  refine x_cIV2 (p' := 66) (n := 4) hC rfl rfl rfl rfl rfl (hO.ty) ?_
  refine sp_m_its hO (by omega) (by omega) ?_
  rw [setS_1, show rIts t0 u 0 = rIts s u 0 from q0 _ (by omega)]
  refine x_cVV3 (p' := 67) (n := 6) hC rfl rfl rfl rfl rfl (hO.ty) ?_
  refine sp_m_lays hO (by omega) (by omega) ?_
  simp only [upX_1, setS_setS, setS_1]
  generalize e1 : ups _ (448 + 27 * f + 1) _ = t1
  have q1 : Lo s t1 := e1 ▸ Lo.up q0 (by omega)
  refine x_1 (p' := 68) hC rfl rfl rfl rfl ?_
  refine x_1 (p' := 69) hC rfl rfl rfl rfl ?_
  refine x_1 (p' := 70) hC rfl rfl rfl rfl ?_
  refine x_1 (p' := 71) hC rfl rfl rfl rfl ?_
  refine x_cVV3 (p' := 72) (n := 6) hC rfl rfl rfl rfl rfl (hO.ty) ?_
  refine sp_m_lays hO (by omega) (by omega) ?_
  simp only [upX_1, setS_setS, setS_1]
  generalize e2 : ups _ (448 + 27 * f + 2) _ = t2
  have q2 : Lo s t2 := e2 ▸ Lo.up q1 (by omega)
  refine x_1 (p' := 73) hC rfl rfl rfl rfl ?_
  refine x_1 (p' := 74) hC rfl rfl rfl rfl ?_
  refine x_1 (p' := 75) hC rfl rfl rfl rfl ?_
  refine x_1 (p' := 76) hC rfl rfl rfl rfl ?_
  refine x_cVV3 (p' := 77) (n := 6) hC rfl rfl rfl rfl rfl (hO.ty) ?_
  refine sp_m_lays hO (by omega) (by omega) ?_
  simp only [upX_1, setS_setS, setS_1]
  generalize e3 : ups _ (448 + 27 * f + 3) _ = t3
  have q3 : Lo s t3 := e3 ▸ Lo.up q2 (by omega)
  refine x_1 (p' := 78) hC rfl rfl rfl rfl ?_
  refine x_1 (p' := 79) hC rfl rfl rfl rfl ?_
  refine x_1 (p' := 80) hC rfl rfl rfl rfl ?_
  refine x_1 (p' := 81) hC rfl rfl rfl rfl ?_
  refine y_gR (p' := 82) (n := 1) hO hC rfl rfl rfl rfl ?_
  refine x_1 (p' := 83) hC rfl rfl rfl rfl ?_
  refine y_ld (p' := 84) (L := 15568) hO hC rfl rfl rfl rfl (by omega) (by omega) ?_
  rw [setS_1, q3 2 (by omega)]
  refine x_1 (p' := 85) hC rfl rfl rfl rfl ?_
  refine x_add (p' := 86) hC rfl rfl rfl (⟨by omega, by omega⟩) ?_
  refine x_cVV3 (p' := 87) (n := 6) hC rfl rfl rfl rfl rfl (hO.ty) ?_
  refine sp_m_lays hO (by omega) (by omega) ?_
  simp only [upX_1, setS_setS, setS_1]
  generalize e4 : ups _ (448 + 27 * f + 4) _ = t4
  have q4 : Lo s t4 := e4 ▸ Lo.up q3 (by omega)
  refine x_1 (p' := 88) hC rfl rfl rfl rfl ?_
  refine x_1 (p' := 89) hC rfl rfl rfl rfl ?_
  refine x_1 (p' := 90) hC rfl rfl rfl rfl ?_
  refine x_1 (p' := 91) hC rfl rfl rfl rfl ?_
  refine y_gR (p' := 92) (n := 1) hO hC rfl rfl rfl rfl ?_
  refine x_1 (p' := 93) hC rfl rfl rfl rfl ?_
  refine y_ld (p' := 94) (L := 15568) hO hC rfl rfl rfl rfl (by omega) (by omega) ?_
  rw [setS_1, q4 3 (by omega)]
  refine x_cVV3 (p' := 95) (n := 6) hC rfl rfl rfl rfl rfl (hO.ty) ?_
  refine sp_m_lays hO (by omega) (by omega) ?_
  simp only [upX_1, setS_setS, setS_1]
  generalize e5 : ups _ (448 + 27 * f + 5) _ = t5
  have q5 : Lo s t5 := e5 ▸ Lo.up q4 (by omega)
  refine x_1 (p' := 96) hC rfl rfl rfl rfl ?_
  refine x_1 (p' := 97) hC rfl rfl rfl rfl ?_
  refine x_1 (p' := 98) hC rfl rfl rfl rfl ?_
  refine x_1 (p' := 99) hC rfl rfl rfl rfl ?_
  refine x_1 (p' := 100) hC rfl rfl rfl rfl ?_
  refine x_1 (p' := 101) hC rfl rfl rfl rfl ?_
  refine x_cVV3 (p' := 102) (n := 6) hC rfl rfl rfl rfl rfl (hO.ty) ?_
  refine sp_m_lays hO (by omega) (by omega) ?_
  simp only [upX_1, setS_setS, setS_1]
  generalize e6 : ups _ (448 + 27 * f + 6) _ = t6
  have q6 : Lo s t6 := e6 ▸ Lo.up q5 (by omega)
  refine x_1 (p' := 103) hC rfl rfl rfl rfl ?_
  refine x_1 (p' := 104) hC rfl rfl rfl rfl ?_
  refine x_1 (p' := 105) hC rfl rfl rfl rfl ?_
  refine x_1 (p' := 106) hC rfl rfl rfl rfl ?_
  refine x_add (p' := 107) hC rfl rfl rfl (⟨by omega, by omega⟩) ?_
  refine x_1 (p' := 108) hC rfl rfl rfl rfl ?_
  refine x_cVV3 (p' := 109) (n := 6) hC rfl rfl rfl rfl rfl (hO.ty) ?_
  refine sp_m_lays hO (by omega) (by omega) ?_
  simp only [upX_1, setS_setS, setS_1]
  generalize e7 : ups _ (448 + 27 * f + (7 + u)) _ = t7
  have q7 : Lo s t7 := e7 ▸ Lo.up q6 (by omega)
  refine x_1 (p' := 110) hC rfl rfl rfl rfl ?_
  refine x_1 (p' := 111) hC rfl rfl rfl rfl ?_
  refine x_1 (p' := 112) hC rfl rfl rfl rfl ?_
  refine x_1 (p' := 113) hC rfl rfl rfl rfl ?_
  refine x_add (p' := 114) hC rfl rfl rfl (⟨by omega, by omega⟩) ?_
  refine x_1 (p' := 115) hC rfl rfl rfl rfl ?_
  refine x_cVV3 (p' := 116) (n := 6) hC rfl rfl rfl rfl rfl (hO.ty) ?_
  refine sp_m_lays hO (by omega) (by omega) ?_
  simp only [upX_1, setS_setS, setS_1]
  generalize e8 : ups _ (448 + 27 * f + (17 + u)) _ = t8
  have q8 : Lo s t8 := e8 ▸ Lo.up q7 (by omega)
  refine x_1 (p' := 117) hC rfl rfl rfl rfl ?_
  refine y_gR (p' := 118) (n := 1) hO hC rfl rfl rfl rfl ?_
  refine x_1 (p' := 119) hC rfl rfl rfl rfl ?_
  refine x_1 (p' := 120) hC rfl rfl rfl rfl ?_
  refine y_ld (p' := 121) (L := 15568) hO hC rfl rfl rfl rfl (by omega) (by omega) ?_
  rw [setS_1, q8 3 (by omega)]
  refine x_1 (p' := 122) hC rfl rfl rfl rfl ?_
  refine x_1 (p' := 123) hC rfl rfl rfl rfl ?_
  refine y_st (p' := 124) (L := 15568) hO hC rfl rfl rfl rfl (by omega) (by omega) ?_
  simp only [upX_1, setS_setS, setS_1]
  refine x_1 (p' := 125) hC rfl rfl rfl rfl ?_
  refine y_gR (p' := 126) (n := 1) hO hC rfl rfl rfl rfl ?_
  refine x_1 (p' := 127) hC rfl rfl rfl rfl ?_
  refine x_1 (p' := 128) hC rfl rfl rfl rfl ?_
  refine x_1 (p' := 129) hC rfl rfl rfl rfl ?_
  refine x_mul (p' := 130) hC rfl rfl rfl (⟨by omega, by omega⟩) ?_
  refine x_add (p' := 131) hC rfl rfl rfl (⟨by omega, by omega⟩) ?_
  refine x_1 (p' := 132) hC rfl rfl rfl rfl ?_
  refine x_add (p' := 133) hC rfl rfl rfl (⟨by omega, by omega⟩) ?_
  refine x_1 (p' := 134) hC rfl rfl rfl rfl ?_
  refine y_ld (p' := 135) (L := 15568) hO hC rfl rfl rfl rfl (by omega) (by omega) ?_
  rw [setS_1, ups_ne (by omega), show t8 (58 + 4 * u + 3) = rIts s u 3 from q8 _ (by omega)]
  refine x_1 (p' := 136) hC rfl rfl rfl rfl ?_
  refine x_1 (p' := 137) hC rfl rfl rfl rfl ?_
  refine y_st (p' := 138) (L := 15568) hO hC rfl rfl rfl rfl (by omega) (by omega) ?_
  simp only [upX_1, setS_setS, setS_1]
  refine x_1 (p' := 139) hC rfl rfl rfl rfl ?_
  refine x_cIV0 (p' := 140) (n := 56) hC rfl rfl rfl rfl rfl (hO.ty) ?_
  refine sp_m_allOnWay hO ?_ ?_
  · rw [setS_1]
    have hz := q8.ri hs
    refine hz.congr ?_ ?_ ?_ ?_ (fun g _ _ => ⟨?_, ?_⟩) (fun a _ _ => ⟨?_, ?_⟩)
    · rw [ups_ne (by omega), ups_ne (by omega)]
    · rw [ups_ne (by omega), ups_ne (by omega)]
    · rw [ups_ne (by omega), ups_ne (by omega)]; exact hz.2.2.1
    · rw [ups_ne (by omega), ups_ne (by omega)]; exact hz.2.2.2.1
    · exact (ups_ne (by omega)).trans (ups_ne (by omega))
    · exact (ups_ne (by omega)).trans (ups_ne (by omega))
    · exact (ups_ne (by omega)).trans (ups_ne (by omega))
    · exact (ups_ne (by omega)).trans (ups_ne (by omega))
  rw [setS_1]
  refine x_iret hC rfl rfl rfl ⟨_, rfl, ?_⟩
  subst e8 e7 e6 e5 e4 e3 e2 e1 e0
  exact K
set_option maxRecDepth 20000 in
set_option maxHeartbeats 2000000 in
theorem sp_m_sendsOne {d : Nat} {m : Nat} {h : HP} (hO : RO m h) {X : Nat → Int → Int} (hs : RI (X 1)) {u st v fl del : Int} (hd : 0 ≤ X 1 2 ∧ X 1 2 ≤ 100000) {Q : Int → HP → Prop} (K1 : ¬ okSend (X 1) u st v fl del → Q (-1000001) (wX m h X)) (K2 : okSend (X 1) u st v fl del → ¬ poSend (X 1) u st → Q (-1000002) (wX m h X)) (K3 : okSend (X 1) u st v fl del → poSend (X 1) u st → 40 ≤ rAllWay (X 1) → Q (-1000003) (wX m h X)) (K4 : okSend (X 1) u st v fl del → poSend (X 1) u st → rAllWay (X 1) < 40 → Q (rAllWay (rOne (rFreed (X 1)) (rFree (X 1)) u st v fl del)) (wX m h (setS X (rOne (rFreed (X 1)) (rFree (X 1)) u st v fl del)))) : CaI (d + 2) 57 [.inr (some m), .inl u, .inl st, .inl v, .inl fl, .inl del] (wX m h X) Q := by
  have hC : cod 57 = c_m_sendsOne := rfl
  refine CaI.start rfl ?_
  have hs1 := hs.2.1
  have hfl := rFree_le hs
  have h7 := hs.2.2.1
  have hper := fun q => hs.2.2.2.2.2 u q
  refine x_1 (p' := 1) hC rfl rfl rfl rfl ?_
  refine x_1 (p' := 2) hC rfl rfl rfl rfl ?_
  refine x_cIV1 (p' := 3) (n := 8) hC rfl rfl rfl rfl rfl (hO.ty) ?_
  refine sp_m_isUnit hO hs.2.1 ?_
  refine x_ifeq (p' := 4) hC rfl rfl (fun c3 => ?_) (fun c3 => ?_)
  · have c3 := b2i_0.mp c3
    refine x_ldc (p' := 25) (v := (-1000001)) hC rfl rfl (by decide) ?_
    refine x_iret hC rfl rfl rfl ⟨_, rfl, ?_⟩
    exact K1 (by unfold okSend; omega)
  · have c3 := b2i_n0.mp c3
    refine x_1 (p' := 5) hC rfl rfl rfl rfl ?_
    refine x_1 (p' := 6) hC rfl rfl rfl rfl ?_
    refine x_1 (p' := 7) hC rfl rfl rfl rfl ?_
    refine x_cIS3 (p' := 8) (n := 2) hC rfl rfl rfl rfl rfl ?_
    refine sp_m_in ?_
    refine x_ifeq (p' := 9) hC rfl rfl (fun c8 => ?_) (fun c8 => ?_)
    · have c8 := b2i_0.mp c8
      refine x_ldc (p' := 25) (v := (-1000001)) hC rfl rfl (by decide) ?_
      refine x_iret hC rfl rfl rfl ⟨_, rfl, ?_⟩
      exact K1 (by unfold okSend; omega)
    · have c8 := b2i_n0.mp c8
      refine x_1 (p' := 10) hC rfl rfl rfl rfl ?_
      refine x_ldc (p' := 11) (v := (-100000)) hC rfl rfl (by decide) ?_
      refine x_ldc (p' := 12) (v := 100000) hC rfl rfl (by decide) ?_
      refine x_cIS3 (p' := 13) (n := 2) hC rfl rfl rfl rfl rfl ?_
      refine sp_m_in ?_
      refine x_ifeq (p' := 14) hC rfl rfl (fun c13 => ?_) (fun c13 => ?_)
      · have c13 := b2i_0.mp c13
        refine x_ldc (p' := 25) (v := (-1000001)) hC rfl rfl (by decide) ?_
        refine x_iret hC rfl rfl rfl ⟨_, rfl, ?_⟩
        exact K1 (by unfold okSend; omega)
      · have c13 := b2i_n0.mp c13
        refine x_1 (p' := 15) hC rfl rfl rfl rfl ?_
        refine x_1 (p' := 16) hC rfl rfl rfl rfl ?_
        refine x_1 (p' := 17) hC rfl rfl rfl rfl ?_
        refine x_cIS3 (p' := 18) (n := 2) hC rfl rfl rfl rfl rfl ?_
        refine sp_m_in ?_
        refine x_ifeq (p' := 19) hC rfl rfl (fun c18 => ?_) (fun c18 => ?_)
        · have c18 := b2i_0.mp c18
          refine x_ldc (p' := 25) (v := (-1000001)) hC rfl rfl (by decide) ?_
          refine x_iret hC rfl rfl rfl ⟨_, rfl, ?_⟩
          exact K1 (by unfold okSend; omega)
        · have c18 := b2i_n0.mp c18
          refine x_1 (p' := 20) hC rfl rfl rfl rfl ?_
          refine x_1 (p' := 21) hC rfl rfl rfl rfl ?_
          refine x_1 (p' := 22) hC rfl rfl rfl rfl ?_
          refine x_cIS3 (p' := 23) (n := 2) hC rfl rfl rfl rfl rfl ?_
          refine sp_m_in ?_
          refine x_ifne (p' := 24) hC rfl rfl (fun c23 => ?_) (fun c23 => ?_)
          · have c23 := b2i_n0.mp c23
            refine x_1 (p' := 27) hC rfl rfl rfl rfl ?_
            refine x_1 (p' := 28) hC rfl rfl rfl rfl ?_
            refine x_cIV1 (p' := 29) (n := 9) hC rfl rfl rfl rfl rfl (hO.ty) ?_
            refine sp_m_isOn hO (by omega) ?_
            refine x_ifeq (p' := 30) hC rfl rfl (fun c29 => ?_) (fun c29 => ?_)
            · have c29 := b2i_0.mp c29
              refine x_ldc (p' := 44) (v := (-1000002)) hC rfl rfl (by decide) ?_
              refine x_iret hC rfl rfl rfl ⟨_, rfl, ?_⟩
              exact K2 (by unfold okSend; omega) (by unfold poSend; omega)
            · have c29 := b2i_n0.mp c29
              refine x_1 (p' := 31) hC rfl rfl rfl rfl ?_
              refine x_1 (p' := 32) hC rfl rfl rfl rfl ?_
              refine x_1 (p' := 33) hC rfl rfl rfl rfl ?_
              refine x_1 (p' := 34) hC rfl rfl rfl rfl ?_
              refine x_cIV2 (p' := 35) (n := 4) hC rfl rfl rfl rfl rfl (hO.ty) ?_
              refine sp_m_its hO (by omega) (by omega) ?_
              refine x_rem (p' := 36) hC rfl rfl rfl (by have := hper (by omega) (by omega); omega) ?_
              rw [wr_tmod (by omega) (by have := hper (by omega) (by omega); omega) (by have := hper (by omega) (by omega); omega)]
              refine x_ifne (p' := 37) hC rfl rfl (fun c36 => ?_) (fun c36 => ?_)
              · refine x_ldc (p' := 44) (v := (-1000002)) hC rfl rfl (by decide) ?_
                refine x_iret hC rfl rfl rfl ⟨_, rfl, ?_⟩
                exact K2 (by unfold okSend; omega) (by unfold poSend; omega)
              · refine x_1 (p' := 38) hC rfl rfl rfl rfl ?_
                refine x_1 (p' := 39) hC rfl rfl rfl rfl ?_
                refine y_gR (p' := 40) (n := 1) hO hC rfl rfl rfl rfl ?_
                refine x_1 (p' := 41) hC rfl rfl rfl rfl ?_
                refine y_ld (p' := 42) (L := 15568) hO hC rfl rfl rfl rfl (by omega) (by omega) ?_
                refine x_icle (p' := 43) hC rfl rfl (fun c42 => ?_) (fun c42 => ?_)
                · refine x_1 (p' := 46) hC rfl rfl rfl rfl ?_
                  refine x_cIV0 (p' := 47) (n := 56) hC rfl rfl rfl rfl rfl (hO.ty) ?_
                  refine sp_m_allOnWay hO hs ?_
                  refine x_1 (p' := 48) hC rfl rfl rfl rfl ?_
                  refine x_iclt (p' := 49) hC rfl rfl (fun c48 => ?_) (fun c48 => ?_)
                  · refine x_1 (p' := 52) hC rfl rfl rfl rfl ?_
                    refine x_cIV0 (p' := 53) (n := 43) hC rfl rfl rfl rfl rfl (hO.ty) ?_
                    refine sp_m_free hO hs ?_
                    refine x_stI6 (p' := 54) hC rfl rfl rfl ?_
                    refine tl_m_sendsOne hO (RI.freed hs) (by omega) (by omega) ?_ (by omega) ?_
                    · rw [show rFreed (X 1) 2 = X 1 2 from ups_ne (by omega)]; exact hd
                    · exact K4 (by unfold okSend; omega) (by unfold poSend; omega) (by omega)
                  · refine x_ldc (p' := 50) (v := (-1000003)) hC rfl rfl (by decide) ?_
                    refine x_iret hC rfl rfl rfl ⟨_, rfl, ?_⟩
                    exact K3 (by unfold okSend; omega) (by unfold poSend; omega) (by omega)
                · refine x_ldc (p' := 44) (v := (-1000002)) hC rfl rfl (by decide) ?_
                  refine x_iret hC rfl rfl rfl ⟨_, rfl, ?_⟩
                  exact K2 (by unfold okSend; omega) (by unfold poSend; omega)
          · have c23 := b2i_0.mp c23
            refine x_ldc (p' := 25) (v := (-1000001)) hC rfl rfl (by decide) ?_
            refine x_iret hC rfl rfl rfl ⟨_, rfl, ?_⟩
            exact K1 (by unfold okSend; omega)

/-! the reference's face: what it answers -/
theorem x_tswt {d y pos : Nat} {ls : List (Option AV)} {h : HP} {Q : Option AV → HP → Prop} {df lo hi v : Int} {offs : Array Int} {a b w : Nat} {sw : List Nat} {r : List AV} {x : Int} (hI : (cod y)[pos]? = some (.tableswitch df lo hi offs, v, a, b, w, sw)) (k0 : Nat) {t : Nat} (hk : (if x < lo ∨ hi < x then 0 else (x - lo).toNat + 1) = k0) (ht : sw[k0]? = some t) (K : At d y t ls r h Q) : At d y pos ls (.inl x :: r) h Q :=
  x_tsw rfl hI (fun t' ht' => by rw [hk, ht] at ht'; cases ht'; exact K) ⟨t, by rw [hk]; exact ht⟩
noncomputable def rHubOf (s : Int → Int) (g w : Int) : Int := if ¬ (isH s g ∧ 0 ≤ w ∧ w ≤ 14) then -1000001 else if w < 5 then rOf s g w else if w = 5 then (if g = 0 then -1000004 else rOf s g 5) else if w = 6 then rDepth s g else if w = 7 then rChildren s g else if w = 8 then rUnitsOf s g else if w = 9 then rSls s g (-1) else if w = 10 then rOf s g 6 else if w = 11 then rOf s g 7 else if w = 12 then rOf s g 8 else if w = 13 then (if rOf s g 6 = 0 then -1000004 else rOf s g 9) else rOnWay s (10 + g)
noncomputable def rNS (s : Int → Int) (g : Int) : Nat → Int → Int → Int
  | 0, _, sl => sl
  | n + 1, k, sl => if 0 < k ∧ 0 ≤ sl then rNS s g n (k - 1) (rBehind s g sl) else sl
theorem rNS_st {s : Int → Int} (hs : RI s) (hf : RF s) {g : Int} : ∀ (n j : Nat) (k sl : Int), (sl < 0 ∨ (100001 - sl ≤ n ∧ 100001 - sl ≤ j)) → sl ≤ 100000 → rNS s g n k sl = rNS s g j k sl
  | 0, 0, _, _, _, _ => rfl
  | 0, j + 1, k, sl, h, h2 => by unfold rNS; rw [if_neg (by omega)]
  | n + 1, 0, k, sl, h, h2 => by unfold rNS; rw [if_neg (by omega)]
  | n + 1, j + 1, k, sl, h, h2 => by
    unfold rNS
    by_cases hc : 0 < k ∧ 0 ≤ sl
    · rw [if_pos hc, if_pos hc]
      rcases rBehind_rng hs hf (g := g) (sl := sl) with hb | hb
      · exact rNS_st hs hf n j _ _ (Or.inl (by omega)) (by omega)
      · exact rNS_st hs hf n j _ _ (Or.inr (by omega)) (by omega)
    · rw [if_neg hc, if_neg hc]
/-- the slot k places behind sl -/
noncomputable def rNth (s : Int → Int) (g k sl : Int) : Int := rNS s g (100001 - sl).toNat k sl
theorem rNth_eq {s : Int → Int} (hs : RI s) (hf : RF s) {g k sl : Int} (h : -1 ≤ sl ∧ sl ≤ 100000) : rNth s g k sl = if 0 < k ∧ 0 ≤ sl then rNth s g (k - 1) (rBehind s g sl) else sl := by
  unfold rNth
  rw [show (100001 - sl).toNat = (100000 - sl).toNat + 1 by omega, rNS]
  by_cases hc : 0 < k ∧ 0 ≤ sl
  · rw [if_pos hc, if_pos hc]
    rcases rBehind_rng hs hf (g := g) (sl := sl) with hb | hb
    · exact rNS_st hs hf _ _ _ _ (Or.inl (by omega)) (by omega)
    · exact rNS_st hs hf _ _ _ _ (Or.inr (by omega)) (by omega)
  · rw [if_neg hc, if_neg hc]
noncomputable def rSlotOf (s : Int → Int) (g b w : Int) : Int := if b < 0 then -1000004 else if w = 0 then b else if w = 1 then rFirst s g b else if w = 2 then rFrames s g (-1) b else if w = 3 then rExpected s g b else if w = 4 then b2i (rCompl s g b) else rLasts s g b
noncomputable def rSlotAt (s : Int → Int) (g k w : Int) : Int := if ¬ (isH s g ∧ 0 ≤ k ∧ 0 ≤ w ∧ w ≤ 5) then -1000001 else rSlotOf s g (rNth s g k (rBehind s g (-1))) w
noncomputable def rCount (X : Nat → Int → Int) (w : Int) : Int := if w = 0 then X 1 0 else if w = 1 then rOn (X 1) else if w = 2 then X 1 2 else if w = 3 then rAllWay (X 1) else if w = 4 then X 1 4 else if w = 5 then X 1 5 else if w = 6 then rSum (X 1) 7 else if w = 7 then rSum (X 1) 8 else if w = 8 then (if X 1 4 = 0 then -1000004 else X 1 6) else if w = 9 then X 0 4 else if w = 10 then X 0 6 else -1000001
set_option maxRecDepth 20000 in
set_option maxHeartbeats 2000000 in
theorem sp_m_hubOf {d : Nat} {m : Nat} {h : HP} (hO : RO m h) {X : Nat → Int → Int} (hs : RI (X 1)) (hf : RF (X 1)) {g w : Int} {Q : Int → HP → Prop} (K : Q (rHubOf (X 1) g w) (wX m h X)) : CaI (d + 4) 30 [.inr (some m), .inl g, .inl w] (wX m h X) Q := by
  have hC : cod 30 = c_m_hubOf := rfl
  refine CaI.start rfl ?_
  have h0 := hs.1
  refine x_1 (p' := 1) hC rfl rfl rfl rfl ?_
  refine x_1 (p' := 2) hC rfl rfl rfl rfl ?_
  refine x_cIV1 (p' := 3) (n := 7) hC rfl rfl rfl rfl rfl (hO.ty) ?_
  refine sp_m_isHub hO (by have := hs.1; omega) ?_
  refine x_ifeq (p' := 4) hC rfl rfl (fun c3 => ?_) (fun c3 => ?_)
  · have c3 := b2i_0.mp c3
    refine x_ldc (p' := 10) (v := (-1000001)) hC rfl rfl (by decide) ?_
    refine x_iret hC rfl rfl rfl ⟨_, rfl, ?_⟩
    refine eqK K ?_
    unfold rHubOf
    repeat (first | rw [if_pos (by omega)] | rw [if_neg (by omega)])
  · have c3 := b2i_n0.mp c3
    refine x_1 (p' := 5) hC rfl rfl rfl rfl ?_
    refine x_1 (p' := 6) hC rfl rfl rfl rfl ?_
    refine x_1 (p' := 7) hC rfl rfl rfl rfl ?_
    refine x_cIS3 (p' := 8) (n := 2) hC rfl rfl rfl rfl rfl ?_
    refine sp_m_in ?_
    refine x_ifne (p' := 9) hC rfl rfl (fun c8 => ?_) (fun c8 => ?_)
    · have c8 := b2i_n0.mp c8
      refine x_1 (p' := 12) hC rfl rfl rfl rfl ?_
      rcases (show (w < 5 ∨ 14 < w) ∨ w = 5 ∨ w = 6 ∨ w = 7 ∨ w = 8 ∨ w = 9 ∨ w = 10 ∨ w = 11 ∨ w = 12 ∨ w = 13 ∨ w = 14 by omega) with htw | htw | htw | htw | htw | htw | htw | htw | htw | htw | htw
      · refine x_tswt (t := 71) rfl 0 (if_pos htw) rfl ?_
        refine x_1 (p' := 72) hC rfl rfl rfl rfl ?_
        refine x_1 (p' := 73) hC rfl rfl rfl rfl ?_
        refine x_1 (p' := 74) hC rfl rfl rfl rfl ?_
        refine x_cIV2 (p' := 75) (n := 3) hC rfl rfl rfl rfl rfl (hO.ty) ?_
        refine sp_m_of hO (by omega) (by omega) ?_
        refine x_iret hC rfl rfl rfl ⟨_, rfl, ?_⟩
        refine eqK K ?_
        unfold rHubOf
        repeat (first | rw [if_pos (by omega)] | rw [if_neg (by omega)])
      · refine x_tswt (t := 13) rfl 1 ((if_neg (by omega)).trans (by omega)) rfl ?_
        refine x_1 (p' := 14) hC rfl rfl rfl rfl ?_
        refine x_ifne (p' := 15) hC rfl rfl (fun c14 => ?_) (fun c14 => ?_)
        · refine x_1 (p' := 18) hC rfl rfl rfl rfl ?_
          refine x_1 (p' := 19) hC rfl rfl rfl rfl ?_
          refine x_1 (p' := 20) hC rfl rfl rfl rfl ?_
          refine x_cIV2 (p' := 21) (n := 3) hC rfl rfl rfl rfl rfl (hO.ty) ?_
          refine sp_m_of hO (by omega) (by omega) ?_
          refine x_iret hC rfl rfl rfl ⟨_, rfl, ?_⟩
          refine eqK K ?_
          unfold rHubOf
          repeat (first | rw [if_pos (by omega)] | rw [if_neg (by omega)])
        · refine x_ldc (p' := 16) (v := (-1000004)) hC rfl rfl (by decide) ?_
          refine x_1 (p' := 21) hC rfl rfl rfl rfl ?_
          refine x_iret hC rfl rfl rfl ⟨_, rfl, ?_⟩
          refine eqK K ?_
          unfold rHubOf
          repeat (first | rw [if_pos (by omega)] | rw [if_neg (by omega)])
      · refine x_tswt (t := 22) rfl 2 ((if_neg (by omega)).trans (by omega)) rfl ?_
        refine x_1 (p' := 23) hC rfl rfl rfl rfl ?_
        refine x_1 (p' := 24) hC rfl rfl rfl rfl ?_
        refine x_cIV1 (p' := 25) (n := 19) hC rfl rfl rfl rfl rfl (hO.ty) ?_
        refine sp_m_depth hO hs (by omega) ?_
        refine x_iret hC rfl rfl rfl ⟨_, rfl, ?_⟩
        refine eqK K ?_
        unfold rHubOf
        repeat (first | rw [if_pos (by omega)] | rw [if_neg (by omega)])
      · refine x_tswt (t := 26) rfl 3 ((if_neg (by omega)).trans (by omega)) rfl ?_
        refine x_1 (p' := 27) hC rfl rfl rfl rfl ?_
        refine x_1 (p' := 28) hC rfl rfl rfl rfl ?_
        refine x_cIV1 (p' := 29) (n := 27) hC rfl rfl rfl rfl rfl (hO.ty) ?_
        refine sp_m_children hO hs ?_
        refine x_iret hC rfl rfl rfl ⟨_, rfl, ?_⟩
        refine eqK K ?_
        unfold rHubOf
        repeat (first | rw [if_pos (by omega)] | rw [if_neg (by omega)])
      · refine x_tswt (t := 30) rfl 4 ((if_neg (by omega)).trans (by omega)) rfl ?_
        refine x_1 (p' := 31) hC rfl rfl rfl rfl ?_
        refine x_1 (p' := 32) hC rfl rfl rfl rfl ?_
        refine x_cIV1 (p' := 33) (n := 28) hC rfl rfl rfl rfl rfl (hO.ty) ?_
        refine sp_m_unitsOf hO hs (by omega) ?_
        refine x_iret hC rfl rfl rfl ⟨_, rfl, ?_⟩
        refine eqK K ?_
        unfold rHubOf
        repeat (first | rw [if_pos (by omega)] | rw [if_neg (by omega)])
      · refine x_tswt (t := 34) rfl 5 ((if_neg (by omega)).trans (by omega)) rfl ?_
        refine x_1 (p' := 35) hC rfl rfl rfl rfl ?_
        refine x_1 (p' := 36) hC rfl rfl rfl rfl ?_
        refine x_cIV1 (p' := 37) (n := 35) hC rfl rfl rfl rfl rfl (hO.ty) ?_
        refine sp_m_slots hO hs hf ?_
        refine x_iret hC rfl rfl rfl ⟨_, rfl, ?_⟩
        refine eqK K ?_
        unfold rHubOf
        repeat (first | rw [if_pos (by omega)] | rw [if_neg (by omega)])
      · refine x_tswt (t := 38) rfl 6 ((if_neg (by omega)).trans (by omega)) rfl ?_
        refine x_1 (p' := 39) hC rfl rfl rfl rfl ?_
        refine x_1 (p' := 40) hC rfl rfl rfl rfl ?_
        refine x_1 (p' := 41) hC rfl rfl rfl rfl ?_
        refine x_cIV2 (p' := 42) (n := 3) hC rfl rfl rfl rfl rfl (hO.ty) ?_
        refine sp_m_of hO (by omega) (by omega) ?_
        refine x_iret hC rfl rfl rfl ⟨_, rfl, ?_⟩
        refine eqK K ?_
        unfold rHubOf
        repeat (first | rw [if_pos (by omega)] | rw [if_neg (by omega)])
      · refine x_tswt (t := 43) rfl 7 ((if_neg (by omega)).trans (by omega)) rfl ?_
        refine x_1 (p' := 44) hC rfl rfl rfl rfl ?_
        refine x_1 (p' := 45) hC rfl rfl rfl rfl ?_
        refine x_1 (p' := 46) hC rfl rfl rfl rfl ?_
        refine x_cIV2 (p' := 47) (n := 3) hC rfl rfl rfl rfl rfl (hO.ty) ?_
        refine sp_m_of hO (by omega) (by omega) ?_
        refine x_iret hC rfl rfl rfl ⟨_, rfl, ?_⟩
        refine eqK K ?_
        unfold rHubOf
        repeat (first | rw [if_pos (by omega)] | rw [if_neg (by omega)])
      · refine x_tswt (t := 48) rfl 8 ((if_neg (by omega)).trans (by omega)) rfl ?_
        refine x_1 (p' := 49) hC rfl rfl rfl rfl ?_
        refine x_1 (p' := 50) hC rfl rfl rfl rfl ?_
        refine x_1 (p' := 51) hC rfl rfl rfl rfl ?_
        refine x_cIV2 (p' := 52) (n := 3) hC rfl rfl rfl rfl rfl (hO.ty) ?_
        refine sp_m_of hO (by omega) (by omega) ?_
        refine x_iret hC rfl rfl rfl ⟨_, rfl, ?_⟩
        refine eqK K ?_
        unfold rHubOf
        repeat (first | rw [if_pos (by omega)] | rw [if_neg (by omega)])
      · refine x_tswt (t := 53) rfl 9 ((if_neg (by omega)).trans (by omega)) rfl ?_
        refine x_1 (p' := 54) hC rfl rfl rfl rfl ?_
        refine x_1 (p' := 55) hC rfl rfl rfl rfl ?_
        refine x_1 (p' := 56) hC rfl rfl rfl rfl ?_
        refine x_cIV2 (p' := 57) (n := 3) hC rfl rfl rfl rfl rfl (hO.ty) ?_
        refine sp_m_of hO (by omega) (by omega) ?_
        refine x_ifne (p' := 58) hC rfl rfl (fun c57 => ?_) (fun c57 => ?_)
        · refine x_1 (p' := 61) hC rfl rfl rfl rfl ?_
          refine x_1 (p' := 62) hC rfl rfl rfl rfl ?_
          refine x_1 (p' := 63) hC rfl rfl rfl rfl ?_
          refine x_cIV2 (p' := 64) (n := 3) hC rfl rfl rfl rfl rfl (hO.ty) ?_
          refine sp_m_of hO (by omega) (by omega) ?_
          refine x_iret hC rfl rfl rfl ⟨_, rfl, ?_⟩
          refine eqK K ?_
          unfold rHubOf
          repeat (first | rw [if_pos (by omega)] | rw [if_neg (by omega)])
        · refine x_ldc (p' := 59) (v := (-1000004)) hC rfl rfl (by decide) ?_
          refine x_1 (p' := 64) hC rfl rfl rfl rfl ?_
          refine x_iret hC rfl rfl rfl ⟨_, rfl, ?_⟩
          refine eqK K ?_
          unfold rHubOf
          repeat (first | rw [if_pos (by omega)] | rw [if_neg (by omega)])
      · refine x_tswt (t := 65) rfl 10 ((if_neg (by omega)).trans (by omega)) rfl ?_
        refine x_1 (p' := 66) hC rfl rfl rfl rfl ?_
        refine x_1 (p' := 67) hC rfl rfl rfl rfl ?_
        refine x_1 (p' := 68) hC rfl rfl rfl rfl ?_
        refine x_add (p' := 69) hC rfl rfl rfl (⟨by omega, by omega⟩) ?_
        refine x_cIV1 (p' := 70) (n := 29) hC rfl rfl rfl rfl rfl (hO.ty) ?_
        refine sp_m_onWay hO hs ?_
        refine x_iret hC rfl rfl rfl ⟨_, rfl, ?_⟩
        refine eqK K ?_
        unfold rHubOf
        repeat (first | rw [if_pos (by omega)] | rw [if_neg (by omega)])
    · have c8 := b2i_0.mp c8
      refine x_ldc (p' := 10) (v := (-1000001)) hC rfl rfl (by decide) ?_
      refine x_iret hC rfl rfl rfl ⟨_, rfl, ?_⟩
      refine eqK K ?_
      unfold rHubOf
      repeat (first | rw [if_pos (by omega)] | rw [if_neg (by omega)])
set_option maxRecDepth 20000 in
theorem lp_m_slotAt {d : Nat} {m : Nat} {h : HP} (hO : RO m h) {X : Nat → Int → Int} (hs : RI (X 1)) (hf : RF (X 1)) (hw : ∀ g, 0 ≤ g → g < X 1 0 → 0 ≤ rOf (X 1) g 0 ∧ rOf (X 1) g 0 ≤ 40) (ht : 0 ≤ X 1 2 ∧ X 1 2 ≤ 100000) {g jx w : Int} (hg : 0 ≤ g ∧ g < X 1 0) (hww : 0 ≤ w ∧ w ≤ 5) {Q : Int → HP → Prop} (K : Q (rSlotOf (X 1) g (rNth (X 1) g jx (rBehind (X 1) g (-1))) w) (wX m h X)) (k : Nat) : ∀ (b : Int) (i : Int), (jx - i).toNat < k → (-1 ≤ b ∧ b ≤ 100000) → (0 ≤ i ∧ i ≤ 100001 ∧ (b < 0 ∨ i ≤ b)) → (rNth (X 1) g jx (rBehind (X 1) g (-1)) = rNth (X 1) g (jx - i) b) → At (d + 5) 61 20 [some (.inr (some m)), some (.inl g), some (.inl jx), some (.inl w), some (.inl b), some (.inl i)] [] (wX m h X) (fun v h' => ∃ x, v = some (.inl x) ∧ Q x h') := by
  have hC : cod 61 = c_m_slotAt := rfl
  induction k with
  | zero =>
    intro b i hk
    exact absurd hk (Nat.not_lt_zero _)
  | succ k ih =>
    intro b i hk hI0 hI1 hI2
    have h0 := hs.1
    have hb := rBehind_rng hs hf (g := g) (sl := b)
    have hq := rNth_eq hs hf (g := g) (k := jx - i) hI0
    have hR : jx - i ≤ 0 ∨ b < 0 → rNth (X 1) g jx (rBehind (X 1) g (-1)) = b := fun q => by rw [hI2, hq, if_neg (by omega)]
    refine x_1 (p' := 21) hC rfl rfl rfl rfl ?_
    refine x_1 (p' := 22) hC rfl rfl rfl rfl ?_
    refine x_icge (p' := 23) hC rfl rfl (fun c22 => ?_) (fun c22 => ?_)
    · refine x_1 (p' := 33) hC rfl rfl rfl rfl ?_
      refine x_ifge (p' := 34) hC rfl rfl (fun c33 => ?_) (fun c33 => ?_)
      · refine x_1 (p' := 37) hC rfl rfl rfl rfl ?_
        rcases (show (w < 0 ∨ 4 < w) ∨ w = 0 ∨ w = 1 ∨ w = 2 ∨ w = 3 ∨ w = 4 by omega) with htw | htw | htw | htw | htw | htw
        · refine x_tswt (t := 65) rfl 0 (if_pos htw) rfl ?_
          refine x_1 (p' := 66) hC rfl rfl rfl rfl ?_
          refine x_1 (p' := 67) hC rfl rfl rfl rfl ?_
          refine x_1 (p' := 68) hC rfl rfl rfl rfl ?_
          refine x_cIV2 (p' := 69) (n := 42) hC rfl rfl rfl rfl rfl (hO.ty) ?_
          refine sp_m_lasts hO hs (by omega) (hw g (by omega) (by omega)) (by omega) (rFirst_rng hs hf) ht ?_
          refine x_iret hC rfl rfl rfl ⟨_, rfl, ?_⟩
          first
            | (exfalso; omega)
            | (rw [hR (by omega)] at K
               refine eqK K ?_
               unfold rSlotOf
               repeat (first | rw [if_pos (by omega)] | rw [if_neg (by omega)])
               try first
                 | exact b2i_t c60
                 | exact b2i_f c60)
        · refine x_tswt (t := 38) rfl 1 ((if_neg (by omega)).trans (by omega)) rfl ?_
          refine x_1 (p' := 39) hC rfl rfl rfl rfl ?_
          refine x_iret hC rfl rfl rfl ⟨_, rfl, ?_⟩
          first
            | (exfalso; omega)
            | (rw [hR (by omega)] at K
               refine eqK K ?_
               unfold rSlotOf
               repeat (first | rw [if_pos (by omega)] | rw [if_neg (by omega)])
               try first
                 | exact b2i_t c60
                 | exact b2i_f c60)
        · refine x_tswt (t := 40) rfl 2 ((if_neg (by omega)).trans (by omega)) rfl ?_
          refine x_1 (p' := 41) hC rfl rfl rfl rfl ?_
          refine x_1 (p' := 42) hC rfl rfl rfl rfl ?_
          refine x_1 (p' := 43) hC rfl rfl rfl rfl ?_
          refine x_cIV2 (p' := 44) (n := 41) hC rfl rfl rfl rfl rfl (hO.ty) ?_
          refine sp_m_firstCame hO hs ?_
          refine x_iret hC rfl rfl rfl ⟨_, rfl, ?_⟩
          first
            | (exfalso; omega)
            | (rw [hR (by omega)] at K
               refine eqK K ?_
               unfold rSlotOf
               repeat (first | rw [if_pos (by omega)] | rw [if_neg (by omega)])
               try first
                 | exact b2i_t c60
                 | exact b2i_f c60)
        · refine x_tswt (t := 45) rfl 3 ((if_neg (by omega)).trans (by omega)) rfl ?_
          refine x_1 (p' := 46) hC rfl rfl rfl rfl ?_
          refine x_1 (p' := 47) hC rfl rfl rfl rfl ?_
          refine x_1 (p' := 48) hC rfl rfl rfl rfl ?_
          refine x_1 (p' := 49) hC rfl rfl rfl rfl ?_
          refine x_cIV3 (p' := 50) (n := 38) hC rfl rfl rfl rfl rfl (hO.ty) ?_
          refine sp_m_frames hO hs ?_
          refine x_iret hC rfl rfl rfl ⟨_, rfl, ?_⟩
          first
            | (exfalso; omega)
            | (rw [hR (by omega)] at K
               refine eqK K ?_
               unfold rSlotOf
               repeat (first | rw [if_pos (by omega)] | rw [if_neg (by omega)])
               try first
                 | exact b2i_t c60
                 | exact b2i_f c60)
        · refine x_tswt (t := 51) rfl 4 ((if_neg (by omega)).trans (by omega)) rfl ?_
          refine x_1 (p' := 52) hC rfl rfl rfl rfl ?_
          refine x_1 (p' := 53) hC rfl rfl rfl rfl ?_
          refine x_1 (p' := 54) hC rfl rfl rfl rfl ?_
          refine x_cIV2 (p' := 55) (n := 39) hC rfl rfl rfl rfl rfl (hO.ty) ?_
          refine sp_m_expected hO hs (by omega) (by omega) ?_
          refine x_iret hC rfl rfl rfl ⟨_, rfl, ?_⟩
          first
            | (exfalso; omega)
            | (rw [hR (by omega)] at K
               refine eqK K ?_
               unfold rSlotOf
               repeat (first | rw [if_pos (by omega)] | rw [if_neg (by omega)])
               try first
                 | exact b2i_t c60
                 | exact b2i_f c60)
        · refine x_tswt (t := 56) rfl 5 ((if_neg (by omega)).trans (by omega)) rfl ?_
          refine x_1 (p' := 57) hC rfl rfl rfl rfl ?_
          refine x_1 (p' := 58) hC rfl rfl rfl rfl ?_
          refine x_1 (p' := 59) hC rfl rfl rfl rfl ?_
          refine x_cIV2 (p' := 60) (n := 40) hC rfl rfl rfl rfl rfl (hO.ty) ?_
          refine sp_m_isComplete hO hs (by omega) (by omega) ?_
          refine x_ifeq (p' := 61) hC rfl rfl (fun c60 => ?_) (fun c60 => ?_)
          · have c60 := b2i_0.mp c60
            refine x_1 (p' := 64) hC rfl rfl rfl rfl ?_
            refine x_iret hC rfl rfl rfl ⟨_, rfl, ?_⟩
            first
              | (exfalso; omega)
              | (rw [hR (by omega)] at K
                 refine eqK K ?_
                 unfold rSlotOf
                 repeat (first | rw [if_pos (by omega)] | rw [if_neg (by omega)])
                 try first
                   | exact b2i_t c60
                   | exact b2i_f c60)
          · have c60 := b2i_n0.mp c60
            refine x_1 (p' := 62) hC rfl rfl rfl rfl ?_
            refine x_1 (p' := 64) hC rfl rfl rfl rfl ?_
            refine x_iret hC rfl rfl rfl ⟨_, rfl, ?_⟩
            first
              | (exfalso; omega)
              | (rw [hR (by omega)] at K
                 refine eqK K ?_
                 unfold rSlotOf
                 repeat (first | rw [if_pos (by omega)] | rw [if_neg (by omega)])
                 try first
                   | exact b2i_t c60
                   | exact b2i_f c60)
      · refine x_ldc (p' := 35) (v := (-1000004)) hC rfl rfl (by decide) ?_
        refine x_iret hC rfl rfl rfl ⟨_, rfl, ?_⟩
        first
          | (exfalso; omega)
          | (rw [hR (by omega)] at K
             refine eqK K ?_
             unfold rSlotOf
             repeat (first | rw [if_pos (by omega)] | rw [if_neg (by omega)])
             try first
               | exact b2i_t c60
               | exact b2i_f c60)
    · refine x_1 (p' := 24) hC rfl rfl rfl rfl ?_
      refine x_iflt (p' := 25) hC rfl rfl (fun c24 => ?_) (fun c24 => ?_)
      · refine x_1 (p' := 33) hC rfl rfl rfl rfl ?_
        refine x_ifge (p' := 34) hC rfl rfl (fun c33 => ?_) (fun c33 => ?_)
        · refine x_1 (p' := 37) hC rfl rfl rfl rfl ?_
          rcases (show (w < 0 ∨ 4 < w) ∨ w = 0 ∨ w = 1 ∨ w = 2 ∨ w = 3 ∨ w = 4 by omega) with htw | htw | htw | htw | htw | htw
          · refine x_tswt (t := 65) rfl 0 (if_pos htw) rfl ?_
            refine x_1 (p' := 66) hC rfl rfl rfl rfl ?_
            refine x_1 (p' := 67) hC rfl rfl rfl rfl ?_
            refine x_1 (p' := 68) hC rfl rfl rfl rfl ?_
            refine x_cIV2 (p' := 69) (n := 42) hC rfl rfl rfl rfl rfl (hO.ty) ?_
            refine sp_m_lasts hO hs (by omega) (hw g (by omega) (by omega)) (by omega) (rFirst_rng hs hf) ht ?_
            refine x_iret hC rfl rfl rfl ⟨_, rfl, ?_⟩
            first
              | (exfalso; omega)
              | (rw [hR (by omega)] at K
                 refine eqK K ?_
                 unfold rSlotOf
                 repeat (first | rw [if_pos (by omega)] | rw [if_neg (by omega)])
                 try first
                   | exact b2i_t c60
                   | exact b2i_f c60)
          · refine x_tswt (t := 38) rfl 1 ((if_neg (by omega)).trans (by omega)) rfl ?_
            refine x_1 (p' := 39) hC rfl rfl rfl rfl ?_
            refine x_iret hC rfl rfl rfl ⟨_, rfl, ?_⟩
            first
              | (exfalso; omega)
              | (rw [hR (by omega)] at K
                 refine eqK K ?_
                 unfold rSlotOf
                 repeat (first | rw [if_pos (by omega)] | rw [if_neg (by omega)])
                 try first
                   | exact b2i_t c60
                   | exact b2i_f c60)
          · refine x_tswt (t := 40) rfl 2 ((if_neg (by omega)).trans (by omega)) rfl ?_
            refine x_1 (p' := 41) hC rfl rfl rfl rfl ?_
            refine x_1 (p' := 42) hC rfl rfl rfl rfl ?_
            refine x_1 (p' := 43) hC rfl rfl rfl rfl ?_
            refine x_cIV2 (p' := 44) (n := 41) hC rfl rfl rfl rfl rfl (hO.ty) ?_
            refine sp_m_firstCame hO hs ?_
            refine x_iret hC rfl rfl rfl ⟨_, rfl, ?_⟩
            first
              | (exfalso; omega)
              | (rw [hR (by omega)] at K
                 refine eqK K ?_
                 unfold rSlotOf
                 repeat (first | rw [if_pos (by omega)] | rw [if_neg (by omega)])
                 try first
                   | exact b2i_t c60
                   | exact b2i_f c60)
          · refine x_tswt (t := 45) rfl 3 ((if_neg (by omega)).trans (by omega)) rfl ?_
            refine x_1 (p' := 46) hC rfl rfl rfl rfl ?_
            refine x_1 (p' := 47) hC rfl rfl rfl rfl ?_
            refine x_1 (p' := 48) hC rfl rfl rfl rfl ?_
            refine x_1 (p' := 49) hC rfl rfl rfl rfl ?_
            refine x_cIV3 (p' := 50) (n := 38) hC rfl rfl rfl rfl rfl (hO.ty) ?_
            refine sp_m_frames hO hs ?_
            refine x_iret hC rfl rfl rfl ⟨_, rfl, ?_⟩
            first
              | (exfalso; omega)
              | (rw [hR (by omega)] at K
                 refine eqK K ?_
                 unfold rSlotOf
                 repeat (first | rw [if_pos (by omega)] | rw [if_neg (by omega)])
                 try first
                   | exact b2i_t c60
                   | exact b2i_f c60)
          · refine x_tswt (t := 51) rfl 4 ((if_neg (by omega)).trans (by omega)) rfl ?_
            refine x_1 (p' := 52) hC rfl rfl rfl rfl ?_
            refine x_1 (p' := 53) hC rfl rfl rfl rfl ?_
            refine x_1 (p' := 54) hC rfl rfl rfl rfl ?_
            refine x_cIV2 (p' := 55) (n := 39) hC rfl rfl rfl rfl rfl (hO.ty) ?_
            refine sp_m_expected hO hs (by omega) (by omega) ?_
            refine x_iret hC rfl rfl rfl ⟨_, rfl, ?_⟩
            first
              | (exfalso; omega)
              | (rw [hR (by omega)] at K
                 refine eqK K ?_
                 unfold rSlotOf
                 repeat (first | rw [if_pos (by omega)] | rw [if_neg (by omega)])
                 try first
                   | exact b2i_t c60
                   | exact b2i_f c60)
          · refine x_tswt (t := 56) rfl 5 ((if_neg (by omega)).trans (by omega)) rfl ?_
            refine x_1 (p' := 57) hC rfl rfl rfl rfl ?_
            refine x_1 (p' := 58) hC rfl rfl rfl rfl ?_
            refine x_1 (p' := 59) hC rfl rfl rfl rfl ?_
            refine x_cIV2 (p' := 60) (n := 40) hC rfl rfl rfl rfl rfl (hO.ty) ?_
            refine sp_m_isComplete hO hs (by omega) (by omega) ?_
            refine x_ifeq (p' := 61) hC rfl rfl (fun c60 => ?_) (fun c60 => ?_)
            · have c60 := b2i_0.mp c60
              refine x_1 (p' := 64) hC rfl rfl rfl rfl ?_
              refine x_iret hC rfl rfl rfl ⟨_, rfl, ?_⟩
              first
                | (exfalso; omega)
                | (rw [hR (by omega)] at K
                   refine eqK K ?_
                   unfold rSlotOf
                   repeat (first | rw [if_pos (by omega)] | rw [if_neg (by omega)])
                   try first
                     | exact b2i_t c60
                     | exact b2i_f c60)
            · have c60 := b2i_n0.mp c60
              refine x_1 (p' := 62) hC rfl rfl rfl rfl ?_
              refine x_1 (p' := 64) hC rfl rfl rfl rfl ?_
              refine x_iret hC rfl rfl rfl ⟨_, rfl, ?_⟩
              first
                | (exfalso; omega)
                | (rw [hR (by omega)] at K
                   refine eqK K ?_
                   unfold rSlotOf
                   repeat (first | rw [if_pos (by omega)] | rw [if_neg (by omega)])
                   try first
                     | exact b2i_t c60
                     | exact b2i_f c60)
        · refine x_ldc (p' := 35) (v := (-1000004)) hC rfl rfl (by decide) ?_
          refine x_iret hC rfl rfl rfl ⟨_, rfl, ?_⟩
          first
            | (exfalso; omega)
            | (rw [hR (by omega)] at K
               refine eqK K ?_
               unfold rSlotOf
               repeat (first | rw [if_pos (by omega)] | rw [if_neg (by omega)])
               try first
                 | exact b2i_t c60
                 | exact b2i_f c60)
      · refine x_1 (p' := 26) hC rfl rfl rfl rfl ?_
        refine x_1 (p' := 27) hC rfl rfl rfl rfl ?_
        refine x_1 (p' := 28) hC rfl rfl rfl rfl ?_
        refine x_cIV2 (p' := 29) (n := 34) hC rfl rfl rfl rfl rfl (hO.ty) ?_
        refine sp_m_behind hO hs ?_
        refine x_stI4 (p' := 30) hC rfl rfl rfl ?_
        refine x_inc5 (p' := 31) hC rfl rfl (⟨by omega, by omega⟩) ?_
        refine x_1 (p' := 20) hC rfl rfl rfl rfl ?_
        refine ih _ _ (by omega) (by omega) (by omega) ?_
        rw [hI2, hq, if_pos (by omega), show jx - i - 1 = jx - (i + 1) by omega]
set_option maxRecDepth 20000 in
set_option maxHeartbeats 2000000 in
theorem sp_m_slotAt {d : Nat} {m : Nat} {h : HP} (hO : RO m h) {X : Nat → Int → Int} (hs : RI (X 1)) (hf : RF (X 1)) (hw : ∀ g, 0 ≤ g → g < X 1 0 → 0 ≤ rOf (X 1) g 0 ∧ rOf (X 1) g 0 ≤ 40) (ht : 0 ≤ X 1 2 ∧ X 1 2 ≤ 100000) {g k w : Int} {Q : Int → HP → Prop} (K : Q (rSlotAt (X 1) g k w) (wX m h X)) : CaI (d + 5) 61 [.inr (some m), .inl g, .inl k, .inl w] (wX m h X) Q := by
  have hC : cod 61 = c_m_slotAt := rfl
  refine CaI.start rfl ?_
  have h0 := hs.1
  have hb := rBehind_rng hs hf (g := g) (sl := -1)
  refine x_1 (p' := 1) hC rfl rfl rfl rfl ?_
  refine x_1 (p' := 2) hC rfl rfl rfl rfl ?_
  refine x_cIV1 (p' := 3) (n := 7) hC rfl rfl rfl rfl rfl (hO.ty) ?_
  refine sp_m_isHub hO (by have := hs.1; omega) ?_
  refine x_ifeq (p' := 4) hC rfl rfl (fun c3 => ?_) (fun c3 => ?_)
  · have c3 := b2i_0.mp c3
    refine x_ldc (p' := 12) (v := (-1000001)) hC rfl rfl (by decide) ?_
    refine x_iret hC rfl rfl rfl ⟨_, rfl, ?_⟩
    refine eqK K ?_
    unfold rSlotAt
    repeat (first | rw [if_pos (by omega)] | rw [if_neg (by omega)])
  · have c3 := b2i_n0.mp c3
    refine x_1 (p' := 5) hC rfl rfl rfl rfl ?_
    refine x_iflt (p' := 6) hC rfl rfl (fun c5 => ?_) (fun c5 => ?_)
    · refine x_ldc (p' := 12) (v := (-1000001)) hC rfl rfl (by decide) ?_
      refine x_iret hC rfl rfl rfl ⟨_, rfl, ?_⟩
      refine eqK K ?_
      unfold rSlotAt
      repeat (first | rw [if_pos (by omega)] | rw [if_neg (by omega)])
    · refine x_1 (p' := 7) hC rfl rfl rfl rfl ?_
      refine x_1 (p' := 8) hC rfl rfl rfl rfl ?_
      refine x_1 (p' := 9) hC rfl rfl rfl rfl ?_
      refine x_cIS3 (p' := 10) (n := 2) hC rfl rfl rfl rfl rfl ?_
      refine sp_m_in ?_
      refine x_ifne (p' := 11) hC rfl rfl (fun c10 => ?_) (fun c10 => ?_)
      · have c10 := b2i_n0.mp c10
        refine x_1 (p' := 14) hC rfl rfl rfl rfl ?_
        refine x_1 (p' := 15) hC rfl rfl rfl rfl ?_
        refine x_1 (p' := 16) hC rfl rfl rfl rfl ?_
        refine x_cIV2 (p' := 17) (n := 34) hC rfl rfl rfl rfl rfl (hO.ty) ?_
        refine sp_m_behind hO hs ?_
        refine x_stI4 (p' := 18) hC rfl rfl rfl ?_
        refine x_1 (p' := 19) hC rfl rfl rfl rfl ?_
        refine x_stI5 (p' := 20) hC rfl rfl rfl ?_
        unfold rSlotAt at K
        rw [if_neg (by omega)] at K
        exact lp_m_slotAt hO hs hf hw ht (by omega) (by omega) K _ _ 0 (Nat.lt_succ_self _) (by omega) (by omega) (by rw [show k - 0 = k by omega])
      · have c10 := b2i_0.mp c10
        refine x_ldc (p' := 12) (v := (-1000001)) hC rfl rfl (by decide) ?_
        refine x_iret hC rfl rfl rfl ⟨_, rfl, ?_⟩
        refine eqK K ?_
        unfold rSlotAt
        repeat (first | rw [if_pos (by omega)] | rw [if_neg (by omega)])
set_option maxRecDepth 20000 in
set_option maxHeartbeats 2000000 in
theorem sp_m_count {d : Nat} {m : Nat} {h : HP} (hO : RO m h) {X : Nat → Int → Int} (hs : RI (X 1)) {w : Int} {Q : Int → HP → Prop} (K : Q (rCount X w) (wX m h X)) : CaI (d + 3) 69 [.inr (some m), .inl w] (wX m h X) Q := by
  have hC : cod 69 = c_m_count := rfl
  refine CaI.start rfl ?_
  have h0 := hs.1
  refine x_1 (p' := 1) hC rfl rfl rfl rfl ?_
  rcases (show (w < 0 ∨ 10 < w) ∨ w = 0 ∨ w = 1 ∨ w = 2 ∨ w = 3 ∨ w = 4 ∨ w = 5 ∨ w = 6 ∨ w = 7 ∨ w = 8 ∨ w = 9 ∨ w = 10 by omega) with htw | htw | htw | htw | htw | htw | htw | htw | htw | htw | htw | htw
  · refine x_tswt (t := 54) rfl 0 (if_pos htw) rfl ?_
    refine x_ldc (p' := 55) (v := (-1000001)) hC rfl rfl (by decide) ?_
    refine x_iret hC rfl rfl rfl ⟨_, rfl, ?_⟩
    refine eqK K ?_
    unfold rCount
    repeat (first | rw [if_pos (by omega)] | rw [if_neg (by omega)])
  · refine x_tswt (t := 2) rfl 1 ((if_neg (by omega)).trans (by omega)) rfl ?_
    refine x_1 (p' := 3) hC rfl rfl rfl rfl ?_
    refine y_gR (p' := 4) (n := 1) hO hC rfl rfl rfl rfl ?_
    refine x_1 (p' := 5) hC rfl rfl rfl rfl ?_
    refine y_ld (p' := 6) (L := 15568) hO hC rfl rfl rfl rfl (by omega) (by omega) ?_
    refine x_iret hC rfl rfl rfl ⟨_, rfl, ?_⟩
    refine eqK K ?_
    unfold rCount
    repeat (first | rw [if_pos (by omega)] | rw [if_neg (by omega)])
  · refine x_tswt (t := 7) rfl 2 ((if_neg (by omega)).trans (by omega)) rfl ?_
    refine x_1 (p' := 8) hC rfl rfl rfl rfl ?_
    refine x_cIV0 (p' := 9) (n := 20) hC rfl rfl rfl rfl rfl (hO.ty) ?_
    refine sp_m_on hO hs ?_
    refine x_iret hC rfl rfl rfl ⟨_, rfl, ?_⟩
    refine eqK K ?_
    unfold rCount
    repeat (first | rw [if_pos (by omega)] | rw [if_neg (by omega)])
  · refine x_tswt (t := 10) rfl 3 ((if_neg (by omega)).trans (by omega)) rfl ?_
    refine x_1 (p' := 11) hC rfl rfl rfl rfl ?_
    refine y_gR (p' := 12) (n := 1) hO hC rfl rfl rfl rfl ?_
    refine x_1 (p' := 13) hC rfl rfl rfl rfl ?_
    refine y_ld (p' := 14) (L := 15568) hO hC rfl rfl rfl rfl (by omega) (by omega) ?_
    refine x_iret hC rfl rfl rfl ⟨_, rfl, ?_⟩
    refine eqK K ?_
    unfold rCount
    repeat (first | rw [if_pos (by omega)] | rw [if_neg (by omega)])
  · refine x_tswt (t := 15) rfl 4 ((if_neg (by omega)).trans (by omega)) rfl ?_
    refine x_1 (p' := 16) hC rfl rfl rfl rfl ?_
    refine x_cIV0 (p' := 17) (n := 56) hC rfl rfl rfl rfl rfl (hO.ty) ?_
    refine sp_m_allOnWay hO hs ?_
    refine x_iret hC rfl rfl rfl ⟨_, rfl, ?_⟩
    refine eqK K ?_
    unfold rCount
    repeat (first | rw [if_pos (by omega)] | rw [if_neg (by omega)])
  · refine x_tswt (t := 18) rfl 5 ((if_neg (by omega)).trans (by omega)) rfl ?_
    refine x_1 (p' := 19) hC rfl rfl rfl rfl ?_
    refine y_gR (p' := 20) (n := 1) hO hC rfl rfl rfl rfl ?_
    refine x_1 (p' := 21) hC rfl rfl rfl rfl ?_
    refine y_ld (p' := 22) (L := 15568) hO hC rfl rfl rfl rfl (by omega) (by omega) ?_
    refine x_iret hC rfl rfl rfl ⟨_, rfl, ?_⟩
    refine eqK K ?_
    unfold rCount
    repeat (first | rw [if_pos (by omega)] | rw [if_neg (by omega)])
  · refine x_tswt (t := 23) rfl 6 ((if_neg (by omega)).trans (by omega)) rfl ?_
    refine x_1 (p' := 24) hC rfl rfl rfl rfl ?_
    refine y_gR (p' := 25) (n := 1) hO hC rfl rfl rfl rfl ?_
    refine x_1 (p' := 26) hC rfl rfl rfl rfl ?_
    refine y_ld (p' := 27) (L := 15568) hO hC rfl rfl rfl rfl (by omega) (by omega) ?_
    refine x_iret hC rfl rfl rfl ⟨_, rfl, ?_⟩
    refine eqK K ?_
    unfold rCount
    repeat (first | rw [if_pos (by omega)] | rw [if_neg (by omega)])
  · refine x_tswt (t := 28) rfl 7 ((if_neg (by omega)).trans (by omega)) rfl ?_
    refine x_1 (p' := 29) hC rfl rfl rfl rfl ?_
    refine x_1 (p' := 30) hC rfl rfl rfl rfl ?_
    refine x_cIV1 (p' := 31) (n := 68) hC rfl rfl rfl rfl rfl (hO.ty) ?_
    refine sp_m_sumOf hO hs (by omega) ?_
    refine x_iret hC rfl rfl rfl ⟨_, rfl, ?_⟩
    refine eqK K ?_
    unfold rCount
    repeat (first | rw [if_pos (by omega)] | rw [if_neg (by omega)])
  · refine x_tswt (t := 32) rfl 8 ((if_neg (by omega)).trans (by omega)) rfl ?_
    refine x_1 (p' := 33) hC rfl rfl rfl rfl ?_
    refine x_1 (p' := 34) hC rfl rfl rfl rfl ?_
    refine x_cIV1 (p' := 35) (n := 68) hC rfl rfl rfl rfl rfl (hO.ty) ?_
    refine sp_m_sumOf hO hs (by omega) ?_
    refine x_iret hC rfl rfl rfl ⟨_, rfl, ?_⟩
    refine eqK K ?_
    unfold rCount
    repeat (first | rw [if_pos (by omega)] | rw [if_neg (by omega)])
  · refine x_tswt (t := 36) rfl 9 ((if_neg (by omega)).trans (by omega)) rfl ?_
    refine x_1 (p' := 37) hC rfl rfl rfl rfl ?_
    refine y_gR (p' := 38) (n := 1) hO hC rfl rfl rfl rfl ?_
    refine x_1 (p' := 39) hC rfl rfl rfl rfl ?_
    refine y_ld (p' := 40) (L := 15568) hO hC rfl rfl rfl rfl (by omega) (by omega) ?_
    refine x_ifne (p' := 41) hC rfl rfl (fun c40 => ?_) (fun c40 => ?_)
    · refine x_1 (p' := 44) hC rfl rfl rfl rfl ?_
      refine y_gR (p' := 45) (n := 1) hO hC rfl rfl rfl rfl ?_
      refine x_1 (p' := 46) hC rfl rfl rfl rfl ?_
      refine y_ld (p' := 47) (L := 15568) hO hC rfl rfl rfl rfl (by omega) (by omega) ?_
      refine x_iret hC rfl rfl rfl ⟨_, rfl, ?_⟩
      refine eqK K ?_
      unfold rCount
      repeat (first | rw [if_pos (by omega)] | rw [if_neg (by omega)])
    · refine x_ldc (p' := 42) (v := (-1000004)) hC rfl rfl (by decide) ?_
      refine x_1 (p' := 47) hC rfl rfl rfl rfl ?_
      refine x_iret hC rfl rfl rfl ⟨_, rfl, ?_⟩
      refine eqK K ?_
      unfold rCount
      repeat (first | rw [if_pos (by omega)] | rw [if_neg (by omega)])
  · refine x_tswt (t := 48) rfl 10 ((if_neg (by omega)).trans (by omega)) rfl ?_
    refine x_1 (p' := 49) hC rfl rfl rfl rfl ?_
    refine y_gI (p' := 50) (kz := 4) hO hC rfl rfl rfl rfl ?_
    refine x_iret hC rfl rfl rfl ⟨_, rfl, ?_⟩
    refine eqK K ?_
    unfold rCount
    repeat (first | rw [if_pos (by omega)] | rw [if_neg (by omega)])
  · refine x_tswt (t := 51) rfl 11 ((if_neg (by omega)).trans (by omega)) rfl ?_
    refine x_1 (p' := 52) hC rfl rfl rfl rfl ?_
    refine y_gI (p' := 53) (kz := 6) hO hC rfl rfl rfl rfl ?_
    refine x_iret hC rfl rfl rfl ⟨_, rfl, ?_⟩
    refine eqK K ?_
    unfold rCount
    repeat (first | rw [if_pos (by omega)] | rw [if_neg (by omega)])

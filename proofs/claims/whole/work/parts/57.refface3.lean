/-! the reference's face: units and texts -/
def rDl (s : Int → Int) : Nat → Int → Int
  | 0, _ => 0
  | n + 1, x => if 0 < x then rOf s x 3 + rDl s n (rOf s x 5) else 0
/-- the delays from hub x up to the root -/
def rDly (s : Int → Int) (x : Int) : Int := rDl s 6 x
noncomputable def rUnitOf (s : Int → Int) (u w : Int) : Int := if ¬ (isU s u ∧ 0 ≤ w ∧ w ≤ 6) then -1000001 else if w < 4 then rIts s u w else if w = 4 then rOnWay s u else if w = 5 then rDly s (rIts s u 0) else 1 + rDepth s (rIts s u 0)
noncomputable def rUA (s : Int → Int) (g : Int) : Nat → Int → Int → Int
  | 0, _, _ => -1000004
  | n + 1, u, x => if s 1 ≤ u then -1000004 else cif (rIsOf s g u) (if x = 0 then u else rUA s g n (u + 1) (x - 1)) (rUA s g n (u + 1) x)
noncomputable def rUnitAt (s : Int → Int) (g x : Int) : Int := if ¬ (isH s g ∧ 0 ≤ x) then -1000001 else rUA s g 11 0 x
theorem i2c_id : ∀ n : Fin 128, oI2c ((n.val : Nat) : Int) = ((n.val : Nat) : Int) := by decide +kernel
theorem i2c_eq {x : Int} (h0 : 0 ≤ x) (h1 : x < 128) : oI2c x = x := by
  have := i2c_id ⟨x.toNat, by omega⟩
  simp only [Int.toNat_of_nonneg h0] at this
  exact this
def rHas (X : Nat → Int → Int) (c : Int) : Prop := X 0 7 < X 0 6 ∧ X 5 (X 0 7) = c
/-- the text's ints are in range -/
def RT (X : Nat → Int → Int) : Prop := 0 ≤ X 0 6 ∧ X 0 6 ≤ 60 ∧ 0 ≤ X 0 7 ∧ X 0 7 ≤ X 0 6
set_option maxRecDepth 20000 in
theorem lp_m_unitOf {d : Nat} {m : Nat} {h : HP} (hO : RO m h) {X : Nat → Int → Int} (hs : RI (X 1)) (hdl : ∀ g, 0 ≤ g → g < X 1 0 → 0 ≤ rOf (X 1) g 3 ∧ rOf (X 1) g 3 ≤ 20) {u w : Int} (hu : 0 ≤ u ∧ u < X 1 1) (hw : 4 ≤ w ∧ w ≤ 6) {Q : Int → HP → Prop} (K4 : w = 4 → Q (rOnWay (X 1) u) (wX m h X)) (K5 : w = 5 → Q (rDly (X 1) (rIts (X 1) u 0)) (wX m h X)) (K6 : w = 6 → Q (1 + rDepth (X 1) (rIts (X 1) u 0)) (wX m h X)) (k : Nat) : ∀ (acc : Int) (x : Int), (x + 1).toNat < k → (-1 ≤ x ∧ x < X 1 0) → (0 ≤ acc ∧ acc + 20 * x ≤ 100 ∧ (x < 0 → acc ≤ 100)) → (∃ n : Nat, x < n ∧ acc + rDl (X 1) n x = rDly (X 1) (rIts (X 1) u 0)) → At (d + 4) 31 26 [some (.inr (some m)), some (.inl u), some (.inl w), some (.inl acc), some (.inl x)] [] (wX m h X) (fun v h' => ∃ x, v = some (.inl x) ∧ Q x h') := by
  have hC : cod 31 = c_m_unitOf := rfl
  induction k with
  | zero =>
    intro acc x hk
    exact absurd hk (Nat.not_lt_zero _)
  | succ k ih =>
    intro acc x hk hI0 hI1 hI2
    have hdp := rDep_le (X 1) 6 (rOf (X 1) (rIts (X 1) u 0) 5)
    have hdq : rDepth (X 1) (rIts (X 1) u 0) = rDep (X 1) 6 (rOf (X 1) (rIts (X 1) u 0) 5) := rfl
    have h0 := hs.1
    have h1 := hs.2.1
    obtain ⟨n, hn, hT⟩ := hI2
    have hxx := fun q => hs.2.2.2.2.1 x q hI0.2
    have hdx := fun q => hdl x q hI0.2
    have hun := hs.2.2.2.2.2 u hu.1 hu.2
    have hac : x ≤ 0 → acc = rDly (X 1) (rIts (X 1) u 0) := fun q => by
      cases n with
      | zero => simp only [rDl] at hT; omega
      | succ n => rw [rDl, if_neg (by omega)] at hT; omega
    refine x_1 (p' := 27) hC rfl rfl rfl rfl ?_
    refine x_ifle (p' := 28) hC rfl rfl (fun c27 => ?_) (fun c27 => ?_)
    · refine x_1 (p' := 42) hC rfl rfl rfl rfl ?_
      refine x_1 (p' := 43) hC rfl rfl rfl rfl ?_
      refine x_icne (p' := 44) hC rfl rfl (fun c43 => ?_) (fun c43 => ?_)
      · refine x_1 (p' := 49) hC rfl rfl rfl rfl ?_
        refine x_1 (p' := 50) hC rfl rfl rfl rfl ?_
        refine x_icne (p' := 51) hC rfl rfl (fun c50 => ?_) (fun c50 => ?_)
        · refine x_1 (p' := 54) hC rfl rfl rfl rfl ?_
          refine x_1 (p' := 55) hC rfl rfl rfl rfl ?_
          refine x_1 (p' := 56) hC rfl rfl rfl rfl ?_
          refine x_1 (p' := 57) hC rfl rfl rfl rfl ?_
          refine x_1 (p' := 58) hC rfl rfl rfl rfl ?_
          refine x_cIV2 (p' := 59) (n := 4) hC rfl rfl rfl rfl rfl (hO.ty) ?_
          refine sp_m_its hO (by omega) (by omega) ?_
          refine x_cIV1 (p' := 60) (n := 19) hC rfl rfl rfl rfl rfl (hO.ty) ?_
          refine sp_m_depth hO hs (by omega) ?_
          refine x_add (p' := 61) hC rfl rfl rfl (⟨by omega, by omega⟩) ?_
          refine x_iret hC rfl rfl rfl ⟨_, rfl, ?_⟩
          first
            | exact K4 (by omega)
            | exact K6 (by omega)
            | exact eqK (K5 (by omega)) (hac (by omega)).symm
        · refine x_1 (p' := 52) hC rfl rfl rfl rfl ?_
          refine x_1 (p' := 61) hC rfl rfl rfl rfl ?_
          refine x_iret hC rfl rfl rfl ⟨_, rfl, ?_⟩
          first
            | exact K4 (by omega)
            | exact K6 (by omega)
            | exact eqK (K5 (by omega)) (hac (by omega)).symm
      · refine x_1 (p' := 45) hC rfl rfl rfl rfl ?_
        refine x_1 (p' := 46) hC rfl rfl rfl rfl ?_
        refine x_cIV1 (p' := 47) (n := 29) hC rfl rfl rfl rfl rfl (hO.ty) ?_
        refine sp_m_onWay hO hs ?_
        refine x_1 (p' := 61) hC rfl rfl rfl rfl ?_
        refine x_iret hC rfl rfl rfl ⟨_, rfl, ?_⟩
        first
          | exact K4 (by omega)
          | exact K6 (by omega)
          | exact eqK (K5 (by omega)) (hac (by omega)).symm
    · refine x_1 (p' := 29) hC rfl rfl rfl rfl ?_
      refine x_1 (p' := 30) hC rfl rfl rfl rfl ?_
      refine x_1 (p' := 31) hC rfl rfl rfl rfl ?_
      refine x_1 (p' := 32) hC rfl rfl rfl rfl ?_
      refine x_cIV2 (p' := 33) (n := 3) hC rfl rfl rfl rfl rfl (hO.ty) ?_
      refine sp_m_of hO (by omega) (by omega) ?_
      refine x_add (p' := 34) hC rfl rfl rfl (⟨by have := hdx (by omega); omega, by have := hdx (by omega); omega⟩) ?_
      refine x_stI3 (p' := 35) hC rfl rfl rfl ?_
      refine x_1 (p' := 36) hC rfl rfl rfl rfl ?_
      refine x_1 (p' := 37) hC rfl rfl rfl rfl ?_
      refine x_1 (p' := 38) hC rfl rfl rfl rfl ?_
      refine x_cIV2 (p' := 39) (n := 3) hC rfl rfl rfl rfl rfl (hO.ty) ?_
      refine sp_m_of hO (by omega) (by omega) ?_
      refine x_stI4 (p' := 40) hC rfl rfl rfl ?_
      refine x_1 (p' := 26) hC rfl rfl rfl rfl ?_
      have hxa := hxx (by omega)
      have hda := hdx (by omega)
      refine ih _ _ (by omega) (by omega) (by omega) ⟨n - 1, by omega, ?_⟩
      obtain ⟨j, rfl⟩ : ∃ j, n = j + 1 := ⟨n - 1, by omega⟩
      rw [rDl, if_pos (by omega)] at hT
      rw [show j + 1 - 1 = j by omega]
      omega
set_option maxRecDepth 20000 in
set_option maxHeartbeats 2000000 in
theorem sp_m_unitOf {d : Nat} {m : Nat} {h : HP} (hO : RO m h) {X : Nat → Int → Int} (hs : RI (X 1)) (hdl : ∀ g, 0 ≤ g → g < X 1 0 → 0 ≤ rOf (X 1) g 3 ∧ rOf (X 1) g 3 ≤ 20) {u w : Int} {Q : Int → HP → Prop} (K : Q (rUnitOf (X 1) u w) (wX m h X)) : CaI (d + 4) 31 [.inr (some m), .inl u, .inl w] (wX m h X) Q := by
  have hC : cod 31 = c_m_unitOf := rfl
  refine CaI.start rfl ?_
  have h0 := hs.1
  have h1 := hs.2.1
  have hun := fun q1 q2 => hs.2.2.2.2.2 u q1 q2
  refine x_1 (p' := 1) hC rfl rfl rfl rfl ?_
  refine x_1 (p' := 2) hC rfl rfl rfl rfl ?_
  refine x_cIV1 (p' := 3) (n := 8) hC rfl rfl rfl rfl rfl (hO.ty) ?_
  refine sp_m_isUnit hO hs.2.1 ?_
  refine x_ifeq (p' := 4) hC rfl rfl (fun c3 => ?_) (fun c3 => ?_)
  · have c3 := b2i_0.mp c3
    refine x_ldc (p' := 10) (v := (-1000001)) hC rfl rfl (by decide) ?_
    refine x_iret hC rfl rfl rfl ⟨_, rfl, ?_⟩
    refine eqK K ?_
    unfold rUnitOf
    repeat (first | rw [if_pos (by omega)] | rw [if_neg (by omega)])
  · have c3 := b2i_n0.mp c3
    refine x_1 (p' := 5) hC rfl rfl rfl rfl ?_
    refine x_1 (p' := 6) hC rfl rfl rfl rfl ?_
    refine x_1 (p' := 7) hC rfl rfl rfl rfl ?_
    refine x_cIS3 (p' := 8) (n := 2) hC rfl rfl rfl rfl rfl ?_
    refine sp_m_in ?_
    refine x_ifne (p' := 9) hC rfl rfl (fun c8 => ?_) (fun c8 => ?_)
    · have c8 := b2i_n0.mp c8
      refine x_1 (p' := 12) hC rfl rfl rfl rfl ?_
      refine x_1 (p' := 13) hC rfl rfl rfl rfl ?_
      refine x_icge (p' := 14) hC rfl rfl (fun c13 => ?_) (fun c13 => ?_)
      · refine x_1 (p' := 20) hC rfl rfl rfl rfl ?_
        refine x_stI3 (p' := 21) hC rfl rfl rfl ?_
        refine x_1 (p' := 22) hC rfl rfl rfl rfl ?_
        refine x_1 (p' := 23) hC rfl rfl rfl rfl ?_
        refine x_1 (p' := 24) hC rfl rfl rfl rfl ?_
        refine x_cIV2 (p' := 25) (n := 4) hC rfl rfl rfl rfl rfl (hO.ty) ?_
        refine sp_m_its hO (by omega) (by omega) ?_
        have hun2 := hun (by omega) (by omega)
        refine x_stI4 (p' := 26) hC rfl rfl rfl ?_
        unfold rUnitOf at K
        rw [if_neg (by omega), if_neg (by omega)] at K
        refine lp_m_unitOf hO hs hdl (by omega) (by omega) (fun q => ?_) (fun q => ?_) (fun q => ?_) _ 0 _ (Nat.lt_succ_self _) (by omega) (by omega) ⟨6, by omega, ?_⟩
        · rw [if_pos q] at K; exact K
        · rw [if_neg (by omega), if_pos q] at K; exact K
        · rw [if_neg (by omega), if_neg (by omega)] at K; exact K
        · unfold rDly; omega
      · refine x_1 (p' := 15) hC rfl rfl rfl rfl ?_
        refine x_1 (p' := 16) hC rfl rfl rfl rfl ?_
        refine x_1 (p' := 17) hC rfl rfl rfl rfl ?_
        refine x_cIV2 (p' := 18) (n := 4) hC rfl rfl rfl rfl rfl (hO.ty) ?_
        refine sp_m_its hO (by omega) (by omega) ?_
        refine x_iret hC rfl rfl rfl ⟨_, rfl, ?_⟩
        refine eqK K ?_
        unfold rUnitOf
        repeat (first | rw [if_pos (by omega)] | rw [if_neg (by omega)])
    · have c8 := b2i_0.mp c8
      refine x_ldc (p' := 10) (v := (-1000001)) hC rfl rfl (by decide) ?_
      refine x_iret hC rfl rfl rfl ⟨_, rfl, ?_⟩
      refine eqK K ?_
      unfold rUnitOf
      repeat (first | rw [if_pos (by omega)] | rw [if_neg (by omega)])
set_option maxRecDepth 20000 in
theorem lp_m_unitAt {d : Nat} {m : Nat} {h : HP} (hO : RO m h) {X : Nat → Int → Int} (hs : RI (X 1)) {g k0 : Int} (hg : 0 ≤ g) {res : Int} {Q : Int → HP → Prop} (K : Q res (wX m h X)) (k : Nat) : ∀ (x : Int) (u : Int) (z : Option AV), (X 1 1 - u).toNat < k → (0 ≤ u ∧ u ≤ X 1 1) → (0 ≤ x ∧ x ≤ 2147483647) → (∃ n : Nat, X 1 1 < n + u ∧ rUA (X 1) g n u x = res) → At (d + 3) 32 12 [some (.inr (some m)), some (.inl g), some (.inl k0), some (.inl x), some (.inl u), z] [] (wX m h X) (fun v h' => ∃ x, v = some (.inl x) ∧ Q x h') := by
  have hC : cod 32 = c_m_unitAt := rfl
  induction k with
  | zero =>
    intro x u z hk
    exact absurd hk (Nat.not_lt_zero _)
  | succ k ih =>
    intro x u z hk hI0 hI1 hI2
    have h1 := hs.2.1
    obtain ⟨n, hn, hT⟩ := hI2
    obtain ⟨j, rfl⟩ : ∃ j, n = j + 1 := ⟨n - 1, by omega⟩
    rw [rUA] at hT
    refine x_1 (p' := 13) hC rfl rfl rfl rfl ?_
    refine x_1 (p' := 14) hC rfl rfl rfl rfl ?_
    refine y_gR (p' := 15) (n := 1) hO hC rfl rfl rfl rfl ?_
    refine x_1 (p' := 16) hC rfl rfl rfl rfl ?_
    refine y_ld (p' := 17) (L := 15568) hO hC rfl rfl rfl rfl (by omega) (by omega) ?_
    refine x_icge (p' := 18) hC rfl rfl (fun c17 => ?_) (fun c17 => ?_)
    · refine x_ldc (p' := 40) (v := (-1000004)) hC rfl rfl (by decide) ?_
      refine x_iret hC rfl rfl rfl ⟨_, rfl, ?_⟩
      refine eqK K ?_
      rw [← hT]
      first
        | rw [if_pos (by omega)]
        | rw [if_neg (by omega), cif_t c24, if_pos (by omega)]
    · refine x_1 (p' := 19) hC rfl rfl rfl rfl ?_
      refine x_1 (p' := 20) hC rfl rfl rfl rfl ?_
      refine x_1 (p' := 21) hC rfl rfl rfl rfl ?_
      refine x_cIV2 (p' := 22) (n := 18) hC rfl rfl rfl rfl rfl (hO.ty) ?_
      refine sp_m_isOf hO hs (by omega) (by omega) ?_
      refine x_stI5 (p' := 23) hC rfl rfl rfl ?_
      refine x_1 (p' := 24) hC rfl rfl rfl rfl ?_
      refine x_ifeq (p' := 25) hC rfl rfl (fun c24 => ?_) (fun c24 => ?_)
      · have c24 := b2i_0.mp c24
        refine x_1 (p' := 30) hC rfl rfl rfl rfl ?_
        refine x_1 (p' := 31) hC rfl rfl rfl rfl ?_
        refine x_ifeq (p' := 32) hC rfl rfl (fun c31 => ?_) (fun c31 => ?_)
        · have c31 := b2i_0.mp c31
          refine x_1 (p' := 35) hC rfl rfl rfl rfl ?_
          refine x_sub (p' := 36) hC rfl rfl rfl (⟨by omega, by omega⟩) ?_
          refine x_stI3 (p' := 37) hC rfl rfl rfl ?_
          refine x_inc4 (p' := 38) hC rfl rfl (⟨by omega, by omega⟩) ?_
          refine x_1 (p' := 12) hC rfl rfl rfl rfl ?_
          first
            | exact absurd c24 c31
            | exact absurd c31 c24
            | (rw [if_neg (by omega), cif_t c31, if_neg (by omega)] at hT
               exact ih _ _ _ (by omega) (by omega) (by omega) ⟨j, by omega, hT⟩)
            | (rw [if_neg (by omega), cif_f c31] at hT
               exact ih _ _ _ (by omega) (by omega) (by omega) ⟨j, by omega, by rw [show x - 0 = x by omega]; exact hT⟩)
        · have c31 := b2i_n0.mp c31
          refine x_1 (p' := 33) hC rfl rfl rfl rfl ?_
          refine x_1 (p' := 35) hC rfl rfl rfl rfl ?_
          refine x_sub (p' := 36) hC rfl rfl rfl (⟨by omega, by omega⟩) ?_
          refine x_stI3 (p' := 37) hC rfl rfl rfl ?_
          refine x_inc4 (p' := 38) hC rfl rfl (⟨by omega, by omega⟩) ?_
          refine x_1 (p' := 12) hC rfl rfl rfl rfl ?_
          first
            | exact absurd c24 c31
            | exact absurd c31 c24
            | (rw [if_neg (by omega), cif_t c31, if_neg (by omega)] at hT
               exact ih _ _ _ (by omega) (by omega) (by omega) ⟨j, by omega, hT⟩)
            | (rw [if_neg (by omega), cif_f c31] at hT
               exact ih _ _ _ (by omega) (by omega) (by omega) ⟨j, by omega, by rw [show x - 0 = x by omega]; exact hT⟩)
      · have c24 := b2i_n0.mp c24
        refine x_1 (p' := 26) hC rfl rfl rfl rfl ?_
        refine x_ifne (p' := 27) hC rfl rfl (fun c26 => ?_) (fun c26 => ?_)
        · refine x_1 (p' := 30) hC rfl rfl rfl rfl ?_
          refine x_1 (p' := 31) hC rfl rfl rfl rfl ?_
          refine x_ifeq (p' := 32) hC rfl rfl (fun c31 => ?_) (fun c31 => ?_)
          · have c31 := b2i_0.mp c31
            refine x_1 (p' := 35) hC rfl rfl rfl rfl ?_
            refine x_sub (p' := 36) hC rfl rfl rfl (⟨by omega, by omega⟩) ?_
            refine x_stI3 (p' := 37) hC rfl rfl rfl ?_
            refine x_inc4 (p' := 38) hC rfl rfl (⟨by omega, by omega⟩) ?_
            refine x_1 (p' := 12) hC rfl rfl rfl rfl ?_
            first
              | exact absurd c24 c31
              | exact absurd c31 c24
              | (rw [if_neg (by omega), cif_t c31, if_neg (by omega)] at hT
                 exact ih _ _ _ (by omega) (by omega) (by omega) ⟨j, by omega, hT⟩)
              | (rw [if_neg (by omega), cif_f c31] at hT
                 exact ih _ _ _ (by omega) (by omega) (by omega) ⟨j, by omega, by rw [show x - 0 = x by omega]; exact hT⟩)
          · have c31 := b2i_n0.mp c31
            refine x_1 (p' := 33) hC rfl rfl rfl rfl ?_
            refine x_1 (p' := 35) hC rfl rfl rfl rfl ?_
            refine x_sub (p' := 36) hC rfl rfl rfl (⟨by omega, by omega⟩) ?_
            refine x_stI3 (p' := 37) hC rfl rfl rfl ?_
            refine x_inc4 (p' := 38) hC rfl rfl (⟨by omega, by omega⟩) ?_
            refine x_1 (p' := 12) hC rfl rfl rfl rfl ?_
            first
              | exact absurd c24 c31
              | exact absurd c31 c24
              | (rw [if_neg (by omega), cif_t c31, if_neg (by omega)] at hT
                 exact ih _ _ _ (by omega) (by omega) (by omega) ⟨j, by omega, hT⟩)
              | (rw [if_neg (by omega), cif_f c31] at hT
                 exact ih _ _ _ (by omega) (by omega) (by omega) ⟨j, by omega, by rw [show x - 0 = x by omega]; exact hT⟩)
        · refine x_1 (p' := 28) hC rfl rfl rfl rfl ?_
          refine x_iret hC rfl rfl rfl ⟨_, rfl, ?_⟩
          refine eqK K ?_
          rw [← hT]
          first
            | rw [if_pos (by omega)]
            | rw [if_neg (by omega), cif_t c24, if_pos (by omega)]
set_option maxRecDepth 20000 in
set_option maxHeartbeats 2000000 in
theorem sp_m_unitAt {d : Nat} {m : Nat} {h : HP} (hO : RO m h) {X : Nat → Int → Int} (hs : RI (X 1)) {g x : Int} (hx : x ≤ 2147483647) {Q : Int → HP → Prop} (K : Q (rUnitAt (X 1) g x) (wX m h X)) : CaI (d + 3) 32 [.inr (some m), .inl g, .inl x] (wX m h X) Q := by
  have hC : cod 32 = c_m_unitAt := rfl
  refine CaI.start rfl ?_
  have h0 := hs.1
  have h1 := hs.2.1
  refine x_1 (p' := 1) hC rfl rfl rfl rfl ?_
  refine x_1 (p' := 2) hC rfl rfl rfl rfl ?_
  refine x_cIV1 (p' := 3) (n := 7) hC rfl rfl rfl rfl rfl (hO.ty) ?_
  refine sp_m_isHub hO (by have := hs.1; omega) ?_
  refine x_ifeq (p' := 4) hC rfl rfl (fun c3 => ?_) (fun c3 => ?_)
  · have c3 := b2i_0.mp c3
    refine x_ldc (p' := 7) (v := (-1000001)) hC rfl rfl (by decide) ?_
    refine x_iret hC rfl rfl rfl ⟨_, rfl, ?_⟩
    refine eqK K ?_
    unfold rUnitAt
    repeat (first | rw [if_pos (by omega)] | rw [if_neg (by omega)])
  · have c3 := b2i_n0.mp c3
    refine x_1 (p' := 5) hC rfl rfl rfl rfl ?_
    refine x_ifge (p' := 6) hC rfl rfl (fun c5 => ?_) (fun c5 => ?_)
    · refine x_1 (p' := 9) hC rfl rfl rfl rfl ?_
      refine x_stI3 (p' := 10) hC rfl rfl rfl ?_
      refine x_1 (p' := 11) hC rfl rfl rfl rfl ?_
      refine x_stI4 (p' := 12) hC rfl rfl rfl ?_
      unfold rUnitAt at K
      rw [if_neg (by omega)] at K
      exact lp_m_unitAt hO hs (by omega) K _ x 0 _ (Nat.lt_succ_self _) (by omega) (by omega) ⟨11, by omega, rfl⟩
    · refine x_ldc (p' := 7) (v := (-1000001)) hC rfl rfl (by decide) ?_
      refine x_iret hC rfl rfl rfl ⟨_, rfl, ?_⟩
      refine eqK K ?_
      unfold rUnitAt
      repeat (first | rw [if_pos (by omega)] | rw [if_neg (by omega)])
set_option maxRecDepth 20000 in
set_option maxHeartbeats 2000000 in
theorem sp_m_type {d : Nat} {m : Nat} {h : HP} (hO : RO m h) {X : Nat → Int → Int} (hT : RT X) {c : Int} {Q : Int → HP → Prop} (K1 : ¬ (32 ≤ c ∧ c ≤ 126) → Q (-1000001) (wX m h X)) (K2 : 32 ≤ c ∧ c ≤ 126 → X 0 6 = 60 → Q (-1000003) (wX m h X)) (K3 : 32 ≤ c ∧ c ≤ 126 → X 0 6 < 60 → Q (X 0 6 + 1) (wX m h (upX (upX X 5 (X 0 6) c) 0 6 (X 0 6 + 1)))) : CaI (d + 1) 71 [.inr (some m), .inl c] (wX m h X) Q := by
  have hC : cod 71 = c_m_type := rfl
  refine CaI.start rfl ?_
  obtain ⟨t0, t1, t2, t3⟩ := hT
  refine x_1 (p' := 1) hC rfl rfl rfl rfl ?_
  refine x_1 (p' := 2) hC rfl rfl rfl rfl ?_
  refine x_1 (p' := 3) hC rfl rfl rfl rfl ?_
  refine x_cIS3 (p' := 4) (n := 2) hC rfl rfl rfl rfl rfl ?_
  refine sp_m_in ?_
  refine x_ifne (p' := 5) hC rfl rfl (fun c4 => ?_) (fun c4 => ?_)
  · have c4 := b2i_n0.mp c4
    refine x_1 (p' := 8) hC rfl rfl rfl rfl ?_
    refine y_gI (p' := 9) (kz := 6) hO hC rfl rfl rfl rfl ?_
    refine x_1 (p' := 10) hC rfl rfl rfl rfl ?_
    refine x_icne (p' := 11) hC rfl rfl (fun c10 => ?_) (fun c10 => ?_)
    · refine x_1 (p' := 14) hC rfl rfl rfl rfl ?_
      refine y_gR (p' := 15) (n := 5) hO hC rfl rfl rfl rfl ?_
      refine x_1 (p' := 16) hC rfl rfl rfl rfl ?_
      refine y_gI (p' := 17) (kz := 6) hO hC rfl rfl rfl rfl ?_
      refine x_1 (p' := 18) hC rfl rfl rfl rfl ?_
      refine x_1 (p' := 19) hC rfl rfl rfl rfl ?_
      rw [i2c_eq (by omega) (by omega)]
      refine y_cst (p' := 20) hO hC rfl rfl rfl (by omega) (by omega) (by omega) ?_
      refine x_1 (p' := 21) hC rfl rfl rfl rfl ?_
      refine x_1 (p' := 22) hC rfl rfl rfl rfl ?_
      refine y_gI (p' := 23) (kz := 6) hO hC rfl rfl rfl rfl ?_
      rw [upX_ne (by decide)]
      refine x_1 (p' := 24) hC rfl rfl rfl rfl ?_
      refine x_add (p' := 25) hC rfl rfl rfl (⟨by omega, by omega⟩) ?_
      refine y_pI (p' := 26) (kz := 6) hO hC rfl rfl rfl rfl ?_
      refine x_1 (p' := 27) hC rfl rfl rfl rfl ?_
      refine y_gI (p' := 28) (kz := 6) hO hC rfl rfl rfl rfl ?_
      rw [upX_eq, ups_eq rfl]
      refine x_iret hC rfl rfl rfl ⟨_, rfl, ?_⟩
      exact K3 (by omega) (by omega)
    · refine x_ldc (p' := 12) (v := (-1000003)) hC rfl rfl (by decide) ?_
      refine x_iret hC rfl rfl rfl ⟨_, rfl, ?_⟩
      exact K2 (by omega) (by omega)
  · have c4 := b2i_0.mp c4
    refine x_ldc (p' := 6) (v := (-1000001)) hC rfl rfl (by decide) ?_
    refine x_iret hC rfl rfl rfl ⟨_, rfl, ?_⟩
    exact K1 (by omega)
set_option maxRecDepth 20000 in
set_option maxHeartbeats 2000000 in
theorem sp_m_clearText {d : Nat} {m : Nat} {h : HP} (hO : RO m h) {X : Nat → Int → Int} {Q : Int → HP → Prop} (K : Q (X 0 6) (wX m h (upX X 0 6 0))) : CaI d 72 [.inr (some m)] (wX m h X) Q := by
  have hC : cod 72 = c_m_clearText := rfl
  refine CaI.start rfl ?_
  refine x_1 (p' := 1) hC rfl rfl rfl rfl ?_
  refine y_gI (p' := 2) (kz := 6) hO hC rfl rfl rfl rfl ?_
  refine x_stI1 (p' := 3) hC rfl rfl rfl ?_
  refine x_1 (p' := 4) hC rfl rfl rfl rfl ?_
  refine x_1 (p' := 5) hC rfl rfl rfl rfl ?_
  refine y_pI (p' := 6) (kz := 6) hO hC rfl rfl rfl rfl ?_
  refine x_1 (p' := 7) hC rfl rfl rfl rfl ?_
  refine x_iret hC rfl rfl rfl ⟨_, rfl, ?_⟩
  exact K

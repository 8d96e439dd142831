/-! the reference's frames: one free, one that comes -/
def setS (X : Nat → Int → Int) (s : Int → Int) : Nat → Int → Int := fun a => if a = 1 then s else X a
theorem setS_1 {X : Nat → Int → Int} {s : Int → Int} : setS X s 1 = s := if_pos rfl
theorem setS_ne {X : Nat → Int → Int} {s : Int → Int} {a : Nat} (h : a ≠ 1) : setS X s a = X a := if_neg h
theorem setS_setS {X : Nat → Int → Int} {s s' : Int → Int} : setS (setS X s) s' = setS X s' := by funext a; unfold setS; split <;> rfl
theorem upX_1 {X : Nat → Int → Int} {j v : Int} : upX X 1 j v = setS X (ups (X 1) j v) := by
  funext a b
  unfold upX setS ups
  by_cases h : a = 1
  · subst h; simp
  · simp [h]
theorem setS_id {X : Nat → Int → Int} : setS X (X 1) = X := by
  funext a
  unfold setS
  split
  · rename_i h; rw [h]
  · rfl
theorem ups_eq {s : Int → Int} {j v k : Int} (h : k = j) : ups s j v k = v := if_pos h
theorem ups_ne {s : Int → Int} {j v k : Int} (h : ¬ k = j) : ups s j v k = s k := if_neg h
noncomputable def rFreed (s : Int → Int) : Int → Int := ups s 7 (s 7 + b2i (rFree s = s 7 ∧ rFree s < 559))
set_option maxRecDepth 20000 in
theorem lp_m_free {d : Nat} {m : Nat} {h : HP} (hO : RO m h) {X : Nat → Int → Int} (hs : RI (X 1)) {Kf : Int} {Q : Option AV → HP → Prop} (K : At (d + 1) 43 15 [some (.inr (some m)), some (.inl Kf)] [] (wX m h X) Q) (k : Nat) : ∀ (f : Int), (X 1 7 - f).toNat < k → (0 ≤ f ∧ f ≤ X 1 7) → (∃ n : Nat, X 1 7 ≤ n + f ∧ rFree0 (X 1) n f = Kf) → At (d + 1) 43 2 [some (.inr (some m)), some (.inl f)] [] (wX m h X) Q := by
  have hC : cod 43 = c_m_free := rfl
  induction k with
  | zero =>
    intro f hk
    exact absurd hk (Nat.not_lt_zero _)
  | succ k ih =>
    intro f hk hI0 hI1
    have hs2 := hs.2.2.1
    obtain ⟨n, hn, hT⟩ := hI1
    refine x_1 (p' := 3) hC rfl rfl rfl rfl ?_
    refine x_1 (p' := 4) hC rfl rfl rfl rfl ?_
    refine y_gR (p' := 5) (n := 1) hO hC rfl rfl rfl rfl ?_
    refine x_1 (p' := 6) hC rfl rfl rfl rfl ?_
    refine y_ld (p' := 7) (L := 15568) hO hC rfl rfl rfl rfl (by omega) (by omega) ?_
    refine x_icge (p' := 8) hC rfl rfl (fun c7 => ?_) (fun c7 => ?_)
    · have e : f = Kf := by
        rw [← hT]
        cases n with
        | zero => rfl
        | succ n => exact (if_neg (by omega)).symm
      rw [e]
      exact K
    · refine x_1 (p' := 9) hC rfl rfl rfl rfl ?_
      refine x_1 (p' := 10) hC rfl rfl rfl rfl ?_
      refine x_1 (p' := 11) hC rfl rfl rfl rfl ?_
      refine x_cIV2 (p' := 12) (n := 5) hC rfl rfl rfl rfl rfl (hO.ty) ?_
      refine sp_m_fr hO (by omega) (by omega) ?_
      refine x_ifeq (p' := 13) hC rfl rfl (fun c12 => ?_) (fun c12 => ?_)
      · have e : f = Kf := by
          rw [← hT]
          cases n with
          | zero => rfl
          | succ n => exact (if_neg (by omega)).symm
        rw [e]
        exact K
      · refine x_inc1 (p' := 14) hC rfl rfl (⟨by omega, by omega⟩) ?_
        refine x_1 (p' := 2) hC rfl rfl rfl rfl ?_
        exact ih _ (by omega) (by omega) ⟨n - 1, by omega, by
          rw [← hT]
          obtain ⟨q, rfl⟩ : ∃ q, n = q + 1 := ⟨n - 1, by omega⟩
          show rFree0 (X 1) q (f + 1) = rFree0 (X 1) (q + 1) f
          rw [rFree0, if_pos (by omega)]⟩
theorem rFree0_le (s : Int → Int) : ∀ (n : Nat) (f : Int), 0 ≤ f → f ≤ s 7 → 0 ≤ rFree0 s n f ∧ rFree0 s n f ≤ s 7
  | 0, f, h0, h1 => ⟨h0, h1⟩
  | n + 1, f, h0, h1 => by
    unfold rFree0
    split
    · exact rFree0_le s n (f + 1) (by omega) (by omega)
    · exact ⟨h0, h1⟩
set_option maxRecDepth 20000 in
set_option maxHeartbeats 2000000 in
theorem sp_m_free {d : Nat} {m : Nat} {h : HP} (hO : RO m h) {X : Nat → Int → Int} (hs : RI (X 1)) {Q : Int → HP → Prop} (K : Q (rFree (X 1)) (wX m h (setS X (rFreed (X 1))))) : CaI (d + 1) 43 [.inr (some m)] (wX m h X) Q := by
  have hC : cod 43 = c_m_free := rfl
  refine CaI.start rfl ?_
  have hs2 := hs.2.2.1
  have hfl := rFree0_le (X 1) 560 0 (by omega) (by omega)
  have hfd : rFree (X 1) = rFree0 (X 1) 560 0 := rfl
  refine x_1 (p' := 1) hC rfl rfl rfl rfl ?_
  refine x_stI1 (p' := 2) hC rfl rfl rfl ?_
  refine lp_m_free hO hs (Kf := rFree (X 1)) ?_ _ 0 (Nat.lt_succ_self _) (by omega) ⟨560, by omega, rfl⟩
  refine x_1 (p' := 16) hC rfl rfl rfl rfl ?_
  refine y_gR (p' := 17) (n := 1) hO hC rfl rfl rfl rfl ?_
  refine x_1 (p' := 18) hC rfl rfl rfl rfl ?_
  refine x_1 (p' := 19) hC rfl rfl rfl rfl ?_
  refine y_ld (p' := 20) (L := 15568) hO hC rfl rfl rfl rfl (by omega) (by omega) ?_
  refine x_1 (p' := 21) hC rfl rfl rfl rfl ?_
  refine x_1 (p' := 22) hC rfl rfl rfl rfl ?_
  refine y_gR (p' := 23) (n := 1) hO hC rfl rfl rfl rfl ?_
  refine x_1 (p' := 24) hC rfl rfl rfl rfl ?_
  refine y_ld (p' := 25) (L := 15568) hO hC rfl rfl rfl rfl (by omega) (by omega) ?_
  refine x_icne (p' := 26) hC rfl rfl (fun c25 => ?_) (fun c25 => ?_)
  · refine x_1 (p' := 32) hC rfl rfl rfl rfl ?_
    refine x_add (p' := 33) hC rfl rfl rfl (⟨by omega, by omega⟩) ?_
    refine y_st (p' := 34) (L := 15568) hO hC rfl rfl rfl rfl (by omega) (by omega) ?_
    refine x_1 (p' := 35) hC rfl rfl rfl rfl ?_
    refine x_iret hC rfl rfl rfl ⟨_, rfl, ?_⟩
    rw [upX_1]
    first
      | (unfold rFreed at K; rw [b2i_t (by omega)] at K; exact K)
      | (unfold rFreed at K; rw [b2i_f (by omega)] at K; exact K)
  · refine x_1 (p' := 27) hC rfl rfl rfl rfl ?_
    refine x_1 (p' := 28) hC rfl rfl rfl rfl ?_
    refine x_icge (p' := 29) hC rfl rfl (fun c28 => ?_) (fun c28 => ?_)
    · refine x_1 (p' := 32) hC rfl rfl rfl rfl ?_
      refine x_add (p' := 33) hC rfl rfl rfl (⟨by omega, by omega⟩) ?_
      refine y_st (p' := 34) (L := 15568) hO hC rfl rfl rfl rfl (by omega) (by omega) ?_
      refine x_1 (p' := 35) hC rfl rfl rfl rfl ?_
      refine x_iret hC rfl rfl rfl ⟨_, rfl, ?_⟩
      rw [upX_1]
      first
        | (unfold rFreed at K; rw [b2i_t (by omega)] at K; exact K)
        | (unfold rFreed at K; rw [b2i_f (by omega)] at K; exact K)
    · refine x_1 (p' := 30) hC rfl rfl rfl rfl ?_
      refine x_1 (p' := 32) hC rfl rfl rfl rfl ?_
      refine x_add (p' := 33) hC rfl rfl rfl (⟨by omega, by omega⟩) ?_
      refine y_st (p' := 34) (L := 15568) hO hC rfl rfl rfl rfl (by omega) (by omega) ?_
      refine x_1 (p' := 35) hC rfl rfl rfl rfl ?_
      refine x_iret hC rfl rfl rfl ⟨_, rfl, ?_⟩
      rw [upX_1]
      first
        | (unfold rFreed at K; rw [b2i_t (by omega)] at K; exact K)
        | (unfold rFreed at K; rw [b2i_f (by omega)] at K; exact K)
def rOff (s : Int → Int) (c : Int) : Prop := c < 10 ∧ ¬ rIts s c 2 = 0
noncomputable def rSlot (s : Int → Int) (h c st : Int) : Int := cif (rOff s c ∨ ¬ rPer s c ≤ rOf s h 4) st ((st + rOf s h 4 - 1) / rOf s h 4 * rOf s h 4)
def rLate (s : Int → Int) (h c sl : Int) : Prop := rOff s c ∨ (0 < rOf s h 6 ∧ sl ≤ rOf s h 9)
def rDblN (s : Int → Int) (f h c sl n : Int) : Prop := ∃ q, 0 ≤ q ∧ q < n ∧ rIn s q h sl ∧ rFr s q 2 = c ∧ rFr s q 3 = rFr s f 3
def rDrop (s : Int → Int) (f h w : Int) : Int → Int := ups (ups s (8 + 10 * h + w) (wr (s (8 + 10 * h + w) + 1))) (448 + 27 * f) 0
def rKeep (s : Int → Int) (f sl : Int) : Int → Int := ups (ups (ups s (448 + 27 * f) 2) (448 + 27 * f + 4) sl) (448 + 27 * f + 5) (s 2)
noncomputable def rComes (s : Int → Int) (f : Int) : Int → Int :=
  cif (rLate s (rFr s f 1) (rFr s f 2) (rSlot s (rFr s f 1) (rFr s f 2) (rFr s f 3))) (rDrop s f (rFr s f 1) 7)
    (cif (rDblN s f (rFr s f 1) (rFr s f 2) (rSlot s (rFr s f 1) (rFr s f 2) (rFr s f 3)) (s 7)) (rDrop s f (rFr s f 1) 8) (rKeep s f (rSlot s (rFr s f 1) (rFr s f 2) (rFr s f 3))))
theorem rDblN_succ {s : Int → Int} {f h c sl n : Int} (hn : 0 ≤ n) : rDblN s f h c sl (n + 1) ↔ rDblN s f h c sl n ∨ (rIn s n h sl ∧ rFr s n 2 = c ∧ rFr s n 3 = rFr s f 3) := by
  constructor
  · rintro ⟨q, h0, h1, h2⟩
    rcases (show q < n ∨ q = n by omega) with h3 | h3
    · exact Or.inl ⟨q, h0, h3, h2⟩
    · rw [h3] at h2; exact Or.inr h2
  · rintro (⟨q, h0, h1, h2⟩ | h2)
    · exact ⟨q, h0, by omega, h2⟩
    · exact ⟨n, hn, by omega, h2⟩
theorem mul_div_le {a p : Int} (ha : 0 ≤ a) (hp : 0 < p) : 0 ≤ a / p * p ∧ a / p * p ≤ a := ⟨Int.mul_nonneg (Int.ediv_nonneg ha (Int.le_of_lt hp)) (Int.le_of_lt hp), Int.ediv_mul_le a (by omega)⟩
theorem comes_fin {Q : HP → Prop} {m : Nat} {h : HP} {X Y : Nat → Int → Int} (K : Q (wX m h Y)) (e : X = Y) : Q (wX m h X) := e ▸ K
set_option maxRecDepth 20000 in
theorem lp_m_comes {d : Nat} {m : Nat} {h : HP} (hO : RO m h) {X : Nat → Int → Int} (hs : RI (X 1)) {f g c P sl lt : Int} (hf : 0 ≤ f ∧ f < 560) (hg : 0 ≤ g ∧ g < 5) (hlt : lt = 0 ∨ lt = 1) {Q : HP → Prop} (K1 : lt = 1 → Q (wX m h (setS X (rDrop (X 1) f g 7)))) (K2 : lt = 0 → rDblN (X 1) f g c sl (X 1 7) → Q (wX m h (setS X (rDrop (X 1) f g 8)))) (K3 : lt = 0 → ¬ rDblN (X 1) f g c sl (X 1 7) → Q (wX m h (setS X (rKeep (X 1) f sl)))) (k : Nat) : ∀ (b : Int) (u : Int), (X 1 7 - u).toNat < k → (0 ≤ u ∧ u ≤ X 1 7) → (b = b2i (rDblN (X 1) f g c sl u)) → At (d + 2) 44 71 [some (.inr (some m)), some (.inl f), some (.inl g), some (.inl c), some (.inl P), some (.inl sl), some (.inl lt), some (.inl b), some (.inl u)] [] (wX m h X) (fun v h' => v = none ∧ Q h') := by
  have hC : cod 44 = c_m_comes := rfl
  induction k with
  | zero =>
    intro b u hk
    exact absurd hk (Nat.not_lt_zero _)
  | succ k ih =>
    intro b u hk hI0 hI1
    have hs2 := hs.2.2.1
    have hs3 : u = X 1 7 → b = b2i (rDblN (X 1) f g c sl (X 1 7)) := fun e => by rw [← e]; exact hI1
    have hb01 : 0 ≤ b ∧ b ≤ 1 := by rw [hI1]; exact b2i_01 _
    refine x_1 (p' := 72) hC rfl rfl rfl rfl ?_
    refine x_1 (p' := 73) hC rfl rfl rfl rfl ?_
    refine y_gR (p' := 74) (n := 1) hO hC rfl rfl rfl rfl ?_
    refine x_1 (p' := 75) hC rfl rfl rfl rfl ?_
    refine y_ld (p' := 76) (L := 15568) hO hC rfl rfl rfl rfl (by omega) (by omega) ?_
    refine x_icge (p' := 77) hC rfl rfl (fun c76 => ?_) (fun c76 => ?_)
    · refine x_1 (p' := 107) hC rfl rfl rfl rfl ?_
      refine x_ifne (p' := 108) hC rfl rfl (fun c107 => ?_) (fun c107 => ?_)
      · refine x_1 (p' := 111) hC rfl rfl rfl rfl ?_
        refine y_gR (p' := 112) (n := 1) hO hC rfl rfl rfl rfl ?_
        refine x_1 (p' := 113) hC rfl rfl rfl rfl ?_
        refine x_1 (p' := 114) hC rfl rfl rfl rfl ?_
        refine x_1 (p' := 115) hC rfl rfl rfl rfl ?_
        refine x_mul (p' := 116) hC rfl rfl rfl (⟨by omega, by omega⟩) ?_
        refine x_add (p' := 117) hC rfl rfl rfl (⟨by omega, by omega⟩) ?_
        refine x_1 (p' := 118) hC rfl rfl rfl rfl ?_
        refine x_ifeq (p' := 119) hC rfl rfl (fun c118 => ?_) (fun c118 => ?_)
        · refine x_1 (p' := 122) hC rfl rfl rfl rfl ?_
          refine x_add (p' := 123) hC rfl rfl rfl (⟨by omega, by omega⟩) ?_
          refine x_1 (p' := 124) hC rfl rfl rfl rfl ?_
          refine y_ld (p' := 125) (L := 15568) hO hC rfl rfl rfl rfl (by omega) (by omega) ?_
          refine x_1 (p' := 126) hC rfl rfl rfl rfl ?_
          refine x_1 (p' := 127) hC rfl rfl rfl rfl ?_
          refine y_st (p' := 128) (L := 15568) hO hC rfl rfl rfl rfl (by omega) (by omega) ?_
          refine x_1 (p' := 129) hC rfl rfl rfl rfl ?_
          refine x_1 (p' := 130) hC rfl rfl rfl rfl ?_
          refine x_1 (p' := 131) hC rfl rfl rfl rfl ?_
          refine x_1 (p' := 132) hC rfl rfl rfl rfl ?_
          refine x_cVV3 (p' := 133) (n := 6) hC rfl rfl rfl rfl rfl (hO.ty) ?_
          refine sp_m_lays hO (by omega) (by omega) ?_
          refine x_ret hC rfl rfl rfl ⟨rfl, ?_⟩
          simp only [upX_1, setS_setS, setS_1]
          first
            | (exfalso; omega)
            | exact comes_fin (K1 (by omega)) (by simp only [rDrop, Int.add_zero])
            | exact comes_fin (K2 (by omega) (b2i_n0.mp (by rw [← hs3 (by omega)]; omega))) (by simp only [rDrop, Int.add_zero])
        · refine x_1 (p' := 120) hC rfl rfl rfl rfl ?_
          refine x_1 (p' := 122) hC rfl rfl rfl rfl ?_
          refine x_add (p' := 123) hC rfl rfl rfl (⟨by omega, by omega⟩) ?_
          refine x_1 (p' := 124) hC rfl rfl rfl rfl ?_
          refine y_ld (p' := 125) (L := 15568) hO hC rfl rfl rfl rfl (by omega) (by omega) ?_
          refine x_1 (p' := 126) hC rfl rfl rfl rfl ?_
          refine x_1 (p' := 127) hC rfl rfl rfl rfl ?_
          refine y_st (p' := 128) (L := 15568) hO hC rfl rfl rfl rfl (by omega) (by omega) ?_
          refine x_1 (p' := 129) hC rfl rfl rfl rfl ?_
          refine x_1 (p' := 130) hC rfl rfl rfl rfl ?_
          refine x_1 (p' := 131) hC rfl rfl rfl rfl ?_
          refine x_1 (p' := 132) hC rfl rfl rfl rfl ?_
          refine x_cVV3 (p' := 133) (n := 6) hC rfl rfl rfl rfl rfl (hO.ty) ?_
          refine sp_m_lays hO (by omega) (by omega) ?_
          refine x_ret hC rfl rfl rfl ⟨rfl, ?_⟩
          simp only [upX_1, setS_setS, setS_1]
          first
            | (exfalso; omega)
            | exact comes_fin (K1 (by omega)) (by simp only [rDrop, Int.add_zero])
            | exact comes_fin (K2 (by omega) (b2i_n0.mp (by rw [← hs3 (by omega)]; omega))) (by simp only [rDrop, Int.add_zero])
      · refine x_1 (p' := 109) hC rfl rfl rfl rfl ?_
        refine x_ifeq (p' := 110) hC rfl rfl (fun c109 => ?_) (fun c109 => ?_)
        · refine x_1 (p' := 135) hC rfl rfl rfl rfl ?_
          refine x_1 (p' := 136) hC rfl rfl rfl rfl ?_
          refine x_1 (p' := 137) hC rfl rfl rfl rfl ?_
          refine x_1 (p' := 138) hC rfl rfl rfl rfl ?_
          refine x_cVV3 (p' := 139) (n := 6) hC rfl rfl rfl rfl rfl (hO.ty) ?_
          refine sp_m_lays hO (by omega) (by omega) ?_
          refine x_1 (p' := 140) hC rfl rfl rfl rfl ?_
          refine x_1 (p' := 141) hC rfl rfl rfl rfl ?_
          refine x_1 (p' := 142) hC rfl rfl rfl rfl ?_
          refine x_1 (p' := 143) hC rfl rfl rfl rfl ?_
          refine x_cVV3 (p' := 144) (n := 6) hC rfl rfl rfl rfl rfl (hO.ty) ?_
          refine sp_m_lays hO (by omega) (by omega) ?_
          refine x_1 (p' := 145) hC rfl rfl rfl rfl ?_
          refine x_1 (p' := 146) hC rfl rfl rfl rfl ?_
          refine x_1 (p' := 147) hC rfl rfl rfl rfl ?_
          refine x_1 (p' := 148) hC rfl rfl rfl rfl ?_
          refine y_gR (p' := 149) (n := 1) hO hC rfl rfl rfl rfl ?_
          refine x_1 (p' := 150) hC rfl rfl rfl rfl ?_
          refine y_ld (p' := 151) (L := 15568) hO hC rfl rfl rfl rfl (by omega) (by omega) ?_
          refine x_cVV3 (p' := 152) (n := 6) hC rfl rfl rfl rfl rfl (hO.ty) ?_
          refine sp_m_lays hO (by omega) (by omega) ?_
          refine x_ret hC rfl rfl rfl ⟨rfl, ?_⟩
          simp only [upX_1, setS_setS, setS_1]
          refine comes_fin (K3 (by omega) (b2i_0.mp (by rw [← hs3 (by omega)]; omega))) ?_
          rw [ups_ne (by omega), ups_ne (by omega), Int.add_zero]
          rfl
        · refine x_1 (p' := 111) hC rfl rfl rfl rfl ?_
          refine y_gR (p' := 112) (n := 1) hO hC rfl rfl rfl rfl ?_
          refine x_1 (p' := 113) hC rfl rfl rfl rfl ?_
          refine x_1 (p' := 114) hC rfl rfl rfl rfl ?_
          refine x_1 (p' := 115) hC rfl rfl rfl rfl ?_
          refine x_mul (p' := 116) hC rfl rfl rfl (⟨by omega, by omega⟩) ?_
          refine x_add (p' := 117) hC rfl rfl rfl (⟨by omega, by omega⟩) ?_
          refine x_1 (p' := 118) hC rfl rfl rfl rfl ?_
          refine x_ifeq (p' := 119) hC rfl rfl (fun c118 => ?_) (fun c118 => ?_)
          · refine x_1 (p' := 122) hC rfl rfl rfl rfl ?_
            refine x_add (p' := 123) hC rfl rfl rfl (⟨by omega, by omega⟩) ?_
            refine x_1 (p' := 124) hC rfl rfl rfl rfl ?_
            refine y_ld (p' := 125) (L := 15568) hO hC rfl rfl rfl rfl (by omega) (by omega) ?_
            refine x_1 (p' := 126) hC rfl rfl rfl rfl ?_
            refine x_1 (p' := 127) hC rfl rfl rfl rfl ?_
            refine y_st (p' := 128) (L := 15568) hO hC rfl rfl rfl rfl (by omega) (by omega) ?_
            refine x_1 (p' := 129) hC rfl rfl rfl rfl ?_
            refine x_1 (p' := 130) hC rfl rfl rfl rfl ?_
            refine x_1 (p' := 131) hC rfl rfl rfl rfl ?_
            refine x_1 (p' := 132) hC rfl rfl rfl rfl ?_
            refine x_cVV3 (p' := 133) (n := 6) hC rfl rfl rfl rfl rfl (hO.ty) ?_
            refine sp_m_lays hO (by omega) (by omega) ?_
            refine x_ret hC rfl rfl rfl ⟨rfl, ?_⟩
            simp only [upX_1, setS_setS, setS_1]
            first
              | (exfalso; omega)
              | exact comes_fin (K1 (by omega)) (by simp only [rDrop, Int.add_zero])
              | exact comes_fin (K2 (by omega) (b2i_n0.mp (by rw [← hs3 (by omega)]; omega))) (by simp only [rDrop, Int.add_zero])
          · refine x_1 (p' := 120) hC rfl rfl rfl rfl ?_
            refine x_1 (p' := 122) hC rfl rfl rfl rfl ?_
            refine x_add (p' := 123) hC rfl rfl rfl (⟨by omega, by omega⟩) ?_
            refine x_1 (p' := 124) hC rfl rfl rfl rfl ?_
            refine y_ld (p' := 125) (L := 15568) hO hC rfl rfl rfl rfl (by omega) (by omega) ?_
            refine x_1 (p' := 126) hC rfl rfl rfl rfl ?_
            refine x_1 (p' := 127) hC rfl rfl rfl rfl ?_
            refine y_st (p' := 128) (L := 15568) hO hC rfl rfl rfl rfl (by omega) (by omega) ?_
            refine x_1 (p' := 129) hC rfl rfl rfl rfl ?_
            refine x_1 (p' := 130) hC rfl rfl rfl rfl ?_
            refine x_1 (p' := 131) hC rfl rfl rfl rfl ?_
            refine x_1 (p' := 132) hC rfl rfl rfl rfl ?_
            refine x_cVV3 (p' := 133) (n := 6) hC rfl rfl rfl rfl rfl (hO.ty) ?_
            refine sp_m_lays hO (by omega) (by omega) ?_
            refine x_ret hC rfl rfl rfl ⟨rfl, ?_⟩
            simp only [upX_1, setS_setS, setS_1]
            first
              | (exfalso; omega)
              | exact comes_fin (K1 (by omega)) (by simp only [rDrop, Int.add_zero])
              | exact comes_fin (K2 (by omega) (b2i_n0.mp (by rw [← hs3 (by omega)]; omega))) (by simp only [rDrop, Int.add_zero])
    · refine x_1 (p' := 78) hC rfl rfl rfl rfl ?_
      refine x_ifne (p' := 79) hC rfl rfl (fun c78 => ?_) (fun c78 => ?_)
      · refine x_1 (p' := 101) hC rfl rfl rfl rfl ?_
        refine x_1 (p' := 103) hC rfl rfl rfl rfl ?_
        refine x_stI7 (p' := 104) hC rfl rfl rfl ?_
        refine x_inc8 (p' := 105) hC rfl rfl (⟨by omega, by omega⟩) ?_
        refine x_1 (p' := 71) hC rfl rfl rfl rfl ?_
        refine ih _ _ (by omega) (by omega) ?_
        first
          | exact (b2i_t ((rDblN_succ (by omega)).mpr (Or.inl (b2i_n0.mp (by rw [← hI1]; omega))))).symm
          | exact (b2i_t ((rDblN_succ (by omega)).mpr (Or.inr (by omega)))).symm
          | exact (b2i_f (fun q => by
              rcases (rDblN_succ (by omega)).mp q with q | q
              · exact b2i_0.mp (by rw [← hI1]; omega) q
              · omega)).symm
      · refine x_1 (p' := 80) hC rfl rfl rfl rfl ?_
        refine x_1 (p' := 81) hC rfl rfl rfl rfl ?_
        refine x_1 (p' := 82) hC rfl rfl rfl rfl ?_
        refine x_1 (p' := 83) hC rfl rfl rfl rfl ?_
        refine x_cIV3 (p' := 84) (n := 33) hC rfl rfl rfl rfl rfl (hO.ty) ?_
        refine sp_m_isIn hO (by omega) ?_
        refine x_ifeq (p' := 85) hC rfl rfl (fun c84 => ?_) (fun c84 => ?_)
        · have c84 := b2i_0.mp c84
          refine x_1 (p' := 103) hC rfl rfl rfl rfl ?_
          refine x_stI7 (p' := 104) hC rfl rfl rfl ?_
          refine x_inc8 (p' := 105) hC rfl rfl (⟨by omega, by omega⟩) ?_
          refine x_1 (p' := 71) hC rfl rfl rfl rfl ?_
          refine ih _ _ (by omega) (by omega) ?_
          first
            | exact (b2i_t ((rDblN_succ (by omega)).mpr (Or.inl (b2i_n0.mp (by rw [← hI1]; omega))))).symm
            | exact (b2i_t ((rDblN_succ (by omega)).mpr (Or.inr (by omega)))).symm
            | exact (b2i_f (fun q => by
                rcases (rDblN_succ (by omega)).mp q with q | q
                · exact b2i_0.mp (by rw [← hI1]; omega) q
                · omega)).symm
        · have c84 := b2i_n0.mp c84
          
          refine x_1 (p' := 86) hC rfl rfl rfl rfl ?_
          refine x_1 (p' := 87) hC rfl rfl rfl rfl ?_
          refine x_1 (p' := 88) hC rfl rfl rfl rfl ?_
          refine x_cIV2 (p' := 89) (n := 5) hC rfl rfl rfl rfl rfl (hO.ty) ?_
          refine sp_m_fr hO (by omega) (by omega) ?_
          refine x_1 (p' := 90) hC rfl rfl rfl rfl ?_
          refine x_icne (p' := 91) hC rfl rfl (fun c90 => ?_) (fun c90 => ?_)
          · refine x_1 (p' := 103) hC rfl rfl rfl rfl ?_
            refine x_stI7 (p' := 104) hC rfl rfl rfl ?_
            refine x_inc8 (p' := 105) hC rfl rfl (⟨by omega, by omega⟩) ?_
            refine x_1 (p' := 71) hC rfl rfl rfl rfl ?_
            refine ih _ _ (by omega) (by omega) ?_
            first
              | exact (b2i_t ((rDblN_succ (by omega)).mpr (Or.inl (b2i_n0.mp (by rw [← hI1]; omega))))).symm
              | exact (b2i_t ((rDblN_succ (by omega)).mpr (Or.inr (by omega)))).symm
              | exact (b2i_f (fun q => by
                  rcases (rDblN_succ (by omega)).mp q with q | q
                  · exact b2i_0.mp (by rw [← hI1]; omega) q
                  · omega)).symm
          · refine x_1 (p' := 92) hC rfl rfl rfl rfl ?_
            refine x_1 (p' := 93) hC rfl rfl rfl rfl ?_
            refine x_1 (p' := 94) hC rfl rfl rfl rfl ?_
            refine x_cIV2 (p' := 95) (n := 5) hC rfl rfl rfl rfl rfl (hO.ty) ?_
            refine sp_m_fr hO (by omega) (by omega) ?_
            refine x_1 (p' := 96) hC rfl rfl rfl rfl ?_
            refine x_1 (p' := 97) hC rfl rfl rfl rfl ?_
            refine x_1 (p' := 98) hC rfl rfl rfl rfl ?_
            refine x_cIV2 (p' := 99) (n := 5) hC rfl rfl rfl rfl rfl (hO.ty) ?_
            refine sp_m_fr hO (by omega) (by omega) ?_
            refine x_icne (p' := 100) hC rfl rfl (fun c99 => ?_) (fun c99 => ?_)
            · refine x_1 (p' := 103) hC rfl rfl rfl rfl ?_
              refine x_stI7 (p' := 104) hC rfl rfl rfl ?_
              refine x_inc8 (p' := 105) hC rfl rfl (⟨by omega, by omega⟩) ?_
              refine x_1 (p' := 71) hC rfl rfl rfl rfl ?_
              refine ih _ _ (by omega) (by omega) ?_
              first
                | exact (b2i_t ((rDblN_succ (by omega)).mpr (Or.inl (b2i_n0.mp (by rw [← hI1]; omega))))).symm
                | exact (b2i_t ((rDblN_succ (by omega)).mpr (Or.inr (by omega)))).symm
                | exact (b2i_f (fun q => by
                    rcases (rDblN_succ (by omega)).mp q with q | q
                    · exact b2i_0.mp (by rw [← hI1]; omega) q
                    · omega)).symm
            · refine x_1 (p' := 101) hC rfl rfl rfl rfl ?_
              refine x_1 (p' := 103) hC rfl rfl rfl rfl ?_
              refine x_stI7 (p' := 104) hC rfl rfl rfl ?_
              refine x_inc8 (p' := 105) hC rfl rfl (⟨by omega, by omega⟩) ?_
              refine x_1 (p' := 71) hC rfl rfl rfl rfl ?_
              refine ih _ _ (by omega) (by omega) ?_
              first
                | exact (b2i_t ((rDblN_succ (by omega)).mpr (Or.inl (b2i_n0.mp (by rw [← hI1]; omega))))).symm
                | exact (b2i_t ((rDblN_succ (by omega)).mpr (Or.inr (by omega)))).symm
                | exact (b2i_f (fun q => by
                    rcases (rDblN_succ (by omega)).mp q with q | q
                    · exact b2i_0.mp (by rw [← hI1]; omega) q
                    · omega)).symm
set_option maxRecDepth 20000 in
set_option maxHeartbeats 2000000 in
theorem sp_m_comes {d : Nat} {m : Nat} {h : HP} (hO : RO m h) {X : Nat → Int → Int} (hs : RI (X 1)) {f : Int} (hf : 0 ≤ f ∧ f < 560) (hg : 0 ≤ rFr (X 1) f 1 ∧ rFr (X 1) f 1 < 5) (hc : 0 ≤ rFr (X 1) f 2 ∧ rFr (X 1) f 2 < 15) (hP : 1 ≤ rOf (X 1) (rFr (X 1) f 1) 4 ∧ rOf (X 1) (rFr (X 1) f 1) 4 ≤ 20) (hst : 0 ≤ rFr (X 1) f 3 ∧ rFr (X 1) f 3 ≤ 100000) {Q : HP → Prop} (K : Q (wX m h (setS X (rComes (X 1) f)))) : CaV (d + 3) 44 [.inr (some m), .inl f] (wX m h X) Q := by
  have hC : cod 44 = c_m_comes := rfl
  refine CaV.start rfl ?_
  have hs2 := hs.2.2.1
  have hdv := mul_div_le (a := rFr (X 1) f 3 + rOf (X 1) (rFr (X 1) f 1) 4 - 1) (p := rOf (X 1) (rFr (X 1) f 1) 4) (by omega) (by omega)
  refine x_1 (p' := 1) hC rfl rfl rfl rfl ?_
  refine x_1 (p' := 2) hC rfl rfl rfl rfl ?_
  refine x_1 (p' := 3) hC rfl rfl rfl rfl ?_
  refine x_cIV2 (p' := 4) (n := 5) hC rfl rfl rfl rfl rfl (hO.ty) ?_
  refine sp_m_fr hO (by omega) (by omega) ?_
  refine x_stI2 (p' := 5) hC rfl rfl rfl ?_
  refine x_1 (p' := 6) hC rfl rfl rfl rfl ?_
  refine x_1 (p' := 7) hC rfl rfl rfl rfl ?_
  refine x_1 (p' := 8) hC rfl rfl rfl rfl ?_
  refine x_cIV2 (p' := 9) (n := 5) hC rfl rfl rfl rfl rfl (hO.ty) ?_
  refine sp_m_fr hO (by omega) (by omega) ?_
  refine x_stI3 (p' := 10) hC rfl rfl rfl ?_
  refine x_1 (p' := 11) hC rfl rfl rfl rfl ?_
  refine x_1 (p' := 12) hC rfl rfl rfl rfl ?_
  refine x_1 (p' := 13) hC rfl rfl rfl rfl ?_
  refine x_cIV2 (p' := 14) (n := 3) hC rfl rfl rfl rfl rfl (hO.ty) ?_
  refine sp_m_of hO (by omega) (by omega) ?_
  refine x_stI4 (p' := 15) hC rfl rfl rfl ?_
  refine x_1 (p' := 16) hC rfl rfl rfl rfl ?_
  refine x_1 (p' := 17) hC rfl rfl rfl rfl ?_
  refine x_icge (p' := 18) hC rfl rfl (fun c17 => ?_) (fun c17 => ?_)
  · refine x_1 (p' := 23) hC rfl rfl rfl rfl ?_
    refine x_1 (p' := 24) hC rfl rfl rfl rfl ?_
    refine x_1 (p' := 25) hC rfl rfl rfl rfl ?_
    refine x_cIV2 (p' := 26) (n := 36) hC rfl rfl rfl rfl rfl (hO.ty) ?_
    refine sp_m_isQuick hO (by omega) (by omega) ?_
    refine x_ifne (p' := 27) hC rfl rfl (fun c26 => ?_) (fun c26 => ?_)
    · have c26 := b2i_n0.mp c26
      refine x_1 (p' := 33) hC rfl rfl rfl rfl ?_
      refine x_1 (p' := 34) hC rfl rfl rfl rfl ?_
      refine x_1 (p' := 35) hC rfl rfl rfl rfl ?_
      refine x_cIV2 (p' := 36) (n := 5) hC rfl rfl rfl rfl rfl (hO.ty) ?_
      refine sp_m_fr hO (by omega) (by omega) ?_
      refine x_1 (p' := 37) hC rfl rfl rfl rfl ?_
      refine x_add (p' := 38) hC rfl rfl rfl (⟨by omega, by omega⟩) ?_
      refine x_1 (p' := 39) hC rfl rfl rfl rfl ?_
      refine x_sub (p' := 40) hC rfl rfl rfl (⟨by omega, by omega⟩) ?_
      refine x_1 (p' := 41) hC rfl rfl rfl rfl ?_
      refine x_div (p' := 42) hC rfl rfl rfl (by omega) ?_
      rw [wr_tdiv (by omega) (by omega) (by omega)]
      refine x_1 (p' := 43) hC rfl rfl rfl rfl ?_
      refine x_mul (p' := 44) hC rfl rfl rfl (⟨by omega, by omega⟩) ?_
      refine x_stI5 (p' := 45) hC rfl rfl rfl ?_
      refine x_1 (p' := 46) hC rfl rfl rfl rfl ?_
      refine x_1 (p' := 47) hC rfl rfl rfl rfl ?_
      refine x_icge (p' := 48) hC rfl rfl (fun c47 => ?_) (fun c47 => ?_)
      · refine x_1 (p' := 53) hC rfl rfl rfl rfl ?_
        refine x_1 (p' := 54) hC rfl rfl rfl rfl ?_
        refine x_1 (p' := 55) hC rfl rfl rfl rfl ?_
        refine x_cIV2 (p' := 56) (n := 3) hC rfl rfl rfl rfl rfl (hO.ty) ?_
        refine sp_m_of hO (by omega) (by omega) ?_
        refine x_ifle (p' := 57) hC rfl rfl (fun c56 => ?_) (fun c56 => ?_)
        · refine x_1 (p' := 66) hC rfl rfl rfl rfl ?_
          refine x_stI6 (p' := 67) hC rfl rfl rfl ?_
          refine x_1 (p' := 68) hC rfl rfl rfl rfl ?_
          refine x_stI7 (p' := 69) hC rfl rfl rfl ?_
          refine x_1 (p' := 70) hC rfl rfl rfl rfl ?_
          refine x_stI8 (p' := 71) hC rfl rfl rfl ?_
          refine lp_m_comes hO hs (f := f) (g := rFr (X 1) f 1) (c := rFr (X 1) f 2) (P := rOf (X 1) (rFr (X 1) f 1) 4) (sl := _) (lt := _) hf hg (by omega) (fun hl => ?_) (fun hl hd => ?_) (fun hl hd => ?_) _ 0 0 (Nat.lt_succ_self _) (by omega) (b2i_f (fun ⟨q, h0, h1, _⟩ => by omega)).symm
          all_goals first
            | (exfalso; omega)
            | (have e1 : rSlot (X 1) (rFr (X 1) f 1) (rFr (X 1) f 2) (rFr (X 1) f 3) = rFr (X 1) f 3 := by
                  unfold rSlot rOff
                  exact cif_t (by omega)
               refine comes_fin K ?_
               unfold rComes
               rw [e1]
               unfold rLate rOff
               first
                 | rw [cif_t (by omega)]
                 | (rw [cif_f (by omega)]; first | rw [cif_t hd] | rw [cif_f hd]))
            | (have e1 : rSlot (X 1) (rFr (X 1) f 1) (rFr (X 1) f 2) (rFr (X 1) f 3) = (rFr (X 1) f 3 + rOf (X 1) (rFr (X 1) f 1) 4 - 1) / rOf (X 1) (rFr (X 1) f 1) 4 * rOf (X 1) (rFr (X 1) f 1) 4 := by
                  unfold rSlot rOff
                  exact cif_f (by omega)
               refine comes_fin K ?_
               unfold rComes
               rw [e1]
               unfold rLate rOff
               first
                 | rw [cif_t (by omega)]
                 | (rw [cif_f (by omega)]; first | rw [cif_t hd] | rw [cif_f hd]))
        · refine x_1 (p' := 58) hC rfl rfl rfl rfl ?_
          refine x_1 (p' := 59) hC rfl rfl rfl rfl ?_
          refine x_1 (p' := 60) hC rfl rfl rfl rfl ?_
          refine x_1 (p' := 61) hC rfl rfl rfl rfl ?_
          refine x_cIV2 (p' := 62) (n := 3) hC rfl rfl rfl rfl rfl (hO.ty) ?_
          refine sp_m_of hO (by omega) (by omega) ?_
          refine x_icgt (p' := 63) hC rfl rfl (fun c62 => ?_) (fun c62 => ?_)
          · refine x_1 (p' := 66) hC rfl rfl rfl rfl ?_
            refine x_stI6 (p' := 67) hC rfl rfl rfl ?_
            refine x_1 (p' := 68) hC rfl rfl rfl rfl ?_
            refine x_stI7 (p' := 69) hC rfl rfl rfl ?_
            refine x_1 (p' := 70) hC rfl rfl rfl rfl ?_
            refine x_stI8 (p' := 71) hC rfl rfl rfl ?_
            refine lp_m_comes hO hs (f := f) (g := rFr (X 1) f 1) (c := rFr (X 1) f 2) (P := rOf (X 1) (rFr (X 1) f 1) 4) (sl := _) (lt := _) hf hg (by omega) (fun hl => ?_) (fun hl hd => ?_) (fun hl hd => ?_) _ 0 0 (Nat.lt_succ_self _) (by omega) (b2i_f (fun ⟨q, h0, h1, _⟩ => by omega)).symm
            all_goals first
              | (exfalso; omega)
              | (have e1 : rSlot (X 1) (rFr (X 1) f 1) (rFr (X 1) f 2) (rFr (X 1) f 3) = rFr (X 1) f 3 := by
                    unfold rSlot rOff
                    exact cif_t (by omega)
                 refine comes_fin K ?_
                 unfold rComes
                 rw [e1]
                 unfold rLate rOff
                 first
                   | rw [cif_t (by omega)]
                   | (rw [cif_f (by omega)]; first | rw [cif_t hd] | rw [cif_f hd]))
              | (have e1 : rSlot (X 1) (rFr (X 1) f 1) (rFr (X 1) f 2) (rFr (X 1) f 3) = (rFr (X 1) f 3 + rOf (X 1) (rFr (X 1) f 1) 4 - 1) / rOf (X 1) (rFr (X 1) f 1) 4 * rOf (X 1) (rFr (X 1) f 1) 4 := by
                    unfold rSlot rOff
                    exact cif_f (by omega)
                 refine comes_fin K ?_
                 unfold rComes
                 rw [e1]
                 unfold rLate rOff
                 first
                   | rw [cif_t (by omega)]
                   | (rw [cif_f (by omega)]; first | rw [cif_t hd] | rw [cif_f hd]))
          · refine x_1 (p' := 64) hC rfl rfl rfl rfl ?_
            refine x_1 (p' := 66) hC rfl rfl rfl rfl ?_
            refine x_stI6 (p' := 67) hC rfl rfl rfl ?_
            refine x_1 (p' := 68) hC rfl rfl rfl rfl ?_
            refine x_stI7 (p' := 69) hC rfl rfl rfl ?_
            refine x_1 (p' := 70) hC rfl rfl rfl rfl ?_
            refine x_stI8 (p' := 71) hC rfl rfl rfl ?_
            refine lp_m_comes hO hs (f := f) (g := rFr (X 1) f 1) (c := rFr (X 1) f 2) (P := rOf (X 1) (rFr (X 1) f 1) 4) (sl := _) (lt := _) hf hg (by omega) (fun hl => ?_) (fun hl hd => ?_) (fun hl hd => ?_) _ 0 0 (Nat.lt_succ_self _) (by omega) (b2i_f (fun ⟨q, h0, h1, _⟩ => by omega)).symm
            all_goals first
              | (exfalso; omega)
              | (have e1 : rSlot (X 1) (rFr (X 1) f 1) (rFr (X 1) f 2) (rFr (X 1) f 3) = rFr (X 1) f 3 := by
                    unfold rSlot rOff
                    exact cif_t (by omega)
                 refine comes_fin K ?_
                 unfold rComes
                 rw [e1]
                 unfold rLate rOff
                 first
                   | rw [cif_t (by omega)]
                   | (rw [cif_f (by omega)]; first | rw [cif_t hd] | rw [cif_f hd]))
              | (have e1 : rSlot (X 1) (rFr (X 1) f 1) (rFr (X 1) f 2) (rFr (X 1) f 3) = (rFr (X 1) f 3 + rOf (X 1) (rFr (X 1) f 1) 4 - 1) / rOf (X 1) (rFr (X 1) f 1) 4 * rOf (X 1) (rFr (X 1) f 1) 4 := by
                    unfold rSlot rOff
                    exact cif_f (by omega)
                 refine comes_fin K ?_
                 unfold rComes
                 rw [e1]
                 unfold rLate rOff
                 first
                   | rw [cif_t (by omega)]
                   | (rw [cif_f (by omega)]; first | rw [cif_t hd] | rw [cif_f hd]))
      · refine x_1 (p' := 49) hC rfl rfl rfl rfl ?_
        refine x_1 (p' := 50) hC rfl rfl rfl rfl ?_
        refine x_cIV1 (p' := 51) (n := 9) hC rfl rfl rfl rfl rfl (hO.ty) ?_
        refine sp_m_isOn hO (by omega) ?_
        refine x_ifeq (p' := 52) hC rfl rfl (fun c51 => ?_) (fun c51 => ?_)
        · have c51 := b2i_0.mp c51
          refine x_1 (p' := 64) hC rfl rfl rfl rfl ?_
          refine x_1 (p' := 66) hC rfl rfl rfl rfl ?_
          refine x_stI6 (p' := 67) hC rfl rfl rfl ?_
          refine x_1 (p' := 68) hC rfl rfl rfl rfl ?_
          refine x_stI7 (p' := 69) hC rfl rfl rfl ?_
          refine x_1 (p' := 70) hC rfl rfl rfl rfl ?_
          refine x_stI8 (p' := 71) hC rfl rfl rfl ?_
          refine lp_m_comes hO hs (f := f) (g := rFr (X 1) f 1) (c := rFr (X 1) f 2) (P := rOf (X 1) (rFr (X 1) f 1) 4) (sl := _) (lt := _) hf hg (by omega) (fun hl => ?_) (fun hl hd => ?_) (fun hl hd => ?_) _ 0 0 (Nat.lt_succ_self _) (by omega) (b2i_f (fun ⟨q, h0, h1, _⟩ => by omega)).symm
          all_goals first
            | (exfalso; omega)
            | (have e1 : rSlot (X 1) (rFr (X 1) f 1) (rFr (X 1) f 2) (rFr (X 1) f 3) = rFr (X 1) f 3 := by
                  unfold rSlot rOff
                  exact cif_t (by omega)
               refine comes_fin K ?_
               unfold rComes
               rw [e1]
               unfold rLate rOff
               first
                 | rw [cif_t (by omega)]
                 | (rw [cif_f (by omega)]; first | rw [cif_t hd] | rw [cif_f hd]))
            | (have e1 : rSlot (X 1) (rFr (X 1) f 1) (rFr (X 1) f 2) (rFr (X 1) f 3) = (rFr (X 1) f 3 + rOf (X 1) (rFr (X 1) f 1) 4 - 1) / rOf (X 1) (rFr (X 1) f 1) 4 * rOf (X 1) (rFr (X 1) f 1) 4 := by
                  unfold rSlot rOff
                  exact cif_f (by omega)
               refine comes_fin K ?_
               unfold rComes
               rw [e1]
               unfold rLate rOff
               first
                 | rw [cif_t (by omega)]
                 | (rw [cif_f (by omega)]; first | rw [cif_t hd] | rw [cif_f hd]))
        · have c51 := b2i_n0.mp c51
          refine x_1 (p' := 53) hC rfl rfl rfl rfl ?_
          refine x_1 (p' := 54) hC rfl rfl rfl rfl ?_
          refine x_1 (p' := 55) hC rfl rfl rfl rfl ?_
          refine x_cIV2 (p' := 56) (n := 3) hC rfl rfl rfl rfl rfl (hO.ty) ?_
          refine sp_m_of hO (by omega) (by omega) ?_
          refine x_ifle (p' := 57) hC rfl rfl (fun c56 => ?_) (fun c56 => ?_)
          · refine x_1 (p' := 66) hC rfl rfl rfl rfl ?_
            refine x_stI6 (p' := 67) hC rfl rfl rfl ?_
            refine x_1 (p' := 68) hC rfl rfl rfl rfl ?_
            refine x_stI7 (p' := 69) hC rfl rfl rfl ?_
            refine x_1 (p' := 70) hC rfl rfl rfl rfl ?_
            refine x_stI8 (p' := 71) hC rfl rfl rfl ?_
            refine lp_m_comes hO hs (f := f) (g := rFr (X 1) f 1) (c := rFr (X 1) f 2) (P := rOf (X 1) (rFr (X 1) f 1) 4) (sl := _) (lt := _) hf hg (by omega) (fun hl => ?_) (fun hl hd => ?_) (fun hl hd => ?_) _ 0 0 (Nat.lt_succ_self _) (by omega) (b2i_f (fun ⟨q, h0, h1, _⟩ => by omega)).symm
            all_goals first
              | (exfalso; omega)
              | (have e1 : rSlot (X 1) (rFr (X 1) f 1) (rFr (X 1) f 2) (rFr (X 1) f 3) = rFr (X 1) f 3 := by
                    unfold rSlot rOff
                    exact cif_t (by omega)
                 refine comes_fin K ?_
                 unfold rComes
                 rw [e1]
                 unfold rLate rOff
                 first
                   | rw [cif_t (by omega)]
                   | (rw [cif_f (by omega)]; first | rw [cif_t hd] | rw [cif_f hd]))
              | (have e1 : rSlot (X 1) (rFr (X 1) f 1) (rFr (X 1) f 2) (rFr (X 1) f 3) = (rFr (X 1) f 3 + rOf (X 1) (rFr (X 1) f 1) 4 - 1) / rOf (X 1) (rFr (X 1) f 1) 4 * rOf (X 1) (rFr (X 1) f 1) 4 := by
                    unfold rSlot rOff
                    exact cif_f (by omega)
                 refine comes_fin K ?_
                 unfold rComes
                 rw [e1]
                 unfold rLate rOff
                 first
                   | rw [cif_t (by omega)]
                   | (rw [cif_f (by omega)]; first | rw [cif_t hd] | rw [cif_f hd]))
          · refine x_1 (p' := 58) hC rfl rfl rfl rfl ?_
            refine x_1 (p' := 59) hC rfl rfl rfl rfl ?_
            refine x_1 (p' := 60) hC rfl rfl rfl rfl ?_
            refine x_1 (p' := 61) hC rfl rfl rfl rfl ?_
            refine x_cIV2 (p' := 62) (n := 3) hC rfl rfl rfl rfl rfl (hO.ty) ?_
            refine sp_m_of hO (by omega) (by omega) ?_
            refine x_icgt (p' := 63) hC rfl rfl (fun c62 => ?_) (fun c62 => ?_)
            · refine x_1 (p' := 66) hC rfl rfl rfl rfl ?_
              refine x_stI6 (p' := 67) hC rfl rfl rfl ?_
              refine x_1 (p' := 68) hC rfl rfl rfl rfl ?_
              refine x_stI7 (p' := 69) hC rfl rfl rfl ?_
              refine x_1 (p' := 70) hC rfl rfl rfl rfl ?_
              refine x_stI8 (p' := 71) hC rfl rfl rfl ?_
              refine lp_m_comes hO hs (f := f) (g := rFr (X 1) f 1) (c := rFr (X 1) f 2) (P := rOf (X 1) (rFr (X 1) f 1) 4) (sl := _) (lt := _) hf hg (by omega) (fun hl => ?_) (fun hl hd => ?_) (fun hl hd => ?_) _ 0 0 (Nat.lt_succ_self _) (by omega) (b2i_f (fun ⟨q, h0, h1, _⟩ => by omega)).symm
              all_goals first
                | (exfalso; omega)
                | (have e1 : rSlot (X 1) (rFr (X 1) f 1) (rFr (X 1) f 2) (rFr (X 1) f 3) = rFr (X 1) f 3 := by
                      unfold rSlot rOff
                      exact cif_t (by omega)
                   refine comes_fin K ?_
                   unfold rComes
                   rw [e1]
                   unfold rLate rOff
                   first
                     | rw [cif_t (by omega)]
                     | (rw [cif_f (by omega)]; first | rw [cif_t hd] | rw [cif_f hd]))
                | (have e1 : rSlot (X 1) (rFr (X 1) f 1) (rFr (X 1) f 2) (rFr (X 1) f 3) = (rFr (X 1) f 3 + rOf (X 1) (rFr (X 1) f 1) 4 - 1) / rOf (X 1) (rFr (X 1) f 1) 4 * rOf (X 1) (rFr (X 1) f 1) 4 := by
                      unfold rSlot rOff
                      exact cif_f (by omega)
                   refine comes_fin K ?_
                   unfold rComes
                   rw [e1]
                   unfold rLate rOff
                   first
                     | rw [cif_t (by omega)]
                     | (rw [cif_f (by omega)]; first | rw [cif_t hd] | rw [cif_f hd]))
            · refine x_1 (p' := 64) hC rfl rfl rfl rfl ?_
              refine x_1 (p' := 66) hC rfl rfl rfl rfl ?_
              refine x_stI6 (p' := 67) hC rfl rfl rfl ?_
              refine x_1 (p' := 68) hC rfl rfl rfl rfl ?_
              refine x_stI7 (p' := 69) hC rfl rfl rfl ?_
              refine x_1 (p' := 70) hC rfl rfl rfl rfl ?_
              refine x_stI8 (p' := 71) hC rfl rfl rfl ?_
              refine lp_m_comes hO hs (f := f) (g := rFr (X 1) f 1) (c := rFr (X 1) f 2) (P := rOf (X 1) (rFr (X 1) f 1) 4) (sl := _) (lt := _) hf hg (by omega) (fun hl => ?_) (fun hl hd => ?_) (fun hl hd => ?_) _ 0 0 (Nat.lt_succ_self _) (by omega) (b2i_f (fun ⟨q, h0, h1, _⟩ => by omega)).symm
              all_goals first
                | (exfalso; omega)
                | (have e1 : rSlot (X 1) (rFr (X 1) f 1) (rFr (X 1) f 2) (rFr (X 1) f 3) = rFr (X 1) f 3 := by
                      unfold rSlot rOff
                      exact cif_t (by omega)
                   refine comes_fin K ?_
                   unfold rComes
                   rw [e1]
                   unfold rLate rOff
                   first
                     | rw [cif_t (by omega)]
                     | (rw [cif_f (by omega)]; first | rw [cif_t hd] | rw [cif_f hd]))
                | (have e1 : rSlot (X 1) (rFr (X 1) f 1) (rFr (X 1) f 2) (rFr (X 1) f 3) = (rFr (X 1) f 3 + rOf (X 1) (rFr (X 1) f 1) 4 - 1) / rOf (X 1) (rFr (X 1) f 1) 4 * rOf (X 1) (rFr (X 1) f 1) 4 := by
                      unfold rSlot rOff
                      exact cif_f (by omega)
                   refine comes_fin K ?_
                   unfold rComes
                   rw [e1]
                   unfold rLate rOff
                   first
                     | rw [cif_t (by omega)]
                     | (rw [cif_f (by omega)]; first | rw [cif_t hd] | rw [cif_f hd]))
    · have c26 := b2i_0.mp c26
      refine x_1 (p' := 28) hC rfl rfl rfl rfl ?_
      refine x_1 (p' := 29) hC rfl rfl rfl rfl ?_
      refine x_1 (p' := 30) hC rfl rfl rfl rfl ?_
      refine x_cIV2 (p' := 31) (n := 5) hC rfl rfl rfl rfl rfl (hO.ty) ?_
      refine sp_m_fr hO (by omega) (by omega) ?_
      refine x_1 (p' := 44) hC rfl rfl rfl rfl ?_
      refine x_stI5 (p' := 45) hC rfl rfl rfl ?_
      refine x_1 (p' := 46) hC rfl rfl rfl rfl ?_
      refine x_1 (p' := 47) hC rfl rfl rfl rfl ?_
      refine x_icge (p' := 48) hC rfl rfl (fun c47 => ?_) (fun c47 => ?_)
      · refine x_1 (p' := 53) hC rfl rfl rfl rfl ?_
        refine x_1 (p' := 54) hC rfl rfl rfl rfl ?_
        refine x_1 (p' := 55) hC rfl rfl rfl rfl ?_
        refine x_cIV2 (p' := 56) (n := 3) hC rfl rfl rfl rfl rfl (hO.ty) ?_
        refine sp_m_of hO (by omega) (by omega) ?_
        refine x_ifle (p' := 57) hC rfl rfl (fun c56 => ?_) (fun c56 => ?_)
        · refine x_1 (p' := 66) hC rfl rfl rfl rfl ?_
          refine x_stI6 (p' := 67) hC rfl rfl rfl ?_
          refine x_1 (p' := 68) hC rfl rfl rfl rfl ?_
          refine x_stI7 (p' := 69) hC rfl rfl rfl ?_
          refine x_1 (p' := 70) hC rfl rfl rfl rfl ?_
          refine x_stI8 (p' := 71) hC rfl rfl rfl ?_
          refine lp_m_comes hO hs (f := f) (g := rFr (X 1) f 1) (c := rFr (X 1) f 2) (P := rOf (X 1) (rFr (X 1) f 1) 4) (sl := _) (lt := _) hf hg (by omega) (fun hl => ?_) (fun hl hd => ?_) (fun hl hd => ?_) _ 0 0 (Nat.lt_succ_self _) (by omega) (b2i_f (fun ⟨q, h0, h1, _⟩ => by omega)).symm
          all_goals first
            | (exfalso; omega)
            | (have e1 : rSlot (X 1) (rFr (X 1) f 1) (rFr (X 1) f 2) (rFr (X 1) f 3) = rFr (X 1) f 3 := by
                  unfold rSlot rOff
                  exact cif_t (by omega)
               refine comes_fin K ?_
               unfold rComes
               rw [e1]
               unfold rLate rOff
               first
                 | rw [cif_t (by omega)]
                 | (rw [cif_f (by omega)]; first | rw [cif_t hd] | rw [cif_f hd]))
            | (have e1 : rSlot (X 1) (rFr (X 1) f 1) (rFr (X 1) f 2) (rFr (X 1) f 3) = (rFr (X 1) f 3 + rOf (X 1) (rFr (X 1) f 1) 4 - 1) / rOf (X 1) (rFr (X 1) f 1) 4 * rOf (X 1) (rFr (X 1) f 1) 4 := by
                  unfold rSlot rOff
                  exact cif_f (by omega)
               refine comes_fin K ?_
               unfold rComes
               rw [e1]
               unfold rLate rOff
               first
                 | rw [cif_t (by omega)]
                 | (rw [cif_f (by omega)]; first | rw [cif_t hd] | rw [cif_f hd]))
        · refine x_1 (p' := 58) hC rfl rfl rfl rfl ?_
          refine x_1 (p' := 59) hC rfl rfl rfl rfl ?_
          refine x_1 (p' := 60) hC rfl rfl rfl rfl ?_
          refine x_1 (p' := 61) hC rfl rfl rfl rfl ?_
          refine x_cIV2 (p' := 62) (n := 3) hC rfl rfl rfl rfl rfl (hO.ty) ?_
          refine sp_m_of hO (by omega) (by omega) ?_
          refine x_icgt (p' := 63) hC rfl rfl (fun c62 => ?_) (fun c62 => ?_)
          · refine x_1 (p' := 66) hC rfl rfl rfl rfl ?_
            refine x_stI6 (p' := 67) hC rfl rfl rfl ?_
            refine x_1 (p' := 68) hC rfl rfl rfl rfl ?_
            refine x_stI7 (p' := 69) hC rfl rfl rfl ?_
            refine x_1 (p' := 70) hC rfl rfl rfl rfl ?_
            refine x_stI8 (p' := 71) hC rfl rfl rfl ?_
            refine lp_m_comes hO hs (f := f) (g := rFr (X 1) f 1) (c := rFr (X 1) f 2) (P := rOf (X 1) (rFr (X 1) f 1) 4) (sl := _) (lt := _) hf hg (by omega) (fun hl => ?_) (fun hl hd => ?_) (fun hl hd => ?_) _ 0 0 (Nat.lt_succ_self _) (by omega) (b2i_f (fun ⟨q, h0, h1, _⟩ => by omega)).symm
            all_goals first
              | (exfalso; omega)
              | (have e1 : rSlot (X 1) (rFr (X 1) f 1) (rFr (X 1) f 2) (rFr (X 1) f 3) = rFr (X 1) f 3 := by
                    unfold rSlot rOff
                    exact cif_t (by omega)
                 refine comes_fin K ?_
                 unfold rComes
                 rw [e1]
                 unfold rLate rOff
                 first
                   | rw [cif_t (by omega)]
                   | (rw [cif_f (by omega)]; first | rw [cif_t hd] | rw [cif_f hd]))
              | (have e1 : rSlot (X 1) (rFr (X 1) f 1) (rFr (X 1) f 2) (rFr (X 1) f 3) = (rFr (X 1) f 3 + rOf (X 1) (rFr (X 1) f 1) 4 - 1) / rOf (X 1) (rFr (X 1) f 1) 4 * rOf (X 1) (rFr (X 1) f 1) 4 := by
                    unfold rSlot rOff
                    exact cif_f (by omega)
                 refine comes_fin K ?_
                 unfold rComes
                 rw [e1]
                 unfold rLate rOff
                 first
                   | rw [cif_t (by omega)]
                   | (rw [cif_f (by omega)]; first | rw [cif_t hd] | rw [cif_f hd]))
          · refine x_1 (p' := 64) hC rfl rfl rfl rfl ?_
            refine x_1 (p' := 66) hC rfl rfl rfl rfl ?_
            refine x_stI6 (p' := 67) hC rfl rfl rfl ?_
            refine x_1 (p' := 68) hC rfl rfl rfl rfl ?_
            refine x_stI7 (p' := 69) hC rfl rfl rfl ?_
            refine x_1 (p' := 70) hC rfl rfl rfl rfl ?_
            refine x_stI8 (p' := 71) hC rfl rfl rfl ?_
            refine lp_m_comes hO hs (f := f) (g := rFr (X 1) f 1) (c := rFr (X 1) f 2) (P := rOf (X 1) (rFr (X 1) f 1) 4) (sl := _) (lt := _) hf hg (by omega) (fun hl => ?_) (fun hl hd => ?_) (fun hl hd => ?_) _ 0 0 (Nat.lt_succ_self _) (by omega) (b2i_f (fun ⟨q, h0, h1, _⟩ => by omega)).symm
            all_goals first
              | (exfalso; omega)
              | (have e1 : rSlot (X 1) (rFr (X 1) f 1) (rFr (X 1) f 2) (rFr (X 1) f 3) = rFr (X 1) f 3 := by
                    unfold rSlot rOff
                    exact cif_t (by omega)
                 refine comes_fin K ?_
                 unfold rComes
                 rw [e1]
                 unfold rLate rOff
                 first
                   | rw [cif_t (by omega)]
                   | (rw [cif_f (by omega)]; first | rw [cif_t hd] | rw [cif_f hd]))
              | (have e1 : rSlot (X 1) (rFr (X 1) f 1) (rFr (X 1) f 2) (rFr (X 1) f 3) = (rFr (X 1) f 3 + rOf (X 1) (rFr (X 1) f 1) 4 - 1) / rOf (X 1) (rFr (X 1) f 1) 4 * rOf (X 1) (rFr (X 1) f 1) 4 := by
                    unfold rSlot rOff
                    exact cif_f (by omega)
                 refine comes_fin K ?_
                 unfold rComes
                 rw [e1]
                 unfold rLate rOff
                 first
                   | rw [cif_t (by omega)]
                   | (rw [cif_f (by omega)]; first | rw [cif_t hd] | rw [cif_f hd]))
      · refine x_1 (p' := 49) hC rfl rfl rfl rfl ?_
        refine x_1 (p' := 50) hC rfl rfl rfl rfl ?_
        refine x_cIV1 (p' := 51) (n := 9) hC rfl rfl rfl rfl rfl (hO.ty) ?_
        refine sp_m_isOn hO (by omega) ?_
        refine x_ifeq (p' := 52) hC rfl rfl (fun c51 => ?_) (fun c51 => ?_)
        · have c51 := b2i_0.mp c51
          refine x_1 (p' := 64) hC rfl rfl rfl rfl ?_
          refine x_1 (p' := 66) hC rfl rfl rfl rfl ?_
          refine x_stI6 (p' := 67) hC rfl rfl rfl ?_
          refine x_1 (p' := 68) hC rfl rfl rfl rfl ?_
          refine x_stI7 (p' := 69) hC rfl rfl rfl ?_
          refine x_1 (p' := 70) hC rfl rfl rfl rfl ?_
          refine x_stI8 (p' := 71) hC rfl rfl rfl ?_
          refine lp_m_comes hO hs (f := f) (g := rFr (X 1) f 1) (c := rFr (X 1) f 2) (P := rOf (X 1) (rFr (X 1) f 1) 4) (sl := _) (lt := _) hf hg (by omega) (fun hl => ?_) (fun hl hd => ?_) (fun hl hd => ?_) _ 0 0 (Nat.lt_succ_self _) (by omega) (b2i_f (fun ⟨q, h0, h1, _⟩ => by omega)).symm
          all_goals first
            | (exfalso; omega)
            | (have e1 : rSlot (X 1) (rFr (X 1) f 1) (rFr (X 1) f 2) (rFr (X 1) f 3) = rFr (X 1) f 3 := by
                  unfold rSlot rOff
                  exact cif_t (by omega)
               refine comes_fin K ?_
               unfold rComes
               rw [e1]
               unfold rLate rOff
               first
                 | rw [cif_t (by omega)]
                 | (rw [cif_f (by omega)]; first | rw [cif_t hd] | rw [cif_f hd]))
            | (have e1 : rSlot (X 1) (rFr (X 1) f 1) (rFr (X 1) f 2) (rFr (X 1) f 3) = (rFr (X 1) f 3 + rOf (X 1) (rFr (X 1) f 1) 4 - 1) / rOf (X 1) (rFr (X 1) f 1) 4 * rOf (X 1) (rFr (X 1) f 1) 4 := by
                  unfold rSlot rOff
                  exact cif_f (by omega)
               refine comes_fin K ?_
               unfold rComes
               rw [e1]
               unfold rLate rOff
               first
                 | rw [cif_t (by omega)]
                 | (rw [cif_f (by omega)]; first | rw [cif_t hd] | rw [cif_f hd]))
        · have c51 := b2i_n0.mp c51
          refine x_1 (p' := 53) hC rfl rfl rfl rfl ?_
          refine x_1 (p' := 54) hC rfl rfl rfl rfl ?_
          refine x_1 (p' := 55) hC rfl rfl rfl rfl ?_
          refine x_cIV2 (p' := 56) (n := 3) hC rfl rfl rfl rfl rfl (hO.ty) ?_
          refine sp_m_of hO (by omega) (by omega) ?_
          refine x_ifle (p' := 57) hC rfl rfl (fun c56 => ?_) (fun c56 => ?_)
          · refine x_1 (p' := 66) hC rfl rfl rfl rfl ?_
            refine x_stI6 (p' := 67) hC rfl rfl rfl ?_
            refine x_1 (p' := 68) hC rfl rfl rfl rfl ?_
            refine x_stI7 (p' := 69) hC rfl rfl rfl ?_
            refine x_1 (p' := 70) hC rfl rfl rfl rfl ?_
            refine x_stI8 (p' := 71) hC rfl rfl rfl ?_
            refine lp_m_comes hO hs (f := f) (g := rFr (X 1) f 1) (c := rFr (X 1) f 2) (P := rOf (X 1) (rFr (X 1) f 1) 4) (sl := _) (lt := _) hf hg (by omega) (fun hl => ?_) (fun hl hd => ?_) (fun hl hd => ?_) _ 0 0 (Nat.lt_succ_self _) (by omega) (b2i_f (fun ⟨q, h0, h1, _⟩ => by omega)).symm
            all_goals first
              | (exfalso; omega)
              | (have e1 : rSlot (X 1) (rFr (X 1) f 1) (rFr (X 1) f 2) (rFr (X 1) f 3) = rFr (X 1) f 3 := by
                    unfold rSlot rOff
                    exact cif_t (by omega)
                 refine comes_fin K ?_
                 unfold rComes
                 rw [e1]
                 unfold rLate rOff
                 first
                   | rw [cif_t (by omega)]
                   | (rw [cif_f (by omega)]; first | rw [cif_t hd] | rw [cif_f hd]))
              | (have e1 : rSlot (X 1) (rFr (X 1) f 1) (rFr (X 1) f 2) (rFr (X 1) f 3) = (rFr (X 1) f 3 + rOf (X 1) (rFr (X 1) f 1) 4 - 1) / rOf (X 1) (rFr (X 1) f 1) 4 * rOf (X 1) (rFr (X 1) f 1) 4 := by
                    unfold rSlot rOff
                    exact cif_f (by omega)
                 refine comes_fin K ?_
                 unfold rComes
                 rw [e1]
                 unfold rLate rOff
                 first
                   | rw [cif_t (by omega)]
                   | (rw [cif_f (by omega)]; first | rw [cif_t hd] | rw [cif_f hd]))
          · refine x_1 (p' := 58) hC rfl rfl rfl rfl ?_
            refine x_1 (p' := 59) hC rfl rfl rfl rfl ?_
            refine x_1 (p' := 60) hC rfl rfl rfl rfl ?_
            refine x_1 (p' := 61) hC rfl rfl rfl rfl ?_
            refine x_cIV2 (p' := 62) (n := 3) hC rfl rfl rfl rfl rfl (hO.ty) ?_
            refine sp_m_of hO (by omega) (by omega) ?_
            refine x_icgt (p' := 63) hC rfl rfl (fun c62 => ?_) (fun c62 => ?_)
            · refine x_1 (p' := 66) hC rfl rfl rfl rfl ?_
              refine x_stI6 (p' := 67) hC rfl rfl rfl ?_
              refine x_1 (p' := 68) hC rfl rfl rfl rfl ?_
              refine x_stI7 (p' := 69) hC rfl rfl rfl ?_
              refine x_1 (p' := 70) hC rfl rfl rfl rfl ?_
              refine x_stI8 (p' := 71) hC rfl rfl rfl ?_
              refine lp_m_comes hO hs (f := f) (g := rFr (X 1) f 1) (c := rFr (X 1) f 2) (P := rOf (X 1) (rFr (X 1) f 1) 4) (sl := _) (lt := _) hf hg (by omega) (fun hl => ?_) (fun hl hd => ?_) (fun hl hd => ?_) _ 0 0 (Nat.lt_succ_self _) (by omega) (b2i_f (fun ⟨q, h0, h1, _⟩ => by omega)).symm
              all_goals first
                | (exfalso; omega)
                | (have e1 : rSlot (X 1) (rFr (X 1) f 1) (rFr (X 1) f 2) (rFr (X 1) f 3) = rFr (X 1) f 3 := by
                      unfold rSlot rOff
                      exact cif_t (by omega)
                   refine comes_fin K ?_
                   unfold rComes
                   rw [e1]
                   unfold rLate rOff
                   first
                     | rw [cif_t (by omega)]
                     | (rw [cif_f (by omega)]; first | rw [cif_t hd] | rw [cif_f hd]))
                | (have e1 : rSlot (X 1) (rFr (X 1) f 1) (rFr (X 1) f 2) (rFr (X 1) f 3) = (rFr (X 1) f 3 + rOf (X 1) (rFr (X 1) f 1) 4 - 1) / rOf (X 1) (rFr (X 1) f 1) 4 * rOf (X 1) (rFr (X 1) f 1) 4 := by
                      unfold rSlot rOff
                      exact cif_f (by omega)
                   refine comes_fin K ?_
                   unfold rComes
                   rw [e1]
                   unfold rLate rOff
                   first
                     | rw [cif_t (by omega)]
                     | (rw [cif_f (by omega)]; first | rw [cif_t hd] | rw [cif_f hd]))
            · refine x_1 (p' := 64) hC rfl rfl rfl rfl ?_
              refine x_1 (p' := 66) hC rfl rfl rfl rfl ?_
              refine x_stI6 (p' := 67) hC rfl rfl rfl ?_
              refine x_1 (p' := 68) hC rfl rfl rfl rfl ?_
              refine x_stI7 (p' := 69) hC rfl rfl rfl ?_
              refine x_1 (p' := 70) hC rfl rfl rfl rfl ?_
              refine x_stI8 (p' := 71) hC rfl rfl rfl ?_
              refine lp_m_comes hO hs (f := f) (g := rFr (X 1) f 1) (c := rFr (X 1) f 2) (P := rOf (X 1) (rFr (X 1) f 1) 4) (sl := _) (lt := _) hf hg (by omega) (fun hl => ?_) (fun hl hd => ?_) (fun hl hd => ?_) _ 0 0 (Nat.lt_succ_self _) (by omega) (b2i_f (fun ⟨q, h0, h1, _⟩ => by omega)).symm
              all_goals first
                | (exfalso; omega)
                | (have e1 : rSlot (X 1) (rFr (X 1) f 1) (rFr (X 1) f 2) (rFr (X 1) f 3) = rFr (X 1) f 3 := by
                      unfold rSlot rOff
                      exact cif_t (by omega)
                   refine comes_fin K ?_
                   unfold rComes
                   rw [e1]
                   unfold rLate rOff
                   first
                     | rw [cif_t (by omega)]
                     | (rw [cif_f (by omega)]; first | rw [cif_t hd] | rw [cif_f hd]))
                | (have e1 : rSlot (X 1) (rFr (X 1) f 1) (rFr (X 1) f 2) (rFr (X 1) f 3) = (rFr (X 1) f 3 + rOf (X 1) (rFr (X 1) f 1) 4 - 1) / rOf (X 1) (rFr (X 1) f 1) 4 * rOf (X 1) (rFr (X 1) f 1) 4 := by
                      unfold rSlot rOff
                      exact cif_f (by omega)
                   refine comes_fin K ?_
                   unfold rComes
                   rw [e1]
                   unfold rLate rOff
                   first
                     | rw [cif_t (by omega)]
                     | (rw [cif_f (by omega)]; first | rw [cif_t hd] | rw [cif_f hd]))
  · refine x_1 (p' := 19) hC rfl rfl rfl rfl ?_
    refine x_1 (p' := 20) hC rfl rfl rfl rfl ?_
    refine x_cIV1 (p' := 21) (n := 9) hC rfl rfl rfl rfl rfl (hO.ty) ?_
    refine sp_m_isOn hO (by omega) ?_
    refine x_ifeq (p' := 22) hC rfl rfl (fun c21 => ?_) (fun c21 => ?_)
    · have c21 := b2i_0.mp c21
      refine x_1 (p' := 28) hC rfl rfl rfl rfl ?_
      refine x_1 (p' := 29) hC rfl rfl rfl rfl ?_
      refine x_1 (p' := 30) hC rfl rfl rfl rfl ?_
      refine x_cIV2 (p' := 31) (n := 5) hC rfl rfl rfl rfl rfl (hO.ty) ?_
      refine sp_m_fr hO (by omega) (by omega) ?_
      refine x_1 (p' := 44) hC rfl rfl rfl rfl ?_
      refine x_stI5 (p' := 45) hC rfl rfl rfl ?_
      refine x_1 (p' := 46) hC rfl rfl rfl rfl ?_
      refine x_1 (p' := 47) hC rfl rfl rfl rfl ?_
      refine x_icge (p' := 48) hC rfl rfl (fun c47 => ?_) (fun c47 => ?_)
      · refine x_1 (p' := 53) hC rfl rfl rfl rfl ?_
        refine x_1 (p' := 54) hC rfl rfl rfl rfl ?_
        refine x_1 (p' := 55) hC rfl rfl rfl rfl ?_
        refine x_cIV2 (p' := 56) (n := 3) hC rfl rfl rfl rfl rfl (hO.ty) ?_
        refine sp_m_of hO (by omega) (by omega) ?_
        refine x_ifle (p' := 57) hC rfl rfl (fun c56 => ?_) (fun c56 => ?_)
        · refine x_1 (p' := 66) hC rfl rfl rfl rfl ?_
          refine x_stI6 (p' := 67) hC rfl rfl rfl ?_
          refine x_1 (p' := 68) hC rfl rfl rfl rfl ?_
          refine x_stI7 (p' := 69) hC rfl rfl rfl ?_
          refine x_1 (p' := 70) hC rfl rfl rfl rfl ?_
          refine x_stI8 (p' := 71) hC rfl rfl rfl ?_
          refine lp_m_comes hO hs (f := f) (g := rFr (X 1) f 1) (c := rFr (X 1) f 2) (P := rOf (X 1) (rFr (X 1) f 1) 4) (sl := _) (lt := _) hf hg (by omega) (fun hl => ?_) (fun hl hd => ?_) (fun hl hd => ?_) _ 0 0 (Nat.lt_succ_self _) (by omega) (b2i_f (fun ⟨q, h0, h1, _⟩ => by omega)).symm
          all_goals first
            | (exfalso; omega)
            | (have e1 : rSlot (X 1) (rFr (X 1) f 1) (rFr (X 1) f 2) (rFr (X 1) f 3) = rFr (X 1) f 3 := by
                  unfold rSlot rOff
                  exact cif_t (by omega)
               refine comes_fin K ?_
               unfold rComes
               rw [e1]
               unfold rLate rOff
               first
                 | rw [cif_t (by omega)]
                 | (rw [cif_f (by omega)]; first | rw [cif_t hd] | rw [cif_f hd]))
            | (have e1 : rSlot (X 1) (rFr (X 1) f 1) (rFr (X 1) f 2) (rFr (X 1) f 3) = (rFr (X 1) f 3 + rOf (X 1) (rFr (X 1) f 1) 4 - 1) / rOf (X 1) (rFr (X 1) f 1) 4 * rOf (X 1) (rFr (X 1) f 1) 4 := by
                  unfold rSlot rOff
                  exact cif_f (by omega)
               refine comes_fin K ?_
               unfold rComes
               rw [e1]
               unfold rLate rOff
               first
                 | rw [cif_t (by omega)]
                 | (rw [cif_f (by omega)]; first | rw [cif_t hd] | rw [cif_f hd]))
        · refine x_1 (p' := 58) hC rfl rfl rfl rfl ?_
          refine x_1 (p' := 59) hC rfl rfl rfl rfl ?_
          refine x_1 (p' := 60) hC rfl rfl rfl rfl ?_
          refine x_1 (p' := 61) hC rfl rfl rfl rfl ?_
          refine x_cIV2 (p' := 62) (n := 3) hC rfl rfl rfl rfl rfl (hO.ty) ?_
          refine sp_m_of hO (by omega) (by omega) ?_
          refine x_icgt (p' := 63) hC rfl rfl (fun c62 => ?_) (fun c62 => ?_)
          · refine x_1 (p' := 66) hC rfl rfl rfl rfl ?_
            refine x_stI6 (p' := 67) hC rfl rfl rfl ?_
            refine x_1 (p' := 68) hC rfl rfl rfl rfl ?_
            refine x_stI7 (p' := 69) hC rfl rfl rfl ?_
            refine x_1 (p' := 70) hC rfl rfl rfl rfl ?_
            refine x_stI8 (p' := 71) hC rfl rfl rfl ?_
            refine lp_m_comes hO hs (f := f) (g := rFr (X 1) f 1) (c := rFr (X 1) f 2) (P := rOf (X 1) (rFr (X 1) f 1) 4) (sl := _) (lt := _) hf hg (by omega) (fun hl => ?_) (fun hl hd => ?_) (fun hl hd => ?_) _ 0 0 (Nat.lt_succ_self _) (by omega) (b2i_f (fun ⟨q, h0, h1, _⟩ => by omega)).symm
            all_goals first
              | (exfalso; omega)
              | (have e1 : rSlot (X 1) (rFr (X 1) f 1) (rFr (X 1) f 2) (rFr (X 1) f 3) = rFr (X 1) f 3 := by
                    unfold rSlot rOff
                    exact cif_t (by omega)
                 refine comes_fin K ?_
                 unfold rComes
                 rw [e1]
                 unfold rLate rOff
                 first
                   | rw [cif_t (by omega)]
                   | (rw [cif_f (by omega)]; first | rw [cif_t hd] | rw [cif_f hd]))
              | (have e1 : rSlot (X 1) (rFr (X 1) f 1) (rFr (X 1) f 2) (rFr (X 1) f 3) = (rFr (X 1) f 3 + rOf (X 1) (rFr (X 1) f 1) 4 - 1) / rOf (X 1) (rFr (X 1) f 1) 4 * rOf (X 1) (rFr (X 1) f 1) 4 := by
                    unfold rSlot rOff
                    exact cif_f (by omega)
                 refine comes_fin K ?_
                 unfold rComes
                 rw [e1]
                 unfold rLate rOff
                 first
                   | rw [cif_t (by omega)]
                   | (rw [cif_f (by omega)]; first | rw [cif_t hd] | rw [cif_f hd]))
          · refine x_1 (p' := 64) hC rfl rfl rfl rfl ?_
            refine x_1 (p' := 66) hC rfl rfl rfl rfl ?_
            refine x_stI6 (p' := 67) hC rfl rfl rfl ?_
            refine x_1 (p' := 68) hC rfl rfl rfl rfl ?_
            refine x_stI7 (p' := 69) hC rfl rfl rfl ?_
            refine x_1 (p' := 70) hC rfl rfl rfl rfl ?_
            refine x_stI8 (p' := 71) hC rfl rfl rfl ?_
            refine lp_m_comes hO hs (f := f) (g := rFr (X 1) f 1) (c := rFr (X 1) f 2) (P := rOf (X 1) (rFr (X 1) f 1) 4) (sl := _) (lt := _) hf hg (by omega) (fun hl => ?_) (fun hl hd => ?_) (fun hl hd => ?_) _ 0 0 (Nat.lt_succ_self _) (by omega) (b2i_f (fun ⟨q, h0, h1, _⟩ => by omega)).symm
            all_goals first
              | (exfalso; omega)
              | (have e1 : rSlot (X 1) (rFr (X 1) f 1) (rFr (X 1) f 2) (rFr (X 1) f 3) = rFr (X 1) f 3 := by
                    unfold rSlot rOff
                    exact cif_t (by omega)
                 refine comes_fin K ?_
                 unfold rComes
                 rw [e1]
                 unfold rLate rOff
                 first
                   | rw [cif_t (by omega)]
                   | (rw [cif_f (by omega)]; first | rw [cif_t hd] | rw [cif_f hd]))
              | (have e1 : rSlot (X 1) (rFr (X 1) f 1) (rFr (X 1) f 2) (rFr (X 1) f 3) = (rFr (X 1) f 3 + rOf (X 1) (rFr (X 1) f 1) 4 - 1) / rOf (X 1) (rFr (X 1) f 1) 4 * rOf (X 1) (rFr (X 1) f 1) 4 := by
                    unfold rSlot rOff
                    exact cif_f (by omega)
                 refine comes_fin K ?_
                 unfold rComes
                 rw [e1]
                 unfold rLate rOff
                 first
                   | rw [cif_t (by omega)]
                   | (rw [cif_f (by omega)]; first | rw [cif_t hd] | rw [cif_f hd]))
      · refine x_1 (p' := 49) hC rfl rfl rfl rfl ?_
        refine x_1 (p' := 50) hC rfl rfl rfl rfl ?_
        refine x_cIV1 (p' := 51) (n := 9) hC rfl rfl rfl rfl rfl (hO.ty) ?_
        refine sp_m_isOn hO (by omega) ?_
        refine x_ifeq (p' := 52) hC rfl rfl (fun c51 => ?_) (fun c51 => ?_)
        · have c51 := b2i_0.mp c51
          refine x_1 (p' := 64) hC rfl rfl rfl rfl ?_
          refine x_1 (p' := 66) hC rfl rfl rfl rfl ?_
          refine x_stI6 (p' := 67) hC rfl rfl rfl ?_
          refine x_1 (p' := 68) hC rfl rfl rfl rfl ?_
          refine x_stI7 (p' := 69) hC rfl rfl rfl ?_
          refine x_1 (p' := 70) hC rfl rfl rfl rfl ?_
          refine x_stI8 (p' := 71) hC rfl rfl rfl ?_
          refine lp_m_comes hO hs (f := f) (g := rFr (X 1) f 1) (c := rFr (X 1) f 2) (P := rOf (X 1) (rFr (X 1) f 1) 4) (sl := _) (lt := _) hf hg (by omega) (fun hl => ?_) (fun hl hd => ?_) (fun hl hd => ?_) _ 0 0 (Nat.lt_succ_self _) (by omega) (b2i_f (fun ⟨q, h0, h1, _⟩ => by omega)).symm
          all_goals first
            | (exfalso; omega)
            | (have e1 : rSlot (X 1) (rFr (X 1) f 1) (rFr (X 1) f 2) (rFr (X 1) f 3) = rFr (X 1) f 3 := by
                  unfold rSlot rOff
                  exact cif_t (by omega)
               refine comes_fin K ?_
               unfold rComes
               rw [e1]
               unfold rLate rOff
               first
                 | rw [cif_t (by omega)]
                 | (rw [cif_f (by omega)]; first | rw [cif_t hd] | rw [cif_f hd]))
            | (have e1 : rSlot (X 1) (rFr (X 1) f 1) (rFr (X 1) f 2) (rFr (X 1) f 3) = (rFr (X 1) f 3 + rOf (X 1) (rFr (X 1) f 1) 4 - 1) / rOf (X 1) (rFr (X 1) f 1) 4 * rOf (X 1) (rFr (X 1) f 1) 4 := by
                  unfold rSlot rOff
                  exact cif_f (by omega)
               refine comes_fin K ?_
               unfold rComes
               rw [e1]
               unfold rLate rOff
               first
                 | rw [cif_t (by omega)]
                 | (rw [cif_f (by omega)]; first | rw [cif_t hd] | rw [cif_f hd]))
        · have c51 := b2i_n0.mp c51
          refine x_1 (p' := 53) hC rfl rfl rfl rfl ?_
          refine x_1 (p' := 54) hC rfl rfl rfl rfl ?_
          refine x_1 (p' := 55) hC rfl rfl rfl rfl ?_
          refine x_cIV2 (p' := 56) (n := 3) hC rfl rfl rfl rfl rfl (hO.ty) ?_
          refine sp_m_of hO (by omega) (by omega) ?_
          refine x_ifle (p' := 57) hC rfl rfl (fun c56 => ?_) (fun c56 => ?_)
          · refine x_1 (p' := 66) hC rfl rfl rfl rfl ?_
            refine x_stI6 (p' := 67) hC rfl rfl rfl ?_
            refine x_1 (p' := 68) hC rfl rfl rfl rfl ?_
            refine x_stI7 (p' := 69) hC rfl rfl rfl ?_
            refine x_1 (p' := 70) hC rfl rfl rfl rfl ?_
            refine x_stI8 (p' := 71) hC rfl rfl rfl ?_
            refine lp_m_comes hO hs (f := f) (g := rFr (X 1) f 1) (c := rFr (X 1) f 2) (P := rOf (X 1) (rFr (X 1) f 1) 4) (sl := _) (lt := _) hf hg (by omega) (fun hl => ?_) (fun hl hd => ?_) (fun hl hd => ?_) _ 0 0 (Nat.lt_succ_self _) (by omega) (b2i_f (fun ⟨q, h0, h1, _⟩ => by omega)).symm
            all_goals first
              | (exfalso; omega)
              | (have e1 : rSlot (X 1) (rFr (X 1) f 1) (rFr (X 1) f 2) (rFr (X 1) f 3) = rFr (X 1) f 3 := by
                    unfold rSlot rOff
                    exact cif_t (by omega)
                 refine comes_fin K ?_
                 unfold rComes
                 rw [e1]
                 unfold rLate rOff
                 first
                   | rw [cif_t (by omega)]
                   | (rw [cif_f (by omega)]; first | rw [cif_t hd] | rw [cif_f hd]))
              | (have e1 : rSlot (X 1) (rFr (X 1) f 1) (rFr (X 1) f 2) (rFr (X 1) f 3) = (rFr (X 1) f 3 + rOf (X 1) (rFr (X 1) f 1) 4 - 1) / rOf (X 1) (rFr (X 1) f 1) 4 * rOf (X 1) (rFr (X 1) f 1) 4 := by
                    unfold rSlot rOff
                    exact cif_f (by omega)
                 refine comes_fin K ?_
                 unfold rComes
                 rw [e1]
                 unfold rLate rOff
                 first
                   | rw [cif_t (by omega)]
                   | (rw [cif_f (by omega)]; first | rw [cif_t hd] | rw [cif_f hd]))
          · refine x_1 (p' := 58) hC rfl rfl rfl rfl ?_
            refine x_1 (p' := 59) hC rfl rfl rfl rfl ?_
            refine x_1 (p' := 60) hC rfl rfl rfl rfl ?_
            refine x_1 (p' := 61) hC rfl rfl rfl rfl ?_
            refine x_cIV2 (p' := 62) (n := 3) hC rfl rfl rfl rfl rfl (hO.ty) ?_
            refine sp_m_of hO (by omega) (by omega) ?_
            refine x_icgt (p' := 63) hC rfl rfl (fun c62 => ?_) (fun c62 => ?_)
            · refine x_1 (p' := 66) hC rfl rfl rfl rfl ?_
              refine x_stI6 (p' := 67) hC rfl rfl rfl ?_
              refine x_1 (p' := 68) hC rfl rfl rfl rfl ?_
              refine x_stI7 (p' := 69) hC rfl rfl rfl ?_
              refine x_1 (p' := 70) hC rfl rfl rfl rfl ?_
              refine x_stI8 (p' := 71) hC rfl rfl rfl ?_
              refine lp_m_comes hO hs (f := f) (g := rFr (X 1) f 1) (c := rFr (X 1) f 2) (P := rOf (X 1) (rFr (X 1) f 1) 4) (sl := _) (lt := _) hf hg (by omega) (fun hl => ?_) (fun hl hd => ?_) (fun hl hd => ?_) _ 0 0 (Nat.lt_succ_self _) (by omega) (b2i_f (fun ⟨q, h0, h1, _⟩ => by omega)).symm
              all_goals first
                | (exfalso; omega)
                | (have e1 : rSlot (X 1) (rFr (X 1) f 1) (rFr (X 1) f 2) (rFr (X 1) f 3) = rFr (X 1) f 3 := by
                      unfold rSlot rOff
                      exact cif_t (by omega)
                   refine comes_fin K ?_
                   unfold rComes
                   rw [e1]
                   unfold rLate rOff
                   first
                     | rw [cif_t (by omega)]
                     | (rw [cif_f (by omega)]; first | rw [cif_t hd] | rw [cif_f hd]))
                | (have e1 : rSlot (X 1) (rFr (X 1) f 1) (rFr (X 1) f 2) (rFr (X 1) f 3) = (rFr (X 1) f 3 + rOf (X 1) (rFr (X 1) f 1) 4 - 1) / rOf (X 1) (rFr (X 1) f 1) 4 * rOf (X 1) (rFr (X 1) f 1) 4 := by
                      unfold rSlot rOff
                      exact cif_f (by omega)
                   refine comes_fin K ?_
                   unfold rComes
                   rw [e1]
                   unfold rLate rOff
                   first
                     | rw [cif_t (by omega)]
                     | (rw [cif_f (by omega)]; first | rw [cif_t hd] | rw [cif_f hd]))
            · refine x_1 (p' := 64) hC rfl rfl rfl rfl ?_
              refine x_1 (p' := 66) hC rfl rfl rfl rfl ?_
              refine x_stI6 (p' := 67) hC rfl rfl rfl ?_
              refine x_1 (p' := 68) hC rfl rfl rfl rfl ?_
              refine x_stI7 (p' := 69) hC rfl rfl rfl ?_
              refine x_1 (p' := 70) hC rfl rfl rfl rfl ?_
              refine x_stI8 (p' := 71) hC rfl rfl rfl ?_
              refine lp_m_comes hO hs (f := f) (g := rFr (X 1) f 1) (c := rFr (X 1) f 2) (P := rOf (X 1) (rFr (X 1) f 1) 4) (sl := _) (lt := _) hf hg (by omega) (fun hl => ?_) (fun hl hd => ?_) (fun hl hd => ?_) _ 0 0 (Nat.lt_succ_self _) (by omega) (b2i_f (fun ⟨q, h0, h1, _⟩ => by omega)).symm
              all_goals first
                | (exfalso; omega)
                | (have e1 : rSlot (X 1) (rFr (X 1) f 1) (rFr (X 1) f 2) (rFr (X 1) f 3) = rFr (X 1) f 3 := by
                      unfold rSlot rOff
                      exact cif_t (by omega)
                   refine comes_fin K ?_
                   unfold rComes
                   rw [e1]
                   unfold rLate rOff
                   first
                     | rw [cif_t (by omega)]
                     | (rw [cif_f (by omega)]; first | rw [cif_t hd] | rw [cif_f hd]))
                | (have e1 : rSlot (X 1) (rFr (X 1) f 1) (rFr (X 1) f 2) (rFr (X 1) f 3) = (rFr (X 1) f 3 + rOf (X 1) (rFr (X 1) f 1) 4 - 1) / rOf (X 1) (rFr (X 1) f 1) 4 * rOf (X 1) (rFr (X 1) f 1) 4 := by
                      unfold rSlot rOff
                      exact cif_f (by omega)
                   refine comes_fin K ?_
                   unfold rComes
                   rw [e1]
                   unfold rLate rOff
                   first
                     | rw [cif_t (by omega)]
                     | (rw [cif_f (by omega)]; first | rw [cif_t hd] | rw [cif_f hd]))
    · have c21 := b2i_n0.mp c21
      refine x_1 (p' := 23) hC rfl rfl rfl rfl ?_
      refine x_1 (p' := 24) hC rfl rfl rfl rfl ?_
      refine x_1 (p' := 25) hC rfl rfl rfl rfl ?_
      refine x_cIV2 (p' := 26) (n := 36) hC rfl rfl rfl rfl rfl (hO.ty) ?_
      refine sp_m_isQuick hO (by omega) (by omega) ?_
      refine x_ifne (p' := 27) hC rfl rfl (fun c26 => ?_) (fun c26 => ?_)
      · have c26 := b2i_n0.mp c26
        refine x_1 (p' := 33) hC rfl rfl rfl rfl ?_
        refine x_1 (p' := 34) hC rfl rfl rfl rfl ?_
        refine x_1 (p' := 35) hC rfl rfl rfl rfl ?_
        refine x_cIV2 (p' := 36) (n := 5) hC rfl rfl rfl rfl rfl (hO.ty) ?_
        refine sp_m_fr hO (by omega) (by omega) ?_
        refine x_1 (p' := 37) hC rfl rfl rfl rfl ?_
        refine x_add (p' := 38) hC rfl rfl rfl (⟨by omega, by omega⟩) ?_
        refine x_1 (p' := 39) hC rfl rfl rfl rfl ?_
        refine x_sub (p' := 40) hC rfl rfl rfl (⟨by omega, by omega⟩) ?_
        refine x_1 (p' := 41) hC rfl rfl rfl rfl ?_
        refine x_div (p' := 42) hC rfl rfl rfl (by omega) ?_
        rw [wr_tdiv (by omega) (by omega) (by omega)]
        refine x_1 (p' := 43) hC rfl rfl rfl rfl ?_
        refine x_mul (p' := 44) hC rfl rfl rfl (⟨by omega, by omega⟩) ?_
        refine x_stI5 (p' := 45) hC rfl rfl rfl ?_
        refine x_1 (p' := 46) hC rfl rfl rfl rfl ?_
        refine x_1 (p' := 47) hC rfl rfl rfl rfl ?_
        refine x_icge (p' := 48) hC rfl rfl (fun c47 => ?_) (fun c47 => ?_)
        · refine x_1 (p' := 53) hC rfl rfl rfl rfl ?_
          refine x_1 (p' := 54) hC rfl rfl rfl rfl ?_
          refine x_1 (p' := 55) hC rfl rfl rfl rfl ?_
          refine x_cIV2 (p' := 56) (n := 3) hC rfl rfl rfl rfl rfl (hO.ty) ?_
          refine sp_m_of hO (by omega) (by omega) ?_
          refine x_ifle (p' := 57) hC rfl rfl (fun c56 => ?_) (fun c56 => ?_)
          · refine x_1 (p' := 66) hC rfl rfl rfl rfl ?_
            refine x_stI6 (p' := 67) hC rfl rfl rfl ?_
            refine x_1 (p' := 68) hC rfl rfl rfl rfl ?_
            refine x_stI7 (p' := 69) hC rfl rfl rfl ?_
            refine x_1 (p' := 70) hC rfl rfl rfl rfl ?_
            refine x_stI8 (p' := 71) hC rfl rfl rfl ?_
            refine lp_m_comes hO hs (f := f) (g := rFr (X 1) f 1) (c := rFr (X 1) f 2) (P := rOf (X 1) (rFr (X 1) f 1) 4) (sl := _) (lt := _) hf hg (by omega) (fun hl => ?_) (fun hl hd => ?_) (fun hl hd => ?_) _ 0 0 (Nat.lt_succ_self _) (by omega) (b2i_f (fun ⟨q, h0, h1, _⟩ => by omega)).symm
            all_goals first
              | (exfalso; omega)
              | (have e1 : rSlot (X 1) (rFr (X 1) f 1) (rFr (X 1) f 2) (rFr (X 1) f 3) = rFr (X 1) f 3 := by
                    unfold rSlot rOff
                    exact cif_t (by omega)
                 refine comes_fin K ?_
                 unfold rComes
                 rw [e1]
                 unfold rLate rOff
                 first
                   | rw [cif_t (by omega)]
                   | (rw [cif_f (by omega)]; first | rw [cif_t hd] | rw [cif_f hd]))
              | (have e1 : rSlot (X 1) (rFr (X 1) f 1) (rFr (X 1) f 2) (rFr (X 1) f 3) = (rFr (X 1) f 3 + rOf (X 1) (rFr (X 1) f 1) 4 - 1) / rOf (X 1) (rFr (X 1) f 1) 4 * rOf (X 1) (rFr (X 1) f 1) 4 := by
                    unfold rSlot rOff
                    exact cif_f (by omega)
                 refine comes_fin K ?_
                 unfold rComes
                 rw [e1]
                 unfold rLate rOff
                 first
                   | rw [cif_t (by omega)]
                   | (rw [cif_f (by omega)]; first | rw [cif_t hd] | rw [cif_f hd]))
          · refine x_1 (p' := 58) hC rfl rfl rfl rfl ?_
            refine x_1 (p' := 59) hC rfl rfl rfl rfl ?_
            refine x_1 (p' := 60) hC rfl rfl rfl rfl ?_
            refine x_1 (p' := 61) hC rfl rfl rfl rfl ?_
            refine x_cIV2 (p' := 62) (n := 3) hC rfl rfl rfl rfl rfl (hO.ty) ?_
            refine sp_m_of hO (by omega) (by omega) ?_
            refine x_icgt (p' := 63) hC rfl rfl (fun c62 => ?_) (fun c62 => ?_)
            · refine x_1 (p' := 66) hC rfl rfl rfl rfl ?_
              refine x_stI6 (p' := 67) hC rfl rfl rfl ?_
              refine x_1 (p' := 68) hC rfl rfl rfl rfl ?_
              refine x_stI7 (p' := 69) hC rfl rfl rfl ?_
              refine x_1 (p' := 70) hC rfl rfl rfl rfl ?_
              refine x_stI8 (p' := 71) hC rfl rfl rfl ?_
              refine lp_m_comes hO hs (f := f) (g := rFr (X 1) f 1) (c := rFr (X 1) f 2) (P := rOf (X 1) (rFr (X 1) f 1) 4) (sl := _) (lt := _) hf hg (by omega) (fun hl => ?_) (fun hl hd => ?_) (fun hl hd => ?_) _ 0 0 (Nat.lt_succ_self _) (by omega) (b2i_f (fun ⟨q, h0, h1, _⟩ => by omega)).symm
              all_goals first
                | (exfalso; omega)
                | (have e1 : rSlot (X 1) (rFr (X 1) f 1) (rFr (X 1) f 2) (rFr (X 1) f 3) = rFr (X 1) f 3 := by
                      unfold rSlot rOff
                      exact cif_t (by omega)
                   refine comes_fin K ?_
                   unfold rComes
                   rw [e1]
                   unfold rLate rOff
                   first
                     | rw [cif_t (by omega)]
                     | (rw [cif_f (by omega)]; first | rw [cif_t hd] | rw [cif_f hd]))
                | (have e1 : rSlot (X 1) (rFr (X 1) f 1) (rFr (X 1) f 2) (rFr (X 1) f 3) = (rFr (X 1) f 3 + rOf (X 1) (rFr (X 1) f 1) 4 - 1) / rOf (X 1) (rFr (X 1) f 1) 4 * rOf (X 1) (rFr (X 1) f 1) 4 := by
                      unfold rSlot rOff
                      exact cif_f (by omega)
                   refine comes_fin K ?_
                   unfold rComes
                   rw [e1]
                   unfold rLate rOff
                   first
                     | rw [cif_t (by omega)]
                     | (rw [cif_f (by omega)]; first | rw [cif_t hd] | rw [cif_f hd]))
            · refine x_1 (p' := 64) hC rfl rfl rfl rfl ?_
              refine x_1 (p' := 66) hC rfl rfl rfl rfl ?_
              refine x_stI6 (p' := 67) hC rfl rfl rfl ?_
              refine x_1 (p' := 68) hC rfl rfl rfl rfl ?_
              refine x_stI7 (p' := 69) hC rfl rfl rfl ?_
              refine x_1 (p' := 70) hC rfl rfl rfl rfl ?_
              refine x_stI8 (p' := 71) hC rfl rfl rfl ?_
              refine lp_m_comes hO hs (f := f) (g := rFr (X 1) f 1) (c := rFr (X 1) f 2) (P := rOf (X 1) (rFr (X 1) f 1) 4) (sl := _) (lt := _) hf hg (by omega) (fun hl => ?_) (fun hl hd => ?_) (fun hl hd => ?_) _ 0 0 (Nat.lt_succ_self _) (by omega) (b2i_f (fun ⟨q, h0, h1, _⟩ => by omega)).symm
              all_goals first
                | (exfalso; omega)
                | (have e1 : rSlot (X 1) (rFr (X 1) f 1) (rFr (X 1) f 2) (rFr (X 1) f 3) = rFr (X 1) f 3 := by
                      unfold rSlot rOff
                      exact cif_t (by omega)
                   refine comes_fin K ?_
                   unfold rComes
                   rw [e1]
                   unfold rLate rOff
                   first
                     | rw [cif_t (by omega)]
                     | (rw [cif_f (by omega)]; first | rw [cif_t hd] | rw [cif_f hd]))
                | (have e1 : rSlot (X 1) (rFr (X 1) f 1) (rFr (X 1) f 2) (rFr (X 1) f 3) = (rFr (X 1) f 3 + rOf (X 1) (rFr (X 1) f 1) 4 - 1) / rOf (X 1) (rFr (X 1) f 1) 4 * rOf (X 1) (rFr (X 1) f 1) 4 := by
                      unfold rSlot rOff
                      exact cif_f (by omega)
                   refine comes_fin K ?_
                   unfold rComes
                   rw [e1]
                   unfold rLate rOff
                   first
                     | rw [cif_t (by omega)]
                     | (rw [cif_f (by omega)]; first | rw [cif_t hd] | rw [cif_f hd]))
        · refine x_1 (p' := 49) hC rfl rfl rfl rfl ?_
          refine x_1 (p' := 50) hC rfl rfl rfl rfl ?_
          refine x_cIV1 (p' := 51) (n := 9) hC rfl rfl rfl rfl rfl (hO.ty) ?_
          refine sp_m_isOn hO (by omega) ?_
          refine x_ifeq (p' := 52) hC rfl rfl (fun c51 => ?_) (fun c51 => ?_)
          · have c51 := b2i_0.mp c51
            refine x_1 (p' := 64) hC rfl rfl rfl rfl ?_
            refine x_1 (p' := 66) hC rfl rfl rfl rfl ?_
            refine x_stI6 (p' := 67) hC rfl rfl rfl ?_
            refine x_1 (p' := 68) hC rfl rfl rfl rfl ?_
            refine x_stI7 (p' := 69) hC rfl rfl rfl ?_
            refine x_1 (p' := 70) hC rfl rfl rfl rfl ?_
            refine x_stI8 (p' := 71) hC rfl rfl rfl ?_
            refine lp_m_comes hO hs (f := f) (g := rFr (X 1) f 1) (c := rFr (X 1) f 2) (P := rOf (X 1) (rFr (X 1) f 1) 4) (sl := _) (lt := _) hf hg (by omega) (fun hl => ?_) (fun hl hd => ?_) (fun hl hd => ?_) _ 0 0 (Nat.lt_succ_self _) (by omega) (b2i_f (fun ⟨q, h0, h1, _⟩ => by omega)).symm
            all_goals first
              | (exfalso; omega)
              | (have e1 : rSlot (X 1) (rFr (X 1) f 1) (rFr (X 1) f 2) (rFr (X 1) f 3) = rFr (X 1) f 3 := by
                    unfold rSlot rOff
                    exact cif_t (by omega)
                 refine comes_fin K ?_
                 unfold rComes
                 rw [e1]
                 unfold rLate rOff
                 first
                   | rw [cif_t (by omega)]
                   | (rw [cif_f (by omega)]; first | rw [cif_t hd] | rw [cif_f hd]))
              | (have e1 : rSlot (X 1) (rFr (X 1) f 1) (rFr (X 1) f 2) (rFr (X 1) f 3) = (rFr (X 1) f 3 + rOf (X 1) (rFr (X 1) f 1) 4 - 1) / rOf (X 1) (rFr (X 1) f 1) 4 * rOf (X 1) (rFr (X 1) f 1) 4 := by
                    unfold rSlot rOff
                    exact cif_f (by omega)
                 refine comes_fin K ?_
                 unfold rComes
                 rw [e1]
                 unfold rLate rOff
                 first
                   | rw [cif_t (by omega)]
                   | (rw [cif_f (by omega)]; first | rw [cif_t hd] | rw [cif_f hd]))
          · have c51 := b2i_n0.mp c51
            refine x_1 (p' := 53) hC rfl rfl rfl rfl ?_
            refine x_1 (p' := 54) hC rfl rfl rfl rfl ?_
            refine x_1 (p' := 55) hC rfl rfl rfl rfl ?_
            refine x_cIV2 (p' := 56) (n := 3) hC rfl rfl rfl rfl rfl (hO.ty) ?_
            refine sp_m_of hO (by omega) (by omega) ?_
            refine x_ifle (p' := 57) hC rfl rfl (fun c56 => ?_) (fun c56 => ?_)
            · refine x_1 (p' := 66) hC rfl rfl rfl rfl ?_
              refine x_stI6 (p' := 67) hC rfl rfl rfl ?_
              refine x_1 (p' := 68) hC rfl rfl rfl rfl ?_
              refine x_stI7 (p' := 69) hC rfl rfl rfl ?_
              refine x_1 (p' := 70) hC rfl rfl rfl rfl ?_
              refine x_stI8 (p' := 71) hC rfl rfl rfl ?_
              refine lp_m_comes hO hs (f := f) (g := rFr (X 1) f 1) (c := rFr (X 1) f 2) (P := rOf (X 1) (rFr (X 1) f 1) 4) (sl := _) (lt := _) hf hg (by omega) (fun hl => ?_) (fun hl hd => ?_) (fun hl hd => ?_) _ 0 0 (Nat.lt_succ_self _) (by omega) (b2i_f (fun ⟨q, h0, h1, _⟩ => by omega)).symm
              all_goals first
                | (exfalso; omega)
                | (have e1 : rSlot (X 1) (rFr (X 1) f 1) (rFr (X 1) f 2) (rFr (X 1) f 3) = rFr (X 1) f 3 := by
                      unfold rSlot rOff
                      exact cif_t (by omega)
                   refine comes_fin K ?_
                   unfold rComes
                   rw [e1]
                   unfold rLate rOff
                   first
                     | rw [cif_t (by omega)]
                     | (rw [cif_f (by omega)]; first | rw [cif_t hd] | rw [cif_f hd]))
                | (have e1 : rSlot (X 1) (rFr (X 1) f 1) (rFr (X 1) f 2) (rFr (X 1) f 3) = (rFr (X 1) f 3 + rOf (X 1) (rFr (X 1) f 1) 4 - 1) / rOf (X 1) (rFr (X 1) f 1) 4 * rOf (X 1) (rFr (X 1) f 1) 4 := by
                      unfold rSlot rOff
                      exact cif_f (by omega)
                   refine comes_fin K ?_
                   unfold rComes
                   rw [e1]
                   unfold rLate rOff
                   first
                     | rw [cif_t (by omega)]
                     | (rw [cif_f (by omega)]; first | rw [cif_t hd] | rw [cif_f hd]))
            · refine x_1 (p' := 58) hC rfl rfl rfl rfl ?_
              refine x_1 (p' := 59) hC rfl rfl rfl rfl ?_
              refine x_1 (p' := 60) hC rfl rfl rfl rfl ?_
              refine x_1 (p' := 61) hC rfl rfl rfl rfl ?_
              refine x_cIV2 (p' := 62) (n := 3) hC rfl rfl rfl rfl rfl (hO.ty) ?_
              refine sp_m_of hO (by omega) (by omega) ?_
              refine x_icgt (p' := 63) hC rfl rfl (fun c62 => ?_) (fun c62 => ?_)
              · refine x_1 (p' := 66) hC rfl rfl rfl rfl ?_
                refine x_stI6 (p' := 67) hC rfl rfl rfl ?_
                refine x_1 (p' := 68) hC rfl rfl rfl rfl ?_
                refine x_stI7 (p' := 69) hC rfl rfl rfl ?_
                refine x_1 (p' := 70) hC rfl rfl rfl rfl ?_
                refine x_stI8 (p' := 71) hC rfl rfl rfl ?_
                refine lp_m_comes hO hs (f := f) (g := rFr (X 1) f 1) (c := rFr (X 1) f 2) (P := rOf (X 1) (rFr (X 1) f 1) 4) (sl := _) (lt := _) hf hg (by omega) (fun hl => ?_) (fun hl hd => ?_) (fun hl hd => ?_) _ 0 0 (Nat.lt_succ_self _) (by omega) (b2i_f (fun ⟨q, h0, h1, _⟩ => by omega)).symm
                all_goals first
                  | (exfalso; omega)
                  | (have e1 : rSlot (X 1) (rFr (X 1) f 1) (rFr (X 1) f 2) (rFr (X 1) f 3) = rFr (X 1) f 3 := by
                        unfold rSlot rOff
                        exact cif_t (by omega)
                     refine comes_fin K ?_
                     unfold rComes
                     rw [e1]
                     unfold rLate rOff
                     first
                       | rw [cif_t (by omega)]
                       | (rw [cif_f (by omega)]; first | rw [cif_t hd] | rw [cif_f hd]))
                  | (have e1 : rSlot (X 1) (rFr (X 1) f 1) (rFr (X 1) f 2) (rFr (X 1) f 3) = (rFr (X 1) f 3 + rOf (X 1) (rFr (X 1) f 1) 4 - 1) / rOf (X 1) (rFr (X 1) f 1) 4 * rOf (X 1) (rFr (X 1) f 1) 4 := by
                        unfold rSlot rOff
                        exact cif_f (by omega)
                     refine comes_fin K ?_
                     unfold rComes
                     rw [e1]
                     unfold rLate rOff
                     first
                       | rw [cif_t (by omega)]
                       | (rw [cif_f (by omega)]; first | rw [cif_t hd] | rw [cif_f hd]))
              · refine x_1 (p' := 64) hC rfl rfl rfl rfl ?_
                refine x_1 (p' := 66) hC rfl rfl rfl rfl ?_
                refine x_stI6 (p' := 67) hC rfl rfl rfl ?_
                refine x_1 (p' := 68) hC rfl rfl rfl rfl ?_
                refine x_stI7 (p' := 69) hC rfl rfl rfl ?_
                refine x_1 (p' := 70) hC rfl rfl rfl rfl ?_
                refine x_stI8 (p' := 71) hC rfl rfl rfl ?_
                refine lp_m_comes hO hs (f := f) (g := rFr (X 1) f 1) (c := rFr (X 1) f 2) (P := rOf (X 1) (rFr (X 1) f 1) 4) (sl := _) (lt := _) hf hg (by omega) (fun hl => ?_) (fun hl hd => ?_) (fun hl hd => ?_) _ 0 0 (Nat.lt_succ_self _) (by omega) (b2i_f (fun ⟨q, h0, h1, _⟩ => by omega)).symm
                all_goals first
                  | (exfalso; omega)
                  | (have e1 : rSlot (X 1) (rFr (X 1) f 1) (rFr (X 1) f 2) (rFr (X 1) f 3) = rFr (X 1) f 3 := by
                        unfold rSlot rOff
                        exact cif_t (by omega)
                     refine comes_fin K ?_
                     unfold rComes
                     rw [e1]
                     unfold rLate rOff
                     first
                       | rw [cif_t (by omega)]
                       | (rw [cif_f (by omega)]; first | rw [cif_t hd] | rw [cif_f hd]))
                  | (have e1 : rSlot (X 1) (rFr (X 1) f 1) (rFr (X 1) f 2) (rFr (X 1) f 3) = (rFr (X 1) f 3 + rOf (X 1) (rFr (X 1) f 1) 4 - 1) / rOf (X 1) (rFr (X 1) f 1) 4 * rOf (X 1) (rFr (X 1) f 1) 4 := by
                        unfold rSlot rOff
                        exact cif_f (by omega)
                     refine comes_fin K ?_
                     unfold rComes
                     rw [e1]
                     unfold rLate rOff
                     first
                       | rw [cif_t (by omega)]
                       | (rw [cif_f (by omega)]; first | rw [cif_t hd] | rw [cif_f hd]))
      · have c26 := b2i_0.mp c26
        refine x_1 (p' := 28) hC rfl rfl rfl rfl ?_
        refine x_1 (p' := 29) hC rfl rfl rfl rfl ?_
        refine x_1 (p' := 30) hC rfl rfl rfl rfl ?_
        refine x_cIV2 (p' := 31) (n := 5) hC rfl rfl rfl rfl rfl (hO.ty) ?_
        refine sp_m_fr hO (by omega) (by omega) ?_
        refine x_1 (p' := 44) hC rfl rfl rfl rfl ?_
        refine x_stI5 (p' := 45) hC rfl rfl rfl ?_
        refine x_1 (p' := 46) hC rfl rfl rfl rfl ?_
        refine x_1 (p' := 47) hC rfl rfl rfl rfl ?_
        refine x_icge (p' := 48) hC rfl rfl (fun c47 => ?_) (fun c47 => ?_)
        · refine x_1 (p' := 53) hC rfl rfl rfl rfl ?_
          refine x_1 (p' := 54) hC rfl rfl rfl rfl ?_
          refine x_1 (p' := 55) hC rfl rfl rfl rfl ?_
          refine x_cIV2 (p' := 56) (n := 3) hC rfl rfl rfl rfl rfl (hO.ty) ?_
          refine sp_m_of hO (by omega) (by omega) ?_
          refine x_ifle (p' := 57) hC rfl rfl (fun c56 => ?_) (fun c56 => ?_)
          · refine x_1 (p' := 66) hC rfl rfl rfl rfl ?_
            refine x_stI6 (p' := 67) hC rfl rfl rfl ?_
            refine x_1 (p' := 68) hC rfl rfl rfl rfl ?_
            refine x_stI7 (p' := 69) hC rfl rfl rfl ?_
            refine x_1 (p' := 70) hC rfl rfl rfl rfl ?_
            refine x_stI8 (p' := 71) hC rfl rfl rfl ?_
            refine lp_m_comes hO hs (f := f) (g := rFr (X 1) f 1) (c := rFr (X 1) f 2) (P := rOf (X 1) (rFr (X 1) f 1) 4) (sl := _) (lt := _) hf hg (by omega) (fun hl => ?_) (fun hl hd => ?_) (fun hl hd => ?_) _ 0 0 (Nat.lt_succ_self _) (by omega) (b2i_f (fun ⟨q, h0, h1, _⟩ => by omega)).symm
            all_goals first
              | (exfalso; omega)
              | (have e1 : rSlot (X 1) (rFr (X 1) f 1) (rFr (X 1) f 2) (rFr (X 1) f 3) = rFr (X 1) f 3 := by
                    unfold rSlot rOff
                    exact cif_t (by omega)
                 refine comes_fin K ?_
                 unfold rComes
                 rw [e1]
                 unfold rLate rOff
                 first
                   | rw [cif_t (by omega)]
                   | (rw [cif_f (by omega)]; first | rw [cif_t hd] | rw [cif_f hd]))
              | (have e1 : rSlot (X 1) (rFr (X 1) f 1) (rFr (X 1) f 2) (rFr (X 1) f 3) = (rFr (X 1) f 3 + rOf (X 1) (rFr (X 1) f 1) 4 - 1) / rOf (X 1) (rFr (X 1) f 1) 4 * rOf (X 1) (rFr (X 1) f 1) 4 := by
                    unfold rSlot rOff
                    exact cif_f (by omega)
                 refine comes_fin K ?_
                 unfold rComes
                 rw [e1]
                 unfold rLate rOff
                 first
                   | rw [cif_t (by omega)]
                   | (rw [cif_f (by omega)]; first | rw [cif_t hd] | rw [cif_f hd]))
          · refine x_1 (p' := 58) hC rfl rfl rfl rfl ?_
            refine x_1 (p' := 59) hC rfl rfl rfl rfl ?_
            refine x_1 (p' := 60) hC rfl rfl rfl rfl ?_
            refine x_1 (p' := 61) hC rfl rfl rfl rfl ?_
            refine x_cIV2 (p' := 62) (n := 3) hC rfl rfl rfl rfl rfl (hO.ty) ?_
            refine sp_m_of hO (by omega) (by omega) ?_
            refine x_icgt (p' := 63) hC rfl rfl (fun c62 => ?_) (fun c62 => ?_)
            · refine x_1 (p' := 66) hC rfl rfl rfl rfl ?_
              refine x_stI6 (p' := 67) hC rfl rfl rfl ?_
              refine x_1 (p' := 68) hC rfl rfl rfl rfl ?_
              refine x_stI7 (p' := 69) hC rfl rfl rfl ?_
              refine x_1 (p' := 70) hC rfl rfl rfl rfl ?_
              refine x_stI8 (p' := 71) hC rfl rfl rfl ?_
              refine lp_m_comes hO hs (f := f) (g := rFr (X 1) f 1) (c := rFr (X 1) f 2) (P := rOf (X 1) (rFr (X 1) f 1) 4) (sl := _) (lt := _) hf hg (by omega) (fun hl => ?_) (fun hl hd => ?_) (fun hl hd => ?_) _ 0 0 (Nat.lt_succ_self _) (by omega) (b2i_f (fun ⟨q, h0, h1, _⟩ => by omega)).symm
              all_goals first
                | (exfalso; omega)
                | (have e1 : rSlot (X 1) (rFr (X 1) f 1) (rFr (X 1) f 2) (rFr (X 1) f 3) = rFr (X 1) f 3 := by
                      unfold rSlot rOff
                      exact cif_t (by omega)
                   refine comes_fin K ?_
                   unfold rComes
                   rw [e1]
                   unfold rLate rOff
                   first
                     | rw [cif_t (by omega)]
                     | (rw [cif_f (by omega)]; first | rw [cif_t hd] | rw [cif_f hd]))
                | (have e1 : rSlot (X 1) (rFr (X 1) f 1) (rFr (X 1) f 2) (rFr (X 1) f 3) = (rFr (X 1) f 3 + rOf (X 1) (rFr (X 1) f 1) 4 - 1) / rOf (X 1) (rFr (X 1) f 1) 4 * rOf (X 1) (rFr (X 1) f 1) 4 := by
                      unfold rSlot rOff
                      exact cif_f (by omega)
                   refine comes_fin K ?_
                   unfold rComes
                   rw [e1]
                   unfold rLate rOff
                   first
                     | rw [cif_t (by omega)]
                     | (rw [cif_f (by omega)]; first | rw [cif_t hd] | rw [cif_f hd]))
            · refine x_1 (p' := 64) hC rfl rfl rfl rfl ?_
              refine x_1 (p' := 66) hC rfl rfl rfl rfl ?_
              refine x_stI6 (p' := 67) hC rfl rfl rfl ?_
              refine x_1 (p' := 68) hC rfl rfl rfl rfl ?_
              refine x_stI7 (p' := 69) hC rfl rfl rfl ?_
              refine x_1 (p' := 70) hC rfl rfl rfl rfl ?_
              refine x_stI8 (p' := 71) hC rfl rfl rfl ?_
              refine lp_m_comes hO hs (f := f) (g := rFr (X 1) f 1) (c := rFr (X 1) f 2) (P := rOf (X 1) (rFr (X 1) f 1) 4) (sl := _) (lt := _) hf hg (by omega) (fun hl => ?_) (fun hl hd => ?_) (fun hl hd => ?_) _ 0 0 (Nat.lt_succ_self _) (by omega) (b2i_f (fun ⟨q, h0, h1, _⟩ => by omega)).symm
              all_goals first
                | (exfalso; omega)
                | (have e1 : rSlot (X 1) (rFr (X 1) f 1) (rFr (X 1) f 2) (rFr (X 1) f 3) = rFr (X 1) f 3 := by
                      unfold rSlot rOff
                      exact cif_t (by omega)
                   refine comes_fin K ?_
                   unfold rComes
                   rw [e1]
                   unfold rLate rOff
                   first
                     | rw [cif_t (by omega)]
                     | (rw [cif_f (by omega)]; first | rw [cif_t hd] | rw [cif_f hd]))
                | (have e1 : rSlot (X 1) (rFr (X 1) f 1) (rFr (X 1) f 2) (rFr (X 1) f 3) = (rFr (X 1) f 3 + rOf (X 1) (rFr (X 1) f 1) 4 - 1) / rOf (X 1) (rFr (X 1) f 1) 4 * rOf (X 1) (rFr (X 1) f 1) 4 := by
                      unfold rSlot rOff
                      exact cif_f (by omega)
                   refine comes_fin K ?_
                   unfold rComes
                   rw [e1]
                   unfold rLate rOff
                   first
                     | rw [cif_t (by omega)]
                     | (rw [cif_f (by omega)]; first | rw [cif_t hd] | rw [cif_f hd]))
        · refine x_1 (p' := 49) hC rfl rfl rfl rfl ?_
          refine x_1 (p' := 50) hC rfl rfl rfl rfl ?_
          refine x_cIV1 (p' := 51) (n := 9) hC rfl rfl rfl rfl rfl (hO.ty) ?_
          refine sp_m_isOn hO (by omega) ?_
          refine x_ifeq (p' := 52) hC rfl rfl (fun c51 => ?_) (fun c51 => ?_)
          · have c51 := b2i_0.mp c51
            refine x_1 (p' := 64) hC rfl rfl rfl rfl ?_
            refine x_1 (p' := 66) hC rfl rfl rfl rfl ?_
            refine x_stI6 (p' := 67) hC rfl rfl rfl ?_
            refine x_1 (p' := 68) hC rfl rfl rfl rfl ?_
            refine x_stI7 (p' := 69) hC rfl rfl rfl ?_
            refine x_1 (p' := 70) hC rfl rfl rfl rfl ?_
            refine x_stI8 (p' := 71) hC rfl rfl rfl ?_
            refine lp_m_comes hO hs (f := f) (g := rFr (X 1) f 1) (c := rFr (X 1) f 2) (P := rOf (X 1) (rFr (X 1) f 1) 4) (sl := _) (lt := _) hf hg (by omega) (fun hl => ?_) (fun hl hd => ?_) (fun hl hd => ?_) _ 0 0 (Nat.lt_succ_self _) (by omega) (b2i_f (fun ⟨q, h0, h1, _⟩ => by omega)).symm
            all_goals first
              | (exfalso; omega)
              | (have e1 : rSlot (X 1) (rFr (X 1) f 1) (rFr (X 1) f 2) (rFr (X 1) f 3) = rFr (X 1) f 3 := by
                    unfold rSlot rOff
                    exact cif_t (by omega)
                 refine comes_fin K ?_
                 unfold rComes
                 rw [e1]
                 unfold rLate rOff
                 first
                   | rw [cif_t (by omega)]
                   | (rw [cif_f (by omega)]; first | rw [cif_t hd] | rw [cif_f hd]))
              | (have e1 : rSlot (X 1) (rFr (X 1) f 1) (rFr (X 1) f 2) (rFr (X 1) f 3) = (rFr (X 1) f 3 + rOf (X 1) (rFr (X 1) f 1) 4 - 1) / rOf (X 1) (rFr (X 1) f 1) 4 * rOf (X 1) (rFr (X 1) f 1) 4 := by
                    unfold rSlot rOff
                    exact cif_f (by omega)
                 refine comes_fin K ?_
                 unfold rComes
                 rw [e1]
                 unfold rLate rOff
                 first
                   | rw [cif_t (by omega)]
                   | (rw [cif_f (by omega)]; first | rw [cif_t hd] | rw [cif_f hd]))
          · have c51 := b2i_n0.mp c51
            refine x_1 (p' := 53) hC rfl rfl rfl rfl ?_
            refine x_1 (p' := 54) hC rfl rfl rfl rfl ?_
            refine x_1 (p' := 55) hC rfl rfl rfl rfl ?_
            refine x_cIV2 (p' := 56) (n := 3) hC rfl rfl rfl rfl rfl (hO.ty) ?_
            refine sp_m_of hO (by omega) (by omega) ?_
            refine x_ifle (p' := 57) hC rfl rfl (fun c56 => ?_) (fun c56 => ?_)
            · refine x_1 (p' := 66) hC rfl rfl rfl rfl ?_
              refine x_stI6 (p' := 67) hC rfl rfl rfl ?_
              refine x_1 (p' := 68) hC rfl rfl rfl rfl ?_
              refine x_stI7 (p' := 69) hC rfl rfl rfl ?_
              refine x_1 (p' := 70) hC rfl rfl rfl rfl ?_
              refine x_stI8 (p' := 71) hC rfl rfl rfl ?_
              refine lp_m_comes hO hs (f := f) (g := rFr (X 1) f 1) (c := rFr (X 1) f 2) (P := rOf (X 1) (rFr (X 1) f 1) 4) (sl := _) (lt := _) hf hg (by omega) (fun hl => ?_) (fun hl hd => ?_) (fun hl hd => ?_) _ 0 0 (Nat.lt_succ_self _) (by omega) (b2i_f (fun ⟨q, h0, h1, _⟩ => by omega)).symm
              all_goals first
                | (exfalso; omega)
                | (have e1 : rSlot (X 1) (rFr (X 1) f 1) (rFr (X 1) f 2) (rFr (X 1) f 3) = rFr (X 1) f 3 := by
                      unfold rSlot rOff
                      exact cif_t (by omega)
                   refine comes_fin K ?_
                   unfold rComes
                   rw [e1]
                   unfold rLate rOff
                   first
                     | rw [cif_t (by omega)]
                     | (rw [cif_f (by omega)]; first | rw [cif_t hd] | rw [cif_f hd]))
                | (have e1 : rSlot (X 1) (rFr (X 1) f 1) (rFr (X 1) f 2) (rFr (X 1) f 3) = (rFr (X 1) f 3 + rOf (X 1) (rFr (X 1) f 1) 4 - 1) / rOf (X 1) (rFr (X 1) f 1) 4 * rOf (X 1) (rFr (X 1) f 1) 4 := by
                      unfold rSlot rOff
                      exact cif_f (by omega)
                   refine comes_fin K ?_
                   unfold rComes
                   rw [e1]
                   unfold rLate rOff
                   first
                     | rw [cif_t (by omega)]
                     | (rw [cif_f (by omega)]; first | rw [cif_t hd] | rw [cif_f hd]))
            · refine x_1 (p' := 58) hC rfl rfl rfl rfl ?_
              refine x_1 (p' := 59) hC rfl rfl rfl rfl ?_
              refine x_1 (p' := 60) hC rfl rfl rfl rfl ?_
              refine x_1 (p' := 61) hC rfl rfl rfl rfl ?_
              refine x_cIV2 (p' := 62) (n := 3) hC rfl rfl rfl rfl rfl (hO.ty) ?_
              refine sp_m_of hO (by omega) (by omega) ?_
              refine x_icgt (p' := 63) hC rfl rfl (fun c62 => ?_) (fun c62 => ?_)
              · refine x_1 (p' := 66) hC rfl rfl rfl rfl ?_
                refine x_stI6 (p' := 67) hC rfl rfl rfl ?_
                refine x_1 (p' := 68) hC rfl rfl rfl rfl ?_
                refine x_stI7 (p' := 69) hC rfl rfl rfl ?_
                refine x_1 (p' := 70) hC rfl rfl rfl rfl ?_
                refine x_stI8 (p' := 71) hC rfl rfl rfl ?_
                refine lp_m_comes hO hs (f := f) (g := rFr (X 1) f 1) (c := rFr (X 1) f 2) (P := rOf (X 1) (rFr (X 1) f 1) 4) (sl := _) (lt := _) hf hg (by omega) (fun hl => ?_) (fun hl hd => ?_) (fun hl hd => ?_) _ 0 0 (Nat.lt_succ_self _) (by omega) (b2i_f (fun ⟨q, h0, h1, _⟩ => by omega)).symm
                all_goals first
                  | (exfalso; omega)
                  | (have e1 : rSlot (X 1) (rFr (X 1) f 1) (rFr (X 1) f 2) (rFr (X 1) f 3) = rFr (X 1) f 3 := by
                        unfold rSlot rOff
                        exact cif_t (by omega)
                     refine comes_fin K ?_
                     unfold rComes
                     rw [e1]
                     unfold rLate rOff
                     first
                       | rw [cif_t (by omega)]
                       | (rw [cif_f (by omega)]; first | rw [cif_t hd] | rw [cif_f hd]))
                  | (have e1 : rSlot (X 1) (rFr (X 1) f 1) (rFr (X 1) f 2) (rFr (X 1) f 3) = (rFr (X 1) f 3 + rOf (X 1) (rFr (X 1) f 1) 4 - 1) / rOf (X 1) (rFr (X 1) f 1) 4 * rOf (X 1) (rFr (X 1) f 1) 4 := by
                        unfold rSlot rOff
                        exact cif_f (by omega)
                     refine comes_fin K ?_
                     unfold rComes
                     rw [e1]
                     unfold rLate rOff
                     first
                       | rw [cif_t (by omega)]
                       | (rw [cif_f (by omega)]; first | rw [cif_t hd] | rw [cif_f hd]))
              · refine x_1 (p' := 64) hC rfl rfl rfl rfl ?_
                refine x_1 (p' := 66) hC rfl rfl rfl rfl ?_
                refine x_stI6 (p' := 67) hC rfl rfl rfl ?_
                refine x_1 (p' := 68) hC rfl rfl rfl rfl ?_
                refine x_stI7 (p' := 69) hC rfl rfl rfl ?_
                refine x_1 (p' := 70) hC rfl rfl rfl rfl ?_
                refine x_stI8 (p' := 71) hC rfl rfl rfl ?_
                refine lp_m_comes hO hs (f := f) (g := rFr (X 1) f 1) (c := rFr (X 1) f 2) (P := rOf (X 1) (rFr (X 1) f 1) 4) (sl := _) (lt := _) hf hg (by omega) (fun hl => ?_) (fun hl hd => ?_) (fun hl hd => ?_) _ 0 0 (Nat.lt_succ_self _) (by omega) (b2i_f (fun ⟨q, h0, h1, _⟩ => by omega)).symm
                all_goals first
                  | (exfalso; omega)
                  | (have e1 : rSlot (X 1) (rFr (X 1) f 1) (rFr (X 1) f 2) (rFr (X 1) f 3) = rFr (X 1) f 3 := by
                        unfold rSlot rOff
                        exact cif_t (by omega)
                     refine comes_fin K ?_
                     unfold rComes
                     rw [e1]
                     unfold rLate rOff
                     first
                       | rw [cif_t (by omega)]
                       | (rw [cif_f (by omega)]; first | rw [cif_t hd] | rw [cif_f hd]))
                  | (have e1 : rSlot (X 1) (rFr (X 1) f 1) (rFr (X 1) f 2) (rFr (X 1) f 3) = (rFr (X 1) f 3 + rOf (X 1) (rFr (X 1) f 1) 4 - 1) / rOf (X 1) (rFr (X 1) f 1) 4 * rOf (X 1) (rFr (X 1) f 1) 4 := by
                        unfold rSlot rOff
                        exact cif_f (by omega)
                     refine comes_fin K ?_
                     unfold rComes
                     rw [e1]
                     unfold rLate rOff
                     first
                       | rw [cif_t (by omega)]
                       | (rw [cif_f (by omega)]; first | rw [cif_t hd] | rw [cif_f hd]))

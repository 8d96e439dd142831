/-! the reference's building -/
abbrev rGo (a b : Int) : Prop := a % b = 0 ∨ b % a = 0
abbrev isU (s : Int → Int) (u : Int) : Prop := 0 ≤ u ∧ u ≤ s 1 - 1
abbrev isH (s : Int → Int) (g : Int) : Prop := 0 ≤ g ∧ g ≤ s 0 - 1
def rCanB (s : Int → Int) (g p : Int) : Prop := rSls s g (-1) = 0 ∧ rOf s g 6 = 0 ∧ (0 ≤ rOf s g 5 → rGo p (rOf s (rOf s g 5) 4) ∧ rSls s (rOf s g 5) (-1) = 0 ∧ rOf s (rOf s g 5) 6 = 0)
def rCanN (s : Int → Int) (g p n : Int) : Prop := rCanB s g p ∧ ∀ c, 0 ≤ c → c < n → rChild s g c → rGo p (rPer s c)
theorem rCanN_succ {s : Int → Int} {g p n : Int} (hn : 0 ≤ n) : rCanN s g p (n + 1) ↔ rCanN s g p n ∧ (rChild s g n → rGo p (rPer s n)) := by
  constructor
  · exact fun q => ⟨⟨q.1, fun c h0 h1 => q.2 c h0 (by omega)⟩, q.2 n hn (by omega)⟩
  · intro q
    refine ⟨q.1.1, fun c h0 h1 => ?_⟩
    rcases (show c < n ∨ c = n by omega) with h2 | h2
    · exact q.1.2 c h0 h2
    · rw [h2]; exact q.2
theorem rCanN_le {s : Int → Int} {g p n k : Int} (hn : n ≤ k) (h : rCanN s g p k) : rCanN s g p n := ⟨h.1, fun c h0 h1 => h.2 c h0 (by omega)⟩
set_option maxRecDepth 20000 in
set_option maxHeartbeats 2000000 in
theorem sp_m_takesOff {d : Nat} {m : Nat} {h : HP} (hO : RO m h) {X : Nat → Int → Int} (hs : RI (X 1)) {u : Int} {Q : Int → HP → Prop} (K1 : ¬ isU (X 1) u → Q (-1000001) (wX m h X)) (K2 : isU (X 1) u → ¬ rIts (X 1) u 2 = 0 → Q (-1000002) (wX m h X)) (K3 : isU (X 1) u → rIts (X 1) u 2 = 0 → Q (rOn (ups (X 1) (58 + 4 * u + 2) 1)) (wX m h (setS X (ups (X 1) (58 + 4 * u + 2) 1)))) : CaI (d + 3) 23 [.inr (some m), .inl u] (wX m h X) Q := by
  have hC : cod 23 = c_m_takesOff := rfl
  refine CaI.start rfl ?_
  have hs1 := hs.2.1
  refine x_1 (p' := 1) hC rfl rfl rfl rfl ?_
  refine x_1 (p' := 2) hC rfl rfl rfl rfl ?_
  refine x_cIV1 (p' := 3) (n := 8) hC rfl rfl rfl rfl rfl (hO.ty) ?_
  refine sp_m_isUnit hO hs.2.1 ?_
  refine x_ifne (p' := 4) hC rfl rfl (fun c3 => ?_) (fun c3 => ?_)
  · have c3 := b2i_n0.mp c3
    refine x_1 (p' := 7) hC rfl rfl rfl rfl ?_
    refine x_1 (p' := 8) hC rfl rfl rfl rfl ?_
    refine x_cIV1 (p' := 9) (n := 9) hC rfl rfl rfl rfl rfl (hO.ty) ?_
    refine sp_m_isOn hO (by omega) ?_
    refine x_ifne (p' := 10) hC rfl rfl (fun c9 => ?_) (fun c9 => ?_)
    · have c9 := b2i_n0.mp c9
      refine x_1 (p' := 13) hC rfl rfl rfl rfl ?_
      refine y_gR (p' := 14) (n := 1) hO hC rfl rfl rfl rfl ?_
      refine x_1 (p' := 15) hC rfl rfl rfl rfl ?_
      refine x_1 (p' := 16) hC rfl rfl rfl rfl ?_
      refine x_1 (p' := 17) hC rfl rfl rfl rfl ?_
      refine x_mul (p' := 18) hC rfl rfl rfl (⟨by omega, by omega⟩) ?_
      refine x_add (p' := 19) hC rfl rfl rfl (⟨by omega, by omega⟩) ?_
      refine x_1 (p' := 20) hC rfl rfl rfl rfl ?_
      refine x_add (p' := 21) hC rfl rfl rfl (⟨by omega, by omega⟩) ?_
      refine x_1 (p' := 22) hC rfl rfl rfl rfl ?_
      refine y_st (p' := 23) (L := 15568) hO hC rfl rfl rfl rfl (by omega) (by omega) ?_
      simp only [upX_1, setS_setS, setS_1]
      refine x_1 (p' := 24) hC rfl rfl rfl rfl ?_
      refine x_cIV0 (p' := 25) (n := 20) hC rfl rfl rfl rfl rfl (hO.ty) ?_
      refine sp_m_on hO ?_ ?_
      · rw [setS_1]
        exact hs.congr (ups_ne (by omega)) (ups_ne (by omega)) (by rw [ups_ne (by omega)]; exact hs.2.2.1) (by rw [ups_ne (by omega)]; exact hs.2.2.2.1) (fun g _ _ => ⟨ups_ne (by omega), ups_ne (by omega)⟩) (fun a _ _ => ⟨ups_ne (by omega), ups_ne (by omega)⟩)
      rw [setS_1]
      refine x_iret hC rfl rfl rfl ⟨_, rfl, ?_⟩
      exact K3 (by omega) (by omega)
    · have c9 := b2i_0.mp c9
      refine x_ldc (p' := 11) (v := (-1000002)) hC rfl rfl (by decide) ?_
      refine x_iret hC rfl rfl rfl ⟨_, rfl, ?_⟩
      exact K2 (by omega) (by omega)
  · have c3 := b2i_0.mp c3
    refine x_ldc (p' := 5) (v := (-1000001)) hC rfl rfl (by decide) ?_
    refine x_iret hC rfl rfl rfl ⟨_, rfl, ?_⟩
    exact K1 (by omega)
set_option maxRecDepth 20000 in
theorem lp_m_canHave {d : Nat} {m : Nat} {h : HP} (hO : RO m h) {X : Nat → Int → Int} (hs : RI (X 1)) {g p : Int} (hg : 0 ≤ g ∧ g < X 1 0) (hp : 1 ≤ p ∧ p ≤ 20) {z : Option AV} {Q : Int → HP → Prop} (K : Q (b2i (rCanN (X 1) g p 15)) (wX m h X)) (k : Nat) : ∀ (b : Int) (c : Int), (15 - c).toNat < k → (0 ≤ c ∧ c ≤ 15) → (b = b2i (rCanN (X 1) g p c)) → At (d + 3) 25 44 [some (.inr (some m)), some (.inl g), some (.inl p), some (.inl b), z, some (.inl c)] [] (wX m h X) (fun v h' => ∃ x, v = some (.inl x) ∧ Q x h') := by
  have hC : cod 25 = c_m_canHave := rfl
  induction k with
  | zero =>
    intro b c hk
    exact absurd hk (Nat.not_lt_zero _)
  | succ k ih =>
    intro b c hk hI0 hI1
    have hb01 : 0 ≤ b ∧ b ≤ 1 := by rw [hI1]; exact b2i_01 _
    refine x_1 (p' := 45) hC rfl rfl rfl rfl ?_
    refine x_1 (p' := 46) hC rfl rfl rfl rfl ?_
    refine x_icge (p' := 47) hC rfl rfl (fun c46 => ?_) (fun c46 => ?_)
    · refine x_1 (p' := 67) hC rfl rfl rfl rfl ?_
      refine x_zret hC rfl rfl rfl (by omega) ⟨_, rfl, ?_⟩
      refine eqK K ?_
      first
        | (rw [show (15 : Int) = c by omega]; exact hI1.symm)
        | (rw [show b = 0 by omega]
           exact b2i_f (fun q => b2i_0.mp (by rw [← hI1]; omega) (rCanN_le (by omega) q)))
    · refine x_1 (p' := 48) hC rfl rfl rfl rfl ?_
      refine x_ifeq (p' := 49) hC rfl rfl (fun c48 => ?_) (fun c48 => ?_)
      · refine x_1 (p' := 67) hC rfl rfl rfl rfl ?_
        refine x_zret hC rfl rfl rfl (by omega) ⟨_, rfl, ?_⟩
        refine eqK K ?_
        first
          | (rw [show (15 : Int) = c by omega]; exact hI1.symm)
          | (rw [show b = 0 by omega]
             exact b2i_f (fun q => b2i_0.mp (by rw [← hI1]; omega) (rCanN_le (by omega) q)))
      · refine x_1 (p' := 50) hC rfl rfl rfl rfl ?_
        refine x_1 (p' := 51) hC rfl rfl rfl rfl ?_
        refine x_1 (p' := 52) hC rfl rfl rfl rfl ?_
        refine x_cIV2 (p' := 53) (n := 15) hC rfl rfl rfl rfl rfl (hO.ty) ?_
        refine sp_m_isChild hO hs (by omega) ?_
        refine x_ifeq (p' := 54) hC rfl rfl (fun c53 => ?_) (fun c53 => ?_)
        · have c53 := b2i_0.mp c53
          refine x_1 (p' := 61) hC rfl rfl rfl rfl ?_
          refine x_1 (p' := 63) hC rfl rfl rfl rfl ?_
          refine x_stI3 (p' := 64) hC rfl rfl rfl ?_
          refine x_inc5 (p' := 65) hC rfl rfl (⟨by omega, by omega⟩) ?_
          refine x_1 (p' := 44) hC rfl rfl rfl rfl ?_
          refine ih _ _ (by omega) (by omega) ?_
          have hN : rCanN (X 1) g p c := b2i_n0.mp (by rw [← hI1]; omega)
          first
            | exact (b2i_t ((rCanN_succ (by omega)).mpr ⟨hN, fun q => absurd q c53⟩)).symm
            | exact (b2i_t ((rCanN_succ (by omega)).mpr ⟨hN, fun _ => c59⟩)).symm
            | exact (b2i_f (fun q => c59 (((rCanN_succ (by omega)).mp q).2 c53))).symm
        · have c53 := b2i_n0.mp c53
          refine x_1 (p' := 55) hC rfl rfl rfl rfl ?_
          refine x_1 (p' := 56) hC rfl rfl rfl rfl ?_
          refine x_1 (p' := 57) hC rfl rfl rfl rfl ?_
          refine x_cIV1 (p' := 58) (n := 16) hC rfl rfl rfl rfl rfl (hO.ty) ?_
          have hpc := per_child hs c53
          refine sp_m_periodOf hO (by omega) ?_
          refine x_cIS2 (p' := 59) (n := 14) hC rfl rfl rfl rfl rfl ?_
          refine sp_m_goWith hp hpc ?_
          refine x_ifeq (p' := 60) hC rfl rfl (fun c59 => ?_) (fun c59 => ?_)
          · have c59 := b2i_0.mp c59
            refine x_1 (p' := 63) hC rfl rfl rfl rfl ?_
            refine x_stI3 (p' := 64) hC rfl rfl rfl ?_
            refine x_inc5 (p' := 65) hC rfl rfl (⟨by omega, by omega⟩) ?_
            refine x_1 (p' := 44) hC rfl rfl rfl rfl ?_
            refine ih _ _ (by omega) (by omega) ?_
            have hN : rCanN (X 1) g p c := b2i_n0.mp (by rw [← hI1]; omega)
            first
              | exact (b2i_t ((rCanN_succ (by omega)).mpr ⟨hN, fun q => absurd q c53⟩)).symm
              | exact (b2i_t ((rCanN_succ (by omega)).mpr ⟨hN, fun _ => c59⟩)).symm
              | exact (b2i_f (fun q => c59 (((rCanN_succ (by omega)).mp q).2 c53))).symm
          · have c59 := b2i_n0.mp c59
            refine x_1 (p' := 61) hC rfl rfl rfl rfl ?_
            refine x_1 (p' := 63) hC rfl rfl rfl rfl ?_
            refine x_stI3 (p' := 64) hC rfl rfl rfl ?_
            refine x_inc5 (p' := 65) hC rfl rfl (⟨by omega, by omega⟩) ?_
            refine x_1 (p' := 44) hC rfl rfl rfl rfl ?_
            refine ih _ _ (by omega) (by omega) ?_
            have hN : rCanN (X 1) g p c := b2i_n0.mp (by rw [← hI1]; omega)
            first
              | exact (b2i_t ((rCanN_succ (by omega)).mpr ⟨hN, fun q => absurd q c53⟩)).symm
              | exact (b2i_t ((rCanN_succ (by omega)).mpr ⟨hN, fun _ => c59⟩)).symm
              | exact (b2i_f (fun q => c59 (((rCanN_succ (by omega)).mp q).2 c53))).symm
set_option maxRecDepth 20000 in
set_option maxHeartbeats 2000000 in
theorem sp_m_canHave {d : Nat} {m : Nat} {h : HP} (hO : RO m h) {X : Nat → Int → Int} (hs : RI (X 1)) (hf : RF (X 1)) {g p : Int} (hg : 0 ≤ g ∧ g < X 1 0) (hp : 1 ≤ p ∧ p ≤ 20) {Q : Int → HP → Prop} (K : Q (b2i (rCanN (X 1) g p 15)) (wX m h X)) : CaI (d + 3) 25 [.inr (some m), .inl g, .inl p] (wX m h X) Q := by
  have hC : cod 25 = c_m_canHave := rfl
  refine CaI.start rfl ?_
  have h0 := hs.1
  have hab := hs.2.2.2.2.1 g hg.1 hg.2
  have haa := fun q => hs.2.2.2.2.1 (rOf (X 1) g 5) q (by omega)
  refine x_1 (p' := 1) hC rfl rfl rfl rfl ?_
  refine x_1 (p' := 2) hC rfl rfl rfl rfl ?_
  refine x_cIV1 (p' := 3) (n := 35) hC rfl rfl rfl rfl rfl (hO.ty) ?_
  refine sp_m_slots hO hs hf ?_
  refine x_ifne (p' := 4) hC rfl rfl (fun c3 => ?_) (fun c3 => ?_)
  · refine x_1 (p' := 12) hC rfl rfl rfl rfl ?_
    refine x_stI3 (p' := 13) hC rfl rfl rfl ?_
    refine x_1 (p' := 14) hC rfl rfl rfl rfl ?_
    refine x_1 (p' := 15) hC rfl rfl rfl rfl ?_
    refine x_1 (p' := 16) hC rfl rfl rfl rfl ?_
    refine x_cIV2 (p' := 17) (n := 3) hC rfl rfl rfl rfl rfl (hO.ty) ?_
    refine sp_m_of hO (by omega) (by omega) ?_
    refine x_stI4 (p' := 18) hC rfl rfl rfl ?_
    refine x_1 (p' := 19) hC rfl rfl rfl rfl ?_
    refine x_ifeq (p' := 20) hC rfl rfl (fun _ => ?_) (fun c => absurd c (by decide))
    refine x_1 (p' := 41) hC rfl rfl rfl rfl ?_
    refine x_stI3 (p' := 42) hC rfl rfl rfl ?_
    refine x_1 (p' := 43) hC rfl rfl rfl rfl ?_
    refine x_stI5 (p' := 44) hC rfl rfl rfl ?_
    refine lp_m_canHave hO hs hg hp K _ _ 0 (Nat.lt_succ_self _) (by omega) ?_
    first
      | exact (b2i_t ⟨⟨by omega, by omega, fun q => by first | omega | exact ⟨c28, by omega, by omega⟩⟩, fun c h0 h1 => by omega⟩).symm
      | exact (b2i_f (fun q => by
          obtain ⟨⟨q1, q2, q3⟩, -⟩ := q
          first
            | omega
            | (obtain ⟨r1, r2, r3⟩ := q3 (by omega)
               first
                 | exact c28 r1
                 | omega))).symm
  · refine x_1 (p' := 5) hC rfl rfl rfl rfl ?_
    refine x_1 (p' := 6) hC rfl rfl rfl rfl ?_
    refine x_1 (p' := 7) hC rfl rfl rfl rfl ?_
    refine x_cIV2 (p' := 8) (n := 3) hC rfl rfl rfl rfl rfl (hO.ty) ?_
    refine sp_m_of hO (by omega) (by omega) ?_
    refine x_ifne (p' := 9) hC rfl rfl (fun c8 => ?_) (fun c8 => ?_)
    · refine x_1 (p' := 12) hC rfl rfl rfl rfl ?_
      refine x_stI3 (p' := 13) hC rfl rfl rfl ?_
      refine x_1 (p' := 14) hC rfl rfl rfl rfl ?_
      refine x_1 (p' := 15) hC rfl rfl rfl rfl ?_
      refine x_1 (p' := 16) hC rfl rfl rfl rfl ?_
      refine x_cIV2 (p' := 17) (n := 3) hC rfl rfl rfl rfl rfl (hO.ty) ?_
      refine sp_m_of hO (by omega) (by omega) ?_
      refine x_stI4 (p' := 18) hC rfl rfl rfl ?_
      refine x_1 (p' := 19) hC rfl rfl rfl rfl ?_
      refine x_ifeq (p' := 20) hC rfl rfl (fun _ => ?_) (fun c => absurd c (by decide))
      refine x_1 (p' := 41) hC rfl rfl rfl rfl ?_
      refine x_stI3 (p' := 42) hC rfl rfl rfl ?_
      refine x_1 (p' := 43) hC rfl rfl rfl rfl ?_
      refine x_stI5 (p' := 44) hC rfl rfl rfl ?_
      refine lp_m_canHave hO hs hg hp K _ _ 0 (Nat.lt_succ_self _) (by omega) ?_
      first
        | exact (b2i_t ⟨⟨by omega, by omega, fun q => by first | omega | exact ⟨c28, by omega, by omega⟩⟩, fun c h0 h1 => by omega⟩).symm
        | exact (b2i_f (fun q => by
            obtain ⟨⟨q1, q2, q3⟩, -⟩ := q
            first
              | omega
              | (obtain ⟨r1, r2, r3⟩ := q3 (by omega)
                 first
                   | exact c28 r1
                   | omega))).symm
    · refine x_1 (p' := 10) hC rfl rfl rfl rfl ?_
      refine x_1 (p' := 12) hC rfl rfl rfl rfl ?_
      refine x_stI3 (p' := 13) hC rfl rfl rfl ?_
      refine x_1 (p' := 14) hC rfl rfl rfl rfl ?_
      refine x_1 (p' := 15) hC rfl rfl rfl rfl ?_
      refine x_1 (p' := 16) hC rfl rfl rfl rfl ?_
      refine x_cIV2 (p' := 17) (n := 3) hC rfl rfl rfl rfl rfl (hO.ty) ?_
      refine sp_m_of hO (by omega) (by omega) ?_
      refine x_stI4 (p' := 18) hC rfl rfl rfl ?_
      refine x_1 (p' := 19) hC rfl rfl rfl rfl ?_
      refine x_ifeq (p' := 20) hC rfl rfl (fun c => absurd c (by decide)) (fun _ => ?_)
      refine x_1 (p' := 21) hC rfl rfl rfl rfl ?_
      refine x_iflt (p' := 22) hC rfl rfl (fun c21 => ?_) (fun c21 => ?_)
      · refine x_1 (p' := 39) hC rfl rfl rfl rfl ?_
        refine x_1 (p' := 41) hC rfl rfl rfl rfl ?_
        refine x_stI3 (p' := 42) hC rfl rfl rfl ?_
        refine x_1 (p' := 43) hC rfl rfl rfl rfl ?_
        refine x_stI5 (p' := 44) hC rfl rfl rfl ?_
        refine lp_m_canHave hO hs hg hp K _ _ 0 (Nat.lt_succ_self _) (by omega) ?_
        first
          | exact (b2i_t ⟨⟨by omega, by omega, fun q => by first | omega | exact ⟨c28, by omega, by omega⟩⟩, fun c h0 h1 => by omega⟩).symm
          | exact (b2i_f (fun q => by
              obtain ⟨⟨q1, q2, q3⟩, -⟩ := q
              first
                | omega
                | (obtain ⟨r1, r2, r3⟩ := q3 (by omega)
                   first
                     | exact c28 r1
                     | omega))).symm
      · refine x_1 (p' := 23) hC rfl rfl rfl rfl ?_
        refine x_1 (p' := 24) hC rfl rfl rfl rfl ?_
        refine x_1 (p' := 25) hC rfl rfl rfl rfl ?_
        refine x_1 (p' := 26) hC rfl rfl rfl rfl ?_
        refine x_cIV2 (p' := 27) (n := 3) hC rfl rfl rfl rfl rfl (hO.ty) ?_
        refine sp_m_of hO (by omega) (by omega) ?_
        refine x_cIS2 (p' := 28) (n := 14) hC rfl rfl rfl rfl rfl ?_
        refine sp_m_goWith hp (by have := haa (by omega); omega) ?_
        refine x_ifeq (p' := 29) hC rfl rfl (fun c28 => ?_) (fun c28 => ?_)
        · have c28 := b2i_0.mp c28
          refine x_1 (p' := 41) hC rfl rfl rfl rfl ?_
          refine x_stI3 (p' := 42) hC rfl rfl rfl ?_
          refine x_1 (p' := 43) hC rfl rfl rfl rfl ?_
          refine x_stI5 (p' := 44) hC rfl rfl rfl ?_
          refine lp_m_canHave hO hs hg hp K _ _ 0 (Nat.lt_succ_self _) (by omega) ?_
          first
            | exact (b2i_t ⟨⟨by omega, by omega, fun q => by first | omega | exact ⟨c28, by omega, by omega⟩⟩, fun c h0 h1 => by omega⟩).symm
            | exact (b2i_f (fun q => by
                obtain ⟨⟨q1, q2, q3⟩, -⟩ := q
                first
                  | omega
                  | (obtain ⟨r1, r2, r3⟩ := q3 (by omega)
                     first
                       | exact c28 r1
                       | omega))).symm
        · have c28 := b2i_n0.mp c28
          refine x_1 (p' := 30) hC rfl rfl rfl rfl ?_
          refine x_1 (p' := 31) hC rfl rfl rfl rfl ?_
          refine x_cIV1 (p' := 32) (n := 35) hC rfl rfl rfl rfl rfl (hO.ty) ?_
          refine sp_m_slots hO hs hf ?_
          refine x_ifne (p' := 33) hC rfl rfl (fun c32 => ?_) (fun c32 => ?_)
          · refine x_1 (p' := 41) hC rfl rfl rfl rfl ?_
            refine x_stI3 (p' := 42) hC rfl rfl rfl ?_
            refine x_1 (p' := 43) hC rfl rfl rfl rfl ?_
            refine x_stI5 (p' := 44) hC rfl rfl rfl ?_
            refine lp_m_canHave hO hs hg hp K _ _ 0 (Nat.lt_succ_self _) (by omega) ?_
            first
              | exact (b2i_t ⟨⟨by omega, by omega, fun q => by first | omega | exact ⟨c28, by omega, by omega⟩⟩, fun c h0 h1 => by omega⟩).symm
              | exact (b2i_f (fun q => by
                  obtain ⟨⟨q1, q2, q3⟩, -⟩ := q
                  first
                    | omega
                    | (obtain ⟨r1, r2, r3⟩ := q3 (by omega)
                       first
                         | exact c28 r1
                         | omega))).symm
          · refine x_1 (p' := 34) hC rfl rfl rfl rfl ?_
            refine x_1 (p' := 35) hC rfl rfl rfl rfl ?_
            refine x_1 (p' := 36) hC rfl rfl rfl rfl ?_
            refine x_cIV2 (p' := 37) (n := 3) hC rfl rfl rfl rfl rfl (hO.ty) ?_
            refine sp_m_of hO (by omega) (by omega) ?_
            refine x_ifne (p' := 38) hC rfl rfl (fun c37 => ?_) (fun c37 => ?_)
            · refine x_1 (p' := 41) hC rfl rfl rfl rfl ?_
              refine x_stI3 (p' := 42) hC rfl rfl rfl ?_
              refine x_1 (p' := 43) hC rfl rfl rfl rfl ?_
              refine x_stI5 (p' := 44) hC rfl rfl rfl ?_
              refine lp_m_canHave hO hs hg hp K _ _ 0 (Nat.lt_succ_self _) (by omega) ?_
              first
                | exact (b2i_t ⟨⟨by omega, by omega, fun q => by first | omega | exact ⟨c28, by omega, by omega⟩⟩, fun c h0 h1 => by omega⟩).symm
                | exact (b2i_f (fun q => by
                    obtain ⟨⟨q1, q2, q3⟩, -⟩ := q
                    first
                      | omega
                      | (obtain ⟨r1, r2, r3⟩ := q3 (by omega)
                         first
                           | exact c28 r1
                           | omega))).symm
            · refine x_1 (p' := 39) hC rfl rfl rfl rfl ?_
              refine x_1 (p' := 41) hC rfl rfl rfl rfl ?_
              refine x_stI3 (p' := 42) hC rfl rfl rfl ?_
              refine x_1 (p' := 43) hC rfl rfl rfl rfl ?_
              refine x_stI5 (p' := 44) hC rfl rfl rfl ?_
              refine lp_m_canHave hO hs hg hp K _ _ 0 (Nat.lt_succ_self _) (by omega) ?_
              first
                | exact (b2i_t ⟨⟨by omega, by omega, fun q => by first | omega | exact ⟨c28, by omega, by omega⟩⟩, fun c h0 h1 => by omega⟩).symm
                | exact (b2i_f (fun q => by
                    obtain ⟨⟨q1, q2, q3⟩, -⟩ := q
                    first
                      | omega
                      | (obtain ⟨r1, r2, r3⟩ := q3 (by omega)
                         first
                           | exact c28 r1
                           | omega))).symm
theorem setS_of {X : Nat → Int → Int} {s : Int → Int} (e : X 1 = s) : setS X s = X := by subst e; exact setS_id
def rHubI (s : Int → Int) (n a p k : Int) : Int → Int := fun j => if 8 + 10 * n ≤ j ∧ j < 8 + 10 * n + k then (if j = 8 + 10 * n + 4 then p else if j = 8 + 10 * n + 5 then a else 0) else s j
theorem rHubI_0 {s : Int → Int} {n a p : Int} : rHubI s n a p 0 = s := by funext j; exact if_neg (by omega)
theorem rHubI_succ {s : Int → Int} {n a p k v : Int} (h0 : 0 ≤ k) (hv : v = if k = 4 then p else if k = 5 then a else 0) : ups (rHubI s n a p k) (8 + 10 * n + k) v = rHubI s n a p (k + 1) := by
  funext j
  unfold ups rHubI
  by_cases e : j = 8 + 10 * n + k
  · subst e
    rw [if_pos rfl, if_pos (by omega), hv]
    repeat' split
    all_goals first | rfl | omega
  · rw [if_neg e]
    try dsimp only
    by_cases e2 : 8 + 10 * n ≤ j ∧ j < 8 + 10 * n + k
    · rw [if_pos e2, if_pos (show 8 + 10 * n ≤ j ∧ j < 8 + 10 * n + (k + 1) by omega)]
    · rw [if_neg e2, if_neg (show ¬ (8 + 10 * n ≤ j ∧ j < 8 + 10 * n + (k + 1)) by omega)]
def rHubH (s : Int → Int) (n k : Int) : Int → Int := fun j => if 98 + 30 * n ≤ j ∧ j < 98 + 30 * n + k then 0 else s j
theorem rHubH_0 {s : Int → Int} {n : Int} : rHubH s n 0 = s := by funext j; exact if_neg (by omega)
theorem rHubH_succ {s : Int → Int} {n k : Int} (h0 : 0 ≤ k) : ups (rHubH s n k) (98 + 30 * n + k) 0 = rHubH s n (k + 1) := by
  funext j
  unfold ups rHubH
  by_cases e : j = 98 + 30 * n + k
  · rw [if_pos e, if_pos (by omega)]
  · rw [if_neg e]
    try dsimp only
    by_cases e2 : 98 + 30 * n ≤ j ∧ j < 98 + 30 * n + k
    · rw [if_pos e2, if_pos (by omega)]
    · rw [if_neg e2, if_neg (by omega)]
def rHub (s : Int → Int) (a p : Int) : Int → Int := ups (rHubH (rHubI s (s 0) a p 10) (s 0) 30) 0 (s 0 + 1)
def rUnit (s : Int → Int) (a p : Int) : Int → Int := ups (ups (ups (ups (ups s (58 + 4 * s 1) a) (58 + 4 * s 1 + 1) p) (58 + 4 * s 1 + 2) 0) (58 + 4 * s 1 + 3) 0) 1 (s 1 + 1)
def okNew (s : Int → Int) (a p : Int) : Prop := isH s a ∧ 1 ≤ p ∧ p ≤ 20
set_option maxRecDepth 20000 in
theorem lp_m_hub2 {d : Nat} {m : Nat} {h : HP} (hO : RO m h) {X : Nat → Int → Int} (hq : 0 ≤ X 0 4 ∧ X 0 4 ≤ 4) {a p n : Int}  {s : Int → Int} (h0 : s 0 = n) (hn : 1 ≤ n ∧ n < 5) {Q : Int → HP → Prop} (K : Q n (wX m h (acX (setS X (ups (rHubH s n 30) 0 (n + 1)))))) (k : Nat) : ∀ (i : Int), (30 - i).toNat < k → (0 ≤ i ∧ i ≤ 30) → At (d + 5) 21 65 [some (.inr (some m)), some (.inl a), some (.inl p), some (.inl n), some (.inl i)] [] (wX m h (setS X (rHubH s n i))) (fun v h' => ∃ x, v = some (.inl x) ∧ Q x h') := by
  have hC : cod 21 = c_m_hub := rfl
  induction k with
  | zero =>
    intro i hk
    exact absurd hk (Nat.not_lt_zero _)
  | succ k ih =>
    intro i hk hI0
    refine x_1 (p' := 66) hC rfl rfl rfl rfl ?_
    refine x_1 (p' := 67) hC rfl rfl rfl rfl ?_
    refine x_icge (p' := 68) hC rfl rfl (fun c67 => ?_) (fun c67 => ?_)
    · refine x_1 (p' := 82) hC rfl rfl rfl rfl ?_
      refine y_gR (p' := 83) (n := 1) hO hC rfl rfl rfl rfl ?_
      refine x_1 (p' := 84) hC rfl rfl rfl rfl ?_
      refine x_1 (p' := 85) hC rfl rfl rfl rfl ?_
      refine y_ld (p' := 86) (L := 15568) hO hC rfl rfl rfl rfl (by omega) (by omega) ?_
      rw [setS_1, show rHubH s n i 0 = n from (if_neg (by omega)).trans h0]
      refine x_1 (p' := 87) hC rfl rfl rfl rfl ?_
      refine x_add (p' := 88) hC rfl rfl rfl (⟨by omega, by omega⟩) ?_
      refine y_st (p' := 89) (L := 15568) hO hC rfl rfl rfl rfl (by omega) (by omega) ?_
      simp only [upX_1, setS_setS, setS_1]
      refine x_1 (p' := 90) hC rfl rfl rfl rfl ?_
      refine x_1 (p' := 91) hC rfl rfl rfl rfl ?_
      refine x_cIV1 (p' := 92) (n := 11) hC rfl rfl rfl rfl rfl (hO.ty) ?_
      refine sp_m_acted hO (by rw [setS_ne (by decide)]; exact hq) (fun hv => by exfalso; omega) (fun hv => ?_)
      refine x_iret hC rfl rfl rfl ⟨_, rfl, ?_⟩
      rw [show i = 30 by omega]
      exact K
    · refine x_1 (p' := 69) hC rfl rfl rfl rfl ?_
      refine y_gR (p' := 70) (n := 1) hO hC rfl rfl rfl rfl ?_
      refine x_1 (p' := 71) hC rfl rfl rfl rfl ?_
      refine x_1 (p' := 72) hC rfl rfl rfl rfl ?_
      refine x_1 (p' := 73) hC rfl rfl rfl rfl ?_
      refine x_mul (p' := 74) hC rfl rfl rfl (⟨by omega, by omega⟩) ?_
      refine x_add (p' := 75) hC rfl rfl rfl (⟨by omega, by omega⟩) ?_
      refine x_1 (p' := 76) hC rfl rfl rfl rfl ?_
      refine x_add (p' := 77) hC rfl rfl rfl (⟨by omega, by omega⟩) ?_
      refine x_1 (p' := 78) hC rfl rfl rfl rfl ?_
      refine y_st (p' := 79) (L := 15568) hO hC rfl rfl rfl rfl (by omega) (by omega) ?_
      simp only [upX_1, setS_setS, setS_1]
      refine x_inc4 (p' := 80) hC rfl rfl (⟨by omega, by omega⟩) ?_
      refine x_1 (p' := 65) hC rfl rfl rfl rfl ?_
      rw [rHubH_succ (by omega)]
      exact ih _ (by omega) (by omega)
set_option maxRecDepth 20000 in
theorem lp_m_hub1 {d : Nat} {m : Nat} {h : HP} (hO : RO m h) {X : Nat → Int → Int} (hq : 0 ≤ X 0 4 ∧ X 0 4 ≤ 4) {a p n : Int} {s : Int → Int} (h0 : s 0 = n) (hn : 1 ≤ n ∧ n < 5) {Q : Int → HP → Prop} (K : Q n (wX m h (acX (setS X (ups (rHubH (rHubI s n a p 10) n 30) 0 (n + 1)))))) (k : Nat) : ∀ (i : Int), (10 - i).toNat < k → (0 ≤ i ∧ i ≤ 10) → At (d + 5) 21 37 [some (.inr (some m)), some (.inl a), some (.inl p), some (.inl n), some (.inl i)] [] (wX m h (setS X (rHubI s n a p i))) (fun v h' => ∃ x, v = some (.inl x) ∧ Q x h') := by
  have hC : cod 21 = c_m_hub := rfl
  induction k with
  | zero =>
    intro i hk
    exact absurd hk (Nat.not_lt_zero _)
  | succ k ih =>
    intro i hk hI0
    refine x_1 (p' := 38) hC rfl rfl rfl rfl ?_
    refine x_1 (p' := 39) hC rfl rfl rfl rfl ?_
    refine x_icge (p' := 40) hC rfl rfl (fun c39 => ?_) (fun c39 => ?_)
    · refine x_1 (p' := 64) hC rfl rfl rfl rfl ?_
      refine x_stI4 (p' := 65) hC rfl rfl rfl ?_
      rw [show i = 10 by omega]
      have q := lp_m_hub2 (d := d) hO hq (a := a) (p := p) (s := rHubI s n a p 10) ((if_neg (by omega)).trans h0) hn K _ 0 (Nat.lt_succ_self _) (by omega)
      rw [rHubH_0] at q
      exact q
    · refine x_1 (p' := 41) hC rfl rfl rfl rfl ?_
      refine y_gR (p' := 42) (n := 1) hO hC rfl rfl rfl rfl ?_
      refine x_1 (p' := 43) hC rfl rfl rfl rfl ?_
      refine x_1 (p' := 44) hC rfl rfl rfl rfl ?_
      refine x_1 (p' := 45) hC rfl rfl rfl rfl ?_
      refine x_mul (p' := 46) hC rfl rfl rfl (⟨by omega, by omega⟩) ?_
      refine x_add (p' := 47) hC rfl rfl rfl (⟨by omega, by omega⟩) ?_
      refine x_1 (p' := 48) hC rfl rfl rfl rfl ?_
      refine x_add (p' := 49) hC rfl rfl rfl (⟨by omega, by omega⟩) ?_
      refine x_1 (p' := 50) hC rfl rfl rfl rfl ?_
      refine x_1 (p' := 51) hC rfl rfl rfl rfl ?_
      refine x_icne (p' := 52) hC rfl rfl (fun c51 => ?_) (fun c51 => ?_)
      · refine x_1 (p' := 55) hC rfl rfl rfl rfl ?_
        refine x_1 (p' := 56) hC rfl rfl rfl rfl ?_
        refine x_icne (p' := 57) hC rfl rfl (fun c56 => ?_) (fun c56 => ?_)
        · refine x_1 (p' := 60) hC rfl rfl rfl rfl ?_
          refine y_st (p' := 61) (L := 15568) hO hC rfl rfl rfl rfl (by omega) (by omega) ?_
          simp only [upX_1, setS_setS, setS_1]
          refine x_inc4 (p' := 62) hC rfl rfl (⟨by omega, by omega⟩) ?_
          refine x_1 (p' := 37) hC rfl rfl rfl rfl ?_
          rw [rHubI_succ (by omega) (by first | rw [if_pos (by omega)] | (rw [if_neg (by omega)]; first | rw [if_pos (by omega)] | rw [if_neg (by omega)]))]
          exact ih _ (by omega) (by omega)
        · refine x_1 (p' := 58) hC rfl rfl rfl rfl ?_
          refine x_1 (p' := 60) hC rfl rfl rfl rfl ?_
          refine y_st (p' := 61) (L := 15568) hO hC rfl rfl rfl rfl (by omega) (by omega) ?_
          simp only [upX_1, setS_setS, setS_1]
          refine x_inc4 (p' := 62) hC rfl rfl (⟨by omega, by omega⟩) ?_
          refine x_1 (p' := 37) hC rfl rfl rfl rfl ?_
          rw [rHubI_succ (by omega) (by first | rw [if_pos (by omega)] | (rw [if_neg (by omega)]; first | rw [if_pos (by omega)] | rw [if_neg (by omega)]))]
          exact ih _ (by omega) (by omega)
      · refine x_1 (p' := 53) hC rfl rfl rfl rfl ?_
        refine x_1 (p' := 60) hC rfl rfl rfl rfl ?_
        refine y_st (p' := 61) (L := 15568) hO hC rfl rfl rfl rfl (by omega) (by omega) ?_
        simp only [upX_1, setS_setS, setS_1]
        refine x_inc4 (p' := 62) hC rfl rfl (⟨by omega, by omega⟩) ?_
        refine x_1 (p' := 37) hC rfl rfl rfl rfl ?_
        rw [rHubI_succ (by omega) (by first | rw [if_pos (by omega)] | (rw [if_neg (by omega)]; first | rw [if_pos (by omega)] | rw [if_neg (by omega)]))]
        exact ih _ (by omega) (by omega)
set_option maxRecDepth 20000 in
set_option maxHeartbeats 2000000 in
theorem sp_m_hub {d : Nat} {m : Nat} {h : HP} (hO : RO m h) {X : Nat → Int → Int} (hs : RI (X 1)) (hq : 0 ≤ X 0 4 ∧ X 0 4 ≤ 4) {a p : Int} {Q : Int → HP → Prop} (K1 : ¬ okNew (X 1) a p → Q (-1000001) (wX m h X)) (K2 : okNew (X 1) a p → ¬ rGo p (rOf (X 1) a 4) → Q (-1000002) (wX m h X)) (K3 : okNew (X 1) a p → rGo p (rOf (X 1) a 4) → X 1 0 = 5 → Q (-1000003) (wX m h X)) (K4 : okNew (X 1) a p → rGo p (rOf (X 1) a 4) → X 1 0 < 5 → Q (X 1 0) (wX m h (acX (setS (cpX X 3 15568 (X 1)) (rHub (X 1) a p))))) : CaI (d + 5) 21 [.inr (some m), .inl a, .inl p] (wX m h X) Q := by
  have hC : cod 21 = c_m_hub := rfl
  refine CaI.start rfl ?_
  have h0 := hs.1
  have hpa := fun q1 q2 => (hs.2.2.2.2.1 a q1 q2).2.2
  refine x_1 (p' := 1) hC rfl rfl rfl rfl ?_
  refine x_1 (p' := 2) hC rfl rfl rfl rfl ?_
  refine x_cIV1 (p' := 3) (n := 7) hC rfl rfl rfl rfl rfl (hO.ty) ?_
  refine sp_m_isHub hO (by have := hs.1; omega) ?_
  refine x_ifeq (p' := 4) hC rfl rfl (fun c3 => ?_) (fun c3 => ?_)
  · have c3 := b2i_0.mp c3
    refine x_ldc (p' := 10) (v := (-1000001)) hC rfl rfl (by decide) ?_
    refine x_iret hC rfl rfl rfl ⟨_, rfl, ?_⟩
    exact K1 (by unfold okNew; omega)
  · have c3 := b2i_n0.mp c3
    refine x_1 (p' := 5) hC rfl rfl rfl rfl ?_
    refine x_1 (p' := 6) hC rfl rfl rfl rfl ?_
    refine x_1 (p' := 7) hC rfl rfl rfl rfl ?_
    refine x_cIS3 (p' := 8) (n := 2) hC rfl rfl rfl rfl rfl ?_
    refine sp_m_in ?_
    refine x_ifne (p' := 9) hC rfl rfl (fun c8 => ?_) (fun c8 => ?_)
    · have c8 := b2i_n0.mp c8
      refine x_1 (p' := 12) hC rfl rfl rfl rfl ?_
      refine x_1 (p' := 13) hC rfl rfl rfl rfl ?_
      refine x_1 (p' := 14) hC rfl rfl rfl rfl ?_
      refine x_1 (p' := 15) hC rfl rfl rfl rfl ?_
      refine x_cIV2 (p' := 16) (n := 3) hC rfl rfl rfl rfl rfl (hO.ty) ?_
      refine sp_m_of hO (by omega) (by omega) ?_
      refine x_cIS2 (p' := 17) (n := 14) hC rfl rfl rfl rfl rfl ?_
      refine sp_m_goWith (by omega) (hpa (by omega) (by omega)) ?_
      refine x_ifne (p' := 18) hC rfl rfl (fun c17 => ?_) (fun c17 => ?_)
      · have c17 := b2i_n0.mp c17
        refine x_1 (p' := 21) hC rfl rfl rfl rfl ?_
        refine y_gR (p' := 22) (n := 1) hO hC rfl rfl rfl rfl ?_
        refine x_1 (p' := 23) hC rfl rfl rfl rfl ?_
        refine y_ld (p' := 24) (L := 15568) hO hC rfl rfl rfl rfl (by omega) (by omega) ?_
        refine x_1 (p' := 25) hC rfl rfl rfl rfl ?_
        refine x_icne (p' := 26) hC rfl rfl (fun c25 => ?_) (fun c25 => ?_)
        · refine x_1 (p' := 29) hC rfl rfl rfl rfl ?_
          refine x_cVV0 (p' := 30) (n := 10) hC rfl rfl rfl rfl rfl (hO.ty) ?_
          refine sp_m_keeps hO ?_
          have eK : cpX X 3 15568 (X 1) 1 = X 1 := cpX_ne (by decide)
          have eQ : cpX X 3 15568 (X 1) 0 = X 0 := cpX_ne (by decide)
          refine x_1 (p' := 31) hC rfl rfl rfl rfl ?_
          refine y_gR (p' := 32) (n := 1) hO hC rfl rfl rfl rfl ?_
          refine x_1 (p' := 33) hC rfl rfl rfl rfl ?_
          refine y_ld (p' := 34) (L := 15568) hO hC rfl rfl rfl rfl (by omega) (by omega) ?_
          rw [eK]
          refine x_stI3 (p' := 35) hC rfl rfl rfl ?_
          refine x_1 (p' := 36) hC rfl rfl rfl rfl ?_
          refine x_stI4 (p' := 37) hC rfl rfl rfl ?_
          have q := lp_m_hub1 (d := d) hO (X := cpX X 3 15568 (X 1)) (by rw [eQ]; exact hq) (a := a) (p := p) (n := X 1 0) (s := X 1) rfl (by omega) (K4 (by unfold okNew; omega) c17 (by omega)) _ 0 (Nat.lt_succ_self _) (by omega)
          rw [rHubI_0, setS_of eK] at q
          exact q
        · refine x_ldc (p' := 27) (v := (-1000003)) hC rfl rfl (by decide) ?_
          refine x_iret hC rfl rfl rfl ⟨_, rfl, ?_⟩
          exact K3 (by unfold okNew; omega) c17 (by omega)
      · have c17 := b2i_0.mp c17
        refine x_ldc (p' := 19) (v := (-1000002)) hC rfl rfl (by decide) ?_
        refine x_iret hC rfl rfl rfl ⟨_, rfl, ?_⟩
        exact K2 (by unfold okNew; omega) c17
    · have c8 := b2i_0.mp c8
      refine x_ldc (p' := 10) (v := (-1000001)) hC rfl rfl (by decide) ?_
      refine x_iret hC rfl rfl rfl ⟨_, rfl, ?_⟩
      exact K1 (by unfold okNew; omega)
set_option maxRecDepth 20000 in
set_option maxHeartbeats 2000000 in
theorem sp_m_unit {d : Nat} {m : Nat} {h : HP} (hO : RO m h) {X : Nat → Int → Int} (hs : RI (X 1)) (hq : 0 ≤ X 0 4 ∧ X 0 4 ≤ 4) {a p : Int} {Q : Int → HP → Prop} (K1 : ¬ okNew (X 1) a p → Q (-1000001) (wX m h X)) (K2 : okNew (X 1) a p → ¬ rGo p (rOf (X 1) a 4) → Q (-1000002) (wX m h X)) (K3 : okNew (X 1) a p → rGo p (rOf (X 1) a 4) → X 1 1 = 10 → Q (-1000003) (wX m h X)) (K4 : okNew (X 1) a p → rGo p (rOf (X 1) a 4) → X 1 1 < 10 → Q (X 1 1) (wX m h (acX (setS (cpX X 3 15568 (X 1)) (rUnit (X 1) a p))))) : CaI (d + 5) 22 [.inr (some m), .inl a, .inl p] (wX m h X) Q := by
  have hC : cod 22 = c_m_unit := rfl
  refine CaI.start rfl ?_
  have h0 := hs.1
  have h1 := hs.2.1
  have hpa := fun q1 q2 => (hs.2.2.2.2.1 a q1 q2).2.2
  refine x_1 (p' := 1) hC rfl rfl rfl rfl ?_
  refine x_1 (p' := 2) hC rfl rfl rfl rfl ?_
  refine x_cIV1 (p' := 3) (n := 7) hC rfl rfl rfl rfl rfl (hO.ty) ?_
  refine sp_m_isHub hO (by have := hs.1; omega) ?_
  refine x_ifeq (p' := 4) hC rfl rfl (fun c3 => ?_) (fun c3 => ?_)
  · have c3 := b2i_0.mp c3
    refine x_ldc (p' := 10) (v := (-1000001)) hC rfl rfl (by decide) ?_
    refine x_iret hC rfl rfl rfl ⟨_, rfl, ?_⟩
    exact K1 (by unfold okNew; omega)
  · have c3 := b2i_n0.mp c3
    refine x_1 (p' := 5) hC rfl rfl rfl rfl ?_
    refine x_1 (p' := 6) hC rfl rfl rfl rfl ?_
    refine x_1 (p' := 7) hC rfl rfl rfl rfl ?_
    refine x_cIS3 (p' := 8) (n := 2) hC rfl rfl rfl rfl rfl ?_
    refine sp_m_in ?_
    refine x_ifne (p' := 9) hC rfl rfl (fun c8 => ?_) (fun c8 => ?_)
    · have c8 := b2i_n0.mp c8
      refine x_1 (p' := 12) hC rfl rfl rfl rfl ?_
      refine x_1 (p' := 13) hC rfl rfl rfl rfl ?_
      refine x_1 (p' := 14) hC rfl rfl rfl rfl ?_
      refine x_1 (p' := 15) hC rfl rfl rfl rfl ?_
      refine x_cIV2 (p' := 16) (n := 3) hC rfl rfl rfl rfl rfl (hO.ty) ?_
      refine sp_m_of hO (by omega) (by omega) ?_
      refine x_cIS2 (p' := 17) (n := 14) hC rfl rfl rfl rfl rfl ?_
      refine sp_m_goWith (by omega) (hpa (by omega) (by omega)) ?_
      refine x_ifne (p' := 18) hC rfl rfl (fun c17 => ?_) (fun c17 => ?_)
      · have c17 := b2i_n0.mp c17
        refine x_1 (p' := 21) hC rfl rfl rfl rfl ?_
        refine y_gR (p' := 22) (n := 1) hO hC rfl rfl rfl rfl ?_
        refine x_1 (p' := 23) hC rfl rfl rfl rfl ?_
        refine y_ld (p' := 24) (L := 15568) hO hC rfl rfl rfl rfl (by omega) (by omega) ?_
        refine x_1 (p' := 25) hC rfl rfl rfl rfl ?_
        refine x_icne (p' := 26) hC rfl rfl (fun c25 => ?_) (fun c25 => ?_)
        · refine x_1 (p' := 29) hC rfl rfl rfl rfl ?_
          refine x_cVV0 (p' := 30) (n := 10) hC rfl rfl rfl rfl rfl (hO.ty) ?_
          refine sp_m_keeps hO ?_
          have eK : cpX X 3 15568 (X 1) 1 = X 1 := cpX_ne (by decide)
          have eQ : cpX X 3 15568 (X 1) 0 = X 0 := cpX_ne (by decide)
          refine x_1 (p' := 31) hC rfl rfl rfl rfl ?_
          refine x_1 (p' := 32) hC rfl rfl rfl rfl ?_
          refine x_1 (p' := 33) hC rfl rfl rfl rfl ?_
          refine y_gR (p' := 34) (n := 1) hO hC rfl rfl rfl rfl ?_
          refine x_1 (p' := 35) hC rfl rfl rfl rfl ?_
          refine y_ld (p' := 36) (L := 15568) hO hC rfl rfl rfl rfl (by omega) (by omega) ?_
          rw [eK]
          refine x_mul (p' := 37) hC rfl rfl rfl (⟨by omega, by omega⟩) ?_
          refine x_add (p' := 38) hC rfl rfl rfl (⟨by omega, by omega⟩) ?_
          refine x_stI3 (p' := 39) hC rfl rfl rfl ?_
          refine x_1 (p' := 40) hC rfl rfl rfl rfl ?_
          refine y_gR (p' := 41) (n := 1) hO hC rfl rfl rfl rfl ?_
          refine x_1 (p' := 42) hC rfl rfl rfl rfl ?_
          refine x_1 (p' := 43) hC rfl rfl rfl rfl ?_
          refine y_st (p' := 44) (L := 15568) hO hC rfl rfl rfl rfl (by omega) (by omega) ?_
          simp only [upX_1, setS_setS, setS_1]
          rw [eK]
          refine x_1 (p' := 45) hC rfl rfl rfl rfl ?_
          refine y_gR (p' := 46) (n := 1) hO hC rfl rfl rfl rfl ?_
          refine x_1 (p' := 47) hC rfl rfl rfl rfl ?_
          refine x_1 (p' := 48) hC rfl rfl rfl rfl ?_
          refine x_add (p' := 49) hC rfl rfl rfl (⟨by omega, by omega⟩) ?_
          refine x_1 (p' := 50) hC rfl rfl rfl rfl ?_
          refine y_st (p' := 51) (L := 15568) hO hC rfl rfl rfl rfl (by omega) (by omega) ?_
          simp only [upX_1, setS_setS, setS_1]
          refine x_1 (p' := 52) hC rfl rfl rfl rfl ?_
          refine y_gR (p' := 53) (n := 1) hO hC rfl rfl rfl rfl ?_
          refine x_1 (p' := 54) hC rfl rfl rfl rfl ?_
          refine x_1 (p' := 55) hC rfl rfl rfl rfl ?_
          refine x_add (p' := 56) hC rfl rfl rfl (⟨by omega, by omega⟩) ?_
          refine x_1 (p' := 57) hC rfl rfl rfl rfl ?_
          refine y_st (p' := 58) (L := 15568) hO hC rfl rfl rfl rfl (by omega) (by omega) ?_
          simp only [upX_1, setS_setS, setS_1]
          refine x_1 (p' := 59) hC rfl rfl rfl rfl ?_
          refine y_gR (p' := 60) (n := 1) hO hC rfl rfl rfl rfl ?_
          refine x_1 (p' := 61) hC rfl rfl rfl rfl ?_
          refine x_1 (p' := 62) hC rfl rfl rfl rfl ?_
          refine x_add (p' := 63) hC rfl rfl rfl (⟨by omega, by omega⟩) ?_
          refine x_1 (p' := 64) hC rfl rfl rfl rfl ?_
          refine y_st (p' := 65) (L := 15568) hO hC rfl rfl rfl rfl (by omega) (by omega) ?_
          simp only [upX_1, setS_setS, setS_1]
          refine x_1 (p' := 66) hC rfl rfl rfl rfl ?_
          refine y_gR (p' := 67) (n := 1) hO hC rfl rfl rfl rfl ?_
          refine x_1 (p' := 68) hC rfl rfl rfl rfl ?_
          refine x_1 (p' := 69) hC rfl rfl rfl rfl ?_
          refine y_ld (p' := 70) (L := 15568) hO hC rfl rfl rfl rfl (by omega) (by omega) ?_
          rw [setS_1]
          iterate 4 rw [ups_ne (by omega)]
          refine x_1 (p' := 71) hC rfl rfl rfl rfl ?_
          refine x_add (p' := 72) hC rfl rfl rfl (⟨by omega, by omega⟩) ?_
          refine y_st (p' := 73) (L := 15568) hO hC rfl rfl rfl rfl (by omega) (by omega) ?_
          simp only [upX_1, setS_setS, setS_1]
          refine x_1 (p' := 74) hC rfl rfl rfl rfl ?_
          refine x_1 (p' := 75) hC rfl rfl rfl rfl ?_
          refine y_gR (p' := 76) (n := 1) hO hC rfl rfl rfl rfl ?_
          refine x_1 (p' := 77) hC rfl rfl rfl rfl ?_
          refine y_ld (p' := 78) (L := 15568) hO hC rfl rfl rfl rfl (by omega) (by omega) ?_
          rw [setS_1, ups_eq rfl]
          refine x_1 (p' := 79) hC rfl rfl rfl rfl ?_
          refine x_sub (p' := 80) hC rfl rfl rfl (⟨by omega, by omega⟩) ?_
          refine x_cIV1 (p' := 81) (n := 11) hC rfl rfl rfl rfl rfl (hO.ty) ?_
          refine sp_m_acted hO (by rw [setS_ne (by decide), eQ]; exact hq) (fun hv => by exfalso; omega) (fun hv => ?_)
          refine x_iret hC rfl rfl rfl ⟨_, rfl, ?_⟩
          rw [show X 1 1 + 1 - 1 = X 1 1 by omega]
          exact K4 (by unfold okNew; omega) c17 (by omega)
        · refine x_ldc (p' := 27) (v := (-1000003)) hC rfl rfl (by decide) ?_
          refine x_iret hC rfl rfl rfl ⟨_, rfl, ?_⟩
          exact K3 (by unfold okNew; omega) c17 (by omega)
      · have c17 := b2i_0.mp c17
        refine x_ldc (p' := 19) (v := (-1000002)) hC rfl rfl (by decide) ?_
        refine x_iret hC rfl rfl rfl ⟨_, rfl, ?_⟩
        exact K2 (by unfold okNew; omega) c17
    · have c8 := b2i_0.mp c8
      refine x_ldc (p' := 10) (v := (-1000001)) hC rfl rfl (by decide) ?_
      refine x_iret hC rfl rfl rfl ⟨_, rfl, ?_⟩
      exact K1 (by unfold okNew; omega)
def sMax (w : Int) : Int := if w = 0 then 40 else if w = 1 then 1 else if w = 2 then 2 else 20
def okSet (s : Int → Int) (g w v : Int) : Prop := isH s g ∧ (0 ≤ w ∧ w ≤ 4) ∧ (if w = 4 then 1 else 0) ≤ v ∧ v ≤ sMax w
set_option maxRecDepth 20000 in
set_option maxHeartbeats 2000000 in
theorem sp_m_set {d : Nat} {m : Nat} {h : HP} (hO : RO m h) {X : Nat → Int → Int} (hs : RI (X 1)) (hf : RF (X 1)) (hq : 0 ≤ X 0 4 ∧ X 0 4 ≤ 4) {g w v : Int} (hold : isH (X 1) g → 0 ≤ w ∧ w ≤ 4 → 0 ≤ rOf (X 1) g w) {Q : Int → HP → Prop} (K1 : ¬ okSet (X 1) g w v → Q (-1000001) (wX m h X)) (K2 : okSet (X 1) g w v → w = 4 → ¬ rCanN (X 1) g v 15 → Q (-1000002) (wX m h X)) (K3 : okSet (X 1) g w v → (w = 4 → rCanN (X 1) g v 15) → Q (rOf (X 1) g w) (wX m h (acX (setS (cpX X 3 15568 (X 1)) (ups (X 1) (8 + 10 * g + w) v))))) : CaI (d + 5) 26 [.inr (some m), .inl g, .inl w, .inl v] (wX m h X) Q := by
  have hC : cod 26 = c_m_set := rfl
  refine CaI.start rfl ?_
  have h0 := hs.1
  refine x_1 (p' := 1) hC rfl rfl rfl rfl ?_
  refine x_ifne (p' := 2) hC rfl rfl (fun c1 => ?_) (fun c1 => ?_)
  · refine x_1 (p' := 5) hC rfl rfl rfl rfl ?_
    refine x_1 (p' := 6) hC rfl rfl rfl rfl ?_
    refine x_icne (p' := 7) hC rfl rfl (fun c6 => ?_) (fun c6 => ?_)
    · refine x_1 (p' := 10) hC rfl rfl rfl rfl ?_
      refine x_1 (p' := 11) hC rfl rfl rfl rfl ?_
      refine x_icne (p' := 12) hC rfl rfl (fun c11 => ?_) (fun c11 => ?_)
      · refine x_1 (p' := 15) hC rfl rfl rfl rfl ?_
        refine x_stI4 (p' := 16) hC rfl rfl rfl ?_
        refine x_1 (p' := 17) hC rfl rfl rfl rfl ?_
        refine x_1 (p' := 18) hC rfl rfl rfl rfl ?_
        refine x_cIV1 (p' := 19) (n := 7) hC rfl rfl rfl rfl rfl (hO.ty) ?_
        refine sp_m_isHub hO (by have := hs.1; omega) ?_
        refine x_ifeq (p' := 20) hC rfl rfl (fun c19 => ?_) (fun c19 => ?_)
        · have c19 := b2i_0.mp c19
          refine x_ldc (p' := 36) (v := (-1000001)) hC rfl rfl (by decide) ?_
          refine x_iret hC rfl rfl rfl ⟨_, rfl, ?_⟩
          exact K1 (by unfold okSet sMax; omega)
        · have c19 := b2i_n0.mp c19
          refine x_1 (p' := 21) hC rfl rfl rfl rfl ?_
          refine x_1 (p' := 22) hC rfl rfl rfl rfl ?_
          refine x_1 (p' := 23) hC rfl rfl rfl rfl ?_
          refine x_cIS3 (p' := 24) (n := 2) hC rfl rfl rfl rfl rfl ?_
          refine sp_m_in ?_
          refine x_ifeq (p' := 25) hC rfl rfl (fun c24 => ?_) (fun c24 => ?_)
          · have c24 := b2i_0.mp c24
            refine x_ldc (p' := 36) (v := (-1000001)) hC rfl rfl (by decide) ?_
            refine x_iret hC rfl rfl rfl ⟨_, rfl, ?_⟩
            exact K1 (by unfold okSet sMax; omega)
          · have c24 := b2i_n0.mp c24
            refine x_1 (p' := 26) hC rfl rfl rfl rfl ?_
            refine x_1 (p' := 27) hC rfl rfl rfl rfl ?_
            refine x_1 (p' := 28) hC rfl rfl rfl rfl ?_
            refine x_icne (p' := 29) hC rfl rfl (fun c28 => ?_) (fun c28 => ?_)
            · refine x_1 (p' := 32) hC rfl rfl rfl rfl ?_
              refine x_1 (p' := 33) hC rfl rfl rfl rfl ?_
              refine x_cIS3 (p' := 34) (n := 2) hC rfl rfl rfl rfl rfl ?_
              refine sp_m_in ?_
              refine x_ifne (p' := 35) hC rfl rfl (fun c34 => ?_) (fun c34 => ?_)
              · have c34 := b2i_n0.mp c34
                refine x_1 (p' := 38) hC rfl rfl rfl rfl ?_
                refine x_1 (p' := 39) hC rfl rfl rfl rfl ?_
                refine x_icne (p' := 40) hC rfl rfl (fun c39 => ?_) (fun c39 => ?_)
                · refine x_1 (p' := 48) hC rfl rfl rfl rfl ?_
                  refine x_cVV0 (p' := 49) (n := 10) hC rfl rfl rfl rfl rfl (hO.ty) ?_
                  refine sp_m_keeps hO ?_
                  have eK : cpX X 3 15568 (X 1) 1 = X 1 := cpX_ne (by decide)
                  have eQ : cpX X 3 15568 (X 1) 0 = X 0 := cpX_ne (by decide)
                  refine x_1 (p' := 50) hC rfl rfl rfl rfl ?_
                  refine x_1 (p' := 51) hC rfl rfl rfl rfl ?_
                  refine x_1 (p' := 52) hC rfl rfl rfl rfl ?_
                  refine x_cIV2 (p' := 53) (n := 3) hC rfl rfl rfl rfl rfl (hO.ty) ?_
                  have hol := hold (by omega) (by omega)
                  refine sp_m_of hO (by omega) (by omega) ?_
                  rw [eK]
                  refine x_stI5 (p' := 54) hC rfl rfl rfl ?_
                  refine x_1 (p' := 55) hC rfl rfl rfl rfl ?_
                  refine y_gR (p' := 56) (n := 1) hO hC rfl rfl rfl rfl ?_
                  refine x_1 (p' := 57) hC rfl rfl rfl rfl ?_
                  refine x_1 (p' := 58) hC rfl rfl rfl rfl ?_
                  refine x_1 (p' := 59) hC rfl rfl rfl rfl ?_
                  refine x_mul (p' := 60) hC rfl rfl rfl (⟨by omega, by omega⟩) ?_
                  refine x_add (p' := 61) hC rfl rfl rfl (⟨by omega, by omega⟩) ?_
                  refine x_1 (p' := 62) hC rfl rfl rfl rfl ?_
                  refine x_add (p' := 63) hC rfl rfl rfl (⟨by omega, by omega⟩) ?_
                  refine x_1 (p' := 64) hC rfl rfl rfl rfl ?_
                  refine y_st (p' := 65) (L := 15568) hO hC rfl rfl rfl rfl (by omega) (by omega) ?_
                  simp only [upX_1, setS_setS, setS_1]
                  rw [eK]
                  refine x_1 (p' := 66) hC rfl rfl rfl rfl ?_
                  refine x_1 (p' := 67) hC rfl rfl rfl rfl ?_
                  refine x_cIV1 (p' := 68) (n := 11) hC rfl rfl rfl rfl rfl (hO.ty) ?_
                  refine sp_m_acted hO (by rw [setS_ne (by decide), eQ]; exact hq) (fun hv => by exfalso; omega) (fun hv => ?_)
                  refine x_iret hC rfl rfl rfl ⟨_, rfl, ?_⟩
                  exact K3 (by unfold okSet sMax; omega) (fun q => by first | exact c44 | (exfalso; omega))
                · refine x_1 (p' := 41) hC rfl rfl rfl rfl ?_
                  refine x_1 (p' := 42) hC rfl rfl rfl rfl ?_
                  refine x_1 (p' := 43) hC rfl rfl rfl rfl ?_
                  refine x_cIV2 (p' := 44) (n := 25) hC rfl rfl rfl rfl rfl (hO.ty) ?_
                  refine sp_m_canHave hO hs hf (by omega) (by omega) ?_
                  refine x_ifne (p' := 45) hC rfl rfl (fun c44 => ?_) (fun c44 => ?_)
                  · have c44 := b2i_n0.mp c44
                    refine x_1 (p' := 48) hC rfl rfl rfl rfl ?_
                    refine x_cVV0 (p' := 49) (n := 10) hC rfl rfl rfl rfl rfl (hO.ty) ?_
                    refine sp_m_keeps hO ?_
                    have eK : cpX X 3 15568 (X 1) 1 = X 1 := cpX_ne (by decide)
                    have eQ : cpX X 3 15568 (X 1) 0 = X 0 := cpX_ne (by decide)
                    refine x_1 (p' := 50) hC rfl rfl rfl rfl ?_
                    refine x_1 (p' := 51) hC rfl rfl rfl rfl ?_
                    refine x_1 (p' := 52) hC rfl rfl rfl rfl ?_
                    refine x_cIV2 (p' := 53) (n := 3) hC rfl rfl rfl rfl rfl (hO.ty) ?_
                    have hol := hold (by omega) (by omega)
                    refine sp_m_of hO (by omega) (by omega) ?_
                    rw [eK]
                    refine x_stI5 (p' := 54) hC rfl rfl rfl ?_
                    refine x_1 (p' := 55) hC rfl rfl rfl rfl ?_
                    refine y_gR (p' := 56) (n := 1) hO hC rfl rfl rfl rfl ?_
                    refine x_1 (p' := 57) hC rfl rfl rfl rfl ?_
                    refine x_1 (p' := 58) hC rfl rfl rfl rfl ?_
                    refine x_1 (p' := 59) hC rfl rfl rfl rfl ?_
                    refine x_mul (p' := 60) hC rfl rfl rfl (⟨by omega, by omega⟩) ?_
                    refine x_add (p' := 61) hC rfl rfl rfl (⟨by omega, by omega⟩) ?_
                    refine x_1 (p' := 62) hC rfl rfl rfl rfl ?_
                    refine x_add (p' := 63) hC rfl rfl rfl (⟨by omega, by omega⟩) ?_
                    refine x_1 (p' := 64) hC rfl rfl rfl rfl ?_
                    refine y_st (p' := 65) (L := 15568) hO hC rfl rfl rfl rfl (by omega) (by omega) ?_
                    simp only [upX_1, setS_setS, setS_1]
                    rw [eK]
                    refine x_1 (p' := 66) hC rfl rfl rfl rfl ?_
                    refine x_1 (p' := 67) hC rfl rfl rfl rfl ?_
                    refine x_cIV1 (p' := 68) (n := 11) hC rfl rfl rfl rfl rfl (hO.ty) ?_
                    refine sp_m_acted hO (by rw [setS_ne (by decide), eQ]; exact hq) (fun hv => by exfalso; omega) (fun hv => ?_)
                    refine x_iret hC rfl rfl rfl ⟨_, rfl, ?_⟩
                    exact K3 (by unfold okSet sMax; omega) (fun q => by first | exact c44 | (exfalso; omega))
                  · have c44 := b2i_0.mp c44
                    refine x_ldc (p' := 46) (v := (-1000002)) hC rfl rfl (by decide) ?_
                    refine x_iret hC rfl rfl rfl ⟨_, rfl, ?_⟩
                    exact K2 (by unfold okSet sMax; omega) (by omega) c44
              · have c34 := b2i_0.mp c34
                refine x_ldc (p' := 36) (v := (-1000001)) hC rfl rfl (by decide) ?_
                refine x_iret hC rfl rfl rfl ⟨_, rfl, ?_⟩
                exact K1 (by unfold okSet sMax; omega)
            · refine x_1 (p' := 30) hC rfl rfl rfl rfl ?_
              refine x_1 (p' := 32) hC rfl rfl rfl rfl ?_
              refine x_1 (p' := 33) hC rfl rfl rfl rfl ?_
              refine x_cIS3 (p' := 34) (n := 2) hC rfl rfl rfl rfl rfl ?_
              refine sp_m_in ?_
              refine x_ifne (p' := 35) hC rfl rfl (fun c34 => ?_) (fun c34 => ?_)
              · have c34 := b2i_n0.mp c34
                refine x_1 (p' := 38) hC rfl rfl rfl rfl ?_
                refine x_1 (p' := 39) hC rfl rfl rfl rfl ?_
                refine x_icne (p' := 40) hC rfl rfl (fun c39 => ?_) (fun c39 => ?_)
                · refine x_1 (p' := 48) hC rfl rfl rfl rfl ?_
                  refine x_cVV0 (p' := 49) (n := 10) hC rfl rfl rfl rfl rfl (hO.ty) ?_
                  refine sp_m_keeps hO ?_
                  have eK : cpX X 3 15568 (X 1) 1 = X 1 := cpX_ne (by decide)
                  have eQ : cpX X 3 15568 (X 1) 0 = X 0 := cpX_ne (by decide)
                  refine x_1 (p' := 50) hC rfl rfl rfl rfl ?_
                  refine x_1 (p' := 51) hC rfl rfl rfl rfl ?_
                  refine x_1 (p' := 52) hC rfl rfl rfl rfl ?_
                  refine x_cIV2 (p' := 53) (n := 3) hC rfl rfl rfl rfl rfl (hO.ty) ?_
                  have hol := hold (by omega) (by omega)
                  refine sp_m_of hO (by omega) (by omega) ?_
                  rw [eK]
                  refine x_stI5 (p' := 54) hC rfl rfl rfl ?_
                  refine x_1 (p' := 55) hC rfl rfl rfl rfl ?_
                  refine y_gR (p' := 56) (n := 1) hO hC rfl rfl rfl rfl ?_
                  refine x_1 (p' := 57) hC rfl rfl rfl rfl ?_
                  refine x_1 (p' := 58) hC rfl rfl rfl rfl ?_
                  refine x_1 (p' := 59) hC rfl rfl rfl rfl ?_
                  refine x_mul (p' := 60) hC rfl rfl rfl (⟨by omega, by omega⟩) ?_
                  refine x_add (p' := 61) hC rfl rfl rfl (⟨by omega, by omega⟩) ?_
                  refine x_1 (p' := 62) hC rfl rfl rfl rfl ?_
                  refine x_add (p' := 63) hC rfl rfl rfl (⟨by omega, by omega⟩) ?_
                  refine x_1 (p' := 64) hC rfl rfl rfl rfl ?_
                  refine y_st (p' := 65) (L := 15568) hO hC rfl rfl rfl rfl (by omega) (by omega) ?_
                  simp only [upX_1, setS_setS, setS_1]
                  rw [eK]
                  refine x_1 (p' := 66) hC rfl rfl rfl rfl ?_
                  refine x_1 (p' := 67) hC rfl rfl rfl rfl ?_
                  refine x_cIV1 (p' := 68) (n := 11) hC rfl rfl rfl rfl rfl (hO.ty) ?_
                  refine sp_m_acted hO (by rw [setS_ne (by decide), eQ]; exact hq) (fun hv => by exfalso; omega) (fun hv => ?_)
                  refine x_iret hC rfl rfl rfl ⟨_, rfl, ?_⟩
                  exact K3 (by unfold okSet sMax; omega) (fun q => by first | exact c44 | (exfalso; omega))
                · refine x_1 (p' := 41) hC rfl rfl rfl rfl ?_
                  refine x_1 (p' := 42) hC rfl rfl rfl rfl ?_
                  refine x_1 (p' := 43) hC rfl rfl rfl rfl ?_
                  refine x_cIV2 (p' := 44) (n := 25) hC rfl rfl rfl rfl rfl (hO.ty) ?_
                  refine sp_m_canHave hO hs hf (by omega) (by omega) ?_
                  refine x_ifne (p' := 45) hC rfl rfl (fun c44 => ?_) (fun c44 => ?_)
                  · have c44 := b2i_n0.mp c44
                    refine x_1 (p' := 48) hC rfl rfl rfl rfl ?_
                    refine x_cVV0 (p' := 49) (n := 10) hC rfl rfl rfl rfl rfl (hO.ty) ?_
                    refine sp_m_keeps hO ?_
                    have eK : cpX X 3 15568 (X 1) 1 = X 1 := cpX_ne (by decide)
                    have eQ : cpX X 3 15568 (X 1) 0 = X 0 := cpX_ne (by decide)
                    refine x_1 (p' := 50) hC rfl rfl rfl rfl ?_
                    refine x_1 (p' := 51) hC rfl rfl rfl rfl ?_
                    refine x_1 (p' := 52) hC rfl rfl rfl rfl ?_
                    refine x_cIV2 (p' := 53) (n := 3) hC rfl rfl rfl rfl rfl (hO.ty) ?_
                    have hol := hold (by omega) (by omega)
                    refine sp_m_of hO (by omega) (by omega) ?_
                    rw [eK]
                    refine x_stI5 (p' := 54) hC rfl rfl rfl ?_
                    refine x_1 (p' := 55) hC rfl rfl rfl rfl ?_
                    refine y_gR (p' := 56) (n := 1) hO hC rfl rfl rfl rfl ?_
                    refine x_1 (p' := 57) hC rfl rfl rfl rfl ?_
                    refine x_1 (p' := 58) hC rfl rfl rfl rfl ?_
                    refine x_1 (p' := 59) hC rfl rfl rfl rfl ?_
                    refine x_mul (p' := 60) hC rfl rfl rfl (⟨by omega, by omega⟩) ?_
                    refine x_add (p' := 61) hC rfl rfl rfl (⟨by omega, by omega⟩) ?_
                    refine x_1 (p' := 62) hC rfl rfl rfl rfl ?_
                    refine x_add (p' := 63) hC rfl rfl rfl (⟨by omega, by omega⟩) ?_
                    refine x_1 (p' := 64) hC rfl rfl rfl rfl ?_
                    refine y_st (p' := 65) (L := 15568) hO hC rfl rfl rfl rfl (by omega) (by omega) ?_
                    simp only [upX_1, setS_setS, setS_1]
                    rw [eK]
                    refine x_1 (p' := 66) hC rfl rfl rfl rfl ?_
                    refine x_1 (p' := 67) hC rfl rfl rfl rfl ?_
                    refine x_cIV1 (p' := 68) (n := 11) hC rfl rfl rfl rfl rfl (hO.ty) ?_
                    refine sp_m_acted hO (by rw [setS_ne (by decide), eQ]; exact hq) (fun hv => by exfalso; omega) (fun hv => ?_)
                    refine x_iret hC rfl rfl rfl ⟨_, rfl, ?_⟩
                    exact K3 (by unfold okSet sMax; omega) (fun q => by first | exact c44 | (exfalso; omega))
                  · have c44 := b2i_0.mp c44
                    refine x_ldc (p' := 46) (v := (-1000002)) hC rfl rfl (by decide) ?_
                    refine x_iret hC rfl rfl rfl ⟨_, rfl, ?_⟩
                    exact K2 (by unfold okSet sMax; omega) (by omega) c44
              · have c34 := b2i_0.mp c34
                refine x_ldc (p' := 36) (v := (-1000001)) hC rfl rfl (by decide) ?_
                refine x_iret hC rfl rfl rfl ⟨_, rfl, ?_⟩
                exact K1 (by unfold okSet sMax; omega)
      · refine x_1 (p' := 13) hC rfl rfl rfl rfl ?_
        refine x_1 (p' := 15) hC rfl rfl rfl rfl ?_
        refine x_stI4 (p' := 16) hC rfl rfl rfl ?_
        refine x_1 (p' := 17) hC rfl rfl rfl rfl ?_
        refine x_1 (p' := 18) hC rfl rfl rfl rfl ?_
        refine x_cIV1 (p' := 19) (n := 7) hC rfl rfl rfl rfl rfl (hO.ty) ?_
        refine sp_m_isHub hO (by have := hs.1; omega) ?_
        refine x_ifeq (p' := 20) hC rfl rfl (fun c19 => ?_) (fun c19 => ?_)
        · have c19 := b2i_0.mp c19
          refine x_ldc (p' := 36) (v := (-1000001)) hC rfl rfl (by decide) ?_
          refine x_iret hC rfl rfl rfl ⟨_, rfl, ?_⟩
          exact K1 (by unfold okSet sMax; omega)
        · have c19 := b2i_n0.mp c19
          refine x_1 (p' := 21) hC rfl rfl rfl rfl ?_
          refine x_1 (p' := 22) hC rfl rfl rfl rfl ?_
          refine x_1 (p' := 23) hC rfl rfl rfl rfl ?_
          refine x_cIS3 (p' := 24) (n := 2) hC rfl rfl rfl rfl rfl ?_
          refine sp_m_in ?_
          refine x_ifeq (p' := 25) hC rfl rfl (fun c24 => ?_) (fun c24 => ?_)
          · have c24 := b2i_0.mp c24
            refine x_ldc (p' := 36) (v := (-1000001)) hC rfl rfl (by decide) ?_
            refine x_iret hC rfl rfl rfl ⟨_, rfl, ?_⟩
            exact K1 (by unfold okSet sMax; omega)
          · have c24 := b2i_n0.mp c24
            refine x_1 (p' := 26) hC rfl rfl rfl rfl ?_
            refine x_1 (p' := 27) hC rfl rfl rfl rfl ?_
            refine x_1 (p' := 28) hC rfl rfl rfl rfl ?_
            refine x_icne (p' := 29) hC rfl rfl (fun c28 => ?_) (fun c28 => ?_)
            · refine x_1 (p' := 32) hC rfl rfl rfl rfl ?_
              refine x_1 (p' := 33) hC rfl rfl rfl rfl ?_
              refine x_cIS3 (p' := 34) (n := 2) hC rfl rfl rfl rfl rfl ?_
              refine sp_m_in ?_
              refine x_ifne (p' := 35) hC rfl rfl (fun c34 => ?_) (fun c34 => ?_)
              · have c34 := b2i_n0.mp c34
                refine x_1 (p' := 38) hC rfl rfl rfl rfl ?_
                refine x_1 (p' := 39) hC rfl rfl rfl rfl ?_
                refine x_icne (p' := 40) hC rfl rfl (fun c39 => ?_) (fun c39 => ?_)
                · refine x_1 (p' := 48) hC rfl rfl rfl rfl ?_
                  refine x_cVV0 (p' := 49) (n := 10) hC rfl rfl rfl rfl rfl (hO.ty) ?_
                  refine sp_m_keeps hO ?_
                  have eK : cpX X 3 15568 (X 1) 1 = X 1 := cpX_ne (by decide)
                  have eQ : cpX X 3 15568 (X 1) 0 = X 0 := cpX_ne (by decide)
                  refine x_1 (p' := 50) hC rfl rfl rfl rfl ?_
                  refine x_1 (p' := 51) hC rfl rfl rfl rfl ?_
                  refine x_1 (p' := 52) hC rfl rfl rfl rfl ?_
                  refine x_cIV2 (p' := 53) (n := 3) hC rfl rfl rfl rfl rfl (hO.ty) ?_
                  have hol := hold (by omega) (by omega)
                  refine sp_m_of hO (by omega) (by omega) ?_
                  rw [eK]
                  refine x_stI5 (p' := 54) hC rfl rfl rfl ?_
                  refine x_1 (p' := 55) hC rfl rfl rfl rfl ?_
                  refine y_gR (p' := 56) (n := 1) hO hC rfl rfl rfl rfl ?_
                  refine x_1 (p' := 57) hC rfl rfl rfl rfl ?_
                  refine x_1 (p' := 58) hC rfl rfl rfl rfl ?_
                  refine x_1 (p' := 59) hC rfl rfl rfl rfl ?_
                  refine x_mul (p' := 60) hC rfl rfl rfl (⟨by omega, by omega⟩) ?_
                  refine x_add (p' := 61) hC rfl rfl rfl (⟨by omega, by omega⟩) ?_
                  refine x_1 (p' := 62) hC rfl rfl rfl rfl ?_
                  refine x_add (p' := 63) hC rfl rfl rfl (⟨by omega, by omega⟩) ?_
                  refine x_1 (p' := 64) hC rfl rfl rfl rfl ?_
                  refine y_st (p' := 65) (L := 15568) hO hC rfl rfl rfl rfl (by omega) (by omega) ?_
                  simp only [upX_1, setS_setS, setS_1]
                  rw [eK]
                  refine x_1 (p' := 66) hC rfl rfl rfl rfl ?_
                  refine x_1 (p' := 67) hC rfl rfl rfl rfl ?_
                  refine x_cIV1 (p' := 68) (n := 11) hC rfl rfl rfl rfl rfl (hO.ty) ?_
                  refine sp_m_acted hO (by rw [setS_ne (by decide), eQ]; exact hq) (fun hv => by exfalso; omega) (fun hv => ?_)
                  refine x_iret hC rfl rfl rfl ⟨_, rfl, ?_⟩
                  exact K3 (by unfold okSet sMax; omega) (fun q => by first | exact c44 | (exfalso; omega))
                · refine x_1 (p' := 41) hC rfl rfl rfl rfl ?_
                  refine x_1 (p' := 42) hC rfl rfl rfl rfl ?_
                  refine x_1 (p' := 43) hC rfl rfl rfl rfl ?_
                  refine x_cIV2 (p' := 44) (n := 25) hC rfl rfl rfl rfl rfl (hO.ty) ?_
                  refine sp_m_canHave hO hs hf (by omega) (by omega) ?_
                  refine x_ifne (p' := 45) hC rfl rfl (fun c44 => ?_) (fun c44 => ?_)
                  · have c44 := b2i_n0.mp c44
                    refine x_1 (p' := 48) hC rfl rfl rfl rfl ?_
                    refine x_cVV0 (p' := 49) (n := 10) hC rfl rfl rfl rfl rfl (hO.ty) ?_
                    refine sp_m_keeps hO ?_
                    have eK : cpX X 3 15568 (X 1) 1 = X 1 := cpX_ne (by decide)
                    have eQ : cpX X 3 15568 (X 1) 0 = X 0 := cpX_ne (by decide)
                    refine x_1 (p' := 50) hC rfl rfl rfl rfl ?_
                    refine x_1 (p' := 51) hC rfl rfl rfl rfl ?_
                    refine x_1 (p' := 52) hC rfl rfl rfl rfl ?_
                    refine x_cIV2 (p' := 53) (n := 3) hC rfl rfl rfl rfl rfl (hO.ty) ?_
                    have hol := hold (by omega) (by omega)
                    refine sp_m_of hO (by omega) (by omega) ?_
                    rw [eK]
                    refine x_stI5 (p' := 54) hC rfl rfl rfl ?_
                    refine x_1 (p' := 55) hC rfl rfl rfl rfl ?_
                    refine y_gR (p' := 56) (n := 1) hO hC rfl rfl rfl rfl ?_
                    refine x_1 (p' := 57) hC rfl rfl rfl rfl ?_
                    refine x_1 (p' := 58) hC rfl rfl rfl rfl ?_
                    refine x_1 (p' := 59) hC rfl rfl rfl rfl ?_
                    refine x_mul (p' := 60) hC rfl rfl rfl (⟨by omega, by omega⟩) ?_
                    refine x_add (p' := 61) hC rfl rfl rfl (⟨by omega, by omega⟩) ?_
                    refine x_1 (p' := 62) hC rfl rfl rfl rfl ?_
                    refine x_add (p' := 63) hC rfl rfl rfl (⟨by omega, by omega⟩) ?_
                    refine x_1 (p' := 64) hC rfl rfl rfl rfl ?_
                    refine y_st (p' := 65) (L := 15568) hO hC rfl rfl rfl rfl (by omega) (by omega) ?_
                    simp only [upX_1, setS_setS, setS_1]
                    rw [eK]
                    refine x_1 (p' := 66) hC rfl rfl rfl rfl ?_
                    refine x_1 (p' := 67) hC rfl rfl rfl rfl ?_
                    refine x_cIV1 (p' := 68) (n := 11) hC rfl rfl rfl rfl rfl (hO.ty) ?_
                    refine sp_m_acted hO (by rw [setS_ne (by decide), eQ]; exact hq) (fun hv => by exfalso; omega) (fun hv => ?_)
                    refine x_iret hC rfl rfl rfl ⟨_, rfl, ?_⟩
                    exact K3 (by unfold okSet sMax; omega) (fun q => by first | exact c44 | (exfalso; omega))
                  · have c44 := b2i_0.mp c44
                    refine x_ldc (p' := 46) (v := (-1000002)) hC rfl rfl (by decide) ?_
                    refine x_iret hC rfl rfl rfl ⟨_, rfl, ?_⟩
                    exact K2 (by unfold okSet sMax; omega) (by omega) c44
              · have c34 := b2i_0.mp c34
                refine x_ldc (p' := 36) (v := (-1000001)) hC rfl rfl (by decide) ?_
                refine x_iret hC rfl rfl rfl ⟨_, rfl, ?_⟩
                exact K1 (by unfold okSet sMax; omega)
            · refine x_1 (p' := 30) hC rfl rfl rfl rfl ?_
              refine x_1 (p' := 32) hC rfl rfl rfl rfl ?_
              refine x_1 (p' := 33) hC rfl rfl rfl rfl ?_
              refine x_cIS3 (p' := 34) (n := 2) hC rfl rfl rfl rfl rfl ?_
              refine sp_m_in ?_
              refine x_ifne (p' := 35) hC rfl rfl (fun c34 => ?_) (fun c34 => ?_)
              · have c34 := b2i_n0.mp c34
                refine x_1 (p' := 38) hC rfl rfl rfl rfl ?_
                refine x_1 (p' := 39) hC rfl rfl rfl rfl ?_
                refine x_icne (p' := 40) hC rfl rfl (fun c39 => ?_) (fun c39 => ?_)
                · refine x_1 (p' := 48) hC rfl rfl rfl rfl ?_
                  refine x_cVV0 (p' := 49) (n := 10) hC rfl rfl rfl rfl rfl (hO.ty) ?_
                  refine sp_m_keeps hO ?_
                  have eK : cpX X 3 15568 (X 1) 1 = X 1 := cpX_ne (by decide)
                  have eQ : cpX X 3 15568 (X 1) 0 = X 0 := cpX_ne (by decide)
                  refine x_1 (p' := 50) hC rfl rfl rfl rfl ?_
                  refine x_1 (p' := 51) hC rfl rfl rfl rfl ?_
                  refine x_1 (p' := 52) hC rfl rfl rfl rfl ?_
                  refine x_cIV2 (p' := 53) (n := 3) hC rfl rfl rfl rfl rfl (hO.ty) ?_
                  have hol := hold (by omega) (by omega)
                  refine sp_m_of hO (by omega) (by omega) ?_
                  rw [eK]
                  refine x_stI5 (p' := 54) hC rfl rfl rfl ?_
                  refine x_1 (p' := 55) hC rfl rfl rfl rfl ?_
                  refine y_gR (p' := 56) (n := 1) hO hC rfl rfl rfl rfl ?_
                  refine x_1 (p' := 57) hC rfl rfl rfl rfl ?_
                  refine x_1 (p' := 58) hC rfl rfl rfl rfl ?_
                  refine x_1 (p' := 59) hC rfl rfl rfl rfl ?_
                  refine x_mul (p' := 60) hC rfl rfl rfl (⟨by omega, by omega⟩) ?_
                  refine x_add (p' := 61) hC rfl rfl rfl (⟨by omega, by omega⟩) ?_
                  refine x_1 (p' := 62) hC rfl rfl rfl rfl ?_
                  refine x_add (p' := 63) hC rfl rfl rfl (⟨by omega, by omega⟩) ?_
                  refine x_1 (p' := 64) hC rfl rfl rfl rfl ?_
                  refine y_st (p' := 65) (L := 15568) hO hC rfl rfl rfl rfl (by omega) (by omega) ?_
                  simp only [upX_1, setS_setS, setS_1]
                  rw [eK]
                  refine x_1 (p' := 66) hC rfl rfl rfl rfl ?_
                  refine x_1 (p' := 67) hC rfl rfl rfl rfl ?_
                  refine x_cIV1 (p' := 68) (n := 11) hC rfl rfl rfl rfl rfl (hO.ty) ?_
                  refine sp_m_acted hO (by rw [setS_ne (by decide), eQ]; exact hq) (fun hv => by exfalso; omega) (fun hv => ?_)
                  refine x_iret hC rfl rfl rfl ⟨_, rfl, ?_⟩
                  exact K3 (by unfold okSet sMax; omega) (fun q => by first | exact c44 | (exfalso; omega))
                · refine x_1 (p' := 41) hC rfl rfl rfl rfl ?_
                  refine x_1 (p' := 42) hC rfl rfl rfl rfl ?_
                  refine x_1 (p' := 43) hC rfl rfl rfl rfl ?_
                  refine x_cIV2 (p' := 44) (n := 25) hC rfl rfl rfl rfl rfl (hO.ty) ?_
                  refine sp_m_canHave hO hs hf (by omega) (by omega) ?_
                  refine x_ifne (p' := 45) hC rfl rfl (fun c44 => ?_) (fun c44 => ?_)
                  · have c44 := b2i_n0.mp c44
                    refine x_1 (p' := 48) hC rfl rfl rfl rfl ?_
                    refine x_cVV0 (p' := 49) (n := 10) hC rfl rfl rfl rfl rfl (hO.ty) ?_
                    refine sp_m_keeps hO ?_
                    have eK : cpX X 3 15568 (X 1) 1 = X 1 := cpX_ne (by decide)
                    have eQ : cpX X 3 15568 (X 1) 0 = X 0 := cpX_ne (by decide)
                    refine x_1 (p' := 50) hC rfl rfl rfl rfl ?_
                    refine x_1 (p' := 51) hC rfl rfl rfl rfl ?_
                    refine x_1 (p' := 52) hC rfl rfl rfl rfl ?_
                    refine x_cIV2 (p' := 53) (n := 3) hC rfl rfl rfl rfl rfl (hO.ty) ?_
                    have hol := hold (by omega) (by omega)
                    refine sp_m_of hO (by omega) (by omega) ?_
                    rw [eK]
                    refine x_stI5 (p' := 54) hC rfl rfl rfl ?_
                    refine x_1 (p' := 55) hC rfl rfl rfl rfl ?_
                    refine y_gR (p' := 56) (n := 1) hO hC rfl rfl rfl rfl ?_
                    refine x_1 (p' := 57) hC rfl rfl rfl rfl ?_
                    refine x_1 (p' := 58) hC rfl rfl rfl rfl ?_
                    refine x_1 (p' := 59) hC rfl rfl rfl rfl ?_
                    refine x_mul (p' := 60) hC rfl rfl rfl (⟨by omega, by omega⟩) ?_
                    refine x_add (p' := 61) hC rfl rfl rfl (⟨by omega, by omega⟩) ?_
                    refine x_1 (p' := 62) hC rfl rfl rfl rfl ?_
                    refine x_add (p' := 63) hC rfl rfl rfl (⟨by omega, by omega⟩) ?_
                    refine x_1 (p' := 64) hC rfl rfl rfl rfl ?_
                    refine y_st (p' := 65) (L := 15568) hO hC rfl rfl rfl rfl (by omega) (by omega) ?_
                    simp only [upX_1, setS_setS, setS_1]
                    rw [eK]
                    refine x_1 (p' := 66) hC rfl rfl rfl rfl ?_
                    refine x_1 (p' := 67) hC rfl rfl rfl rfl ?_
                    refine x_cIV1 (p' := 68) (n := 11) hC rfl rfl rfl rfl rfl (hO.ty) ?_
                    refine sp_m_acted hO (by rw [setS_ne (by decide), eQ]; exact hq) (fun hv => by exfalso; omega) (fun hv => ?_)
                    refine x_iret hC rfl rfl rfl ⟨_, rfl, ?_⟩
                    exact K3 (by unfold okSet sMax; omega) (fun q => by first | exact c44 | (exfalso; omega))
                  · have c44 := b2i_0.mp c44
                    refine x_ldc (p' := 46) (v := (-1000002)) hC rfl rfl (by decide) ?_
                    refine x_iret hC rfl rfl rfl ⟨_, rfl, ?_⟩
                    exact K2 (by unfold okSet sMax; omega) (by omega) c44
              · have c34 := b2i_0.mp c34
                refine x_ldc (p' := 36) (v := (-1000001)) hC rfl rfl (by decide) ?_
                refine x_iret hC rfl rfl rfl ⟨_, rfl, ?_⟩
                exact K1 (by unfold okSet sMax; omega)
    · refine x_1 (p' := 8) hC rfl rfl rfl rfl ?_
      refine x_1 (p' := 15) hC rfl rfl rfl rfl ?_
      refine x_stI4 (p' := 16) hC rfl rfl rfl ?_
      refine x_1 (p' := 17) hC rfl rfl rfl rfl ?_
      refine x_1 (p' := 18) hC rfl rfl rfl rfl ?_
      refine x_cIV1 (p' := 19) (n := 7) hC rfl rfl rfl rfl rfl (hO.ty) ?_
      refine sp_m_isHub hO (by have := hs.1; omega) ?_
      refine x_ifeq (p' := 20) hC rfl rfl (fun c19 => ?_) (fun c19 => ?_)
      · have c19 := b2i_0.mp c19
        refine x_ldc (p' := 36) (v := (-1000001)) hC rfl rfl (by decide) ?_
        refine x_iret hC rfl rfl rfl ⟨_, rfl, ?_⟩
        exact K1 (by unfold okSet sMax; omega)
      · have c19 := b2i_n0.mp c19
        refine x_1 (p' := 21) hC rfl rfl rfl rfl ?_
        refine x_1 (p' := 22) hC rfl rfl rfl rfl ?_
        refine x_1 (p' := 23) hC rfl rfl rfl rfl ?_
        refine x_cIS3 (p' := 24) (n := 2) hC rfl rfl rfl rfl rfl ?_
        refine sp_m_in ?_
        refine x_ifeq (p' := 25) hC rfl rfl (fun c24 => ?_) (fun c24 => ?_)
        · have c24 := b2i_0.mp c24
          refine x_ldc (p' := 36) (v := (-1000001)) hC rfl rfl (by decide) ?_
          refine x_iret hC rfl rfl rfl ⟨_, rfl, ?_⟩
          exact K1 (by unfold okSet sMax; omega)
        · have c24 := b2i_n0.mp c24
          refine x_1 (p' := 26) hC rfl rfl rfl rfl ?_
          refine x_1 (p' := 27) hC rfl rfl rfl rfl ?_
          refine x_1 (p' := 28) hC rfl rfl rfl rfl ?_
          refine x_icne (p' := 29) hC rfl rfl (fun c28 => ?_) (fun c28 => ?_)
          · refine x_1 (p' := 32) hC rfl rfl rfl rfl ?_
            refine x_1 (p' := 33) hC rfl rfl rfl rfl ?_
            refine x_cIS3 (p' := 34) (n := 2) hC rfl rfl rfl rfl rfl ?_
            refine sp_m_in ?_
            refine x_ifne (p' := 35) hC rfl rfl (fun c34 => ?_) (fun c34 => ?_)
            · have c34 := b2i_n0.mp c34
              refine x_1 (p' := 38) hC rfl rfl rfl rfl ?_
              refine x_1 (p' := 39) hC rfl rfl rfl rfl ?_
              refine x_icne (p' := 40) hC rfl rfl (fun c39 => ?_) (fun c39 => ?_)
              · refine x_1 (p' := 48) hC rfl rfl rfl rfl ?_
                refine x_cVV0 (p' := 49) (n := 10) hC rfl rfl rfl rfl rfl (hO.ty) ?_
                refine sp_m_keeps hO ?_
                have eK : cpX X 3 15568 (X 1) 1 = X 1 := cpX_ne (by decide)
                have eQ : cpX X 3 15568 (X 1) 0 = X 0 := cpX_ne (by decide)
                refine x_1 (p' := 50) hC rfl rfl rfl rfl ?_
                refine x_1 (p' := 51) hC rfl rfl rfl rfl ?_
                refine x_1 (p' := 52) hC rfl rfl rfl rfl ?_
                refine x_cIV2 (p' := 53) (n := 3) hC rfl rfl rfl rfl rfl (hO.ty) ?_
                have hol := hold (by omega) (by omega)
                refine sp_m_of hO (by omega) (by omega) ?_
                rw [eK]
                refine x_stI5 (p' := 54) hC rfl rfl rfl ?_
                refine x_1 (p' := 55) hC rfl rfl rfl rfl ?_
                refine y_gR (p' := 56) (n := 1) hO hC rfl rfl rfl rfl ?_
                refine x_1 (p' := 57) hC rfl rfl rfl rfl ?_
                refine x_1 (p' := 58) hC rfl rfl rfl rfl ?_
                refine x_1 (p' := 59) hC rfl rfl rfl rfl ?_
                refine x_mul (p' := 60) hC rfl rfl rfl (⟨by omega, by omega⟩) ?_
                refine x_add (p' := 61) hC rfl rfl rfl (⟨by omega, by omega⟩) ?_
                refine x_1 (p' := 62) hC rfl rfl rfl rfl ?_
                refine x_add (p' := 63) hC rfl rfl rfl (⟨by omega, by omega⟩) ?_
                refine x_1 (p' := 64) hC rfl rfl rfl rfl ?_
                refine y_st (p' := 65) (L := 15568) hO hC rfl rfl rfl rfl (by omega) (by omega) ?_
                simp only [upX_1, setS_setS, setS_1]
                rw [eK]
                refine x_1 (p' := 66) hC rfl rfl rfl rfl ?_
                refine x_1 (p' := 67) hC rfl rfl rfl rfl ?_
                refine x_cIV1 (p' := 68) (n := 11) hC rfl rfl rfl rfl rfl (hO.ty) ?_
                refine sp_m_acted hO (by rw [setS_ne (by decide), eQ]; exact hq) (fun hv => by exfalso; omega) (fun hv => ?_)
                refine x_iret hC rfl rfl rfl ⟨_, rfl, ?_⟩
                exact K3 (by unfold okSet sMax; omega) (fun q => by first | exact c44 | (exfalso; omega))
              · refine x_1 (p' := 41) hC rfl rfl rfl rfl ?_
                refine x_1 (p' := 42) hC rfl rfl rfl rfl ?_
                refine x_1 (p' := 43) hC rfl rfl rfl rfl ?_
                refine x_cIV2 (p' := 44) (n := 25) hC rfl rfl rfl rfl rfl (hO.ty) ?_
                refine sp_m_canHave hO hs hf (by omega) (by omega) ?_
                refine x_ifne (p' := 45) hC rfl rfl (fun c44 => ?_) (fun c44 => ?_)
                · have c44 := b2i_n0.mp c44
                  refine x_1 (p' := 48) hC rfl rfl rfl rfl ?_
                  refine x_cVV0 (p' := 49) (n := 10) hC rfl rfl rfl rfl rfl (hO.ty) ?_
                  refine sp_m_keeps hO ?_
                  have eK : cpX X 3 15568 (X 1) 1 = X 1 := cpX_ne (by decide)
                  have eQ : cpX X 3 15568 (X 1) 0 = X 0 := cpX_ne (by decide)
                  refine x_1 (p' := 50) hC rfl rfl rfl rfl ?_
                  refine x_1 (p' := 51) hC rfl rfl rfl rfl ?_
                  refine x_1 (p' := 52) hC rfl rfl rfl rfl ?_
                  refine x_cIV2 (p' := 53) (n := 3) hC rfl rfl rfl rfl rfl (hO.ty) ?_
                  have hol := hold (by omega) (by omega)
                  refine sp_m_of hO (by omega) (by omega) ?_
                  rw [eK]
                  refine x_stI5 (p' := 54) hC rfl rfl rfl ?_
                  refine x_1 (p' := 55) hC rfl rfl rfl rfl ?_
                  refine y_gR (p' := 56) (n := 1) hO hC rfl rfl rfl rfl ?_
                  refine x_1 (p' := 57) hC rfl rfl rfl rfl ?_
                  refine x_1 (p' := 58) hC rfl rfl rfl rfl ?_
                  refine x_1 (p' := 59) hC rfl rfl rfl rfl ?_
                  refine x_mul (p' := 60) hC rfl rfl rfl (⟨by omega, by omega⟩) ?_
                  refine x_add (p' := 61) hC rfl rfl rfl (⟨by omega, by omega⟩) ?_
                  refine x_1 (p' := 62) hC rfl rfl rfl rfl ?_
                  refine x_add (p' := 63) hC rfl rfl rfl (⟨by omega, by omega⟩) ?_
                  refine x_1 (p' := 64) hC rfl rfl rfl rfl ?_
                  refine y_st (p' := 65) (L := 15568) hO hC rfl rfl rfl rfl (by omega) (by omega) ?_
                  simp only [upX_1, setS_setS, setS_1]
                  rw [eK]
                  refine x_1 (p' := 66) hC rfl rfl rfl rfl ?_
                  refine x_1 (p' := 67) hC rfl rfl rfl rfl ?_
                  refine x_cIV1 (p' := 68) (n := 11) hC rfl rfl rfl rfl rfl (hO.ty) ?_
                  refine sp_m_acted hO (by rw [setS_ne (by decide), eQ]; exact hq) (fun hv => by exfalso; omega) (fun hv => ?_)
                  refine x_iret hC rfl rfl rfl ⟨_, rfl, ?_⟩
                  exact K3 (by unfold okSet sMax; omega) (fun q => by first | exact c44 | (exfalso; omega))
                · have c44 := b2i_0.mp c44
                  refine x_ldc (p' := 46) (v := (-1000002)) hC rfl rfl (by decide) ?_
                  refine x_iret hC rfl rfl rfl ⟨_, rfl, ?_⟩
                  exact K2 (by unfold okSet sMax; omega) (by omega) c44
            · have c34 := b2i_0.mp c34
              refine x_ldc (p' := 36) (v := (-1000001)) hC rfl rfl (by decide) ?_
              refine x_iret hC rfl rfl rfl ⟨_, rfl, ?_⟩
              exact K1 (by unfold okSet sMax; omega)
          · refine x_1 (p' := 30) hC rfl rfl rfl rfl ?_
            refine x_1 (p' := 32) hC rfl rfl rfl rfl ?_
            refine x_1 (p' := 33) hC rfl rfl rfl rfl ?_
            refine x_cIS3 (p' := 34) (n := 2) hC rfl rfl rfl rfl rfl ?_
            refine sp_m_in ?_
            refine x_ifne (p' := 35) hC rfl rfl (fun c34 => ?_) (fun c34 => ?_)
            · have c34 := b2i_n0.mp c34
              refine x_1 (p' := 38) hC rfl rfl rfl rfl ?_
              refine x_1 (p' := 39) hC rfl rfl rfl rfl ?_
              refine x_icne (p' := 40) hC rfl rfl (fun c39 => ?_) (fun c39 => ?_)
              · refine x_1 (p' := 48) hC rfl rfl rfl rfl ?_
                refine x_cVV0 (p' := 49) (n := 10) hC rfl rfl rfl rfl rfl (hO.ty) ?_
                refine sp_m_keeps hO ?_
                have eK : cpX X 3 15568 (X 1) 1 = X 1 := cpX_ne (by decide)
                have eQ : cpX X 3 15568 (X 1) 0 = X 0 := cpX_ne (by decide)
                refine x_1 (p' := 50) hC rfl rfl rfl rfl ?_
                refine x_1 (p' := 51) hC rfl rfl rfl rfl ?_
                refine x_1 (p' := 52) hC rfl rfl rfl rfl ?_
                refine x_cIV2 (p' := 53) (n := 3) hC rfl rfl rfl rfl rfl (hO.ty) ?_
                have hol := hold (by omega) (by omega)
                refine sp_m_of hO (by omega) (by omega) ?_
                rw [eK]
                refine x_stI5 (p' := 54) hC rfl rfl rfl ?_
                refine x_1 (p' := 55) hC rfl rfl rfl rfl ?_
                refine y_gR (p' := 56) (n := 1) hO hC rfl rfl rfl rfl ?_
                refine x_1 (p' := 57) hC rfl rfl rfl rfl ?_
                refine x_1 (p' := 58) hC rfl rfl rfl rfl ?_
                refine x_1 (p' := 59) hC rfl rfl rfl rfl ?_
                refine x_mul (p' := 60) hC rfl rfl rfl (⟨by omega, by omega⟩) ?_
                refine x_add (p' := 61) hC rfl rfl rfl (⟨by omega, by omega⟩) ?_
                refine x_1 (p' := 62) hC rfl rfl rfl rfl ?_
                refine x_add (p' := 63) hC rfl rfl rfl (⟨by omega, by omega⟩) ?_
                refine x_1 (p' := 64) hC rfl rfl rfl rfl ?_
                refine y_st (p' := 65) (L := 15568) hO hC rfl rfl rfl rfl (by omega) (by omega) ?_
                simp only [upX_1, setS_setS, setS_1]
                rw [eK]
                refine x_1 (p' := 66) hC rfl rfl rfl rfl ?_
                refine x_1 (p' := 67) hC rfl rfl rfl rfl ?_
                refine x_cIV1 (p' := 68) (n := 11) hC rfl rfl rfl rfl rfl (hO.ty) ?_
                refine sp_m_acted hO (by rw [setS_ne (by decide), eQ]; exact hq) (fun hv => by exfalso; omega) (fun hv => ?_)
                refine x_iret hC rfl rfl rfl ⟨_, rfl, ?_⟩
                exact K3 (by unfold okSet sMax; omega) (fun q => by first | exact c44 | (exfalso; omega))
              · refine x_1 (p' := 41) hC rfl rfl rfl rfl ?_
                refine x_1 (p' := 42) hC rfl rfl rfl rfl ?_
                refine x_1 (p' := 43) hC rfl rfl rfl rfl ?_
                refine x_cIV2 (p' := 44) (n := 25) hC rfl rfl rfl rfl rfl (hO.ty) ?_
                refine sp_m_canHave hO hs hf (by omega) (by omega) ?_
                refine x_ifne (p' := 45) hC rfl rfl (fun c44 => ?_) (fun c44 => ?_)
                · have c44 := b2i_n0.mp c44
                  refine x_1 (p' := 48) hC rfl rfl rfl rfl ?_
                  refine x_cVV0 (p' := 49) (n := 10) hC rfl rfl rfl rfl rfl (hO.ty) ?_
                  refine sp_m_keeps hO ?_
                  have eK : cpX X 3 15568 (X 1) 1 = X 1 := cpX_ne (by decide)
                  have eQ : cpX X 3 15568 (X 1) 0 = X 0 := cpX_ne (by decide)
                  refine x_1 (p' := 50) hC rfl rfl rfl rfl ?_
                  refine x_1 (p' := 51) hC rfl rfl rfl rfl ?_
                  refine x_1 (p' := 52) hC rfl rfl rfl rfl ?_
                  refine x_cIV2 (p' := 53) (n := 3) hC rfl rfl rfl rfl rfl (hO.ty) ?_
                  have hol := hold (by omega) (by omega)
                  refine sp_m_of hO (by omega) (by omega) ?_
                  rw [eK]
                  refine x_stI5 (p' := 54) hC rfl rfl rfl ?_
                  refine x_1 (p' := 55) hC rfl rfl rfl rfl ?_
                  refine y_gR (p' := 56) (n := 1) hO hC rfl rfl rfl rfl ?_
                  refine x_1 (p' := 57) hC rfl rfl rfl rfl ?_
                  refine x_1 (p' := 58) hC rfl rfl rfl rfl ?_
                  refine x_1 (p' := 59) hC rfl rfl rfl rfl ?_
                  refine x_mul (p' := 60) hC rfl rfl rfl (⟨by omega, by omega⟩) ?_
                  refine x_add (p' := 61) hC rfl rfl rfl (⟨by omega, by omega⟩) ?_
                  refine x_1 (p' := 62) hC rfl rfl rfl rfl ?_
                  refine x_add (p' := 63) hC rfl rfl rfl (⟨by omega, by omega⟩) ?_
                  refine x_1 (p' := 64) hC rfl rfl rfl rfl ?_
                  refine y_st (p' := 65) (L := 15568) hO hC rfl rfl rfl rfl (by omega) (by omega) ?_
                  simp only [upX_1, setS_setS, setS_1]
                  rw [eK]
                  refine x_1 (p' := 66) hC rfl rfl rfl rfl ?_
                  refine x_1 (p' := 67) hC rfl rfl rfl rfl ?_
                  refine x_cIV1 (p' := 68) (n := 11) hC rfl rfl rfl rfl rfl (hO.ty) ?_
                  refine sp_m_acted hO (by rw [setS_ne (by decide), eQ]; exact hq) (fun hv => by exfalso; omega) (fun hv => ?_)
                  refine x_iret hC rfl rfl rfl ⟨_, rfl, ?_⟩
                  exact K3 (by unfold okSet sMax; omega) (fun q => by first | exact c44 | (exfalso; omega))
                · have c44 := b2i_0.mp c44
                  refine x_ldc (p' := 46) (v := (-1000002)) hC rfl rfl (by decide) ?_
                  refine x_iret hC rfl rfl rfl ⟨_, rfl, ?_⟩
                  exact K2 (by unfold okSet sMax; omega) (by omega) c44
            · have c34 := b2i_0.mp c34
              refine x_ldc (p' := 36) (v := (-1000001)) hC rfl rfl (by decide) ?_
              refine x_iret hC rfl rfl rfl ⟨_, rfl, ?_⟩
              exact K1 (by unfold okSet sMax; omega)
  · refine x_1 (p' := 3) hC rfl rfl rfl rfl ?_
    refine x_1 (p' := 15) hC rfl rfl rfl rfl ?_
    refine x_stI4 (p' := 16) hC rfl rfl rfl ?_
    refine x_1 (p' := 17) hC rfl rfl rfl rfl ?_
    refine x_1 (p' := 18) hC rfl rfl rfl rfl ?_
    refine x_cIV1 (p' := 19) (n := 7) hC rfl rfl rfl rfl rfl (hO.ty) ?_
    refine sp_m_isHub hO (by have := hs.1; omega) ?_
    refine x_ifeq (p' := 20) hC rfl rfl (fun c19 => ?_) (fun c19 => ?_)
    · have c19 := b2i_0.mp c19
      refine x_ldc (p' := 36) (v := (-1000001)) hC rfl rfl (by decide) ?_
      refine x_iret hC rfl rfl rfl ⟨_, rfl, ?_⟩
      exact K1 (by unfold okSet sMax; omega)
    · have c19 := b2i_n0.mp c19
      refine x_1 (p' := 21) hC rfl rfl rfl rfl ?_
      refine x_1 (p' := 22) hC rfl rfl rfl rfl ?_
      refine x_1 (p' := 23) hC rfl rfl rfl rfl ?_
      refine x_cIS3 (p' := 24) (n := 2) hC rfl rfl rfl rfl rfl ?_
      refine sp_m_in ?_
      refine x_ifeq (p' := 25) hC rfl rfl (fun c24 => ?_) (fun c24 => ?_)
      · have c24 := b2i_0.mp c24
        refine x_ldc (p' := 36) (v := (-1000001)) hC rfl rfl (by decide) ?_
        refine x_iret hC rfl rfl rfl ⟨_, rfl, ?_⟩
        exact K1 (by unfold okSet sMax; omega)
      · have c24 := b2i_n0.mp c24
        refine x_1 (p' := 26) hC rfl rfl rfl rfl ?_
        refine x_1 (p' := 27) hC rfl rfl rfl rfl ?_
        refine x_1 (p' := 28) hC rfl rfl rfl rfl ?_
        refine x_icne (p' := 29) hC rfl rfl (fun c28 => ?_) (fun c28 => ?_)
        · refine x_1 (p' := 32) hC rfl rfl rfl rfl ?_
          refine x_1 (p' := 33) hC rfl rfl rfl rfl ?_
          refine x_cIS3 (p' := 34) (n := 2) hC rfl rfl rfl rfl rfl ?_
          refine sp_m_in ?_
          refine x_ifne (p' := 35) hC rfl rfl (fun c34 => ?_) (fun c34 => ?_)
          · have c34 := b2i_n0.mp c34
            refine x_1 (p' := 38) hC rfl rfl rfl rfl ?_
            refine x_1 (p' := 39) hC rfl rfl rfl rfl ?_
            refine x_icne (p' := 40) hC rfl rfl (fun c39 => ?_) (fun c39 => ?_)
            · refine x_1 (p' := 48) hC rfl rfl rfl rfl ?_
              refine x_cVV0 (p' := 49) (n := 10) hC rfl rfl rfl rfl rfl (hO.ty) ?_
              refine sp_m_keeps hO ?_
              have eK : cpX X 3 15568 (X 1) 1 = X 1 := cpX_ne (by decide)
              have eQ : cpX X 3 15568 (X 1) 0 = X 0 := cpX_ne (by decide)
              refine x_1 (p' := 50) hC rfl rfl rfl rfl ?_
              refine x_1 (p' := 51) hC rfl rfl rfl rfl ?_
              refine x_1 (p' := 52) hC rfl rfl rfl rfl ?_
              refine x_cIV2 (p' := 53) (n := 3) hC rfl rfl rfl rfl rfl (hO.ty) ?_
              have hol := hold (by omega) (by omega)
              refine sp_m_of hO (by omega) (by omega) ?_
              rw [eK]
              refine x_stI5 (p' := 54) hC rfl rfl rfl ?_
              refine x_1 (p' := 55) hC rfl rfl rfl rfl ?_
              refine y_gR (p' := 56) (n := 1) hO hC rfl rfl rfl rfl ?_
              refine x_1 (p' := 57) hC rfl rfl rfl rfl ?_
              refine x_1 (p' := 58) hC rfl rfl rfl rfl ?_
              refine x_1 (p' := 59) hC rfl rfl rfl rfl ?_
              refine x_mul (p' := 60) hC rfl rfl rfl (⟨by omega, by omega⟩) ?_
              refine x_add (p' := 61) hC rfl rfl rfl (⟨by omega, by omega⟩) ?_
              refine x_1 (p' := 62) hC rfl rfl rfl rfl ?_
              refine x_add (p' := 63) hC rfl rfl rfl (⟨by omega, by omega⟩) ?_
              refine x_1 (p' := 64) hC rfl rfl rfl rfl ?_
              refine y_st (p' := 65) (L := 15568) hO hC rfl rfl rfl rfl (by omega) (by omega) ?_
              simp only [upX_1, setS_setS, setS_1]
              rw [eK]
              refine x_1 (p' := 66) hC rfl rfl rfl rfl ?_
              refine x_1 (p' := 67) hC rfl rfl rfl rfl ?_
              refine x_cIV1 (p' := 68) (n := 11) hC rfl rfl rfl rfl rfl (hO.ty) ?_
              refine sp_m_acted hO (by rw [setS_ne (by decide), eQ]; exact hq) (fun hv => by exfalso; omega) (fun hv => ?_)
              refine x_iret hC rfl rfl rfl ⟨_, rfl, ?_⟩
              exact K3 (by unfold okSet sMax; omega) (fun q => by first | exact c44 | (exfalso; omega))
            · refine x_1 (p' := 41) hC rfl rfl rfl rfl ?_
              refine x_1 (p' := 42) hC rfl rfl rfl rfl ?_
              refine x_1 (p' := 43) hC rfl rfl rfl rfl ?_
              refine x_cIV2 (p' := 44) (n := 25) hC rfl rfl rfl rfl rfl (hO.ty) ?_
              refine sp_m_canHave hO hs hf (by omega) (by omega) ?_
              refine x_ifne (p' := 45) hC rfl rfl (fun c44 => ?_) (fun c44 => ?_)
              · have c44 := b2i_n0.mp c44
                refine x_1 (p' := 48) hC rfl rfl rfl rfl ?_
                refine x_cVV0 (p' := 49) (n := 10) hC rfl rfl rfl rfl rfl (hO.ty) ?_
                refine sp_m_keeps hO ?_
                have eK : cpX X 3 15568 (X 1) 1 = X 1 := cpX_ne (by decide)
                have eQ : cpX X 3 15568 (X 1) 0 = X 0 := cpX_ne (by decide)
                refine x_1 (p' := 50) hC rfl rfl rfl rfl ?_
                refine x_1 (p' := 51) hC rfl rfl rfl rfl ?_
                refine x_1 (p' := 52) hC rfl rfl rfl rfl ?_
                refine x_cIV2 (p' := 53) (n := 3) hC rfl rfl rfl rfl rfl (hO.ty) ?_
                have hol := hold (by omega) (by omega)
                refine sp_m_of hO (by omega) (by omega) ?_
                rw [eK]
                refine x_stI5 (p' := 54) hC rfl rfl rfl ?_
                refine x_1 (p' := 55) hC rfl rfl rfl rfl ?_
                refine y_gR (p' := 56) (n := 1) hO hC rfl rfl rfl rfl ?_
                refine x_1 (p' := 57) hC rfl rfl rfl rfl ?_
                refine x_1 (p' := 58) hC rfl rfl rfl rfl ?_
                refine x_1 (p' := 59) hC rfl rfl rfl rfl ?_
                refine x_mul (p' := 60) hC rfl rfl rfl (⟨by omega, by omega⟩) ?_
                refine x_add (p' := 61) hC rfl rfl rfl (⟨by omega, by omega⟩) ?_
                refine x_1 (p' := 62) hC rfl rfl rfl rfl ?_
                refine x_add (p' := 63) hC rfl rfl rfl (⟨by omega, by omega⟩) ?_
                refine x_1 (p' := 64) hC rfl rfl rfl rfl ?_
                refine y_st (p' := 65) (L := 15568) hO hC rfl rfl rfl rfl (by omega) (by omega) ?_
                simp only [upX_1, setS_setS, setS_1]
                rw [eK]
                refine x_1 (p' := 66) hC rfl rfl rfl rfl ?_
                refine x_1 (p' := 67) hC rfl rfl rfl rfl ?_
                refine x_cIV1 (p' := 68) (n := 11) hC rfl rfl rfl rfl rfl (hO.ty) ?_
                refine sp_m_acted hO (by rw [setS_ne (by decide), eQ]; exact hq) (fun hv => by exfalso; omega) (fun hv => ?_)
                refine x_iret hC rfl rfl rfl ⟨_, rfl, ?_⟩
                exact K3 (by unfold okSet sMax; omega) (fun q => by first | exact c44 | (exfalso; omega))
              · have c44 := b2i_0.mp c44
                refine x_ldc (p' := 46) (v := (-1000002)) hC rfl rfl (by decide) ?_
                refine x_iret hC rfl rfl rfl ⟨_, rfl, ?_⟩
                exact K2 (by unfold okSet sMax; omega) (by omega) c44
          · have c34 := b2i_0.mp c34
            refine x_ldc (p' := 36) (v := (-1000001)) hC rfl rfl (by decide) ?_
            refine x_iret hC rfl rfl rfl ⟨_, rfl, ?_⟩
            exact K1 (by unfold okSet sMax; omega)
        · refine x_1 (p' := 30) hC rfl rfl rfl rfl ?_
          refine x_1 (p' := 32) hC rfl rfl rfl rfl ?_
          refine x_1 (p' := 33) hC rfl rfl rfl rfl ?_
          refine x_cIS3 (p' := 34) (n := 2) hC rfl rfl rfl rfl rfl ?_
          refine sp_m_in ?_
          refine x_ifne (p' := 35) hC rfl rfl (fun c34 => ?_) (fun c34 => ?_)
          · have c34 := b2i_n0.mp c34
            refine x_1 (p' := 38) hC rfl rfl rfl rfl ?_
            refine x_1 (p' := 39) hC rfl rfl rfl rfl ?_
            refine x_icne (p' := 40) hC rfl rfl (fun c39 => ?_) (fun c39 => ?_)
            · refine x_1 (p' := 48) hC rfl rfl rfl rfl ?_
              refine x_cVV0 (p' := 49) (n := 10) hC rfl rfl rfl rfl rfl (hO.ty) ?_
              refine sp_m_keeps hO ?_
              have eK : cpX X 3 15568 (X 1) 1 = X 1 := cpX_ne (by decide)
              have eQ : cpX X 3 15568 (X 1) 0 = X 0 := cpX_ne (by decide)
              refine x_1 (p' := 50) hC rfl rfl rfl rfl ?_
              refine x_1 (p' := 51) hC rfl rfl rfl rfl ?_
              refine x_1 (p' := 52) hC rfl rfl rfl rfl ?_
              refine x_cIV2 (p' := 53) (n := 3) hC rfl rfl rfl rfl rfl (hO.ty) ?_
              have hol := hold (by omega) (by omega)
              refine sp_m_of hO (by omega) (by omega) ?_
              rw [eK]
              refine x_stI5 (p' := 54) hC rfl rfl rfl ?_
              refine x_1 (p' := 55) hC rfl rfl rfl rfl ?_
              refine y_gR (p' := 56) (n := 1) hO hC rfl rfl rfl rfl ?_
              refine x_1 (p' := 57) hC rfl rfl rfl rfl ?_
              refine x_1 (p' := 58) hC rfl rfl rfl rfl ?_
              refine x_1 (p' := 59) hC rfl rfl rfl rfl ?_
              refine x_mul (p' := 60) hC rfl rfl rfl (⟨by omega, by omega⟩) ?_
              refine x_add (p' := 61) hC rfl rfl rfl (⟨by omega, by omega⟩) ?_
              refine x_1 (p' := 62) hC rfl rfl rfl rfl ?_
              refine x_add (p' := 63) hC rfl rfl rfl (⟨by omega, by omega⟩) ?_
              refine x_1 (p' := 64) hC rfl rfl rfl rfl ?_
              refine y_st (p' := 65) (L := 15568) hO hC rfl rfl rfl rfl (by omega) (by omega) ?_
              simp only [upX_1, setS_setS, setS_1]
              rw [eK]
              refine x_1 (p' := 66) hC rfl rfl rfl rfl ?_
              refine x_1 (p' := 67) hC rfl rfl rfl rfl ?_
              refine x_cIV1 (p' := 68) (n := 11) hC rfl rfl rfl rfl rfl (hO.ty) ?_
              refine sp_m_acted hO (by rw [setS_ne (by decide), eQ]; exact hq) (fun hv => by exfalso; omega) (fun hv => ?_)
              refine x_iret hC rfl rfl rfl ⟨_, rfl, ?_⟩
              exact K3 (by unfold okSet sMax; omega) (fun q => by first | exact c44 | (exfalso; omega))
            · refine x_1 (p' := 41) hC rfl rfl rfl rfl ?_
              refine x_1 (p' := 42) hC rfl rfl rfl rfl ?_
              refine x_1 (p' := 43) hC rfl rfl rfl rfl ?_
              refine x_cIV2 (p' := 44) (n := 25) hC rfl rfl rfl rfl rfl (hO.ty) ?_
              refine sp_m_canHave hO hs hf (by omega) (by omega) ?_
              refine x_ifne (p' := 45) hC rfl rfl (fun c44 => ?_) (fun c44 => ?_)
              · have c44 := b2i_n0.mp c44
                refine x_1 (p' := 48) hC rfl rfl rfl rfl ?_
                refine x_cVV0 (p' := 49) (n := 10) hC rfl rfl rfl rfl rfl (hO.ty) ?_
                refine sp_m_keeps hO ?_
                have eK : cpX X 3 15568 (X 1) 1 = X 1 := cpX_ne (by decide)
                have eQ : cpX X 3 15568 (X 1) 0 = X 0 := cpX_ne (by decide)
                refine x_1 (p' := 50) hC rfl rfl rfl rfl ?_
                refine x_1 (p' := 51) hC rfl rfl rfl rfl ?_
                refine x_1 (p' := 52) hC rfl rfl rfl rfl ?_
                refine x_cIV2 (p' := 53) (n := 3) hC rfl rfl rfl rfl rfl (hO.ty) ?_
                have hol := hold (by omega) (by omega)
                refine sp_m_of hO (by omega) (by omega) ?_
                rw [eK]
                refine x_stI5 (p' := 54) hC rfl rfl rfl ?_
                refine x_1 (p' := 55) hC rfl rfl rfl rfl ?_
                refine y_gR (p' := 56) (n := 1) hO hC rfl rfl rfl rfl ?_
                refine x_1 (p' := 57) hC rfl rfl rfl rfl ?_
                refine x_1 (p' := 58) hC rfl rfl rfl rfl ?_
                refine x_1 (p' := 59) hC rfl rfl rfl rfl ?_
                refine x_mul (p' := 60) hC rfl rfl rfl (⟨by omega, by omega⟩) ?_
                refine x_add (p' := 61) hC rfl rfl rfl (⟨by omega, by omega⟩) ?_
                refine x_1 (p' := 62) hC rfl rfl rfl rfl ?_
                refine x_add (p' := 63) hC rfl rfl rfl (⟨by omega, by omega⟩) ?_
                refine x_1 (p' := 64) hC rfl rfl rfl rfl ?_
                refine y_st (p' := 65) (L := 15568) hO hC rfl rfl rfl rfl (by omega) (by omega) ?_
                simp only [upX_1, setS_setS, setS_1]
                rw [eK]
                refine x_1 (p' := 66) hC rfl rfl rfl rfl ?_
                refine x_1 (p' := 67) hC rfl rfl rfl rfl ?_
                refine x_cIV1 (p' := 68) (n := 11) hC rfl rfl rfl rfl rfl (hO.ty) ?_
                refine sp_m_acted hO (by rw [setS_ne (by decide), eQ]; exact hq) (fun hv => by exfalso; omega) (fun hv => ?_)
                refine x_iret hC rfl rfl rfl ⟨_, rfl, ?_⟩
                exact K3 (by unfold okSet sMax; omega) (fun q => by first | exact c44 | (exfalso; omega))
              · have c44 := b2i_0.mp c44
                refine x_ldc (p' := 46) (v := (-1000002)) hC rfl rfl (by decide) ?_
                refine x_iret hC rfl rfl rfl ⟨_, rfl, ?_⟩
                exact K2 (by unfold okSet sMax; omega) (by omega) c44
          · have c34 := b2i_0.mp c34
            refine x_ldc (p' := 36) (v := (-1000001)) hC rfl rfl (by decide) ?_
            refine x_iret hC rfl rfl rfl ⟨_, rfl, ?_⟩
            exact K1 (by unfold okSet sMax; omega)

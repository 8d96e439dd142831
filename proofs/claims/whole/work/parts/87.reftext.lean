/-! the reference's face: texts, read -/
/-- only the place (0, 7) and the numbers (6) differ -/
def YK (B Y : Nat → Int → Int) : Prop := ∀ i j, ¬ (i = 0 ∧ j = 7) → i ≠ 6 → Y i j = B i j
theorem YK.t5 {B Y : Nat → Int → Int} (h : YK B Y) : Y 5 = B 5 := funext fun j => h 5 j (fun q => absurd q.1 (by decide)) (by decide)
theorem YK.l6 {B Y : Nat → Int → Int} (h : YK B Y) : Y 0 6 = B 0 6 := h 0 6 (fun q => absurd q.2 (by decide)) (by decide)
/-- the state X is B, but the place is a and the numbers are g -/
def TS (B : Nat → Int → Int) (a : Int) (g : Int → Int) (X : Nat → Int → Int) : Prop := YK B X ∧ X 0 7 = a ∧ X 6 = g
theorem TS.at {B X : Nat → Int → Int} {a v : Int} {g : Int → Int} (h : TS B a g X) : TS B v g (upX X 0 7 v) := by
  refine ⟨fun i j h1 h2 => ?_, ?_, ?_⟩
  · rw [← h.1 i j h1 h2]; unfold upX; rw [if_neg h1]
  · unfold upX; rw [if_pos ⟨rfl, rfl⟩]
  · rw [upX_ne (by decide)]; exact h.2.2
theorem TS.st {B X : Nat → Int → Int} {a : Int} {g : Int → Int} (h : TS B a g X) (j v : Int) : TS B a (ups g j v) (upX X 6 j v) := by
  refine ⟨fun i q h1 h2 => ?_, ?_, ?_⟩
  · rw [← h.1 i q h1 h2]; unfold upX; rw [if_neg (fun e => h2 e.1)]
  · rw [upX_ne (by decide)]; exact h.2.1
  · rw [upX_eq, h.2.2]
theorem num_of {tx : Int → Int} {L a e x nx : Int} {D : Nat} (he : ¬ isDig e) (h6 : D ≤ 6) (hd : ∀ j : Nat, j < D → isDig (tx (a + j))) (hs : D = 6 ∨ L ≤ a + D ∨ ¬ isDig (tx (a + D))) (N : NumIs tx L a e x nx) : 1 ≤ D ∧ a + D < L ∧ tx (a + D) = e ∧ x = dVal tx a D ∧ nx = a + D + 1 := by
  obtain ⟨E, g1, g2, g3, g4, g5, g6⟩ := N
  have hD : E = D := by
    rcases Nat.lt_trichotomy D E with q | q | q
    · have := g2 D q
      rcases hs with e | e | e
      · omega
      · omega
      · exact absurd this e
    · exact q.symm
    · have := hd E q
      rw [g4] at this
      exact absurd this he
  subst hD
  exact ⟨g1.1, g3, g4, g5, g6⟩
set_option maxRecDepth 20000 in
set_option maxHeartbeats 2000000 in
theorem sp_m_has {d : Nat} {m : Nat} {h : HP} (hO : RO m h)  {B X : Nat → Int → Int} {a : Int} {g : Int → Int} (hB : TS B a g X) (h0 : 0 ≤ a) (hLL : 0 ≤ B 0 6 ∧ B 0 6 ≤ 60) (ha : a ≤ 100) {c : Int} {Q : Int → HP → Prop} (K : ∀ Y a', ((a < B 0 6 ∧ B 5 a = c) ∧ a' = a + 1) ∨ (¬ (a < B 0 6 ∧ B 5 a = c) ∧ a' = a) → TS B a' g Y → Q (b2i (a < B 0 6 ∧ B 5 a = c)) (wX m h Y)) : CaI d 73 [.inr (some m), .inl c] (wX m h X) Q := by
  have hC : cod 73 = c_m_has := rfl
  refine CaI.start rfl ?_
  have e7 := hB.2.1
  have e6 := hB.1.l6
  have e5 := hB.1.t5
  refine x_1 (p' := 1) hC rfl rfl rfl rfl ?_
  refine y_gI (p' := 2) (kz := 7) hO hC rfl rfl rfl rfl ?_
  refine x_1 (p' := 3) hC rfl rfl rfl rfl ?_
  refine y_gI (p' := 4) (kz := 6) hO hC rfl rfl rfl rfl ?_
  refine x_icge (p' := 5) hC rfl rfl (fun c4 => ?_) (fun c4 => ?_)
  · refine x_1 (p' := 15) hC rfl rfl rfl rfl ?_
    refine x_stI2 (p' := 16) hC rfl rfl rfl ?_
    refine x_1 (p' := 17) hC rfl rfl rfl rfl ?_
    refine x_1 (p' := 18) hC rfl rfl rfl rfl ?_
    refine y_gI (p' := 19) (kz := 7) hO hC rfl rfl rfl rfl ?_
    refine x_1 (p' := 20) hC rfl rfl rfl rfl ?_
    refine x_ifeq (p' := 21) hC rfl rfl (fun _ => ?_) (fun c => absurd c (by decide))
    refine x_1 (p' := 24) hC rfl rfl rfl rfl ?_
    refine x_add (p' := 25) hC rfl rfl rfl (⟨by omega, by omega⟩) ?_
    refine y_pI (p' := 26) (kz := 7) hO hC rfl rfl rfl rfl ?_
    refine x_1 (p' := 27) hC rfl rfl rfl rfl ?_
    refine x_zret hC rfl rfl rfl (by first | omega | exact b2i_01 _) ⟨_, rfl, ?_⟩
    first
      | (refine eqK (K _ _ (Or.inl ⟨⟨by omega, by omega⟩, rfl⟩) ?_) (b2i_t ⟨by omega, by omega⟩)
         rw [← e7]
         exact hB.at)
      | (refine eqK (K _ _ (Or.inr ⟨by omega, rfl⟩) ?_) (b2i_f (by omega))
         rw [show X 0 7 + 0 = a by omega]
         exact hB.at)
  · refine x_1 (p' := 6) hC rfl rfl rfl rfl ?_
    refine y_gR (p' := 7) (n := 5) hO hC rfl rfl rfl rfl ?_
    refine x_1 (p' := 8) hC rfl rfl rfl rfl ?_
    refine y_gI (p' := 9) (kz := 7) hO hC rfl rfl rfl rfl ?_
    refine y_cld (p' := 10) hO hC rfl rfl rfl (by omega) (by omega) ?_
    rw [show X 5 (X 0 7) = B 5 a by rw [e5]; exact congrArg _ e7]
    refine x_1 (p' := 11) hC rfl rfl rfl rfl ?_
    refine x_icne (p' := 12) hC rfl rfl (fun c11 => ?_) (fun c11 => ?_)
    · refine x_1 (p' := 15) hC rfl rfl rfl rfl ?_
      refine x_stI2 (p' := 16) hC rfl rfl rfl ?_
      refine x_1 (p' := 17) hC rfl rfl rfl rfl ?_
      refine x_1 (p' := 18) hC rfl rfl rfl rfl ?_
      refine y_gI (p' := 19) (kz := 7) hO hC rfl rfl rfl rfl ?_
      refine x_1 (p' := 20) hC rfl rfl rfl rfl ?_
      refine x_ifeq (p' := 21) hC rfl rfl (fun _ => ?_) (fun c => absurd c (by decide))
      refine x_1 (p' := 24) hC rfl rfl rfl rfl ?_
      refine x_add (p' := 25) hC rfl rfl rfl (⟨by omega, by omega⟩) ?_
      refine y_pI (p' := 26) (kz := 7) hO hC rfl rfl rfl rfl ?_
      refine x_1 (p' := 27) hC rfl rfl rfl rfl ?_
      refine x_zret hC rfl rfl rfl (by first | omega | exact b2i_01 _) ⟨_, rfl, ?_⟩
      first
        | (refine eqK (K _ _ (Or.inl ⟨⟨by omega, by omega⟩, rfl⟩) ?_) (b2i_t ⟨by omega, by omega⟩)
           rw [← e7]
           exact hB.at)
        | (refine eqK (K _ _ (Or.inr ⟨by omega, rfl⟩) ?_) (b2i_f (by omega))
           rw [show X 0 7 + 0 = a by omega]
           exact hB.at)
    · refine x_1 (p' := 13) hC rfl rfl rfl rfl ?_
      refine x_1 (p' := 15) hC rfl rfl rfl rfl ?_
      refine x_stI2 (p' := 16) hC rfl rfl rfl ?_
      refine x_1 (p' := 17) hC rfl rfl rfl rfl ?_
      refine x_1 (p' := 18) hC rfl rfl rfl rfl ?_
      refine y_gI (p' := 19) (kz := 7) hO hC rfl rfl rfl rfl ?_
      refine x_1 (p' := 20) hC rfl rfl rfl rfl ?_
      refine x_ifeq (p' := 21) hC rfl rfl (fun c => absurd c (by decide)) (fun _ => ?_)
      refine x_1 (p' := 22) hC rfl rfl rfl rfl ?_
      refine x_1 (p' := 24) hC rfl rfl rfl rfl ?_
      refine x_add (p' := 25) hC rfl rfl rfl (⟨by omega, by omega⟩) ?_
      refine y_pI (p' := 26) (kz := 7) hO hC rfl rfl rfl rfl ?_
      refine x_1 (p' := 27) hC rfl rfl rfl rfl ?_
      refine x_zret hC rfl rfl rfl (by first | omega | exact b2i_01 _) ⟨_, rfl, ?_⟩
      first
        | (refine eqK (K _ _ (Or.inl ⟨⟨by omega, by omega⟩, rfl⟩) ?_) (b2i_t ⟨by omega, by omega⟩)
           rw [← e7]
           exact hB.at)
        | (refine eqK (K _ _ (Or.inr ⟨by omega, rfl⟩) ?_) (b2i_f (by omega))
           rw [show X 0 7 + 0 = a by omega]
           exact hB.at)
def tkX (X : Nat → Int → Int) (i a : Int) (n : Nat) : Nat → Int → Int := upX (upX X 6 i (dVal (X 5) a n)) 0 7 (a + n)
theorem eqTS {B X : Nat → Int → Int} {a i v v' w w' : Int} {g : Int → Int} (h : TS B a g (upX (upX X 6 i v) 0 7 w)) (e : v' = v) (f : w' = w) : TS B a g (upX (upX X 6 i v') 0 7 w') := by rw [e, f]; exact h
set_option maxRecDepth 20000 in
theorem lp_m_takes {d : Nat} {m : Nat} {h : HP} (hO : RO m h)  {B : Nat → Int → Int} {a : Int} {g : Int → Int} (h0 : 0 ≤ a ∧ a ≤ 100) (hLL : 0 ≤ B 0 6 ∧ B 0 6 ≤ 60) {ix : Int} (hix : 0 ≤ ix ∧ ix ≤ 2) {Q : Int → HP → Prop} (K : ∀ (D : Nat) Y, D ≤ 6 → (∀ j : Nat, j < D → isDig (B 5 (a + j))) → (a ≤ B 0 6 → a + D ≤ B 0 6) → (D = 6 ∨ B 0 6 ≤ a + D ∨ ¬ isDig (B 5 (a + D))) → TS B (a + D) (ups g ix (dVal (B 5) a D)) Y → Q (b2i (0 < D)) (wX m h Y)) (k : Nat) : ∀ (n : Nat) (X : Nat → Int → Int), 7 - n < k → (n ≤ 6) → ((∀ j : Nat, j < n → isDig (B 5 (a + j))) ∧ (a ≤ B 0 6 → a + n ≤ B 0 6)) → (TS B (a + n) (ups g ix (dVal (B 5) a n)) X) → At (d + 1) 74 8 [some (.inr (some m)), some (.inl ix), some (.inl a)] [] (wX m h X) (fun v h' => ∃ x, v = some (.inl x) ∧ Q x h') := by
  have hC : cod 74 = c_m_takes := rfl
  induction k with
  | zero =>
    intro n X hk
    exact absurd hk (Nat.not_lt_zero _)
  | succ k ih =>
    intro n X hk hI0 hI1 hI2
    have hB := hI2
    have e7 := hB.2.1
    have e6 := hB.1.l6
    have e5 := hB.1.t5
    have ex : X 6 ix = dVal (B 5) a n := by rw [hB.2.2]; unfold ups; rw [if_pos rfl]
    have ec : X 5 (X 0 7) = B 5 (a + n) := by rw [e5]; exact congrArg _ e7
    have hdv := dVal_rng (tx := B 5) (a := a) n hI1.1
    have hpb := pB_le ⟨n, by omega⟩
    dsimp only at hpb
    refine x_1 (p' := 9) hC rfl rfl rfl rfl ?_
    refine y_gI (p' := 10) (kz := 7) hO hC rfl rfl rfl rfl ?_
    refine x_1 (p' := 11) hC rfl rfl rfl rfl ?_
    refine y_gI (p' := 12) (kz := 6) hO hC rfl rfl rfl rfl ?_
    refine x_icge (p' := 13) hC rfl rfl (fun c12 => ?_) (fun c12 => ?_)
    · refine x_1 (p' := 54) hC rfl rfl rfl rfl ?_
      refine y_gI (p' := 55) (kz := 7) hO hC rfl rfl rfl rfl ?_
      refine x_1 (p' := 56) hC rfl rfl rfl rfl ?_
      refine x_icle (p' := 57) hC rfl rfl (fun c56 => ?_) (fun c56 => ?_)
      · refine x_1 (p' := 60) hC rfl rfl rfl rfl ?_
        refine x_zret hC rfl rfl rfl (by first | omega | exact b2i_01 _) ⟨_, rfl, ?_⟩
        first
          | exact eqK (K n X (by omega) hI1.1 hI1.2 (by omega) hB) (b2i_t (by omega))
          | exact eqK (K n X (by omega) hI1.1 hI1.2 (by omega) hB) (b2i_f (by omega))
      · refine x_1 (p' := 58) hC rfl rfl rfl rfl ?_
        refine x_1 (p' := 60) hC rfl rfl rfl rfl ?_
        refine x_zret hC rfl rfl rfl (by first | omega | exact b2i_01 _) ⟨_, rfl, ?_⟩
        first
          | exact eqK (K n X (by omega) hI1.1 hI1.2 (by omega) hB) (b2i_t (by omega))
          | exact eqK (K n X (by omega) hI1.1 hI1.2 (by omega) hB) (b2i_f (by omega))
    · refine x_1 (p' := 14) hC rfl rfl rfl rfl ?_
      refine y_gI (p' := 15) (kz := 7) hO hC rfl rfl rfl rfl ?_
      refine x_1 (p' := 16) hC rfl rfl rfl rfl ?_
      refine x_1 (p' := 17) hC rfl rfl rfl rfl ?_
      refine x_add (p' := 18) hC rfl rfl rfl (⟨by omega, by omega⟩) ?_
      refine x_icge (p' := 19) hC rfl rfl (fun c18 => ?_) (fun c18 => ?_)
      · refine x_1 (p' := 54) hC rfl rfl rfl rfl ?_
        refine y_gI (p' := 55) (kz := 7) hO hC rfl rfl rfl rfl ?_
        refine x_1 (p' := 56) hC rfl rfl rfl rfl ?_
        refine x_icle (p' := 57) hC rfl rfl (fun c56 => ?_) (fun c56 => ?_)
        · refine x_1 (p' := 60) hC rfl rfl rfl rfl ?_
          refine x_zret hC rfl rfl rfl (by first | omega | exact b2i_01 _) ⟨_, rfl, ?_⟩
          first
            | exact eqK (K n X (by omega) hI1.1 hI1.2 (by omega) hB) (b2i_t (by omega))
            | exact eqK (K n X (by omega) hI1.1 hI1.2 (by omega) hB) (b2i_f (by omega))
        · refine x_1 (p' := 58) hC rfl rfl rfl rfl ?_
          refine x_1 (p' := 60) hC rfl rfl rfl rfl ?_
          refine x_zret hC rfl rfl rfl (by first | omega | exact b2i_01 _) ⟨_, rfl, ?_⟩
          first
            | exact eqK (K n X (by omega) hI1.1 hI1.2 (by omega) hB) (b2i_t (by omega))
            | exact eqK (K n X (by omega) hI1.1 hI1.2 (by omega) hB) (b2i_f (by omega))
      · refine x_1 (p' := 20) hC rfl rfl rfl rfl ?_
        refine y_gR (p' := 21) (n := 5) hO hC rfl rfl rfl rfl ?_
        refine x_1 (p' := 22) hC rfl rfl rfl rfl ?_
        refine y_gI (p' := 23) (kz := 7) hO hC rfl rfl rfl rfl ?_
        refine y_cld (p' := 24) hO hC rfl rfl rfl (by omega) (by omega) ?_
        rw [ec]
        refine x_1 (p' := 25) hC rfl rfl rfl rfl ?_
        refine x_1 (p' := 26) hC rfl rfl rfl rfl ?_
        refine x_cIS3 (p' := 27) (n := 2) hC rfl rfl rfl rfl rfl ?_
        refine sp_m_in ?_
        refine x_ifeq (p' := 28) hC rfl rfl (fun c27 => ?_) (fun c27 => ?_)
        · have c27 := b2i_0.mp c27
          refine x_1 (p' := 54) hC rfl rfl rfl rfl ?_
          refine y_gI (p' := 55) (kz := 7) hO hC rfl rfl rfl rfl ?_
          refine x_1 (p' := 56) hC rfl rfl rfl rfl ?_
          refine x_icle (p' := 57) hC rfl rfl (fun c56 => ?_) (fun c56 => ?_)
          · refine x_1 (p' := 60) hC rfl rfl rfl rfl ?_
            refine x_zret hC rfl rfl rfl (by first | omega | exact b2i_01 _) ⟨_, rfl, ?_⟩
            first
              | exact eqK (K n X (by omega) hI1.1 hI1.2 (by omega) hB) (b2i_t (by omega))
              | exact eqK (K n X (by omega) hI1.1 hI1.2 (by omega) hB) (b2i_f (by omega))
          · refine x_1 (p' := 58) hC rfl rfl rfl rfl ?_
            refine x_1 (p' := 60) hC rfl rfl rfl rfl ?_
            refine x_zret hC rfl rfl rfl (by first | omega | exact b2i_01 _) ⟨_, rfl, ?_⟩
            first
              | exact eqK (K n X (by omega) hI1.1 hI1.2 (by omega) hB) (b2i_t (by omega))
              | exact eqK (K n X (by omega) hI1.1 hI1.2 (by omega) hB) (b2i_f (by omega))
        · have c27 := b2i_n0.mp c27
          refine x_1 (p' := 29) hC rfl rfl rfl rfl ?_
          refine y_gR (p' := 30) (n := 6) hO hC rfl rfl rfl rfl ?_
          refine x_1 (p' := 31) hC rfl rfl rfl rfl ?_
          refine x_1 (p' := 32) hC rfl rfl rfl rfl ?_
          refine x_1 (p' := 33) hC rfl rfl rfl rfl ?_
          refine y_gR (p' := 34) (n := 6) hO hC rfl rfl rfl rfl ?_
          refine x_1 (p' := 35) hC rfl rfl rfl rfl ?_
          refine y_ld (p' := 36) (L := 3) hO hC rfl rfl rfl rfl (by omega) (by omega) ?_
          rw [ex]
          refine x_mul (p' := 37) hC rfl rfl rfl (⟨by omega, by omega⟩) ?_
          refine x_1 (p' := 38) hC rfl rfl rfl rfl ?_
          refine y_gR (p' := 39) (n := 5) hO hC rfl rfl rfl rfl ?_
          refine x_1 (p' := 40) hC rfl rfl rfl rfl ?_
          refine y_gI (p' := 41) (kz := 7) hO hC rfl rfl rfl rfl ?_
          refine y_cld (p' := 42) hO hC rfl rfl rfl (by omega) (by omega) ?_
          rw [ec]
          refine x_add (p' := 43) hC rfl rfl rfl (⟨by omega, by omega⟩) ?_
          refine x_1 (p' := 44) hC rfl rfl rfl rfl ?_
          refine x_sub (p' := 45) hC rfl rfl rfl (⟨by omega, by omega⟩) ?_
          refine y_st (p' := 46) (L := 3) hO hC rfl rfl rfl rfl (by omega) (by omega) ?_
          refine x_1 (p' := 47) hC rfl rfl rfl rfl ?_
          refine x_1 (p' := 48) hC rfl rfl rfl rfl ?_
          refine y_gI (p' := 49) (kz := 7) hO hC rfl rfl rfl rfl ?_
          rw [upX_ne (by decide)]
          refine x_1 (p' := 50) hC rfl rfl rfl rfl ?_
          refine x_add (p' := 51) hC rfl rfl rfl (⟨by omega, by omega⟩) ?_
          refine y_pI (p' := 52) (kz := 7) hO hC rfl rfl rfl rfl ?_
          refine x_1 (p' := 8) hC rfl rfl rfl rfl ?_
          refine ih (n + 1) _ (by omega) (by omega) ⟨fun j hj => ?_, by omega⟩ ?_
          · by_cases hjn : j = n
            · rw [hjn]; exact ⟨by omega, by omega⟩
            · exact hI1.1 j (by omega)
          · have hS := (hB.st ix (dVal (B 5) a (n + 1))).at (v := a + ((n + 1 : Nat) : Int))
            rw [show ups (ups g ix (dVal (B 5) a n)) ix (dVal (B 5) a (n + 1)) = ups g ix (dVal (B 5) a (n + 1)) from funext fun q => by unfold ups; split <;> rfl] at hS
            refine eqTS hS ?_ ?_
            · rw [show dVal (B 5) a (n + 1) = 10 * dVal (B 5) a n + (B 5 (a + n) - 48) from rfl]; omega
            · omega
set_option maxRecDepth 20000 in
set_option maxHeartbeats 2000000 in
theorem sp_m_takes {d : Nat} {m : Nat} {h : HP} (hO : RO m h)  {B X : Nat → Int → Int} {a : Int} {g : Int → Int} (hB : TS B a g X) (h0 : 0 ≤ a) (hLL : 0 ≤ B 0 6 ∧ B 0 6 ≤ 60) (ha : a ≤ 100) {ix : Int} (hix : 0 ≤ ix ∧ ix ≤ 2) {Q : Int → HP → Prop} (K : ∀ (D : Nat) Y, D ≤ 6 → (∀ j : Nat, j < D → isDig (B 5 (a + j))) → (a ≤ B 0 6 → a + D ≤ B 0 6) → (D = 6 ∨ B 0 6 ≤ a + D ∨ ¬ isDig (B 5 (a + D))) → TS B (a + D) (ups g ix (dVal (B 5) a D)) Y → Q (b2i (0 < D)) (wX m h Y)) : CaI (d + 1) 74 [.inr (some m), .inl ix] (wX m h X) Q := by
  have hC : cod 74 = c_m_takes := rfl
  refine CaI.start rfl ?_
  have e7 := hB.2.1
  have e6 := hB.1.l6
  have e5 := hB.1.t5
  refine x_1 (p' := 1) hC rfl rfl rfl rfl ?_
  refine y_gI (p' := 2) (kz := 7) hO hC rfl rfl rfl rfl ?_
  rw [e7]
  refine x_stI2 (p' := 3) hC rfl rfl rfl ?_
  refine x_1 (p' := 4) hC rfl rfl rfl rfl ?_
  refine y_gR (p' := 5) (n := 6) hO hC rfl rfl rfl rfl ?_
  refine x_1 (p' := 6) hC rfl rfl rfl rfl ?_
  refine x_1 (p' := 7) hC rfl rfl rfl rfl ?_
  refine y_st (p' := 8) (L := 3) hO hC rfl rfl rfl rfl (by omega) (by omega) ?_
  refine lp_m_takes hO ⟨h0, ha⟩ hLL hix K _ 0 _ (Nat.lt_succ_self _) (by omega) ⟨fun j hj => absurd hj (Nat.not_lt_zero j), fun q => by omega⟩ ?_
  rw [show a + ((0 : Nat) : Int) = a by omega]
  exact hB.st ix 0

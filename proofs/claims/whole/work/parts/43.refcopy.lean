/-! the reference's copies of its row -/
/-- the first 15568 places of array i are g's -/
def cpX (X : Nat → Int → Int) (i : Nat) (n : Int) (g : Int → Int) : Nat → Int → Int := fun a b => if a = i ∧ 0 ≤ b ∧ b < n then g b else X a b
theorem cpX_0 {X : Nat → Int → Int} {i : Nat} {g : Int → Int} : cpX X i 0 g = X := by funext a b; unfold cpX; rw [if_neg (by omega)]
theorem cpX_succ {X : Nat → Int → Int} {i : Nat} {n : Int} {g : Int → Int} (hn : 0 ≤ n) : upX (cpX X i n g) i n (g n) = cpX X i (n + 1) g := by
  funext a b
  unfold upX cpX
  by_cases h1 : a = i ∧ b = n
  · obtain ⟨rfl, rfl⟩ := h1
    rw [if_pos ⟨rfl, rfl⟩, if_pos ⟨rfl, hn, by omega⟩]
  · rw [if_neg h1]
    by_cases h2 : a = i ∧ 0 ≤ b ∧ b < n
    · rw [if_pos h2, if_pos ⟨h2.1, h2.2.1, by omega⟩]
    · rw [if_neg h2, if_neg (fun q => by
        by_cases h3 : b = n
        · exact h1 ⟨q.1, h3⟩
        · exact h2 ⟨q.1, q.2.1, by omega⟩)]
theorem cpX_ne {X : Nat → Int → Int} {i a : Nat} {n : Int} {g : Int → Int} (h : a ≠ i) : cpX X i n g a = X a := by funext b; unfold cpX; rw [if_neg (fun q => h q.1)]
set_option maxRecDepth 20000 in
theorem lp_m_keeps {d : Nat} {m : Nat} {h : HP} (hO : RO m h) {X : Nat → Int → Int} {Q : HP → Prop} (K : Q (wX m h (cpX X 3 15568 (X 1)))) (k : Nat) : ∀ (i : Int), (15568 - i).toNat < k → (0 ≤ i ∧ i ≤ 15568) → At (d) 10 2 [some (.inr (some m)), some (.inl i)] [] (wX m h (cpX X 3 i (X 1))) (fun v h' => v = none ∧ Q h') := by
  have hC : cod 10 = c_m_keeps := rfl
  induction k with
  | zero =>
    intro i hk
    exact absurd hk (Nat.not_lt_zero _)
  | succ k ih =>
    intro i hk hI0
    refine x_1 (p' := 3) hC rfl rfl rfl rfl ?_
    refine x_1 (p' := 4) hC rfl rfl rfl rfl ?_
    refine x_icge (p' := 5) hC rfl rfl (fun c4 => ?_) (fun c4 => ?_)
    · refine x_ret hC rfl rfl rfl ⟨rfl, ?_⟩
      rw [show i = 15568 by omega]; exact K
    · refine x_1 (p' := 6) hC rfl rfl rfl rfl ?_
      refine y_gR (p' := 7) (n := 3) hO hC rfl rfl rfl rfl ?_
      refine x_1 (p' := 8) hC rfl rfl rfl rfl ?_
      refine x_1 (p' := 9) hC rfl rfl rfl rfl ?_
      refine y_gR (p' := 10) (n := 1) hO hC rfl rfl rfl rfl ?_
      refine x_1 (p' := 11) hC rfl rfl rfl rfl ?_
      refine y_ld (p' := 12) (L := 15568) hO hC rfl rfl rfl rfl (by omega) (by omega) ?_
      refine y_st (p' := 13) (L := 15568) hO hC rfl rfl rfl rfl (by omega) (by omega) ?_
      refine x_inc1 (p' := 14) hC rfl rfl (⟨by omega, by omega⟩) ?_
      refine x_1 (p' := 2) hC rfl rfl rfl rfl ?_
      rw [show cpX X 3 i (X 1) 1 i = X 1 i from by rw [cpX_ne (by decide)], cpX_succ (by omega)]
      exact ih _ (by omega) (by omega)
set_option maxRecDepth 20000 in
theorem sp_m_keeps {d : Nat} {m : Nat} {h : HP} (hO : RO m h) {X : Nat → Int → Int} {Q : HP → Prop} (K : Q (wX m h (cpX X 3 15568 (X 1)))) : CaV d 10 [.inr (some m)] (wX m h X) Q := by
  have hC : cod 10 = c_m_keeps := rfl
  refine CaV.start rfl ?_
  refine x_1 (p' := 1) hC rfl rfl rfl rfl ?_
  refine x_stI1 (p' := 2) hC rfl rfl rfl ?_
  have e := lp_m_keeps (d := d) hO K _ 0 (Nat.lt_succ_self _) (by omega)
  rw [cpX_0] at e
  exact e
set_option maxRecDepth 20000 in
theorem lp_m_puts {d : Nat} {m : Nat} {h : HP} (hO : RO m h) {X : Nat → Int → Int} {Q : HP → Prop} (K : Q (wX m h (cpX X 4 15568 (X 1)))) (k : Nat) : ∀ (i : Int), (15568 - i).toNat < k → (0 ≤ i ∧ i ≤ 15568) → At (d) 12 2 [some (.inr (some m)), some (.inl i)] [] (wX m h (cpX X 4 i (X 1))) (fun v h' => v = none ∧ Q h') := by
  have hC : cod 12 = c_m_puts := rfl
  induction k with
  | zero =>
    intro i hk
    exact absurd hk (Nat.not_lt_zero _)
  | succ k ih =>
    intro i hk hI0
    refine x_1 (p' := 3) hC rfl rfl rfl rfl ?_
    refine x_1 (p' := 4) hC rfl rfl rfl rfl ?_
    refine x_icge (p' := 5) hC rfl rfl (fun c4 => ?_) (fun c4 => ?_)
    · refine x_ret hC rfl rfl rfl ⟨rfl, ?_⟩
      rw [show i = 15568 by omega]; exact K
    · refine x_1 (p' := 6) hC rfl rfl rfl rfl ?_
      refine y_gR (p' := 7) (n := 4) hO hC rfl rfl rfl rfl ?_
      refine x_1 (p' := 8) hC rfl rfl rfl rfl ?_
      refine x_1 (p' := 9) hC rfl rfl rfl rfl ?_
      refine y_gR (p' := 10) (n := 1) hO hC rfl rfl rfl rfl ?_
      refine x_1 (p' := 11) hC rfl rfl rfl rfl ?_
      refine y_ld (p' := 12) (L := 15568) hO hC rfl rfl rfl rfl (by omega) (by omega) ?_
      refine y_st (p' := 13) (L := 15568) hO hC rfl rfl rfl rfl (by omega) (by omega) ?_
      refine x_inc1 (p' := 14) hC rfl rfl (⟨by omega, by omega⟩) ?_
      refine x_1 (p' := 2) hC rfl rfl rfl rfl ?_
      rw [show cpX X 4 i (X 1) 1 i = X 1 i from by rw [cpX_ne (by decide)], cpX_succ (by omega)]
      exact ih _ (by omega) (by omega)
set_option maxRecDepth 20000 in
theorem sp_m_puts {d : Nat} {m : Nat} {h : HP} (hO : RO m h) {X : Nat → Int → Int} {Q : HP → Prop} (K : Q (wX m h (cpX X 4 15568 (X 1)))) : CaV d 12 [.inr (some m)] (wX m h X) Q := by
  have hC : cod 12 = c_m_puts := rfl
  refine CaV.start rfl ?_
  refine x_1 (p' := 1) hC rfl rfl rfl rfl ?_
  refine x_stI1 (p' := 2) hC rfl rfl rfl ?_
  have e := lp_m_puts (d := d) hO K _ 0 (Nat.lt_succ_self _) (by omega)
  rw [cpX_0] at e
  exact e
set_option maxRecDepth 20000 in
theorem lp_m_restores {d : Nat} {m : Nat} {h : HP} (hO : RO m h) {X : Nat → Int → Int} {Q : HP → Prop} (K : Q (wX m h (cpX X 1 15568 (X 4)))) (k : Nat) : ∀ (i : Int), (15568 - i).toNat < k → (0 ≤ i ∧ i ≤ 15568) → At (d) 13 2 [some (.inr (some m)), some (.inl i)] [] (wX m h (cpX X 1 i (X 4))) (fun v h' => v = none ∧ Q h') := by
  have hC : cod 13 = c_m_restores := rfl
  induction k with
  | zero =>
    intro i hk
    exact absurd hk (Nat.not_lt_zero _)
  | succ k ih =>
    intro i hk hI0
    refine x_1 (p' := 3) hC rfl rfl rfl rfl ?_
    refine x_1 (p' := 4) hC rfl rfl rfl rfl ?_
    refine x_icge (p' := 5) hC rfl rfl (fun c4 => ?_) (fun c4 => ?_)
    · refine x_ret hC rfl rfl rfl ⟨rfl, ?_⟩
      rw [show i = 15568 by omega]; exact K
    · refine x_1 (p' := 6) hC rfl rfl rfl rfl ?_
      refine y_gR (p' := 7) (n := 1) hO hC rfl rfl rfl rfl ?_
      refine x_1 (p' := 8) hC rfl rfl rfl rfl ?_
      refine x_1 (p' := 9) hC rfl rfl rfl rfl ?_
      refine y_gR (p' := 10) (n := 4) hO hC rfl rfl rfl rfl ?_
      refine x_1 (p' := 11) hC rfl rfl rfl rfl ?_
      refine y_ld (p' := 12) (L := 15568) hO hC rfl rfl rfl rfl (by omega) (by omega) ?_
      refine y_st (p' := 13) (L := 15568) hO hC rfl rfl rfl rfl (by omega) (by omega) ?_
      refine x_inc1 (p' := 14) hC rfl rfl (⟨by omega, by omega⟩) ?_
      refine x_1 (p' := 2) hC rfl rfl rfl rfl ?_
      rw [show cpX X 1 i (X 4) 4 i = X 4 i from by rw [cpX_ne (by decide)], cpX_succ (by omega)]
      exact ih _ (by omega) (by omega)
set_option maxRecDepth 20000 in
theorem sp_m_restores {d : Nat} {m : Nat} {h : HP} (hO : RO m h) {X : Nat → Int → Int} {Q : HP → Prop} (K : Q (wX m h (cpX X 1 15568 (X 4)))) : CaV d 13 [.inr (some m)] (wX m h X) Q := by
  have hC : cod 13 = c_m_restores := rfl
  refine CaV.start rfl ?_
  refine x_1 (p' := 1) hC rfl rfl rfl rfl ?_
  refine x_stI1 (p' := 2) hC rfl rfl rfl ?_
  have e := lp_m_restores (d := d) hO K _ 0 (Nat.lt_succ_self _) (by omega)
  rw [cpX_0] at e
  exact e
/-- the history's row moved down by one state -/
def shX (X : Nat → Int → Int) (n : Int) : Nat → Int → Int := fun a b => if a = 2 ∧ 0 ≤ b ∧ b < n then X 2 (b + 15568) else X a b
theorem shX_0 {X : Nat → Int → Int} : shX X 0 = X := by funext a b; unfold shX; rw [if_neg (by omega)]
theorem shX_succ {X : Nat → Int → Int} {n : Int} (hn : 0 ≤ n) : upX (shX X n) 2 n (X 2 (n + 15568)) = shX X (n + 1) := by
  funext a b
  unfold upX shX
  by_cases h1 : a = 2 ∧ b = n
  · obtain ⟨rfl, rfl⟩ := h1
    rw [if_pos ⟨rfl, rfl⟩, if_pos ⟨rfl, hn, by omega⟩]
  · rw [if_neg h1]
    by_cases h2 : a = 2 ∧ 0 ≤ b ∧ b < n
    · rw [if_pos h2, if_pos ⟨h2.1, h2.2.1, by omega⟩]
    · rw [if_neg h2, if_neg (fun q => by
        by_cases h3 : b = n
        · exact h1 ⟨q.1, h3⟩
        · exact h2 ⟨q.1, q.2.1, by omega⟩)]
/-- the state that was kept is laid behind the q states of the history -/
def laX (X : Nat → Int → Int) (q n : Int) : Nat → Int → Int := fun a b => if a = 2 ∧ 15568 * q ≤ b ∧ b < 15568 * q + n then X 3 (b - 15568 * q) else X a b
theorem laX_0 {X : Nat → Int → Int} {q : Int} : laX X q 0 = X := by funext a b; unfold laX; rw [if_neg (by omega)]
theorem laX_succ {X : Nat → Int → Int} {q n : Int} (hn : 0 ≤ n) : upX (laX X q n) 2 (15568 * q + n) (X 3 n) = laX X q (n + 1) := by
  funext a b
  unfold upX laX
  by_cases h1 : a = 2 ∧ b = 15568 * q + n
  · obtain ⟨rfl, rfl⟩ := h1
    rw [if_pos ⟨rfl, rfl⟩, if_pos ⟨rfl, by omega, by omega⟩]
    congr 1
    omega
  · rw [if_neg h1]
    by_cases h2 : a = 2 ∧ 15568 * q ≤ b ∧ b < 15568 * q + n
    · rw [if_pos h2, if_pos ⟨h2.1, h2.2.1, by omega⟩]
    · rw [if_neg h2, if_neg (fun z => by
        by_cases h3 : b = 15568 * q + n
        · exact h1 ⟨z.1, h3⟩
        · exact h2 ⟨z.1, z.2.1, by omega⟩)]
/-- what a recorded change does to the history: the oldest state goes if there are four -/
def acY (X : Nat → Int → Int) : Nat → Int → Int := if X 0 4 = 4 then upX (shX X 46704) 0 4 (X 0 4 - 1) else X
def acX (X : Nat → Int → Int) : Nat → Int → Int := upX (laX (acY X) (acY X 0 4) 15568) 0 4 (acY X 0 4 + 1)
set_option maxRecDepth 20000 in
theorem lp_m_acted1 {d : Nat} {m : Nat} {h : HP} (hO : RO m h) {X : Nat → Int → Int} {v : Int} {Q : Option AV → HP → Prop} (K : ∀ z, At d 11 24 [some (.inr (some m)), some (.inl v), z] [] (wX m h (shX X 46704)) Q) (k : Nat) : ∀ (i : Int), (46704 - i).toNat < k → (0 ≤ i ∧ i ≤ 46704) → At (d) 11 9 [some (.inr (some m)), some (.inl v), some (.inl i)] [] (wX m h (shX X i)) Q := by
  have hC : cod 11 = c_m_acted := rfl
  induction k with
  | zero =>
    intro i hk
    exact absurd hk (Nat.not_lt_zero _)
  | succ k ih =>
    intro i hk hI0
    refine x_1 (p' := 10) hC rfl rfl rfl rfl ?_
    refine x_ldc (p' := 11) (v := 46704) hC rfl rfl (by decide) ?_
    refine x_icge (p' := 12) hC rfl rfl (fun c11 => ?_) (fun c11 => ?_)
    · rw [show i = 46704 by omega]; exact K _
    · refine x_1 (p' := 13) hC rfl rfl rfl rfl ?_
      refine y_gR (p' := 14) (n := 2) hO hC rfl rfl rfl rfl ?_
      refine x_1 (p' := 15) hC rfl rfl rfl rfl ?_
      refine x_1 (p' := 16) hC rfl rfl rfl rfl ?_
      refine y_gR (p' := 17) (n := 2) hO hC rfl rfl rfl rfl ?_
      refine x_1 (p' := 18) hC rfl rfl rfl rfl ?_
      refine x_1 (p' := 19) hC rfl rfl rfl rfl ?_
      refine x_add (p' := 20) hC rfl rfl rfl (⟨by omega, by omega⟩) ?_
      refine y_ld (p' := 21) (L := 62272) hO hC rfl rfl rfl rfl (by omega) (by omega) ?_
      refine y_st (p' := 22) (L := 62272) hO hC rfl rfl rfl rfl (by omega) (by omega) ?_
      refine x_inc2 (p' := 23) hC rfl rfl (⟨by omega, by omega⟩) ?_
      refine x_1 (p' := 9) hC rfl rfl rfl rfl ?_
      rw [show shX X i 2 (i + 15568) = X 2 (i + 15568) by unfold shX; rw [if_neg (by omega)], shX_succ (by omega)]
      exact ih _ (by omega) (by omega)
set_option maxRecDepth 20000 in
theorem lp_m_acted2 {d : Nat} {m : Nat} {h : HP} (hO : RO m h) {X : Nat → Int → Int} {v : Int} (hq : 0 ≤ X 0 4 ∧ X 0 4 < 4) {Q : Int → HP → Prop} (K : Q v (wX m h (upX (laX X (X 0 4) 15568) 0 4 (X 0 4 + 1)))) (k : Nat) : ∀ (i : Int), (15568 - i).toNat < k → (0 ≤ i ∧ i ≤ 15568) → At (d) 11 32 [some (.inr (some m)), some (.inl v), some (.inl i)] [] (wX m h (laX X (X 0 4) i)) (fun v h' => ∃ x, v = some (.inl x) ∧ Q x h') := by
  have hC : cod 11 = c_m_acted := rfl
  induction k with
  | zero =>
    intro i hk
    exact absurd hk (Nat.not_lt_zero _)
  | succ k ih =>
    intro i hk hI0
    have e4 : laX X (X 0 4) i 0 4 = X 0 4 := by unfold laX; rw [if_neg (by omega)]
    have e3 : laX X (X 0 4) i 3 i = X 3 i := by unfold laX; rw [if_neg (by omega)]
    refine x_1 (p' := 33) hC rfl rfl rfl rfl ?_
    refine x_1 (p' := 34) hC rfl rfl rfl rfl ?_
    refine x_icge (p' := 35) hC rfl rfl (fun c34 => ?_) (fun c34 => ?_)
    · refine x_1 (p' := 51) hC rfl rfl rfl rfl ?_
      refine x_1 (p' := 52) hC rfl rfl rfl rfl ?_
      refine y_gI (p' := 53) (kz := 4) hO hC rfl rfl rfl rfl ?_
      refine x_1 (p' := 54) hC rfl rfl rfl rfl ?_
      refine x_add (p' := 55) hC rfl rfl rfl (⟨by omega, by omega⟩) ?_
      refine y_pI (p' := 56) (kz := 4) hO hC rfl rfl rfl rfl ?_
      refine x_1 (p' := 57) hC rfl rfl rfl rfl ?_
      refine x_iret hC rfl rfl rfl ⟨_, rfl, ?_⟩
      rw [e4, show i = 15568 by omega]
      exact K
    · refine x_1 (p' := 36) hC rfl rfl rfl rfl ?_
      refine y_gR (p' := 37) (n := 2) hO hC rfl rfl rfl rfl ?_
      refine x_1 (p' := 38) hC rfl rfl rfl rfl ?_
      refine x_1 (p' := 39) hC rfl rfl rfl rfl ?_
      refine y_gI (p' := 40) (kz := 4) hO hC rfl rfl rfl rfl ?_
      refine x_mul (p' := 41) hC rfl rfl rfl (⟨by omega, by omega⟩) ?_
      refine x_1 (p' := 42) hC rfl rfl rfl rfl ?_
      refine x_add (p' := 43) hC rfl rfl rfl (⟨by omega, by omega⟩) ?_
      refine x_1 (p' := 44) hC rfl rfl rfl rfl ?_
      refine y_gR (p' := 45) (n := 3) hO hC rfl rfl rfl rfl ?_
      refine x_1 (p' := 46) hC rfl rfl rfl rfl ?_
      refine y_ld (p' := 47) (L := 15568) hO hC rfl rfl rfl rfl (by omega) (by omega) ?_
      refine y_st (p' := 48) (L := 62272) hO hC rfl rfl rfl rfl (by omega) (by omega) ?_
      refine x_inc2 (p' := 49) hC rfl rfl (⟨by omega, by omega⟩) ?_
      refine x_1 (p' := 32) hC rfl rfl rfl rfl ?_
      rw [e4, e3, laX_succ (by omega)]
      exact ih _ (by omega) (by omega)
theorem acY_4 {X : Nat → Int → Int} (hq : 0 ≤ X 0 4 ∧ X 0 4 ≤ 4) : 0 ≤ acY X 0 4 ∧ acY X 0 4 < 4 := by
  unfold acY
  split
  · show 0 ≤ (if (0 : Nat) = 0 ∧ (4 : Int) = 4 then X 0 4 - 1 else _) ∧ (if (0 : Nat) = 0 ∧ (4 : Int) = 4 then X 0 4 - 1 else _) < 4
    rw [if_pos ⟨rfl, rfl⟩]
    omega
  · omega
set_option maxRecDepth 20000 in
theorem sp_m_acted {d : Nat} {m : Nat} {h : HP} (hO : RO m h) {X : Nat → Int → Int} {v : Int} (hq : 0 ≤ X 0 4 ∧ X 0 4 ≤ 4) {Q : Int → HP → Prop} (K1 : v ≤ -1000001 → Q v (wX m h X)) (K2 : -1000001 < v → Q v (wX m h (acX X))) : CaI d 11 [.inr (some m), .inl v] (wX m h X) Q := by
  have hC : cod 11 = c_m_acted := rfl
  refine CaI.start rfl ?_
  refine x_1 (p' := 1) hC rfl rfl rfl rfl ?_
  refine x_ldc (p' := 2) (v := (-1000001)) hC rfl rfl (by decide) ?_
  refine x_icle (p' := 3) hC rfl rfl (fun c2 => ?_) (fun c2 => ?_)
  · refine x_1 (p' := 57) hC rfl rfl rfl rfl ?_
    refine x_iret hC rfl rfl rfl ⟨_, rfl, ?_⟩
    exact K1 (by omega)
  · refine x_1 (p' := 4) hC rfl rfl rfl rfl ?_
    refine y_gI (p' := 5) (kz := 4) hO hC rfl rfl rfl rfl ?_
    refine x_1 (p' := 6) hC rfl rfl rfl rfl ?_
    refine x_icne (p' := 7) hC rfl rfl (fun c6 => ?_) (fun c6 => ?_)
    · refine x_1 (p' := 31) hC rfl rfl rfl rfl ?_
      refine x_stI2 (p' := 32) hC rfl rfl rfl ?_
      have e := lp_m_acted2 (d := d) (v := v) hO (X := acY X) (acY_4 hq) (Q := Q) (K2 (by omega)) _ 0 (Nat.lt_succ_self _) (by omega)
      rw [laX_0] at e
      unfold acY at e
      rw [if_neg (by omega)] at e
      exact e
    · refine x_1 (p' := 8) hC rfl rfl rfl rfl ?_
      refine x_stI2 (p' := 9) hC rfl rfl rfl ?_
      have e := lp_m_acted1 (d := d) (v := v) hO (X := X) (Q := (fun v h' => ∃ x, v = some (.inl x) ∧ Q x h')) ?_ _ 0 (Nat.lt_succ_self _) (by omega)
      · rw [shX_0] at e
        exact e
      · intro z
        have e4 : shX X 46704 0 4 = X 0 4 := by unfold shX; rw [if_neg (by omega)]
        refine x_1 (p' := 25) hC rfl rfl rfl rfl ?_
        refine x_1 (p' := 26) hC rfl rfl rfl rfl ?_
        refine y_gI (p' := 27) (kz := 4) hO hC rfl rfl rfl rfl ?_
        refine x_1 (p' := 28) hC rfl rfl rfl rfl ?_
        refine x_sub (p' := 29) hC rfl rfl rfl (⟨by omega, by omega⟩) ?_
        refine y_pI (p' := 30) (kz := 4) hO hC rfl rfl rfl rfl ?_
        refine x_1 (p' := 31) hC rfl rfl rfl rfl ?_
        refine x_stI2 (p' := 32) hC rfl rfl rfl ?_
        rw [show shX X 46704 0 4 = X 0 4 by unfold shX; rw [if_neg (by omega)]]
        have e := lp_m_acted2 (d := d) (v := v) hO (X := acY X) (acY_4 hq) (Q := Q) (K2 (by omega)) _ 0 (Nat.lt_succ_self _) (by omega)
        rw [laX_0] at e
        unfold acY at e
        rw [if_pos (by omega)] at e
        exact e

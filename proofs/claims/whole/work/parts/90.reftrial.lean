/-! the reference's face: trials of the text -/
/-- equal rows, where a row has cells -/
def EqR (s t : Int → Int) : Prop := ∀ b, 0 ≤ b → b < 15568 → s b = t b
theorem EqR.refl {s : Int → Int} : EqR s s := fun _ _ _ => rfl
theorem EqR.trans {s t u : Int → Int} (a : EqR s t) (b : EqR t u) : EqR s u := fun q h0 h1 => (a q h0 h1).trans (b q h0 h1)
theorem cpX_EqR {X : Nat → Int → Int} {i : Nat} {g : Int → Int} : EqR (cpX X i 15568 g i) g := fun b h0 h1 => by
  unfold cpX
  rw [if_pos ⟨rfl, h0, h1⟩]
theorem cpX_nj {X : Nat → Int → Int} {i a : Nat} {n b : Int} {g : Int → Int} (h : a ≠ i) : cpX X i n g a b = X a b := congrFun (cpX_ne h) b
/-- why the order at a fails in the row s -/
def FaultIs (Tk : (Int → Int) → (Int → Int) → Prop) (tx : Int → Int) (L : Int) (s : Int → Int) (a r : Int) : Prop :=
  (r = 1 ∧ ∀ n0 n1 n2 nx, ¬ OrdIs tx L a (tx a) n0 n1 n2 nx) ∨
  (∃ n0 n1 n2 nx, OrdIs tx L a (tx a) n0 n1 n2 nx ∧ ((r = 2 ∧ ¬ tx a = 112 ∧ ¬ (0 ≤ n0 ∧ n0 ≤ s 1 - 1)) ∨ (r = 3 ∧ (tx a = 112 ∨ (0 ≤ n0 ∧ n0 ≤ s 1 - 1)) ∧ ∃ v s', DoesS Tk s (tx a) n0 n1 n2 v s' ∧ v ≤ -1000001)))
/-- PF holds at the orders' run: places, counts, rows -/
def RunH (Tk : (Int → Int) → (Int → Int) → Prop) (Gd : (Int → Int) → Prop) (tx : Int → Int) (L : Int) (PF : Int → Int → (Int → Int) → Prop) : Prop := (∀ a n s, PF a n s → Gd s) ∧ ∀ a n s n0 n1 n2 nx v s', PF a n s → 0 ≤ a → a < L → OrdIs tx L a (tx a) n0 n1 n2 nx → (tx a = 112 ∨ (0 ≤ n0 ∧ n0 ≤ s 1 - 1)) → DoesS Tk s (tx a) n0 n1 n2 v s' → -1000001 < v → PF nx (n + 1) s'
def FOut (Tk : (Int → Int) → (Int → Int) → Prop) (tx : Int → Int) (L : Int) (PF : Int → Int → (Int → Int) → Prop) (v r : Int) : Prop := (v = -1000004 ∧ ∃ a n s, PF a n s ∧ L ≤ a) ∨ (0 ≤ v ∧ v < L ∧ ∃ n s, PF v n s ∧ FaultIs Tk tx L s v r)
/-- all stays but the row, the row put aside, the numbers, the scratch, the place and the reason -/
def KY (X Z : Nat → Int → Int) : Prop := ∀ i j, i ≠ 1 → i ≠ 4 → i ≠ 6 → i ≠ 7 → i ≠ 8 → i ≠ 9 → ¬ (i = 0 ∧ j = 7) → ¬ (i = 0 ∧ j = 8) → ¬ (i = 0 ∧ j = 13) → Z i j = X i j
theorem KY.t5 {X Z : Nat → Int → Int} (h : KY X Z) : Z 5 = X 5 := funext fun j => h 5 j (by decide) (by decide) (by decide) (by decide) (by decide) (by decide) (fun q => absurd q.1 (by decide)) (fun q => absurd q.1 (by decide)) (fun q => absurd q.1 (by decide))
theorem KY.l6 {X Z : Nat → Int → Int} (h : KY X Z) : Z 0 6 = X 0 6 := h 0 6 (by decide) (by decide) (by decide) (by decide) (by decide) (by decide) (fun q => absurd q.2 (by decide)) (fun q => absurd q.2 (by decide)) (fun q => absurd q.2 (by decide))
/-- the loop's state: v no fault yet, or the fault's place -/
def FSt (Tk : (Int → Int) → (Int → Int) → Prop) (PF : Int → Int → (Int → Int) → Prop) (X : Nat → Int → Int) (v : Int) (Y : Nat → Int → Int) : Prop := KY X Y ∧ EqR (Y 4) (X 1) ∧ (0 ≤ Y 0 7 ∧ Y 0 7 ≤ X 0 6) ∧ ((v = -1000004 ∧ ∃ n, PF (Y 0 7) n (Y 1)) ∨ (0 ≤ v ∧ v < X 0 6 ∧ ∃ n s, PF v n s ∧ FaultIs Tk (X 5) (X 0 6) s v (Y 0 8)))
theorem FSt.step {Tk : (Int → Int) → (Int → Int) → Prop} {Gd : (Int → Int) → Prop} {PF : Int → Int → (Int → Int) → Prop} {X Y Z : Nat → Int → Int} {r : Int} (hR : RunH Tk Gd (X 5) (X 0 6) PF) (h : FSt Tk PF X (-1000004) Y) (hL : Y 0 7 < X 0 6) (hN : RNext Tk Y r Z) : (0 < r ∧ FSt Tk PF X (Y 0 7) (upX Z 0 8 r)) ∨ (r ≤ 0 ∧ Y 0 7 + 3 ≤ Z 0 7 ∧ FSt Tk PF X (-1000004) (upX Z 0 8 r)) := by
  obtain ⟨k, e4, y7, hv⟩ := h
  obtain ⟨n, hp⟩ : ∃ n, PF (Y 0 7) n (Y 1) := by
    rcases hv with ⟨_, q⟩ | ⟨q, _⟩
    · exact q
    · exact absurd q (by decide)
  obtain ⟨kz, z7, hN⟩ := hN
  have t5 := k.t5
  have l6 := k.l6
  rw [t5, l6] at hN
  rw [l6] at z7
  have k' : KY X (upX Z 0 8 r) := fun i j h1 h2 h3 h4 h5 h6 h7 h8 h9 => by
    unfold upX
    rw [if_neg h8, kz i j h1 h3 h4 h5 h6 h7 h9, k i j h1 h2 h3 h4 h5 h6 h7 h8 h9]
  have e4' : EqR (upX Z 0 8 r 4) (X 1) := by
    rw [upX_ne (by decide), show Z 4 = Y 4 from funext fun j => kz 4 j (by decide) (by decide) (by decide) (by decide) (by decide) (fun q => absurd q.1 (by decide)) (fun q => absurd q.1 (by decide))]
    exact e4
  have u7 : upX Z 0 8 r 0 7 = Z 0 7 := by unfold upX; rw [if_neg (by decide)]
  have u8 : upX Z 0 8 r 0 8 = r := by unfold upX; rw [if_pos ⟨rfl, rfl⟩]
  have u1 : upX Z 0 8 r 1 = Z 1 := upX_ne (by decide)
  have bad : ∀ {P : Prop}, FaultIs Tk (X 5) (X 0 6) (Y 1) (Y 0 7) r → 0 < r → (0 < r ∧ FSt Tk PF X (Y 0 7) (upX Z 0 8 r)) ∨ P := fun hf hr => Or.inl ⟨hr, k', e4', by rw [u7]; exact z7, Or.inr ⟨y7.1, hL, n, Y 1, hp, by rw [u8]; exact hf⟩⟩
  rcases hN with ⟨hr, O, s1⟩ | ⟨n0, n1, n2, O, hN⟩
  · exact bad (Or.inl ⟨hr, O⟩) (by omega)
  · rcases hN with ⟨hr, q1, q2, s1⟩ | ⟨q, v, D, ⟨hr, q3⟩ | ⟨hr, q3⟩⟩
    · exact bad (Or.inr ⟨n0, n1, n2, _, O, Or.inl ⟨hr, q1, q2⟩⟩) (by omega)
    · exact bad (Or.inr ⟨n0, n1, n2, _, O, Or.inr ⟨hr, q, v, _, D, q3⟩⟩) (by omega)
    · have ol := O.lt
      refine Or.inr ⟨by omega, by omega, k', e4', by rw [u7]; exact z7, Or.inl ⟨rfl, n + 1, ?_⟩⟩
      rw [u7, u1]
      exact hR.2 _ _ _ _ _ _ _ _ _ hp y7.1 hL O q D q3
def RFaulty (Tk : (Int → Int) → (Int → Int) → Prop) (PF : Int → Int → (Int → Int) → Prop) (X : Nat → Int → Int) (v : Int) (Z : Nat → Int → Int) : Prop := KY X Z ∧ EqR (Z 1) (X 1) ∧ FOut Tk (X 5) (X 0 6) PF v (Z 0 8)
set_option maxRecDepth 20000 in
theorem lp_m_faulty {d : Nat} {m : Nat} {h : HP} (hO : RO m h)  {Tk : (Int → Int) → (Int → Int) → Prop} {Gd : (Int → Int) → Prop} (hT : TKH d m h Tk Gd) (hGd : ∀ s, Gd s → RI s ∧ 0 ≤ s 2 ∧ s 2 ≤ 100000) {X : Nat → Int → Int} (hL : 0 ≤ X 0 6 ∧ X 0 6 ≤ 60) (htx : ∀ j, 0 ≤ j → j < X 0 6 → 32 ≤ X 5 j ∧ X 5 j ≤ 126) {PF : Int → Int → (Int → Int) → Prop} (hR : RunH Tk Gd (X 5) (X 0 6) PF) {Q : Int → HP → Prop} (K : ∀ v Z, RFaulty Tk PF X v Z → Q v (wX m h Z)) (k : Nat) : ∀ (v : Int) (Y : Nat → Int → Int) (z : Option AV), (if v = -1000004 then X 0 6 - Y 0 7 + 1 else 0).toNat < k → (FSt Tk PF X v Y) → At (d + 12) 78 7 [some (.inr (some m)), some (.inl v), z] [] (wX m h Y) (fun v h' => ∃ x, v = some (.inl x) ∧ Q x h') := by
  have hC : cod 78 = c_m_faulty := rfl
  induction k with
  | zero =>
    intro v Y z hk
    exact absurd hk (Nat.not_lt_zero _)
  | succ k ih =>
    intro v Y z hk hI0
    have hS := hI0
    obtain ⟨ky, e4, y7, hv⟩ := hI0
    have t5 := ky.t5
    have l6 := ky.l6
    refine x_1 (p' := 8) hC rfl rfl rfl rfl ?_
    refine y_gI (p' := 9) (kz := 7) hO hC rfl rfl rfl rfl ?_
    refine x_1 (p' := 10) hC rfl rfl rfl rfl ?_
    refine y_gI (p' := 11) (kz := 6) hO hC rfl rfl rfl rfl ?_
    refine x_icge (p' := 12) hC rfl rfl (fun c11 => ?_) (fun c11 => ?_)
    · refine x_1 (p' := 31) hC rfl rfl rfl rfl ?_
      refine x_cVV0 (p' := 32) (n := 13) hC rfl rfl rfl rfl rfl (hO.ty) ?_
      refine sp_m_restores hO ?_
      refine x_1 (p' := 33) hC rfl rfl rfl rfl ?_
      refine x_iret hC rfl rfl rfl ⟨_, rfl, ?_⟩
      refine K _ _ ⟨fun i j h1 h2 h3 h4 h5 h6 h7 h8 h9 => (cpX_nj h1).trans (ky i j h1 h2 h3 h4 h5 h6 h7 h8 h9), cpX_EqR.trans e4, ?_⟩
      rw [cpX_ne (by decide)]
      rcases hv with ⟨q, n, hp⟩ | q
      · exact Or.inl ⟨q, _, n, _, hp, by omega⟩
      · exact Or.inr q
    · refine x_1 (p' := 13) hC rfl rfl rfl rfl ?_
      refine x_ldc (p' := 14) (v := (-1000004)) hC rfl rfl (by decide) ?_
      refine x_icne (p' := 15) hC rfl rfl (fun c14 => ?_) (fun c14 => ?_)
      · refine x_1 (p' := 31) hC rfl rfl rfl rfl ?_
        refine x_cVV0 (p' := 32) (n := 13) hC rfl rfl rfl rfl rfl (hO.ty) ?_
        refine sp_m_restores hO ?_
        refine x_1 (p' := 33) hC rfl rfl rfl rfl ?_
        refine x_iret hC rfl rfl rfl ⟨_, rfl, ?_⟩
        refine K _ _ ⟨fun i j h1 h2 h3 h4 h5 h6 h7 h8 h9 => (cpX_nj h1).trans (ky i j h1 h2 h3 h4 h5 h6 h7 h8 h9), cpX_EqR.trans e4, ?_⟩
        rw [cpX_ne (by decide)]
        rcases hv with ⟨q, n, hp⟩ | q
        · exact Or.inl ⟨q, _, n, _, hp, by omega⟩
        · exact Or.inr q
      · refine x_1 (p' := 16) hC rfl rfl rfl rfl ?_
        refine y_gI (p' := 17) (kz := 7) hO hC rfl rfl rfl rfl ?_
        refine x_stI2 (p' := 18) hC rfl rfl rfl ?_
        refine x_1 (p' := 19) hC rfl rfl rfl rfl ?_
        refine x_1 (p' := 20) hC rfl rfl rfl rfl ?_
        refine x_cIV0 (p' := 21) (n := 77) hC rfl rfl rfl rfl rfl (hO.ty) ?_
        obtain ⟨n, hp⟩ : ∃ n, PF (Y 0 7) n (Y 1) := by
          rcases hv with ⟨_, q⟩ | ⟨q, _⟩
          · exact q
          · omega
        refine sp_m_doesNext hO hT hGd (hR.1 _ _ _ hp) (by rw [l6]; exact hL) (by omega) (by rw [t5]; have := htx (Y 0 7) (by omega) (by omega); omega) (fun r Z hN => ?_)
        have hv14 : v = -1000004 := by omega
        subst hv14
        rw [if_pos rfl] at hk
        have hst := hS.step hR (by omega) hN
        refine y_pI (p' := 22) (kz := 8) hO hC rfl rfl rfl rfl ?_
        refine x_1 (p' := 23) hC rfl rfl rfl rfl ?_
        refine y_gI (p' := 24) (kz := 8) hO hC rfl rfl rfl rfl ?_
        rw [show upX Z 0 8 r 0 8 = r by unfold upX; rw [if_pos ⟨rfl, rfl⟩]]
        refine x_ifle (p' := 25) hC rfl rfl (fun c24 => ?_) (fun c24 => ?_)
        · refine x_1 (p' := 28) hC rfl rfl rfl rfl ?_
          refine x_stI1 (p' := 29) hC rfl rfl rfl ?_
          refine x_1 (p' := 7) hC rfl rfl rfl rfl ?_
          first
            | (obtain ⟨g1, g2⟩ := hst.resolve_right (fun q => by omega)
               refine ih _ _ _ ?_ g2
               rw [if_neg (by omega)]
               omega)
            | (obtain ⟨g1, g3, g2⟩ := hst.resolve_left (fun q => by omega)
               refine ih _ _ _ ?_ g2
               rw [if_pos rfl, show upX Z 0 8 r 0 7 = Z 0 7 by unfold upX; rw [if_neg (by decide)]]
               omega)
        · refine x_1 (p' := 26) hC rfl rfl rfl rfl ?_
          refine x_1 (p' := 28) hC rfl rfl rfl rfl ?_
          refine x_stI1 (p' := 29) hC rfl rfl rfl ?_
          refine x_1 (p' := 7) hC rfl rfl rfl rfl ?_
          first
            | (obtain ⟨g1, g2⟩ := hst.resolve_right (fun q => by omega)
               refine ih _ _ _ ?_ g2
               rw [if_neg (by omega)]
               omega)
            | (obtain ⟨g1, g3, g2⟩ := hst.resolve_left (fun q => by omega)
               refine ih _ _ _ ?_ g2
               rw [if_pos rfl, show upX Z 0 8 r 0 7 = Z 0 7 by unfold upX; rw [if_neg (by decide)]]
               omega)
set_option maxRecDepth 20000 in
set_option maxHeartbeats 2000000 in
theorem sp_m_faulty {d : Nat} {m : Nat} {h : HP} (hO : RO m h) {X : Nat → Int → Int} {Tk : (Int → Int) → (Int → Int) → Prop} {Gd : (Int → Int) → Prop} (hT : TKH d m h Tk Gd) (hGd : ∀ s, Gd s → RI s ∧ 0 ≤ s 2 ∧ s 2 ≤ 100000) (hL : 0 ≤ X 0 6 ∧ X 0 6 ≤ 60) (htx : ∀ j, 0 ≤ j → j < X 0 6 → 32 ≤ X 5 j ∧ X 5 j ≤ 126) {PF : Int → Int → (Int → Int) → Prop} (hR : RunH Tk Gd (X 5) (X 0 6) PF) (h0 : PF 0 0 (X 1)) {Q : Int → HP → Prop} (K : ∀ v Z, RFaulty Tk PF X v Z → Q v (wX m h Z)) : CaI (d + 12) 78 [.inr (some m)] (wX m h X) Q := by
  have hC : cod 78 = c_m_faulty := rfl
  refine CaI.start rfl ?_
  refine x_1 (p' := 1) hC rfl rfl rfl rfl ?_
  refine x_cVV0 (p' := 2) (n := 12) hC rfl rfl rfl rfl rfl (hO.ty) ?_
  refine sp_m_puts hO ?_
  refine x_ldc (p' := 3) (v := (-1000004)) hC rfl rfl (by decide) ?_
  refine x_stI1 (p' := 4) hC rfl rfl rfl ?_
  refine x_1 (p' := 5) hC rfl rfl rfl rfl ?_
  refine x_1 (p' := 6) hC rfl rfl rfl rfl ?_
  refine y_pI (p' := 7) (kz := 7) hO hC rfl rfl rfl rfl ?_
  refine lp_m_faulty hO hT hGd hL htx hR K _ _ _ _ (Nat.lt_succ_self _) ⟨fun i j h1 h2 h3 h4 h5 h6 h7 h8 _ => ?_, ?_, ?_, Or.inl ⟨rfl, 0, ?_⟩⟩
  · unfold upX
    rw [if_neg h7]
    exact cpX_nj h2
  · rw [upX_ne (by decide)]
    exact cpX_EqR
  · rw [show upX (cpX X 4 15568 (X 1)) 0 7 0 0 7 = 0 by unfold upX; rw [if_pos ⟨rfl, rfl⟩]]
    omega
  · rw [show upX (cpX X 4 15568 (X 1)) 0 7 0 0 7 = 0 by unfold upX; rw [if_pos ⟨rfl, rfl⟩], upX_ne (by decide), cpX_ne (by decide)]
    exact h0
set_option maxRecDepth 20000 in
set_option maxHeartbeats 2000000 in
theorem sp_m_fault {d : Nat} {m : Nat} {h : HP} (hO : RO m h) {X : Nat → Int → Int} {Tk : (Int → Int) → (Int → Int) → Prop} {Gd : (Int → Int) → Prop} (hT : TKH d m h Tk Gd) (hGd : ∀ s, Gd s → RI s ∧ 0 ≤ s 2 ∧ s 2 ≤ 100000) (hL : 0 ≤ X 0 6 ∧ X 0 6 ≤ 60) (htx : ∀ j, 0 ≤ j → j < X 0 6 → 32 ≤ X 5 j ∧ X 5 j ≤ 126) {PF : Int → Int → (Int → Int) → Prop} (hR : RunH Tk Gd (X 5) (X 0 6) PF) (h0 : PF 0 0 (X 1)) {w : Int} {Q : Int → HP → Prop} (K0 : ¬ (0 ≤ w ∧ w ≤ 1) → Q (-1000001) (wX m h X)) (K : (0 ≤ w ∧ w ≤ 1) → ∀ v Z, RFaulty Tk PF X v Z → Q (if v = -1000004 then -1000004 else if w = 0 then v else Z 0 8) (wX m h Z)) : CaI (d + 13) 79 [.inr (some m), .inl w] (wX m h X) Q := by
  have hC : cod 79 = c_m_fault := rfl
  refine CaI.start rfl ?_
  refine x_1 (p' := 1) hC rfl rfl rfl rfl ?_
  refine x_1 (p' := 2) hC rfl rfl rfl rfl ?_
  refine x_1 (p' := 3) hC rfl rfl rfl rfl ?_
  refine x_cIS3 (p' := 4) (n := 2) hC rfl rfl rfl rfl rfl ?_
  refine sp_m_in ?_
  refine x_ifne (p' := 5) hC rfl rfl (fun c4 => ?_) (fun c4 => ?_)
  · have c4 := b2i_n0.mp c4
    refine x_1 (p' := 8) hC rfl rfl rfl rfl ?_
    refine x_cIV0 (p' := 9) (n := 78) hC rfl rfl rfl rfl rfl (hO.ty) ?_
    refine sp_m_faulty hO hT hGd hL htx hR h0 (fun v Z hZ => ?_)
    refine x_stI2 (p' := 10) hC rfl rfl rfl ?_
    refine x_1 (p' := 11) hC rfl rfl rfl rfl ?_
    refine x_ldc (p' := 12) (v := (-1000004)) hC rfl rfl (by decide) ?_
    refine x_iceq (p' := 13) hC rfl rfl (fun c12 => ?_) (fun c12 => ?_)
    · refine x_1 (p' := 16) hC rfl rfl rfl rfl ?_
      refine x_1 (p' := 19) hC rfl rfl rfl rfl ?_
      refine x_iret hC rfl rfl rfl ⟨_, rfl, ?_⟩
      first
        | exact K0 c4
        | (refine eqK (K c4 _ _ hZ) ?_
           repeat' split
           all_goals omega)
    · refine x_1 (p' := 14) hC rfl rfl rfl rfl ?_
      refine x_ifne (p' := 15) hC rfl rfl (fun c14 => ?_) (fun c14 => ?_)
      · refine x_1 (p' := 18) hC rfl rfl rfl rfl ?_
        refine y_gI (p' := 19) (kz := 8) hO hC rfl rfl rfl rfl ?_
        refine x_iret hC rfl rfl rfl ⟨_, rfl, ?_⟩
        first
          | exact K0 c4
          | (refine eqK (K c4 _ _ hZ) ?_
             repeat' split
             all_goals omega)
      · refine x_1 (p' := 16) hC rfl rfl rfl rfl ?_
        refine x_1 (p' := 19) hC rfl rfl rfl rfl ?_
        refine x_iret hC rfl rfl rfl ⟨_, rfl, ?_⟩
        first
          | exact K0 c4
          | (refine eqK (K c4 _ _ hZ) ?_
             repeat' split
             all_goals omega)
  · have c4 := b2i_0.mp c4
    refine x_ldc (p' := 6) (v := (-1000001)) hC rfl rfl (by decide) ?_
    refine x_iret hC rfl rfl rfl ⟨_, rfl, ?_⟩
    first
      | exact K0 c4
      | (refine eqK (K c4 _ _ hZ) ?_
         repeat' split
         all_goals omega)

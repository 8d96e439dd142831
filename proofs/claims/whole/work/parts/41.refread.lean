/-! the reference's readers -/
def fI {α : Type} (n : Int) (g : Int → α → α) (a : α) : α := (List.range n.toNat).foldl (fun acc (k : Nat) => g ((k : Nat) : Int) acc) a
theorem fI_0 {α : Type} {g : Int → α → α} {a : α} : fI 0 g a = a := rfl
theorem fI_succ {α : Type} {g : Int → α → α} {a : α} {i : Int} (h : 0 ≤ i) : fI (i + 1) g a = g i (fI i g a) := by
  unfold fI
  rw [show (i + 1).toNat = i.toNat + 1 by omega, List.range_succ, List.foldl_append]
  show g ((i.toNat : Nat) : Int) _ = _
  rw [Int.toNat_of_nonneg h]
/-- the row's ranges, as the readers need them -/
def RI (s : Int → Int) : Prop := (1 ≤ s 0 ∧ s 0 ≤ 5) ∧ (0 ≤ s 1 ∧ s 1 ≤ 10) ∧ (0 ≤ s 7 ∧ s 7 ≤ 559) ∧ (0 ≤ s 5 ∧ s 5 ≤ 8) ∧
  (∀ h, 0 ≤ h → h < s 0 → -1 ≤ rOf s h 5 ∧ rOf s h 5 < h ∧ 1 ≤ rOf s h 4 ∧ rOf s h 4 ≤ 20) ∧ ∀ u, 0 ≤ u → u < s 1 → 0 ≤ rIts s u 0 ∧ rIts s u 0 < s 0 ∧ 1 ≤ rIts s u 1 ∧ rIts s u 1 ≤ 20
abbrev rChild (s : Int → Int) (h c : Int) : Prop := (c < 10 ∧ 0 ≤ c ∧ c ≤ s 1 - 1 ∧ rIts s c 2 = 0 ∧ rIts s c 0 = h) ∨ (10 ≤ c ∧ 0 ≤ c - 10 ∧ c - 10 ≤ s 0 - 1 ∧ rOf s (c - 10) 5 = h)
def rPer (s : Int → Int) (c : Int) : Int := if c < 10 then rIts s c 1 else rOf s (c - 10) 4
set_option maxRecDepth 20000 in
theorem sp_m_isChild {d : Nat} {m : Nat} {h : HP} (hO : RO m h) {X : Nat → Int → Int} (hs : RI (X 1)) {f c : Int} (hc : 0 ≤ c ∧ c < 15) {Q : Int → HP → Prop} (K : Q (b2i (rChild (X 1) f c)) (wX m h X)) : CaI (d + 2) 15 [.inr (some m), .inl f, .inl c] (wX m h X) Q := by
  have hC : cod 15 = c_m_isChild := rfl
  refine CaI.start rfl ?_
  have hs1 := hs.1
  have hs2 := hs.2.1
  refine x_1 (p' := 1) hC rfl rfl rfl rfl ?_
  refine x_1 (p' := 2) hC rfl rfl rfl rfl ?_
  refine x_icge (p' := 3) hC rfl rfl (fun c2 => ?_) (fun c2 => ?_)
  · refine x_1 (p' := 22) hC rfl rfl rfl rfl ?_
    refine x_1 (p' := 23) hC rfl rfl rfl rfl ?_
    refine x_1 (p' := 24) hC rfl rfl rfl rfl ?_
    refine x_sub (p' := 25) hC rfl rfl rfl (⟨by omega, by omega⟩) ?_
    refine x_cIV1 (p' := 26) (n := 7) hC rfl rfl rfl rfl rfl (hO.ty) ?_
    refine sp_m_isHub hO (by have := hs.1; omega) ?_
    refine x_ifeq (p' := 27) hC rfl rfl (fun c26 => ?_) (fun c26 => ?_)
    · have c26 := b2i_0.mp c26
      refine x_1 (p' := 38) hC rfl rfl rfl rfl ?_
      refine x_zret hC rfl rfl rfl (by first | omega | exact b2i_01 _) ⟨_, rfl, ?_⟩
      refine eqK K ?_
      first | exact b2i_t (by omega) | exact b2i_f (by omega)
    · have c26 := b2i_n0.mp c26
      refine x_1 (p' := 28) hC rfl rfl rfl rfl ?_
      refine x_1 (p' := 29) hC rfl rfl rfl rfl ?_
      refine x_1 (p' := 30) hC rfl rfl rfl rfl ?_
      refine x_sub (p' := 31) hC rfl rfl rfl (⟨by omega, by omega⟩) ?_
      refine x_1 (p' := 32) hC rfl rfl rfl rfl ?_
      refine x_cIV2 (p' := 33) (n := 3) hC rfl rfl rfl rfl rfl (hO.ty) ?_
      refine sp_m_of hO (by omega) (by omega) ?_
      refine x_1 (p' := 34) hC rfl rfl rfl rfl ?_
      refine x_icne (p' := 35) hC rfl rfl (fun c34 => ?_) (fun c34 => ?_)
      · refine x_1 (p' := 38) hC rfl rfl rfl rfl ?_
        refine x_zret hC rfl rfl rfl (by first | omega | exact b2i_01 _) ⟨_, rfl, ?_⟩
        refine eqK K ?_
        first | exact b2i_t (by omega) | exact b2i_f (by omega)
      · refine x_1 (p' := 36) hC rfl rfl rfl rfl ?_
        refine x_1 (p' := 38) hC rfl rfl rfl rfl ?_
        refine x_zret hC rfl rfl rfl (by first | omega | exact b2i_01 _) ⟨_, rfl, ?_⟩
        refine eqK K ?_
        first | exact b2i_t (by omega) | exact b2i_f (by omega)
  · refine x_1 (p' := 4) hC rfl rfl rfl rfl ?_
    refine x_1 (p' := 5) hC rfl rfl rfl rfl ?_
    refine x_cIV1 (p' := 6) (n := 8) hC rfl rfl rfl rfl rfl (hO.ty) ?_
    refine sp_m_isUnit hO hs.2.1 ?_
    refine x_ifeq (p' := 7) hC rfl rfl (fun c6 => ?_) (fun c6 => ?_)
    · have c6 := b2i_0.mp c6
      refine x_1 (p' := 20) hC rfl rfl rfl rfl ?_
      refine x_zret hC rfl rfl rfl (by first | omega | exact b2i_01 _) ⟨_, rfl, ?_⟩
      refine eqK K ?_
      first | exact b2i_t (by omega) | exact b2i_f (by omega)
    · have c6 := b2i_n0.mp c6
      refine x_1 (p' := 8) hC rfl rfl rfl rfl ?_
      refine x_1 (p' := 9) hC rfl rfl rfl rfl ?_
      refine x_cIV1 (p' := 10) (n := 9) hC rfl rfl rfl rfl rfl (hO.ty) ?_
      refine sp_m_isOn hO (by omega) ?_
      refine x_ifeq (p' := 11) hC rfl rfl (fun c10 => ?_) (fun c10 => ?_)
      · have c10 := b2i_0.mp c10
        refine x_1 (p' := 20) hC rfl rfl rfl rfl ?_
        refine x_zret hC rfl rfl rfl (by first | omega | exact b2i_01 _) ⟨_, rfl, ?_⟩
        refine eqK K ?_
        first | exact b2i_t (by omega) | exact b2i_f (by omega)
      · have c10 := b2i_n0.mp c10
        refine x_1 (p' := 12) hC rfl rfl rfl rfl ?_
        refine x_1 (p' := 13) hC rfl rfl rfl rfl ?_
        refine x_1 (p' := 14) hC rfl rfl rfl rfl ?_
        refine x_cIV2 (p' := 15) (n := 4) hC rfl rfl rfl rfl rfl (hO.ty) ?_
        refine sp_m_its hO (by omega) (by omega) ?_
        refine x_1 (p' := 16) hC rfl rfl rfl rfl ?_
        refine x_icne (p' := 17) hC rfl rfl (fun c16 => ?_) (fun c16 => ?_)
        · refine x_1 (p' := 20) hC rfl rfl rfl rfl ?_
          refine x_zret hC rfl rfl rfl (by first | omega | exact b2i_01 _) ⟨_, rfl, ?_⟩
          refine eqK K ?_
          first | exact b2i_t (by omega) | exact b2i_f (by omega)
        · refine x_1 (p' := 18) hC rfl rfl rfl rfl ?_
          refine x_1 (p' := 20) hC rfl rfl rfl rfl ?_
          refine x_zret hC rfl rfl rfl (by first | omega | exact b2i_01 _) ⟨_, rfl, ?_⟩
          refine eqK K ?_
          first | exact b2i_t (by omega) | exact b2i_f (by omega)
set_option maxRecDepth 20000 in
theorem sp_m_periodOf {d : Nat} {m : Nat} {h : HP} (hO : RO m h) {X : Nat → Int → Int} {c : Int} (hc : 0 ≤ c ∧ c < 15) {Q : Int → HP → Prop} (K : Q (rPer (X 1) c) (wX m h X)) : CaI (d + 1) 16 [.inr (some m), .inl c] (wX m h X) Q := by
  have hC : cod 16 = c_m_periodOf := rfl
  refine CaI.start rfl ?_
  refine x_1 (p' := 1) hC rfl rfl rfl rfl ?_
  refine x_1 (p' := 2) hC rfl rfl rfl rfl ?_
  refine x_icge (p' := 3) hC rfl rfl (fun c2 => ?_) (fun c2 => ?_)
  · refine x_1 (p' := 9) hC rfl rfl rfl rfl ?_
    refine x_1 (p' := 10) hC rfl rfl rfl rfl ?_
    refine x_1 (p' := 11) hC rfl rfl rfl rfl ?_
    refine x_sub (p' := 12) hC rfl rfl rfl (⟨by omega, by omega⟩) ?_
    refine x_1 (p' := 13) hC rfl rfl rfl rfl ?_
    refine x_cIV2 (p' := 14) (n := 3) hC rfl rfl rfl rfl rfl (hO.ty) ?_
    refine sp_m_of hO (by omega) (by omega) ?_
    refine x_iret hC rfl rfl rfl ⟨_, rfl, ?_⟩
    refine eqK K ?_
    unfold rPer
    first | exact if_pos (by omega) | exact if_neg (by omega)
  · refine x_1 (p' := 4) hC rfl rfl rfl rfl ?_
    refine x_1 (p' := 5) hC rfl rfl rfl rfl ?_
    refine x_1 (p' := 6) hC rfl rfl rfl rfl ?_
    refine x_cIV2 (p' := 7) (n := 4) hC rfl rfl rfl rfl rfl (hO.ty) ?_
    refine sp_m_its hO (by omega) (by omega) ?_
    refine x_1 (p' := 14) hC rfl rfl rfl rfl ?_
    refine x_iret hC rfl rfl rfl ⟨_, rfl, ?_⟩
    refine eqK K ?_
    unfold rPer
    first | exact if_pos (by omega) | exact if_neg (by omega)
/-- from hub x up to hub f: the child that is passed last -/
def rThr (s : Int → Int) (f : Int) : Nat → Int → Int → Int
  | 0, _, _ => -1
  | n + 1, c, x => if x < 0 then -1 else if x = f then c else rThr s f n (10 + x) (rOf s x 5)
def rThrough (s : Int → Int) (f u : Int) : Int := rThr s f 6 u (rIts s u 0)
set_option maxRecDepth 20000 in
theorem lp_m_through {d : Nat} {m : Nat} {h : HP} (hO : RO m h) {X : Nat → Int → Int} (hs : RI (X 1)) {f u : Int} (hf : 0 ≤ f) {Q : Int → HP → Prop} {Kf : Int} (K : Q Kf (wX m h X)) (k : Nat) : ∀ (c : Int) (x : Int), (x + 1).toNat < k → (-1 ≤ x ∧ x < 5 ∧ x < X 1 0) → (∃ n : Nat, x + 1 ≤ n ∧ rThr (X 1) f (n + 1) c x = Kf) → At (d + 1) 17 7 [some (.inr (some m)), some (.inl f), some (.inl u), some (.inl c), some (.inl x)] [] (wX m h X) (fun v h' => ∃ x, v = some (.inl x) ∧ Q x h') := by
  have hC : cod 17 = c_m_through := rfl
  induction k with
  | zero =>
    intro c x hk
    exact absurd hk (Nat.not_lt_zero _)
  | succ k ih =>
    intro c x hk hI0 hI1
    obtain ⟨n, hn, hT⟩ := hI1
    refine x_1 (p' := 8) hC rfl rfl rfl rfl ?_
    refine x_iflt (p' := 9) hC rfl rfl (fun c8 => ?_) (fun c8 => ?_)
    · refine x_1 (p' := 23) hC rfl rfl rfl rfl ?_
      refine x_1 (p' := 24) hC rfl rfl rfl rfl ?_
      refine x_icne (p' := 25) hC rfl rfl (fun c24 => ?_) (fun c24 => ?_)
      · refine x_1 (p' := 28) hC rfl rfl rfl rfl ?_
        refine x_iret hC rfl rfl rfl ⟨_, rfl, ?_⟩
        refine eqK K ?_
        rw [← hT, rThr]
        first | exact if_pos (by omega) | (rw [if_neg (by omega)]; first | exact if_pos (by omega) | exact if_neg (by omega))
      · refine x_1 (p' := 26) hC rfl rfl rfl rfl ?_
        refine x_1 (p' := 28) hC rfl rfl rfl rfl ?_
        refine x_iret hC rfl rfl rfl ⟨_, rfl, ?_⟩
        refine eqK K ?_
        rw [← hT, rThr]
        first | exact if_pos (by omega) | (rw [if_neg (by omega)]; first | exact if_pos (by omega) | exact if_neg (by omega))
    · refine x_1 (p' := 10) hC rfl rfl rfl rfl ?_
      refine x_1 (p' := 11) hC rfl rfl rfl rfl ?_
      refine x_iceq (p' := 12) hC rfl rfl (fun c11 => ?_) (fun c11 => ?_)
      · refine x_1 (p' := 23) hC rfl rfl rfl rfl ?_
        refine x_1 (p' := 24) hC rfl rfl rfl rfl ?_
        refine x_icne (p' := 25) hC rfl rfl (fun c24 => ?_) (fun c24 => ?_)
        · refine x_1 (p' := 28) hC rfl rfl rfl rfl ?_
          refine x_iret hC rfl rfl rfl ⟨_, rfl, ?_⟩
          refine eqK K ?_
          rw [← hT, rThr]
          first | exact if_pos (by omega) | (rw [if_neg (by omega)]; first | exact if_pos (by omega) | exact if_neg (by omega))
        · refine x_1 (p' := 26) hC rfl rfl rfl rfl ?_
          refine x_1 (p' := 28) hC rfl rfl rfl rfl ?_
          refine x_iret hC rfl rfl rfl ⟨_, rfl, ?_⟩
          refine eqK K ?_
          rw [← hT, rThr]
          first | exact if_pos (by omega) | (rw [if_neg (by omega)]; first | exact if_pos (by omega) | exact if_neg (by omega))
      · have hx := hs.2.2.2.2.1 x (by omega) (by omega)
        refine x_1 (p' := 13) hC rfl rfl rfl rfl ?_
        refine x_1 (p' := 14) hC rfl rfl rfl rfl ?_
        refine x_add (p' := 15) hC rfl rfl rfl (⟨by omega, by omega⟩) ?_
        refine x_stI3 (p' := 16) hC rfl rfl rfl ?_
        refine x_1 (p' := 17) hC rfl rfl rfl rfl ?_
        refine x_1 (p' := 18) hC rfl rfl rfl rfl ?_
        refine x_1 (p' := 19) hC rfl rfl rfl rfl ?_
        refine x_cIV2 (p' := 20) (n := 3) hC rfl rfl rfl rfl rfl (hO.ty) ?_
        refine sp_m_of hO (by omega) (by omega) ?_
        refine x_stI4 (p' := 21) hC rfl rfl rfl ?_
        refine x_1 (p' := 7) hC rfl rfl rfl rfl ?_
        have hx := hs.2.2.2.2.1 x (by omega) (by omega)
        exact ih _ _ (by omega) (by omega) ⟨n - 1, by omega, by rw [← hT, show n - 1 + 1 = n by omega, show rThr (X 1) f (n + 1) c x = rThr (X 1) f n (10 + x) (rOf (X 1) x 5) by rw [rThr, if_neg (by omega), if_neg (by omega)]]⟩
set_option maxRecDepth 20000 in
theorem sp_m_through {d : Nat} {m : Nat} {h : HP} (hO : RO m h) {X : Nat → Int → Int} (hs : RI (X 1)) {f u : Int} (hf : 0 ≤ f) (hu : 0 ≤ u ∧ u < X 1 1) {Q : Int → HP → Prop} (K : Q (rThrough (X 1) f u) (wX m h X)) : CaI (d + 1) 17 [.inr (some m), .inl f, .inl u] (wX m h X) Q := by
  have hC : cod 17 = c_m_through := rfl
  refine CaI.start rfl ?_
  have hu1 := hs.2.1
  have hu2 := hs.2.2.2.2.2 u hu.1 hu.2
  have hu3 := hs.1
  refine x_1 (p' := 1) hC rfl rfl rfl rfl ?_
  refine x_stI3 (p' := 2) hC rfl rfl rfl ?_
  refine x_1 (p' := 3) hC rfl rfl rfl rfl ?_
  refine x_1 (p' := 4) hC rfl rfl rfl rfl ?_
  refine x_1 (p' := 5) hC rfl rfl rfl rfl ?_
  refine x_cIV2 (p' := 6) (n := 4) hC rfl rfl rfl rfl rfl (hO.ty) ?_
  refine sp_m_its hO (by omega) (by omega) ?_
  refine x_stI4 (p' := 7) hC rfl rfl rfl ?_
  exact lp_m_through hO hs hf K _ _ _ (Nat.lt_succ_self _) (by omega) ⟨5, by omega, rfl⟩
abbrev rIsOf (s : Int → Int) (f u : Int) : Prop := rIts s u 2 = 0 ∧ 0 ≤ rThrough s f u
set_option maxRecDepth 20000 in
theorem sp_m_isOf {d : Nat} {m : Nat} {h : HP} (hO : RO m h) {X : Nat → Int → Int} (hs : RI (X 1)) {f u : Int} (hf : 0 ≤ f) (hu : 0 ≤ u ∧ u < X 1 1) {Q : Int → HP → Prop} (K : Q (b2i (rIsOf (X 1) f u)) (wX m h X)) : CaI (d + 2) 18 [.inr (some m), .inl f, .inl u] (wX m h X) Q := by
  have hC : cod 18 = c_m_isOf := rfl
  refine CaI.start rfl ?_
  have hu1 := hs.2.1
  refine x_1 (p' := 1) hC rfl rfl rfl rfl ?_
  refine x_1 (p' := 2) hC rfl rfl rfl rfl ?_
  refine x_cIV1 (p' := 3) (n := 9) hC rfl rfl rfl rfl rfl (hO.ty) ?_
  refine sp_m_isOn hO (by omega) ?_
  refine x_ifeq (p' := 4) hC rfl rfl (fun c3 => ?_) (fun c3 => ?_)
  · have c3 := b2i_0.mp c3
    refine x_1 (p' := 12) hC rfl rfl rfl rfl ?_
    refine x_zret hC rfl rfl rfl (by first | omega | exact b2i_01 _) ⟨_, rfl, ?_⟩
    refine eqK K ?_
    first | exact b2i_t (by omega) | exact b2i_f (by omega)
  · have c3 := b2i_n0.mp c3
    refine x_1 (p' := 5) hC rfl rfl rfl rfl ?_
    refine x_1 (p' := 6) hC rfl rfl rfl rfl ?_
    refine x_1 (p' := 7) hC rfl rfl rfl rfl ?_
    refine x_cIV2 (p' := 8) (n := 17) hC rfl rfl rfl rfl rfl (hO.ty) ?_
    refine sp_m_through hO hs (by omega) (by omega) ?_
    refine x_iflt (p' := 9) hC rfl rfl (fun c8 => ?_) (fun c8 => ?_)
    · refine x_1 (p' := 12) hC rfl rfl rfl rfl ?_
      refine x_zret hC rfl rfl rfl (by first | omega | exact b2i_01 _) ⟨_, rfl, ?_⟩
      refine eqK K ?_
      first | exact b2i_t (by omega) | exact b2i_f (by omega)
    · refine x_1 (p' := 10) hC rfl rfl rfl rfl ?_
      refine x_1 (p' := 12) hC rfl rfl rfl rfl ?_
      refine x_zret hC rfl rfl rfl (by first | omega | exact b2i_01 _) ⟨_, rfl, ?_⟩
      refine eqK K ?_
      first | exact b2i_t (by omega) | exact b2i_f (by omega)
def rDep (s : Int → Int) : Nat → Int → Int
  | 0, _ => 0
  | n + 1, x => if x < 0 then 0 else 1 + rDep s n (rOf s x 5)
def rDepth (s : Int → Int) (f : Int) : Int := rDep s 6 (rOf s f 5)
theorem rDep_le (s : Int → Int) : ∀ (n : Nat) (x : Int), 0 ≤ rDep s n x ∧ rDep s n x ≤ n
  | 0, x => ⟨Int.le_refl _, Int.le_refl _⟩
  | n + 1, x => by
    have := rDep_le s n (rOf s x 5)
    unfold rDep
    split <;> omega
set_option maxRecDepth 20000 in
theorem lp_m_depth {d : Nat} {m : Nat} {h : HP} (hO : RO m h) {X : Nat → Int → Int} (hs : RI (X 1)) {f : Int} {Q : Int → HP → Prop} {Kf : Int} (K : Q Kf (wX m h X)) (k : Nat) : ∀ (n : Int) (x : Int), (x + 1).toNat < k → (-1 ≤ x ∧ x < 5 ∧ x < X 1 0 ∧ 0 ≤ n ∧ n ≤ 1000 - x) → (∃ q : Nat, x + 1 ≤ q ∧ n + rDep (X 1) (q + 1) x = Kf) → At (d + 1) 19 7 [some (.inr (some m)), some (.inl f), some (.inl n), some (.inl x)] [] (wX m h X) (fun v h' => ∃ x, v = some (.inl x) ∧ Q x h') := by
  have hC : cod 19 = c_m_depth := rfl
  induction k with
  | zero =>
    intro n x hk
    exact absurd hk (Nat.not_lt_zero _)
  | succ k ih =>
    intro n x hk hI0 hI1
    obtain ⟨q, hq, hT⟩ := hI1
    refine x_1 (p' := 8) hC rfl rfl rfl rfl ?_
    refine x_iflt (p' := 9) hC rfl rfl (fun c8 => ?_) (fun c8 => ?_)
    · refine x_1 (p' := 17) hC rfl rfl rfl rfl ?_
      refine x_iret hC rfl rfl rfl ⟨_, rfl, ?_⟩
      refine eqK K ?_
      rw [← hT, rDep, if_pos (by omega)]; omega
    · have hx := hs.2.2.2.2.1 x (by omega) (by omega)
      refine x_inc2 (p' := 10) hC rfl rfl (⟨by omega, by omega⟩) ?_
      refine x_1 (p' := 11) hC rfl rfl rfl rfl ?_
      refine x_1 (p' := 12) hC rfl rfl rfl rfl ?_
      refine x_1 (p' := 13) hC rfl rfl rfl rfl ?_
      refine x_cIV2 (p' := 14) (n := 3) hC rfl rfl rfl rfl rfl (hO.ty) ?_
      refine sp_m_of hO (by omega) (by omega) ?_
      refine x_stI3 (p' := 15) hC rfl rfl rfl ?_
      refine x_1 (p' := 7) hC rfl rfl rfl rfl ?_
      exact ih _ _ (by omega) (by omega) ⟨q - 1, by omega, by rw [← hT, show q - 1 + 1 = q by omega, show rDep (X 1) (q + 1) x = 1 + rDep (X 1) q (rOf (X 1) x 5) by rw [rDep, if_neg (by omega)]]; omega⟩
set_option maxRecDepth 20000 in
theorem sp_m_depth {d : Nat} {m : Nat} {h : HP} (hO : RO m h) {X : Nat → Int → Int} (hs : RI (X 1)) {f : Int} (hf : 0 ≤ f ∧ f < X 1 0) {Q : Int → HP → Prop} (K : Q (rDepth (X 1) f) (wX m h X)) : CaI (d + 1) 19 [.inr (some m), .inl f] (wX m h X) Q := by
  have hC : cod 19 = c_m_depth := rfl
  refine CaI.start rfl ?_
  have hu1 := hs.1
  have hu2 := hs.2.2.2.2.1 f hf.1 hf.2
  refine x_1 (p' := 1) hC rfl rfl rfl rfl ?_
  refine x_stI2 (p' := 2) hC rfl rfl rfl ?_
  refine x_1 (p' := 3) hC rfl rfl rfl rfl ?_
  refine x_1 (p' := 4) hC rfl rfl rfl rfl ?_
  refine x_1 (p' := 5) hC rfl rfl rfl rfl ?_
  refine x_cIV2 (p' := 6) (n := 3) hC rfl rfl rfl rfl rfl (hO.ty) ?_
  refine sp_m_of hO (by omega) (by omega) ?_
  refine x_stI3 (p' := 7) hC rfl rfl rfl ?_
  exact lp_m_depth hO hs K _ _ _ (Nat.lt_succ_self _) (by omega) ⟨5, by omega, Int.zero_add _⟩
noncomputable def rOn (s : Int → Int) : Int := fI (s 1) (fun u n => n + b2i (rIts s u 2 = 0)) 0
set_option maxRecDepth 20000 in
theorem lp_m_on {d : Nat} {m : Nat} {h : HP} (hO : RO m h) {X : Nat → Int → Int} (hs : RI (X 1)) {Q : Int → HP → Prop} (K : Q (rOn (X 1)) (wX m h X)) (k : Nat) : ∀ (n : Int) (u : Int), (X 1 1 - u).toNat < k → (0 ≤ u ∧ u ≤ X 1 1) → (0 ≤ n ∧ n ≤ u) → (n = fI u (fun u n => n + b2i (rIts (X 1) u 2 = 0)) 0) → At (d + 2) 20 4 [some (.inr (some m)), some (.inl n), some (.inl u)] [] (wX m h X) (fun v h' => ∃ x, v = some (.inl x) ∧ Q x h') := by
  have hC : cod 20 = c_m_on := rfl
  induction k with
  | zero =>
    intro n u hk
    exact absurd hk (Nat.not_lt_zero _)
  | succ k ih =>
    intro n u hk hI0 hI1 hI2
    have hs2 := hs.2.1
    refine x_1 (p' := 5) hC rfl rfl rfl rfl ?_
    refine x_1 (p' := 6) hC rfl rfl rfl rfl ?_
    refine y_gR (p' := 7) (n := 1) hO hC rfl rfl rfl rfl ?_
    refine x_1 (p' := 8) hC rfl rfl rfl rfl ?_
    refine y_ld (p' := 9) (L := 15568) hO hC rfl rfl rfl rfl (by omega) (by omega) ?_
    refine x_icge (p' := 10) hC rfl rfl (fun c9 => ?_) (fun c9 => ?_)
    · refine x_1 (p' := 23) hC rfl rfl rfl rfl ?_
      refine x_iret hC rfl rfl rfl ⟨_, rfl, ?_⟩
      refine eqK K ?_
      rw [hI2, show u = X 1 1 by omega]; rfl
    · refine x_1 (p' := 11) hC rfl rfl rfl rfl ?_
      refine x_1 (p' := 12) hC rfl rfl rfl rfl ?_
      refine x_1 (p' := 13) hC rfl rfl rfl rfl ?_
      refine x_cIV1 (p' := 14) (n := 9) hC rfl rfl rfl rfl rfl (hO.ty) ?_
      refine sp_m_isOn hO (by omega) ?_
      refine x_ifeq (p' := 15) hC rfl rfl (fun c14 => ?_) (fun c14 => ?_)
      · have c14 := b2i_0.mp c14
        refine x_1 (p' := 18) hC rfl rfl rfl rfl ?_
        refine x_add (p' := 19) hC rfl rfl rfl (⟨by omega, by omega⟩) ?_
        refine x_stI1 (p' := 20) hC rfl rfl rfl ?_
        refine x_inc2 (p' := 21) hC rfl rfl (⟨by omega, by omega⟩) ?_
        refine x_1 (p' := 4) hC rfl rfl rfl rfl ?_
        exact ih _ _ (by omega) (by omega) (by omega) (by rw [fI_succ (by omega), ← hI2]; first | (rw [b2i_t (by omega)]) | (rw [b2i_f (by omega)]))
      · have c14 := b2i_n0.mp c14
        refine x_1 (p' := 16) hC rfl rfl rfl rfl ?_
        refine x_1 (p' := 18) hC rfl rfl rfl rfl ?_
        refine x_add (p' := 19) hC rfl rfl rfl (⟨by omega, by omega⟩) ?_
        refine x_stI1 (p' := 20) hC rfl rfl rfl ?_
        refine x_inc2 (p' := 21) hC rfl rfl (⟨by omega, by omega⟩) ?_
        refine x_1 (p' := 4) hC rfl rfl rfl rfl ?_
        exact ih _ _ (by omega) (by omega) (by omega) (by rw [fI_succ (by omega), ← hI2]; first | (rw [b2i_t (by omega)]) | (rw [b2i_f (by omega)]))
set_option maxRecDepth 20000 in
theorem sp_m_on {d : Nat} {m : Nat} {h : HP} (hO : RO m h) {X : Nat → Int → Int} (hs : RI (X 1)) {Q : Int → HP → Prop} (K : Q (rOn (X 1)) (wX m h X)) : CaI (d + 2) 20 [.inr (some m)] (wX m h X) Q := by
  have hC : cod 20 = c_m_on := rfl
  refine CaI.start rfl ?_
  have hs2 := hs.2.1
  refine x_1 (p' := 1) hC rfl rfl rfl rfl ?_
  refine x_stI1 (p' := 2) hC rfl rfl rfl ?_
  refine x_1 (p' := 3) hC rfl rfl rfl rfl ?_
  refine x_stI2 (p' := 4) hC rfl rfl rfl ?_
  exact lp_m_on hO hs K _ _ _ (Nat.lt_succ_self _) (by omega) (by omega) rfl
noncomputable def rChildren (s : Int → Int) (f : Int) : Int := fI 15 (fun c n => n + b2i (rChild s f c)) 0
set_option maxRecDepth 20000 in
theorem lp_m_children {d : Nat} {m : Nat} {h : HP} (hO : RO m h) {X : Nat → Int → Int} (hs : RI (X 1)) {f : Int} {Q : Int → HP → Prop} (K : Q (rChildren (X 1) f) (wX m h X)) (k : Nat) : ∀ (n : Int) (u : Int), (15 - u).toNat < k → (0 ≤ u ∧ u ≤ 15) → (0 ≤ n ∧ n ≤ u) → (n = fI u (fun c n => n + b2i (rChild (X 1) f c)) 0) → At (d + 3) 27 4 [some (.inr (some m)), some (.inl f), some (.inl n), some (.inl u)] [] (wX m h X) (fun v h' => ∃ x, v = some (.inl x) ∧ Q x h') := by
  have hC : cod 27 = c_m_children := rfl
  induction k with
  | zero =>
    intro n u hk
    exact absurd hk (Nat.not_lt_zero _)
  | succ k ih =>
    intro n u hk hI0 hI1 hI2
    refine x_1 (p' := 5) hC rfl rfl rfl rfl ?_
    refine x_1 (p' := 6) hC rfl rfl rfl rfl ?_
    refine x_icge (p' := 7) hC rfl rfl (fun c6 => ?_) (fun c6 => ?_)
    · refine x_1 (p' := 21) hC rfl rfl rfl rfl ?_
      refine x_iret hC rfl rfl rfl ⟨_, rfl, ?_⟩
      refine eqK K ?_
      rw [hI2, show u = 15 by omega]; rfl
    · refine x_1 (p' := 8) hC rfl rfl rfl rfl ?_
      refine x_1 (p' := 9) hC rfl rfl rfl rfl ?_
      refine x_1 (p' := 10) hC rfl rfl rfl rfl ?_
      refine x_1 (p' := 11) hC rfl rfl rfl rfl ?_
      refine x_cIV2 (p' := 12) (n := 15) hC rfl rfl rfl rfl rfl (hO.ty) ?_
      refine sp_m_isChild hO hs (by omega) ?_
      refine x_ifeq (p' := 13) hC rfl rfl (fun c12 => ?_) (fun c12 => ?_)
      · have c12 := b2i_0.mp c12
        refine x_1 (p' := 16) hC rfl rfl rfl rfl ?_
        refine x_add (p' := 17) hC rfl rfl rfl (⟨by omega, by omega⟩) ?_
        refine x_stI2 (p' := 18) hC rfl rfl rfl ?_
        refine x_inc3 (p' := 19) hC rfl rfl (⟨by omega, by omega⟩) ?_
        refine x_1 (p' := 4) hC rfl rfl rfl rfl ?_
        exact ih _ _ (by omega) (by omega) (by omega) (by rw [fI_succ (by omega), ← hI2]; first | (rw [b2i_t (by omega)]) | (rw [b2i_f (by omega)]))
      · have c12 := b2i_n0.mp c12
        refine x_1 (p' := 14) hC rfl rfl rfl rfl ?_
        refine x_1 (p' := 16) hC rfl rfl rfl rfl ?_
        refine x_add (p' := 17) hC rfl rfl rfl (⟨by omega, by omega⟩) ?_
        refine x_stI2 (p' := 18) hC rfl rfl rfl ?_
        refine x_inc3 (p' := 19) hC rfl rfl (⟨by omega, by omega⟩) ?_
        refine x_1 (p' := 4) hC rfl rfl rfl rfl ?_
        exact ih _ _ (by omega) (by omega) (by omega) (by rw [fI_succ (by omega), ← hI2]; first | (rw [b2i_t (by omega)]) | (rw [b2i_f (by omega)]))
set_option maxRecDepth 20000 in
theorem sp_m_children {d : Nat} {m : Nat} {h : HP} (hO : RO m h) {X : Nat → Int → Int} (hs : RI (X 1)) {f : Int} {Q : Int → HP → Prop} (K : Q (rChildren (X 1) f) (wX m h X)) : CaI (d + 3) 27 [.inr (some m), .inl f] (wX m h X) Q := by
  have hC : cod 27 = c_m_children := rfl
  refine CaI.start rfl ?_
  refine x_1 (p' := 1) hC rfl rfl rfl rfl ?_
  refine x_stI2 (p' := 2) hC rfl rfl rfl ?_
  refine x_1 (p' := 3) hC rfl rfl rfl rfl ?_
  refine x_stI3 (p' := 4) hC rfl rfl rfl ?_
  exact lp_m_children hO hs K _ _ _ (Nat.lt_succ_self _) (by omega) (by omega) rfl
noncomputable def rUnitsOf (s : Int → Int) (f : Int) : Int := fI (s 1) (fun u n => n + b2i (rIsOf s f u)) 0
set_option maxRecDepth 20000 in
theorem lp_m_unitsOf {d : Nat} {m : Nat} {h : HP} (hO : RO m h) {X : Nat → Int → Int} (hs : RI (X 1)) {f : Int} (hf : 0 ≤ f) {Q : Int → HP → Prop} (K : Q (rUnitsOf (X 1) f) (wX m h X)) (k : Nat) : ∀ (n : Int) (u : Int), (X 1 1 - u).toNat < k → (0 ≤ u ∧ u ≤ X 1 1) → (0 ≤ n ∧ n ≤ u) → (n = fI u (fun u n => n + b2i (rIsOf (X 1) f u)) 0) → At (d + 3) 28 4 [some (.inr (some m)), some (.inl f), some (.inl n), some (.inl u)] [] (wX m h X) (fun v h' => ∃ x, v = some (.inl x) ∧ Q x h') := by
  have hC : cod 28 = c_m_unitsOf := rfl
  induction k with
  | zero =>
    intro n u hk
    exact absurd hk (Nat.not_lt_zero _)
  | succ k ih =>
    intro n u hk hI0 hI1 hI2
    have hs2 := hs.2.1
    refine x_1 (p' := 5) hC rfl rfl rfl rfl ?_
    refine x_1 (p' := 6) hC rfl rfl rfl rfl ?_
    refine y_gR (p' := 7) (n := 1) hO hC rfl rfl rfl rfl ?_
    refine x_1 (p' := 8) hC rfl rfl rfl rfl ?_
    refine y_ld (p' := 9) (L := 15568) hO hC rfl rfl rfl rfl (by omega) (by omega) ?_
    refine x_icge (p' := 10) hC rfl rfl (fun c9 => ?_) (fun c9 => ?_)
    · refine x_1 (p' := 24) hC rfl rfl rfl rfl ?_
      refine x_iret hC rfl rfl rfl ⟨_, rfl, ?_⟩
      refine eqK K ?_
      rw [hI2, show u = X 1 1 by omega]; rfl
    · refine x_1 (p' := 11) hC rfl rfl rfl rfl ?_
      refine x_1 (p' := 12) hC rfl rfl rfl rfl ?_
      refine x_1 (p' := 13) hC rfl rfl rfl rfl ?_
      refine x_1 (p' := 14) hC rfl rfl rfl rfl ?_
      refine x_cIV2 (p' := 15) (n := 18) hC rfl rfl rfl rfl rfl (hO.ty) ?_
      refine sp_m_isOf hO hs (by omega) (by omega) ?_
      refine x_ifeq (p' := 16) hC rfl rfl (fun c15 => ?_) (fun c15 => ?_)
      · have c15 := b2i_0.mp c15
        refine x_1 (p' := 19) hC rfl rfl rfl rfl ?_
        refine x_add (p' := 20) hC rfl rfl rfl (⟨by omega, by omega⟩) ?_
        refine x_stI2 (p' := 21) hC rfl rfl rfl ?_
        refine x_inc3 (p' := 22) hC rfl rfl (⟨by omega, by omega⟩) ?_
        refine x_1 (p' := 4) hC rfl rfl rfl rfl ?_
        exact ih _ _ (by omega) (by omega) (by omega) (by rw [fI_succ (by omega), ← hI2]; first | (rw [b2i_t (by assumption)]) | (rw [b2i_f (by assumption)]))
      · have c15 := b2i_n0.mp c15
        refine x_1 (p' := 17) hC rfl rfl rfl rfl ?_
        refine x_1 (p' := 19) hC rfl rfl rfl rfl ?_
        refine x_add (p' := 20) hC rfl rfl rfl (⟨by omega, by omega⟩) ?_
        refine x_stI2 (p' := 21) hC rfl rfl rfl ?_
        refine x_inc3 (p' := 22) hC rfl rfl (⟨by omega, by omega⟩) ?_
        refine x_1 (p' := 4) hC rfl rfl rfl rfl ?_
        exact ih _ _ (by omega) (by omega) (by omega) (by rw [fI_succ (by omega), ← hI2]; first | (rw [b2i_t (by assumption)]) | (rw [b2i_f (by assumption)]))
set_option maxRecDepth 20000 in
theorem sp_m_unitsOf {d : Nat} {m : Nat} {h : HP} (hO : RO m h) {X : Nat → Int → Int} (hs : RI (X 1)) {f : Int} (hf : 0 ≤ f) {Q : Int → HP → Prop} (K : Q (rUnitsOf (X 1) f) (wX m h X)) : CaI (d + 3) 28 [.inr (some m), .inl f] (wX m h X) Q := by
  have hC : cod 28 = c_m_unitsOf := rfl
  refine CaI.start rfl ?_
  have hs2 := hs.2.1
  refine x_1 (p' := 1) hC rfl rfl rfl rfl ?_
  refine x_stI2 (p' := 2) hC rfl rfl rfl ?_
  refine x_1 (p' := 3) hC rfl rfl rfl rfl ?_
  refine x_stI3 (p' := 4) hC rfl rfl rfl ?_
  exact lp_m_unitsOf hO hs hf K _ _ _ (Nat.lt_succ_self _) (by omega) (by omega) rfl
noncomputable def rOnWay (s : Int → Int) (c : Int) : Int := fI (s 7) (fun f n => n + b2i (rFr s f 0 = 1 ∧ rFr s f 2 = c)) 0
set_option maxRecDepth 20000 in
theorem lp_m_onWay {d : Nat} {m : Nat} {h : HP} (hO : RO m h) {X : Nat → Int → Int} (hs : RI (X 1)) {c : Int} {Q : Int → HP → Prop} (K : Q (rOnWay (X 1) c) (wX m h X)) (k : Nat) : ∀ (n : Int) (u : Int), (X 1 7 - u).toNat < k → (0 ≤ u ∧ u ≤ X 1 7) → (0 ≤ n ∧ n ≤ u) → (n = fI u (fun f n => n + b2i (rFr (X 1) f 0 = 1 ∧ rFr (X 1) f 2 = c)) 0) → At (d + 1) 29 4 [some (.inr (some m)), some (.inl c), some (.inl n), some (.inl u)] [] (wX m h X) (fun v h' => ∃ x, v = some (.inl x) ∧ Q x h') := by
  have hC : cod 29 = c_m_onWay := rfl
  induction k with
  | zero =>
    intro n u hk
    exact absurd hk (Nat.not_lt_zero _)
  | succ k ih =>
    intro n u hk hI0 hI1 hI2
    have hs2 := hs.2.2.1
    refine x_1 (p' := 5) hC rfl rfl rfl rfl ?_
    refine x_1 (p' := 6) hC rfl rfl rfl rfl ?_
    refine y_gR (p' := 7) (n := 1) hO hC rfl rfl rfl rfl ?_
    refine x_1 (p' := 8) hC rfl rfl rfl rfl ?_
    refine y_ld (p' := 9) (L := 15568) hO hC rfl rfl rfl rfl (by omega) (by omega) ?_
    refine x_icge (p' := 10) hC rfl rfl (fun c9 => ?_) (fun c9 => ?_)
    · refine x_1 (p' := 31) hC rfl rfl rfl rfl ?_
      refine x_iret hC rfl rfl rfl ⟨_, rfl, ?_⟩
      refine eqK K ?_
      rw [hI2, show u = X 1 7 by omega]; rfl
    · refine x_1 (p' := 11) hC rfl rfl rfl rfl ?_
      refine x_1 (p' := 12) hC rfl rfl rfl rfl ?_
      refine x_1 (p' := 13) hC rfl rfl rfl rfl ?_
      refine x_1 (p' := 14) hC rfl rfl rfl rfl ?_
      refine x_cIV2 (p' := 15) (n := 5) hC rfl rfl rfl rfl rfl (hO.ty) ?_
      refine sp_m_fr hO (by omega) (by omega) ?_
      refine x_1 (p' := 16) hC rfl rfl rfl rfl ?_
      refine x_icne (p' := 17) hC rfl rfl (fun c16 => ?_) (fun c16 => ?_)
      · refine x_1 (p' := 26) hC rfl rfl rfl rfl ?_
        refine x_add (p' := 27) hC rfl rfl rfl (⟨by omega, by omega⟩) ?_
        refine x_stI2 (p' := 28) hC rfl rfl rfl ?_
        refine x_inc3 (p' := 29) hC rfl rfl (⟨by omega, by omega⟩) ?_
        refine x_1 (p' := 4) hC rfl rfl rfl rfl ?_
        exact ih _ _ (by omega) (by omega) (by omega) (by rw [fI_succ (by omega), ← hI2]; first | (rw [b2i_t (by omega)]) | (rw [b2i_f (by omega)]))
      · refine x_1 (p' := 18) hC rfl rfl rfl rfl ?_
        refine x_1 (p' := 19) hC rfl rfl rfl rfl ?_
        refine x_1 (p' := 20) hC rfl rfl rfl rfl ?_
        refine x_cIV2 (p' := 21) (n := 5) hC rfl rfl rfl rfl rfl (hO.ty) ?_
        refine sp_m_fr hO (by omega) (by omega) ?_
        refine x_1 (p' := 22) hC rfl rfl rfl rfl ?_
        refine x_icne (p' := 23) hC rfl rfl (fun c22 => ?_) (fun c22 => ?_)
        · refine x_1 (p' := 26) hC rfl rfl rfl rfl ?_
          refine x_add (p' := 27) hC rfl rfl rfl (⟨by omega, by omega⟩) ?_
          refine x_stI2 (p' := 28) hC rfl rfl rfl ?_
          refine x_inc3 (p' := 29) hC rfl rfl (⟨by omega, by omega⟩) ?_
          refine x_1 (p' := 4) hC rfl rfl rfl rfl ?_
          exact ih _ _ (by omega) (by omega) (by omega) (by rw [fI_succ (by omega), ← hI2]; first | (rw [b2i_t (by omega)]) | (rw [b2i_f (by omega)]))
        · refine x_1 (p' := 24) hC rfl rfl rfl rfl ?_
          refine x_1 (p' := 26) hC rfl rfl rfl rfl ?_
          refine x_add (p' := 27) hC rfl rfl rfl (⟨by omega, by omega⟩) ?_
          refine x_stI2 (p' := 28) hC rfl rfl rfl ?_
          refine x_inc3 (p' := 29) hC rfl rfl (⟨by omega, by omega⟩) ?_
          refine x_1 (p' := 4) hC rfl rfl rfl rfl ?_
          exact ih _ _ (by omega) (by omega) (by omega) (by rw [fI_succ (by omega), ← hI2]; first | (rw [b2i_t (by omega)]) | (rw [b2i_f (by omega)]))
set_option maxRecDepth 20000 in
theorem sp_m_onWay {d : Nat} {m : Nat} {h : HP} (hO : RO m h) {X : Nat → Int → Int} (hs : RI (X 1)) {c : Int} {Q : Int → HP → Prop} (K : Q (rOnWay (X 1) c) (wX m h X)) : CaI (d + 1) 29 [.inr (some m), .inl c] (wX m h X) Q := by
  have hC : cod 29 = c_m_onWay := rfl
  refine CaI.start rfl ?_
  have hs2 := hs.2.2.1
  refine x_1 (p' := 1) hC rfl rfl rfl rfl ?_
  refine x_stI2 (p' := 2) hC rfl rfl rfl ?_
  refine x_1 (p' := 3) hC rfl rfl rfl rfl ?_
  refine x_stI3 (p' := 4) hC rfl rfl rfl ?_
  exact lp_m_onWay hO hs K _ _ _ (Nat.lt_succ_self _) (by omega) (by omega) rfl

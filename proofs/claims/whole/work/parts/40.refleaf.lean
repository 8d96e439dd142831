/-! the reference's leaves -/
def rOf (s : Int → Int) (h w : Int) : Int := s (8 + 10 * h + w)
def rIts (s : Int → Int) (u w : Int) : Int := s (58 + 4 * u + w)
def rFr (s : Int → Int) (f w : Int) : Int := s (448 + 27 * f + w)
theorem eqK {Q : Int → HP → Prop} {a b : Int} {h : HP} (K : Q a h) (e : a = b) : Q b h := e ▸ K
set_option maxRecDepth 20000 in
theorem sp_m_in {d : Nat} {h : HP} {v lo hi : Int} {Q : Int → HP → Prop} (K : Q (b2i (lo ≤ v ∧ v ≤ hi)) h) : CaI d 2 [.inl v, .inl lo, .inl hi] h Q := by
  have hC : cod 2 = c_m_in := rfl
  refine CaI.start rfl ?_
  refine x_1 (p' := 1) hC rfl rfl rfl rfl ?_
  refine x_1 (p' := 2) hC rfl rfl rfl rfl ?_
  refine x_iclt (p' := 3) hC rfl rfl (fun c2 => ?_) (fun c2 => ?_)
  · refine x_1 (p' := 9) hC rfl rfl rfl rfl ?_
    refine x_zret hC rfl rfl rfl (by first | omega | exact b2i_01 _) ⟨_, rfl, ?_⟩
    refine eqK K ?_
    first | exact b2i_t (by omega) | exact b2i_f (by omega)
  · refine x_1 (p' := 4) hC rfl rfl rfl rfl ?_
    refine x_1 (p' := 5) hC rfl rfl rfl rfl ?_
    refine x_icgt (p' := 6) hC rfl rfl (fun c5 => ?_) (fun c5 => ?_)
    · refine x_1 (p' := 9) hC rfl rfl rfl rfl ?_
      refine x_zret hC rfl rfl rfl (by first | omega | exact b2i_01 _) ⟨_, rfl, ?_⟩
      refine eqK K ?_
      first | exact b2i_t (by omega) | exact b2i_f (by omega)
    · refine x_1 (p' := 7) hC rfl rfl rfl rfl ?_
      refine x_1 (p' := 9) hC rfl rfl rfl rfl ?_
      refine x_zret hC rfl rfl rfl (by first | omega | exact b2i_01 _) ⟨_, rfl, ?_⟩
      refine eqK K ?_
      first | exact b2i_t (by omega) | exact b2i_f (by omega)
set_option maxRecDepth 20000 in
theorem sp_m_of {d : Nat} {m : Nat} {h : HP} (hO : RO m h) {X : Nat → Int → Int} {f w : Int} (hf : 0 ≤ f ∧ f < 5) (hw : 0 ≤ w ∧ w < 10) {Q : Int → HP → Prop} (K : Q (rOf (X 1) f w) (wX m h X)) : CaI d 3 [.inr (some m), .inl f, .inl w] (wX m h X) Q := by
  have hC : cod 3 = c_m_of := rfl
  refine CaI.start rfl ?_
  refine x_1 (p' := 1) hC rfl rfl rfl rfl ?_
  refine y_gR (p' := 2) (n := 1) hO hC rfl rfl rfl rfl ?_
  refine x_1 (p' := 3) hC rfl rfl rfl rfl ?_
  refine x_1 (p' := 4) hC rfl rfl rfl rfl ?_
  refine x_1 (p' := 5) hC rfl rfl rfl rfl ?_
  refine x_mul (p' := 6) hC rfl rfl rfl (⟨by omega, by omega⟩) ?_
  refine x_add (p' := 7) hC rfl rfl rfl (⟨by omega, by omega⟩) ?_
  refine x_1 (p' := 8) hC rfl rfl rfl rfl ?_
  refine x_add (p' := 9) hC rfl rfl rfl (⟨by omega, by omega⟩) ?_
  refine y_ld (p' := 10) (L := 15568) hO hC rfl rfl rfl rfl (by omega) (by omega) ?_
  refine x_iret hC rfl rfl rfl ⟨_, rfl, ?_⟩
  exact K
set_option maxRecDepth 20000 in
theorem sp_m_its {d : Nat} {m : Nat} {h : HP} (hO : RO m h) {X : Nat → Int → Int} {f w : Int} (hf : 0 ≤ f ∧ f < 10) (hw : 0 ≤ w ∧ w < 4) {Q : Int → HP → Prop} (K : Q (rIts (X 1) f w) (wX m h X)) : CaI d 4 [.inr (some m), .inl f, .inl w] (wX m h X) Q := by
  have hC : cod 4 = c_m_its := rfl
  refine CaI.start rfl ?_
  refine x_1 (p' := 1) hC rfl rfl rfl rfl ?_
  refine y_gR (p' := 2) (n := 1) hO hC rfl rfl rfl rfl ?_
  refine x_1 (p' := 3) hC rfl rfl rfl rfl ?_
  refine x_1 (p' := 4) hC rfl rfl rfl rfl ?_
  refine x_1 (p' := 5) hC rfl rfl rfl rfl ?_
  refine x_mul (p' := 6) hC rfl rfl rfl (⟨by omega, by omega⟩) ?_
  refine x_add (p' := 7) hC rfl rfl rfl (⟨by omega, by omega⟩) ?_
  refine x_1 (p' := 8) hC rfl rfl rfl rfl ?_
  refine x_add (p' := 9) hC rfl rfl rfl (⟨by omega, by omega⟩) ?_
  refine y_ld (p' := 10) (L := 15568) hO hC rfl rfl rfl rfl (by omega) (by omega) ?_
  refine x_iret hC rfl rfl rfl ⟨_, rfl, ?_⟩
  exact K
set_option maxRecDepth 20000 in
theorem sp_m_fr {d : Nat} {m : Nat} {h : HP} (hO : RO m h) {X : Nat → Int → Int} {f w : Int} (hf : 0 ≤ f ∧ f < 560) (hw : 0 ≤ w ∧ w < 27) {Q : Int → HP → Prop} (K : Q (rFr (X 1) f w) (wX m h X)) : CaI d 5 [.inr (some m), .inl f, .inl w] (wX m h X) Q := by
  have hC : cod 5 = c_m_fr := rfl
  refine CaI.start rfl ?_
  refine x_1 (p' := 1) hC rfl rfl rfl rfl ?_
  refine y_gR (p' := 2) (n := 1) hO hC rfl rfl rfl rfl ?_
  refine x_1 (p' := 3) hC rfl rfl rfl rfl ?_
  refine x_1 (p' := 4) hC rfl rfl rfl rfl ?_
  refine x_1 (p' := 5) hC rfl rfl rfl rfl ?_
  refine x_mul (p' := 6) hC rfl rfl rfl (⟨by omega, by omega⟩) ?_
  refine x_add (p' := 7) hC rfl rfl rfl (⟨by omega, by omega⟩) ?_
  refine x_1 (p' := 8) hC rfl rfl rfl rfl ?_
  refine x_add (p' := 9) hC rfl rfl rfl (⟨by omega, by omega⟩) ?_
  refine y_ld (p' := 10) (L := 15568) hO hC rfl rfl rfl rfl (by omega) (by omega) ?_
  refine x_iret hC rfl rfl rfl ⟨_, rfl, ?_⟩
  exact K
set_option maxRecDepth 20000 in
theorem sp_m_lays {d : Nat} {m : Nat} {h : HP} (hO : RO m h) {X : Nat → Int → Int} {f w v : Int} (hf : 0 ≤ f ∧ f < 560) (hw : 0 ≤ w ∧ w < 27) {Q : HP → Prop} (K : Q (wX m h (upX X 1 (448 + 27 * f + w) v))) : CaV d 6 [.inr (some m), .inl f, .inl w, .inl v] (wX m h X) Q := by
  have hC : cod 6 = c_m_lays := rfl
  refine CaV.start rfl ?_
  refine x_1 (p' := 1) hC rfl rfl rfl rfl ?_
  refine y_gR (p' := 2) (n := 1) hO hC rfl rfl rfl rfl ?_
  refine x_1 (p' := 3) hC rfl rfl rfl rfl ?_
  refine x_1 (p' := 4) hC rfl rfl rfl rfl ?_
  refine x_1 (p' := 5) hC rfl rfl rfl rfl ?_
  refine x_mul (p' := 6) hC rfl rfl rfl (⟨by omega, by omega⟩) ?_
  refine x_add (p' := 7) hC rfl rfl rfl (⟨by omega, by omega⟩) ?_
  refine x_1 (p' := 8) hC rfl rfl rfl rfl ?_
  refine x_add (p' := 9) hC rfl rfl rfl (⟨by omega, by omega⟩) ?_
  refine x_1 (p' := 10) hC rfl rfl rfl rfl ?_
  refine y_st (p' := 11) (L := 15568) hO hC rfl rfl rfl rfl (by omega) (by omega) ?_
  refine x_ret hC rfl rfl rfl ⟨rfl, ?_⟩
  exact K
def isHubR (s : Int → Int) (f : Int) : Prop := 0 ≤ f ∧ f ≤ s 0 - 1
def isUnitR (s : Int → Int) (f : Int) : Prop := 0 ≤ f ∧ f ≤ s 1 - 1
set_option maxRecDepth 20000 in
theorem sp_m_isHub {d : Nat} {m : Nat} {h : HP} (hO : RO m h) {X : Nat → Int → Int} (hs : 0 ≤ X 1 0 ∧ X 1 0 ≤ 5) {f : Int} {Q : Int → HP → Prop} (K : Q (b2i (0 ≤ f ∧ f ≤ X 1 0 - 1)) (wX m h X)) : CaI (d + 1) 7 [.inr (some m), .inl f] (wX m h X) Q := by
  have hC : cod 7 = c_m_isHub := rfl
  refine CaI.start rfl ?_
  refine x_1 (p' := 1) hC rfl rfl rfl rfl ?_
  refine x_1 (p' := 2) hC rfl rfl rfl rfl ?_
  refine x_1 (p' := 3) hC rfl rfl rfl rfl ?_
  refine y_gR (p' := 4) (n := 1) hO hC rfl rfl rfl rfl ?_
  refine x_1 (p' := 5) hC rfl rfl rfl rfl ?_
  refine y_ld (p' := 6) (L := 15568) hO hC rfl rfl rfl rfl (by omega) (by omega) ?_
  refine x_1 (p' := 7) hC rfl rfl rfl rfl ?_
  refine x_sub (p' := 8) hC rfl rfl rfl (⟨by omega, by omega⟩) ?_
  refine x_cIS3 (p' := 9) (n := 2) hC rfl rfl rfl rfl rfl ?_
  refine sp_m_in ?_
  refine x_zret hC rfl rfl rfl (by first | omega | exact b2i_01 _) ⟨_, rfl, ?_⟩
  exact K
set_option maxRecDepth 20000 in
theorem sp_m_isUnit {d : Nat} {m : Nat} {h : HP} (hO : RO m h) {X : Nat → Int → Int} (hs : 0 ≤ X 1 1 ∧ X 1 1 ≤ 10) {f : Int} {Q : Int → HP → Prop} (K : Q (b2i (0 ≤ f ∧ f ≤ X 1 1 - 1)) (wX m h X)) : CaI (d + 1) 8 [.inr (some m), .inl f] (wX m h X) Q := by
  have hC : cod 8 = c_m_isUnit := rfl
  refine CaI.start rfl ?_
  refine x_1 (p' := 1) hC rfl rfl rfl rfl ?_
  refine x_1 (p' := 2) hC rfl rfl rfl rfl ?_
  refine x_1 (p' := 3) hC rfl rfl rfl rfl ?_
  refine y_gR (p' := 4) (n := 1) hO hC rfl rfl rfl rfl ?_
  refine x_1 (p' := 5) hC rfl rfl rfl rfl ?_
  refine y_ld (p' := 6) (L := 15568) hO hC rfl rfl rfl rfl (by omega) (by omega) ?_
  refine x_1 (p' := 7) hC rfl rfl rfl rfl ?_
  refine x_sub (p' := 8) hC rfl rfl rfl (⟨by omega, by omega⟩) ?_
  refine x_cIS3 (p' := 9) (n := 2) hC rfl rfl rfl rfl rfl ?_
  refine sp_m_in ?_
  refine x_zret hC rfl rfl rfl (by first | omega | exact b2i_01 _) ⟨_, rfl, ?_⟩
  exact K
set_option maxRecDepth 20000 in
theorem sp_m_isOn {d : Nat} {m : Nat} {h : HP} (hO : RO m h) {X : Nat → Int → Int} {f : Int} (hf : 0 ≤ f ∧ f < 10) {Q : Int → HP → Prop} (K : Q (b2i (rIts (X 1) f 2 = 0)) (wX m h X)) : CaI (d + 1) 9 [.inr (some m), .inl f] (wX m h X) Q := by
  have hC : cod 9 = c_m_isOn := rfl
  refine CaI.start rfl ?_
  refine x_1 (p' := 1) hC rfl rfl rfl rfl ?_
  refine x_1 (p' := 2) hC rfl rfl rfl rfl ?_
  refine x_1 (p' := 3) hC rfl rfl rfl rfl ?_
  refine x_cIV2 (p' := 4) (n := 4) hC rfl rfl rfl rfl rfl (hO.ty) ?_
  refine sp_m_its hO (by omega) (by omega) ?_
  refine x_ifne (p' := 5) hC rfl rfl (fun c4 => ?_) (fun c4 => ?_)
  · refine x_1 (p' := 8) hC rfl rfl rfl rfl ?_
    refine x_zret hC rfl rfl rfl (by first | omega | exact b2i_01 _) ⟨_, rfl, ?_⟩
    refine eqK K ?_
    first | exact b2i_t (by omega) | exact b2i_f (by omega)
  · refine x_1 (p' := 6) hC rfl rfl rfl rfl ?_
    refine x_1 (p' := 8) hC rfl rfl rfl rfl ?_
    refine x_zret hC rfl rfl rfl (by first | omega | exact b2i_01 _) ⟨_, rfl, ?_⟩
    refine eqK K ?_
    first | exact b2i_t (by omega) | exact b2i_f (by omega)
set_option maxRecDepth 20000 in
theorem sp_m_goWith {d : Nat} {h : HP} {a b : Int} (ha : 1 ≤ a ∧ a ≤ 20) (hb : 1 ≤ b ∧ b ≤ 20) {Q : Int → HP → Prop} (K : Q (b2i (a % b = 0 ∨ b % a = 0)) h) : CaI d 14 [.inl a, .inl b] h Q := by
  have e1 : wr (a.tmod b) = a % b := by rw [Int.tmod_eq_emod_of_nonneg (by omega)]; exact wr_id ⟨by have := Int.emod_nonneg a (show b ≠ 0 by omega); omega, by have := Int.emod_lt_of_pos a (show 0 < b by omega); omega⟩
  have e2 : wr (b.tmod a) = b % a := by rw [Int.tmod_eq_emod_of_nonneg (by omega)]; exact wr_id ⟨by have := Int.emod_nonneg b (show a ≠ 0 by omega); omega, by have := Int.emod_lt_of_pos b (show 0 < a by omega); omega⟩
  have hC : cod 14 = c_m_goWith := rfl
  refine CaI.start rfl ?_
  refine x_1 (p' := 1) hC rfl rfl rfl rfl ?_
  refine x_1 (p' := 2) hC rfl rfl rfl rfl ?_
  refine x_rem (p' := 3) hC rfl rfl rfl (by omega) ?_
  refine x_ifeq (p' := 4) hC rfl rfl (fun c3 => ?_) (fun c3 => ?_)
  · refine x_1 (p' := 9) hC rfl rfl rfl rfl ?_
    refine x_1 (p' := 11) hC rfl rfl rfl rfl ?_
    refine x_zret hC rfl rfl rfl (by first | omega | exact b2i_01 _) ⟨_, rfl, ?_⟩
    rw [e1] at *
    rw [e2] at *
    refine eqK K ?_
    first | exact b2i_t (by omega) | exact b2i_f (by omega)
  · refine x_1 (p' := 5) hC rfl rfl rfl rfl ?_
    refine x_1 (p' := 6) hC rfl rfl rfl rfl ?_
    refine x_rem (p' := 7) hC rfl rfl rfl (by omega) ?_
    refine x_ifne (p' := 8) hC rfl rfl (fun c7 => ?_) (fun c7 => ?_)
    · refine x_1 (p' := 11) hC rfl rfl rfl rfl ?_
      refine x_zret hC rfl rfl rfl (by first | omega | exact b2i_01 _) ⟨_, rfl, ?_⟩
      rw [e1] at *
      rw [e2] at *
      refine eqK K ?_
      first | exact b2i_t (by omega) | exact b2i_f (by omega)
    · refine x_1 (p' := 9) hC rfl rfl rfl rfl ?_
      refine x_1 (p' := 11) hC rfl rfl rfl rfl ?_
      refine x_zret hC rfl rfl rfl (by first | omega | exact b2i_01 _) ⟨_, rfl, ?_⟩
      rw [e1] at *
      rw [e2] at *
      refine eqK K ?_
      first | exact b2i_t (by omega) | exact b2i_f (by omega)

/-! the reference's readings: which one -/
def RPlain (s : Int → Int) (h u c sl : Int) (r : Option (Int × Int)) : Prop := (r = none ∧ ∀ f, 0 ≤ f → f < s 7 → ¬ rPM s h u c sl f) ∨ ∃ f, 0 ≤ f ∧ f < s 7 ∧ rPM s h u c sl f ∧ r = some (rFr s f (7 + u), rFr s f (17 + u))
noncomputable def rHeldO (s : Int → Int) (h u : Int) : Option (Int × Int) := cif (s (98 + 30 * h + 3 * u) = 1) (some (s (98 + 30 * h + 3 * u + 1), oOr (s (98 + 30 * h + 3 * u + 2)) 128)) none
def RRead (s : Int → Int) (h u sl : Int) (r : Option (Int × Int)) : Prop :=
  (rPer s (rThrough s h u) ≤ rOf s h 4 ∧ (rOf s h 2 = 0 ∨ rPer s (rThrough s h u) = rOf s h 4) ∧ RPlain s h u (rThrough s h u) sl r) ∨
  (rPer s (rThrough s h u) ≤ rOf s h 4 ∧ (¬ rOf s h 2 = 0 ∧ ¬ rPer s (rThrough s h u) = rOf s h 4) ∧ r = rFilt s h u (rThrough s h u) sl) ∨
  (¬ rPer s (rThrough s h u) ≤ rOf s h 4 ∧ sl % rPer s (rThrough s h u) = 0 ∧ RPlain s h u (rThrough s h u) sl r) ∨
  (¬ rPer s (rThrough s h u) ≤ rOf s h 4 ∧ ¬ sl % rPer s (rThrough s h u) = 0 ∧ r = rHeldO s h u)
def RV (X Y : Nat → Int → Int) (u : Int) (r : Option (Int × Int)) : Prop := SU X Y u ∧ ∀ v f, r = some (v, f) → Y 7 u = v ∧ Y 8 u = f
theorem RV.none {X Y : Nat → Int → Int} {u : Int} (h : SU X Y u) : RV X Y u none := ⟨h, fun _ _ e => absurd e (by simp)⟩
theorem RV.two {X : Nat → Int → Int} {u v f : Int} : RV X (upX (upX X 7 u v) 8 u f) u (some (v, f)) := by
  refine ⟨(SU.up78 (Or.inl rfl)).trans (SU.up78 (Or.inr rfl)), fun a b e => ?_⟩
  simp only [Option.some.injEq, Prod.mk.injEq] at e
  obtain ⟨rfl, rfl⟩ := e
  rw [upX_eq, ups_eq rfl, upX_ne (by decide), upX_eq, ups_eq rfl]
  exact ⟨rfl, rfl⟩
theorem sp_m_plain2 {d : Nat} {m : Nat} {h : HP} (hO : RO m h) {X : Nat → Int → Int} (hs : RI (X 1)) {g u c sl : Int} (hu : 0 ≤ u ∧ u < 10) {Q : Int → HP → Prop} (K : ∀ Y r, RV X Y u r → RPlain (X 1) g u c sl r → Q (b2i (r.isSome = true)) (wX m h Y)) : CaI (d + 2) 45 [.inr (some m), .inl g, .inl u, .inl c, .inl sl] (wX m h X) Q :=
  sp_m_plain hO hs hu (fun hn => eqK (K X none (RV.none SU.refl) (Or.inl ⟨rfl, hn⟩)) (b2i_f (by simp))) (fun f h0 h1 hf => eqK (K _ _ RV.two (Or.inr ⟨f, h0, h1, hf, rfl⟩)) (b2i_t rfl))
theorem sp_m_filtered2 {d : Nat} {m : Nat} {h : HP} (hO : RO m h) {X : Nat → Int → Int} (hs : RI (X 1)) {g u c sl : Int} (hg : 0 ≤ g ∧ g < 5) (hu : 0 ≤ u ∧ u < 10) (hc : 0 ≤ c ∧ c < 15) (hp : okPer (X 1) c) (hpg : 1 ≤ rOf (X 1) g 4 ∧ rOf (X 1) g 4 ≤ 20) (hsl : 0 ≤ sl) {Q : Int → HP → Prop} (K : ∀ Y r, RV X Y u r → r = rFilt (X 1) g u c sl → Q (b2i (r.isSome = true)) (wX m h Y)) : CaI (d + 4) 47 [.inr (some m), .inl g, .inl u, .inl c, .inl sl] (wX m h X) Q :=
  sp_m_filtered hO hs hg hu hc hp hpg hsl (fun hn Y hY => eqK (K Y none (RV.none hY) hn.symm) (b2i_f (by simp))) (fun v f hf Y hY h7 h8 => eqK (K Y (some (v, f)) ⟨hY, fun a b e => by simp only [Option.some.injEq, Prod.mk.injEq] at e; exact ⟨h7.trans e.1, h8.trans e.2⟩⟩ hf.symm) (b2i_t rfl))
theorem sp_m_held2 {d : Nat} {m : Nat} {h : HP} (hO : RO m h) {X : Nat → Int → Int} {g u : Int} (hg : 0 ≤ g ∧ g < 5) (hu : 0 ≤ u ∧ u < 10) {Q : Int → HP → Prop} (K : ∀ Y r, RV X Y u r → r = rHeldO (X 1) g u → Q (b2i (r.isSome = true)) (wX m h Y)) : CaI d 48 [.inr (some m), .inl g, .inl u] (wX m h X) Q := by
  refine sp_m_held hO hg hu ?_
  rcases Classical.em (X 1 (98 + 30 * g + 3 * u) = 1) with hp | hp
  · exact eqK (K _ _ RV.two (by unfold rHeldO; rw [cif_t hp])) ((b2i_t rfl).trans (b2i_t hp).symm)
  · exact eqK (K _ none ⟨RV.two.1, fun _ _ e => absurd e (by simp)⟩ (by unfold rHeldO; rw [cif_f hp])) ((b2i_f (by simp)).trans (b2i_f hp).symm)
theorem thr_ok {s : Int → Int} (hs : RI s) {f : Int} : ∀ (n : Nat) (c x : Int), (0 ≤ c ∧ c < 15) → okPer s c → -1 ≤ x → x < s 0 → rThr s f n c x = -1 ∨ ((0 ≤ rThr s f n c x ∧ rThr s f n c x < 15) ∧ okPer s (rThr s f n c x))
  | 0, _, _, _, _, _, _ => Or.inl rfl
  | n + 1, c, x, hc, hp, h0, h1 => by
    unfold rThr
    split
    · exact Or.inl rfl
    · split
      · exact Or.inr ⟨hc, hp⟩
      · have h2 := hs.2.2.2.2.1 x (by omega) h1
        have h3 := hs.1
        refine thr_ok hs n _ _ (by omega) ?_ h2.1 (by omega)
        unfold okPer rPer
        rw [if_neg (by omega), show 10 + x - 10 = x by omega]
        exact h2.2.2
theorem through_ok {s : Int → Int} (hs : RI s) {f u : Int} (hu : 0 ≤ u ∧ u < s 1) (h : 0 ≤ rThrough s f u) : (0 ≤ rThrough s f u ∧ rThrough s f u < 15) ∧ okPer s (rThrough s f u) := by
  have h2 := hs.2.2.2.2.2 u hu.1 hu.2
  have h3 := hs.2.1
  have := thr_ok hs (f := f) 6 u (rIts s u 0) (by omega) (by unfold okPer rPer; rw [if_pos (by omega)]; exact h2.2.2) (by omega) h2.2.1
  unfold rThrough at h ⊢
  rcases this with h4 | h4
  · omega
  · exact h4
set_option maxRecDepth 20000 in
set_option maxHeartbeats 2000000 in
theorem sp_m_reads {d : Nat} {m : Nat} {h : HP} (hO : RO m h) {X : Nat → Int → Int} (hs : RI (X 1)) {g u sl : Int} (hg : 0 ≤ g ∧ g < 5) (hu : 0 ≤ u ∧ u < X 1 1) (hpg : 1 ≤ rOf (X 1) g 4 ∧ rOf (X 1) g 4 ≤ 20) (hsl : 0 ≤ sl) (ht : 0 ≤ rThrough (X 1) g u) {Q : Int → HP → Prop} (K : ∀ Y r, RV X Y u r → RRead (X 1) g u sl r → Q (b2i (r.isSome = true)) (wX m h Y)) : CaI (d + 5) 49 [.inr (some m), .inl g, .inl u, .inl sl] (wX m h X) Q := by
  have hC : cod 49 = c_m_reads := rfl
  refine CaI.start rfl ?_
  have hs2 := hs.2.1
  obtain ⟨hc, hp⟩ := through_ok hs hu ht
  have hp1 := hp.1
  have hp2 := hp.2
  generalize hcd : rThrough (X 1) g u = c at hc hp hp1 hp2
  refine x_1 (p' := 1) hC rfl rfl rfl rfl ?_
  refine x_1 (p' := 2) hC rfl rfl rfl rfl ?_
  refine x_1 (p' := 3) hC rfl rfl rfl rfl ?_
  refine x_cIV2 (p' := 4) (n := 17) hC rfl rfl rfl rfl rfl (hO.ty) ?_
  refine sp_m_through hO hs (by omega) (by omega) ?_
  rw [hcd]
  refine x_stI4 (p' := 5) hC rfl rfl rfl ?_
  refine x_1 (p' := 6) hC rfl rfl rfl rfl ?_
  refine x_1 (p' := 7) hC rfl rfl rfl rfl ?_
  refine x_cIV1 (p' := 8) (n := 16) hC rfl rfl rfl rfl rfl (hO.ty) ?_
  refine sp_m_periodOf hO (by omega) ?_
  refine x_stI5 (p' := 9) hC rfl rfl rfl ?_
  refine x_1 (p' := 10) hC rfl rfl rfl rfl ?_
  refine x_1 (p' := 11) hC rfl rfl rfl rfl ?_
  refine x_1 (p' := 12) hC rfl rfl rfl rfl ?_
  refine x_cIV2 (p' := 13) (n := 36) hC rfl rfl rfl rfl rfl (hO.ty) ?_
  refine sp_m_isQuick hO (by omega) (by omega) ?_
  refine x_ifne (p' := 14) hC rfl rfl (fun c13 => ?_) (fun c13 => ?_)
  · have c13 := b2i_n0.mp c13
    refine x_1 (p' := 31) hC rfl rfl rfl rfl ?_
    refine x_1 (p' := 32) hC rfl rfl rfl rfl ?_
    refine x_1 (p' := 33) hC rfl rfl rfl rfl ?_
    refine x_cIV2 (p' := 34) (n := 3) hC rfl rfl rfl rfl rfl (hO.ty) ?_
    refine sp_m_of hO (by omega) (by omega) ?_
    refine x_ifeq (p' := 35) hC rfl rfl (fun c34 => ?_) (fun c34 => ?_)
    · refine x_1 (p' := 42) hC rfl rfl rfl rfl ?_
      refine x_1 (p' := 43) hC rfl rfl rfl rfl ?_
      refine x_1 (p' := 44) hC rfl rfl rfl rfl ?_
      refine x_1 (p' := 45) hC rfl rfl rfl rfl ?_
      refine x_1 (p' := 46) hC rfl rfl rfl rfl ?_
      refine x_cIV4 (p' := 47) (n := 45) hC rfl rfl rfl rfl rfl (hO.ty) ?_
      refine sp_m_plain2 hO hs (by omega) ?_
      intro Y r hV hR
      refine x_1 (p' := 54) hC rfl rfl rfl rfl ?_
      refine x_zret hC rfl rfl rfl (by first | omega | exact b2i_01 _) ⟨_, rfl, ?_⟩
      refine K Y r hV ?_
      unfold RRead
      rw [hcd]
      first
        | exact Or.inl ⟨by omega, by omega, hR⟩
        | exact Or.inr (Or.inl ⟨by omega, by omega, hR⟩)
        | exact Or.inr (Or.inr (Or.inl ⟨by omega, by omega, hR⟩))
        | exact Or.inr (Or.inr (Or.inr ⟨by omega, by omega, hR⟩))
    · refine x_1 (p' := 36) hC rfl rfl rfl rfl ?_
      refine x_1 (p' := 37) hC rfl rfl rfl rfl ?_
      refine x_1 (p' := 38) hC rfl rfl rfl rfl ?_
      refine x_1 (p' := 39) hC rfl rfl rfl rfl ?_
      refine x_cIV2 (p' := 40) (n := 3) hC rfl rfl rfl rfl rfl (hO.ty) ?_
      refine sp_m_of hO (by omega) (by omega) ?_
      refine x_icne (p' := 41) hC rfl rfl (fun c40 => ?_) (fun c40 => ?_)
      · refine x_1 (p' := 49) hC rfl rfl rfl rfl ?_
        refine x_1 (p' := 50) hC rfl rfl rfl rfl ?_
        refine x_1 (p' := 51) hC rfl rfl rfl rfl ?_
        refine x_1 (p' := 52) hC rfl rfl rfl rfl ?_
        refine x_1 (p' := 53) hC rfl rfl rfl rfl ?_
        refine x_cIV4 (p' := 54) (n := 47) hC rfl rfl rfl rfl rfl (hO.ty) ?_
        refine sp_m_filtered2 hO hs (by omega) (by omega) (by omega) hp hpg (by omega) ?_
        intro Y r hV hR
        refine x_zret hC rfl rfl rfl (by first | omega | exact b2i_01 _) ⟨_, rfl, ?_⟩
        refine K Y r hV ?_
        unfold RRead
        rw [hcd]
        first
          | exact Or.inl ⟨by omega, by omega, hR⟩
          | exact Or.inr (Or.inl ⟨by omega, by omega, hR⟩)
          | exact Or.inr (Or.inr (Or.inl ⟨by omega, by omega, hR⟩))
          | exact Or.inr (Or.inr (Or.inr ⟨by omega, by omega, hR⟩))
      · refine x_1 (p' := 42) hC rfl rfl rfl rfl ?_
        refine x_1 (p' := 43) hC rfl rfl rfl rfl ?_
        refine x_1 (p' := 44) hC rfl rfl rfl rfl ?_
        refine x_1 (p' := 45) hC rfl rfl rfl rfl ?_
        refine x_1 (p' := 46) hC rfl rfl rfl rfl ?_
        refine x_cIV4 (p' := 47) (n := 45) hC rfl rfl rfl rfl rfl (hO.ty) ?_
        refine sp_m_plain2 hO hs (by omega) ?_
        intro Y r hV hR
        refine x_1 (p' := 54) hC rfl rfl rfl rfl ?_
        refine x_zret hC rfl rfl rfl (by first | omega | exact b2i_01 _) ⟨_, rfl, ?_⟩
        refine K Y r hV ?_
        unfold RRead
        rw [hcd]
        first
          | exact Or.inl ⟨by omega, by omega, hR⟩
          | exact Or.inr (Or.inl ⟨by omega, by omega, hR⟩)
          | exact Or.inr (Or.inr (Or.inl ⟨by omega, by omega, hR⟩))
          | exact Or.inr (Or.inr (Or.inr ⟨by omega, by omega, hR⟩))
  · have c13 := b2i_0.mp c13
    refine x_1 (p' := 15) hC rfl rfl rfl rfl ?_
    refine x_1 (p' := 16) hC rfl rfl rfl rfl ?_
    refine x_rem (p' := 17) hC rfl rfl rfl (by omega) ?_
    rw [wr_tmod (by omega) (by omega) (by omega)]
    refine x_ifne (p' := 18) hC rfl rfl (fun c17 => ?_) (fun c17 => ?_)
    · refine x_1 (p' := 26) hC rfl rfl rfl rfl ?_
      refine x_1 (p' := 27) hC rfl rfl rfl rfl ?_
      refine x_1 (p' := 28) hC rfl rfl rfl rfl ?_
      refine x_cIV2 (p' := 29) (n := 48) hC rfl rfl rfl rfl rfl (hO.ty) ?_
      refine sp_m_held2 hO (by omega) (by omega) ?_
      intro Y r hV hR
      refine x_zret hC rfl rfl rfl (by first | omega | exact b2i_01 _) ⟨_, rfl, ?_⟩
      refine K Y r hV ?_
      unfold RRead
      rw [hcd]
      first
        | exact Or.inl ⟨by omega, by omega, hR⟩
        | exact Or.inr (Or.inl ⟨by omega, by omega, hR⟩)
        | exact Or.inr (Or.inr (Or.inl ⟨by omega, by omega, hR⟩))
        | exact Or.inr (Or.inr (Or.inr ⟨by omega, by omega, hR⟩))
    · refine x_1 (p' := 19) hC rfl rfl rfl rfl ?_
      refine x_1 (p' := 20) hC rfl rfl rfl rfl ?_
      refine x_1 (p' := 21) hC rfl rfl rfl rfl ?_
      refine x_1 (p' := 22) hC rfl rfl rfl rfl ?_
      refine x_1 (p' := 23) hC rfl rfl rfl rfl ?_
      refine x_cIV4 (p' := 24) (n := 45) hC rfl rfl rfl rfl rfl (hO.ty) ?_
      refine sp_m_plain2 hO hs (by omega) ?_
      intro Y r hV hR
      refine x_1 (p' := 29) hC rfl rfl rfl rfl ?_
      refine x_zret hC rfl rfl rfl (by first | omega | exact b2i_01 _) ⟨_, rfl, ?_⟩
      refine K Y r hV ?_
      unfold RRead
      rw [hcd]
      first
        | exact Or.inl ⟨by omega, by omega, hR⟩
        | exact Or.inr (Or.inl ⟨by omega, by omega, hR⟩)
        | exact Or.inr (Or.inr (Or.inl ⟨by omega, by omega, hR⟩))
        | exact Or.inr (Or.inr (Or.inr ⟨by omega, by omega, hR⟩))

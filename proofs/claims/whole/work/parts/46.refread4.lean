/-! the reference's readings, filtered and held -/
theorem wr_wr (a v : Int) : wr (wr a + v) = wr (a + v) := by unfold wr; simp
def lsum : List Int → Int
  | [] => 0
  | a :: l => a + lsum l
theorem lsum_snoc (l : List Int) (v : Int) : lsum (l ++ [v]) = lsum l + v := by
  induction l with
  | nil => simp [lsum]
  | cons a l ih => simp only [List.cons_append, lsum, ih]; omega
theorem lsum_perm {l l' : List Int} (h : l.Perm l') : lsum l = lsum l' := by
  induction h with
  | nil => rfl
  | cons x _ ih => simp only [lsum, ih]
  | swap x y l => simp only [lsum]; omega
  | trans _ _ i1 i2 => exact i1.trans i2
def rMed (l : List Int) : Int := (l.mergeSort (fun x y => decide (x ≤ y))).getD ((l.length - 1) / 2) 0
theorem srt_eq {l l' : List Int} (hs : Srt l) (hp : l.Perm l') : l = l'.mergeSort (fun x y => decide (x ≤ y)) := by
  refine List.Perm.eq_of_pairwise (le := fun x y => x ≤ y) (fun a b _ _ h1 h2 => Int.le_antisymm h1 h2) hs ?_ (hp.trans (List.mergeSort_perm _ _).symm)
  have := List.pairwise_mergeSort (le := fun x y : Int => decide (x ≤ y)) (fun a b c h1 h2 => by simp at *; omega) (fun a b => by simp; omega) l'
  exact this.imp (fun h => by simpa using h)
theorem med_eq {b : Int → Int} {n : Nat} {l : List Int} (hs : Srt (lOf b n)) (hp : (lOf b n).Perm l) (h0 : 0 < n) : b (((n : Int) - 1) / 2) = rMed l := by
  have e := srt_eq hs hp
  have hl : l.length = n := by rw [← hp.length_eq, lOf_len]
  unfold rMed
  rw [← e, hl, List.getD_eq_getElem?_getD, lOf_get (by omega)]
  show _ = b _
  congr 1
  omega
theorem GS.su {X Y : Nat → Int → Int} {L : List (Int × Int)} (h : GS X Y L) {u : Int} : SU X Y u :=
  ⟨fun a _ _ h9 h0 => h.1 a h0 h9, h.2.1, fun b _ => ⟨by rw [h.1 7 (by decide) (by decide)], by rw [h.1 8 (by decide) (by decide)]⟩⟩
theorem GS.one {X Y : Nat → Int → Int} {L : List (Int × Int)} (h : GS X Y L) : Y 1 = X 1 := h.1 1 (by decide) (by decide)
noncomputable def rPick (s : Int → Int) (h u c sl : Int) : List (Int × Int) := cif (rGath s h u c sl 0 (s 7) = []) (rGath s h u c sl 1 (s 7)) (rGath s h u c sl 0 (s 7))
def rFVal (s : Int → Int) (h : Int) (L : List (Int × Int)) : Int := if rOf s h 2 = 1 then wr ((wr (lsum (L.map (fun q => q.1)))).tdiv (L.length : Nat)) else rMed (L.map (fun q => q.1))
noncomputable def rFFlag (s : Int → Int) (h c sl : Int) (L : List (Int × Int)) : Int := oOr (oOr (orAll (L.map (fun q => q.2))) 64) (cif ((L.length : Nat) < rExp s h c sl) 32 0)
noncomputable def rFilt (s : Int → Int) (h u c sl : Int) : Option (Int × Int) := cif (rPick s h u c sl = []) none (some (rFVal s h (rPick s h u c sl), rFFlag s h c sl (rPick s h u c sl)))
set_option maxRecDepth 20000 in
set_option maxHeartbeats 2000000 in
theorem sp_m_gathers {d : Nat} {m : Nat} {h : HP} (hO : RO m h) {X : Nat → Int → Int} (hs : RI (X 1)) {g u c sl al : Int} (hu : 0 ≤ u ∧ u < 10) (hal : al = 0 ∨ al = 1) {Q : Int → HP → Prop} (K : ∀ Y, GS X Y (rGath (X 1) g u c sl al (X 1 7)) → Q (orAll ((rGath (X 1) g u c sl al (X 1 7)).map (fun q => q.2))) (wX m h Y)) : CaI (d + 2) 46 [.inr (some m), .inl g, .inl u, .inl c, .inl sl, .inl al] (wX m h X) Q := by
  have hC : cod 46 = c_m_gathers := rfl
  refine CaI.start rfl ?_
  have hs2 := hs.2.2.1
  refine x_1 (p' := 1) hC rfl rfl rfl rfl ?_
  refine x_stI6 (p' := 2) hC rfl rfl rfl ?_
  refine x_1 (p' := 3) hC rfl rfl rfl rfl ?_
  refine x_1 (p' := 4) hC rfl rfl rfl rfl ?_
  refine y_pI (p' := 5) (kz := 13) hO hC rfl rfl rfl rfl ?_
  refine x_1 (p' := 6) hC rfl rfl rfl rfl ?_
  refine x_stI7 (p' := 7) hC rfl rfl rfl ?_
  refine lp_m_gathers hO hs hu hal K _ 0 0 _ _ _ (Nat.lt_succ_self _) (by omega) ⟨fun a h0 h9 => upX_ne h0, fun k hk => ?_, ?_, List.Pairwise.nil, List.Perm.nil⟩ rfl
  · rw [upX_eq, ups_ne hk]
  · rw [upX_eq, ups_eq rfl]; rfl
set_option maxRecDepth 20000 in
theorem lp_m_filtered {d : Nat} {m : Nat} {h : HP} (hO : RO m h) {X : Nat → Int → Int} (hs : RI (X 1)) {Y : Nat → Int → Int} {L : List (Int × Int)} (hG : GS X Y L) (hL : L.length ≤ 559) {g u c sl w : Int} (hg : 0 ≤ g ∧ g < 5) (hu : 0 ≤ u ∧ u < 10) (hc : 0 ≤ c ∧ c < 15) (hp : okPer (X 1) c) (hpg : 1 ≤ rOf (X 1) g 4 ∧ rOf (X 1) g 4 ≤ 20) (hsl : 0 ≤ sl) (hw : w = orAll (L.map (fun q => q.2))) {Q : Int → HP → Prop} (e0 : ¬ Y 0 13 = 0) (K0 : L = [] → Q 0 (wX m h Y)) (K1 : L ≠ [] → ∀ Z, SU X Z u → Z 7 u = rFVal (X 1) g L → Z 8 u = rFFlag (X 1) g c sl L → Q 1 (wX m h Z)) (k : Nat) : ∀ (x : Int) (i : Int), (Y 0 13 - i).toNat < k → (0 ≤ i ∧ i ≤ Y 0 13) → (x = wr (lsum (lOf (Y 9) i.toNat))) → At (d + 4) 47 30 [some (.inr (some m)), some (.inl g), some (.inl u), some (.inl c), some (.inl sl), some (.inl w), some (.inl x), some (.inl i)] [] (wX m h Y) (fun v h' => ∃ x, v = some (.inl x) ∧ Q x h') := by
  have hC : cod 47 = c_m_filtered := rfl
  induction k with
  | zero =>
    intro x i hk
    exact absurd hk (Nat.not_lt_zero _)
  | succ k ih =>
    intro x i hk hI0 hI1
    have e13 := hG.2.2.1
    have eY := hG.one
    have hY : RI (Y 1) := by rw [eY]; exact hs
    refine x_1 (p' := 31) hC rfl rfl rfl rfl ?_
    refine x_1 (p' := 32) hC rfl rfl rfl rfl ?_
    refine y_gI (p' := 33) (kz := 13) hO hC rfl rfl rfl rfl ?_
    refine x_icge (p' := 34) hC rfl rfl (fun c33 => ?_) (fun c33 => ?_)
    · refine x_1 (p' := 44) hC rfl rfl rfl rfl ?_
      refine y_gR (p' := 45) (n := 7) hO hC rfl rfl rfl rfl ?_
      refine x_1 (p' := 46) hC rfl rfl rfl rfl ?_
      refine x_1 (p' := 47) hC rfl rfl rfl rfl ?_
      refine x_1 (p' := 48) hC rfl rfl rfl rfl ?_
      refine x_1 (p' := 49) hC rfl rfl rfl rfl ?_
      refine x_cIV2 (p' := 50) (n := 3) hC rfl rfl rfl rfl rfl (hO.ty) ?_
      refine sp_m_of hO (by omega) (by omega) ?_
      rw [eY]
      refine x_1 (p' := 51) hC rfl rfl rfl rfl ?_
      refine x_icne (p' := 52) hC rfl rfl (fun c51 => ?_) (fun c51 => ?_)
      · refine x_1 (p' := 58) hC rfl rfl rfl rfl ?_
        refine y_gR (p' := 59) (n := 9) hO hC rfl rfl rfl rfl ?_
        refine x_1 (p' := 60) hC rfl rfl rfl rfl ?_
        refine y_gI (p' := 61) (kz := 13) hO hC rfl rfl rfl rfl ?_
        refine x_1 (p' := 62) hC rfl rfl rfl rfl ?_
        refine x_sub (p' := 63) hC rfl rfl rfl (⟨by omega, by omega⟩) ?_
        refine x_1 (p' := 64) hC rfl rfl rfl rfl ?_
        refine x_div (p' := 65) hC rfl rfl rfl (by omega) ?_
        rw [wr_tdiv (by omega) (by omega) (by omega)]
        refine y_ld (p' := 66) (L := 560) hO hC rfl rfl rfl rfl (by omega) (by omega) ?_
        refine y_st (p' := 67) (L := 10) hO hC rfl rfl rfl rfl (by omega) (by omega) ?_
        refine x_1 (p' := 68) hC rfl rfl rfl rfl ?_
        refine y_gR (p' := 69) (n := 8) hO hC rfl rfl rfl rfl ?_
        refine x_1 (p' := 70) hC rfl rfl rfl rfl ?_
        refine x_1 (p' := 71) hC rfl rfl rfl rfl ?_
        refine x_1 (p' := 72) hC rfl rfl rfl rfl ?_
        refine x_1 (p' := 73) hC rfl rfl rfl rfl ?_
        refine x_1 (p' := 74) hC rfl rfl rfl rfl ?_
        refine y_gI (p' := 75) (kz := 13) hO hC rfl rfl rfl rfl ?_
        rw [upX_ne (a := 0) (i := 7) (by decide)]
        refine x_1 (p' := 76) hC rfl rfl rfl rfl ?_
        refine x_1 (p' := 77) hC rfl rfl rfl rfl ?_
        refine x_1 (p' := 78) hC rfl rfl rfl rfl ?_
        refine x_1 (p' := 79) hC rfl rfl rfl rfl ?_
        refine x_cIV3 (p' := 80) (n := 37) hC rfl rfl rfl rfl rfl (hO.ty) ?_
        refine sp_m_expects hO hg hc (by unfold okPer; rw [upX_ne (by decide), eY]; exact hp) (by rw [upX_ne (by decide), eY]; exact hpg) hsl ?_
        rw [upX_ne (by decide), eY]
        refine x_icge (p' := 81) hC rfl rfl (fun c80 => ?_) (fun c80 => ?_)
        · refine x_1 (p' := 84) hC rfl rfl rfl rfl ?_
          refine x_1 (p' := 85) hC rfl rfl rfl rfl ?_
          refine y_st (p' := 86) (L := 10) hO hC rfl rfl rfl rfl (by omega) (by omega) ?_
          refine x_1 (p' := 87) hC rfl rfl rfl rfl ?_
          refine x_zret hC rfl rfl rfl (by first | omega | exact b2i_01 _) ⟨_, rfl, ?_⟩
          refine K1 (fun q => by rw [q] at e13; simp at e13; omega) _ ((hG.su.trans (SU.up78 (Or.inl rfl))).trans (SU.up78 (Or.inr rfl))) ?_ ?_
          · rw [upX_ne (by decide), upX_eq, ups_eq rfl]
            unfold rFVal
            first
              | (rw [if_pos (by omega), hI1, show i = (L.length : Nat) by omega, Int.toNat_natCast, lsum_perm hG.2.2.2.2, e13])
              | (rw [if_neg (by omega), e13]; exact med_eq hG.2.2.2.1 hG.2.2.2.2 (by omega))
          · rw [upX_eq, ups_eq rfl]
            unfold rFFlag
            rw [hw]
            first
              | rw [cif_t (by omega)]
              | rw [cif_f (by omega)]
        · refine x_1 (p' := 82) hC rfl rfl rfl rfl ?_
          refine x_1 (p' := 84) hC rfl rfl rfl rfl ?_
          refine x_1 (p' := 85) hC rfl rfl rfl rfl ?_
          refine y_st (p' := 86) (L := 10) hO hC rfl rfl rfl rfl (by omega) (by omega) ?_
          refine x_1 (p' := 87) hC rfl rfl rfl rfl ?_
          refine x_zret hC rfl rfl rfl (by first | omega | exact b2i_01 _) ⟨_, rfl, ?_⟩
          refine K1 (fun q => by rw [q] at e13; simp at e13; omega) _ ((hG.su.trans (SU.up78 (Or.inl rfl))).trans (SU.up78 (Or.inr rfl))) ?_ ?_
          · rw [upX_ne (by decide), upX_eq, ups_eq rfl]
            unfold rFVal
            first
              | (rw [if_pos (by omega), hI1, show i = (L.length : Nat) by omega, Int.toNat_natCast, lsum_perm hG.2.2.2.2, e13])
              | (rw [if_neg (by omega), e13]; exact med_eq hG.2.2.2.1 hG.2.2.2.2 (by omega))
          · rw [upX_eq, ups_eq rfl]
            unfold rFFlag
            rw [hw]
            first
              | rw [cif_t (by omega)]
              | rw [cif_f (by omega)]
      · refine x_1 (p' := 53) hC rfl rfl rfl rfl ?_
        refine x_1 (p' := 54) hC rfl rfl rfl rfl ?_
        refine y_gI (p' := 55) (kz := 13) hO hC rfl rfl rfl rfl ?_
        refine x_div (p' := 56) hC rfl rfl rfl (by omega) ?_
        refine x_1 (p' := 66) hC rfl rfl rfl rfl ?_
        refine y_st (p' := 67) (L := 10) hO hC rfl rfl rfl rfl (by omega) (by omega) ?_
        refine x_1 (p' := 68) hC rfl rfl rfl rfl ?_
        refine y_gR (p' := 69) (n := 8) hO hC rfl rfl rfl rfl ?_
        refine x_1 (p' := 70) hC rfl rfl rfl rfl ?_
        refine x_1 (p' := 71) hC rfl rfl rfl rfl ?_
        refine x_1 (p' := 72) hC rfl rfl rfl rfl ?_
        refine x_1 (p' := 73) hC rfl rfl rfl rfl ?_
        refine x_1 (p' := 74) hC rfl rfl rfl rfl ?_
        refine y_gI (p' := 75) (kz := 13) hO hC rfl rfl rfl rfl ?_
        rw [upX_ne (a := 0) (i := 7) (by decide)]
        refine x_1 (p' := 76) hC rfl rfl rfl rfl ?_
        refine x_1 (p' := 77) hC rfl rfl rfl rfl ?_
        refine x_1 (p' := 78) hC rfl rfl rfl rfl ?_
        refine x_1 (p' := 79) hC rfl rfl rfl rfl ?_
        refine x_cIV3 (p' := 80) (n := 37) hC rfl rfl rfl rfl rfl (hO.ty) ?_
        refine sp_m_expects hO hg hc (by unfold okPer; rw [upX_ne (by decide), eY]; exact hp) (by rw [upX_ne (by decide), eY]; exact hpg) hsl ?_
        rw [upX_ne (by decide), eY]
        refine x_icge (p' := 81) hC rfl rfl (fun c80 => ?_) (fun c80 => ?_)
        · refine x_1 (p' := 84) hC rfl rfl rfl rfl ?_
          refine x_1 (p' := 85) hC rfl rfl rfl rfl ?_
          refine y_st (p' := 86) (L := 10) hO hC rfl rfl rfl rfl (by omega) (by omega) ?_
          refine x_1 (p' := 87) hC rfl rfl rfl rfl ?_
          refine x_zret hC rfl rfl rfl (by first | omega | exact b2i_01 _) ⟨_, rfl, ?_⟩
          refine K1 (fun q => by rw [q] at e13; simp at e13; omega) _ ((hG.su.trans (SU.up78 (Or.inl rfl))).trans (SU.up78 (Or.inr rfl))) ?_ ?_
          · rw [upX_ne (by decide), upX_eq, ups_eq rfl]
            unfold rFVal
            first
              | (rw [if_pos (by omega), hI1, show i = (L.length : Nat) by omega, Int.toNat_natCast, lsum_perm hG.2.2.2.2, e13])
              | (rw [if_neg (by omega), e13]; exact med_eq hG.2.2.2.1 hG.2.2.2.2 (by omega))
          · rw [upX_eq, ups_eq rfl]
            unfold rFFlag
            rw [hw]
            first
              | rw [cif_t (by omega)]
              | rw [cif_f (by omega)]
        · refine x_1 (p' := 82) hC rfl rfl rfl rfl ?_
          refine x_1 (p' := 84) hC rfl rfl rfl rfl ?_
          refine x_1 (p' := 85) hC rfl rfl rfl rfl ?_
          refine y_st (p' := 86) (L := 10) hO hC rfl rfl rfl rfl (by omega) (by omega) ?_
          refine x_1 (p' := 87) hC rfl rfl rfl rfl ?_
          refine x_zret hC rfl rfl rfl (by first | omega | exact b2i_01 _) ⟨_, rfl, ?_⟩
          refine K1 (fun q => by rw [q] at e13; simp at e13; omega) _ ((hG.su.trans (SU.up78 (Or.inl rfl))).trans (SU.up78 (Or.inr rfl))) ?_ ?_
          · rw [upX_ne (by decide), upX_eq, ups_eq rfl]
            unfold rFVal
            first
              | (rw [if_pos (by omega), hI1, show i = (L.length : Nat) by omega, Int.toNat_natCast, lsum_perm hG.2.2.2.2, e13])
              | (rw [if_neg (by omega), e13]; exact med_eq hG.2.2.2.1 hG.2.2.2.2 (by omega))
          · rw [upX_eq, ups_eq rfl]
            unfold rFFlag
            rw [hw]
            first
              | rw [cif_t (by omega)]
              | rw [cif_f (by omega)]
    · refine x_1 (p' := 35) hC rfl rfl rfl rfl ?_
      refine x_1 (p' := 36) hC rfl rfl rfl rfl ?_
      refine y_gR (p' := 37) (n := 9) hO hC rfl rfl rfl rfl ?_
      refine x_1 (p' := 38) hC rfl rfl rfl rfl ?_
      refine y_ld (p' := 39) (L := 560) hO hC rfl rfl rfl rfl (by omega) (by omega) ?_
      refine x_1 (p' := 40) hC rfl rfl rfl rfl ?_
      refine x_stI6 (p' := 41) hC rfl rfl rfl ?_
      refine x_inc7 (p' := 42) hC rfl rfl (⟨by omega, by omega⟩) ?_
      refine x_1 (p' := 30) hC rfl rfl rfl rfl ?_
      refine ih _ _ (by omega) (by omega) ?_
      show wr (x + Y 9 i) = _
      rw [hI1, wr_wr, show (i + 1).toNat = i.toNat + 1 by omega, lOf_succ, lsum_snoc, Int.toNat_of_nonneg hI0.1]
set_option maxRecDepth 20000 in
theorem tl_m_filtered {d : Nat} {m : Nat} {h : HP} (hO : RO m h) {X : Nat → Int → Int} (hs : RI (X 1)) {Y : Nat → Int → Int} {L : List (Int × Int)} (hG : GS X Y L) (hL : L.length ≤ 559) {g u c sl w : Int} (hg : 0 ≤ g ∧ g < 5) (hu : 0 ≤ u ∧ u < 10) (hc : 0 ≤ c ∧ c < 15) (hp : okPer (X 1) c) (hpg : 1 ≤ rOf (X 1) g 4 ∧ rOf (X 1) g 4 ≤ 20) (hsl : 0 ≤ sl) (hw : w = orAll (L.map (fun q => q.2))) {z6 z7 : Option AV} {Q : Int → HP → Prop} (K0 : L = [] → Q 0 (wX m h Y)) (K1 : L ≠ [] → ∀ Z, SU X Z u → Z 7 u = rFVal (X 1) g L → Z 8 u = rFFlag (X 1) g c sl L → Q 1 (wX m h Z)) : At (d + 4) 47 21 [some (.inr (some m)), some (.inl g), some (.inl u), some (.inl c), some (.inl sl), some (.inl w), z6, z7] [] (wX m h Y) (fun v h' => ∃ x, v = some (.inl x) ∧ Q x h') := by
  have hC : cod 47 = c_m_filtered := rfl
  have e13 := hG.2.2.1
  refine x_1 (p' := 22) hC rfl rfl rfl rfl ?_
  refine y_gI (p' := 23) (kz := 13) hO hC rfl rfl rfl rfl ?_
  refine x_ifne (p' := 24) hC rfl rfl (fun c23 => ?_) (fun c23 => ?_)
  · refine x_1 (p' := 27) hC rfl rfl rfl rfl ?_
    refine x_stI6 (p' := 28) hC rfl rfl rfl ?_
    refine x_1 (p' := 29) hC rfl rfl rfl rfl ?_
    refine x_stI7 (p' := 30) hC rfl rfl rfl ?_
    exact lp_m_filtered hO hs hG hL hg hu hc hp hpg hsl hw (by omega) K0 K1 _ 0 0 (Nat.lt_succ_self _) (by omega) rfl
  · refine x_1 (p' := 25) hC rfl rfl rfl rfl ?_
    refine x_zret hC rfl rfl rfl (by first | omega | exact b2i_01 _) ⟨_, rfl, ?_⟩
    exact K0 (List.eq_nil_of_length_eq_zero (by omega))
set_option maxRecDepth 20000 in
set_option maxHeartbeats 2000000 in
theorem sp_m_filtered {d : Nat} {m : Nat} {h : HP} (hO : RO m h) {X : Nat → Int → Int} (hs : RI (X 1)) {g u c sl : Int} (hg : 0 ≤ g ∧ g < 5) (hu : 0 ≤ u ∧ u < 10) (hc : 0 ≤ c ∧ c < 15) (hp : okPer (X 1) c) (hpg : 1 ≤ rOf (X 1) g 4 ∧ rOf (X 1) g 4 ≤ 20) (hsl : 0 ≤ sl) {Q : Int → HP → Prop} (K0 : rFilt (X 1) g u c sl = none → ∀ Y, SU X Y u → Q 0 (wX m h Y)) (K1 : ∀ v f, rFilt (X 1) g u c sl = some (v, f) → ∀ Y, SU X Y u → Y 7 u = v → Y 8 u = f → Q 1 (wX m h Y)) : CaI (d + 4) 47 [.inr (some m), .inl g, .inl u, .inl c, .inl sl] (wX m h X) Q := by
  have hC : cod 47 = c_m_filtered := rfl
  refine CaI.start rfl ?_
  have hs2 := hs.2.2.1
  have hle := fun al => rGath_le (X 1) g u c sl al (X 1 7).toNat
  rw [Int.toNat_of_nonneg hs2.1] at hle
  have hl0 := hle 0
  have hl1 := hle 1
  refine x_1 (p' := 1) hC rfl rfl rfl rfl ?_
  refine x_1 (p' := 2) hC rfl rfl rfl rfl ?_
  refine x_1 (p' := 3) hC rfl rfl rfl rfl ?_
  refine x_1 (p' := 4) hC rfl rfl rfl rfl ?_
  refine x_1 (p' := 5) hC rfl rfl rfl rfl ?_
  refine x_1 (p' := 6) hC rfl rfl rfl rfl ?_
  refine x_cIV5 (p' := 7) (n := 46) hC rfl rfl rfl rfl rfl (hO.ty) ?_
  refine sp_m_gathers hO hs hu (Or.inl rfl) ?_
  intro Y hG
  have e13 := hG.2.2.1
  refine x_stI5 (p' := 8) hC rfl rfl rfl ?_
  refine x_1 (p' := 9) hC rfl rfl rfl rfl ?_
  refine y_gI (p' := 10) (kz := 13) hO hC rfl rfl rfl rfl ?_
  refine x_ifne (p' := 11) hC rfl rfl (fun c10 => ?_) (fun c10 => ?_)
  · refine x_1 (p' := 20) hC rfl rfl rfl rfl ?_
    refine x_stI5 (p' := 21) hC rfl rfl rfl ?_
    first
      | (refine tl_m_filtered hO hs (Y := Z) (L := rGath (X 1) g u c sl 1 (X 1 7)) ⟨fun a h0 h9 => (hH.1 a h0 h9).trans (hG.1 a h0 h9), fun k hk => (hH.2.1 k hk).trans (hG.2.1 k hk), hH.2.2⟩ (by omega) hg hu hc hp hpg hsl rfl (fun hn => ?_) (fun hn Z' h1 h2 h3 => ?_)
         · refine K0 ?_ Z (hG.su.trans hH.su)
           have eP : rPick (X 1) g u c sl = rGath (X 1) g u c sl 1 (X 1 7) := cif_t (List.eq_nil_of_length_eq_zero (by omega))
           unfold rFilt
           rw [eP, cif_t hn]
         · refine K1 _ _ ?_ Z' h1 h2 h3
           have eP : rPick (X 1) g u c sl = rGath (X 1) g u c sl 1 (X 1 7) := cif_t (List.eq_nil_of_length_eq_zero (by omega))
           unfold rFilt
           rw [eP, cif_f hn])
      | (refine tl_m_filtered hO hs (Y := Y) (L := rGath (X 1) g u c sl 0 (X 1 7)) hG (by omega) hg hu hc hp hpg hsl rfl (fun hn => ?_) (fun hn Z' h1 h2 h3 => ?_)
         · exfalso
           rw [hn] at e13
           exact c10 e13
         · refine K1 _ _ ?_ Z' h1 h2 h3
           have eP : rPick (X 1) g u c sl = rGath (X 1) g u c sl 0 (X 1 7) := cif_f hn
           unfold rFilt
           rw [eP, cif_f hn])
  · refine x_1 (p' := 12) hC rfl rfl rfl rfl ?_
    refine x_1 (p' := 13) hC rfl rfl rfl rfl ?_
    refine x_1 (p' := 14) hC rfl rfl rfl rfl ?_
    refine x_1 (p' := 15) hC rfl rfl rfl rfl ?_
    refine x_1 (p' := 16) hC rfl rfl rfl rfl ?_
    refine x_1 (p' := 17) hC rfl rfl rfl rfl ?_
    refine x_cIV5 (p' := 18) (n := 46) hC rfl rfl rfl rfl rfl (hO.ty) ?_
    refine sp_m_gathers hO (X := Y) (by rw [hG.one]; exact hs) hu (Or.inr rfl) ?_
    intro Z hH
    rw [hG.one] at hH ⊢
    refine x_1 (p' := 20) hC rfl rfl rfl rfl ?_
    refine x_stI5 (p' := 21) hC rfl rfl rfl ?_
    first
      | (refine tl_m_filtered hO hs (Y := Z) (L := rGath (X 1) g u c sl 1 (X 1 7)) ⟨fun a h0 h9 => (hH.1 a h0 h9).trans (hG.1 a h0 h9), fun k hk => (hH.2.1 k hk).trans (hG.2.1 k hk), hH.2.2⟩ (by omega) hg hu hc hp hpg hsl rfl (fun hn => ?_) (fun hn Z' h1 h2 h3 => ?_)
         · refine K0 ?_ Z (hG.su.trans hH.su)
           have eP : rPick (X 1) g u c sl = rGath (X 1) g u c sl 1 (X 1 7) := cif_t (List.eq_nil_of_length_eq_zero (by omega))
           unfold rFilt
           rw [eP, cif_t hn]
         · refine K1 _ _ ?_ Z' h1 h2 h3
           have eP : rPick (X 1) g u c sl = rGath (X 1) g u c sl 1 (X 1 7) := cif_t (List.eq_nil_of_length_eq_zero (by omega))
           unfold rFilt
           rw [eP, cif_f hn])
      | (refine tl_m_filtered hO hs (Y := Y) (L := rGath (X 1) g u c sl 0 (X 1 7)) hG (by omega) hg hu hc hp hpg hsl rfl (fun hn => ?_) (fun hn Z' h1 h2 h3 => ?_)
         · exfalso
           rw [hn] at e13
           exact c10 e13
         · refine K1 _ _ ?_ Z' h1 h2 h3
           have eP : rPick (X 1) g u c sl = rGath (X 1) g u c sl 0 (X 1 7) := cif_f hn
           unfold rFilt
           rw [eP, cif_f hn])
set_option maxRecDepth 20000 in
set_option maxHeartbeats 2000000 in
theorem sp_m_held {d : Nat} {m : Nat} {h : HP} (hO : RO m h) {X : Nat → Int → Int} {g u : Int} (hg : 0 ≤ g ∧ g < 5) (hu : 0 ≤ u ∧ u < 10) {Q : Int → HP → Prop} (K : Q (b2i (X 1 (98 + 30 * g + 3 * u) = 1)) (wX m h (upX (upX X 7 u (X 1 (98 + 30 * g + 3 * u + 1))) 8 u (oOr (X 1 (98 + 30 * g + 3 * u + 2)) 128)))) : CaI d 48 [.inr (some m), .inl g, .inl u] (wX m h X) Q := by
  have hC : cod 48 = c_m_held := rfl
  refine CaI.start rfl ?_
  refine x_1 (p' := 1) hC rfl rfl rfl rfl ?_
  refine x_1 (p' := 2) hC rfl rfl rfl rfl ?_
  refine x_1 (p' := 3) hC rfl rfl rfl rfl ?_
  refine x_mul (p' := 4) hC rfl rfl rfl (⟨by omega, by omega⟩) ?_
  refine x_add (p' := 5) hC rfl rfl rfl (⟨by omega, by omega⟩) ?_
  refine x_1 (p' := 6) hC rfl rfl rfl rfl ?_
  refine x_1 (p' := 7) hC rfl rfl rfl rfl ?_
  refine x_mul (p' := 8) hC rfl rfl rfl (⟨by omega, by omega⟩) ?_
  refine x_add (p' := 9) hC rfl rfl rfl (⟨by omega, by omega⟩) ?_
  refine x_stI3 (p' := 10) hC rfl rfl rfl ?_
  refine x_1 (p' := 11) hC rfl rfl rfl rfl ?_
  refine y_gR (p' := 12) (n := 7) hO hC rfl rfl rfl rfl ?_
  refine x_1 (p' := 13) hC rfl rfl rfl rfl ?_
  refine x_1 (p' := 14) hC rfl rfl rfl rfl ?_
  refine y_gR (p' := 15) (n := 1) hO hC rfl rfl rfl rfl ?_
  refine x_1 (p' := 16) hC rfl rfl rfl rfl ?_
  refine x_1 (p' := 17) hC rfl rfl rfl rfl ?_
  refine x_add (p' := 18) hC rfl rfl rfl (⟨by omega, by omega⟩) ?_
  refine y_ld (p' := 19) (L := 15568) hO hC rfl rfl rfl rfl (by omega) (by omega) ?_
  refine y_st (p' := 20) (L := 10) hO hC rfl rfl rfl rfl (by omega) (by omega) ?_
  generalize hZ : upX X 7 u _ = Z
  have eZ : Z 1 = X 1 := by rw [← hZ, upX_ne (by decide)]
  refine x_1 (p' := 21) hC rfl rfl rfl rfl ?_
  refine y_gR (p' := 22) (n := 8) hO hC rfl rfl rfl rfl ?_
  refine x_1 (p' := 23) hC rfl rfl rfl rfl ?_
  refine x_1 (p' := 24) hC rfl rfl rfl rfl ?_
  refine y_gR (p' := 25) (n := 1) hO hC rfl rfl rfl rfl ?_
  refine x_1 (p' := 26) hC rfl rfl rfl rfl ?_
  refine x_1 (p' := 27) hC rfl rfl rfl rfl ?_
  refine x_add (p' := 28) hC rfl rfl rfl (⟨by omega, by omega⟩) ?_
  refine y_ld (p' := 29) (L := 15568) hO hC rfl rfl rfl rfl (by omega) (by omega) ?_
  rw [eZ]
  refine x_1 (p' := 30) hC rfl rfl rfl rfl ?_
  refine x_1 (p' := 31) hC rfl rfl rfl rfl ?_
  refine y_st (p' := 32) (L := 10) hO hC rfl rfl rfl rfl (by omega) (by omega) ?_
  refine x_1 (p' := 33) hC rfl rfl rfl rfl ?_
  refine y_gR (p' := 34) (n := 1) hO hC rfl rfl rfl rfl ?_
  refine x_1 (p' := 35) hC rfl rfl rfl rfl ?_
  refine y_ld (p' := 36) (L := 15568) hO hC rfl rfl rfl rfl (by omega) (by omega) ?_
  rw [upX_ne (by decide), eZ]
  refine x_1 (p' := 37) hC rfl rfl rfl rfl ?_
  refine x_icne (p' := 38) hC rfl rfl (fun c37 => ?_) (fun c37 => ?_)
  · refine x_1 (p' := 41) hC rfl rfl rfl rfl ?_
    refine x_zret hC rfl rfl rfl (by first | omega | exact b2i_01 _) ⟨_, rfl, ?_⟩
    rw [hZ] at K
    refine eqK K ?_
    first | exact b2i_t (by omega) | exact b2i_f (by omega)
  · refine x_1 (p' := 39) hC rfl rfl rfl rfl ?_
    refine x_1 (p' := 41) hC rfl rfl rfl rfl ?_
    refine x_zret hC rfl rfl rfl (by first | omega | exact b2i_01 _) ⟨_, rfl, ?_⟩
    rw [hZ] at K
    refine eqK K ?_
    first | exact b2i_t (by omega) | exact b2i_f (by omega)

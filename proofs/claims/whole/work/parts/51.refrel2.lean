/-! the reference's release, whole -/
theorem RAll.put {s : Int → Int} {Y Y2 : Nat → Int → Int} {g sl n : Int} {r : Int → Option (Int × Int)} {q : Option (Int × Int)} (h : RAll s Y g sl r n) (hV : SU Y Y2 n) (hq : rIsOf s g n → RRead s g n sl q ∧ ∀ v f, q = some (v, f) → Y2 7 n = v ∧ Y2 8 n = f) : RAll s Y2 g sl (rPut r n q) (n + 1) := by
  intro u h0 h1 h2
  by_cases e : u = n
  · subst e
    rw [rPut_eq]
    exact hq h2
  · rw [rPut_ne e, (hV.2.2 u e).1, (hV.2.2 u e).2]
    exact h u h0 (by omega) h2
theorem fOf_some {q : Option (Int × Int)} {Y : Nat → Int → Int} {u : Int} (h : ∀ v f, q = some (v, f) → Y 7 u = v ∧ Y 8 u = f) (hq : q.isSome = true) : fOf q = Y 8 u := by
  cases q with
  | none => exact absurd hq (by simp)
  | some p => exact (h p.1 p.2 rfl).2.symm
theorem fOf_none {q : Option (Int × Int)} (hq : ¬ q.isSome = true) : fOf q = 0 := by
  cases q with
  | none => rfl
  | some p => exact absurd rfl hq
set_option maxRecDepth 20000 in
theorem lp_m_releases2 {d : Nat} {m : Nat} {h : HP} (hO : RO m h) {X : Nat → Int → Int} {s : Int → Int} (hs : RI s) {g sl msk mis flg : Int} (hg : 0 ≤ g ∧ g < s 0) (ha : g ≠ 0 → 0 ≤ rOf s g 5) (hsl : 0 ≤ sl ∧ sl ≤ 100000) (hd : 0 ≤ s 2 ∧ s 2 ≤ 100000 ∧ 0 ≤ rOf s g 3 ∧ rOf s g 3 ≤ 20) {z7 : Option AV} {Q : HP → Prop} (K : Q (wX m h (setS X (rRelT (rClr s g sl (s 7)) g sl msk mis flg (X 7) (X 8))))) (k : Nat) : ∀ (f : Int), (s 7 - f).toNat < k → (0 ≤ f ∧ f ≤ s 7) → At (d + 6) 52 58 [some (.inr (some m)), some (.inl g), some (.inl sl), some (.inl msk), some (.inl mis), some (.inl flg), some (.inl f), z7] [] (wX m h (setS X (rClr s g sl f))) (fun v h' => v = none ∧ Q h') := by
  have hC : cod 52 = c_m_releases := rfl
  induction k with
  | zero =>
    intro f hk
    exact absurd hk (Nat.not_lt_zero _)
  | succ k ih =>
    intro f hk hI0
    have h0 := hs.1
    have h7 := hs.2.2.1
    have hL : Lo s (rClr s g sl f) := rClr_lo
    have e7 := hL 7 (by omega)
    have eI : rIn (rClr s g sl f) f g sl ↔ rIn s f g sl := by unfold rIn; rw [rClr_fr (by omega), rClr_fr (by omega), rClr_fr (by omega)]
    refine x_1 (p' := 59) hC rfl rfl rfl rfl ?_
    refine x_1 (p' := 60) hC rfl rfl rfl rfl ?_
    refine y_gR (p' := 61) (n := 1) hO hC rfl rfl rfl rfl ?_
    refine x_1 (p' := 62) hC rfl rfl rfl rfl ?_
    refine y_ld (p' := 63) (L := 15568) hO hC rfl rfl rfl rfl (by omega) (by omega) ?_
    rw [setS_1, e7]
    refine x_icge (p' := 64) hC rfl rfl (fun c63 => ?_) (fun c63 => ?_)
    · refine x_1 (p' := 78) hC rfl rfl rfl rfl ?_
      refine x_stI6 (p' := 79) hC rfl rfl rfl ?_
      rw [show f = s 7 by omega]
      have hM : Lo s (rClr s g sl (s 7)) := rClr_lo
      have q := lp_m_releases3 (d := d) hO (X := X) (hM.ri hs) (g := g) (sl := sl) (msk := msk) (mis := mis) (flg := flg) (z7 := z7) (by rw [hM 0 (by omega)]; exact hg) (fun h => by rw [hM.of (by omega) (by omega)]; exact ha h) hsl (by rw [hM 2 (by omega), hM.of (by omega) (by omega)]; exact hd) K _ 0 (Nat.lt_succ_self _) (by omega)
      rw [rHld_0] at q
      exact q
    · refine x_1 (p' := 65) hC rfl rfl rfl rfl ?_
      refine x_1 (p' := 66) hC rfl rfl rfl rfl ?_
      refine x_1 (p' := 67) hC rfl rfl rfl rfl ?_
      refine x_1 (p' := 68) hC rfl rfl rfl rfl ?_
      refine x_cIV3 (p' := 69) (n := 33) hC rfl rfl rfl rfl rfl (hO.ty) ?_
      refine sp_m_isIn hO (by omega) ?_
      rw [setS_1]
      refine x_ifeq (p' := 70) hC rfl rfl (fun c69 => ?_) (fun c69 => ?_)
      · have c69 := b2i_0.mp c69
        refine x_inc6 (p' := 76) hC rfl rfl (⟨by omega, by omega⟩) ?_
        refine x_1 (p' := 58) hC rfl rfl rfl rfl ?_
        first
          | (rw [rClr_t (by omega) (eI.mp c69)]; exact ih _ (by omega) (by omega))
          | (rw [rClr_f (fun q => c69 (eI.mpr q))]; exact ih _ (by omega) (by omega))
      · have c69 := b2i_n0.mp c69
        refine x_1 (p' := 71) hC rfl rfl rfl rfl ?_
        refine x_1 (p' := 72) hC rfl rfl rfl rfl ?_
        refine x_1 (p' := 73) hC rfl rfl rfl rfl ?_
        refine x_1 (p' := 74) hC rfl rfl rfl rfl ?_
        refine x_cVV3 (p' := 75) (n := 6) hC rfl rfl rfl rfl rfl (hO.ty) ?_
        refine sp_m_lays hO (by omega) (by omega) ?_
        simp only [upX_1, setS_setS, setS_1]
        refine x_inc6 (p' := 76) hC rfl rfl (⟨by omega, by omega⟩) ?_
        refine x_1 (p' := 58) hC rfl rfl rfl rfl ?_
        first
          | (rw [rClr_t (by omega) (eI.mp c69)]; exact ih _ (by omega) (by omega))
          | (rw [rClr_f (fun q => c69 (eI.mpr q))]; exact ih _ (by omega) (by omega))
set_option maxRecDepth 20000 in
theorem lp_m_releases {d : Nat} {m : Nat} {h : HP} (hO : RO m h) {X : Nat → Int → Int} (hs : RI (X 1)) {g sl : Int} (hg : 0 ≤ g ∧ g < X 1 0) (ha : g ≠ 0 → 0 ≤ rOf (X 1) g 5) (hsl : 0 ≤ sl ∧ sl ≤ 100000) (hd : 0 ≤ X 1 2 ∧ X 1 2 ≤ 100000 ∧ 0 ≤ rOf (X 1) g 3 ∧ rOf (X 1) g 3 ≤ 20) {Q : HP → Prop} (K : ∀ Y r, SV X Y → RAll (X 1) Y g sl r (X 1 1) → Q (wX m h (setS Y (rRel (X 1) g sl r (Y 7) (Y 8))))) (k : Nat) : ∀ (msk : Int) (mis : Int) (flg : Int) (u : Int) (z7 : Option AV) (Y : Nat → Int → Int) (r : Int → Option (Int × Int)), (X 1 1 - u).toNat < k → (0 ≤ u ∧ u ≤ X 1 1) → (SV X Y) → (RAll (X 1) Y g sl r u) → (msk = rMsk (X 1) g r u) → (mis = rMis (X 1) g r u) → (flg = rFlg (X 1) g r u) → (0 ≤ mis ∧ mis ≤ u) → At (d + 6) 52 8 [some (.inr (some m)), some (.inl g), some (.inl sl), some (.inl msk), some (.inl mis), some (.inl flg), some (.inl u), z7] [] (wX m h Y) (fun v h' => v = none ∧ Q h') := by
  have hC : cod 52 = c_m_releases := rfl
  induction k with
  | zero =>
    intro msk mis flg u z7 Y r hk
    exact absurd hk (Nat.not_lt_zero _)
  | succ k ih =>
    intro msk mis flg u z7 Y r hk hI0 hI1 hI2 hI3 hI4 hI5 hI6
    have h0 := hs.1
    have h1 := hs.2.1
    have eY : Y 1 = X 1 := hI1.one
    have hY : RI (Y 1) := by rw [eY]; exact hs
    have hpg := (hs.2.2.2.2.1 g hg.1 hg.2).2.2
    refine x_1 (p' := 9) hC rfl rfl rfl rfl ?_
    refine x_1 (p' := 10) hC rfl rfl rfl rfl ?_
    refine y_gR (p' := 11) (n := 1) hO hC rfl rfl rfl rfl ?_
    refine x_1 (p' := 12) hC rfl rfl rfl rfl ?_
    refine y_ld (p' := 13) (L := 15568) hO hC rfl rfl rfl rfl (by omega) (by omega) ?_
    rw [eY]
    refine x_icge (p' := 14) hC rfl rfl (fun c13 => ?_) (fun c13 => ?_)
    · refine x_1 (p' := 57) hC rfl rfl rfl rfl ?_
      refine x_stI6 (p' := 58) hC rfl rfl rfl ?_
      have q := lp_m_releases2 (d := d) hO (X := Y) hs (g := g) (sl := sl) (msk := msk) (mis := mis) (flg := flg) (z7 := z7) hg ha hsl hd (Q := Q) ?_ _ 0 (Nat.lt_succ_self _) (by have := hs.2.2.1; omega)
      · rw [rClr_0, ← eY, setS_id] at q
        exact q
      · have e : u = X 1 1 := by omega
        subst e
        rw [hI3, hI4, hI5]
        exact K Y r hI1 hI2
    · refine x_1 (p' := 15) hC rfl rfl rfl rfl ?_
      refine x_1 (p' := 16) hC rfl rfl rfl rfl ?_
      refine x_1 (p' := 17) hC rfl rfl rfl rfl ?_
      refine x_cIV2 (p' := 18) (n := 18) hC rfl rfl rfl rfl rfl (hO.ty) ?_
      refine sp_m_isOf hO hY (by omega) (by rw [eY]; omega) ?_
      rw [eY]
      refine x_ifeq (p' := 19) hC rfl rfl (fun c18 => ?_) (fun c18 => ?_)
      · have c18 := b2i_0.mp c18
        refine x_inc6 (p' := 55) hC rfl rfl (⟨by omega, by omega⟩) ?_
        refine x_1 (p' := 8) hC rfl rfl rfl rfl ?_
        first
          | exact absurd c27 c37
          | exact absurd c37 c27
          | exact absurd c27 c45
          | exact absurd c45 c27
          | exact ih _ _ _ _ _ Y2 (rPut r u q) (by omega) (by omega) (hI1.trans hV.1.sv) (RAll.put hI2 hV.1 (fun _ => ⟨hR, hV.2⟩)) (by rw [rMsk_put (by omega), cif_t c18, cif_t c27, ← hI3]) (by rw [rMis_put (by omega), cif_t c18, cif_t c27, ← hI4]) (by rw [rFlg_put (by omega), cif_t c18, ← hI5, fOf_some hV.2 c27]) (by omega)
          | exact ih _ _ _ _ _ Y2 (rPut r u q) (by omega) (by omega) (hI1.trans hV.1.sv) (RAll.put hI2 hV.1 (fun _ => ⟨hR, hV.2⟩)) (by rw [rMsk_put (by omega), cif_t c18, cif_f c27, ← hI3]) (by rw [rMis_put (by omega), cif_t c18, cif_f c27, ← hI4]) (by rw [rFlg_put (by omega), cif_t c18, ← hI5, fOf_none c27]) (by omega)
          | exact ih _ _ _ _ _ Y (rPut r u none) (by omega) (by omega) hI1 (RAll.put hI2 SU.refl (fun h => absurd h c18)) (by rw [rMsk_put (by omega), cif_f c18, ← hI3]) (by rw [rMis_put (by omega), cif_f c18, ← hI4]) (by rw [rFlg_put (by omega), cif_f c18, ← hI5]) (by omega)
      · have c18 := b2i_n0.mp c18
        refine x_1 (p' := 20) hC rfl rfl rfl rfl ?_
        refine x_1 (p' := 21) hC rfl rfl rfl rfl ?_
        refine x_1 (p' := 22) hC rfl rfl rfl rfl ?_
        refine x_1 (p' := 23) hC rfl rfl rfl rfl ?_
        refine x_cIV3 (p' := 24) (n := 49) hC rfl rfl rfl rfl rfl (hO.ty) ?_
        refine sp_m_reads hO hY (by omega) (by rw [eY]; omega) (by rw [eY]; exact hpg) (by omega) (by rw [eY]; exact c18.2) ?_
        intro Y2 q hV hR
        rw [eY] at hR
        refine x_stI7 (p' := 25) hC rfl rfl rfl ?_
        refine x_1 (p' := 26) hC rfl rfl rfl rfl ?_
        refine x_1 (p' := 27) hC rfl rfl rfl rfl ?_
        refine x_ifeq (p' := 28) hC rfl rfl (fun c27 => ?_) (fun c27 => ?_)
        · have c27 := b2i_0.mp c27
          refine x_1 (p' := 33) hC rfl rfl rfl rfl ?_
          refine x_1 (p' := 34) hC rfl rfl rfl rfl ?_
          refine x_stI3 (p' := 35) hC rfl rfl rfl ?_
          refine x_1 (p' := 36) hC rfl rfl rfl rfl ?_
          refine x_1 (p' := 37) hC rfl rfl rfl rfl ?_
          refine x_ifeq (p' := 38) hC rfl rfl (fun c37 => ?_) (fun c37 => ?_)
          · have c37 := b2i_0.mp c37
            refine x_1 (p' := 41) hC rfl rfl rfl rfl ?_
            refine x_add (p' := 42) hC rfl rfl rfl (⟨by omega, by omega⟩) ?_
            refine x_stI4 (p' := 43) hC rfl rfl rfl ?_
            refine x_1 (p' := 44) hC rfl rfl rfl rfl ?_
            refine x_1 (p' := 45) hC rfl rfl rfl rfl ?_
            refine x_ifeq (p' := 46) hC rfl rfl (fun c45 => ?_) (fun c45 => ?_)
            · have c45 := b2i_0.mp c45
              refine x_1 (p' := 52) hC rfl rfl rfl rfl ?_
              refine x_1 (p' := 53) hC rfl rfl rfl rfl ?_
              refine x_stI5 (p' := 54) hC rfl rfl rfl ?_
              refine x_inc6 (p' := 55) hC rfl rfl (⟨by omega, by omega⟩) ?_
              refine x_1 (p' := 8) hC rfl rfl rfl rfl ?_
              first
                | exact absurd c27 c37
                | exact absurd c37 c27
                | exact absurd c27 c45
                | exact absurd c45 c27
                | exact ih _ _ _ _ _ Y2 (rPut r u q) (by omega) (by omega) (hI1.trans hV.1.sv) (RAll.put hI2 hV.1 (fun _ => ⟨hR, hV.2⟩)) (by rw [rMsk_put (by omega), cif_t c18, cif_t c27, ← hI3]) (by rw [rMis_put (by omega), cif_t c18, cif_t c27, ← hI4]) (by rw [rFlg_put (by omega), cif_t c18, ← hI5, fOf_some hV.2 c27]) (by omega)
                | exact ih _ _ _ _ _ Y2 (rPut r u q) (by omega) (by omega) (hI1.trans hV.1.sv) (RAll.put hI2 hV.1 (fun _ => ⟨hR, hV.2⟩)) (by rw [rMsk_put (by omega), cif_t c18, cif_f c27, ← hI3]) (by rw [rMis_put (by omega), cif_t c18, cif_f c27, ← hI4]) (by rw [rFlg_put (by omega), cif_t c18, ← hI5, fOf_none c27]) (by omega)
                | exact ih _ _ _ _ _ Y (rPut r u none) (by omega) (by omega) hI1 (RAll.put hI2 SU.refl (fun h => absurd h c18)) (by rw [rMsk_put (by omega), cif_f c18, ← hI3]) (by rw [rMis_put (by omega), cif_f c18, ← hI4]) (by rw [rFlg_put (by omega), cif_f c18, ← hI5]) (by omega)
            · have c45 := b2i_n0.mp c45
              refine x_1 (p' := 47) hC rfl rfl rfl rfl ?_
              refine y_gR (p' := 48) (n := 8) hO hC rfl rfl rfl rfl ?_
              refine x_1 (p' := 49) hC rfl rfl rfl rfl ?_
              refine y_ld (p' := 50) (L := 10) hO hC rfl rfl rfl rfl (by omega) (by omega) ?_
              refine x_1 (p' := 52) hC rfl rfl rfl rfl ?_
              refine x_1 (p' := 53) hC rfl rfl rfl rfl ?_
              refine x_stI5 (p' := 54) hC rfl rfl rfl ?_
              refine x_inc6 (p' := 55) hC rfl rfl (⟨by omega, by omega⟩) ?_
              refine x_1 (p' := 8) hC rfl rfl rfl rfl ?_
              first
                | exact absurd c27 c37
                | exact absurd c37 c27
                | exact absurd c27 c45
                | exact absurd c45 c27
                | exact ih _ _ _ _ _ Y2 (rPut r u q) (by omega) (by omega) (hI1.trans hV.1.sv) (RAll.put hI2 hV.1 (fun _ => ⟨hR, hV.2⟩)) (by rw [rMsk_put (by omega), cif_t c18, cif_t c27, ← hI3]) (by rw [rMis_put (by omega), cif_t c18, cif_t c27, ← hI4]) (by rw [rFlg_put (by omega), cif_t c18, ← hI5, fOf_some hV.2 c27]) (by omega)
                | exact ih _ _ _ _ _ Y2 (rPut r u q) (by omega) (by omega) (hI1.trans hV.1.sv) (RAll.put hI2 hV.1 (fun _ => ⟨hR, hV.2⟩)) (by rw [rMsk_put (by omega), cif_t c18, cif_f c27, ← hI3]) (by rw [rMis_put (by omega), cif_t c18, cif_f c27, ← hI4]) (by rw [rFlg_put (by omega), cif_t c18, ← hI5, fOf_none c27]) (by omega)
                | exact ih _ _ _ _ _ Y (rPut r u none) (by omega) (by omega) hI1 (RAll.put hI2 SU.refl (fun h => absurd h c18)) (by rw [rMsk_put (by omega), cif_f c18, ← hI3]) (by rw [rMis_put (by omega), cif_f c18, ← hI4]) (by rw [rFlg_put (by omega), cif_f c18, ← hI5]) (by omega)
          · have c37 := b2i_n0.mp c37
            refine x_1 (p' := 39) hC rfl rfl rfl rfl ?_
            refine x_1 (p' := 41) hC rfl rfl rfl rfl ?_
            refine x_add (p' := 42) hC rfl rfl rfl (⟨by omega, by omega⟩) ?_
            refine x_stI4 (p' := 43) hC rfl rfl rfl ?_
            refine x_1 (p' := 44) hC rfl rfl rfl rfl ?_
            refine x_1 (p' := 45) hC rfl rfl rfl rfl ?_
            refine x_ifeq (p' := 46) hC rfl rfl (fun c45 => ?_) (fun c45 => ?_)
            · have c45 := b2i_0.mp c45
              refine x_1 (p' := 52) hC rfl rfl rfl rfl ?_
              refine x_1 (p' := 53) hC rfl rfl rfl rfl ?_
              refine x_stI5 (p' := 54) hC rfl rfl rfl ?_
              refine x_inc6 (p' := 55) hC rfl rfl (⟨by omega, by omega⟩) ?_
              refine x_1 (p' := 8) hC rfl rfl rfl rfl ?_
              first
                | exact absurd c27 c37
                | exact absurd c37 c27
                | exact absurd c27 c45
                | exact absurd c45 c27
                | exact ih _ _ _ _ _ Y2 (rPut r u q) (by omega) (by omega) (hI1.trans hV.1.sv) (RAll.put hI2 hV.1 (fun _ => ⟨hR, hV.2⟩)) (by rw [rMsk_put (by omega), cif_t c18, cif_t c27, ← hI3]) (by rw [rMis_put (by omega), cif_t c18, cif_t c27, ← hI4]) (by rw [rFlg_put (by omega), cif_t c18, ← hI5, fOf_some hV.2 c27]) (by omega)
                | exact ih _ _ _ _ _ Y2 (rPut r u q) (by omega) (by omega) (hI1.trans hV.1.sv) (RAll.put hI2 hV.1 (fun _ => ⟨hR, hV.2⟩)) (by rw [rMsk_put (by omega), cif_t c18, cif_f c27, ← hI3]) (by rw [rMis_put (by omega), cif_t c18, cif_f c27, ← hI4]) (by rw [rFlg_put (by omega), cif_t c18, ← hI5, fOf_none c27]) (by omega)
                | exact ih _ _ _ _ _ Y (rPut r u none) (by omega) (by omega) hI1 (RAll.put hI2 SU.refl (fun h => absurd h c18)) (by rw [rMsk_put (by omega), cif_f c18, ← hI3]) (by rw [rMis_put (by omega), cif_f c18, ← hI4]) (by rw [rFlg_put (by omega), cif_f c18, ← hI5]) (by omega)
            · have c45 := b2i_n0.mp c45
              refine x_1 (p' := 47) hC rfl rfl rfl rfl ?_
              refine y_gR (p' := 48) (n := 8) hO hC rfl rfl rfl rfl ?_
              refine x_1 (p' := 49) hC rfl rfl rfl rfl ?_
              refine y_ld (p' := 50) (L := 10) hO hC rfl rfl rfl rfl (by omega) (by omega) ?_
              refine x_1 (p' := 52) hC rfl rfl rfl rfl ?_
              refine x_1 (p' := 53) hC rfl rfl rfl rfl ?_
              refine x_stI5 (p' := 54) hC rfl rfl rfl ?_
              refine x_inc6 (p' := 55) hC rfl rfl (⟨by omega, by omega⟩) ?_
              refine x_1 (p' := 8) hC rfl rfl rfl rfl ?_
              first
                | exact absurd c27 c37
                | exact absurd c37 c27
                | exact absurd c27 c45
                | exact absurd c45 c27
                | exact ih _ _ _ _ _ Y2 (rPut r u q) (by omega) (by omega) (hI1.trans hV.1.sv) (RAll.put hI2 hV.1 (fun _ => ⟨hR, hV.2⟩)) (by rw [rMsk_put (by omega), cif_t c18, cif_t c27, ← hI3]) (by rw [rMis_put (by omega), cif_t c18, cif_t c27, ← hI4]) (by rw [rFlg_put (by omega), cif_t c18, ← hI5, fOf_some hV.2 c27]) (by omega)
                | exact ih _ _ _ _ _ Y2 (rPut r u q) (by omega) (by omega) (hI1.trans hV.1.sv) (RAll.put hI2 hV.1 (fun _ => ⟨hR, hV.2⟩)) (by rw [rMsk_put (by omega), cif_t c18, cif_f c27, ← hI3]) (by rw [rMis_put (by omega), cif_t c18, cif_f c27, ← hI4]) (by rw [rFlg_put (by omega), cif_t c18, ← hI5, fOf_none c27]) (by omega)
                | exact ih _ _ _ _ _ Y (rPut r u none) (by omega) (by omega) hI1 (RAll.put hI2 SU.refl (fun h => absurd h c18)) (by rw [rMsk_put (by omega), cif_f c18, ← hI3]) (by rw [rMis_put (by omega), cif_f c18, ← hI4]) (by rw [rFlg_put (by omega), cif_f c18, ← hI5]) (by omega)
        · have c27 := b2i_n0.mp c27
          refine x_1 (p' := 29) hC rfl rfl rfl rfl ?_
          refine x_1 (p' := 30) hC rfl rfl rfl rfl ?_
          refine x_1 (p' := 31) hC rfl rfl rfl rfl ?_
          refine x_1 (p' := 33) hC rfl rfl rfl rfl ?_
          refine x_1 (p' := 34) hC rfl rfl rfl rfl ?_
          refine x_stI3 (p' := 35) hC rfl rfl rfl ?_
          refine x_1 (p' := 36) hC rfl rfl rfl rfl ?_
          refine x_1 (p' := 37) hC rfl rfl rfl rfl ?_
          refine x_ifeq (p' := 38) hC rfl rfl (fun c37 => ?_) (fun c37 => ?_)
          · have c37 := b2i_0.mp c37
            refine x_1 (p' := 41) hC rfl rfl rfl rfl ?_
            refine x_add (p' := 42) hC rfl rfl rfl (⟨by omega, by omega⟩) ?_
            refine x_stI4 (p' := 43) hC rfl rfl rfl ?_
            refine x_1 (p' := 44) hC rfl rfl rfl rfl ?_
            refine x_1 (p' := 45) hC rfl rfl rfl rfl ?_
            refine x_ifeq (p' := 46) hC rfl rfl (fun c45 => ?_) (fun c45 => ?_)
            · have c45 := b2i_0.mp c45
              refine x_1 (p' := 52) hC rfl rfl rfl rfl ?_
              refine x_1 (p' := 53) hC rfl rfl rfl rfl ?_
              refine x_stI5 (p' := 54) hC rfl rfl rfl ?_
              refine x_inc6 (p' := 55) hC rfl rfl (⟨by omega, by omega⟩) ?_
              refine x_1 (p' := 8) hC rfl rfl rfl rfl ?_
              first
                | exact absurd c27 c37
                | exact absurd c37 c27
                | exact absurd c27 c45
                | exact absurd c45 c27
                | exact ih _ _ _ _ _ Y2 (rPut r u q) (by omega) (by omega) (hI1.trans hV.1.sv) (RAll.put hI2 hV.1 (fun _ => ⟨hR, hV.2⟩)) (by rw [rMsk_put (by omega), cif_t c18, cif_t c27, ← hI3]) (by rw [rMis_put (by omega), cif_t c18, cif_t c27, ← hI4]) (by rw [rFlg_put (by omega), cif_t c18, ← hI5, fOf_some hV.2 c27]) (by omega)
                | exact ih _ _ _ _ _ Y2 (rPut r u q) (by omega) (by omega) (hI1.trans hV.1.sv) (RAll.put hI2 hV.1 (fun _ => ⟨hR, hV.2⟩)) (by rw [rMsk_put (by omega), cif_t c18, cif_f c27, ← hI3]) (by rw [rMis_put (by omega), cif_t c18, cif_f c27, ← hI4]) (by rw [rFlg_put (by omega), cif_t c18, ← hI5, fOf_none c27]) (by omega)
                | exact ih _ _ _ _ _ Y (rPut r u none) (by omega) (by omega) hI1 (RAll.put hI2 SU.refl (fun h => absurd h c18)) (by rw [rMsk_put (by omega), cif_f c18, ← hI3]) (by rw [rMis_put (by omega), cif_f c18, ← hI4]) (by rw [rFlg_put (by omega), cif_f c18, ← hI5]) (by omega)
            · have c45 := b2i_n0.mp c45
              refine x_1 (p' := 47) hC rfl rfl rfl rfl ?_
              refine y_gR (p' := 48) (n := 8) hO hC rfl rfl rfl rfl ?_
              refine x_1 (p' := 49) hC rfl rfl rfl rfl ?_
              refine y_ld (p' := 50) (L := 10) hO hC rfl rfl rfl rfl (by omega) (by omega) ?_
              refine x_1 (p' := 52) hC rfl rfl rfl rfl ?_
              refine x_1 (p' := 53) hC rfl rfl rfl rfl ?_
              refine x_stI5 (p' := 54) hC rfl rfl rfl ?_
              refine x_inc6 (p' := 55) hC rfl rfl (⟨by omega, by omega⟩) ?_
              refine x_1 (p' := 8) hC rfl rfl rfl rfl ?_
              first
                | exact absurd c27 c37
                | exact absurd c37 c27
                | exact absurd c27 c45
                | exact absurd c45 c27
                | exact ih _ _ _ _ _ Y2 (rPut r u q) (by omega) (by omega) (hI1.trans hV.1.sv) (RAll.put hI2 hV.1 (fun _ => ⟨hR, hV.2⟩)) (by rw [rMsk_put (by omega), cif_t c18, cif_t c27, ← hI3]) (by rw [rMis_put (by omega), cif_t c18, cif_t c27, ← hI4]) (by rw [rFlg_put (by omega), cif_t c18, ← hI5, fOf_some hV.2 c27]) (by omega)
                | exact ih _ _ _ _ _ Y2 (rPut r u q) (by omega) (by omega) (hI1.trans hV.1.sv) (RAll.put hI2 hV.1 (fun _ => ⟨hR, hV.2⟩)) (by rw [rMsk_put (by omega), cif_t c18, cif_f c27, ← hI3]) (by rw [rMis_put (by omega), cif_t c18, cif_f c27, ← hI4]) (by rw [rFlg_put (by omega), cif_t c18, ← hI5, fOf_none c27]) (by omega)
                | exact ih _ _ _ _ _ Y (rPut r u none) (by omega) (by omega) hI1 (RAll.put hI2 SU.refl (fun h => absurd h c18)) (by rw [rMsk_put (by omega), cif_f c18, ← hI3]) (by rw [rMis_put (by omega), cif_f c18, ← hI4]) (by rw [rFlg_put (by omega), cif_f c18, ← hI5]) (by omega)
          · have c37 := b2i_n0.mp c37
            refine x_1 (p' := 39) hC rfl rfl rfl rfl ?_
            refine x_1 (p' := 41) hC rfl rfl rfl rfl ?_
            refine x_add (p' := 42) hC rfl rfl rfl (⟨by omega, by omega⟩) ?_
            refine x_stI4 (p' := 43) hC rfl rfl rfl ?_
            refine x_1 (p' := 44) hC rfl rfl rfl rfl ?_
            refine x_1 (p' := 45) hC rfl rfl rfl rfl ?_
            refine x_ifeq (p' := 46) hC rfl rfl (fun c45 => ?_) (fun c45 => ?_)
            · have c45 := b2i_0.mp c45
              refine x_1 (p' := 52) hC rfl rfl rfl rfl ?_
              refine x_1 (p' := 53) hC rfl rfl rfl rfl ?_
              refine x_stI5 (p' := 54) hC rfl rfl rfl ?_
              refine x_inc6 (p' := 55) hC rfl rfl (⟨by omega, by omega⟩) ?_
              refine x_1 (p' := 8) hC rfl rfl rfl rfl ?_
              first
                | exact absurd c27 c37
                | exact absurd c37 c27
                | exact absurd c27 c45
                | exact absurd c45 c27
                | exact ih _ _ _ _ _ Y2 (rPut r u q) (by omega) (by omega) (hI1.trans hV.1.sv) (RAll.put hI2 hV.1 (fun _ => ⟨hR, hV.2⟩)) (by rw [rMsk_put (by omega), cif_t c18, cif_t c27, ← hI3]) (by rw [rMis_put (by omega), cif_t c18, cif_t c27, ← hI4]) (by rw [rFlg_put (by omega), cif_t c18, ← hI5, fOf_some hV.2 c27]) (by omega)
                | exact ih _ _ _ _ _ Y2 (rPut r u q) (by omega) (by omega) (hI1.trans hV.1.sv) (RAll.put hI2 hV.1 (fun _ => ⟨hR, hV.2⟩)) (by rw [rMsk_put (by omega), cif_t c18, cif_f c27, ← hI3]) (by rw [rMis_put (by omega), cif_t c18, cif_f c27, ← hI4]) (by rw [rFlg_put (by omega), cif_t c18, ← hI5, fOf_none c27]) (by omega)
                | exact ih _ _ _ _ _ Y (rPut r u none) (by omega) (by omega) hI1 (RAll.put hI2 SU.refl (fun h => absurd h c18)) (by rw [rMsk_put (by omega), cif_f c18, ← hI3]) (by rw [rMis_put (by omega), cif_f c18, ← hI4]) (by rw [rFlg_put (by omega), cif_f c18, ← hI5]) (by omega)
            · have c45 := b2i_n0.mp c45
              refine x_1 (p' := 47) hC rfl rfl rfl rfl ?_
              refine y_gR (p' := 48) (n := 8) hO hC rfl rfl rfl rfl ?_
              refine x_1 (p' := 49) hC rfl rfl rfl rfl ?_
              refine y_ld (p' := 50) (L := 10) hO hC rfl rfl rfl rfl (by omega) (by omega) ?_
              refine x_1 (p' := 52) hC rfl rfl rfl rfl ?_
              refine x_1 (p' := 53) hC rfl rfl rfl rfl ?_
              refine x_stI5 (p' := 54) hC rfl rfl rfl ?_
              refine x_inc6 (p' := 55) hC rfl rfl (⟨by omega, by omega⟩) ?_
              refine x_1 (p' := 8) hC rfl rfl rfl rfl ?_
              first
                | exact absurd c27 c37
                | exact absurd c37 c27
                | exact absurd c27 c45
                | exact absurd c45 c27
                | exact ih _ _ _ _ _ Y2 (rPut r u q) (by omega) (by omega) (hI1.trans hV.1.sv) (RAll.put hI2 hV.1 (fun _ => ⟨hR, hV.2⟩)) (by rw [rMsk_put (by omega), cif_t c18, cif_t c27, ← hI3]) (by rw [rMis_put (by omega), cif_t c18, cif_t c27, ← hI4]) (by rw [rFlg_put (by omega), cif_t c18, ← hI5, fOf_some hV.2 c27]) (by omega)
                | exact ih _ _ _ _ _ Y2 (rPut r u q) (by omega) (by omega) (hI1.trans hV.1.sv) (RAll.put hI2 hV.1 (fun _ => ⟨hR, hV.2⟩)) (by rw [rMsk_put (by omega), cif_t c18, cif_f c27, ← hI3]) (by rw [rMis_put (by omega), cif_t c18, cif_f c27, ← hI4]) (by rw [rFlg_put (by omega), cif_t c18, ← hI5, fOf_none c27]) (by omega)
                | exact ih _ _ _ _ _ Y (rPut r u none) (by omega) (by omega) hI1 (RAll.put hI2 SU.refl (fun h => absurd h c18)) (by rw [rMsk_put (by omega), cif_f c18, ← hI3]) (by rw [rMis_put (by omega), cif_f c18, ← hI4]) (by rw [rFlg_put (by omega), cif_f c18, ← hI5]) (by omega)
set_option maxRecDepth 20000 in
set_option maxHeartbeats 2000000 in
theorem sp_m_releases {d : Nat} {m : Nat} {h : HP} (hO : RO m h) {X : Nat → Int → Int} (hs : RI (X 1)) {g sl : Int} (hg : 0 ≤ g ∧ g < X 1 0) (ha : g ≠ 0 → 0 ≤ rOf (X 1) g 5) (hsl : 0 ≤ sl ∧ sl ≤ 100000) (hd : 0 ≤ X 1 2 ∧ X 1 2 ≤ 100000 ∧ 0 ≤ rOf (X 1) g 3 ∧ rOf (X 1) g 3 ≤ 20) {Q : HP → Prop} (K : ∀ Y r, SV X Y → RAll (X 1) Y g sl r (X 1 1) → Q (wX m h (setS Y (rRel (X 1) g sl r (Y 7) (Y 8))))) : CaV (d + 6) 52 [.inr (some m), .inl g, .inl sl] (wX m h X) Q := by
  have hC : cod 52 = c_m_releases := rfl
  refine CaV.start rfl ?_
  refine x_1 (p' := 1) hC rfl rfl rfl rfl ?_
  refine x_stI3 (p' := 2) hC rfl rfl rfl ?_
  refine x_1 (p' := 3) hC rfl rfl rfl rfl ?_
  refine x_stI4 (p' := 4) hC rfl rfl rfl ?_
  refine x_1 (p' := 5) hC rfl rfl rfl rfl ?_
  refine x_stI5 (p' := 6) hC rfl rfl rfl ?_
  refine x_1 (p' := 7) hC rfl rfl rfl rfl ?_
  refine x_stI6 (p' := 8) hC rfl rfl rfl ?_
  exact lp_m_releases hO hs hg ha hsl hd K _ 0 0 0 0 _ X (fun _ => none) (Nat.lt_succ_self _) (by have := hs.2.1; omega) SV.refl (fun u h0 h1 => by omega) rfl rfl rfl (by omega)

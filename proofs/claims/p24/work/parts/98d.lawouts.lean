/-! THE LAW: its helpers: a cell of the script, the outputs -/
theorem and31 (x : Int) : 0 ≤ oAnd x 2147483647 ∧ oAnd x 2147483647 ≤ 2147483647 := by
  have h2 : (iS 2147483647).toBitVec = BitVec.ofNat 32 2147483647 := by decide
  have e2 : ((iS x).toBitVec &&& BitVec.ofNat 32 2147483647).toNat ≤ 2147483647 := by
    rw [BitVec.toNat_and, BitVec.toNat_ofNat]
    exact Nat.and_le_right
  have e : oAnd x 2147483647 = (((iS x).toBitVec &&& BitVec.ofNat 32 2147483647).toNat : Int) := by
    unfold oAnd
    show (iS x &&& iS 2147483647).toBitVec.toInt = _
    rw [Int32.toBitVec_and, h2, BitVec.toInt_eq_toNat_of_lt (by omega)]
  omega
set_option maxRecDepth 20000 in
theorem sp_L_cell {d L : Nat} {xs : Nat → Int32} {h : HP} (sc : hTy h 2 = (100, L) ∧ ∀ j : Int, hI h 2 j = (xs j.toNat).toInt) (hL : L ≤ 260) {k : Int} (hk : 0 ≤ k ∧ k ≤ 100) {Q : Int → HP → Prop} (K : ∀ c, 0 ≤ c → c ≤ 2147483647 → Q c h) : CaI d 1 [.inr (some 2), .inl k] h Q := by
  have hC : cod 1 = c_L_cell := rfl
  refine CaI.start rfl ?_
  refine x_1 (p' := 1) hC rfl rfl rfl rfl ?_
  refine x_1 (p' := 2) hC rfl rfl rfl rfl ?_
  refine x_len (p' := 3) hC rfl rfl rfl (sc.1) rfl (by omega) ?_
  refine x_icge (p' := 4) hC rfl rfl (fun c3 => ?_) (fun c3 => ?_)
  · refine x_ldc (p' := 9) (v := 22695477) hC rfl rfl (by decide) ?_
    refine x_1 (p' := 10) hC rfl rfl rfl rfl ?_
    refine x_1 (p' := 11) hC rfl rfl rfl rfl ?_
    refine x_add (p' := 12) hC rfl rfl rfl (⟨by omega, by omega⟩) ?_
    refine x_1 (p' := 13) hC rfl rfl rfl rfl ?_
    refine x_ldc (p' := 14) (v := 2147483647) hC rfl rfl (by decide) ?_
    refine x_1 (p' := 15) hC rfl rfl rfl rfl ?_
    refine x_iret hC rfl rfl rfl ⟨_, rfl, ?_⟩
    exact K _ (and31 _).1 (and31 _).2
  · refine x_1 (p' := 5) hC rfl rfl rfl rfl ?_
    refine x_1 (p' := 6) hC rfl rfl rfl rfl ?_
    refine x_iald (p' := 7) hC rfl rfl rfl (sc.1) (by omega) (by omega) ?_
    refine x_1 (p' := 13) hC rfl rfl rfl rfl ?_
    refine x_ldc (p' := 14) (v := 2147483647) hC rfl rfl (by decide) ?_
    refine x_1 (p' := 15) hC rfl rfl rfl rfl ?_
    refine x_iret hC rfl rfl rfl ⟨_, rfl, ?_⟩
    exact K _ (and31 _).1 (and31 _).2
set_option maxRecDepth 20000 in
theorem lp_outs_in {L : Nat} {xs : Nat → Int32} {b : Prop} {tm ou n : Int} {d : Nat} {h : HP} {S : Nat → Int → Int} {R : Nat → List FV} (W : RW L xs b tm ou h S R) (hI : IvvN n S R) {kk : Int} {v : FV} (hF : FlK v) (hr : ∀ u, 0 ≤ u → u < 5 → qReadAt S kk u 1 = fRd v u 1) {Q : Option AV → HP → Prop} (Kc : ∀ z7, At (d + 8) 4 87 [some (.inr (some 3)), some (.inl (cKept S)), some (.inl 1), some (.inl kk), some (.inl (rdN v 5)), some (.inl (flN v 5)), some (.inl 5), z7] [] h Q) (k : Nat) : ∀ (u : Int) (r : Int) (f : Int) (z7 : Option AV), (5 - u).toNat < k → (0 ≤ u ∧ u ≤ 5) → (r = rdN v u ∧ f = flN v u) → At (d + 8) 4 60 [some (.inr (some 3)), some (.inl (cKept S)), some (.inl 1), some (.inl kk), some (.inl r), some (.inl f), some (.inl u), z7] [] h Q := by
  have hC : cod 4 = c_L_outs := rfl
  induction k with
  | zero =>
    intro u r f z7 hk
    exact absurd hk (Nat.not_lt_zero _)
  | succ k ih =>
    intro u r f z7 hk hI0 hI1
    refine x_1 (p' := 61) hC rfl rfl rfl rfl ?_
    refine x_1 (p' := 62) hC rfl rfl rfl rfl ?_
    refine x_icge (p' := 63) hC rfl rfl (fun c62 => ?_) (fun c62 => ?_)
    · have e : u = 5 := by omega
      subst e
      rw [hI1.1, hI1.2]
      exact Kc _
    · refine x_1 (p' := 64) hC rfl rfl rfl rfl ?_
      refine x_1 (p' := 65) hC rfl rfl rfl rfl ?_
      refine x_1 (p' := 66) hC rfl rfl rfl rfl ?_
      refine x_1 (p' := 67) hC rfl rfl rfl rfl ?_
      refine x_cIV3 (p' := 68) (n := 176) hC rfl rfl rfl rfl rfl (W.ty) ?_
      refine rw_readingAt W hI ?_
      rw [hr u (by omega) (by omega)]
      have hx := rdF_is hF (u := u) ⟨by omega, by omega⟩
      have hn := rdN_succ (v := v) (u := u) (by omega)
      have hf := flN_succ (v := v) (u := u) (by omega)
      have hb := fI_ind (n := u) (g := fun j n => n + b2i (fHas v j)) (a := 0) (fun i x => 0 ≤ x ∧ x ≤ i) (by omega) (by decide) (fun i x a b q => by have := b2i_01 (fHas v i); omega)
      have hb : 0 ≤ rdN v u ∧ rdN v u ≤ u := hb
      generalize fRd v u 1 = x at *
      generalize cif (fHas v u) (v (16 + u)) 0 = y at *
      refine x_stI7 (p' := 69) hC rfl rfl rfl ?_
      refine x_1 (p' := 70) hC rfl rfl rfl rfl ?_
      refine x_1 (p' := 71) hC rfl rfl rfl rfl ?_
      refine x_iflt (p' := 72) hC rfl rfl (fun c71 => ?_) (fun c71 => ?_)
      · refine x_1 (p' := 75) hC rfl rfl rfl rfl ?_
        refine x_add (p' := 76) hC rfl rfl rfl (⟨by omega, by omega⟩) ?_
        refine x_stI4 (p' := 77) hC rfl rfl rfl ?_
        refine x_1 (p' := 78) hC rfl rfl rfl rfl ?_
        refine x_1 (p' := 79) hC rfl rfl rfl rfl ?_
        refine x_iflt (p' := 80) hC rfl rfl (fun c79 => ?_) (fun c79 => ?_)
        · refine x_1 (p' := 83) hC rfl rfl rfl rfl ?_
          refine x_1 (p' := 84) hC rfl rfl rfl rfl ?_
          refine x_stI5 (p' := 85) hC rfl rfl rfl ?_
          refine x_inc6 (p' := 86) hC rfl rfl (⟨by omega, by omega⟩) ?_
          refine x_1 (p' := 60) hC rfl rfl rfl rfl ?_
          refine ih (u + 1) _ _ _ (by omega) (by omega) ⟨by omega, ?_⟩
          rw [hf, hI1.2]
          congr 1
          omega
        · refine x_1 (p' := 81) hC rfl rfl rfl rfl ?_
          refine x_1 (p' := 83) hC rfl rfl rfl rfl ?_
          refine x_1 (p' := 84) hC rfl rfl rfl rfl ?_
          refine x_stI5 (p' := 85) hC rfl rfl rfl ?_
          refine x_inc6 (p' := 86) hC rfl rfl (⟨by omega, by omega⟩) ?_
          refine x_1 (p' := 60) hC rfl rfl rfl rfl ?_
          refine ih (u + 1) _ _ _ (by omega) (by omega) ⟨by omega, ?_⟩
          rw [hf, hI1.2]
          congr 1
          omega
      · refine x_1 (p' := 73) hC rfl rfl rfl rfl ?_
        refine x_1 (p' := 75) hC rfl rfl rfl rfl ?_
        refine x_add (p' := 76) hC rfl rfl rfl (⟨by omega, by omega⟩) ?_
        refine x_stI4 (p' := 77) hC rfl rfl rfl ?_
        refine x_1 (p' := 78) hC rfl rfl rfl rfl ?_
        refine x_1 (p' := 79) hC rfl rfl rfl rfl ?_
        refine x_iflt (p' := 80) hC rfl rfl (fun c79 => ?_) (fun c79 => ?_)
        · refine x_1 (p' := 83) hC rfl rfl rfl rfl ?_
          refine x_1 (p' := 84) hC rfl rfl rfl rfl ?_
          refine x_stI5 (p' := 85) hC rfl rfl rfl ?_
          refine x_inc6 (p' := 86) hC rfl rfl (⟨by omega, by omega⟩) ?_
          refine x_1 (p' := 60) hC rfl rfl rfl rfl ?_
          refine ih (u + 1) _ _ _ (by omega) (by omega) ⟨by omega, ?_⟩
          rw [hf, hI1.2]
          congr 1
          omega
        · refine x_1 (p' := 81) hC rfl rfl rfl rfl ?_
          refine x_1 (p' := 83) hC rfl rfl rfl rfl ?_
          refine x_1 (p' := 84) hC rfl rfl rfl rfl ?_
          refine x_stI5 (p' := 85) hC rfl rfl rfl ?_
          refine x_inc6 (p' := 86) hC rfl rfl (⟨by omega, by omega⟩) ?_
          refine x_1 (p' := 60) hC rfl rfl rfl rfl ?_
          refine ih (u + 1) _ _ _ (by omega) (by omega) ⟨by omega, ?_⟩
          rw [hf, hI1.2]
          congr 1
          omega
set_option maxRecDepth 20000 in
theorem lp_outs {L : Nat} {xs : Nat → Int32} {b : Prop} {tm ou n : Int} {d : Nat} {h : HP} {S : Nat → Int → Int} {R : Nat → List FV} (W : RW L xs b tm ou h S R) (hI : IvvN n S R) {Q : Int → HP → Prop} (K : Q 1 h) (k : Nat) : ∀ (i : Int) (z4 : Option AV) (z5 : Option AV) (z6 : Option AV) (z7 : Option AV), (cKept S - i).toNat < k → (0 ≤ i ∧ i ≤ cKept S) → At (d + 8) 4 49 [some (.inr (some 3)), some (.inl (cKept S)), some (.inl 1), some (.inl i), z4, z5, z6, z7] [] h (fun v h' => ∃ x, v = some (.inl x) ∧ Q x h') := by
  have hC : cod 4 = c_L_outs := rfl
  induction k with
  | zero =>
    intro i z4 z5 z6 z7 hk
    exact absurd hk (Nat.not_lt_zero _)
  | succ k ih =>
    intro i z4 z5 z6 z7 hk hI0
    obtain ⟨kt7, kt8, kt9⟩ := kept_is hI
    refine x_1 (p' := 50) hC rfl rfl rfl rfl ?_
    refine x_1 (p' := 51) hC rfl rfl rfl rfl ?_
    refine x_icge (p' := 52) hC rfl rfl (fun c51 => ?_) (fun c51 => ?_)
    · refine x_1 (p' := 154) hC rfl rfl rfl rfl ?_
      refine x_zret hC rfl rfl rfl (by first | omega | exact b2i_01 _) ⟨_, rfl, ?_⟩
      exact K
    · have hi : i < cKept S := by omega
      obtain ⟨o0, o1, o2, o3, o4⟩ := out_in hI0.1 hi
      obtain ⟨hF, hG, hN⟩ := hI.1.2.2.2.1 i hI0.1 hi
      have hn1 : 0 < i → OFS S i 1 < OFS S (i - 1) 1 ∧ OFS S i 3 ≤ OFS S (i - 1) 3 := fun z => by
        have := (hI.1.2.2.2.1 (i - 1) (by omega) (by omega)).2.2 (by omega)
        rw [show i - 1 + 1 = i by omega] at this
        exact this
      have hr := fun u a b => read_in hI.1.1 (k := i) (u := u) hI0.1 hi ⟨a, b⟩
      have t6 := hI.1.2.1
      generalize hv : OFS S i = v at *
      refine x_1 (p' := 53) hC rfl rfl rfl rfl ?_
      refine x_ifeq (p' := 54) hC rfl rfl (fun c53 => ?_) (fun c53 => ?_)
      · exact absurd c53 (by decide)
      · refine x_1 (p' := 55) hC rfl rfl rfl rfl ?_
        refine x_stI4 (p' := 56) hC rfl rfl rfl ?_
        refine x_1 (p' := 57) hC rfl rfl rfl rfl ?_
        refine x_stI5 (p' := 58) hC rfl rfl rfl ?_
        refine x_1 (p' := 59) hC rfl rfl rfl rfl ?_
        refine x_stI6 (p' := 60) hC rfl rfl rfl ?_
        refine lp_outs_in W hI hF hr (fun z7 => ?_) 6 0 0 0 _ (by decide) (by decide) ⟨rfl, rfl⟩
        refine x_1 (p' := 88) hC rfl rfl rfl rfl ?_
        refine x_1 (p' := 89) hC rfl rfl rfl rfl ?_
        refine x_1 (p' := 90) hC rfl rfl rfl rfl ?_
        refine x_1 (p' := 91) hC rfl rfl rfl rfl ?_
        refine x_cIV2 (p' := 92) (n := 175) hC rfl rfl rfl rfl rfl (W.ty) ?_
        refine rw_outAt W hI ?_
        rw [o4]
        refine x_ifle (p' := 93) hC rfl rfl (fun c92 => ?_) (fun c92 => ?_)
        · refine x_1 (p' := 96) hC rfl rfl rfl rfl ?_
          refine x_1 (p' := 97) hC rfl rfl rfl rfl ?_
          refine x_stI5 (p' := 98) hC rfl rfl rfl ?_
          refine x_1 (p' := 99) hC rfl rfl rfl rfl ?_
          refine x_1 (p' := 100) hC rfl rfl rfl rfl ?_
          refine x_1 (p' := 101) hC rfl rfl rfl rfl ?_
          refine x_cIV2 (p' := 102) (n := 175) hC rfl rfl rfl rfl rfl (W.ty) ?_
          refine rw_outAt W hI ?_
          rw [o3, ones5 hF]
          refine x_1 (p' := 103) hC rfl rfl rfl rfl ?_
          refine x_icne (p' := 104) hC rfl rfl (fun c103 => ?_) (fun c103 => ?_)
          · exact absurd rfl c103
          · refine x_1 (p' := 105) hC rfl rfl rfl rfl ?_
            refine x_1 (p' := 106) hC rfl rfl rfl rfl ?_
            refine x_1 (p' := 107) hC rfl rfl rfl rfl ?_
            refine x_cIV2 (p' := 108) (n := 175) hC rfl rfl rfl rfl rfl (W.ty) ?_
            refine rw_outAt W hI ?_
            rw [o2, flg5 hF]
            refine x_1 (p' := 109) hC rfl rfl rfl rfl ?_
            refine x_icne (p' := 110) hC rfl rfl (fun c109 => ?_) (fun c109 => ?_)
            · exact absurd (by congr 1; split <;> omega) c109
            · refine x_1 (p' := 111) hC rfl rfl rfl rfl ?_
              refine x_ifeq (p' := 112) hC rfl rfl (fun c111 => ?_) (fun c111 => ?_)
              · refine x_1 (p' := 135) hC rfl rfl rfl rfl ?_
                refine x_1 (p' := 136) hC rfl rfl rfl rfl ?_
                refine x_1 (p' := 137) hC rfl rfl rfl rfl ?_
                refine x_cIV2 (p' := 138) (n := 175) hC rfl rfl rfl rfl rfl (W.ty) ?_
                refine rw_outAt W hI ?_
                rw [o1]
                refine x_1 (p' := 139) hC rfl rfl rfl rfl ?_
                refine x_1 (p' := 140) hC rfl rfl rfl rfl ?_
                refine x_1 (p' := 141) hC rfl rfl rfl rfl ?_
                refine x_cIV2 (p' := 142) (n := 175) hC rfl rfl rfl rfl rfl (W.ty) ?_
                refine rw_outAt W hI ?_
                rw [o0]
                refine x_sub (p' := 143) hC rfl rfl rfl (⟨by omega, by omega⟩) ?_
                refine x_1 (p' := 144) hC rfl rfl rfl rfl ?_
                refine x_1 (p' := 145) hC rfl rfl rfl rfl ?_
                refine x_cIV1 (p' := 146) (n := 180) hC rfl rfl rfl rfl rfl (W.ty) ?_
                refine rw_count W hI.1.1.ci (by decide) ?_
                rw [show cTot S 8 = if cT S 7 = 0 then -1000004 else cT S 8 from rfl, if_neg (by omega)]
                refine x_icgt (p' := 147) hC rfl rfl (fun c146 => ?_) (fun c146 => ?_)
                · exact absurd c146 (by omega)
                · refine x_1 (p' := 148) hC rfl rfl rfl rfl ?_
                  refine x_1 (p' := 150) hC rfl rfl rfl rfl ?_
                  refine x_stI2 (p' := 151) hC rfl rfl rfl ?_
                  refine x_inc3 (p' := 152) hC rfl rfl (⟨by omega, by omega⟩) ?_
                  refine x_1 (p' := 49) hC rfl rfl rfl rfl ?_
                  exact ih (i + 1) _ _ _ _ (by omega) (by omega)
              · refine x_1 (p' := 113) hC rfl rfl rfl rfl ?_
                refine x_1 (p' := 114) hC rfl rfl rfl rfl ?_
                refine x_1 (p' := 115) hC rfl rfl rfl rfl ?_
                refine x_cIV2 (p' := 116) (n := 175) hC rfl rfl rfl rfl rfl (W.ty) ?_
                refine rw_outAt W hI ?_
                rw [o0]
                refine x_1 (p' := 117) hC rfl rfl rfl rfl ?_
                refine x_1 (p' := 118) hC rfl rfl rfl rfl ?_
                refine x_1 (p' := 119) hC rfl rfl rfl rfl ?_
                refine x_sub (p' := 120) hC rfl rfl rfl (⟨by omega, by omega⟩) ?_
                refine x_1 (p' := 121) hC rfl rfl rfl rfl ?_
                refine x_cIV2 (p' := 122) (n := 175) hC rfl rfl rfl rfl rfl (W.ty) ?_
                refine rw_outAt W hI ?_
                rw [(out_in (S := S) (k := i - 1) (by omega) (by omega)).1]
                refine x_icge (p' := 123) hC rfl rfl (fun c122 => ?_) (fun c122 => ?_)
                · exact absurd c122 (by have := hn1 (by omega); omega)
                · refine x_1 (p' := 124) hC rfl rfl rfl rfl ?_
                  refine x_1 (p' := 125) hC rfl rfl rfl rfl ?_
                  refine x_1 (p' := 126) hC rfl rfl rfl rfl ?_
                  refine x_cIV2 (p' := 127) (n := 175) hC rfl rfl rfl rfl rfl (W.ty) ?_
                  refine rw_outAt W hI ?_
                  rw [o1]
                  refine x_1 (p' := 128) hC rfl rfl rfl rfl ?_
                  refine x_1 (p' := 129) hC rfl rfl rfl rfl ?_
                  refine x_1 (p' := 130) hC rfl rfl rfl rfl ?_
                  refine x_sub (p' := 131) hC rfl rfl rfl (⟨by omega, by omega⟩) ?_
                  refine x_1 (p' := 132) hC rfl rfl rfl rfl ?_
                  refine x_cIV2 (p' := 133) (n := 175) hC rfl rfl rfl rfl rfl (W.ty) ?_
                  refine rw_outAt W hI ?_
                  rw [(out_in (S := S) (k := i - 1) (by omega) (by omega)).2.1]
                  refine x_icgt (p' := 134) hC rfl rfl (fun c133 => ?_) (fun c133 => ?_)
                  · exact absurd c133 (by have := hn1 (by omega); omega)
                  · refine x_1 (p' := 135) hC rfl rfl rfl rfl ?_
                    refine x_1 (p' := 136) hC rfl rfl rfl rfl ?_
                    refine x_1 (p' := 137) hC rfl rfl rfl rfl ?_
                    refine x_cIV2 (p' := 138) (n := 175) hC rfl rfl rfl rfl rfl (W.ty) ?_
                    refine rw_outAt W hI ?_
                    rw [o1]
                    refine x_1 (p' := 139) hC rfl rfl rfl rfl ?_
                    refine x_1 (p' := 140) hC rfl rfl rfl rfl ?_
                    refine x_1 (p' := 141) hC rfl rfl rfl rfl ?_
                    refine x_cIV2 (p' := 142) (n := 175) hC rfl rfl rfl rfl rfl (W.ty) ?_
                    refine rw_outAt W hI ?_
                    rw [o0]
                    refine x_sub (p' := 143) hC rfl rfl rfl (⟨by omega, by omega⟩) ?_
                    refine x_1 (p' := 144) hC rfl rfl rfl rfl ?_
                    refine x_1 (p' := 145) hC rfl rfl rfl rfl ?_
                    refine x_cIV1 (p' := 146) (n := 180) hC rfl rfl rfl rfl rfl (W.ty) ?_
                    refine rw_count W hI.1.1.ci (by decide) ?_
                    rw [show cTot S 8 = if cT S 7 = 0 then -1000004 else cT S 8 from rfl, if_neg (by omega)]
                    refine x_icgt (p' := 147) hC rfl rfl (fun c146 => ?_) (fun c146 => ?_)
                    · exact absurd c146 (by omega)
                    · refine x_1 (p' := 148) hC rfl rfl rfl rfl ?_
                      refine x_1 (p' := 150) hC rfl rfl rfl rfl ?_
                      refine x_stI2 (p' := 151) hC rfl rfl rfl ?_
                      refine x_inc3 (p' := 152) hC rfl rfl (⟨by omega, by omega⟩) ?_
                      refine x_1 (p' := 49) hC rfl rfl rfl rfl ?_
                      exact ih (i + 1) _ _ _ _ (by omega) (by omega)
        · refine x_1 (p' := 94) hC rfl rfl rfl rfl ?_
          refine x_1 (p' := 96) hC rfl rfl rfl rfl ?_
          refine x_1 (p' := 97) hC rfl rfl rfl rfl ?_
          refine x_stI5 (p' := 98) hC rfl rfl rfl ?_
          refine x_1 (p' := 99) hC rfl rfl rfl rfl ?_
          refine x_1 (p' := 100) hC rfl rfl rfl rfl ?_
          refine x_1 (p' := 101) hC rfl rfl rfl rfl ?_
          refine x_cIV2 (p' := 102) (n := 175) hC rfl rfl rfl rfl rfl (W.ty) ?_
          refine rw_outAt W hI ?_
          rw [o3, ones5 hF]
          refine x_1 (p' := 103) hC rfl rfl rfl rfl ?_
          refine x_icne (p' := 104) hC rfl rfl (fun c103 => ?_) (fun c103 => ?_)
          · exact absurd rfl c103
          · refine x_1 (p' := 105) hC rfl rfl rfl rfl ?_
            refine x_1 (p' := 106) hC rfl rfl rfl rfl ?_
            refine x_1 (p' := 107) hC rfl rfl rfl rfl ?_
            refine x_cIV2 (p' := 108) (n := 175) hC rfl rfl rfl rfl rfl (W.ty) ?_
            refine rw_outAt W hI ?_
            rw [o2, flg5 hF]
            refine x_1 (p' := 109) hC rfl rfl rfl rfl ?_
            refine x_icne (p' := 110) hC rfl rfl (fun c109 => ?_) (fun c109 => ?_)
            · exact absurd (by congr 1; split <;> omega) c109
            · refine x_1 (p' := 111) hC rfl rfl rfl rfl ?_
              refine x_ifeq (p' := 112) hC rfl rfl (fun c111 => ?_) (fun c111 => ?_)
              · refine x_1 (p' := 135) hC rfl rfl rfl rfl ?_
                refine x_1 (p' := 136) hC rfl rfl rfl rfl ?_
                refine x_1 (p' := 137) hC rfl rfl rfl rfl ?_
                refine x_cIV2 (p' := 138) (n := 175) hC rfl rfl rfl rfl rfl (W.ty) ?_
                refine rw_outAt W hI ?_
                rw [o1]
                refine x_1 (p' := 139) hC rfl rfl rfl rfl ?_
                refine x_1 (p' := 140) hC rfl rfl rfl rfl ?_
                refine x_1 (p' := 141) hC rfl rfl rfl rfl ?_
                refine x_cIV2 (p' := 142) (n := 175) hC rfl rfl rfl rfl rfl (W.ty) ?_
                refine rw_outAt W hI ?_
                rw [o0]
                refine x_sub (p' := 143) hC rfl rfl rfl (⟨by omega, by omega⟩) ?_
                refine x_1 (p' := 144) hC rfl rfl rfl rfl ?_
                refine x_1 (p' := 145) hC rfl rfl rfl rfl ?_
                refine x_cIV1 (p' := 146) (n := 180) hC rfl rfl rfl rfl rfl (W.ty) ?_
                refine rw_count W hI.1.1.ci (by decide) ?_
                rw [show cTot S 8 = if cT S 7 = 0 then -1000004 else cT S 8 from rfl, if_neg (by omega)]
                refine x_icgt (p' := 147) hC rfl rfl (fun c146 => ?_) (fun c146 => ?_)
                · exact absurd c146 (by omega)
                · refine x_1 (p' := 148) hC rfl rfl rfl rfl ?_
                  refine x_1 (p' := 150) hC rfl rfl rfl rfl ?_
                  refine x_stI2 (p' := 151) hC rfl rfl rfl ?_
                  refine x_inc3 (p' := 152) hC rfl rfl (⟨by omega, by omega⟩) ?_
                  refine x_1 (p' := 49) hC rfl rfl rfl rfl ?_
                  exact ih (i + 1) _ _ _ _ (by omega) (by omega)
              · refine x_1 (p' := 113) hC rfl rfl rfl rfl ?_
                refine x_1 (p' := 114) hC rfl rfl rfl rfl ?_
                refine x_1 (p' := 115) hC rfl rfl rfl rfl ?_
                refine x_cIV2 (p' := 116) (n := 175) hC rfl rfl rfl rfl rfl (W.ty) ?_
                refine rw_outAt W hI ?_
                rw [o0]
                refine x_1 (p' := 117) hC rfl rfl rfl rfl ?_
                refine x_1 (p' := 118) hC rfl rfl rfl rfl ?_
                refine x_1 (p' := 119) hC rfl rfl rfl rfl ?_
                refine x_sub (p' := 120) hC rfl rfl rfl (⟨by omega, by omega⟩) ?_
                refine x_1 (p' := 121) hC rfl rfl rfl rfl ?_
                refine x_cIV2 (p' := 122) (n := 175) hC rfl rfl rfl rfl rfl (W.ty) ?_
                refine rw_outAt W hI ?_
                rw [(out_in (S := S) (k := i - 1) (by omega) (by omega)).1]
                refine x_icge (p' := 123) hC rfl rfl (fun c122 => ?_) (fun c122 => ?_)
                · exact absurd c122 (by have := hn1 (by omega); omega)
                · refine x_1 (p' := 124) hC rfl rfl rfl rfl ?_
                  refine x_1 (p' := 125) hC rfl rfl rfl rfl ?_
                  refine x_1 (p' := 126) hC rfl rfl rfl rfl ?_
                  refine x_cIV2 (p' := 127) (n := 175) hC rfl rfl rfl rfl rfl (W.ty) ?_
                  refine rw_outAt W hI ?_
                  rw [o1]
                  refine x_1 (p' := 128) hC rfl rfl rfl rfl ?_
                  refine x_1 (p' := 129) hC rfl rfl rfl rfl ?_
                  refine x_1 (p' := 130) hC rfl rfl rfl rfl ?_
                  refine x_sub (p' := 131) hC rfl rfl rfl (⟨by omega, by omega⟩) ?_
                  refine x_1 (p' := 132) hC rfl rfl rfl rfl ?_
                  refine x_cIV2 (p' := 133) (n := 175) hC rfl rfl rfl rfl rfl (W.ty) ?_
                  refine rw_outAt W hI ?_
                  rw [(out_in (S := S) (k := i - 1) (by omega) (by omega)).2.1]
                  refine x_icgt (p' := 134) hC rfl rfl (fun c133 => ?_) (fun c133 => ?_)
                  · exact absurd c133 (by have := hn1 (by omega); omega)
                  · refine x_1 (p' := 135) hC rfl rfl rfl rfl ?_
                    refine x_1 (p' := 136) hC rfl rfl rfl rfl ?_
                    refine x_1 (p' := 137) hC rfl rfl rfl rfl ?_
                    refine x_cIV2 (p' := 138) (n := 175) hC rfl rfl rfl rfl rfl (W.ty) ?_
                    refine rw_outAt W hI ?_
                    rw [o1]
                    refine x_1 (p' := 139) hC rfl rfl rfl rfl ?_
                    refine x_1 (p' := 140) hC rfl rfl rfl rfl ?_
                    refine x_1 (p' := 141) hC rfl rfl rfl rfl ?_
                    refine x_cIV2 (p' := 142) (n := 175) hC rfl rfl rfl rfl rfl (W.ty) ?_
                    refine rw_outAt W hI ?_
                    rw [o0]
                    refine x_sub (p' := 143) hC rfl rfl rfl (⟨by omega, by omega⟩) ?_
                    refine x_1 (p' := 144) hC rfl rfl rfl rfl ?_
                    refine x_1 (p' := 145) hC rfl rfl rfl rfl ?_
                    refine x_cIV1 (p' := 146) (n := 180) hC rfl rfl rfl rfl rfl (W.ty) ?_
                    refine rw_count W hI.1.1.ci (by decide) ?_
                    rw [show cTot S 8 = if cT S 7 = 0 then -1000004 else cT S 8 from rfl, if_neg (by omega)]
                    refine x_icgt (p' := 147) hC rfl rfl (fun c146 => ?_) (fun c146 => ?_)
                    · exact absurd c146 (by omega)
                    · refine x_1 (p' := 148) hC rfl rfl rfl rfl ?_
                      refine x_1 (p' := 150) hC rfl rfl rfl rfl ?_
                      refine x_stI2 (p' := 151) hC rfl rfl rfl ?_
                      refine x_inc3 (p' := 152) hC rfl rfl (⟨by omega, by omega⟩) ?_
                      refine x_1 (p' := 49) hC rfl rfl rfl rfl ?_
                      exact ih (i + 1) _ _ _ _ (by omega) (by omega)
set_option maxRecDepth 20000 in
theorem sp_L_outs {L : Nat} {xs : Nat → Int32} {b : Prop} {tm ou n : Int} {d : Nat} {h : HP} {S : Nat → Int → Int} {R : Nat → List FV} (W : RW L xs b tm ou h S R) (hI : IvvN n S R) {Q : Int → HP → Prop} (K : Q 1 h) : CaI (d + 8) 4 [.inr (some 3)] h Q := by
  have hC : cod 4 = c_L_outs := rfl
  refine CaI.start rfl ?_
  obtain ⟨kt7, kt8, kt9⟩ := kept_is hI
  have c4 := hI.1.1.1.1
  have h7 := hI.1.2.2.2.2.1
  have hk := hI.1.2.2.2.2.2
  have lt := (hI.1.2.2.1 0 (by decide) (by decide)).2.2.2.2
  have hq : ∀ w : Int, 0 ≤ w → w ≤ 14 → qHubOf S R 0 w = cHubF S R 0 w := fun w a q => if_neg (fun z => z ⟨⟨by decide, by omega⟩, a, q⟩)
  have hq10 : qHubOf S R 0 10 = cH S 0 5 := (hq 10 (by decide) (by decide)).trans rfl
  have hq13 : qHubOf S R 0 13 = if cH S 0 8 = -1 then -1000004 else cH S 0 8 := (hq 13 (by decide) (by decide)).trans rfl
  refine x_1 (p' := 1) hC rfl rfl rfl rfl ?_
  refine x_1 (p' := 2) hC rfl rfl rfl rfl ?_
  refine x_cIV1 (p' := 3) (n := 180) hC rfl rfl rfl rfl rfl (W.ty) ?_
  refine rw_count W hI.1.1.ci (by decide) ?_
  rw [show cTot S 5 = cKept S from rfl]
  refine x_stI1 (p' := 4) hC rfl rfl rfl ?_
  refine x_1 (p' := 5) hC rfl rfl rfl rfl ?_
  refine x_1 (p' := 6) hC rfl rfl rfl rfl ?_
  refine x_1 (p' := 7) hC rfl rfl rfl rfl ?_
  refine x_cIV2 (p' := 8) (n := 175) hC rfl rfl rfl rfl rfl (W.ty) ?_
  refine rw_outAt W hI ?_
  rw [out_no kt8.1]
  refine x_ldc (p' := 9) (v := (-1000004)) hC rfl rfl (by decide) ?_
  refine x_icne (p' := 10) hC rfl rfl (fun c9 => ?_) (fun c9 => ?_)
  · exact absurd rfl c9
  · refine x_1 (p' := 11) hC rfl rfl rfl rfl ?_
    refine x_1 (p' := 12) hC rfl rfl rfl rfl ?_
    refine x_icne (p' := 13) hC rfl rfl (fun c12 => ?_) (fun c12 => ?_)
    · refine x_1 (p' := 20) hC rfl rfl rfl rfl ?_
      refine x_1 (p' := 21) hC rfl rfl rfl rfl ?_
      refine x_cIV1 (p' := 22) (n := 180) hC rfl rfl rfl rfl rfl (W.ty) ?_
      refine rw_count W hI.1.1.ci (by decide) ?_
      rw [show cTot S 4 = cT S 7 from rfl]
      refine x_1 (p' := 23) hC rfl rfl rfl rfl ?_
      refine x_icne (p' := 24) hC rfl rfl (fun c23 => ?_) (fun c23 => ?_)
      · exact absurd (kt9 (by omega)).symm c23
      · refine x_1 (p' := 25) hC rfl rfl rfl rfl ?_
        refine x_1 (p' := 26) hC rfl rfl rfl rfl ?_
        refine x_1 (p' := 27) hC rfl rfl rfl rfl ?_
        refine x_cIV2 (p' := 28) (n := 169) hC rfl rfl rfl rfl rfl (W.ty) ?_
        refine rw_hubOf W hI.1.1.ci ?_
        rw [hq10]
        refine x_1 (p' := 29) hC rfl rfl rfl rfl ?_
        refine x_1 (p' := 30) hC rfl rfl rfl rfl ?_
        refine x_cIV1 (p' := 31) (n := 180) hC rfl rfl rfl rfl rfl (W.ty) ?_
        refine rw_count W hI.1.1.ci (by decide) ?_
        rw [show cTot S 4 = cT S 7 from rfl]
        refine x_icne (p' := 32) hC rfl rfl (fun c31 => ?_) (fun c31 => ?_)
        · exact absurd h7.symm c31
        · refine x_1 (p' := 33) hC rfl rfl rfl rfl ?_
          refine x_ifeq (p' := 34) hC rfl rfl (fun c33 => ?_) (fun c33 => ?_)
          · refine x_1 (p' := 44) hC rfl rfl rfl rfl ?_
            refine x_1 (p' := 46) hC rfl rfl rfl rfl ?_
            refine x_stI2 (p' := 47) hC rfl rfl rfl ?_
            refine x_1 (p' := 48) hC rfl rfl rfl rfl ?_
            refine x_stI3 (p' := 49) hC rfl rfl rfl ?_
            exact lp_outs W hI K _ 0 none none none none (Nat.lt_succ_self _) (by omega)
          · refine x_1 (p' := 35) hC rfl rfl rfl rfl ?_
            refine x_1 (p' := 36) hC rfl rfl rfl rfl ?_
            refine x_1 (p' := 37) hC rfl rfl rfl rfl ?_
            refine x_cIV2 (p' := 38) (n := 169) hC rfl rfl rfl rfl rfl (W.ty) ?_
            refine rw_hubOf W hI.1.1.ci ?_
            rw [hq13, if_neg (by rcases lt with z | z <;> omega)]
            refine x_1 (p' := 39) hC rfl rfl rfl rfl ?_
            refine x_1 (p' := 40) hC rfl rfl rfl rfl ?_
            refine x_1 (p' := 41) hC rfl rfl rfl rfl ?_
            refine x_cIV2 (p' := 42) (n := 175) hC rfl rfl rfl rfl rfl (W.ty) ?_
            refine rw_outAt W hI ?_
            rw [(out_in (S := S) (k := 0) (by decide) (by omega)).1, hk (by omega)]
            refine x_icne (p' := 43) hC rfl rfl (fun c42 => ?_) (fun c42 => ?_)
            · exact absurd rfl c42
            · refine x_1 (p' := 44) hC rfl rfl rfl rfl ?_
              refine x_1 (p' := 46) hC rfl rfl rfl rfl ?_
              refine x_stI2 (p' := 47) hC rfl rfl rfl ?_
              refine x_1 (p' := 48) hC rfl rfl rfl rfl ?_
              refine x_stI3 (p' := 49) hC rfl rfl rfl ?_
              exact lp_outs W hI K _ 0 none none none none (Nat.lt_succ_self _) (by omega)
    · refine x_1 (p' := 14) hC rfl rfl rfl rfl ?_
      refine x_1 (p' := 15) hC rfl rfl rfl rfl ?_
      refine x_cIV1 (p' := 16) (n := 180) hC rfl rfl rfl rfl rfl (W.ty) ?_
      refine rw_count W hI.1.1.ci (by decide) ?_
      rw [show cTot S 4 = cT S 7 from rfl]
      refine x_1 (p' := 17) hC rfl rfl rfl rfl ?_
      refine x_iclt (p' := 18) hC rfl rfl (fun c17 => ?_) (fun c17 => ?_)
      · exact absurd c17 (by omega)
      · refine x_1 (p' := 24) hC rfl rfl rfl rfl ?_
        refine x_1 (p' := 25) hC rfl rfl rfl rfl ?_
        refine x_1 (p' := 26) hC rfl rfl rfl rfl ?_
        refine x_1 (p' := 27) hC rfl rfl rfl rfl ?_
        refine x_cIV2 (p' := 28) (n := 169) hC rfl rfl rfl rfl rfl (W.ty) ?_
        refine rw_hubOf W hI.1.1.ci ?_
        rw [hq10]
        refine x_1 (p' := 29) hC rfl rfl rfl rfl ?_
        refine x_1 (p' := 30) hC rfl rfl rfl rfl ?_
        refine x_cIV1 (p' := 31) (n := 180) hC rfl rfl rfl rfl rfl (W.ty) ?_
        refine rw_count W hI.1.1.ci (by decide) ?_
        rw [show cTot S 4 = cT S 7 from rfl]
        refine x_icne (p' := 32) hC rfl rfl (fun c31 => ?_) (fun c31 => ?_)
        · exact absurd h7.symm c31
        · refine x_1 (p' := 33) hC rfl rfl rfl rfl ?_
          refine x_ifeq (p' := 34) hC rfl rfl (fun c33 => ?_) (fun c33 => ?_)
          · refine x_1 (p' := 44) hC rfl rfl rfl rfl ?_
            refine x_1 (p' := 46) hC rfl rfl rfl rfl ?_
            refine x_stI2 (p' := 47) hC rfl rfl rfl ?_
            refine x_1 (p' := 48) hC rfl rfl rfl rfl ?_
            refine x_stI3 (p' := 49) hC rfl rfl rfl ?_
            exact lp_outs W hI K _ 0 none none none none (Nat.lt_succ_self _) (by omega)
          · refine x_1 (p' := 35) hC rfl rfl rfl rfl ?_
            refine x_1 (p' := 36) hC rfl rfl rfl rfl ?_
            refine x_1 (p' := 37) hC rfl rfl rfl rfl ?_
            refine x_cIV2 (p' := 38) (n := 169) hC rfl rfl rfl rfl rfl (W.ty) ?_
            refine rw_hubOf W hI.1.1.ci ?_
            rw [hq13, if_neg (by rcases lt with z | z <;> omega)]
            refine x_1 (p' := 39) hC rfl rfl rfl rfl ?_
            refine x_1 (p' := 40) hC rfl rfl rfl rfl ?_
            refine x_1 (p' := 41) hC rfl rfl rfl rfl ?_
            refine x_cIV2 (p' := 42) (n := 175) hC rfl rfl rfl rfl rfl (W.ty) ?_
            refine rw_outAt W hI ?_
            rw [(out_in (S := S) (k := 0) (by decide) (by omega)).1, hk (by omega)]
            refine x_icne (p' := 43) hC rfl rfl (fun c42 => ?_) (fun c42 => ?_)
            · exact absurd rfl c42
            · refine x_1 (p' := 44) hC rfl rfl rfl rfl ?_
              refine x_1 (p' := 46) hC rfl rfl rfl rfl ?_
              refine x_stI2 (p' := 47) hC rfl rfl rfl ?_
              refine x_1 (p' := 48) hC rfl rfl rfl rfl ?_
              refine x_stI3 (p' := 49) hC rfl rfl rfl ?_
              exact lp_outs W hI K _ 0 none none none none (Nat.lt_succ_self _) (by omega)

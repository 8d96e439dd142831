/-! THE LAW: sending, what holds -/
theorem unit_is {S : Nat → Int → Int} {R : Nat → List FV} (h : CfgS S) {u : Int} (hu : 0 ≤ u ∧ u < 5) : qUnitOf S R u 1 = cU S u 1 ∧ ((qUnitOf S R u 2 = 0 ∧ cU S u 2 = 0) ∨ (qUnitOf S R u 2 = 1 ∧ ¬ cU S u 2 = 0)) ∧ qUnitOf S R u 3 = cU S u 3 ∧ qUnitOf S R u 4 = cFrom (R 3) (5 + u) := by
  have c5 := h.1.2
  have e : ∀ w, 0 ≤ w → w ≤ 6 → qUnitOf S R u w = cUnitF S R u w := fun w a b => if_neg (fun z => z ⟨⟨hu.1, by omega⟩, a, b⟩)
  refine ⟨(e 1 (by decide) (by decide)).trans rfl, ?_, (e 3 (by decide) (by decide)).trans rfl, (e 4 (by decide) (by decide)).trans rfl⟩
  rw [e 2 (by decide) (by decide)]
  show (((if cU S u 2 = 0 then 0 else 1) = (0 : Int)) ∧ cU S u 2 = 0) ∨ (((if cU S u 2 = 0 then 0 else 1) = (1 : Int)) ∧ ¬ cU S u 2 = 0)
  by_cases q : cU S u 2 = 0
  · rw [if_pos q]; exact Or.inl ⟨rfl, q⟩
  · rw [if_neg q]; exact Or.inr ⟨rfl, q⟩
noncomputable def wayN (L : List FV) (i : Int) : Int := fI i (fun g n => n + (if g = 0 then 0 else cFrom L g)) 0
noncomputable def wayU (L : List FV) (i : Int) : Int := fI i (fun x n => n + cFrom L (5 + x)) 0
theorem wayN_succ {L : List FV} {i : Int} (h : 0 ≤ i) : wayN L (i + 1) = wayN L i + (if i = 0 then 0 else cFrom L i) := by unfold wayN; rw [fI_succ h]
theorem wayU_succ {L : List FV} {i : Int} (h : 0 ≤ i) : wayU L (i + 1) = wayU L i + cFrom L (5 + i) := by unfold wayU; rw [fI_succ h]
theorem way_all {L : List FV} : wayN L 4 + wayU L 5 = waySum L := by
  rw [show (4 : Int) = 0 + 1 + 1 + 1 + 1 by decide, wayN_succ (by decide), wayN_succ (by decide), wayN_succ (by decide), wayN_succ (by decide)]
  rw [show (5 : Int) = 0 + 1 + 1 + 1 + 1 + 1 by decide, wayU_succ (by decide), wayU_succ (by decide), wayU_succ (by decide), wayU_succ (by decide), wayU_succ (by decide)]
  rw [show wayN L 0 = 0 from rfl, show wayU L 0 = 0 from rfl]
  unfold waySum
  rw [if_pos rfl, if_neg (by decide), if_neg (by decide), if_neg (by decide)]
  simp only [Int.zero_add, Int.reduceAdd]
  omega
theorem cFrom_rng {L : List FV} {c : Int} : 0 ≤ cFrom L c ∧ cFrom L c ≤ (L.length : Nat) := by
  rw [cFrom_is]
  have := List.countP_le_length (p := pd fun (v : FV) => v 0 = c) (l := L)
  omega
noncomputable def onN (S : Nat → Int → Int) (i : Int) : Int := fI i (fun u n => n + b2i (cU S u 2 = 0)) 0
theorem onN_succ {S : Nat → Int → Int} {i : Int} (h : 0 ≤ i) : onN S (i + 1) = onN S i + b2i (cU S i 2 = 0) := by unfold onN; rw [fI_succ h]
noncomputable def sumK (S : Nat → Int → Int) (k i : Int) : Int := fI i (fun g n => wr (n + cH S g k)) 0
theorem sumK_succ {S : Nat → Int → Int} {k i : Int} (h : 0 ≤ i) : sumK S k (i + 1) = wr (sumK S k i + cH S i k) := by unfold sumK; rw [fI_succ h]
set_option maxRecDepth 20000 in
theorem sends50 {L : Nat} {xs : Nat → Int32} {b : Prop} {tm ou n : Int} {d : Nat} {h : HP} {S : Nat → Int → Int} {R : Nat → List FV} (W : RW L xs b tm ou h S R) (hI : IvvN n S R) (hn : n ≤ 99) {u z : Int} (hu : 0 ≤ u ∧ u < 5) (hz : 0 ≤ z ∧ z ≤ 2147483647) {Q : Int → HP → Prop} (K : ∀ H S2 R2, RW L xs False 0 0 H S2 R2 → IvvN (n + 1) S2 R2 → cT S2 6 = cT S 6 → Q 1 H) {s4 : Int} {H : HP} {S2 : Nat → Int → Int} {R2 : Nat → List FV} (W2 : RW L xs False 0 0 H S2 R2) (hI2 : IvvN (n + 1) S2 R2) (h6 : cT S2 6 = cT S 6) (e2 : cU S2 u 2 = cU S u 2) {x way : Int} (hw0 : 0 ≤ way ∧ way ≤ 1000) (hx : (¬ cU S u 2 = 0 ∧ x = -1000002) ∨ (cU S u 2 = 0 ∧ way < 40 ∧ x = way + 1) ∨ (cU S u 2 = 0 ∧ 40 ≤ way ∧ x = -1000003)) {z6 : Option AV} : At (d + 8) 2 50 [some (.inr (some 3)), some (.inl u), some (.inl z), some (.inl (cU S u 1)), some (.inl s4), some (.inl way), z6] [.inl x] H (fun v h' => ∃ x, v = some (.inl x) ∧ Q x h') := by
  have hC : cod 2 = c_L_sends := rfl
  have u2 := (unit_is (R := R2) hI2.1.1 hu).2.1
  rw [e2] at u2
  refine x_stI6 (p' := 51) hC rfl rfl rfl ?_
  refine x_1 (p' := 52) hC rfl rfl rfl rfl ?_
  refine x_1 (p' := 53) hC rfl rfl rfl rfl ?_
  refine x_1 (p' := 54) hC rfl rfl rfl rfl ?_
  refine x_1 (p' := 55) hC rfl rfl rfl rfl ?_
  refine x_cIV2 (p' := 56) (n := 170) hC rfl rfl rfl rfl rfl (W2.ty) ?_
  refine rw_unitOf W2 hI2.1.1 ?_
  generalize qUnitOf S2 R2 u 2 = w2 at *
  refine x_1 (p' := 57) hC rfl rfl rfl rfl ?_
  refine x_icne (p' := 58) hC rfl rfl (fun c57 => ?_) (fun c57 => ?_)
  · refine x_1 (p' := 61) hC rfl rfl rfl rfl ?_
    refine x_1 (p' := 62) hC rfl rfl rfl rfl ?_
    refine x_iclt (p' := 63) hC rfl rfl (fun c62 => ?_) (fun c62 => ?_)
    · refine x_1 (p' := 66) hC rfl rfl rfl rfl ?_
      refine x_1 (p' := 67) hC rfl rfl rfl rfl ?_
      refine x_add (p' := 68) hC rfl rfl rfl (⟨by omega, by omega⟩) ?_
      refine x_icne (p' := 69) hC rfl rfl (fun c68 => ?_) (fun c68 => ?_)
      · exact absurd (by omega) c68
      · refine x_1 (p' := 70) hC rfl rfl rfl rfl ?_
        refine x_1 (p' := 72) hC rfl rfl rfl rfl ?_
        refine x_zret hC rfl rfl rfl (by first | omega | exact b2i_01 _) ⟨_, rfl, ?_⟩
        exact K H S2 R2 W2 hI2 h6
    · refine x_ldc (p' := 64) (v := (-1000003)) hC rfl rfl (by decide) ?_
      refine x_1 (p' := 68) hC rfl rfl rfl rfl ?_
      refine x_icne (p' := 69) hC rfl rfl (fun c68 => ?_) (fun c68 => ?_)
      · exact absurd (by omega) c68
      · refine x_1 (p' := 70) hC rfl rfl rfl rfl ?_
        refine x_1 (p' := 72) hC rfl rfl rfl rfl ?_
        refine x_zret hC rfl rfl rfl (by first | omega | exact b2i_01 _) ⟨_, rfl, ?_⟩
        exact K H S2 R2 W2 hI2 h6
  · refine x_ldc (p' := 59) (v := (-1000002)) hC rfl rfl (by decide) ?_
    refine x_1 (p' := 68) hC rfl rfl rfl rfl ?_
    refine x_icne (p' := 69) hC rfl rfl (fun c68 => ?_) (fun c68 => ?_)
    · exact absurd (by omega) c68
    · refine x_1 (p' := 70) hC rfl rfl rfl rfl ?_
      refine x_1 (p' := 72) hC rfl rfl rfl rfl ?_
      refine x_zret hC rfl rfl rfl (by first | omega | exact b2i_01 _) ⟨_, rfl, ?_⟩
      exact K H S2 R2 W2 hI2 h6
set_option maxRecDepth 20000 in
set_option maxHeartbeats 2000000 in
theorem sp_L_sends {L : Nat} {xs : Nat → Int32} {b : Prop} {tm ou n : Int} {d : Nat} {h : HP} {S : Nat → Int → Int} {R : Nat → List FV} (W : RW L xs b tm ou h S R) (hI : IvvN n S R) (hn : n ≤ 99) {u z : Int} (hu : 0 ≤ u ∧ u < 5) (hz : 0 ≤ z ∧ z ≤ 2147483647) {Q : Int → HP → Prop} (K : ∀ H S2 R2, RW L xs False 0 0 H S2 R2 → IvvN (n + 1) S2 R2 → cT S2 6 = cT S 6 → Q 1 H) : CaI (d + 8) 2 [.inr (some 3), .inl u, .inl z] h Q := by
  have hC : cod 2 = c_L_sends := rfl
  refine CaI.start rfl ?_
  have c5 := hI.1.1.1.2
  have kt7 := kept_is hI
  have t6 := hI.1.2.1
  have p := (hI.1.1.2.2.2.2.1 u hu.1 hu.2).2.1
  have ui := unit_is (R := R) hI.1.1 hu
  have cw := W.cnt.1
  have tn := hI.2.2.1.1
  have J : ∀ st : Int, 0 ≤ st → st ≤ cT S 6 → st % cU S u 1 = 0 → At (d + 8) 2 22 [some (.inr (some 3)), some (.inl u), some (.inl z), some (.inl (cU S u 1)), some (.inl (cT S 6 - z % 10)), none, none] [.inl st] h (fun v h' => ∃ x, v = some (.inl x) ∧ Q x h') := by
    intro st s0 s1 s2
    refine x_stI4 (p' := 23) hC rfl rfl rfl ?_
    refine x_1 (p' := 24) hC rfl rfl rfl rfl ?_
    refine x_1 (p' := 25) hC rfl rfl rfl rfl ?_
    refine x_cIV1 (p' := 26) (n := 180) hC rfl rfl rfl rfl rfl (W.ty) ?_
    refine rw_count W hI.1.1.ci (by decide) ?_
    rw [show cTot S 3 = cW S from rfl]
    refine x_stI5 (p' := 27) hC rfl rfl rfl ?_
    refine x_1 (p' := 28) hC rfl rfl rfl rfl ?_
    refine x_1 (p' := 29) hC rfl rfl rfl rfl ?_
    refine x_1 (p' := 30) hC rfl rfl rfl rfl ?_
    refine x_1 (p' := 31) hC rfl rfl rfl rfl ?_
    refine x_1 (p' := 32) hC rfl rfl rfl rfl ?_
    refine x_div (p' := 33) hC rfl rfl rfl (by omega) ?_
    rw [wr_tdiv (by omega) (by omega) (by omega)]
    refine x_1 (p' := 34) hC rfl rfl rfl rfl ?_
    refine x_rem (p' := 35) hC rfl rfl rfl (by omega) ?_
    rw [wr_tmod (by omega) (by omega) (by omega)]
    refine x_1 (p' := 36) hC rfl rfl rfl rfl ?_
    refine x_sub (p' := 37) hC rfl rfl rfl (⟨by omega, by omega⟩) ?_
    refine x_1 (p' := 38) hC rfl rfl rfl rfl ?_
    refine x_ldc (p' := 39) (v := 32768) hC rfl rfl (by decide) ?_
    refine x_div (p' := 40) hC rfl rfl rfl (by omega) ?_
    rw [wr_tdiv (by omega) (by omega) (by omega)]
    refine x_1 (p' := 41) hC rfl rfl rfl rfl ?_
    refine x_rem (p' := 42) hC rfl rfl rfl (by omega) ?_
    rw [wr_tmod (by omega) (by omega) (by omega)]
    refine x_1 (p' := 43) hC rfl rfl rfl rfl ?_
    refine x_1 (p' := 44) hC rfl rfl rfl rfl ?_
    refine x_1 (p' := 45) hC rfl rfl rfl rfl ?_
    refine x_div (p' := 46) hC rfl rfl rfl (by omega) ?_
    rw [wr_tdiv (by omega) (by omega) (by omega)]
    refine x_1 (p' := 47) hC rfl rfl rfl rfl ?_
    refine x_rem (p' := 48) hC rfl rfl rfl (by omega) ?_
    rw [wr_tmod (by omega) (by omega) (by omega)]
    refine x_add (p' := 49) hC rfl rfl rfl (⟨by omega, by omega⟩) ?_
    refine x_cIV5 (p' := 50) (n := 172) hC rfl rfl rfl rfl rfl (W.ty) ?_
    have vz : 0 ≤ z / 16 ∧ 0 ≤ z / 32768 ∧ 0 ≤ z / 8 := by omega
    have hd : ∀ v fl tk : Int, (-100000 ≤ v ∧ v ≤ 100000) → (0 ≤ fl ∧ fl ≤ 15) → (1 ≤ tk ∧ tk ≤ 60) → cDep S u st v fl tk = if cU S u 2 = 0 then (if cW S < 40 then 0 else -1000003) else -1000002 := fun v fl tk a b c => by
      unfold cDep
      rw [if_neg (fun q => q ⟨⟨hu.1, by omega⟩, ⟨s0, by omega⟩, a, b, c⟩)]
      by_cases o : cU S u 2 = 0
      · rw [if_neg (fun q => q ⟨o, s2, s1⟩), if_pos o]
      · rw [if_pos (fun q => o q.1), if_neg o]
    have hd := hd (z / 16 % 2000 - 1000) (z / 32768 % 16) (1 + z / 8 % 9) (by omega) (by omega) (by omega)
    generalize z / 16 % 2000 - 1000 = gv at *
    generalize z / 32768 % 16 = gf at *
    generalize 1 + z / 8 % 9 = gk at *
    refine rw_send W hI.1.1.ci kt7.1.1 (fun x a q => (hI.1.1.2.2.2.2.1 x a (by omega)).2.2) (by omega) (fun q => ?_) (fun q H W2 => ?_)
    · refine sends50 W hI hn hu hz K W.weak (hI.more (by omega)) rfl rfl (by omega) ?_
      rw [hd] at q ⊢
      by_cases o : cU S u 2 = 0
      · rw [if_pos o] at q ⊢
        by_cases o2 : cW S < 40
        · rw [if_pos o2] at q; exact absurd rfl q
        · rw [if_neg o2]; exact Or.inr (Or.inr ⟨o, by omega, rfl⟩)
      · rw [if_neg o]; exact Or.inl ⟨o, rfl⟩
    have hI2 := hI.sent (by omega) hu q
    have o := cDep_0 q
    refine sends50 W hI hn hu hz K W2 hI2 ?_ ?_ (by omega) (Or.inr (Or.inl ⟨o.2.1.1, by omega, by omega⟩))
    · show upX _ _ _ _ 0 6 = _
      rw [upX_ne (by omega), upX_ne (by omega), upF_ne (by omega) (by omega) (by omega)]
      rfl
    show upX _ _ _ _ (46 + u.toNat) 2 = _
    rw [upX_at (by omega), upX_ne (by omega), upF_ne (by omega) (by omega) (by omega)]
    rfl
  refine x_1 (p' := 1) hC rfl rfl rfl rfl ?_
  refine x_1 (p' := 2) hC rfl rfl rfl rfl ?_
  refine x_1 (p' := 3) hC rfl rfl rfl rfl ?_
  refine x_cIV2 (p' := 4) (n := 170) hC rfl rfl rfl rfl rfl (W.ty) ?_
  refine rw_unitOf W hI.1.1 ?_
  rw [ui.1]
  refine x_stI3 (p' := 5) hC rfl rfl rfl ?_
  refine x_1 (p' := 6) hC rfl rfl rfl rfl ?_
  refine x_1 (p' := 7) hC rfl rfl rfl rfl ?_
  refine x_cIV1 (p' := 8) (n := 180) hC rfl rfl rfl rfl rfl (W.ty) ?_
  refine rw_count W hI.1.1.ci (by decide) ?_
  rw [show cTot S 2 = cT S 6 from rfl]
  refine x_1 (p' := 9) hC rfl rfl rfl rfl ?_
  refine x_1 (p' := 10) hC rfl rfl rfl rfl ?_
  refine x_rem (p' := 11) hC rfl rfl rfl (by omega) ?_
  rw [wr_tmod (by omega) (by omega) (by omega)]
  refine x_sub (p' := 12) hC rfl rfl rfl (⟨by omega, by omega⟩) ?_
  refine x_stI4 (p' := 13) hC rfl rfl rfl ?_
  refine x_1 (p' := 14) hC rfl rfl rfl rfl ?_
  refine x_ifge (p' := 15) hC rfl rfl (fun c14 => ?_) (fun c14 => ?_)
  · refine x_1 (p' := 18) hC rfl rfl rfl rfl ?_
    refine x_1 (p' := 19) hC rfl rfl rfl rfl ?_
    refine x_div (p' := 20) hC rfl rfl rfl (by omega) ?_
    rw [wr_tdiv (by omega) (by omega) (by omega)]
    refine x_1 (p' := 21) hC rfl rfl rfl rfl ?_
    refine x_mul (p' := 22) hC rfl rfl rfl (⟨by have := (mul_div_le (a := cT S 6 - z % 10) (p := cU S u 1) (by omega) (by omega)); omega, by have := (mul_div_le (a := cT S 6 - z % 10) (p := cU S u 1) (by omega) (by omega)); omega⟩) ?_
    first
      | exact J 0 (by omega) (by omega) (Int.zero_emod _)
      | exact J _ (mul_div_le (by omega) (by omega)).1 (by have := (mul_div_le (a := cT S 6 - z % 10) (p := cU S u 1) (by omega) (by omega)); omega) (Int.mul_emod_left _ _)
  · refine x_1 (p' := 16) hC rfl rfl rfl rfl ?_
    refine x_1 (p' := 22) hC rfl rfl rfl rfl ?_
    first
      | exact J 0 (by omega) (by omega) (Int.zero_emod _)
      | exact J _ (mul_div_le (by omega) (by omega)).1 (by have := (mul_div_le (a := cT S 6 - z % 10) (p := cU S u 1) (by omega) (by omega)); omega) (Int.mul_emod_left _ _)
set_option maxRecDepth 20000 in
theorem lp_holds_u {L : Nat} {xs : Nat → Int32} {b : Prop} {tm ou n : Int} {d : Nat} {h : HP} {S : Nat → Int → Int} {R : Nat → List FV} (W : RW L xs b tm ou h S R) (hI : IvvN n S R) (hn : n ≤ 100) {Q : Int → HP → Prop} (K : Q 1 h) (k : Nat) : ∀ (u : Int) (o : Int) (w : Int), (5 - u).toNat < k → (0 ≤ u ∧ u ≤ 5) → (o = onN S u ∧ (0 ≤ o ∧ o ≤ u)) → (w = wayN (R 3) 4 + wayU (R 3) u ∧ (0 ≤ w ∧ w ≤ 400 + 100 * u)) → At (d + 9) 5 61 [some (.inr (some 3)), some (.inl (sumK S 6 4)), some (.inl (sumK S 7 4)), some (.inl o), some (.inl w), some (.inl 1), some (.inl u)] [] h (fun v h' => ∃ x, v = some (.inl x) ∧ Q x h') := by
  have hC : cod 5 = c_L_holds := rfl
  induction k with
  | zero =>
    intro u o w hk
    exact absurd hk (Nat.not_lt_zero _)
  | succ k ih =>
    intro u o w hk hI0 hI1 hI2
    have c4 := hI.1.1.1.1
    have tn := hI.2.2.1.1
    have cf := cFrom_rng (L := R 3) (c := 5 + u)
    have wU := wayU_succ (L := R 3) (i := u) hI0.1
    have oU := onN_succ (S := S) (i := u) hI0.1
    refine x_1 (p' := 62) hC rfl rfl rfl rfl ?_
    refine x_1 (p' := 63) hC rfl rfl rfl rfl ?_
    refine x_icge (p' := 64) hC rfl rfl (fun c63 => ?_) (fun c63 => ?_)
    · have u5 : u = 5 := by omega
      subst u5
      have c4 := hI.1.1.1.1
      have e0 : sumK S 6 4 = cSum S 6 := by unfold sumK cSum; rw [c4]
      have e1 : sumK S 7 4 = cSum S 7 := by unfold sumK cSum; rw [c4]
      have e2 : o = cUnder S 0 := by rw [und0 hI.1.1, hI1.1]; rfl
      have e3 : w = cW S := by rw [hI2.1, way_all, waySum_is (fun v hv => (hI.2.1 v hv).1), W.cnt.1]
      refine x_1 (p' := 98) hC rfl rfl rfl rfl ?_
      refine x_ifeq (p' := 99) hC rfl rfl (fun c98 => ?_) (fun c98 => ?_)
      · exact absurd c98 (by decide)
      · refine x_1 (p' := 100) hC rfl rfl rfl rfl ?_
        refine x_1 (p' := 101) hC rfl rfl rfl rfl ?_
        refine x_cIV1 (p' := 102) (n := 180) hC rfl rfl rfl rfl rfl (W.ty) ?_
        refine rw_count W hI.1.1.ci (by decide) ?_
        rw [show cTot S 6 = cSum S 6 from rfl]
        refine x_1 (p' := 103) hC rfl rfl rfl rfl ?_
        refine x_icne (p' := 104) hC rfl rfl (fun c103 => ?_) (fun c103 => ?_)
        · exact absurd e0.symm c103
        · refine x_1 (p' := 105) hC rfl rfl rfl rfl ?_
          refine x_1 (p' := 106) hC rfl rfl rfl rfl ?_
          refine x_cIV1 (p' := 107) (n := 180) hC rfl rfl rfl rfl rfl (W.ty) ?_
          refine rw_count W hI.1.1.ci (by decide) ?_
          rw [show cTot S 7 = cSum S 7 from rfl]
          refine x_1 (p' := 108) hC rfl rfl rfl rfl ?_
          refine x_icne (p' := 109) hC rfl rfl (fun c108 => ?_) (fun c108 => ?_)
          · exact absurd e1.symm c108
          · refine x_1 (p' := 110) hC rfl rfl rfl rfl ?_
            refine x_1 (p' := 111) hC rfl rfl rfl rfl ?_
            refine x_cIV1 (p' := 112) (n := 180) hC rfl rfl rfl rfl rfl (W.ty) ?_
            refine rw_count W hI.1.1.ci (by decide) ?_
            rw [show cTot S 1 = cUnder S 0 from rfl]
            refine x_1 (p' := 113) hC rfl rfl rfl rfl ?_
            refine x_icne (p' := 114) hC rfl rfl (fun c113 => ?_) (fun c113 => ?_)
            · exact absurd e2.symm c113
            · refine x_1 (p' := 115) hC rfl rfl rfl rfl ?_
              refine x_1 (p' := 116) hC rfl rfl rfl rfl ?_
              refine x_cIV1 (p' := 117) (n := 180) hC rfl rfl rfl rfl rfl (W.ty) ?_
              refine rw_count W hI.1.1.ci (by decide) ?_
              rw [show cTot S 3 = cW S from rfl]
              refine x_1 (p' := 118) hC rfl rfl rfl rfl ?_
              refine x_icne (p' := 119) hC rfl rfl (fun c118 => ?_) (fun c118 => ?_)
              · exact absurd e3.symm c118
              · refine x_1 (p' := 120) hC rfl rfl rfl rfl ?_
                refine x_1 (p' := 121) hC rfl rfl rfl rfl ?_
                refine x_1 (p' := 122) hC rfl rfl rfl rfl ?_
                refine x_cIV2 (p' := 123) (n := 169) hC rfl rfl rfl rfl rfl (W.ty) ?_
                refine rw_hubOf W hI.1.1.ci ?_
                rw [(hub_is hI (g := 0) ⟨by decide, by decide⟩).2.2.2.2.1]
                refine x_1 (p' := 124) hC rfl rfl rfl rfl ?_
                refine x_icne (p' := 125) hC rfl rfl (fun c124 => ?_) (fun c124 => ?_)
                · exact absurd e2.symm c124
                · refine x_1 (p' := 126) hC rfl rfl rfl rfl ?_
                  refine x_1 (p' := 128) hC rfl rfl rfl rfl ?_
                  refine x_zret hC rfl rfl rfl (by first | omega | exact b2i_01 _) ⟨_, rfl, ?_⟩
                  exact K
    · have ui := unit_is (R := R) hI.1.1 (u := u) ⟨by omega, by omega⟩
      have hc := hI.2.2.2 u (by omega) (by omega)
      rw [← cFrom_is] at hc
      refine x_1 (p' := 65) hC rfl rfl rfl rfl ?_
      refine x_ifeq (p' := 66) hC rfl rfl (fun c65 => ?_) (fun c65 => ?_)
      · exact absurd c65 (by decide)
      · refine x_1 (p' := 67) hC rfl rfl rfl rfl ?_
        refine x_1 (p' := 68) hC rfl rfl rfl rfl ?_
        refine x_1 (p' := 69) hC rfl rfl rfl rfl ?_
        refine x_1 (p' := 70) hC rfl rfl rfl rfl ?_
        refine x_1 (p' := 71) hC rfl rfl rfl rfl ?_
        refine x_cIV2 (p' := 72) (n := 170) hC rfl rfl rfl rfl rfl (W.ty) ?_
        refine rw_unitOf W hI.1.1 ?_
        have o2 : (qUnitOf S R u 2 = 0 ∧ b2i (cU S u 2 = 0) = 1) ∨ (qUnitOf S R u 2 = 1 ∧ b2i (cU S u 2 = 0) = 0) := by
          rcases ui.2.1 with z | z
          · exact Or.inl ⟨z.1, b2i_t z.2⟩
          · exact Or.inr ⟨z.1, b2i_f z.2⟩
        generalize qUnitOf S R u 2 = g2 at *
        generalize b2i (cU S u 2 = 0) = g3 at *
        refine x_sub (p' := 73) hC rfl rfl rfl (⟨by omega, by omega⟩) ?_
        refine x_add (p' := 74) hC rfl rfl rfl (⟨by omega, by omega⟩) ?_
        refine x_stI3 (p' := 75) hC rfl rfl rfl ?_
        refine x_1 (p' := 76) hC rfl rfl rfl rfl ?_
        refine x_1 (p' := 77) hC rfl rfl rfl rfl ?_
        refine x_1 (p' := 78) hC rfl rfl rfl rfl ?_
        refine x_1 (p' := 79) hC rfl rfl rfl rfl ?_
        refine x_cIV2 (p' := 80) (n := 170) hC rfl rfl rfl rfl rfl (W.ty) ?_
        refine rw_unitOf W hI.1.1 ?_
        rw [ui.2.2.2]
        refine x_add (p' := 81) hC rfl rfl rfl (⟨by omega, by omega⟩) ?_
        refine x_stI4 (p' := 82) hC rfl rfl rfl ?_
        refine x_1 (p' := 83) hC rfl rfl rfl rfl ?_
        refine x_1 (p' := 84) hC rfl rfl rfl rfl ?_
        refine x_1 (p' := 85) hC rfl rfl rfl rfl ?_
        refine x_cIV2 (p' := 86) (n := 170) hC rfl rfl rfl rfl rfl (W.ty) ?_
        refine rw_unitOf W hI.1.1 ?_
        rw [ui.2.2.2]
        refine x_1 (p' := 87) hC rfl rfl rfl rfl ?_
        refine x_1 (p' := 88) hC rfl rfl rfl rfl ?_
        refine x_1 (p' := 89) hC rfl rfl rfl rfl ?_
        refine x_cIV2 (p' := 90) (n := 170) hC rfl rfl rfl rfl rfl (W.ty) ?_
        refine rw_unitOf W hI.1.1 ?_
        rw [ui.2.2.1]
        refine x_icgt (p' := 91) hC rfl rfl (fun c90 => ?_) (fun c90 => ?_)
        · exact absurd c90 (by omega)
        · refine x_1 (p' := 92) hC rfl rfl rfl rfl ?_
          refine x_1 (p' := 94) hC rfl rfl rfl rfl ?_
          refine x_stI5 (p' := 95) hC rfl rfl rfl ?_
          refine x_inc6 (p' := 96) hC rfl rfl (⟨by omega, by omega⟩) ?_
          refine x_1 (p' := 61) hC rfl rfl rfl rfl ?_
          exact ih (u + 1) _ _ (by omega) (by omega) ⟨by omega, by omega⟩ ⟨by omega, by omega⟩
set_option maxRecDepth 20000 in
theorem lp_holds_h {L : Nat} {xs : Nat → Int32} {b : Prop} {tm ou n : Int} {d : Nat} {S0 : Nat → Int → Int} {R : Nat → List FV} (hn : n ≤ 100) (hr : ¬ cT S0 6 = 0 → ∀ g : Int, 0 ≤ g → g < 4 → ¬ cReady S0 R g) {Q : Int → HP → Prop} (K : ∀ H S, RW L xs b tm ou H S R → SX S0 S → Q 1 H) (k : Nat) : ∀ (i : Int) (h : HP) (S : Nat → Int → Int) (a1 : Int) (a2 : Int) (w : Int), (4 - i).toNat < k → (RW L xs b tm ou h S R) → (IvvN n S R) → (SX S0 S) → (0 ≤ i ∧ i ≤ 4) → (a1 = sumK S 6 i ∧ a2 = sumK S 7 i) → (w = wayN (R 3) i ∧ (0 ≤ w ∧ w ≤ 100 * i)) → At (d + 9) 5 13 [some (.inr (some 3)), some (.inl a1), some (.inl a2), some (.inl 0), some (.inl w), some (.inl 1), some (.inl i)] [] h (fun v h' => ∃ x, v = some (.inl x) ∧ Q x h') := by
  have hC : cod 5 = c_L_holds := rfl
  induction k with
  | zero =>
    intro i h S a1 a2 w hk
    exact absurd hk (Nat.not_lt_zero _)
  | succ k ih =>
    intro i h S a1 a2 w hk hI0 hI1 hI2 hI3 hI4 hI5
    have W := hI0
    have hI := hI1
    have hX := hI2
    have c4 := hI.1.1.1.1
    have tn := hI.2.2.1.1
    have cf := cFrom_rng (L := R 3) (c := i)
    have wU := wayN_succ (L := R 3) (i := i) hI3.1
    have s6 := sumK_succ (S := S) (k := 6) (i := i) hI3.1
    have s7 := sumK_succ (S := S) (k := 7) (i := i) hI3.1
    refine x_1 (p' := 14) hC rfl rfl rfl rfl ?_
    refine x_1 (p' := 15) hC rfl rfl rfl rfl ?_
    refine x_1 (p' := 16) hC rfl rfl rfl rfl ?_
    refine x_cIV1 (p' := 17) (n := 180) hC rfl rfl rfl rfl rfl (W.ty) ?_
    refine rw_count W hI.1.1.ci (by decide) ?_
    rw [show cTot S 0 = cT S 4 from rfl, c4]
    refine x_icge (p' := 18) hC rfl rfl (fun c17 => ?_) (fun c17 => ?_)
    · have e : i = 4 := by omega
      subst e
      refine x_1 (p' := 60) hC rfl rfl rfl rfl ?_
      refine x_stI6 (p' := 61) hC rfl rfl rfl ?_
      rw [hI4.1, hI4.2]
      exact lp_holds_u W hI hn (K h S W hX) _ 0 0 _ (Nat.lt_succ_self _) (by decide) ⟨rfl, by decide⟩ ⟨by rw [hI5.1, show wayU (R 3) 0 = 0 from rfl, Int.add_zero], by omega⟩
    · have hg : 0 ≤ i ∧ i < 4 := ⟨by omega, by omega⟩
      have hb := hub_is hI hg
      refine x_1 (p' := 19) hC rfl rfl rfl rfl ?_
      refine x_ifeq (p' := 20) hC rfl rfl (fun c19 => ?_) (fun c19 => ?_)
      · exact absurd c19 (by decide)
      · refine x_1 (p' := 21) hC rfl rfl rfl rfl ?_
        refine x_1 (p' := 22) hC rfl rfl rfl rfl ?_
        refine x_1 (p' := 23) hC rfl rfl rfl rfl ?_
        refine x_1 (p' := 24) hC rfl rfl rfl rfl ?_
        refine x_cIV2 (p' := 25) (n := 169) hC rfl rfl rfl rfl rfl (W.ty) ?_
        refine rw_hubOf W hI.1.1.ci ?_
        rw [hb.2.2.2.2.2.2.1]
        refine x_1 (p' := 26) hC rfl rfl rfl rfl ?_
        refine x_stI1 (p' := 27) hC rfl rfl rfl ?_
        refine x_1 (p' := 28) hC rfl rfl rfl rfl ?_
        refine x_1 (p' := 29) hC rfl rfl rfl rfl ?_
        refine x_1 (p' := 30) hC rfl rfl rfl rfl ?_
        refine x_1 (p' := 31) hC rfl rfl rfl rfl ?_
        refine x_cIV2 (p' := 32) (n := 169) hC rfl rfl rfl rfl rfl (W.ty) ?_
        refine rw_hubOf W hI.1.1.ci ?_
        rw [hb.2.2.2.2.2.2.2.1]
        refine x_1 (p' := 33) hC rfl rfl rfl rfl ?_
        refine x_stI2 (p' := 34) hC rfl rfl rfl ?_
        refine x_1 (p' := 35) hC rfl rfl rfl rfl ?_
        refine x_1 (p' := 36) hC rfl rfl rfl rfl ?_
        refine x_ifne (p' := 37) hC rfl rfl (fun c36 => ?_) (fun c36 => ?_)
        · refine x_1 (p' := 40) hC rfl rfl rfl rfl ?_
          refine x_1 (p' := 41) hC rfl rfl rfl rfl ?_
          refine x_1 (p' := 42) hC rfl rfl rfl rfl ?_
          refine x_cIV2 (p' := 43) (n := 169) hC rfl rfl rfl rfl rfl (W.ty) ?_
          refine rw_hubOf W hI.1.1.ci ?_
          rw [hb.2.2.2.2.2.2.2.2]
          refine x_add (p' := 44) hC rfl rfl rfl (⟨by omega, by omega⟩) ?_
          refine x_stI4 (p' := 45) hC rfl rfl rfl ?_
          refine x_1 (p' := 46) hC rfl rfl rfl rfl ?_
          refine x_1 (p' := 47) hC rfl rfl rfl rfl ?_
          refine x_cIV1 (p' := 48) (n := 180) hC rfl rfl rfl rfl rfl (W.ty) ?_
          refine rw_count W hI.1.1.ci (by decide) ?_
          rw [show cTot S 2 = cT S 6 from rfl]
          refine x_ifeq (p' := 49) hC rfl rfl (fun c48 => ?_) (fun c48 => ?_)
          · refine x_1 (p' := 54) hC rfl rfl rfl rfl ?_
            refine x_1 (p' := 56) hC rfl rfl rfl rfl ?_
            refine x_stI5 (p' := 57) hC rfl rfl rfl ?_
            refine x_inc6 (p' := 58) hC rfl rfl (⟨by omega, by omega⟩) ?_
            refine x_1 (p' := 13) hC rfl rfl rfl rfl ?_
            refine ih (i + 1) h _ _ _ _ (by omega) W hI hX (by omega) ⟨?_, ?_⟩ ⟨?_, ?_⟩
            · first
              | rw [q6, s6, hI4.1]
              | rw [s6, hI4.1]
            · first
              | rw [q7, s7, hI4.2]
              | rw [s7, hI4.2]
            · rw [wU, hI5.1]
              first
                | rw [if_pos (by assumption)]
                | rw [if_neg (by assumption)]
            · omega
          · refine x_1 (p' := 50) hC rfl rfl rfl rfl ?_
            refine x_1 (p' := 51) hC rfl rfl rfl rfl ?_
            refine x_cIS2 (p' := 52) (n := 3) hC rfl rfl rfl rfl rfl ?_
            refine sp_L_hubs W hI hg hn (fun z => hr (by rw [← hX.cT]; exact c48) i hg.1 hg.2 ((cReady_sx hX).mp z)) (fun h S2 W x => ?_)
            have hI := hI.sqq x.q
            have hX := hX.trans x
            have q6 : ∀ j, sumK S2 6 j = sumK S 6 j := fun j => by unfold sumK; rw [x.cH]
            have q7 : ∀ j, sumK S2 7 j = sumK S 7 j := fun j => by unfold sumK; rw [x.cH]
            refine x_ifeq (p' := 53) hC rfl rfl (fun c52 => ?_) (fun c52 => ?_)
            · exact absurd c52 (by decide)
            · refine x_1 (p' := 54) hC rfl rfl rfl rfl ?_
              refine x_1 (p' := 56) hC rfl rfl rfl rfl ?_
              refine x_stI5 (p' := 57) hC rfl rfl rfl ?_
              refine x_inc6 (p' := 58) hC rfl rfl (⟨by omega, by omega⟩) ?_
              refine x_1 (p' := 13) hC rfl rfl rfl rfl ?_
              refine ih (i + 1) h _ _ _ _ (by omega) W hI hX (by omega) ⟨?_, ?_⟩ ⟨?_, ?_⟩
              · first
                | rw [q6, s6, hI4.1]
                | rw [s6, hI4.1]
              · first
                | rw [q7, s7, hI4.2]
                | rw [s7, hI4.2]
              · rw [wU, hI5.1]
                first
                  | rw [if_pos (by assumption)]
                  | rw [if_neg (by assumption)]
              · omega
        · refine x_1 (p' := 38) hC rfl rfl rfl rfl ?_
          refine x_1 (p' := 43) hC rfl rfl rfl rfl ?_
          refine x_add (p' := 44) hC rfl rfl rfl (⟨by omega, by omega⟩) ?_
          refine x_stI4 (p' := 45) hC rfl rfl rfl ?_
          refine x_1 (p' := 46) hC rfl rfl rfl rfl ?_
          refine x_1 (p' := 47) hC rfl rfl rfl rfl ?_
          refine x_cIV1 (p' := 48) (n := 180) hC rfl rfl rfl rfl rfl (W.ty) ?_
          refine rw_count W hI.1.1.ci (by decide) ?_
          rw [show cTot S 2 = cT S 6 from rfl]
          refine x_ifeq (p' := 49) hC rfl rfl (fun c48 => ?_) (fun c48 => ?_)
          · refine x_1 (p' := 54) hC rfl rfl rfl rfl ?_
            refine x_1 (p' := 56) hC rfl rfl rfl rfl ?_
            refine x_stI5 (p' := 57) hC rfl rfl rfl ?_
            refine x_inc6 (p' := 58) hC rfl rfl (⟨by omega, by omega⟩) ?_
            refine x_1 (p' := 13) hC rfl rfl rfl rfl ?_
            refine ih (i + 1) h _ _ _ _ (by omega) W hI hX (by omega) ⟨?_, ?_⟩ ⟨?_, ?_⟩
            · first
              | rw [q6, s6, hI4.1]
              | rw [s6, hI4.1]
            · first
              | rw [q7, s7, hI4.2]
              | rw [s7, hI4.2]
            · rw [wU, hI5.1]
              first
                | rw [if_pos (by assumption)]
                | rw [if_neg (by assumption)]
            · omega
          · refine x_1 (p' := 50) hC rfl rfl rfl rfl ?_
            refine x_1 (p' := 51) hC rfl rfl rfl rfl ?_
            refine x_cIS2 (p' := 52) (n := 3) hC rfl rfl rfl rfl rfl ?_
            refine sp_L_hubs W hI hg hn (fun z => hr (by rw [← hX.cT]; exact c48) i hg.1 hg.2 ((cReady_sx hX).mp z)) (fun h S2 W x => ?_)
            have hI := hI.sqq x.q
            have hX := hX.trans x
            have q6 : ∀ j, sumK S2 6 j = sumK S 6 j := fun j => by unfold sumK; rw [x.cH]
            have q7 : ∀ j, sumK S2 7 j = sumK S 7 j := fun j => by unfold sumK; rw [x.cH]
            refine x_ifeq (p' := 53) hC rfl rfl (fun c52 => ?_) (fun c52 => ?_)
            · exact absurd c52 (by decide)
            · refine x_1 (p' := 54) hC rfl rfl rfl rfl ?_
              refine x_1 (p' := 56) hC rfl rfl rfl rfl ?_
              refine x_stI5 (p' := 57) hC rfl rfl rfl ?_
              refine x_inc6 (p' := 58) hC rfl rfl (⟨by omega, by omega⟩) ?_
              refine x_1 (p' := 13) hC rfl rfl rfl rfl ?_
              refine ih (i + 1) h _ _ _ _ (by omega) W hI hX (by omega) ⟨?_, ?_⟩ ⟨?_, ?_⟩
              · first
                | rw [q6, s6, hI4.1]
                | rw [s6, hI4.1]
              · first
                | rw [q7, s7, hI4.2]
                | rw [s7, hI4.2]
              · rw [wU, hI5.1]
                first
                  | rw [if_pos (by assumption)]
                  | rw [if_neg (by assumption)]
              · omega
set_option maxRecDepth 20000 in
theorem sp_L_holds {L : Nat} {xs : Nat → Int32} {b : Prop} {tm ou n : Int} {d : Nat} {h : HP} {S : Nat → Int → Int} {R : Nat → List FV} (W : RW L xs b tm ou h S R) (hI : IvvN n S R) (hn : n ≤ 100) (hr : ¬ cT S 6 = 0 → ∀ g : Int, 0 ≤ g → g < 4 → ¬ cReady S R g) {Q : Int → HP → Prop} (K : ∀ H S2, RW L xs b tm ou H S2 R → SX S S2 → Q 1 H) : CaI (d + 9) 5 [.inr (some 3)] h Q := by
  have hC : cod 5 = c_L_holds := rfl
  refine CaI.start rfl ?_
  refine x_1 (p' := 1) hC rfl rfl rfl rfl ?_
  refine x_stI1 (p' := 2) hC rfl rfl rfl ?_
  refine x_1 (p' := 3) hC rfl rfl rfl rfl ?_
  refine x_stI2 (p' := 4) hC rfl rfl rfl ?_
  refine x_1 (p' := 5) hC rfl rfl rfl rfl ?_
  refine x_stI3 (p' := 6) hC rfl rfl rfl ?_
  refine x_1 (p' := 7) hC rfl rfl rfl rfl ?_
  refine x_stI4 (p' := 8) hC rfl rfl rfl ?_
  refine x_1 (p' := 9) hC rfl rfl rfl rfl ?_
  refine x_cIS1 (p' := 10) (n := 4) hC rfl rfl rfl rfl rfl ?_
  refine sp_L_outs W hI ?_
  refine x_stI5 (p' := 11) hC rfl rfl rfl ?_
  refine x_1 (p' := 12) hC rfl rfl rfl rfl ?_
  refine x_stI6 (p' := 13) hC rfl rfl rfl ?_
  exact lp_holds_h hn hr K _ 0 h S 0 0 0 (Nat.lt_succ_self _) W hI SX.refl (by decide) ⟨rfl, rfl⟩ ⟨rfl, by decide⟩

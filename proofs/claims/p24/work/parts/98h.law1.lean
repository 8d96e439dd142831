/-! THE LAW: its walk -/
set_option maxRecDepth 20000 in
set_option maxHeartbeats 2000000 in
theorem law_init {L0 : Nat} {xs : Nat → Int32} {Q : Option AV → HP → Prop} (K : ∀ H S, RW L0 xs False 0 0 H S (fun _ => []) → InitS S → At 10 0 4 [some (.inr (some 2)), some (.inr (some 3)), none, none, none, none, none, none, none] [] H Q) : At 10 0 0 (ini 0 [.inr (some 2)]) [] (hp0 L0 xs) Q := by
  have hC : cod 0 = c_L_law := rfl
  show At 10 0 0 [some (.inr (some 2)), none, none, none, none, none, none, none, none] [] (hp0 L0 xs) Q
  have z0 : hZ (hp0 L0 xs) = 3 := rfl
  have u0 : hU (hp0 L0 xs) = 0 := rfl
  have sta : Sta (hp0 L0 xs) := ⟨⟨rfl, rfl⟩, rfl, rfl⟩
  have sc0 : hTy (hp0 L0 xs) 2 = (100, L0) ∧ hI (hp0 L0 xs) 2 = fun j => (xs j.toNat).toInt := ⟨rfl, rfl⟩
  generalize hp0 L0 xs = h0 at *
  refine x_new (p' := 1) hC rfl rfl rfl ?_
  refine x_1 (p' := 2) hC rfl rfl rfl rfl ?_
  refine x_cVN0 (p' := 3) (n := 164) hC rfl rfl rfl rfl rfl ?_
  rw [z0]
  refine sp_P_init (d := 5) (by have := @hTy_at h0 (6 + 1, 0) (fcn 6); rw [z0] at this; exact this) (by show hZ h0 + 1 = 4; omega) (sta.al (c := 3) Al.new (by decide) (by omega)) (fun H S I => ?_)
  obtain ⟨pz, pu, pb, pt, pr, p3⟩ := I
  refine x_stA1 (p' := 4) hC rfl rfl rfl ?_
  have u1 : hU (sNew h0 (6 + 1, 0) (fcn 6)) = hU h0 + fcn 6 := rfl
  have f6 : fcn 6 ≤ 100 := by decide
  have c2 : hTy H 2 = (100, L0) ∧ hI H 2 = fun j => (xs j.toNat).toInt := by
    have a1 := p3 2 (by decide)
    rw [a1.1, a1.2, hTy_new (by omega), hI_new (by omega)]
    exact sc0
  have pA : potA wG = 576 := by decide
  have G : GP (hU H) H oG wG trI S (fun _ _ => []) 0 := by
    refine ⟨pb.1, pb.2.1, pb.2.2.1, fun j hj => pr j hj, ⟨pb.2.2.2.1, by decide, by decide⟩, pb.2.2.2.2.1, fun b hb => oG_out (by omega), fun r hr => ?_, fun r q hr hq e => ?_, fun r hr => (pt r hr (by omega)).1, by rw [pA]; exact ⟨rfl, by omega, by omega⟩⟩
    · unfold trI
      by_cases a : r = 4
      · exact ⟨0, by decide, by rw [if_pos a]⟩
      · rw [if_neg a]
        by_cases b : r = 5
        · exact ⟨1, by decide, by rw [if_pos b]⟩
        · rw [if_neg b]
          exact ⟨r + 2, by omega, by omega⟩
    · unfold trI at e
      repeat' split at e
      all_goals omega
  exact K H (S 4) ⟨hU H, oG, wG, trI, S, fun _ _ => [], 0, G, ⟨rfl, rfl⟩, ⟨c2.1, fun j => congrFun c2.2 j⟩, pb.2.2.2.2.2, by omega, fun q => q.elim⟩ (pt 4 (by decide) (by omega)).2
theorem preq4 {nh nu : Int} {S : Nat → Int → Int} {R : Nat → List FV} (h : PreT nh nu S R) {g : Int} (hg : 0 ≤ g ∧ g < nh) : qHubOf S R g 4 = cSe S g 4 := by
  have c4 := h.1.1
  have e : qHubOf S R g 4 = cHubF S R g 4 := if_neg (fun z => z ⟨⟨hg.1, by omega⟩, by decide, by decide⟩)
  exact e.trans rfl

set_option maxRecDepth 20000 in
theorem lp_law_set {L : Nat} {xs : Nat → Int32} (hL : L ≤ 260) {P : Int} {z7 z8 : Option AV} {Q : Option AV → HP → Prop} (K : ∀ h S R z5 z6, RW L xs False 0 0 h S R → PreT 4 5 S R → At 10 0 167 [some (.inr (some 2)), some (.inr (some 3)), some (.inl P), some (.inl 1), some (.inl 4), z5, z6, z7, z8] [] h Q) (k : Nat) : ∀ (i : Int) (h : HP) (S : Nat → Int → Int) (R : Nat → List FV) (z5 : Option AV) (z6 : Option AV), (4 - i).toNat < k → (RW L xs False 0 0 h S R) → (PreT 4 5 S R) → (0 ≤ i ∧ i ≤ 4) → (∀ g : Int, i ≤ g → g < 4 → ZeS S g) → At (10) 0 112 [some (.inr (some 2)), some (.inr (some 3)), some (.inl P), some (.inl 1), some (.inl i), z5, z6, z7, z8] [] h Q := by
  have hC : cod 0 = c_L_law := rfl
  induction k with
  | zero =>
    intro i h S R z5 z6 hk
    exact absurd hk (Nat.not_lt_zero _)
  | succ k ih =>
    intro i h S R z5 z6 hk hI0 hI1 hI2 hI3
    have W := hI0
    have hP := hI1
    refine x_1 (p' := 113) hC rfl rfl rfl rfl ?_
    refine x_1 (p' := 114) hC rfl rfl rfl rfl ?_
    refine x_icge (p' := 115) hC rfl rfl (fun c114 => ?_) (fun c114 => ?_)
    · have e : i = 4 := by omega
      subst e
      exact K h S R _ _ W hP
    · have zk : ∀ j : Int, 0 ≤ j → j < 4 → cSe S i j = 0 := fun j a b => hI3 i (Int.le_refl _) (by omega) j a b
      have zo : ∀ g : Int, i < g → g < 4 → ZeS S g := fun g a b => hI3 g (by omega) b
      refine x_1 (p' := 116) hC rfl rfl rfl rfl ?_
      refine x_ifeq (p' := 117) hC rfl rfl (fun c116 => ?_) (fun c116 => ?_)
      · exact absurd c116 (by decide)
      · refine x_1 (p' := 118) hC rfl rfl rfl rfl ?_
        refine x_1 (p' := 119) hC rfl rfl rfl rfl ?_
        refine x_1 (p' := 120) hC rfl rfl rfl rfl ?_
        refine x_add (p' := 121) hC rfl rfl rfl (⟨by omega, by omega⟩) ?_
        refine x_cIS2 (p' := 122) (n := 1) hC rfl rfl rfl rfl rfl ?_
        refine sp_L_cell W.scr hL (by omega) (fun y y0 y1 => ?_)
        refine x_stI5 (p' := 123) hC rfl rfl rfl ?_
        refine x_1 (p' := 124) hC rfl rfl rfl rfl ?_
        refine x_1 (p' := 125) hC rfl rfl rfl rfl ?_
        refine x_1 (p' := 126) hC rfl rfl rfl rfl ?_
        refine x_1 (p' := 127) hC rfl rfl rfl rfl ?_
        refine x_1 (p' := 128) hC rfl rfl rfl rfl ?_
        refine x_rem (p' := 129) hC rfl rfl rfl (by decide) ?_
        rw [wr_tmod (by omega) (by omega) (by omega)]
        refine x_cIV3 (p' := 130) (n := 168) hC rfl rfl rfl rfl rfl (W.ty) ?_
        obtain ⟨hP', h0⟩ := hP.set (g := i) (k := 0) (v := y % 14) ⟨by omega, by omega⟩ (by decide) ⟨by omega, by rw [show sMax 0 = 40 from rfl]; omega⟩
        refine rw_set W hP.side.1 hP.side.2.1 hP.side.2.2.1 h0 (fun h W => ?_)
        rw [zk 0 (by decide) (by decide)]
        have zk : ∀ j : Int, 1 ≤ j → j < 4 → cSe (upX S (12 + 7 * i.toNat) 0 (y % 14)) i j = 0 := fun j a b => by
          rw [set_ne.2.1 j (by omega)]
          exact zk j (by omega) b
        have zo : ∀ g : Int, i < g → g < 4 → ZeS (upX S (12 + 7 * i.toNat) 0 (y % 14)) g := fun g a b j c e => by
          rw [set_x (by omega) (by omega) (by omega)]
          exact zo g a b j c e
        generalize upX S (12 + 7 * i.toNat) 0 (y % 14) = S at *
        have hP := hP'
        refine x_ifne (p' := 131) hC rfl rfl (fun c130 => ?_) (fun c130 => ?_)
        · exact absurd rfl c130
        · refine x_1 (p' := 132) hC rfl rfl rfl rfl ?_
          refine x_1 (p' := 133) hC rfl rfl rfl rfl ?_
          refine x_1 (p' := 134) hC rfl rfl rfl rfl ?_
          refine x_1 (p' := 135) hC rfl rfl rfl rfl ?_
          refine x_1 (p' := 136) hC rfl rfl rfl rfl ?_
          refine x_div (p' := 137) hC rfl rfl rfl (by decide) ?_
          rw [wr_tdiv (by omega) (by omega) (by omega)]
          refine x_1 (p' := 138) hC rfl rfl rfl rfl ?_
          refine x_rem (p' := 139) hC rfl rfl rfl (by decide) ?_
          rw [wr_tmod (by omega) (by omega) (by omega)]
          refine x_cIV3 (p' := 140) (n := 168) hC rfl rfl rfl rfl rfl (W.ty) ?_
          obtain ⟨hP', h0⟩ := hP.set (g := i) (k := 1) (v := y / 16 % 2) ⟨by omega, by omega⟩ (by decide) ⟨by omega, by rw [show sMax 1 = 1 from rfl]; omega⟩
          refine rw_set W hP.side.1 hP.side.2.1 hP.side.2.2.1 h0 (fun h W => ?_)
          rw [zk 1 (by decide) (by decide)]
          have zk : ∀ j : Int, 2 ≤ j → j < 4 → cSe (upX S (12 + 7 * i.toNat) 1 (y / 16 % 2)) i j = 0 := fun j a b => by
            rw [set_ne.2.1 j (by omega)]
            exact zk j (by omega) b
          have zo : ∀ g : Int, i < g → g < 4 → ZeS (upX S (12 + 7 * i.toNat) 1 (y / 16 % 2)) g := fun g a b j c e => by
            rw [set_x (by omega) (by omega) (by omega)]
            exact zo g a b j c e
          generalize upX S (12 + 7 * i.toNat) 1 (y / 16 % 2) = S at *
          have hP := hP'
          refine x_ifne (p' := 141) hC rfl rfl (fun c140 => ?_) (fun c140 => ?_)
          · exact absurd rfl c140
          · refine x_1 (p' := 142) hC rfl rfl rfl rfl ?_
            refine x_1 (p' := 143) hC rfl rfl rfl rfl ?_
            refine x_1 (p' := 144) hC rfl rfl rfl rfl ?_
            refine x_1 (p' := 145) hC rfl rfl rfl rfl ?_
            refine x_1 (p' := 146) hC rfl rfl rfl rfl ?_
            refine x_div (p' := 147) hC rfl rfl rfl (by decide) ?_
            rw [wr_tdiv (by omega) (by omega) (by omega)]
            refine x_1 (p' := 148) hC rfl rfl rfl rfl ?_
            refine x_rem (p' := 149) hC rfl rfl rfl (by decide) ?_
            rw [wr_tmod (by omega) (by omega) (by omega)]
            refine x_cIV3 (p' := 150) (n := 168) hC rfl rfl rfl rfl rfl (W.ty) ?_
            obtain ⟨hP', h0⟩ := hP.set (g := i) (k := 2) (v := y / 32 % 3) ⟨by omega, by omega⟩ (by decide) ⟨by omega, by rw [show sMax 2 = 2 from rfl]; omega⟩
            refine rw_set W hP.side.1 hP.side.2.1 hP.side.2.2.1 h0 (fun h W => ?_)
            rw [zk 2 (by decide) (by decide)]
            have zk : ∀ j : Int, 3 ≤ j → j < 4 → cSe (upX S (12 + 7 * i.toNat) 2 (y / 32 % 3)) i j = 0 := fun j a b => by
              rw [set_ne.2.1 j (by omega)]
              exact zk j (by omega) b
            have zo : ∀ g : Int, i < g → g < 4 → ZeS (upX S (12 + 7 * i.toNat) 2 (y / 32 % 3)) g := fun g a b j c e => by
              rw [set_x (by omega) (by omega) (by omega)]
              exact zo g a b j c e
            generalize upX S (12 + 7 * i.toNat) 2 (y / 32 % 3) = S at *
            have hP := hP'
            refine x_ifne (p' := 151) hC rfl rfl (fun c150 => ?_) (fun c150 => ?_)
            · exact absurd rfl c150
            · refine x_1 (p' := 152) hC rfl rfl rfl rfl ?_
              refine x_1 (p' := 153) hC rfl rfl rfl rfl ?_
              refine x_1 (p' := 154) hC rfl rfl rfl rfl ?_
              refine x_1 (p' := 155) hC rfl rfl rfl rfl ?_
              refine x_1 (p' := 156) hC rfl rfl rfl rfl ?_
              refine x_div (p' := 157) hC rfl rfl rfl (by decide) ?_
              rw [wr_tdiv (by omega) (by omega) (by omega)]
              refine x_1 (p' := 158) hC rfl rfl rfl rfl ?_
              refine x_rem (p' := 159) hC rfl rfl rfl (by decide) ?_
              rw [wr_tmod (by omega) (by omega) (by omega)]
              refine x_cIV3 (p' := 160) (n := 168) hC rfl rfl rfl rfl rfl (W.ty) ?_
              obtain ⟨hP', h0⟩ := hP.set (g := i) (k := 3) (v := y / 128 % 5) ⟨by omega, by omega⟩ (by decide) ⟨by omega, by rw [show sMax 3 = 20 from rfl]; omega⟩
              refine rw_set W hP.side.1 hP.side.2.1 hP.side.2.2.1 h0 (fun h W => ?_)
              rw [zk 3 (by decide) (by decide)]
              have zk : ∀ j : Int, 4 ≤ j → j < 4 → cSe (upX S (12 + 7 * i.toNat) 3 (y / 128 % 5)) i j = 0 := fun j a b => by
                rw [set_ne.2.1 j (by omega)]
                exact zk j (by omega) b
              have zo : ∀ g : Int, i < g → g < 4 → ZeS (upX S (12 + 7 * i.toNat) 3 (y / 128 % 5)) g := fun g a b j c e => by
                rw [set_x (by omega) (by omega) (by omega)]
                exact zo g a b j c e
              generalize upX S (12 + 7 * i.toNat) 3 (y / 128 % 5) = S at *
              have hP := hP'
              refine x_ifne (p' := 161) hC rfl rfl (fun c160 => ?_) (fun c160 => ?_)
              · exact absurd rfl c160
              · refine x_1 (p' := 162) hC rfl rfl rfl rfl ?_
                refine x_1 (p' := 164) hC rfl rfl rfl rfl ?_
                refine x_stI3 (p' := 165) hC rfl rfl rfl ?_
                refine x_inc4 (p' := 166) hC rfl rfl (⟨by omega, by omega⟩) ?_
                refine x_1 (p' := 112) hC rfl rfl rfl rfl ?_
                exact ih (i + 1) h S R _ _ (by omega) W hP (by omega) (fun g a b => zo g (by omega) b)
set_option maxRecDepth 20000 in
theorem lp_law_unit {L : Nat} {xs : Nat → Int32} (hL : L ≤ 260) {P : Int} {z7 z8 : Option AV} {Q : Option AV → HP → Prop} (K : ∀ h S R z5 z6, RW L xs False 0 0 h S R → PreT 4 5 S R → (∀ g : Int, 0 ≤ g → g < 4 → ZeS S g) → At 10 0 110 [some (.inr (some 2)), some (.inr (some 3)), some (.inl P), some (.inl 1), some (.inl 5), z5, z6, z7, z8] [] h Q) (k : Nat) : ∀ (i : Int) (h : HP) (S : Nat → Int → Int) (R : Nat → List FV) (z5 : Option AV) (z6 : Option AV), (5 - i).toNat < k → (RW L xs False 0 0 h S R) → (PreT 4 i S R) → (0 ≤ i ∧ i ≤ 5) → (∀ g : Int, 0 ≤ g → g < 4 → ZeS S g) → At (10) 0 57 [some (.inr (some 2)), some (.inr (some 3)), some (.inl P), some (.inl 1), some (.inl i), z5, z6, z7, z8] [] h Q := by
  have hC : cod 0 = c_L_law := rfl
  induction k with
  | zero =>
    intro i h S R z5 z6 hk
    exact absurd hk (Nat.not_lt_zero _)
  | succ k ih =>
    intro i h S R z5 z6 hk hI0 hI1 hI2 hI3
    have W := hI0
    have hP := hI1
    refine x_1 (p' := 58) hC rfl rfl rfl rfl ?_
    refine x_1 (p' := 59) hC rfl rfl rfl rfl ?_
    refine x_icge (p' := 60) hC rfl rfl (fun c59 => ?_) (fun c59 => ?_)
    · have e : i = 5 := by omega
      subst e
      exact K h S R _ _ W hP hI3
    · have hq := preq4 hP (g := i % 4) ⟨by omega, by omega⟩
      have hp := (hP.2.2.2.1 (i % 4) (by omega) (by omega)).2.1.1
      refine x_1 (p' := 61) hC rfl rfl rfl rfl ?_
      refine x_ifeq (p' := 62) hC rfl rfl (fun c61 => ?_) (fun c61 => ?_)
      · exact absurd c61 (by decide)
      · refine x_1 (p' := 63) hC rfl rfl rfl rfl ?_
        refine x_1 (p' := 64) hC rfl rfl rfl rfl ?_
        refine x_1 (p' := 65) hC rfl rfl rfl rfl ?_
        refine x_add (p' := 66) hC rfl rfl rfl (⟨by omega, by omega⟩) ?_
        refine x_cIS2 (p' := 67) (n := 1) hC rfl rfl rfl rfl rfl ?_
        refine sp_L_cell W.scr hL (by omega) (fun y y0 y1 => ?_)
        refine x_stI5 (p' := 68) hC rfl rfl rfl ?_
        refine x_1 (p' := 69) hC rfl rfl rfl rfl ?_
        refine x_1 (p' := 70) hC rfl rfl rfl rfl ?_
        refine x_rem (p' := 71) hC rfl rfl rfl (by decide) ?_
        rw [wr_tmod (by omega) (by omega) (by omega)]
        refine x_stI6 (p' := 72) hC rfl rfl rfl ?_
        have J : ∀ p : Int, 1 ≤ p ∧ p ≤ 20 → rGo p (cSe S (i % 4) 4) → At 10 0 101 [some (.inr (some 2)), some (.inr (some 3)), some (.inl P), some (.inl 1), some (.inl i), some (.inl y), some (.inl (i % 4)), z7, z8] [.inl p, .inl (i % 4), .inr (some 3)] h Q := by
          intro p p0 p1
          refine x_cIV2 (p' := 102) (n := 166) hC rfl rfl rfl rfl rfl (W.ty) ?_
          obtain ⟨hP', hj, hs'⟩ := hP.unit (by omega) (a := i % 4) (p := p) ⟨by omega, by omega⟩ p0 p1
          have e5 := hP.1.2.1
          refine rw_unit W hP.side.1 hP.side.2.1 hP.side.2.2.1 hP.side.2.2.2 hj (fun h W => ?_)
          rw [show cT S 5 = i from e5]
          have hz : ∀ g : Int, 0 ≤ g → g < 4 → ZeS (upX (cUb S (cT S 5) (i % 4) p) 0 5 (cT S 5 + 1)) g := fun g a b j c e => by
            rw [hs' g a b]
            exact hI3 g a b j c e
          generalize upX (cUb S (cT S 5) (i % 4) p) 0 5 (cT S 5 + 1) = S' at *
          refine x_1 (p' := 103) hC rfl rfl rfl rfl ?_
          refine x_icne (p' := 104) hC rfl rfl (fun c103 => ?_) (fun c103 => ?_)
          · exact absurd rfl c103
          · refine x_1 (p' := 105) hC rfl rfl rfl rfl ?_
            refine x_1 (p' := 107) hC rfl rfl rfl rfl ?_
            refine x_stI3 (p' := 108) hC rfl rfl rfl ?_
            refine x_inc4 (p' := 109) hC rfl rfl (⟨by omega, by omega⟩) ?_
            refine x_1 (p' := 57) hC rfl rfl rfl rfl ?_
            exact ih (i + 1) h S' R _ _ (by omega) W hP' (by omega) hz
        refine x_1 (p' := 73) hC rfl rfl rfl rfl ?_
        refine x_1 (p' := 74) hC rfl rfl rfl rfl ?_
        refine x_1 (p' := 75) hC rfl rfl rfl rfl ?_
        refine x_1 (p' := 76) hC rfl rfl rfl rfl ?_
        refine x_rem (p' := 77) hC rfl rfl rfl (by decide) ?_
        rw [wr_tmod (by omega) (by omega) (by omega)]
        refine x_ifne (p' := 78) hC rfl rfl (fun c77 => ?_) (fun c77 => ?_)
        · refine x_1 (p' := 81) hC rfl rfl rfl rfl ?_
          refine x_1 (p' := 82) hC rfl rfl rfl rfl ?_
          refine x_1 (p' := 83) hC rfl rfl rfl rfl ?_
          refine x_cIV2 (p' := 84) (n := 169) hC rfl rfl rfl rfl rfl (W.ty) ?_
          refine rw_hubOf W hP.ci ?_
          rw [hq]
          refine x_1 (p' := 85) hC rfl rfl rfl rfl ?_
          refine x_1 (p' := 86) hC rfl rfl rfl rfl ?_
          refine x_div (p' := 87) hC rfl rfl rfl (by decide) ?_
          rw [wr_tdiv (by omega) (by omega) (by omega)]
          refine x_1 (p' := 88) hC rfl rfl rfl rfl ?_
          refine x_rem (p' := 89) hC rfl rfl rfl (by decide) ?_
          rw [wr_tmod (by omega) (by omega) (by omega)]
          refine x_1 (p' := 90) hC rfl rfl rfl rfl ?_
          refine x_icne (p' := 91) hC rfl rfl (fun c90 => ?_) (fun c90 => ?_)
          · refine x_1 (p' := 100) hC rfl rfl rfl rfl ?_
            generalize cSe S (i % 4) 4 = v at *
            first
              | (refine x_mul (p' := 101) hC rfl rfl rfl ⟨by omega, by omega⟩ ?_
                 exact J (v * 2) ⟨by omega, by omega⟩ (Or.inl (Int.mul_emod_right v 2)))
              | (refine x_mul (p' := 101) hC rfl rfl rfl ⟨by omega, by omega⟩ ?_
                 exact J (v * 1) ⟨by omega, by omega⟩ (Or.inl (Int.mul_emod_right v 1)))
          · refine x_1 (p' := 92) hC rfl rfl rfl rfl ?_
            refine x_1 (p' := 93) hC rfl rfl rfl rfl ?_
            refine x_1 (p' := 94) hC rfl rfl rfl rfl ?_
            refine x_cIV2 (p' := 95) (n := 169) hC rfl rfl rfl rfl rfl (W.ty) ?_
            refine rw_hubOf W hP.ci ?_
            rw [hq]
            refine x_1 (p' := 96) hC rfl rfl rfl rfl ?_
            refine x_icgt (p' := 97) hC rfl rfl (fun c96 => ?_) (fun c96 => ?_)
            · refine x_1 (p' := 100) hC rfl rfl rfl rfl ?_
              generalize cSe S (i % 4) 4 = v at *
              first
                | (refine x_mul (p' := 101) hC rfl rfl rfl ⟨by omega, by omega⟩ ?_
                   exact J (v * 2) ⟨by omega, by omega⟩ (Or.inl (Int.mul_emod_right v 2)))
                | (refine x_mul (p' := 101) hC rfl rfl rfl ⟨by omega, by omega⟩ ?_
                   exact J (v * 1) ⟨by omega, by omega⟩ (Or.inl (Int.mul_emod_right v 1)))
            · refine x_1 (p' := 98) hC rfl rfl rfl rfl ?_
              refine x_1 (p' := 100) hC rfl rfl rfl rfl ?_
              generalize cSe S (i % 4) 4 = v at *
              first
                | (refine x_mul (p' := 101) hC rfl rfl rfl ⟨by omega, by omega⟩ ?_
                   exact J (v * 2) ⟨by omega, by omega⟩ (Or.inl (Int.mul_emod_right v 2)))
                | (refine x_mul (p' := 101) hC rfl rfl rfl ⟨by omega, by omega⟩ ?_
                   exact J (v * 1) ⟨by omega, by omega⟩ (Or.inl (Int.mul_emod_right v 1)))
        · refine x_1 (p' := 79) hC rfl rfl rfl rfl ?_
          refine x_1 (p' := 101) hC rfl rfl rfl rfl ?_
          exact J 1 (by decide) (Or.inr (Int.emod_one _))
set_option maxRecDepth 20000 in
set_option maxHeartbeats 2000000 in
theorem law_tree {L : Nat} {xs : Nat → Int32} (hL : L ≤ 260) {h : HP} {S : Nat → Int → Int} (W : RW L xs False 0 0 h S (fun _ => [])) (I : InitS S) {Q : Option AV → HP → Prop} (K : ∀ P h S R, RW L xs False 0 0 h S R → PreT 4 0 S R → (∀ g : Int, 0 ≤ g → g < 4 → ZeS S g) → At 10 0 57 [some (.inr (some 2)), some (.inr (some 3)), some (.inl P), some (.inl 1), some (.inl 0), none, none, none, none] [] h Q) : At 10 0 4 [some (.inr (some 2)), some (.inr (some 3)), none, none, none, none, none, none, none] [] h Q := by
  have hC : cod 0 = c_L_law := rfl
  obtain ⟨hP, hZ, hs0⟩ := PreT.init I
  have hR : ∃ R : Nat → List FV, R = fun _ => [] := ⟨_, rfl⟩
  obtain ⟨R, hR⟩ := hR
  rw [← hR] at W hP
  refine x_1 (p' := 5) hC rfl rfl rfl rfl ?_
  refine x_1 (p' := 6) hC rfl rfl rfl rfl ?_
  refine x_1 (p' := 7) hC rfl rfl rfl rfl ?_
  refine x_cIS2 (p' := 8) (n := 1) hC rfl rfl rfl rfl rfl ?_
  refine sp_L_cell W.scr hL (by omega) (fun y7 y0 y1 => ?_)
  refine x_1 (p' := 9) hC rfl rfl rfl rfl ?_
  refine x_rem (p' := 10) hC rfl rfl rfl (by decide) ?_
  rw [wr_tmod (by omega) (by omega) (by omega)]
  refine x_add (p' := 11) hC rfl rfl rfl (⟨by omega, by omega⟩) ?_
  obtain ⟨P, hPp⟩ : ∃ P, P = 1 + y7 % 4 := ⟨_, rfl⟩
  rw [← hPp]
  have p14 : 1 ≤ P ∧ P ≤ 4 := by omega
  refine x_stI2 (p' := 12) hC rfl rfl rfl ?_
  refine x_1 (p' := 13) hC rfl rfl rfl rfl ?_
  refine x_1 (p' := 14) hC rfl rfl rfl rfl ?_
  refine x_1 (p' := 15) hC rfl rfl rfl rfl ?_
  refine x_1 (p' := 16) hC rfl rfl rfl rfl ?_
  refine x_cIV3 (p' := 17) (n := 168) hC rfl rfl rfl rfl rfl (W.ty) ?_
  obtain ⟨hP', h0, hs', hz'⟩ := hP.set4 W.cnt (v := P) (by omega)
  have hZ := hz' hZ
  refine rw_set W hP.side.1 hP.side.2.1 hP.side.2.2.1 h0 (fun h W => ?_)
  rw [hs0]
  generalize upX S (12 + 7 * (0 : Int).toNat) 4 P = S at *
  have hP := hP'
  refine x_1 (p' := 18) hC rfl rfl rfl rfl ?_
  refine x_icne (p' := 19) hC rfl rfl (fun c18 => ?_) (fun c18 => ?_)
  · exact absurd rfl c18
  · refine x_1 (p' := 20) hC rfl rfl rfl rfl ?_
    refine x_1 (p' := 21) hC rfl rfl rfl rfl ?_
    refine x_1 (p' := 22) hC rfl rfl rfl rfl ?_
    refine x_1 (p' := 23) hC rfl rfl rfl rfl ?_
    refine x_1 (p' := 24) hC rfl rfl rfl rfl ?_
    refine x_1 (p' := 25) hC rfl rfl rfl rfl ?_
    refine x_cIS2 (p' := 26) (n := 1) hC rfl rfl rfl rfl rfl ?_
    refine sp_L_cell W.scr hL (by omega) (fun y25 y0 y1 => ?_)
    refine x_1 (p' := 27) hC rfl rfl rfl rfl ?_
    refine x_rem (p' := 28) hC rfl rfl rfl (by decide) ?_
    rw [wr_tmod (by omega) (by omega) (by omega)]
    refine x_add (p' := 29) hC rfl rfl rfl (⟨by omega, by omega⟩) ?_
    obtain ⟨x, hx⟩ : ∃ x, x = 1 + y25 % 3 := ⟨_, rfl⟩
    rw [← hx]
    have hm : 1 ≤ P * x ∧ P * x ≤ 12 := by
      rcases (show P = 1 ∨ P = 2 ∨ P = 3 ∨ P = 4 by omega) with q | q | q | q <;> rw [q] <;> omega
    refine x_mul (p' := 30) hC rfl rfl rfl (⟨by omega, by omega⟩) ?_
    refine x_cIV2 (p' := 31) (n := 165) hC rfl rfl rfl rfl rfl (W.ty) ?_
    have hb := hP.hub (nh := 1) (by decide) (p := P * x) (by omega) (by rw [show par4 1 = 0 from rfl]; rw [hs']; exact Or.inl (Int.mul_emod_right P x))
    rw [show par4 1 = 0 from rfl] at hb
    obtain ⟨hP', hj, hs', hz'⟩ := hb
    have e4 := hP.1.1
    refine rw_hub W hP.side.1 hP.side.2.1 hP.side.2.2.1 hP.side.2.2.2 hj (fun h W => ?_)
    rw [show cT S 4 = 1 from e4]
    generalize upX (cHb S (cT S 4) 0 (cH S 0 4 + 1) (P * x)) 0 4 (cT S 4 + 1) = S' at *
    generalize upR R (13 + 7 * (cT S 4).toNat) [] = R' at *
    have z1 : ∀ g : Int, 0 ≤ g → g < 2 → ZeS S' g := fun g a b j c e => by
      by_cases q : g = 1
      · rw [q]; exact hz' j c e
      · rw [hs'.2 g a (by omega), show g = 0 by omega]; exact hZ j c e
    have s0 := hs'.2 0 (by decide) (by decide)
    generalize hSS : S' = S at *
    have hP := hP'
    generalize R' = R at *
    refine x_1 (p' := 32) hC rfl rfl rfl rfl ?_
    refine x_icne (p' := 33) hC rfl rfl (fun c32 => ?_) (fun c32 => ?_)
    · exact absurd rfl c32
    · refine x_1 (p' := 34) hC rfl rfl rfl rfl ?_
      refine x_1 (p' := 35) hC rfl rfl rfl rfl ?_
      refine x_1 (p' := 36) hC rfl rfl rfl rfl ?_
      refine x_cIV2 (p' := 37) (n := 165) hC rfl rfl rfl rfl rfl (W.ty) ?_
      have hb := hP.hub (nh := 2) (by decide) (p := 1) (by decide) (by rw [show par4 2 = 0 from rfl]; exact Or.inr (Int.emod_one _))
      rw [show par4 2 = 0 from rfl] at hb
      obtain ⟨hP', hj, hs', hz'⟩ := hb
      have e4 := hP.1.1
      refine rw_hub W hP.side.1 hP.side.2.1 hP.side.2.2.1 hP.side.2.2.2 hj (fun h W => ?_)
      rw [show cT S 4 = 2 from e4]
      generalize upX (cHb S (cT S 4) 0 (cH S 0 4 + 1) (1)) 0 4 (cT S 4 + 1) = S' at *
      generalize upR R (13 + 7 * (cT S 4).toNat) [] = R' at *
      have z2 : ∀ g : Int, 0 ≤ g → g < 3 → ZeS S' g := fun g a b j c e => by
        by_cases q : g = 2
        · rw [q]; exact hz' j c e
        · rw [hs'.2 g a (by omega)]; exact z1 g a (by omega) j c e
      have s2 := hs'.1
      generalize S' = S at *
      have hP := hP'
      generalize R' = R at *
      refine x_1 (p' := 38) hC rfl rfl rfl rfl ?_
      refine x_icne (p' := 39) hC rfl rfl (fun c38 => ?_) (fun c38 => ?_)
      · exact absurd rfl c38
      · refine x_1 (p' := 40) hC rfl rfl rfl rfl ?_
        refine x_1 (p' := 41) hC rfl rfl rfl rfl ?_
        refine x_1 (p' := 42) hC rfl rfl rfl rfl ?_
        refine x_1 (p' := 43) hC rfl rfl rfl rfl ?_
        refine x_1 (p' := 44) hC rfl rfl rfl rfl ?_
        refine x_cIS2 (p' := 45) (n := 1) hC rfl rfl rfl rfl rfl ?_
        refine sp_L_cell W.scr hL (by omega) (fun y44 y0 y1 => ?_)
        refine x_1 (p' := 46) hC rfl rfl rfl rfl ?_
        refine x_rem (p' := 47) hC rfl rfl rfl (by decide) ?_
        rw [wr_tmod (by omega) (by omega) (by omega)]
        refine x_add (p' := 48) hC rfl rfl rfl (⟨by omega, by omega⟩) ?_
        refine x_cIV2 (p' := 49) (n := 165) hC rfl rfl rfl rfl rfl (W.ty) ?_
        have hb := hP.hub (nh := 3) (by decide) (p := 1 + y44 % 3) (by omega) (by rw [show par4 3 = 2 from rfl]; rw [s2]; exact Or.inl (Int.emod_one _))
        rw [show par4 3 = 2 from rfl] at hb
        obtain ⟨hP', hj, hs', hz'⟩ := hb
        have e4 := hP.1.1
        refine rw_hub W hP.side.1 hP.side.2.1 hP.side.2.2.1 hP.side.2.2.2 hj (fun h W => ?_)
        rw [show cT S 4 = 3 from e4]
        generalize upX (cHb S (cT S 4) 2 (cH S 2 4 + 1) (1 + y44 % 3)) 0 4 (cT S 4 + 1) = S' at *
        generalize upR R (13 + 7 * (cT S 4).toNat) [] = R' at *
        have z3 : ∀ g : Int, 0 ≤ g → g < 4 → ZeS S' g := fun g a b j c e => by
          by_cases q : g = 3
          · rw [q]; exact hz' j c e
          · rw [hs'.2 g a (by omega)]; exact z2 g a (by omega) j c e
        refine x_1 (p' := 50) hC rfl rfl rfl rfl ?_
        refine x_icne (p' := 51) hC rfl rfl (fun c50 => ?_) (fun c50 => ?_)
        · exact absurd rfl c50
        · refine x_1 (p' := 52) hC rfl rfl rfl rfl ?_
          refine x_1 (p' := 54) hC rfl rfl rfl rfl ?_
          refine x_stI3 (p' := 55) hC rfl rfl rfl ?_
          refine x_1 (p' := 56) hC rfl rfl rfl rfl ?_
          refine x_stI4 (p' := 57) hC rfl rfl rfl ?_
          exact K P h S' R' W hP' z3

/-! THE LAW: a hub's slots and units -/
theorem SX.q {S S' : Nat → Int → Int} (x : SX S S') : Sq S S' := fun m k a b _ => congrFun (x m (by omega) (by omega) (by omega) (by omega) (by omega)) k
def HubB (n : Int) (S : Nat → Int → Int) (R : Nat → List FV) (g last : Int) : Prop := IvvN n S R ∧ ¬ cReady S R g ∧ ((cH S g 8 = -1 ∧ cH S g 5 = 0 ∧ last = -1000004) ∨ (0 ≤ cH S g 8 ∧ 1 ≤ cH S g 5 ∧ last = cH S g 8))
theorem HubB.sx {n : Int} {S S' : Nat → Int → Int} {R : Nat → List FV} {g last : Int} (h : HubB n S R g last) (x : SX S S') : HubB n S' R g last := by
  obtain ⟨a, b, c⟩ := h
  refine ⟨a.sqq x.q, fun z => b ((cReady_sx x).mp z), ?_⟩
  rw [x.cH]
  exact c
theorem hubq {n : Int} {S : Nat → Int → Int} {R : Nat → List FV} (h : IvvN n S R) {g : Int} (hg : 0 ≤ g ∧ g < 4) {w : Int} (hw : 0 ≤ w ∧ w ≤ 14) : qHubOf S R g w = cHubF S R g w := by
  have c4 := h.1.1.1.1
  exact if_neg (fun z => z ⟨⟨hg.1, by omega⟩, hw.1, hw.2⟩)
theorem hub_is {n : Int} {S : Nat → Int → Int} {R : Nat → List FV} (h : IvvN n S R) {g : Int} (hg : 0 ≤ g ∧ g < 4) : qHubOf S R g 9 = cSlots (kR R g) ∧ qHubOf S R g 13 = (if cH S g 8 = -1 then -1000004 else cH S g 8) ∧ qHubOf S R g 10 = cH S g 5 ∧ qHubOf S R g 4 = cSe S g 4 ∧ qHubOf S R g 8 = cUnder S g ∧ qHubOf S R g 7 = cChildren S g ∧ qHubOf S R g 11 = cH S g 6 ∧ qHubOf S R g 12 = cH S g 7 ∧ qHubOf S R g 14 = cFrom (R 3) g :=
  ⟨(hubq h hg (by decide)).trans rfl, (hubq h hg (by decide)).trans rfl, (hubq h hg (by decide)).trans rfl, (hubq h hg (by decide)).trans rfl, (hubq h hg (by decide)).trans rfl, (hubq h hg (by decide)).trans rfl, (hubq h hg (by decide)).trans rfl, (hubq h hg (by decide)).trans rfl, (hubq h hg (by decide)).trans rfl⟩
theorem slotq {n : Int} {S : Nat → Int → Int} {R : Nat → List FV} (h : IvvN n S R) {g : Int} (hg : 0 ≤ g ∧ g < 4) {k w : Int} (hk : 0 ≤ k) (hw : 0 ≤ w ∧ w ≤ 5) : qSlotAt S R g k w = cSlotF S R g (cStart (kR R g) k) w := by
  have c4 := h.1.1.1.1
  exact if_neg (fun z => z ⟨⟨hg.1, by omega⟩, hk, hw.1, hw.2⟩)
theorem slot_no {n : Int} {S : Nat → Int → Int} {R : Nat → List FV} (h : IvvN n S R) {g : Int} (hg : 0 ≤ g ∧ g < 4) : qSlotAt S R g (cSlots (kR R g)) 0 = -1000004 := by
  rw [slotq h hg cSlots_rng.1 (by decide), start_out (h.1.2.2.1 g hg.1 hg.2).2.1]
  rfl
theorem slot_in {n : Int} {S : Nat → Int → Int} {R : Nat → List FV} (h : IvvN n S R) {g : Int} (hg : 0 ≤ g ∧ g < 4) {k : Int} (h0 : 0 ≤ k) (h1 : k < cSlots (kR R g)) : (0 ≤ cStart (kR R g) k ∧ cStart (kR R g) k < ((kR R g).length : Nat)) ∧ qSlotAt S R g k 0 = gt (kR R g) (cStart (kR R g) k) 2 ∧ qSlotAt S R g k 1 = gt (kR R g) (cStart (kR R g) k) 3 ∧ qSlotAt S R g k 2 = cEnd (kR R g) (cStart (kR R g) k) - cStart (kR R g) k ∧ qSlotAt S R g k 4 = b2i (cComp S (kR R g) g (cStart (kR R g) k) (cEnd (kR R g) (cStart (kR R g) k))) ∧ qSlotAt S R g k 5 = cWait S (kR R g) g (cStart (kR R g) k) (cT S 6) := by
  have s := (start_in (h.1.2.2.1 g hg.1 hg.2).2.1 h0 h1).2
  have e : ∀ w, 0 ≤ w → w ≤ 5 → qSlotAt S R g k w = cSlotF S R g (cStart (kR R g) k) w := fun w a b => slotq h hg h0 ⟨a, b⟩
  refine ⟨s.1, ?_, ?_, ?_, ?_, ?_⟩
  all_goals rw [e _ (by decide) (by decide)]; unfold cSlotF; rw [if_neg (by have := s.1.1; omega)]
  · rw [if_pos rfl]
  · rw [if_neg (by decide), if_pos rfl]
  · rw [if_neg (by decide), if_neg (by decide), if_pos rfl]
  · rw [if_neg (by decide), if_neg (by decide), if_neg (by decide), if_neg (by decide), if_pos rfl]
  · rw [if_neg (by decide), if_neg (by decide), if_neg (by decide), if_neg (by decide), if_neg (by decide)]
theorem slot_kep {n : Int} {S : Nat → Int → Int} {R : Nat → List FV} (h : IvvN n S R) {g : Int} (hg : 0 ≤ g ∧ g < 4) {s : Int} (hs : 0 ≤ s ∧ s < ((kR R g).length : Nat)) : (0 ≤ gt (kR R g) s 2 ∧ gt (kR R g) s 2 ≤ 1060) ∧ gt (kR R g) s 2 % cSe S g 4 = 0 ∧ cH S g 8 < gt (kR R g) s 2 ∧ gt (kR R g) s 3 ≤ cT S 6 ∧ 1 ≤ cSe S g 4 ∧ cSe S g 4 ≤ 20 := by
  have k := (h.1.2.2.1 g hg.1 hg.2).1 _ (gt_mem (L := kR R g) (i := s) hs.1 hs.2)
  have sb := slB_le h.1.1 hg
  have pp := (h.1.1.2.2.2.1 g hg.1 hg.2).1
  obtain ⟨_, a, _, b', c, e, _⟩ := k
  exact ⟨by omega, b', c, e.2, pp⟩
theorem nrdy0 {S : Nat → Int → Int} {R : Nat → List FV} {g : Int} (h : ¬ cReady S R g) (hl : 0 < (kR R g).length) : b2i (cComp S (kR R g) g 0 (cEnd (kR R g) 0)) = 0 ∧ 0 < cWait S (kR R g) g 0 (cT S 6) := by
  refine ⟨b2i_f (fun z => h ⟨hl, Or.inr z⟩), ?_⟩
  have a : ¬ cWait S (kR R g) g 0 (cT S 6) = 0 := fun z => h ⟨hl, Or.inl z⟩
  have b : 0 ≤ cWait S (kR R g) g 0 (cT S 6) := by
    unfold cWait e_mxF
    split <;> omega
  omega
set_option maxRecDepth 20000 in
theorem lp_hubs_u {L : Nat} {xs : Nat → Int32} {b : Prop} {tm ou n : Int} {d : Nat} {h : HP} {S : Nat → Int → Int} {R : Nat → List FV} {g last : Int} (hg : 0 ≤ g ∧ g < 4) (W : RW L xs b tm ou h S R) (hB : HubB n S R g last) {ns : Int} {z7 z8 : Option AV} {Q : Int → HP → Prop} (K : Q 1 h) (k : Nat) : ∀ (i : Int), (cUnder S g - i).toNat < k → (0 ≤ i ∧ i ≤ cUnder S g) → At (d + 8) 3 127 [some (.inr (some 3)), some (.inl g), some (.inl ns), some (.inl last), some (.inl 1), some (.inl i), some (.inl (qUnitAt S g i)), z7, z8] [] h (fun v h' => ∃ x, v = some (.inl x) ∧ Q x h') := by
  have hC : cod 3 = c_L_hubs := rfl
  induction k with
  | zero =>
    intro i hk
    exact absurd hk (Nat.not_lt_zero _)
  | succ k ih =>
    intro i hk hI0
    have hu := unitAt_is hB.1.1.1 hg (x := i) hI0.1
    have ur := cUnder_rng hB.1.1.1 (g := g)
    refine x_1 (p' := 128) hC rfl rfl rfl rfl ?_
    refine x_iflt (p' := 129) hC rfl rfl (fun c128 => ?_) (fun c128 => ?_)
    · have e : i = cUnder S g := by
        by_cases q : i < cUnder S g
        · have := hu.1 q; omega
        · omega
      refine x_1 (p' := 137) hC rfl rfl rfl rfl ?_
      refine x_ifeq (p' := 138) hC rfl rfl (fun c137 => ?_) (fun c137 => ?_)
      · exact absurd c137 (by decide)
      · refine x_1 (p' := 139) hC rfl rfl rfl rfl ?_
        refine x_1 (p' := 140) hC rfl rfl rfl rfl ?_
        refine x_1 (p' := 141) hC rfl rfl rfl rfl ?_
        refine x_1 (p' := 142) hC rfl rfl rfl rfl ?_
        refine x_cIV2 (p' := 143) (n := 169) hC rfl rfl rfl rfl rfl (W.ty) ?_
        refine rw_hubOf W hB.1.1.1.ci ?_
        rw [(hub_is hB.1 hg).2.2.2.2.1]
        refine x_icne (p' := 144) hC rfl rfl (fun c143 => ?_) (fun c143 => ?_)
        · exact absurd e c143
        · refine x_1 (p' := 145) hC rfl rfl rfl rfl ?_
          refine x_1 (p' := 146) hC rfl rfl rfl rfl ?_
          refine x_1 (p' := 147) hC rfl rfl rfl rfl ?_
          refine x_cIV2 (p' := 148) (n := 169) hC rfl rfl rfl rfl rfl (W.ty) ?_
          refine rw_hubOf W hB.1.1.1.ci ?_
          rw [(hub_is hB.1 hg).2.2.2.2.2.1]
          refine x_iflt (p' := 149) hC rfl rfl (fun c148 => ?_) (fun c148 => ?_)
          · exact absurd c148 (by have := fI_ind (n := 15) (g := fun c n => n + b2i (cChild S g c)) (a := 0) (fun _ x => 0 ≤ x) (by decide) (by decide) (fun i x _ _ q => by have := b2i_01 (cChild S g i); omega); exact fun z => absurd this (Int.not_le.mpr z))
          · refine x_1 (p' := 150) hC rfl rfl rfl rfl ?_
            refine x_1 (p' := 152) hC rfl rfl rfl rfl ?_
            refine x_zret hC rfl rfl rfl (by first | omega | exact b2i_01 _) ⟨_, rfl, ?_⟩
            exact K
    · have lt : i < cUnder S g := by
        by_cases q : i < cUnder S g
        · exact q
        · have := hu.2 (by omega); omega
      refine x_inc5 (p' := 130) hC rfl rfl (⟨by omega, by omega⟩) ?_
      refine x_1 (p' := 131) hC rfl rfl rfl rfl ?_
      refine x_1 (p' := 132) hC rfl rfl rfl rfl ?_
      refine x_1 (p' := 133) hC rfl rfl rfl rfl ?_
      refine x_cIV2 (p' := 134) (n := 171) hC rfl rfl rfl rfl rfl (W.ty) ?_
      refine rw_unitAt W hB.1.1.1.ci ?_
      refine x_stI6 (p' := 135) hC rfl rfl rfl ?_
      refine x_1 (p' := 127) hC rfl rfl rfl rfl ?_
      exact ih (i + 1) (by omega) (by omega)
set_option maxRecDepth 20000 in
theorem lp_hubs {L : Nat} {xs : Nat → Int32} {b : Prop} {tm ou n : Int} {d : Nat} {S0 : Nat → Int → Int} {R : Nat → List FV} {g last : Int} (hg : 0 ≤ g ∧ g < 4) (hn : n ≤ 100) {Q : Int → HP → Prop} (K : ∀ H S, RW L xs b tm ou H S R → SX S0 S → Q 1 H) (k : Nat) : ∀ (i : Int) (h : HP) (S : Nat → Int → Int) (z6 : Option AV) (z7 : Option AV) (z8 : Option AV), (cSlots (kR R g) - i).toNat < k → (RW L xs b tm ou h S R) → (HubB n S R g last) → (SX S0 S) → (0 ≤ i ∧ i ≤ cSlots (kR R g)) → At (d + 8) 3 38 [some (.inr (some 3)), some (.inl g), some (.inl (cSlots (kR R g))), some (.inl last), some (.inl 1), some (.inl i), z6, z7, z8] [] h (fun v h' => ∃ x, v = some (.inl x) ∧ Q x h') := by
  have hC : cod 3 = c_L_hubs := rfl
  induction k with
  | zero =>
    intro i h S z6 z7 z8 hk
    exact absurd hk (Nat.not_lt_zero _)
  | succ k ih =>
    intro i h S z6 z7 z8 hk hI0 hI1 hI2 hI3
    have W := hI0
    have hB := hI1
    have hX := hI2
    refine x_1 (p' := 39) hC rfl rfl rfl rfl ?_
    refine x_1 (p' := 40) hC rfl rfl rfl rfl ?_
    refine x_icge (p' := 41) hC rfl rfl (fun c40 => ?_) (fun c40 => ?_)
    · refine x_1 (p' := 121) hC rfl rfl rfl rfl ?_
      refine x_stI5 (p' := 122) hC rfl rfl rfl ?_
      refine x_1 (p' := 123) hC rfl rfl rfl rfl ?_
      refine x_1 (p' := 124) hC rfl rfl rfl rfl ?_
      refine x_1 (p' := 125) hC rfl rfl rfl rfl ?_
      refine x_cIV2 (p' := 126) (n := 171) hC rfl rfl rfl rfl rfl (W.ty) ?_
      refine rw_unitAt W hB.1.1.1.ci ?_
      refine x_stI6 (p' := 127) hC rfl rfl rfl ?_
      exact lp_hubs_u hg W hB (K h S W hX) _ 0 (Nat.lt_succ_self _) ⟨by decide, (cUnder_rng hB.1.1.1).1⟩
    · have hi : i < cSlots (kR R g) := by omega
      have srt := (hB.1.1.2.2.1 g hg.1 hg.2).2.1
      have hs := (slot_in hB.1 hg (k := i) hI3.1 hi).1
      have hlast := hB.2.2
      have cr := (cSlots_rng (L := kR R g)).2
      have ln : (kR R g).length ≤ TKR R := TKR_le hg
      have tn := hB.1.2.2.1.1
      refine x_1 (p' := 42) hC rfl rfl rfl rfl ?_
      refine x_ifeq (p' := 43) hC rfl rfl (fun c42 => ?_) (fun c42 => ?_)
      · exact absurd c42 (by decide)
      · refine x_1 (p' := 44) hC rfl rfl rfl rfl ?_
        refine x_1 (p' := 45) hC rfl rfl rfl rfl ?_
        refine x_1 (p' := 46) hC rfl rfl rfl rfl ?_
        refine x_1 (p' := 47) hC rfl rfl rfl rfl ?_
        refine x_cIV3 (p' := 48) (n := 174) hC rfl rfl rfl rfl rfl (W.ty) ?_
        have e := slot_in hB.1 hg (k := i) (by omega) (by omega)
        refine rw_slotAt W hB.1 (by omega) (fun h S W x => ?_)
        rw [e.2.1]
        have hX := hX.trans x
        have hB := hB.sx x
        refine x_stI6 (p' := 49) hC rfl rfl rfl ?_
        refine x_1 (p' := 50) hC rfl rfl rfl rfl ?_
        refine x_1 (p' := 51) hC rfl rfl rfl rfl ?_
        refine x_1 (p' := 52) hC rfl rfl rfl rfl ?_
        refine x_cIV2 (p' := 53) (n := 169) hC rfl rfl rfl rfl rfl (W.ty) ?_
        refine rw_hubOf W hB.1.1.1.ci ?_
        rw [(hub_is hB.1 hg).2.2.2.1]
        have kp := slot_kep hB.1 hg hs
        have hlast := hB.2.2
        obtain ⟨p, hp⟩ : ∃ p, p = cSe S g 4 := ⟨_, rfl⟩
        rw [← hp]
        have hp2 : 1 ≤ p ∧ p ≤ 20 := by rw [hp]; exact kp.2.2.2.2
        refine x_stI7 (p' := 54) hC rfl rfl rfl ?_
        refine x_1 (p' := 55) hC rfl rfl rfl rfl ?_
        refine x_1 (p' := 56) hC rfl rfl rfl rfl ?_
        refine x_1 (p' := 57) hC rfl rfl rfl rfl ?_
        refine x_1 (p' := 58) hC rfl rfl rfl rfl ?_
        refine x_cIV3 (p' := 59) (n := 174) hC rfl rfl rfl rfl rfl (W.ty) ?_
        have e := slot_in hB.1 hg (k := i) (by omega) (by omega)
        obtain ⟨q, hq⟩ : ∃ q, q = b2i (cComp S (kR R g) g (cStart (kR R g) i) (cEnd (kR R g) (cStart (kR R g) i))) := ⟨_, rfl⟩
        have hz : i = 0 → q = 0 := fun w => by
          have e0 : cStart (kR R g) i = 0 := by rw [w]; exact start_0 (by omega)
          rw [hq, e0]
          exact (nrdy0 hB.2.1 (by omega)).1
        refine rw_slotAt W hB.1 (by omega) (fun h S W x => ?_)
        rw [e.2.2.2.2.1, ← hq]
        have hX := hX.trans x
        have hB := hB.sx x
        have J : ∀ z : Int, (i = 0 → z = 0) → At (d + 8) 3 64 [some (.inr (some 3)), some (.inl g), some (.inl (cSlots (kR R g))), some (.inl last), some (.inl 1), some (.inl i), some (.inl (gt (kR R g) (cStart (kR R g) i) 2)), some (.inl p), z8] [.inl z] h (fun v h' => ∃ x, v = some (.inl x) ∧ Q x h') := by
          intro z hz
          refine x_stI8 (p' := 65) hC rfl rfl rfl ?_
          refine x_1 (p' := 66) hC rfl rfl rfl rfl ?_
          refine x_1 (p' := 67) hC rfl rfl rfl rfl ?_
          refine x_rem (p' := 68) hC rfl rfl rfl (by omega) ?_
          rw [wr_tmod (by omega) (by omega) (by omega)]
          refine x_ifne (p' := 69) hC rfl rfl (fun c68 => ?_) (fun c68 => ?_)
          · exact absurd (by rw [hp]; exact kp.2.1) c68
          · refine x_1 (p' := 70) hC rfl rfl rfl rfl ?_
            refine x_1 (p' := 71) hC rfl rfl rfl rfl ?_
            refine x_icle (p' := 72) hC rfl rfl (fun c71 => ?_) (fun c71 => ?_)
            · exact absurd c71 (by have := kp.2.2.1; rcases hlast with z | z <;> omega)
            · refine x_1 (p' := 73) hC rfl rfl rfl rfl ?_
              refine x_ifeq (p' := 74) hC rfl rfl (fun c73 => ?_) (fun c73 => ?_)
              · refine x_1 (p' := 84) hC rfl rfl rfl rfl ?_
                refine x_1 (p' := 85) hC rfl rfl rfl rfl ?_
                refine x_1 (p' := 86) hC rfl rfl rfl rfl ?_
                refine x_1 (p' := 87) hC rfl rfl rfl rfl ?_
                refine x_cIV3 (p' := 88) (n := 174) hC rfl rfl rfl rfl rfl (W.ty) ?_
                have e := slot_in hB.1 hg (k := i) (by omega) (by omega)
                refine rw_slotAt W hB.1 (by omega) (fun h S W x => ?_)
                rw [e.2.2.2.1]
                have hX := hX.trans x
                have hB := hB.sx x
                refine x_ifle (p' := 89) hC rfl rfl (fun c88 => ?_) (fun c88 => ?_)
                · exact absurd c88 (by have := cEnd_rng (L := kR R g) hs.1 hs.2; omega)
                · refine x_1 (p' := 90) hC rfl rfl rfl rfl ?_
                  refine x_1 (p' := 91) hC rfl rfl rfl rfl ?_
                  refine x_1 (p' := 92) hC rfl rfl rfl rfl ?_
                  refine x_1 (p' := 93) hC rfl rfl rfl rfl ?_
                  refine x_cIV3 (p' := 94) (n := 174) hC rfl rfl rfl rfl rfl (W.ty) ?_
                  have e := slot_in hB.1 hg (k := i) (by omega) (by omega)
                  refine rw_slotAt W hB.1 (by omega) (fun h S W x => ?_)
                  rw [e.2.2.1]
                  have hX := hX.trans x
                  have hB := hB.sx x
                  refine x_1 (p' := 95) hC rfl rfl rfl rfl ?_
                  refine x_1 (p' := 96) hC rfl rfl rfl rfl ?_
                  refine x_cIV1 (p' := 97) (n := 180) hC rfl rfl rfl rfl rfl (W.ty) ?_
                  refine rw_count W hB.1.1.1.ci (by decide) ?_
                  rw [show cTot S 2 = cT S 6 from rfl]
                  refine x_icgt (p' := 98) hC rfl rfl (fun c97 => ?_) (fun c97 => ?_)
                  · exact absurd c97 (by have := (slot_kep hB.1 hg hs).2.2.2.1; omega)
                  · refine x_1 (p' := 99) hC rfl rfl rfl rfl ?_
                    refine x_1 (p' := 101) hC rfl rfl rfl rfl ?_
                    refine x_stI4 (p' := 102) hC rfl rfl rfl ?_
                    refine x_1 (p' := 103) hC rfl rfl rfl rfl ?_
                    refine x_ifeq (p' := 104) hC rfl rfl (fun c => absurd c (by decide)) (fun _ => ?_)
                    refine x_1 (p' := 105) hC rfl rfl rfl rfl ?_
                    refine x_ifgt (p' := 106) hC rfl rfl (fun c105 => ?_) (fun c105 => ?_)
                    · refine x_1 (p' := 115) hC rfl rfl rfl rfl ?_
                      refine x_1 (p' := 117) hC rfl rfl rfl rfl ?_
                      refine x_stI4 (p' := 118) hC rfl rfl rfl ?_
                      refine x_inc5 (p' := 119) hC rfl rfl (⟨by omega, by omega⟩) ?_
                      refine x_1 (p' := 38) hC rfl rfl rfl rfl ?_
                      exact ih (i + 1) h S _ _ _ (by omega) W hB hX (by omega)
                    · refine x_1 (p' := 107) hC rfl rfl rfl rfl ?_
                      refine x_ifne (p' := 108) hC rfl rfl (fun c107 => ?_) (fun c107 => ?_)
                      · exact absurd (hz (by omega)) c107
                      · refine x_1 (p' := 109) hC rfl rfl rfl rfl ?_
                        refine x_1 (p' := 110) hC rfl rfl rfl rfl ?_
                        refine x_1 (p' := 111) hC rfl rfl rfl rfl ?_
                        refine x_1 (p' := 112) hC rfl rfl rfl rfl ?_
                        refine x_cIV3 (p' := 113) (n := 174) hC rfl rfl rfl rfl rfl (W.ty) ?_
                        have i0 : i = 0 := by omega
                        have e0 : cStart (kR R g) 0 = 0 := start_0 (by omega)
                        have hBo := hB
                        have e := slot_in hB.1 hg (k := 0) (by omega) (by omega)
                        refine rw_slotAt W hB.1 (by omega) (fun h S W x => ?_)
                        rw [e.2.2.2.2.2]
                        have hX := hX.trans x
                        have hB := hB.sx x
                        rw [e0]
                        have nw := (nrdy0 hBo.2.1 (by omega)).2
                        refine x_ifle (p' := 114) hC rfl rfl (fun c113 => ?_) (fun c113 => ?_)
                        · exact absurd c113 (by omega)
                        · refine x_1 (p' := 115) hC rfl rfl rfl rfl ?_
                          refine x_1 (p' := 117) hC rfl rfl rfl rfl ?_
                          refine x_stI4 (p' := 118) hC rfl rfl rfl ?_
                          refine x_inc5 (p' := 119) hC rfl rfl (⟨by omega, by omega⟩) ?_
                          refine x_1 (p' := 38) hC rfl rfl rfl rfl ?_
                          exact ih (i + 1) h S _ _ _ (by omega) W hB hX (by omega)
              · refine x_1 (p' := 75) hC rfl rfl rfl rfl ?_
                refine x_1 (p' := 76) hC rfl rfl rfl rfl ?_
                refine x_1 (p' := 77) hC rfl rfl rfl rfl ?_
                refine x_1 (p' := 78) hC rfl rfl rfl rfl ?_
                refine x_1 (p' := 79) hC rfl rfl rfl rfl ?_
                refine x_sub (p' := 80) hC rfl rfl rfl (⟨by omega, by omega⟩) ?_
                refine x_1 (p' := 81) hC rfl rfl rfl rfl ?_
                refine x_cIV3 (p' := 82) (n := 174) hC rfl rfl rfl rfl rfl (W.ty) ?_
                have e := slot_in hB.1 hg (k := i - 1) (by omega) (by omega)
                refine rw_slotAt W hB.1 (by omega) (fun h S W x => ?_)
                rw [e.2.1]
                have hX := hX.trans x
                have hB := hB.sx x
                refine x_icle (p' := 83) hC rfl rfl (fun c82 => ?_) (fun c82 => ?_)
                · exact absurd c82 (by have := start_lt srt (k := i) (by omega) hi; omega)
                · refine x_1 (p' := 84) hC rfl rfl rfl rfl ?_
                  refine x_1 (p' := 85) hC rfl rfl rfl rfl ?_
                  refine x_1 (p' := 86) hC rfl rfl rfl rfl ?_
                  refine x_1 (p' := 87) hC rfl rfl rfl rfl ?_
                  refine x_cIV3 (p' := 88) (n := 174) hC rfl rfl rfl rfl rfl (W.ty) ?_
                  have e := slot_in hB.1 hg (k := i) (by omega) (by omega)
                  refine rw_slotAt W hB.1 (by omega) (fun h S W x => ?_)
                  rw [e.2.2.2.1]
                  have hX := hX.trans x
                  have hB := hB.sx x
                  refine x_ifle (p' := 89) hC rfl rfl (fun c88 => ?_) (fun c88 => ?_)
                  · exact absurd c88 (by have := cEnd_rng (L := kR R g) hs.1 hs.2; omega)
                  · refine x_1 (p' := 90) hC rfl rfl rfl rfl ?_
                    refine x_1 (p' := 91) hC rfl rfl rfl rfl ?_
                    refine x_1 (p' := 92) hC rfl rfl rfl rfl ?_
                    refine x_1 (p' := 93) hC rfl rfl rfl rfl ?_
                    refine x_cIV3 (p' := 94) (n := 174) hC rfl rfl rfl rfl rfl (W.ty) ?_
                    have e := slot_in hB.1 hg (k := i) (by omega) (by omega)
                    refine rw_slotAt W hB.1 (by omega) (fun h S W x => ?_)
                    rw [e.2.2.1]
                    have hX := hX.trans x
                    have hB := hB.sx x
                    refine x_1 (p' := 95) hC rfl rfl rfl rfl ?_
                    refine x_1 (p' := 96) hC rfl rfl rfl rfl ?_
                    refine x_cIV1 (p' := 97) (n := 180) hC rfl rfl rfl rfl rfl (W.ty) ?_
                    refine rw_count W hB.1.1.1.ci (by decide) ?_
                    rw [show cTot S 2 = cT S 6 from rfl]
                    refine x_icgt (p' := 98) hC rfl rfl (fun c97 => ?_) (fun c97 => ?_)
                    · exact absurd c97 (by have := (slot_kep hB.1 hg hs).2.2.2.1; omega)
                    · refine x_1 (p' := 99) hC rfl rfl rfl rfl ?_
                      refine x_1 (p' := 101) hC rfl rfl rfl rfl ?_
                      refine x_stI4 (p' := 102) hC rfl rfl rfl ?_
                      refine x_1 (p' := 103) hC rfl rfl rfl rfl ?_
                      refine x_ifeq (p' := 104) hC rfl rfl (fun c => absurd c (by decide)) (fun _ => ?_)
                      refine x_1 (p' := 105) hC rfl rfl rfl rfl ?_
                      refine x_ifgt (p' := 106) hC rfl rfl (fun c105 => ?_) (fun c105 => ?_)
                      · refine x_1 (p' := 115) hC rfl rfl rfl rfl ?_
                        refine x_1 (p' := 117) hC rfl rfl rfl rfl ?_
                        refine x_stI4 (p' := 118) hC rfl rfl rfl ?_
                        refine x_inc5 (p' := 119) hC rfl rfl (⟨by omega, by omega⟩) ?_
                        refine x_1 (p' := 38) hC rfl rfl rfl rfl ?_
                        exact ih (i + 1) h S _ _ _ (by omega) W hB hX (by omega)
                      · refine x_1 (p' := 107) hC rfl rfl rfl rfl ?_
                        refine x_ifne (p' := 108) hC rfl rfl (fun c107 => ?_) (fun c107 => ?_)
                        · exact absurd (hz (by omega)) c107
                        · refine x_1 (p' := 109) hC rfl rfl rfl rfl ?_
                          refine x_1 (p' := 110) hC rfl rfl rfl rfl ?_
                          refine x_1 (p' := 111) hC rfl rfl rfl rfl ?_
                          refine x_1 (p' := 112) hC rfl rfl rfl rfl ?_
                          refine x_cIV3 (p' := 113) (n := 174) hC rfl rfl rfl rfl rfl (W.ty) ?_
                          have i0 : i = 0 := by omega
                          have e0 : cStart (kR R g) 0 = 0 := start_0 (by omega)
                          have hBo := hB
                          have e := slot_in hB.1 hg (k := 0) (by omega) (by omega)
                          refine rw_slotAt W hB.1 (by omega) (fun h S W x => ?_)
                          rw [e.2.2.2.2.2]
                          have hX := hX.trans x
                          have hB := hB.sx x
                          rw [e0]
                          have nw := (nrdy0 hBo.2.1 (by omega)).2
                          refine x_ifle (p' := 114) hC rfl rfl (fun c113 => ?_) (fun c113 => ?_)
                          · exact absurd c113 (by omega)
                          · refine x_1 (p' := 115) hC rfl rfl rfl rfl ?_
                            refine x_1 (p' := 117) hC rfl rfl rfl rfl ?_
                            refine x_stI4 (p' := 118) hC rfl rfl rfl ?_
                            refine x_inc5 (p' := 119) hC rfl rfl (⟨by omega, by omega⟩) ?_
                            refine x_1 (p' := 38) hC rfl rfl rfl rfl ?_
                            exact ih (i + 1) h S _ _ _ (by omega) W hB hX (by omega)
        refine x_1 (p' := 60) hC rfl rfl rfl rfl ?_
        refine x_icne (p' := 61) hC rfl rfl (fun c60 => ?_) (fun c60 => ?_)
        · refine x_1 (p' := 64) hC rfl rfl rfl rfl ?_
          exact J 0 (fun _ => rfl)
        · refine x_1 (p' := 62) hC rfl rfl rfl rfl ?_
          refine x_1 (p' := 64) hC rfl rfl rfl rfl ?_
          exact J 1 (fun w => by have := hz w; omega)
set_option maxRecDepth 20000 in
theorem sp_L_hubs {L : Nat} {xs : Nat → Int32} {b : Prop} {tm ou n : Int} {d : Nat} {h : HP} {S : Nat → Int → Int} {R : Nat → List FV} (W : RW L xs b tm ou h S R) (hI : IvvN n S R) {g : Int} (hg : 0 ≤ g ∧ g < 4) (hn : n ≤ 100) (hr : ¬ cReady S R g) {Q : Int → HP → Prop} (K : ∀ H S2, RW L xs b tm ou H S2 R → SX S S2 → Q 1 H) : CaI (d + 8) 3 [.inr (some 3), .inl g] h Q := by
  have hC : cod 3 = c_L_hubs := rfl
  refine CaI.start rfl ?_
  have lt := (hI.1.2.2.1 g hg.1 hg.2).2.2.2.2
  obtain ⟨last, hl⟩ : ∃ last, last = (if cH S g 8 = -1 then -1000004 else cH S g 8) := ⟨_, rfl⟩
  have hB : HubB n S R g last := by
    refine ⟨hI, hr, ?_⟩
    rcases lt with z | z
    · exact Or.inl ⟨z.1, z.2, by rw [hl, if_pos z.1]⟩
    · exact Or.inr ⟨z.1, z.2.2.1, by rw [hl, if_neg (by omega)]⟩
  have hlast := hB.2.2
  have hX : SX S S := SX.refl
  have cr := cSlots_rng (L := kR R g)
  have ln : (kR R g).length ≤ TKR R := TKR_le hg
  have tn := hI.2.2.1.1
  refine x_1 (p' := 1) hC rfl rfl rfl rfl ?_
  refine x_1 (p' := 2) hC rfl rfl rfl rfl ?_
  refine x_1 (p' := 3) hC rfl rfl rfl rfl ?_
  refine x_cIV2 (p' := 4) (n := 169) hC rfl rfl rfl rfl rfl (W.ty) ?_
  refine rw_hubOf W hB.1.1.1.ci ?_
  rw [(hub_is hB.1 hg).1]
  refine x_stI2 (p' := 5) hC rfl rfl rfl ?_
  refine x_1 (p' := 6) hC rfl rfl rfl rfl ?_
  refine x_1 (p' := 7) hC rfl rfl rfl rfl ?_
  refine x_1 (p' := 8) hC rfl rfl rfl rfl ?_
  refine x_cIV2 (p' := 9) (n := 169) hC rfl rfl rfl rfl rfl (W.ty) ?_
  refine rw_hubOf W hB.1.1.1.ci ?_
  rw [(hub_is hB.1 hg).2.1, ← hl]
  refine x_stI3 (p' := 10) hC rfl rfl rfl ?_
  refine x_1 (p' := 11) hC rfl rfl rfl rfl ?_
  refine x_ldc (p' := 12) (v := (-1000004)) hC rfl rfl (by decide) ?_
  refine x_icne (p' := 13) hC rfl rfl (fun c12 => ?_) (fun c12 => ?_)
  · refine x_1 (p' := 16) hC rfl rfl rfl rfl ?_
    refine x_1 (p' := 17) hC rfl rfl rfl rfl ?_
    refine x_1 (p' := 18) hC rfl rfl rfl rfl ?_
    refine x_1 (p' := 19) hC rfl rfl rfl rfl ?_
    refine x_cIV2 (p' := 20) (n := 169) hC rfl rfl rfl rfl rfl (W.ty) ?_
    refine rw_hubOf W hB.1.1.1.ci ?_
    rw [(hub_is hB.1 hg).2.2.1]
    refine x_ifne (p' := 21) hC rfl rfl (fun c20 => ?_) (fun c20 => ?_)
    · refine x_1 (p' := 24) hC rfl rfl rfl rfl ?_
      refine x_icne (p' := 25) hC rfl rfl (fun c24 => ?_) (fun c24 => ?_)
      · exact absurd c24 (by omega)
      · refine x_1 (p' := 26) hC rfl rfl rfl rfl ?_
        refine x_1 (p' := 27) hC rfl rfl rfl rfl ?_
        refine x_1 (p' := 28) hC rfl rfl rfl rfl ?_
        refine x_1 (p' := 29) hC rfl rfl rfl rfl ?_
        refine x_cIV3 (p' := 30) (n := 174) hC rfl rfl rfl rfl rfl (W.ty) ?_
        have e := slot_no hB.1 hg
        refine rw_slotAt W hB.1 (by omega) (fun h S W x => ?_)
        rw [e]
        have hX := hX.trans x
        have hB := hB.sx x
        refine x_ldc (p' := 31) (v := (-1000004)) hC rfl rfl (by decide) ?_
        refine x_icne (p' := 32) hC rfl rfl (fun c31 => ?_) (fun c31 => ?_)
        · exact absurd rfl c31
        · refine x_1 (p' := 33) hC rfl rfl rfl rfl ?_
          refine x_1 (p' := 35) hC rfl rfl rfl rfl ?_
          refine x_stI4 (p' := 36) hC rfl rfl rfl ?_
          refine x_1 (p' := 37) hC rfl rfl rfl rfl ?_
          refine x_stI5 (p' := 38) hC rfl rfl rfl ?_
          exact lp_hubs (n := n) hg hn K _ 0 h S none none none (Nat.lt_succ_self _) W hB hX ⟨by decide, cr.1⟩
    · refine x_1 (p' := 22) hC rfl rfl rfl rfl ?_
      refine x_1 (p' := 24) hC rfl rfl rfl rfl ?_
      refine x_icne (p' := 25) hC rfl rfl (fun c24 => ?_) (fun c24 => ?_)
      · exact absurd c24 (by omega)
      · refine x_1 (p' := 26) hC rfl rfl rfl rfl ?_
        refine x_1 (p' := 27) hC rfl rfl rfl rfl ?_
        refine x_1 (p' := 28) hC rfl rfl rfl rfl ?_
        refine x_1 (p' := 29) hC rfl rfl rfl rfl ?_
        refine x_cIV3 (p' := 30) (n := 174) hC rfl rfl rfl rfl rfl (W.ty) ?_
        have e := slot_no hB.1 hg
        refine rw_slotAt W hB.1 (by omega) (fun h S W x => ?_)
        rw [e]
        have hX := hX.trans x
        have hB := hB.sx x
        refine x_ldc (p' := 31) (v := (-1000004)) hC rfl rfl (by decide) ?_
        refine x_icne (p' := 32) hC rfl rfl (fun c31 => ?_) (fun c31 => ?_)
        · exact absurd rfl c31
        · refine x_1 (p' := 33) hC rfl rfl rfl rfl ?_
          refine x_1 (p' := 35) hC rfl rfl rfl rfl ?_
          refine x_stI4 (p' := 36) hC rfl rfl rfl ?_
          refine x_1 (p' := 37) hC rfl rfl rfl rfl ?_
          refine x_stI5 (p' := 38) hC rfl rfl rfl ?_
          exact lp_hubs (n := n) hg hn K _ 0 h S none none none (Nat.lt_succ_self _) W hB hX ⟨by decide, cr.1⟩
  · refine x_1 (p' := 14) hC rfl rfl rfl rfl ?_
    refine x_1 (p' := 16) hC rfl rfl rfl rfl ?_
    refine x_1 (p' := 17) hC rfl rfl rfl rfl ?_
    refine x_1 (p' := 18) hC rfl rfl rfl rfl ?_
    refine x_1 (p' := 19) hC rfl rfl rfl rfl ?_
    refine x_cIV2 (p' := 20) (n := 169) hC rfl rfl rfl rfl rfl (W.ty) ?_
    refine rw_hubOf W hB.1.1.1.ci ?_
    rw [(hub_is hB.1 hg).2.2.1]
    refine x_ifne (p' := 21) hC rfl rfl (fun c20 => ?_) (fun c20 => ?_)
    · refine x_1 (p' := 24) hC rfl rfl rfl rfl ?_
      refine x_icne (p' := 25) hC rfl rfl (fun c24 => ?_) (fun c24 => ?_)
      · exact absurd c24 (by omega)
      · refine x_1 (p' := 26) hC rfl rfl rfl rfl ?_
        refine x_1 (p' := 27) hC rfl rfl rfl rfl ?_
        refine x_1 (p' := 28) hC rfl rfl rfl rfl ?_
        refine x_1 (p' := 29) hC rfl rfl rfl rfl ?_
        refine x_cIV3 (p' := 30) (n := 174) hC rfl rfl rfl rfl rfl (W.ty) ?_
        have e := slot_no hB.1 hg
        refine rw_slotAt W hB.1 (by omega) (fun h S W x => ?_)
        rw [e]
        have hX := hX.trans x
        have hB := hB.sx x
        refine x_ldc (p' := 31) (v := (-1000004)) hC rfl rfl (by decide) ?_
        refine x_icne (p' := 32) hC rfl rfl (fun c31 => ?_) (fun c31 => ?_)
        · exact absurd rfl c31
        · refine x_1 (p' := 33) hC rfl rfl rfl rfl ?_
          refine x_1 (p' := 35) hC rfl rfl rfl rfl ?_
          refine x_stI4 (p' := 36) hC rfl rfl rfl ?_
          refine x_1 (p' := 37) hC rfl rfl rfl rfl ?_
          refine x_stI5 (p' := 38) hC rfl rfl rfl ?_
          exact lp_hubs (n := n) hg hn K _ 0 h S none none none (Nat.lt_succ_self _) W hB hX ⟨by decide, cr.1⟩
    · refine x_1 (p' := 22) hC rfl rfl rfl rfl ?_
      refine x_1 (p' := 24) hC rfl rfl rfl rfl ?_
      refine x_icne (p' := 25) hC rfl rfl (fun c24 => ?_) (fun c24 => ?_)
      · exact absurd c24 (by omega)
      · refine x_1 (p' := 26) hC rfl rfl rfl rfl ?_
        refine x_1 (p' := 27) hC rfl rfl rfl rfl ?_
        refine x_1 (p' := 28) hC rfl rfl rfl rfl ?_
        refine x_1 (p' := 29) hC rfl rfl rfl rfl ?_
        refine x_cIV3 (p' := 30) (n := 174) hC rfl rfl rfl rfl rfl (W.ty) ?_
        have e := slot_no hB.1 hg
        refine rw_slotAt W hB.1 (by omega) (fun h S W x => ?_)
        rw [e]
        have hX := hX.trans x
        have hB := hB.sx x
        refine x_ldc (p' := 31) (v := (-1000004)) hC rfl rfl (by decide) ?_
        refine x_icne (p' := 32) hC rfl rfl (fun c31 => ?_) (fun c31 => ?_)
        · exact absurd rfl c31
        · refine x_1 (p' := 33) hC rfl rfl rfl rfl ?_
          refine x_1 (p' := 35) hC rfl rfl rfl rfl ?_
          refine x_stI4 (p' := 36) hC rfl rfl rfl ?_
          refine x_1 (p' := 37) hC rfl rfl rfl rfl ?_
          refine x_stI5 (p' := 38) hC rfl rfl rfl ?_
          exact lp_hubs (n := n) hg hn K _ 0 h S none none none (Nat.lt_succ_self _) W hB hX ⟨by decide, cr.1⟩

/-! THE CLASS: its face, what is foretold and done -/
def sw45 (r : Nat) : Nat := if r = 4 then 5 else if r = 5 then 4 else r
theorem sw45_lt {r : Nat} (hr : r < 6) : sw45 r < 6 := by
  unfold sw45
  repeat' split
  all_goals omega
theorem sw45_in {r q : Nat} (e : sw45 r = sw45 q) : r = q := by
  unfold sw45 at e
  repeat' split at e
  all_goals omega
set_option maxRecDepth 20000 in
set_option maxHeartbeats 2000000 in
theorem sp_P_fault {d : Nat} {h : HP} {o : Nat → Nat} {w : Nat → Nat × Nat} {tr : Nat → Nat} {S : Nat → Nat → Int → Int} {R : Nat → Nat → List FV} {st : Int} {U0 : Nat} (G : GP U0 h o w tr S R st) {L A C D B E : Int} {tx nu : Int → Int} (hO : OT h h L A C D B E tx nu) (hL : 0 ≤ L ∧ L ≤ 60) (htx : ∀ j, 0 ≤ j → j < L → 32 ≤ tx j ∧ tx j ≤ 126) {PF : Int → Int → (Nat → Int → Int) → (Nat → List FV) → Prop} (hF : ∀ a n S R, PF a n S R → CI S ∧ 0 ≤ cT S 6 ∧ cT S 6 ≤ 50000) (hM : ∀ a n S R n0 n1 n2 nx, PF a n S R → OrdIs tx L a 109 n0 n1 n2 nx → cDep S n0 n1 n2 0 1 = 0 → PF nx (n + 1) (upX (upX (upF S 6 (cDpV S n0 n1 n2 0 1)) 3 1 (((R 3).length : Nat) + 1)) (46 + n0.toNat) 3 (wr (cU S n0 3 + 1))) (upR R 3 (insA (R 3) ((R 3).length : Nat) (cDpV S n0 n1 n2 0 1)))) (hX : ∀ a n S R n0 n1 n2 nx, PF a n S R → OrdIs tx L a 120 n0 n1 n2 nx → cRet S n0 = 0 → PF nx (n + 1) (upX S (46 + n0.toNat) 2 1) R) (hW : ∀ a n S R n0 n1 n2 nx, PF a n S R → OrdIs tx L a 112 n0 n1 n2 nx → cEla S n0 = 0 → ∀ {h : HP} {o : Nat → Nat} {w : Nat → Nat × Nat} {Q : HP → Prop}, TR (tr 5) h o w S R → (∀ H' o' w' S' R', ExtT h o w (tr 5) H' o' w' → TR (tr 5) H' o' w' S' R' → PF nx (n + 1) S' R' → Q H') → CaV (d + 5) 134 [.inr (some (tr 5)), .inl n0] h Q) (hc : CI (S 4)) (h7 : 0 ≤ cT (S 4) 7) (hb : ∀ u : Int, 0 ≤ u → u < cT (S 4) 5 → 0 ≤ cU (S 4) u 2 ∧ cU (S 4) u 2 ≤ 1) (h0 : ∀ S1 R1, CQ (R 5) (S 4) (R 4) S1 R1 → CntR S1 R1 → PF 0 0 S1 R1) {v : Int} {Q : Int → HP → Prop} (KA : ¬ (0 ≤ v ∧ v ≤ 1) → Q (-1000001) h) (K0 : (0 ≤ v ∧ v ≤ 1) → ∀ H o' w' S1 R1 a n C B nu, GP U0 H o' w' tr (upG S 5 S1) (upG R 5 R1) st → CR h H → OT H H L a C n B 0 tx nu → PF a n S1 R1 → L ≤ a → Q (-1000004) H) (KF : (0 ≤ v ∧ v ≤ 1) → ∀ H o' w' S1 R1 a n C A nu r, GP U0 H o' w' tr (upG S 5 S1) (upG R 5 R1) st → CR h H → OT H H L A C n a r tx nu → PF a n S1 R1 → 0 ≤ a → a < L → ((r = 1 ∧ ∀ n0 n1 n2 nx, ¬ OrdIs tx L a (tx a) n0 n1 n2 nx) ∨ (r = 2 ∧ ∃ n0 n1 n2 nx, OrdIs tx L a (tx a) n0 n1 n2 nx ∧ ¬ tx a = 112 ∧ ¬ cUnit S1 n0) ∨ (r = 3 ∧ ∃ n0 n1 n2 nx, OrdIs tx L a (tx a) n0 n1 n2 nx ∧ (¬ tx a = 112 → cUnit S1 n0) ∧ ¬ cOE S1 (tx a) n0 n1 n2 = 0))  → Q (if v = 0 then a else r) H) : CaI (d + 7) 184 [.inr (some 3), .inl v] h Q := by
  have hC : cod 184 = c_P_fault := rfl
  refine CaI.start rfl ?_
  obtain ⟨g3, g4, r0, r1, r2, r3, gs, gst, gh⟩ := G.face
  refine x_1 (p' := 1) hC rfl rfl rfl rfl ?_
  refine x_1 (p' := 2) hC rfl rfl rfl rfl ?_
  refine x_1 (p' := 3) hC rfl rfl rfl rfl ?_
  refine x_cIS3 (p' := 4) (n := 187) hC rfl rfl rfl rfl rfl ?_
  refine sp_P_isWithin ?_
  refine x_ifne (p' := 5) hC rfl rfl (fun c4 => ?_) (fun c4 => ?_)
  · have c4 := b2i_n0.mp c4
    refine x_1 (p' := 8) hC rfl rfl rfl rfl ?_
    refine x_getR (p' := 9) hC rfl rfl rfl g3 r1 ?_
    refine x_1 (p' := 10) hC rfl rfl rfl rfl ?_
    refine x_getR (p' := 11) hC rfl rfl rfl g3 r3 ?_
    refine x_1 (p' := 12) hC rfl rfl rfl rfl ?_
    refine x_getR (p' := 13) hC rfl rfl rfl g3 r2 ?_
    refine x_cVV2 (p' := 14) (n := 158) hC rfl rfl rfl rfl rfl (hO.ty) ?_
    refine sp_O_perform (tr := tr) hL htx G hO hF hM hX hW hc h7 hb h0 (fun H1 o1 w1 S1 R1 a n C1 B1 nu1 G1 C1r hO hp hLa => ?_) (fun H1 o1 w1 S1 R1 a n C1 A1 nu1 r G1 C1r hO hp ha0 haL hcond => ?_)
    · obtain ⟨g3, g4, r0, r1, r2, r3, gs, gst, gh⟩ := G1.face
      refine x_1 (p' := 15) hC rfl rfl rfl rfl ?_
      refine x_getR (p' := 16) hC rfl rfl rfl g3 r1 ?_
      refine z_og7 (p' := 17) hO hC rfl rfl ?_
      refine x_ifne (p' := 18) hC rfl rfl (fun c => absurd rfl c) (fun _ => ?_)
      refine x_ldc (p' := 19) (v := -1000004) hC rfl rfl (by decide) ?_
      refine x_iret hC rfl rfl rfl ⟨_, rfl, ?_⟩
      exact K0 c4 _ _ _ _ _ _ _ _ _ _ G1 C1r hO hp hLa
    · obtain ⟨g3, g4, r0, r1, r2, r3, gs, gst, gh⟩ := G1.face
      have hr0 : ¬ r = 0 := by rcases hcond with q | q | q <;> omega
      have KF := KF c4 _ _ _ _ _ _ _ _ _ _ _ G1 C1r hO hp ha0 haL hcond
      refine x_1 (p' := 15) hC rfl rfl rfl rfl ?_
      refine x_getR (p' := 16) hC rfl rfl rfl g3 r1 ?_
      refine z_og7 (p' := 17) hO hC rfl rfl ?_
      refine x_ifne (p' := 18) hC rfl rfl (fun _ => ?_) (fun c => absurd c hr0)
      refine x_1 (p' := 21) hC rfl rfl rfl rfl ?_
      refine x_ifne (p' := 22) hC rfl rfl (fun cv => ?_) (fun cv => ?_)
      · refine x_1 (p' := 27) hC rfl rfl rfl rfl ?_
        refine x_getR (p' := 28) hC rfl rfl rfl g3 r1 ?_
        refine z_og7 (p' := 29) hO hC rfl rfl ?_
        refine x_iret hC rfl rfl rfl ⟨_, rfl, ?_⟩
        rw [if_neg cv] at KF
        exact KF
      · refine x_1 (p' := 23) hC rfl rfl rfl rfl ?_
        refine x_getR (p' := 24) hC rfl rfl rfl g3 r1 ?_
        refine z_og6 (p' := 25) hO hC rfl rfl ?_
        refine x_1 (p' := 29) hC rfl rfl rfl rfl ?_
        refine x_iret hC rfl rfl rfl ⟨_, rfl, ?_⟩
        rw [if_pos cv] at KF
        exact KF
  · have c4 := b2i_0.mp c4
    refine x_ldc (p' := 6) (v := -1000001) hC rfl rfl (by decide) ?_
    refine x_iret hC rfl rfl rfl ⟨_, rfl, ?_⟩
    exact KA c4
set_option maxRecDepth 20000 in
set_option maxHeartbeats 2000000 in
theorem sp_P_play {d : Nat} {h : HP} {o : Nat → Nat} {w : Nat → Nat × Nat} {tr : Nat → Nat} {S : Nat → Nat → Int → Int} {R : Nat → Nat → List FV} {st : Int} {U0 : Nat} (G : GP U0 h o w tr S R st) {L A C D B E : Int} {tx nu : Int → Int} (hO : OT h h L A C D B E tx nu) (hL : 0 ≤ L ∧ L ≤ 60) (htx : ∀ j, 0 ≤ j → j < L → 32 ≤ tx j ∧ tx j ≤ 126) {PF : Int → Int → (Nat → Int → Int) → (Nat → List FV) → Prop} (hF : ∀ a n S R, PF a n S R → CI S ∧ 0 ≤ cT S 6 ∧ cT S 6 ≤ 50000) (hM : ∀ a n S R n0 n1 n2 nx, PF a n S R → OrdIs tx L a 109 n0 n1 n2 nx → cDep S n0 n1 n2 0 1 = 0 → PF nx (n + 1) (upX (upX (upF S 6 (cDpV S n0 n1 n2 0 1)) 3 1 (((R 3).length : Nat) + 1)) (46 + n0.toNat) 3 (wr (cU S n0 3 + 1))) (upR R 3 (insA (R 3) ((R 3).length : Nat) (cDpV S n0 n1 n2 0 1)))) (hX : ∀ a n S R n0 n1 n2 nx, PF a n S R → OrdIs tx L a 120 n0 n1 n2 nx → cRet S n0 = 0 → PF nx (n + 1) (upX S (46 + n0.toNat) 2 1) R) (hW : ∀ a n S R n0 n1 n2 nx, PF a n S R → OrdIs tx L a 112 n0 n1 n2 nx → cEla S n0 = 0 → ∀ {h : HP} {o : Nat → Nat} {w : Nat → Nat × Nat} {Q : HP → Prop}, TR (tr 5) h o w S R → (∀ H' o' w' S' R', ExtT h o w (tr 5) H' o' w' → TR (tr 5) H' o' w' S' R' → PF nx (n + 1) S' R' → Q H') → CaV (d + 5) 134 [.inr (some (tr 5)), .inl n0] h Q) (hc : CI (S 4)) (h7 : 0 ≤ cT (S 4) 7) (hb : ∀ u : Int, 0 ≤ u → u < cT (S 4) 5 → 0 ≤ cU (S 4) u 2 ∧ cU (S 4) u 2 ≤ 1) (h0 : ∀ S1 R1, CQ (R 5) (S 4) (R 4) S1 R1 → CntR S1 R1 → PF 0 0 S1 R1) {Q : Int → HP → Prop} (KF : ∀ H o' w' S1 R1 a n C A nu r, GP U0 H o' w' tr (upG S 5 S1) (upG R 5 R1) st → CR h H → OT H H L A C n a r tx nu → PF a n S1 R1 → 0 ≤ a → a < L → ((r = 1 ∧ ∀ n0 n1 n2 nx, ¬ OrdIs tx L a (tx a) n0 n1 n2 nx) ∨ (r = 2 ∧ ∃ n0 n1 n2 nx, OrdIs tx L a (tx a) n0 n1 n2 nx ∧ ¬ tx a = 112 ∧ ¬ cUnit S1 n0) ∨ (r = 3 ∧ ∃ n0 n1 n2 nx, OrdIs tx L a (tx a) n0 n1 n2 nx ∧ (¬ tx a = 112 → cUnit S1 n0) ∧ ¬ cOE S1 (tx a) n0 n1 n2 = 0))  → Q (-1000002) H) (K2 : ∀ H o' w' (tr' : Nat → Nat) (S' : Nat → Nat → Int → Int) (R' : Nat → Nat → List FV) st' S1 R1 a n C B nu, GP U0 H o' w' (fun r => tr' (sw45 r)) (fun r => S' (sw45 r)) (fun r => R' (sw45 r)) st' → CR h H → OT H H L a C n B 0 tx nu → RemP st (upG S 5 S1) (upG R 5 R1) S' R' st' → PF a n S1 R1 → L ≤ a → Q n H) : CaI (d + 7) 185 [.inr (some 3)] h Q := by
  have hC : cod 185 = c_P_play := rfl
  refine CaI.start rfl ?_
  obtain ⟨g3, g4, r0, r1, r2, r3, gs, gst, gh⟩ := G.face
  refine x_1 (p' := 1) hC rfl rfl rfl rfl ?_
  refine x_getR (p' := 2) hC rfl rfl rfl g3 r1 ?_
  refine x_1 (p' := 3) hC rfl rfl rfl rfl ?_
  refine x_getR (p' := 4) hC rfl rfl rfl g3 r3 ?_
  refine x_1 (p' := 5) hC rfl rfl rfl rfl ?_
  refine x_getR (p' := 6) hC rfl rfl rfl g3 r2 ?_
  refine x_cVV2 (p' := 7) (n := 158) hC rfl rfl rfl rfl rfl (hO.ty) ?_
  refine sp_O_perform (tr := tr) hL htx G hO hF hM hX hW hc h7 hb h0 (fun H1 o1 w1 S1 R1 a n C1 B1 nu1 G1 C1r hO hp hLa => ?_) (fun H1 o1 w1 S1 R1 a n C1 A1 nu1 r G1 C1r hO hp ha0 haL hcond => ?_)
  · obtain ⟨g3, g4, r0, r1, r2, r3, gs, gst, gh⟩ := G1.face
    refine x_1 (p' := 8) hC rfl rfl rfl rfl ?_
    refine x_getR (p' := 9) hC rfl rfl rfl g3 r1 ?_
    refine z_og7 (p' := 10) hO hC rfl rfl ?_
    refine x_ifeq (p' := 11) hC rfl rfl (fun _ => ?_) (fun c => absurd rfl c)
    refine x_1 (p' := 14) hC rfl rfl rfl rfl ?_
    refine x_cVV0 (p' := 15) (n := 186) hC rfl rfl rfl rfl rfl g3 ?_
    have e4 : upG S 5 S1 4 = S 4 := upG_ne (by decide)
    refine sp_P_remember G1 (by rw [e4]; have := hc.1; omega) (by rw [e4]; exact hc.2.1) (by rw [e4]; exact h7) (by rw [e4]; exact hb) (fun H2 o2 w2 tr2 S2 R2 st2 G2 C2 hrm t42 t52 => ?_)
    have hO := hO.ck C2
    obtain ⟨g3, g4, r0, r1, r2, r3, gs, gst, gh⟩ := G2.face
    refine x_1 (p' := 16) hC rfl rfl rfl rfl ?_
    refine x_getR (p' := 17) hC rfl rfl rfl g3 r3 ?_
    refine x_stA1 (p' := 18) hC rfl rfl rfl ?_
    refine x_1 (p' := 19) hC rfl rfl rfl rfl ?_
    refine x_1 (p' := 20) hC rfl rfl rfl rfl ?_
    refine x_getR (p' := 21) hC rfl rfl rfl g3 r2 ?_
    refine x_putR (p' := 22) hC rfl rfl rfl g3 (by decide) ?_
    refine x_1 (p' := 23) hC rfl rfl rfl rfl ?_
    refine x_1 (p' := 24) hC rfl rfl rfl rfl ?_
    refine x_putR (p' := 25) hC rfl rfl rfl g3 (by decide) ?_
    obtain ⟨H3, hH3⟩ : ∃ H3, H3 = sR (sR H2 3 ((3 : Nat) : Int) (some (tr2 4))) 3 ((2 : Nat) : Int) (some (tr2 5)) := ⟨_, rfl⟩
    refine At.heap (h' := H3) hH3.symm ?_
    have hr3 : ∀ k : Int, k ≠ 2 → k ≠ 3 → hR H3 3 k = hR H2 3 k := fun k h2 h3 => by rw [hH3, hR_sR, if_neg (fun q => h2 q.2), hR_sR, if_neg (fun q => h3 q.2)]
    have hrn : ∀ b, b ≠ 3 → hR H3 b = hR H2 b := fun b hb => by rw [hH3, hR_sR_ne hb, hR_sR_ne hb]
    have r13 : hR H3 3 1 = some 5 := by rw [hr3 1 (by decide) (by decide)]; exact r1
    have g33 : (hTy H3 3).1 = 6 + 1 := by rw [hH3]; exact g3
    have G3 : GP U0 H3 o2 w2 (fun r => tr2 (sw45 r)) (fun r => S2 (sw45 r)) (fun r => R2 (sw45 r)) st2 := by
      refine G2.refs (ro := sw45) (fun r hr => sw45_lt hr) (fun r q _ _ e => sw45_in e) (by rw [hH3]; rfl) (by rw [hH3]; rfl) (by rw [hH3]; rfl) (fun b _ => by rw [hH3]; rfl) (by rw [hH3]; exact gs) gst (fun b h3 h4 => hrn b h3) ⟨by rw [hr3 0 (by decide) (by decide)]; exact r0, r13, ?_, ?_⟩ (fun j hj => ?_)
      · rw [hH3]; exact hR_sR_eq
      · rw [hH3, hR_sR, if_neg (fun q => absurd q.2 (by decide))]
        exact hR_sR_eq
      · rw [hrn 4 (by decide), show sw45 j = j by unfold sw45; rw [if_neg (by omega), if_neg (by omega)]]
        exact gh j hj
    have C3 : CK H2 H3 := fun b hb => ⟨by rw [hH3]; rfl, by rw [hH3]; rfl, hrn b (by omega)⟩
    have hO := hO.ck C3
    refine x_1 (p' := 26) hC rfl rfl rfl rfl ?_
    refine x_getR (p' := 27) hC rfl rfl rfl g33 r13 ?_
    refine z_og5 (p' := 28) hO hC rfl rfl ?_
    refine x_iret hC rfl rfl rfl ⟨_, rfl, ?_⟩
    exact K2 _ _ _ _ _ _ _ _ _ _ _ _ _ _ G3 ((C1r.trans C2.cr).trans C3.cr) hO hrm hp hLa
  · obtain ⟨g3, g4, r0, r1, r2, r3, gs, gst, gh⟩ := G1.face
    have hr0 : ¬ r = 0 := by rcases hcond with q | q | q <;> omega
    refine x_1 (p' := 8) hC rfl rfl rfl rfl ?_
    refine x_getR (p' := 9) hC rfl rfl rfl g3 r1 ?_
    refine z_og7 (p' := 10) hO hC rfl rfl ?_
    refine x_ifeq (p' := 11) hC rfl rfl (fun c => absurd c hr0) (fun _ => ?_)
    refine x_ldc (p' := 12) (v := -1000002) hC rfl rfl (by decide) ?_
    refine x_iret hC rfl rfl rfl ⟨_, rfl, ?_⟩
    exact KF _ _ _ _ _ _ _ _ _ _ _ G1 C1r hO hp ha0 haL hcond
set_option maxRecDepth 20000 in
set_option maxHeartbeats 2000000 in
theorem sp_P_pass {d : Nat} {h : HP} {o : Nat → Nat} {w : Nat → Nat × Nat} {tr : Nat → Nat} {S : Nat → Nat → Int → Int} {R : Nat → Nat → List FV} {st : Int} {U0 : Nat} (G : GP U0 h o w tr S R st) (hc : CI (S 4)) (h7 : 0 ≤ cT (S 4) 7) (hb : ∀ u : Int, 0 ≤ u → u < cT (S 4) 5 → 0 ≤ cU (S 4) u 2 ∧ cU (S 4) u 2 ≤ 1) (htm : 0 ≤ cT (S 4) 6 ∧ cT (S 4) 6 ≤ 100000) {n : Int} {PT : (Nat → Int → Int) → (Nat → List FV) → Prop} (hE : cEla (S 4) n = 0 → ∀ {h : HP} {o : Nat → Nat} {w : Nat → Nat × Nat} {t : Nat} {Q : HP → Prop}, TR t h o w (S 4) (R 4) → (∀ H' o' w' S' R', ExtT h o w t H' o' w' → TR t H' o' w' S' R' → PT S' R' → Q H') → CaV (d + 6) 134 [.inr (some t), .inl n] h Q) {Q : Int → HP → Prop} (K1 : ¬ cEla (S 4) n = 0 → Q (cEla (S 4) n) h) (K2 : cEla (S 4) n = 0 → ∀ H o' w' tr' S' R' st' S2 R2, GP U0 H o' w' tr' (upG S' 4 S2) (upG R' 4 R2) st' → CK h H → RemP st S R S' R' st' → PT S2 R2 → Q (cT S2 6) H) : CaI (d + 7) 173 [.inr (some 3), .inl n] h Q := by
  have hC : cod 173 = c_P_pass := rfl
  refine CaI.start rfl ?_
  obtain ⟨g3, g4, r0, r1, r2, r3, gs, gst, gh⟩ := G.face
  have T4 := G.T (show 4 < 6 by decide)
  have hK := T4.1
  have hS := T4.2.2.1
  refine x_1 (p' := 1) hC rfl rfl rfl rfl ?_
  refine x_getR (p' := 2) hC rfl rfl rfl g3 r2 ?_
  refine x_1 (p' := 3) hC rfl rfl rfl rfl ?_
  refine x_cIV1 (p' := 4) (n := 133) hC rfl rfl rfl rfl rfl (hK.ty) ?_
  refine sp_T_elapseError hK hS htm ?_
  refine x_stI2 (p' := 5) hC rfl rfl rfl ?_
  refine x_1 (p' := 6) hC rfl rfl rfl rfl ?_
  refine x_ifeq (p' := 7) hC rfl rfl (fun c6 => ?_) (fun c6 => ?_)
  · refine x_1 (p' := 10) hC rfl rfl rfl rfl ?_
    refine x_cVV0 (p' := 11) (n := 186) hC rfl rfl rfl rfl rfl (g3) ?_
    refine sp_P_remember G (by have := hc.1; omega) hc.2.1 h7 hb (fun H1 o1 w1 tr1 S1 R1 st1 G1 C1 hrm t41 t51 => ?_)
    have hrm2 := hrm
    obtain ⟨n1, hn1, hn2, hn3, ⟨es4, er4, es5, er5⟩, hrest⟩ := hrm2
    obtain ⟨g3, g4, r0, r1, r2, r3, gs, gst, gh⟩ := G1.face
    have T4 := G1.T (show 4 < 6 by decide)
    rw [es4, er4] at T4
    have hK := T4.1
    have hS := T4.2.2.1
    refine x_1 (p' := 12) hC rfl rfl rfl rfl ?_
    refine x_getR (p' := 13) hC rfl rfl rfl g3 r2 ?_
    refine x_1 (p' := 14) hC rfl rfl rfl rfl ?_
    refine x_cVV1 (p' := 15) (n := 134) hC rfl rfl rfl rfl rfl (hK.ty) ?_
    refine hE c6 T4 (fun H2 o2 w2 S2 R2 E2 T2 hp2 => ?_)
    have G2 := G1.tree (show 4 < 6 by decide) E2 T2
    have C2 := G1.ck (show 4 < 6 by decide) E2
    obtain ⟨g3, g4, r0, r1, r2, r3, gs, gst, gh⟩ := G2.face
    have hK := T2.1
    have hS := T2.2.2.1
    refine x_1 (p' := 16) hC rfl rfl rfl rfl ?_
    refine x_getR (p' := 17) hC rfl rfl rfl g3 r2 ?_
    refine z_ti (p' := 18) (kz := 6) hK hS hC rfl rfl rfl rfl ?_
    refine x_iret hC rfl rfl rfl ⟨_, rfl, ?_⟩
    exact K2 c6 _ _ _ _ _ _ _ _ _ G2 (C1.trans C2) hrm hp2
  · refine x_1 (p' := 8) hC rfl rfl rfl rfl ?_
    refine x_iret hC rfl rfl rfl ⟨_, rfl, ?_⟩
    exact K1 c6
set_option maxRecDepth 20000 in
theorem lp_P_next {d : Nat} {h : HP} {o : Nat → Nat} {w : Nat → Nat × Nat} {tr : Nat → Nat} {S : Nat → Nat → Int → Int} {R : Nat → Nat → List FV} {st : Int} {U0 : Nat} {PN PM : Int → (Nat → Int → Int) → (Nat → List FV) → Prop} (hs : ∀ i S1 R1, PN i S1 R1 → 0 ≤ i → i < 200 → ∀ {h : HP} {o : Nat → Nat} {w : Nat → Nat × Nat} {t : Nat} {Q : HP → Prop}, TR t h o w S1 R1 → (∀ H' o' w' S' R', ExtT h o w t H' o' w' → TR t H' o' w' S' R' → PM (i + 1) S' R' → Q H') → CaV (d + 6) 134 [.inr (some t), .inl 1] h Q) (hn : ∀ i S1 R1, PM i S1 R1 → ¬ cT (S 4) 7 < cT S1 7 → PN i S1 R1) {Q : Int → HP → Prop} (K1 : ∀ i S1 R1, PM i S1 R1 → cT (S 4) 7 < cT S1 7 → 1 ≤ i → i ≤ 200 → ∀ H o' w', GP U0 H o' w' tr (upG S 5 S1) (upG R 5 R1) st → CK h H → Q i H) (K2 : ∀ S1 R1, PN 200 S1 R1 → ∀ H o' w', GP U0 H o' w' tr (upG S 5 S1) (upG R 5 R1) st → CK h H → Q (-1000004) H) (k : Nat) : ∀ (i : Int) (H : HP) (o1 : Nat → Nat) (w1 : Nat → Nat × Nat) (S1 : Nat → Int → Int) (R1 : Nat → List FV), (200 - i).toNat < k → (0 ≤ i ∧ i ≤ 200) → (GP U0 H o1 w1 tr (upG S 5 S1) (upG R 5 R1) st) → (CK h H) → (PN i S1 R1) → At (d + 7) 178 7 [some (.inr (some 3)), some (.inl (i + 1))] [] H (fun v h' => ∃ x, v = some (.inl x) ∧ Q x h') := by
  have hC : cod 178 = c_P_nextOut := rfl
  induction k with
  | zero =>
    intro i H o1 w1 S1 R1 hk
    exact absurd hk (Nat.not_lt_zero _)
  | succ k ih =>
    intro i H o1 w1 S1 R1 hk hI0 hI1 hI2 hI3
    obtain ⟨g3, g4, r0, r1, r2, r3, gs, gst, gh⟩ := hI1.face
    have T5 := hI1.T (show 5 < 6 by decide)
    rw [upG_eq, upG_eq] at T5
    refine x_1 (p' := 8) hC rfl rfl rfl rfl ?_
    refine x_1 (p' := 9) hC rfl rfl rfl rfl ?_
    refine x_icgt (p' := 10) hC rfl rfl (fun c9 => ?_) (fun c9 => ?_)
    · refine x_ldc (p' := 26) (v := (-1000004)) hC rfl rfl (by decide) ?_
      refine x_iret hC rfl rfl rfl ⟨_, rfl, ?_⟩
      exact K2 S1 R1 (by rw [show (200 : Int) = i by omega]; exact hI3) _ _ _ hI1 hI2
    · refine x_1 (p' := 11) hC rfl rfl rfl rfl ?_
      refine x_getR (p' := 12) hC rfl rfl rfl g3 r3 ?_
      refine x_1 (p' := 13) hC rfl rfl rfl rfl ?_
      refine x_cVV1 (p' := 14) (n := 134) hC rfl rfl rfl rfl rfl (T5.1.ty) ?_
      refine hs i S1 R1 hI3 (by omega) (by omega) T5 (fun H2 o2 w2 S2 R2 E2 T2 hp2 => ?_)
      have G2 := hI1.tree (show 5 < 6 by decide) E2 T2
      rw [upG_upG, upG_upG] at G2
      have C2 := hI1.ck (show 5 < 6 by decide) E2
      obtain ⟨g3, g4, r0, r1, r2, r3, gs, gst, gh⟩ := G2.face
      have hKt := T2.1
      have hSt := T2.2.2.1
      have T4 := G2.T (show 4 < 6 by decide)
      rw [show upG S 5 S2 4 = S 4 from upG_ne (by decide), show upG R 5 R2 4 = R 4 from upG_ne (by decide)] at T4
      have hK := T4.1
      have hS := T4.2.2.1
      refine x_1 (p' := 15) hC rfl rfl rfl rfl ?_
      refine x_getR (p' := 16) hC rfl rfl rfl g3 r3 ?_
      refine z_ti (p' := 17) (kz := 7) hKt hSt hC rfl rfl rfl rfl ?_
      refine x_1 (p' := 18) hC rfl rfl rfl rfl ?_
      refine x_getR (p' := 19) hC rfl rfl rfl g3 r2 ?_
      refine z_ti (p' := 20) (kz := 7) hK hS hC rfl rfl rfl rfl ?_
      refine x_icle (p' := 21) hC rfl rfl (fun c20 => ?_) (fun c20 => ?_)
      · refine x_inc1 (p' := 24) hC rfl rfl (⟨by omega, by omega⟩) ?_
        refine x_1 (p' := 7) hC rfl rfl rfl rfl ?_
        refine ih (i + 1) _ _ _ S2 R2 (by omega) (by omega) G2 (hI2.trans C2) (hn _ _ _ hp2 (by omega))
      · refine x_1 (p' := 22) hC rfl rfl rfl rfl ?_
        refine x_iret hC rfl rfl rfl ⟨_, rfl, ?_⟩
        exact K1 (i + 1) S2 R2 hp2 (by omega) (by omega) (by omega) _ _ _ G2 (hI2.trans C2)
set_option maxRecDepth 20000 in
set_option maxHeartbeats 2000000 in
theorem sp_P_nextOut {d : Nat} {h : HP} {o : Nat → Nat} {w : Nat → Nat × Nat} {tr : Nat → Nat} {S : Nat → Nat → Int → Int} {R : Nat → Nat → List FV} {st : Int} {U0 : Nat} (G : GP U0 h o w tr S R st) (hc : CI (S 4)) (h7 : 0 ≤ cT (S 4) 7) (hb : ∀ u : Int, 0 ≤ u → u < cT (S 4) 5 → 0 ≤ cU (S 4) u 2 ∧ cU (S 4) u 2 ≤ 1) {PN PM : Int → (Nat → Int → Int) → (Nat → List FV) → Prop} (hs : ∀ i S1 R1, PN i S1 R1 → 0 ≤ i → i < 200 → ∀ {h : HP} {o : Nat → Nat} {w : Nat → Nat × Nat} {t : Nat} {Q : HP → Prop}, TR t h o w S1 R1 → (∀ H' o' w' S' R', ExtT h o w t H' o' w' → TR t H' o' w' S' R' → PM (i + 1) S' R' → Q H') → CaV (d + 6) 134 [.inr (some t), .inl 1] h Q) (hn : ∀ i S1 R1, PM i S1 R1 → ¬ cT (S 4) 7 < cT S1 7 → PN i S1 R1) (h0 : ∀ S1 R1, CQ (R 5) (S 4) (R 4) S1 R1 → CntR S1 R1 → PN 0 S1 R1) {Q : Int → HP → Prop} (K1 : ∀ i S1 R1, PM i S1 R1 → cT (S 4) 7 < cT S1 7 → 1 ≤ i → i ≤ 200 → ∀ H o' w', GP U0 H o' w' tr (upG S 5 S1) (upG R 5 R1) st → CK h H → Q i H) (K2 : ∀ S1 R1, PN 200 S1 R1 → ∀ H o' w', GP U0 H o' w' tr (upG S 5 S1) (upG R 5 R1) st → CK h H → Q (-1000004) H) : CaI (d + 7) 178 [.inr (some 3)] h Q := by
  have hC : cod 178 = c_P_nextOut := rfl
  refine CaI.start rfl ?_
  obtain ⟨g3, g4, r0, r1, r2, r3, gs, gst, gh⟩ := G.face
  refine x_1 (p' := 1) hC rfl rfl rfl rfl ?_
  refine x_getR (p' := 2) hC rfl rfl rfl g3 r3 ?_
  refine x_1 (p' := 3) hC rfl rfl rfl rfl ?_
  refine x_getR (p' := 4) hC rfl rfl rfl g3 r2 ?_
  refine x_cVV1 (p' := 5) (n := 110) hC rfl rfl rfl rfl rfl ((G.T (show 5 < 6 by decide)).1.ty) ?_
  refine sp_T_copyFrom (G.T (show 5 < 6 by decide)) (G.T (show 4 < 6 by decide)) (G.dj (by decide) (by decide) (by decide)) (by have := hc.1; omega) hc.2.1 h7 hb (fun H1 o1 w1 S1 R1 E1 T1 c1 => ?_)
  have G1 := G.tree (show 5 < 6 by decide) E1 T1
  have C1 := G.ck (show 5 < 6 by decide) E1
  refine x_1 (p' := 6) hC rfl rfl rfl rfl ?_
  refine x_stI1 (p' := 7) hC rfl rfl rfl ?_
  exact lp_P_next (o := o) (w := w) (R := R) hs hn K1 K2 _ 0 H1 o1 w1 S1 R1 (Nat.lt_succ_self _) (by omega) G1 C1 (h0 _ _ c1 T1.cnt)
set_option maxRecDepth 20000 in
set_option maxHeartbeats 2000000 in
theorem sp_P_foresee {d : Nat} {h : HP} {o : Nat → Nat} {w : Nat → Nat × Nat} {tr : Nat → Nat} {S : Nat → Nat → Int → Int} {R : Nat → Nat → List FV} {st : Int} {U0 : Nat} (G : GP U0 h o w tr S R st) (hc : CI (S 4)) (h7 : 0 ≤ cT (S 4) 7) (hb : ∀ u : Int, 0 ≤ u → u < cT (S 4) 5 → 0 ≤ cU (S 4) u 2 ∧ cU (S 4) u 2 ≤ 1) {n : Int} {PT : (Nat → Int → Int) → (Nat → List FV) → Prop} (hE : (1 ≤ n ∧ n ≤ 200) → ∀ S1 R1, CQ (R 5) (S 4) (R 4) S1 R1 → ∀ {h : HP} {o : Nat → Nat} {w : Nat → Nat × Nat} {t : Nat} {Q : HP → Prop}, TR t h o w S1 R1 → (∀ H' o' w' S' R', ExtT h o w t H' o' w' → TR t H' o' w' S' R' → PT S' R' → Q H') → CaV (d + 6) 134 [.inr (some t), .inl n] h Q) (hT : ∀ S1 R1, PT S1 R1 → (0 ≤ cT S1 7 ∧ cT S1 7 ≤ 2000000000) ∧ ∀ j : Int, 0 ≤ j → j < cKept S1 → 0 ≤ SF S1 (56 + 3 * ((cT S1 7 - 1 - j) % 8).toNat) 5 ∧ SF S1 (56 + 3 * ((cT S1 7 - 1 - j) % 8).toNat) 5 < 1024) {Q : Int → HP → Prop} (K1 : ¬ (1 ≤ n ∧ n ≤ 200) → Q (-1000001) h) (K2 : (1 ≤ n ∧ n ≤ 200) → ∀ S1 R1, PT S1 R1 → ∀ H o' w', GP U0 H o' w' tr (upG S 5 S1) (upG R 5 R1) st → CK h H → Q (cOutF S1 0 0) H) : CaI (d + 7) 179 [.inr (some 3), .inl n] h Q := by
  have hC : cod 179 = c_P_foresee := rfl
  refine CaI.start rfl ?_
  obtain ⟨g3, g4, r0, r1, r2, r3, gs, gst, gh⟩ := G.face
  refine x_1 (p' := 1) hC rfl rfl rfl rfl ?_
  refine x_1 (p' := 2) hC rfl rfl rfl rfl ?_
  refine x_1 (p' := 3) hC rfl rfl rfl rfl ?_
  refine x_cIS3 (p' := 4) (n := 187) hC rfl rfl rfl rfl rfl ?_
  refine sp_P_isWithin ?_
  refine x_ifne (p' := 5) hC rfl rfl (fun c4 => ?_) (fun c4 => ?_)
  · have c4 := b2i_n0.mp c4
    refine x_1 (p' := 8) hC rfl rfl rfl rfl ?_
    refine x_getR (p' := 9) hC rfl rfl rfl g3 r3 ?_
    refine x_1 (p' := 10) hC rfl rfl rfl rfl ?_
    refine x_getR (p' := 11) hC rfl rfl rfl g3 r2 ?_
    refine x_cVV1 (p' := 12) (n := 110) hC rfl rfl rfl rfl rfl ((G.T (show 5 < 6 by decide)).1.ty) ?_
    refine sp_T_copyFrom (G.T (show 5 < 6 by decide)) (G.T (show 4 < 6 by decide)) (G.dj (by decide) (by decide) (by decide)) (by have := hc.1; omega) hc.2.1 h7 hb (fun H1 o1 w1 S1 R1 E1 T1 c1 => ?_)
    have G1 := G.tree (show 5 < 6 by decide) E1 T1
    have C1 := G.ck (show 5 < 6 by decide) E1
    obtain ⟨g3, g4, r0, r1, r2, r3, gs, gst, gh⟩ := G1.face
    refine x_1 (p' := 13) hC rfl rfl rfl rfl ?_
    refine x_getR (p' := 14) hC rfl rfl rfl g3 r3 ?_
    refine x_1 (p' := 15) hC rfl rfl rfl rfl ?_
    refine x_cVV1 (p' := 16) (n := 134) hC rfl rfl rfl rfl rfl (T1.1.ty) ?_
    refine hE c4 S1 R1 c1 T1 (fun H2 o2 w2 S2 R2 E2 T2 hp2 => ?_)
    have G2 := G1.tree (show 5 < 6 by decide) E2 T2
    rw [upG_upG, upG_upG] at G2
    have C2 := G1.ck (show 5 < 6 by decide) E2
    obtain ⟨g3, g4, r0, r1, r2, r3, gs, gst, gh⟩ := G2.face
    obtain ⟨ht7, htm⟩ := hT _ _ hp2
    refine x_1 (p' := 17) hC rfl rfl rfl rfl ?_
    refine x_getR (p' := 18) hC rfl rfl rfl g3 r3 ?_
    refine x_1 (p' := 19) hC rfl rfl rfl rfl ?_
    refine x_1 (p' := 20) hC rfl rfl rfl rfl ?_
    refine x_cIV2 (p' := 21) (n := 152) hC rfl rfl rfl rfl rfl (T2.1.ty) ?_
    refine sp_T_outputFact T2.1 T2.2.2.1 ht7 (by decide) htm ?_
    refine x_iret hC rfl rfl rfl ⟨_, rfl, ?_⟩
    exact K2 c4 S2 R2 hp2 _ _ _ G2 (C1.trans C2)
  · have c4 := b2i_0.mp c4
    refine x_ldc (p' := 6) (v := (-1000001)) hC rfl rfl (by decide) ?_
    refine x_iret hC rfl rfl rfl ⟨_, rfl, ?_⟩
    exact K1 c4
set_option maxRecDepth 20000 in
set_option maxHeartbeats 2000000 in
theorem sp_P_count {d : Nat} {h : HP} {o : Nat → Nat} {w : Nat → Nat × Nat} {tr : Nat → Nat} {S : Nat → Nat → Int → Int} {R : Nat → Nat → List FV} {st : Int} {U0 : Nat} (G : GP U0 h o w tr S R st) (hc : CI (S 4)) {L A C D B E : Int} {tx nu : Int → Int} (hO : OT h h L A C D B E tx nu) (hL : 0 ≤ L ∧ L ≤ 60) {v : Int} {Q : Int → HP → Prop} (K1 : v = 9 → Q st h) (K2 : v = 10 → Q L h) (K3 : 0 ≤ v ∧ v ≤ 8 → Q (cTot (S 4) v) h) (K4 : ¬ (0 ≤ v ∧ v ≤ 10) → Q (-1000001) h) : CaI (d + 7) 180 [.inr (some 3), .inl v] h Q := by
  have hC : cod 180 = c_P_count := rfl
  refine CaI.start rfl ?_
  obtain ⟨g3, g4, r0, r1, r2, r3, gs, gst, gh⟩ := G.face
  have T4 := G.T (show 4 < 6 by decide)
  have hK := T4.1
  have hS := T4.2.2.1
  refine x_1 (p' := 1) hC rfl rfl rfl rfl ?_
  rcases (show (v = 9) ∨ (v = 10) ∨ (¬ v = 9 ∧ ¬ v = 10) by omega) with hlw | hlw | hlw
  · refine x_lswt (t := 2) rfl 1 (by show e_key _ [_, _] 1 = _; exact key0 hlw) rfl ?_
    refine x_1 (p' := 3) hC rfl rfl rfl rfl ?_
    refine x_getI (p' := 4) hC rfl rfl rfl g3 ?_
    rw [show hI _ 3 ((4 : Nat) : Int) = _ from gs]
    refine x_iret hC rfl rfl rfl ⟨_, rfl, ?_⟩
    first
      | exact K1 (by omega)
      | exact K2 (by omega)
      | exact K3 (by omega)
      | exact K4 (by omega)
  · refine x_lswt (t := 5) rfl 2 (by show e_key _ [_, _] 1 = _; exact (key1 (show ¬ v = 9 by omega)).trans (key0 hlw)) rfl ?_
    refine x_1 (p' := 6) hC rfl rfl rfl rfl ?_
    refine x_getR (p' := 7) hC rfl rfl rfl g3 r1 ?_
    refine z_og1 (p' := 8) hO hC rfl rfl ?_
    refine x_iret hC rfl rfl rfl ⟨_, rfl, ?_⟩
    first
      | exact K1 (by omega)
      | exact K2 (by omega)
      | exact K3 (by omega)
      | exact K4 (by omega)
  · refine x_lswt (t := 9) rfl 0 (by show e_key _ [_, _] 1 = _; exact (key1 (show ¬ v = 9 by omega)).trans ((key1 (show ¬ v = 10 by omega)).trans (rfl))) rfl ?_
    refine x_1 (p' := 10) hC rfl rfl rfl rfl ?_
    refine x_1 (p' := 11) hC rfl rfl rfl rfl ?_
    refine x_1 (p' := 12) hC rfl rfl rfl rfl ?_
    refine x_cIS3 (p' := 13) (n := 187) hC rfl rfl rfl rfl rfl ?_
    refine sp_P_isWithin ?_
    refine x_ifeq (p' := 14) hC rfl rfl (fun c13 => ?_) (fun c13 => ?_)
    · have c13 := b2i_0.mp c13
      refine x_ldc (p' := 20) (v := (-1000001)) hC rfl rfl (by decide) ?_
      refine x_iret hC rfl rfl rfl ⟨_, rfl, ?_⟩
      first
        | exact K1 (by omega)
        | exact K2 (by omega)
        | exact K3 (by omega)
        | exact K4 (by omega)
    · have c13 := b2i_n0.mp c13
      refine x_1 (p' := 15) hC rfl rfl rfl rfl ?_
      refine x_getR (p' := 16) hC rfl rfl rfl g3 r2 ?_
      refine x_1 (p' := 17) hC rfl rfl rfl rfl ?_
      refine x_cIV1 (p' := 18) (n := 153) hC rfl rfl rfl rfl rfl (hK.ty) ?_
      refine sp_T_total hK hS hc (by omega) ?_
      refine x_1 (p' := 20) hC rfl rfl rfl rfl ?_
      refine x_iret hC rfl rfl rfl ⟨_, rfl, ?_⟩
      first
        | exact K1 (by omega)
        | exact K2 (by omega)
        | exact K3 (by omega)
        | exact K4 (by omega)

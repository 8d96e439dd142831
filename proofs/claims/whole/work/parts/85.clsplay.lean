/-! THE CLASS: its face, time and texts -/
/-- the reference's cells are as they were -/
def CR (h H : HP) : Prop := ∀ b, b = 2 ∨ (488 ≤ b ∧ b < 498) → hTy H b = hTy h b ∧ hI H b = hI h b ∧ hR H b = hR h b
theorem CR.refl {h : HP} : CR h h := fun _ _ => ⟨rfl, rfl, rfl⟩
theorem CR.trans {a b c : HP} (x : CR a b) (y : CR b c) : CR a c := fun q h1 => ⟨(y q h1).1.trans (x q h1).1, (y q h1).2.1.trans (x q h1).2.1, (y q h1).2.2.trans (x q h1).2.2⟩
theorem CK.cr {h H : HP} (x : CK h H) : CR h H := fun b h1 => x b (by omega)
theorem EO.cr {h H : HP} (x : EO h H) : CR h H := fun b h1 => ⟨by rw [x.1], x.2.2.2.2 b (by omega) (by omega) (by omega), by rw [x.2.1]⟩
theorem CR.ref {h H : HP} {X : Nat → Int → Int} (x : CR h H) (A : RefAt h X) : RefAt H X := A.keep (fun b h1 h2 => x b (Or.inr ⟨h1, h2⟩))
theorem OT.re {G h : HP} {L A C D B E : Int} {tx nu : Int → Int} (O : OT G h L A C D B E tx nu) : OT h h L A C D B E tx nu := ⟨EO.refl, O.2⟩
theorem OT.ck {G h H : HP} {L A C D B E : Int} {tx nu : Int → Int} (O : OT G h L A C D B E tx nu) (c : CK h H) : OT H H L A C D B E tx nu := by
  obtain ⟨_, ⟨o1, o2, o3, o4, o5⟩, o6, o7, o8⟩ := O
  have c5 := c 5 (Or.inl (by decide))
  have c6 := c 6 (Or.inl (by decide))
  have c7 := c 7 (Or.inl (by decide))
  exact ⟨EO.refl, ⟨by rw [c5.1]; exact o1, by rw [c6.1]; exact o2, by rw [c7.1]; exact o3, by rw [c5.2.2]; exact o4, by rw [c5.2.2]; exact o5⟩, by rw [c5.2.1]; exact o6, by rw [c6.2.1]; exact o7, by rw [c7.2.1]; exact o8⟩
theorem upG_self {α : Type} {f : Nat → α} {r : Nat} : upG f r (f r) = f := by
  funext q
  unfold upG
  split
  · rename_i e; rw [e]
  · rfl
theorem upG_upG {α : Type} {f : Nat → α} {r : Nat} {x y : α} : upG (upG f r x) r y = upG f r y := by
  funext q
  unfold upG
  split <;> rfl
set_option maxRecDepth 20000 in
theorem lp_O_perf {d : Nat} {o : Nat → Nat} {w : Nat → Nat × Nat} {tr : Nat → Nat} {S : Nat → Nat → Int → Int} {R : Nat → Nat → List FV} {st : Int} {U0 : Nat} {L : Int} {tx : Int → Int} (hL : 0 ≤ L ∧ L ≤ 60) (htx : ∀ j, 0 ≤ j → j < L → 32 ≤ tx j ∧ tx j ≤ 126) {h : HP} {PF : Int → Int → (Nat → Int → Int) → (Nat → List FV) → Prop} (hF : ∀ a n S R, PF a n S R → CI S ∧ 0 ≤ cT S 6 ∧ cT S 6 ≤ 50000) (hM : ∀ a n S R n0 n1 n2 nx, PF a n S R → OrdIs tx L a 109 n0 n1 n2 nx → cDep S n0 n1 n2 0 1 = 0 → PF nx (n + 1) (upX (upX (upF S 6 (cDpV S n0 n1 n2 0 1)) 3 1 (((R 3).length : Nat) + 1)) (46 + n0.toNat) 3 (wr (cU S n0 3 + 1))) (upR R 3 (insA (R 3) ((R 3).length : Nat) (cDpV S n0 n1 n2 0 1)))) (hX : ∀ a n S R n0 n1 n2 nx, PF a n S R → OrdIs tx L a 120 n0 n1 n2 nx → cRet S n0 = 0 → PF nx (n + 1) (upX S (46 + n0.toNat) 2 1) R) (hW : ∀ a n S R n0 n1 n2 nx, PF a n S R → OrdIs tx L a 112 n0 n1 n2 nx → cEla S n0 = 0 → ∀ {h : HP} {o : Nat → Nat} {w : Nat → Nat × Nat} {Q : HP → Prop}, TR (tr 5) h o w S R → (∀ H' o' w' S' R', ExtT h o w (tr 5) H' o' w' → TR (tr 5) H' o' w' S' R' → PF nx (n + 1) S' R' → Q H') → CaV (d + 5) 134 [.inr (some (tr 5)), .inl n0] h Q) {Q : HP → Prop} (K0 : ∀ H o' w' S1 R1 a n C B nu, GP U0 H o' w' tr (upG S 5 S1) (upG R 5 R1) st → CR h H → OT H H L a C n B 0 tx nu → PF a n S1 R1 → L ≤ a → Q H) (KF : ∀ H o' w' S1 R1 a n C A nu r, GP U0 H o' w' tr (upG S 5 S1) (upG R 5 R1) st → CR h H → OT H H L A C n a r tx nu → PF a n S1 R1 → 0 ≤ a → a < L → ((r = 1 ∧ ∀ n0 n1 n2 nx, ¬ OrdIs tx L a (tx a) n0 n1 n2 nx) ∨ (r = 2 ∧ ∃ n0 n1 n2 nx, OrdIs tx L a (tx a) n0 n1 n2 nx ∧ ¬ tx a = 112 ∧ ¬ cUnit S1 n0) ∨ (r = 3 ∧ ∃ n0 n1 n2 nx, OrdIs tx L a (tx a) n0 n1 n2 nx ∧ (¬ tx a = 112 → cUnit S1 n0) ∧ ¬ cOE S1 (tx a) n0 n1 n2 = 0)) → Q H) (k : Nat) : ∀ (a : Int) (n : Int) (H : HP) (o1 : Nat → Nat) (w1 : Nat → Nat × Nat) (S1 : Nat → Int → Int) (R1 : Nat → List FV) (C : Int) (B : Int) (nu : Int → Int), (L - a).toNat < k → (0 ≤ n ∧ 3 * n ≤ a) → (0 ≤ a ∧ a ≤ L) → (GP U0 H o1 w1 tr (upG S 5 S1) (upG R 5 R1) st) → (CR h H) → (OT H H L a C n B 0 tx nu) → (PF a n S1 R1) → At (d + 6) 158 12 [some (.inr (some 5)), some (.inr (some (tr 5))), some (.inr (some (tr 4)))] [] H (fun v h' => v = none ∧ Q h') := by
  have hC : cod 158 = c_O_perform := rfl
  induction k with
  | zero =>
    intro a n H o1 w1 S1 R1 C B nu hk
    exact absurd hk (Nat.not_lt_zero _)
  | succ k ih =>
    intro a n H o1 w1 S1 R1 C B nu hk hI0 hI1 hI2 hI3 hI4 hI5
    have hO := hI4
    obtain ⟨hc, htm⟩ := hF _ _ _ _ hI5
    refine x_1 (p' := 13) hC rfl rfl rfl rfl ?_
    refine z_og2 (p' := 14) hO hC rfl rfl ?_
    refine x_1 (p' := 15) hC rfl rfl rfl rfl ?_
    refine z_og1 (p' := 16) hO hC rfl rfl ?_
    refine x_icge (p' := 17) hC rfl rfl (fun c16 => ?_) (fun c16 => ?_)
    · refine x_ret hC rfl rfl rfl ⟨rfl, ?_⟩
      first
        | exact K0 _ _ _ _ _ _ _ _ _ _ hI2 hI3 hI4 hI5 (by omega)
        | (exfalso; omega)
    · refine x_1 (p' := 18) hC rfl rfl rfl rfl ?_
      refine z_og5 (p' := 19) hO hC rfl rfl ?_
      refine x_1 (p' := 20) hC rfl rfl rfl rfl ?_
      refine x_icge (p' := 21) hC rfl rfl (fun c20 => ?_) (fun c20 => ?_)
      · refine x_ret hC rfl rfl rfl ⟨rfl, ?_⟩
        first
          | exact K0 _ _ _ _ _ _ _ _ _ _ hI2 hI3 hI4 hI5 (by omega)
          | (exfalso; omega)
      · refine x_1 (p' := 22) hC rfl rfl rfl rfl ?_
        refine x_1 (p' := 23) hC rfl rfl rfl rfl ?_
        refine z_og2 (p' := 24) hO hC rfl rfl ?_
        refine z_op6 (p' := 25) hO hC rfl rfl (fun hO => ?_)
        refine x_1 (p' := 26) hC rfl rfl rfl rfl ?_
        refine x_1 (p' := 27) hC rfl rfl rfl rfl ?_
        refine x_1 (p' := 28) hC rfl rfl rfl rfl ?_
        refine x_cIV1 (p' := 29) (n := 159) hC rfl rfl rfl rfl rfl (hO.ty) ?_
        have E1 := hO.1
        have G1 := hI2.eo E1
        have T5 := G1.T (show 5 < 6 by decide)
        rw [upG_eq, upG_eq] at T5
        refine sp_O_reasonAgainst hO.re hL hI1.1 (by omega) htx (G1.t8 (show 5 < 6 by decide)).1 T5.1 T5.2.2.1 hc (by omega) (fun hno h2 A2 nu2 hO => ?_) (fun n0 n1 n2 nx hor hk hnu h2 A2 nu2 hO => ?_) (fun n0 n1 n2 nx hor hun hcoe h2 A2 nu2 hO => ?_) (fun n0 n1 n2 nx hor hun hcoe h2 nu2 hO e0 e12 => ?_)
        · refine z_op7 (p' := 30) hO hC rfl rfl (fun hO => ?_)
          refine x_1 (p' := 31) hC rfl rfl rfl rfl ?_
          refine z_og7 (p' := 32) hO hC rfl rfl ?_
          refine x_ifeq (p' := 33) hC rfl rfl (fun c => absurd c (by decide)) (fun _ => ?_)
          refine x_ret hC rfl rfl rfl ⟨rfl, ?_⟩
          exact KF _ _ _ S1 R1 a n _ _ _ 1 ((hI2.eo E1).eo hO.1) ((hI3.trans E1.cr).trans hO.1.cr) hO.re hI5 (by omega) (by omega) (Or.inl ⟨rfl, hno⟩)
        · refine z_op7 (p' := 30) hO hC rfl rfl (fun hO => ?_)
          refine x_1 (p' := 31) hC rfl rfl rfl rfl ?_
          refine z_og7 (p' := 32) hO hC rfl rfl ?_
          refine x_ifeq (p' := 33) hC rfl rfl (fun c => absurd c (by decide)) (fun _ => ?_)
          refine x_ret hC rfl rfl rfl ⟨rfl, ?_⟩
          exact KF _ _ _ S1 R1 a n _ _ _ 2 ((hI2.eo E1).eo hO.1) ((hI3.trans E1.cr).trans hO.1.cr) hO.re hI5 (by omega) (by omega) (Or.inr (Or.inl ⟨rfl, n0, n1, n2, nx, hor, hk, hnu⟩))
        · refine z_op7 (p' := 30) hO hC rfl rfl (fun hO => ?_)
          refine x_1 (p' := 31) hC rfl rfl rfl rfl ?_
          refine z_og7 (p' := 32) hO hC rfl rfl ?_
          refine x_ifeq (p' := 33) hC rfl rfl (fun c => absurd c (by decide)) (fun _ => ?_)
          refine x_ret hC rfl rfl rfl ⟨rfl, ?_⟩
          exact KF _ _ _ S1 R1 a n _ _ _ 3 ((hI2.eo E1).eo hO.1) ((hI3.trans E1.cr).trans hO.1.cr) hO.re hI5 (by omega) (by omega) (Or.inr (Or.inr ⟨rfl, n0, n1, n2, nx, hor, hun, hcoe⟩))
        have hol := hor.lt
        refine z_op7 (p' := 30) hO hC rfl rfl (fun hO => ?_)
        refine x_1 (p' := 31) hC rfl rfl rfl rfl ?_
        refine z_og7 (p' := 32) hO hC rfl rfl ?_
        refine x_ifeq (p' := 33) hC rfl rfl (fun c32 => ?_) (fun c32 => ?_)
        · refine x_1 (p' := 35) hC rfl rfl rfl rfl ?_
          refine z_og3 (p' := 36) hO hC rfl rfl ?_
          refine x_1 (p' := 37) hC rfl rfl rfl rfl ?_
          refine x_icne (p' := 38) hC rfl rfl (fun c37 => ?_) (fun c37 => ?_)
          · refine x_1 (p' := 56) hC rfl rfl rfl rfl ?_
            refine z_og3 (p' := 57) hO hC rfl rfl ?_
            refine x_1 (p' := 58) hC rfl rfl rfl rfl ?_
            refine x_icne (p' := 59) hC rfl rfl (fun c58 => ?_) (fun c58 => ?_)
            · have hk120 : tx a = 120 := by
                rcases hor.2.2 with ⟨q, _⟩ | ⟨q | q, _⟩
                · exact absurd q c37
                · exact absurd q c58
                · exact q
              rw [hk120] at hor hcoe
              refine x_1 (p' := 67) hC rfl rfl rfl rfl ?_
              refine x_1 (p' := 68) hC rfl rfl rfl rfl ?_
              refine z_or4 (p' := 69) hO hC rfl rfl ?_
              refine x_1 (p' := 70) hC rfl rfl rfl rfl ?_
              refine z_on (p' := 71) hO hC rfl rfl rfl (by omega) (by omega) ?_
              rw [e0]
              refine x_cVV1 (p' := 72) (n := 117) hC rfl rfl rfl rfl rfl ((((hI2.eo E1).eo hO.1).T (show 5 < 6 by decide)).1.ty) ?_
              have hdp : cRet S1 n0 = 0 := by unfold cOE at hcoe; rw [if_neg (by decide), if_neg (by decide)] at hcoe; exact hcoe
              have hd0 := (cRet_0 hdp).1
              have G2 := (hI2.eo E1).eo hO.1
              have T5 := G2.T (show 5 < 6 by decide)
              rw [upG_eq, upG_eq] at T5
              have h5 := hc.2.1
              refine sp_T_retire T5 (by omega) (fun H3 E3 T3 => ?_)
              have G3 := G2.tree (show 5 < 6 by decide) E3 T3
              rw [upG_upG, upG_upG] at G3
              have C3 := G2.ck (show 5 < 6 by decide) E3
              have hOr := hO.ck C3
              have C3r := ((hI3.trans E1.cr).trans hO.1.cr).trans C3.cr
              have hP3 := hX _ _ _ _ _ _ _ _ hI5 hor hdp
              have hO := hOr
              refine x_1 (p' := 73) hC rfl rfl rfl rfl ?_
              refine x_1 (p' := 74) hC rfl rfl rfl rfl ?_
              refine z_og5 (p' := 75) hO hC rfl rfl ?_
              refine x_1 (p' := 76) hC rfl rfl rfl rfl ?_
              refine x_add (p' := 77) hC rfl rfl rfl (⟨by omega, by omega⟩) ?_
              refine z_op5 (p' := 78) hO hC rfl rfl (fun hO => ?_)
              refine x_1 (p' := 12) hC rfl rfl rfl rfl ?_
              exact ih _ _ _ _ _ _ _ _ _ _ (by omega) (by omega) (by omega) (G3.eo hO.1) (C3r.trans hO.1.cr) hO.re hP3
            · rw [c58] at hor hcoe
              refine x_1 (p' := 60) hC rfl rfl rfl rfl ?_
              refine x_1 (p' := 61) hC rfl rfl rfl rfl ?_
              refine z_or4 (p' := 62) hO hC rfl rfl ?_
              refine x_1 (p' := 63) hC rfl rfl rfl rfl ?_
              refine z_on (p' := 64) hO hC rfl rfl rfl (by omega) (by omega) ?_
              rw [e0]
              refine x_cVV1 (p' := 65) (n := 134) hC rfl rfl rfl rfl rfl ((((hI2.eo E1).eo hO.1).T (show 5 < 6 by decide)).1.ty) ?_
              have hdp : cEla S1 n0 = 0 := by unfold cOE at hcoe; rw [if_neg (by decide), if_pos rfl] at hcoe; exact hcoe
              have G2 := (hI2.eo E1).eo hO.1
              have T5 := G2.T (show 5 < 6 by decide)
              rw [upG_eq, upG_eq] at T5
              refine hW _ _ _ _ _ _ _ _ hI5 hor hdp T5 (fun H3 o3 w3 S3 R3 E3 T3 hP3 => ?_)
              have G3 := G2.tree (show 5 < 6 by decide) E3 T3
              rw [upG_upG, upG_upG] at G3
              have C3 := G2.ck (show 5 < 6 by decide) E3
              have hOr := hO.ck C3
              have C3r := ((hI3.trans E1.cr).trans hO.1.cr).trans C3.cr
              have hO := hOr
              refine x_1 (p' := 72) hC rfl rfl rfl rfl ?_
              refine x_1 (p' := 73) hC rfl rfl rfl rfl ?_
              refine x_1 (p' := 74) hC rfl rfl rfl rfl ?_
              refine z_og5 (p' := 75) hO hC rfl rfl ?_
              refine x_1 (p' := 76) hC rfl rfl rfl rfl ?_
              refine x_add (p' := 77) hC rfl rfl rfl (⟨by omega, by omega⟩) ?_
              refine z_op5 (p' := 78) hO hC rfl rfl (fun hO => ?_)
              refine x_1 (p' := 12) hC rfl rfl rfl rfl ?_
              exact ih _ _ _ _ _ _ _ _ _ _ (by omega) (by omega) (by omega) (G3.eo hO.1) (C3r.trans hO.1.cr) hO.re hP3
          · rw [c37] at hor hcoe
            refine x_1 (p' := 39) hC rfl rfl rfl rfl ?_
            refine x_1 (p' := 40) hC rfl rfl rfl rfl ?_
            refine z_or4 (p' := 41) hO hC rfl rfl ?_
            refine x_1 (p' := 42) hC rfl rfl rfl rfl ?_
            refine z_on (p' := 43) hO hC rfl rfl rfl (by omega) (by omega) ?_
            rw [e0]
            refine x_1 (p' := 44) hC rfl rfl rfl rfl ?_
            refine z_or4 (p' := 45) hO hC rfl rfl ?_
            refine x_1 (p' := 46) hC rfl rfl rfl rfl ?_
            refine z_on (p' := 47) hO hC rfl rfl rfl (by omega) (by omega) ?_
            rw [(e12 (by omega)).1]
            refine x_1 (p' := 48) hC rfl rfl rfl rfl ?_
            refine z_or4 (p' := 49) hO hC rfl rfl ?_
            refine x_1 (p' := 50) hC rfl rfl rfl rfl ?_
            refine z_on (p' := 51) hO hC rfl rfl rfl (by omega) (by omega) ?_
            rw [(e12 (by omega)).2]
            refine x_1 (p' := 52) hC rfl rfl rfl rfl ?_
            refine x_1 (p' := 53) hC rfl rfl rfl rfl ?_
            refine x_cVV5 (p' := 54) (n := 132) hC rfl rfl rfl rfl rfl ((((hI2.eo E1).eo hO.1).T (show 5 < 6 by decide)).1.ty) ?_
            have hdp : cDep S1 n0 n1 n2 0 1 = 0 := by unfold cOE at hcoe; rw [if_pos rfl] at hcoe; exact hcoe
            have hd0 := cDep_0 hdp
            have G2 := (hI2.eo E1).eo hO.1
            have T5 := G2.T (show 5 < 6 by decide)
            rw [upG_eq, upG_eq] at T5
            have hcw := T5.cW
            refine sp_T_depart T5 hc (by omega) (by omega) (by omega) (by omega) (fun H3 o3 w3 E3 T3 => ?_)
            have G3 := G2.tree (show 5 < 6 by decide) E3 T3
            rw [upG_upG, upG_upG] at G3
            have C3 := G2.ck (show 5 < 6 by decide) E3
            have hOr := hO.ck C3
            have C3r := ((hI3.trans E1.cr).trans hO.1.cr).trans C3.cr
            have hP3 := hM _ _ _ _ _ _ _ _ hI5 hor hdp
            have hO := hOr
            refine x_1 (p' := 72) hC rfl rfl rfl rfl ?_
            refine x_1 (p' := 73) hC rfl rfl rfl rfl ?_
            refine x_1 (p' := 74) hC rfl rfl rfl rfl ?_
            refine z_og5 (p' := 75) hO hC rfl rfl ?_
            refine x_1 (p' := 76) hC rfl rfl rfl rfl ?_
            refine x_add (p' := 77) hC rfl rfl rfl (⟨by omega, by omega⟩) ?_
            refine z_op5 (p' := 78) hO hC rfl rfl (fun hO => ?_)
            refine x_1 (p' := 12) hC rfl rfl rfl rfl ?_
            exact ih _ _ _ _ _ _ _ _ _ _ (by omega) (by omega) (by omega) (G3.eo hO.1) (C3r.trans hO.1.cr) hO.re hP3
        · exact absurd rfl c32
/-- the rows' counts are their lengths -/
def CntR (S : Nat → Int → Int) (R : Nat → List FV) : Prop := cW S = ((R 3).length : Nat) ∧ ∀ g, 0 ≤ g → g < 5 → cZ S g = ((kR R g).length : Nat)
theorem TR.cnt {t : Nat} {h : HP} {o : Nat → Nat} {w : Nat → Nat × Nat} {S : Nat → Int → Int} {R : Nat → List FV} (T : TR t h o w S R) : CntR S R := ⟨T.cW.1, fun g a b => (T.cZ a b).1⟩
set_option maxRecDepth 20000 in
set_option maxHeartbeats 2000000 in
theorem sp_O_perform {d : Nat} {o : Nat → Nat} {w : Nat → Nat × Nat} {tr : Nat → Nat} {S : Nat → Nat → Int → Int} {R : Nat → Nat → List FV} {st : Int} {U0 : Nat} {L : Int} {tx : Int → Int} (hL : 0 ≤ L ∧ L ≤ 60) (htx : ∀ j, 0 ≤ j → j < L → 32 ≤ tx j ∧ tx j ≤ 126) {h : HP} (G : GP U0 h o w tr S R st) {A C D B E : Int} {nu : Int → Int} (hO : OT h h L A C D B E tx nu) {PF : Int → Int → (Nat → Int → Int) → (Nat → List FV) → Prop} (hF : ∀ a n S R, PF a n S R → CI S ∧ 0 ≤ cT S 6 ∧ cT S 6 ≤ 50000) (hM : ∀ a n S R n0 n1 n2 nx, PF a n S R → OrdIs tx L a 109 n0 n1 n2 nx → cDep S n0 n1 n2 0 1 = 0 → PF nx (n + 1) (upX (upX (upF S 6 (cDpV S n0 n1 n2 0 1)) 3 1 (((R 3).length : Nat) + 1)) (46 + n0.toNat) 3 (wr (cU S n0 3 + 1))) (upR R 3 (insA (R 3) ((R 3).length : Nat) (cDpV S n0 n1 n2 0 1)))) (hX : ∀ a n S R n0 n1 n2 nx, PF a n S R → OrdIs tx L a 120 n0 n1 n2 nx → cRet S n0 = 0 → PF nx (n + 1) (upX S (46 + n0.toNat) 2 1) R) (hW : ∀ a n S R n0 n1 n2 nx, PF a n S R → OrdIs tx L a 112 n0 n1 n2 nx → cEla S n0 = 0 → ∀ {h : HP} {o : Nat → Nat} {w : Nat → Nat × Nat} {Q : HP → Prop}, TR (tr 5) h o w S R → (∀ H' o' w' S' R', ExtT h o w (tr 5) H' o' w' → TR (tr 5) H' o' w' S' R' → PF nx (n + 1) S' R' → Q H') → CaV (d + 5) 134 [.inr (some (tr 5)), .inl n0] h Q) (hc : CI (S 4)) (h7 : 0 ≤ cT (S 4) 7) (hb : ∀ u : Int, 0 ≤ u → u < cT (S 4) 5 → 0 ≤ cU (S 4) u 2 ∧ cU (S 4) u 2 ≤ 1) (h0 : ∀ S1 R1, CQ (R 5) (S 4) (R 4) S1 R1 → CntR S1 R1 → PF 0 0 S1 R1) {Q : HP → Prop} (K0 : ∀ H o' w' S1 R1 a n C B nu, GP U0 H o' w' tr (upG S 5 S1) (upG R 5 R1) st → CR h H → OT H H L a C n B 0 tx nu → PF a n S1 R1 → L ≤ a → Q H) (KF : ∀ H o' w' S1 R1 a n C A nu r, GP U0 H o' w' tr (upG S 5 S1) (upG R 5 R1) st → CR h H → OT H H L A C n a r tx nu → PF a n S1 R1 → 0 ≤ a → a < L → ((r = 1 ∧ ∀ n0 n1 n2 nx, ¬ OrdIs tx L a (tx a) n0 n1 n2 nx) ∨ (r = 2 ∧ ∃ n0 n1 n2 nx, OrdIs tx L a (tx a) n0 n1 n2 nx ∧ ¬ tx a = 112 ∧ ¬ cUnit S1 n0) ∨ (r = 3 ∧ ∃ n0 n1 n2 nx, OrdIs tx L a (tx a) n0 n1 n2 nx ∧ (¬ tx a = 112 → cUnit S1 n0) ∧ ¬ cOE S1 (tx a) n0 n1 n2 = 0)) → Q H) : CaV (d + 6) 158 [.inr (some 5), .inr (some (tr 5)), .inr (some (tr 4))] h Q := by
  have hC : cod 158 = c_O_perform := rfl
  refine CaV.start rfl ?_
  have h4 := hc.1
  have h5 := hc.2.1
  refine x_1 (p' := 1) hC rfl rfl rfl rfl ?_
  refine x_1 (p' := 2) hC rfl rfl rfl rfl ?_
  refine x_cVV1 (p' := 3) (n := 110) hC rfl rfl rfl rfl rfl ((G.T (show 5 < 6 by decide)).1.ty) ?_
  refine sp_T_copyFrom (G.T (show 5 < 6 by decide)) (G.T (show 4 < 6 by decide)) (G.dj (by decide) (by decide) (by decide)) (by omega) (by omega) h7 hb (fun H2 o2 w2 S2 R2 E2 T2 c2 => ?_)
  have G2 := G.tree (show 5 < 6 by decide) E2 T2
  have C2 := G.ck (show 5 < 6 by decide) E2
  have hOr := hO.ck C2
  have hO := hOr
  refine x_1 (p' := 4) hC rfl rfl rfl rfl ?_
  refine x_1 (p' := 5) hC rfl rfl rfl rfl ?_
  refine z_op2 (p' := 6) hO hC rfl rfl (fun hO => ?_)
  refine x_1 (p' := 7) hC rfl rfl rfl rfl ?_
  refine x_1 (p' := 8) hC rfl rfl rfl rfl ?_
  refine z_op5 (p' := 9) hO hC rfl rfl (fun hO => ?_)
  refine x_1 (p' := 10) hC rfl rfl rfl rfl ?_
  refine x_1 (p' := 11) hC rfl rfl rfl rfl ?_
  refine z_op7 (p' := 12) hO hC rfl rfl (fun hO => ?_)
  exact lp_O_perf (o := o) (w := w) hL htx hF hM hX hW K0 KF _ 0 0 _ _ _ _ _ _ _ _ (Nat.lt_succ_self _) (by omega) (by omega) (G2.eo hO.1) (C2.cr.trans hO.1.cr) hO.re (h0 _ _ c2 T2.cnt)
set_option maxRecDepth 20000 in
set_option maxHeartbeats 2000000 in
theorem sp_O_append2 {d : Nat} {G h : HP} {L A Cc D B E : Int} {tx nu : Int → Int} (hO : OT G h L A Cc D B E tx nu) (hL : 0 ≤ L ∧ L ≤ 60) {c : Int} (hc : 0 ≤ c ∧ c ≤ 65535) {Q : Int → HP → Prop} (K0 : L = 60 → Q 0 h) (K1 : L < 60 → ∀ h', OT G h' (L + 1) A Cc D B E (ups tx L c) nu → Q 1 h') : CaI d 157 [.inr (some 5), .inl c] h Q := by
  have hC : cod 157 = c_O_append := rfl
  refine CaI.start rfl ?_
  refine x_1 (p' := 1) hC rfl rfl rfl rfl ?_
  refine z_og1 (p' := 2) hO hC rfl rfl ?_
  refine x_1 (p' := 3) hC rfl rfl rfl rfl ?_
  refine x_iclt (p' := 4) hC rfl rfl (fun c3 => ?_) (fun c3 => ?_)
  · refine x_1 (p' := 7) hC rfl rfl rfl rfl ?_
    refine z_or0 (p' := 8) hO hC rfl rfl ?_
    refine x_1 (p' := 9) hC rfl rfl rfl rfl ?_
    refine z_og1 (p' := 10) hO hC rfl rfl ?_
    refine x_1 (p' := 11) hC rfl rfl rfl rfl ?_
    refine z_oc (p' := 12) hO hC rfl rfl rfl (by omega) (by omega) (by omega) (fun hO => ?_)
    refine x_1 (p' := 13) hC rfl rfl rfl rfl ?_
    refine x_1 (p' := 14) hC rfl rfl rfl rfl ?_
    refine z_og1 (p' := 15) hO hC rfl rfl ?_
    refine x_1 (p' := 16) hC rfl rfl rfl rfl ?_
    refine x_add (p' := 17) hC rfl rfl rfl (⟨by omega, by omega⟩) ?_
    refine z_op1 (p' := 18) hO hC rfl rfl (fun hO => ?_)
    refine x_1 (p' := 19) hC rfl rfl rfl rfl ?_
    refine x_zret hC rfl rfl rfl (by first | omega | exact b2i_01 _) ⟨_, rfl, ?_⟩
    exact K1 (by omega) _ hO
  · refine x_1 (p' := 5) hC rfl rfl rfl rfl ?_
    refine x_zret hC rfl rfl rfl (by first | omega | exact b2i_01 _) ⟨_, rfl, ?_⟩
    exact K0 (by omega)
set_option maxRecDepth 20000 in
set_option maxHeartbeats 2000000 in
theorem sp_P_type {d : Nat} {h : HP} {o : Nat → Nat} {w : Nat → Nat × Nat} {tr : Nat → Nat} {S : Nat → Nat → Int → Int} {R : Nat → Nat → List FV} {st : Int} {U0 : Nat} (G : GP U0 h o w tr S R st) {L A C D B E : Int} {tx nu : Int → Int} (hO : OT h h L A C D B E tx nu) (hL : 0 ≤ L ∧ L ≤ 60) {c : Int} {Q : Int → HP → Prop} (K1 : ¬ (32 ≤ c ∧ c ≤ 126) → Q (-1000001) h) (K2 : (32 ≤ c ∧ c ≤ 126) → L = 60 → Q (-1000003) h) (K3 : (32 ≤ c ∧ c ≤ 126) → L < 60 → ∀ H, GP U0 H o w tr S R st → CR h H → OT H H (L + 1) A C D B E (ups tx L c) nu → Q (L + 1) H) : CaI (d + 7) 182 [.inr (some 3), .inl c] h Q := by
  have hC : cod 182 = c_P_type := rfl
  refine CaI.start rfl ?_
  obtain ⟨g3, g4, r0, r1, r2, r3, gs, gst, gh⟩ := G.face
  refine x_1 (p' := 1) hC rfl rfl rfl rfl ?_
  refine x_1 (p' := 2) hC rfl rfl rfl rfl ?_
  refine x_1 (p' := 3) hC rfl rfl rfl rfl ?_
  refine x_cIS3 (p' := 4) (n := 187) hC rfl rfl rfl rfl rfl ?_
  refine sp_P_isWithin ?_
  refine x_ifne (p' := 5) hC rfl rfl (fun c4 => ?_) (fun c4 => ?_)
  · have c4 := b2i_n0.mp c4
    refine x_1 (p' := 8) hC rfl rfl rfl rfl ?_
    refine x_getR (p' := 9) hC rfl rfl rfl g3 r1 ?_
    refine x_1 (p' := 10) hC rfl rfl rfl rfl ?_
    refine x_1 (p' := 11) hC rfl rfl rfl rfl ?_
    rw [i2c_eq (by omega) (by omega)]
    refine x_cIV1 (p' := 12) (n := 157) hC rfl rfl rfl rfl rfl (hO.ty) ?_
    refine sp_O_append2 (d := d + 6) hO hL (by omega) (fun h60 => ?_) (fun hl H2 hO => ?_)
    · refine x_ifeq (p' := 13) hC rfl rfl (fun _ => ?_) (fun c => absurd rfl c)
      refine x_ldc (p' := 18) (v := -1000003) hC rfl rfl (by decide) ?_
      refine x_iret hC rfl rfl rfl ⟨_, rfl, ?_⟩
      exact K2 c4 h60
    · refine x_ifeq (p' := 13) hC rfl rfl (fun c => absurd c (by decide)) (fun _ => ?_)
      refine x_1 (p' := 14) hC rfl rfl rfl rfl ?_
      refine x_getR (p' := 15) (q := some 5) hC rfl rfl rfl (by rw [hO.1.1]; exact g3) (by rw [hO.1.2.1]; exact r1) ?_
      refine z_og1 (p' := 16) hO hC rfl rfl ?_
      refine x_1 (p' := 18) hC rfl rfl rfl rfl ?_
      refine x_iret hC rfl rfl rfl ⟨_, rfl, ?_⟩
      exact K3 c4 hl H2 (G.eo hO.1) hO.1.cr hO.re
  · have c4 := b2i_0.mp c4
    refine x_ldc (p' := 6) (v := -1000001) hC rfl rfl (by decide) ?_
    refine x_iret hC rfl rfl rfl ⟨_, rfl, ?_⟩
    exact K1 c4
set_option maxRecDepth 20000 in
set_option maxHeartbeats 2000000 in
theorem sp_P_clearText {d : Nat} {h : HP} {o : Nat → Nat} {w : Nat → Nat × Nat} {tr : Nat → Nat} {S : Nat → Nat → Int → Int} {R : Nat → Nat → List FV} {st : Int} {U0 : Nat} (G : GP U0 h o w tr S R st) {L A C D B E : Int} {tx nu : Int → Int} (hO : OT h h L A C D B E tx nu) (hL : 0 ≤ L ∧ L ≤ 60) {Q : Int → HP → Prop} (K : ∀ H, GP U0 H o w tr S R st → CR h H → OT H H 0 A C D B E tx nu → Q L H) : CaI (d + 7) 183 [.inr (some 3)] h Q := by
  have hC : cod 183 = c_P_clearText := rfl
  refine CaI.start rfl ?_
  obtain ⟨g3, g4, r0, r1, r2, r3, gs, gst, gh⟩ := G.face
  refine x_1 (p' := 1) hC rfl rfl rfl rfl ?_
  refine x_getR (p' := 2) hC rfl rfl rfl g3 r1 ?_
  refine z_og1 (p' := 3) hO hC rfl rfl ?_
  refine x_stI1 (p' := 4) hC rfl rfl rfl ?_
  refine x_1 (p' := 5) hC rfl rfl rfl rfl ?_
  refine x_getR (p' := 6) hC rfl rfl rfl g3 r1 ?_
  refine x_1 (p' := 7) hC rfl rfl rfl rfl ?_
  refine z_op1 (p' := 8) hO hC rfl rfl (fun hO => ?_)
  refine x_1 (p' := 9) hC rfl rfl rfl rfl ?_
  refine x_iret hC rfl rfl rfl ⟨_, rfl, ?_⟩
  exact K _ (G.eo hO.1) hO.1.cr hO.re

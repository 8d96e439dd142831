/-! THE CLASS: its face, time and counts -/
theorem key0 {x : Int} {p : Int × Int} {ps : List (Int × Int)} {n : Nat} (h : x = p.1) : e_key x (p :: ps) n = n := if_pos h
theorem key1 {x : Int} {p : Int × Int} {ps : List (Int × Int)} {n : Nat} (h : ¬ x = p.1) : e_key x (p :: ps) n = e_key x ps (n + 1) := if_neg h
theorem x_lswt {d y pos : Nat} {ls : List (Option AV)} {h : HP} {Q : Option AV → HP → Prop} {df v : Int} {ps : Array (Int × Int)} {a b w : Nat} {sw : List Nat} {r : List AV} {x : Int} (hI : (cod y)[pos]? = some (.lookupswitch df ps, v, a, b, w, sw)) (k0 : Nat) {t : Nat} (hk : e_key x ps.toList 1 = k0) (ht : sw[k0]? = some t) (K : At d y t ls r h Q) : At d y pos ls (.inl x :: r) h Q :=
  x_lsw rfl hI (fun t' ht' => by rw [hk, ht] at ht'; cases ht'; exact K) ⟨t, by rw [hk]; exact ht⟩
set_option maxRecDepth 20000 in
set_option maxHeartbeats 2000000 in
theorem sp_P_pass {d : Nat} {h : HP} {o : Nat → Nat} {w : Nat → Nat × Nat} {tr : Nat → Nat} {S : Nat → Nat → Int → Int} {R : Nat → Nat → List FV} {st : Int} {U0 : Nat} (G : GP U0 h o w tr S R st) (hc : CI (S 4)) (h7 : 0 ≤ cT (S 4) 7) (hb : ∀ u : Int, 0 ≤ u → u < cT (S 4) 5 → 0 ≤ cU (S 4) u 2 ∧ cU (S 4) u 2 ≤ 1) (htm : 0 ≤ cT (S 4) 6 ∧ cT (S 4) 6 ≤ 100000) {n : Int} {PT : (Nat → Int → Int) → (Nat → List FV) → Prop} (hE : cEla (S 4) n = 0 → ∀ {h : HP} {o : Nat → Nat} {w : Nat → Nat × Nat} {t : Nat} {Q : HP → Prop}, TR t h o w (S 4) (R 4) → (∀ H' o' w' S' R', ExtT h o w t H' o' w' → TR t H' o' w' S' R' → PT S' R' → Q H') → CaV (d + 6) 134 [.inr (some t), .inl n] h Q) {Q : Int → HP → Prop} (K1 : ¬ cEla (S 4) n = 0 → Q (cEla (S 4) n) h) (K2 : cEla (S 4) n = 0 → ∀ H o' w' tr' S' R' st' S2 R2, GP U0 H o' w' tr' (upG S' 4 S2) (upG R' 4 R2) st' → CK h H → RemP st S R S' R' st' → PT S2 R2 → Q (cT S2 6) H) : CaI (d + 7) 173 [.inr (some 3), .inl n] h Q := by
  have hC : cod 173 = c_P_pass := rfl
  refine CaI.start rfl ?_
  obtain ⟨g3, g4, r0, r1, r2, r3, gs, gst, gh⟩ := G.face
  have T4 := G.T (show 4 < 6 by decide)
  have hK := T4.1
  have hS := T4.2.2.1
  refine x_1 (p' := 1) hC rfl rfl rfl rfl ?_
  refine x_getR (p' := 2) hC rfl rfl rfl g3 r2 ?_
  refine x_1 (p' := 3) hC rfl rfl rfl rfl ?_
  refine x_cIV1 (p' := 4) (n := 133) hC rfl rfl rfl rfl rfl (hK.ty) ?_
  refine sp_T_elapseError hK hS htm ?_
  refine x_stI2 (p' := 5) hC rfl rfl rfl ?_
  refine x_1 (p' := 6) hC rfl rfl rfl rfl ?_
  refine x_ifeq (p' := 7) hC rfl rfl (fun c6 => ?_) (fun c6 => ?_)
  · refine x_1 (p' := 10) hC rfl rfl rfl rfl ?_
    refine x_cVV0 (p' := 11) (n := 186) hC rfl rfl rfl rfl rfl (g3) ?_
    refine sp_P_remember G (by have := hc.1; omega) hc.2.1 h7 hb (fun H1 o1 w1 tr1 S1 R1 st1 G1 C1 hrm t41 t51 => ?_)
    have hrm2 := hrm
    obtain ⟨n1, hn1, hn2, hn3, ⟨es4, er4, es5, er5⟩, hrest⟩ := hrm2
    obtain ⟨g3, g4, r0, r1, r2, r3, gs, gst, gh⟩ := G1.face
    have T4 := G1.T (show 4 < 6 by decide)
    rw [es4, er4] at T4
    have hK := T4.1
    have hS := T4.2.2.1
    refine x_1 (p' := 12) hC rfl rfl rfl rfl ?_
    refine x_getR (p' := 13) hC rfl rfl rfl g3 r2 ?_
    refine x_1 (p' := 14) hC rfl rfl rfl rfl ?_
    refine x_cVV1 (p' := 15) (n := 134) hC rfl rfl rfl rfl rfl (hK.ty) ?_
    refine hE c6 T4 (fun H2 o2 w2 S2 R2 E2 T2 hp2 => ?_)
    have G2 := G1.tree (show 4 < 6 by decide) E2 T2
    have C2 := G1.ck (show 4 < 6 by decide) E2
    obtain ⟨g3, g4, r0, r1, r2, r3, gs, gst, gh⟩ := G2.face
    have hK := T2.1
    have hS := T2.2.2.1
    refine x_1 (p' := 16) hC rfl rfl rfl rfl ?_
    refine x_getR (p' := 17) hC rfl rfl rfl g3 r2 ?_
    refine z_ti (p' := 18) (kz := 6) hK hS hC rfl rfl rfl rfl ?_
    refine x_iret hC rfl rfl rfl ⟨_, rfl, ?_⟩
    exact K2 c6 _ _ _ _ _ _ _ _ _ G2 (C1.trans C2) hrm hp2
  · refine x_1 (p' := 8) hC rfl rfl rfl rfl ?_
    refine x_iret hC rfl rfl rfl ⟨_, rfl, ?_⟩
    exact K1 c6
set_option maxRecDepth 20000 in
set_option maxHeartbeats 2000000 in
theorem sp_P_count {d : Nat} {h : HP} {o : Nat → Nat} {w : Nat → Nat × Nat} {tr : Nat → Nat} {S : Nat → Nat → Int → Int} {R : Nat → Nat → List FV} {st : Int} {U0 : Nat} (G : GP U0 h o w tr S R st) (hc : CI (S 4)) {L A C D B E : Int} {tx nu : Int → Int} (hO : OT h h L A C D B E tx nu) (hL : 0 ≤ L ∧ L ≤ 60) {v : Int} {Q : Int → HP → Prop} (K1 : v = 9 → Q st h) (K2 : v = 10 → Q L h) (K3 : 0 ≤ v ∧ v ≤ 8 → Q (cTot (S 4) v) h) (K4 : ¬ (0 ≤ v ∧ v ≤ 10) → Q (-1000001) h) : CaI (d + 7) 180 [.inr (some 3), .inl v] h Q := by
  have hC : cod 180 = c_P_count := rfl
  refine CaI.start rfl ?_
  obtain ⟨g3, g4, r0, r1, r2, r3, gs, gst, gh⟩ := G.face
  have T4 := G.T (show 4 < 6 by decide)
  have hK := T4.1
  have hS := T4.2.2.1
  refine x_1 (p' := 1) hC rfl rfl rfl rfl ?_
  rcases (show (v = 9) ∨ (v = 10) ∨ (¬ v = 9 ∧ ¬ v = 10) by omega) with hlw | hlw | hlw
  · refine x_lswt (t := 2) rfl 1 (by show e_key _ [_, _] 1 = _; exact key0 hlw) rfl ?_
    refine x_1 (p' := 3) hC rfl rfl rfl rfl ?_
    refine x_getI (p' := 4) hC rfl rfl rfl g3 ?_
    rw [show hI _ 3 ((4 : Nat) : Int) = _ from gs]
    refine x_iret hC rfl rfl rfl ⟨_, rfl, ?_⟩
    first
      | exact K1 (by omega)
      | exact K2 (by omega)
      | exact K3 (by omega)
      | exact K4 (by omega)
  · refine x_lswt (t := 5) rfl 2 (by show e_key _ [_, _] 1 = _; exact (key1 (show ¬ v = 9 by omega)).trans (key0 hlw)) rfl ?_
    refine x_1 (p' := 6) hC rfl rfl rfl rfl ?_
    refine x_getR (p' := 7) hC rfl rfl rfl g3 r1 ?_
    refine z_og1 (p' := 8) hO hC rfl rfl ?_
    refine x_iret hC rfl rfl rfl ⟨_, rfl, ?_⟩
    first
      | exact K1 (by omega)
      | exact K2 (by omega)
      | exact K3 (by omega)
      | exact K4 (by omega)
  · refine x_lswt (t := 9) rfl 0 (by show e_key _ [_, _] 1 = _; exact (key1 (show ¬ v = 9 by omega)).trans ((key1 (show ¬ v = 10 by omega)).trans (rfl))) rfl ?_
    refine x_1 (p' := 10) hC rfl rfl rfl rfl ?_
    refine x_1 (p' := 11) hC rfl rfl rfl rfl ?_
    refine x_1 (p' := 12) hC rfl rfl rfl rfl ?_
    refine x_cIS3 (p' := 13) (n := 187) hC rfl rfl rfl rfl rfl ?_
    refine sp_P_isWithin ?_
    refine x_ifeq (p' := 14) hC rfl rfl (fun c13 => ?_) (fun c13 => ?_)
    · have c13 := b2i_0.mp c13
      refine x_ldc (p' := 20) (v := (-1000001)) hC rfl rfl (by decide) ?_
      refine x_iret hC rfl rfl rfl ⟨_, rfl, ?_⟩
      first
        | exact K1 (by omega)
        | exact K2 (by omega)
        | exact K3 (by omega)
        | exact K4 (by omega)
    · have c13 := b2i_n0.mp c13
      refine x_1 (p' := 15) hC rfl rfl rfl rfl ?_
      refine x_getR (p' := 16) hC rfl rfl rfl g3 r2 ?_
      refine x_1 (p' := 17) hC rfl rfl rfl rfl ?_
      refine x_cIV1 (p' := 18) (n := 153) hC rfl rfl rfl rfl rfl (hK.ty) ?_
      refine sp_T_total hK hS hc (by omega) ?_
      refine x_1 (p' := 20) hC rfl rfl rfl rfl ?_
      refine x_iret hC rfl rfl rfl ⟨_, rfl, ?_⟩
      first
        | exact K1 (by omega)
        | exact K2 (by omega)
        | exact K3 (by omega)
        | exact K4 (by omega)

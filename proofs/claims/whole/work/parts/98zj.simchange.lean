/-! THE SIMULATION: a step of the law: what changes -/
set_option maxRecDepth 20000 in
set_option maxHeartbeats 2000000 in
theorem sp_m_type2 {d : Nat} {m : Nat} {h : HP} (hO : RO m h) {X : Nat → Int → Int} (t0 : 0 ≤ X 0 6) (t1 : X 0 6 ≤ 60) {c : Int} {Q : Int → HP → Prop} (K1 : ¬ (32 ≤ c ∧ c ≤ 126) → Q (-1000001) (wX m h X)) (K2 : 32 ≤ c ∧ c ≤ 126 → X 0 6 = 60 → Q (-1000003) (wX m h X)) (K3 : 32 ≤ c ∧ c ≤ 126 → X 0 6 < 60 → Q (X 0 6 + 1) (wX m h (upX (upX X 5 (X 0 6) c) 0 6 (X 0 6 + 1)))) : CaI (d + 1) 71 [.inr (some m), .inl c] (wX m h X) Q := by
  have hC : cod 71 = c_m_type := rfl
  refine CaI.start rfl ?_
  refine x_1 (p' := 1) hC rfl rfl rfl rfl ?_
  refine x_1 (p' := 2) hC rfl rfl rfl rfl ?_
  refine x_1 (p' := 3) hC rfl rfl rfl rfl ?_
  refine x_cIS3 (p' := 4) (n := 2) hC rfl rfl rfl rfl rfl ?_
  refine sp_m_in ?_
  refine x_ifne (p' := 5) hC rfl rfl (fun c4 => ?_) (fun c4 => ?_)
  · have c4 := b2i_n0.mp c4
    refine x_1 (p' := 8) hC rfl rfl rfl rfl ?_
    refine y_gI (p' := 9) (kz := 6) hO hC rfl rfl rfl rfl ?_
    refine x_1 (p' := 10) hC rfl rfl rfl rfl ?_
    refine x_icne (p' := 11) hC rfl rfl (fun c10 => ?_) (fun c10 => ?_)
    · refine x_1 (p' := 14) hC rfl rfl rfl rfl ?_
      refine y_gR (p' := 15) (n := 5) hO hC rfl rfl rfl rfl ?_
      refine x_1 (p' := 16) hC rfl rfl rfl rfl ?_
      refine y_gI (p' := 17) (kz := 6) hO hC rfl rfl rfl rfl ?_
      refine x_1 (p' := 18) hC rfl rfl rfl rfl ?_
      refine x_1 (p' := 19) hC rfl rfl rfl rfl ?_
      rw [i2c_eq (by omega) (by omega)]
      refine y_cst (p' := 20) hO hC rfl rfl rfl (by omega) (by omega) (by omega) ?_
      refine x_1 (p' := 21) hC rfl rfl rfl rfl ?_
      refine x_1 (p' := 22) hC rfl rfl rfl rfl ?_
      refine y_gI (p' := 23) (kz := 6) hO hC rfl rfl rfl rfl ?_
      rw [upX_ne (by decide)]
      refine x_1 (p' := 24) hC rfl rfl rfl rfl ?_
      refine x_add (p' := 25) hC rfl rfl rfl (⟨by omega, by omega⟩) ?_
      refine y_pI (p' := 26) (kz := 6) hO hC rfl rfl rfl rfl ?_
      refine x_1 (p' := 27) hC rfl rfl rfl rfl ?_
      refine y_gI (p' := 28) (kz := 6) hO hC rfl rfl rfl rfl ?_
      rw [upX_eq, ups_eq rfl]
      refine x_iret hC rfl rfl rfl ⟨_, rfl, ?_⟩
      exact K3 (by omega) (by omega)
    · refine x_ldc (p' := 12) (v := (-1000003)) hC rfl rfl (by decide) ?_
      refine x_iret hC rfl rfl rfl ⟨_, rfl, ?_⟩
      exact K2 (by omega) (by omega)
  · have c4 := b2i_0.mp c4
    refine x_ldc (p' := 6) (v := (-1000001)) hC rfl rfl (by decide) ?_
    refine x_iret hC rfl rfl rfl ⟨_, rfl, ?_⟩
    exact K1 (by omega)
theorem act_glob {n L0 : Nat} {xs : Nat → Int32} {h H1 : HP} {U0 : Nat} {o o' : Nat → Nat} {w w' : Nat → Nat × Nat} {tr tr' : Nat → Nat} {S S' : Nat → Nat → Int → Int} {R R' : Nat → Nat → List FV} {st st' : Int} {X : Nat → Int → Int} {L A C D B E : Int} {tx nu : Int → Int} {O O' : List (Int × Int)} {Bd Bd' : Int} {S4 : Nat → Int → Int} {R4 : Nat → List FV} {Z : Nat → Int → Int} (H : HeapG L0 xs h U0 o w tr S R st X L A C D B E tx nu) (P : PureG n st X L tx O Bd S R) (hn : n + 1 ≤ 512) (G' : GP U0 H1 o' w' tr' (upG S' 4 S4) (upG R' 4 R4) st') (c : CK h H1) (rm : RemP st S R S' R' st') (z0 : Z 0 4 = X 0 4 ∧ Z 0 6 = X 0 6) (z2 : Z 2 = X 2) (z3 : EqR (Z 3) (X 1)) (z5 : Z 5 = X 5) (hO : (∀ x, x ∈ O → x ∈ O') ∧ O'.length ≤ n + 1) (hB : Bd ≤ Bd' ∧ Bd' ≤ 20 * (n : Int) + 20) (h4 : SimG (Z 1) O' Bd' S4 R4) : Glob (n + 1) L0 xs (wX 488 H1 (acX Z)) := by
  refine (H.ck G' c).glob (P.acted hn rm (fun j hj => ?_) z0 z2 z3 z5 hO hB h4 ?_)
  · have := (G'.T (r := j) (by omega)).cnt
    rw [upG_ne (by omega), upG_ne (by omega)] at this
    exact this
  · obtain ⟨m, _, _, _, ⟨_, _, _, e⟩, _⟩ := rm
    rw [e]
    exact P.2.2.2.2.2.2.2 5 (by decide)
/-- the reference's state behind a call that changed the row to s -/
theorem zst {X : Nat → Int → Int} {s : Int → Int} : (setS (cpX X 3 15568 (X 1)) s 0 4 = X 0 4 ∧ setS (cpX X 3 15568 (X 1)) s 0 6 = X 0 6) ∧ setS (cpX X 3 15568 (X 1)) s 2 = X 2 ∧ EqR (setS (cpX X 3 15568 (X 1)) s 3) (X 1) ∧ setS (cpX X 3 15568 (X 1)) s 5 = X 5 := by
  have e : ∀ a, a ≠ 1 → a ≠ 3 → setS (cpX X 3 15568 (X 1)) s a = X a := fun a b c => (setS_ne b).trans (cpX_ne c)
  refine ⟨⟨by rw [e 0 (by decide) (by decide)], by rw [e 0 (by decide) (by decide)]⟩, e 2 (by decide) (by decide), ?_, e 5 (by decide) (by decide)⟩
  rw [setS_ne (by decide)]
  exact cpX_EqR
theorem st_hub {n L0 : Nat} {xs : Nat → Int32} {h : HP} (G : Glob n L0 xs h) (hn : n + 1 ≤ 512) (a p : Int) : LStp n L0 xs h 165 21 [.inl a, .inl p] := by
  obtain ⟨U0, o, ww, tr, S, R, st, X, L, A, C, D, B, E, tx, nu, O, Bd, H, P⟩ := G
  have hS := P.2.2.2.2.2.1.1
  have f := sim_facts hS
  have p1 := P.1
  have hq : 0 ≤ X 0 4 ∧ X 0 4 ≤ 4 := by rw [p1.1]; exact p1.2.2.2
  have stay : Glob (n + 1) L0 xs (wX 488 h X) := H.glob (P.next hn ⟨rfl, rfl⟩ EqR.refl rfl rfl P.2.2.2.2.2.1 (fun _ _ => ⟨rfl, rfl⟩) P.2.2.2.2.2.2.2)
  have stayB : Glob (n + 1) L0 xs (wX 488 h (bgX X)) := H.glob (P.next hn ⟨congrFun bgX_0 4, congrFun bgX_0 6⟩ (by rw [bgX_1]; exact EqR.refl) (cpX_ne (by decide)) (cpX_ne (by decide)) P.2.2.2.2.2.1 (fun _ _ => ⟨rfl, rfl⟩) P.2.2.2.2.2.2.2)
  have j := hS.join (a := a) (p := p) (z := if cT (S 4) 4 < 5 then 1 else 0)
  have t0 := hS.1.1.1
  have h00 := hS.2.1.1.1
  refine sp_P_hub (d := 8) H.1 f.1 f.2.1.1 f.2.2.1 f.2.2.2.1 (fun k => ?_) (fun k H1 o' w' tr' S' R' st' G1 C1 rm => ?_)
  · refine ⟨H.2.2.2.1, H.2.1.ty, LStp.mid H.2.1 ?_⟩
    refine sp_m_hub (d := 10) H.2.1.1 hS.2.1.1 hq (fun b => ⟨(j.1 b).symm, stay⟩) (fun b c => ⟨(j.2.1 b c).symm, stay⟩) (fun b c e => ⟨(j.2.2.1 b c (by rw [if_neg (by omega)])).symm, stay⟩) (fun b c e => absurd (j.2.2.2 b c (by rw [if_pos (by omega)]; decide)) k)
  · have H2 := H.ck G1 C1
    refine ⟨H2.2.2.2.1, H2.2.1.ty, LStp.mid H2.2.1 ?_⟩
    refine sp_m_hub (d := 10) H2.2.1.1 hS.2.1.1 hq (fun b => absurd k (by rw [j.1 b]; decide)) (fun b c => absurd k (by rw [j.2.1 b c]; decide)) (fun b c e => absurd k (by rw [j.2.2.1 b c (by rw [if_neg (by omega)])]; decide)) (fun b c e => ⟨t0, ?_⟩)
    obtain ⟨n1, n2, n3⟩ := hS.newHub b e
    refine act_glob (O' := O) (Bd' := Bd) H P hn G1 C1 rm zst.1 zst.2.1 zst.2.2.1 zst.2.2.2 ⟨fun x y => y, by have := P.2.2.1.1; omega⟩ ⟨Int.le_refl _, by have := P.2.2.2.1.2; omega⟩ ?_
    rw [setS_1]
    refine ⟨by rw [n2]; exact n1, fun q x y => ?_, by rw [n2]; exact P.2.2.2.2.2.1.2.2⟩
    rw [n3] at x
    rw [show kR (upR (R 4) (13 + 7 * (cT (S 4) 4).toNat) []) q = kR (R 4) q from upR_ne (by omega)]
    exact P.2.2.2.2.2.1.2.1 q (by omega) y
theorem st_unit {n L0 : Nat} {xs : Nat → Int32} {h : HP} (G : Glob n L0 xs h) (hn : n + 1 ≤ 512) (a p : Int) : LStp n L0 xs h 166 22 [.inl a, .inl p] := by
  obtain ⟨U0, o, ww, tr, S, R, st, X, L, A, C, D, B, E, tx, nu, O, Bd, H, P⟩ := G
  have hS := P.2.2.2.2.2.1.1
  have f := sim_facts hS
  have p1 := P.1
  have hq : 0 ≤ X 0 4 ∧ X 0 4 ≤ 4 := by rw [p1.1]; exact p1.2.2.2
  have stay : Glob (n + 1) L0 xs (wX 488 h X) := H.glob (P.next hn ⟨rfl, rfl⟩ EqR.refl rfl rfl P.2.2.2.2.2.1 (fun _ _ => ⟨rfl, rfl⟩) P.2.2.2.2.2.2.2)
  have stayB : Glob (n + 1) L0 xs (wX 488 h (bgX X)) := H.glob (P.next hn ⟨congrFun bgX_0 4, congrFun bgX_0 6⟩ (by rw [bgX_1]; exact EqR.refl) (cpX_ne (by decide)) (cpX_ne (by decide)) P.2.2.2.2.2.1 (fun _ _ => ⟨rfl, rfl⟩) P.2.2.2.2.2.2.2)
  have j := hS.join (a := a) (p := p) (z := if cT (S 4) 5 < 10 then 1 else 0)
  have t1 := hS.1.1.2.1
  have h01 := hS.2.1.1.2.1
  refine sp_P_unit (d := 8) H.1 f.1 f.2.1.1 f.2.2.1 f.2.2.2.1 (fun k => ?_) (fun k H1 o' w' tr' S' R' st' G1 C1 rm => ?_)
  · refine ⟨H.2.2.2.1, H.2.1.ty, LStp.mid H.2.1 ?_⟩
    refine sp_m_unit (d := 10) H.2.1.1 hS.2.1.1 hq (fun b => ⟨(j.1 b).symm, stay⟩) (fun b c => ⟨(j.2.1 b c).symm, stay⟩) (fun b c e => ⟨(j.2.2.1 b c (by rw [if_neg (by omega)])).symm, stay⟩) (fun b c e => absurd (j.2.2.2 b c (by rw [if_pos (by omega)]; decide)) k)
  · have H2 := H.ck G1 C1
    refine ⟨H2.2.2.2.1, H2.2.1.ty, LStp.mid H2.2.1 ?_⟩
    refine sp_m_unit (d := 10) H2.2.1.1 hS.2.1.1 hq (fun b => absurd k (by rw [j.1 b]; decide)) (fun b c => absurd k (by rw [j.2.1 b c]; decide)) (fun b c e => absurd k (by rw [j.2.2.1 b c (by rw [if_neg (by omega)])]; decide)) (fun b c e => ⟨t1, ?_⟩)
    obtain ⟨n1, n2, n3⟩ := hS.newUnit b e
    refine act_glob (O' := O) (Bd' := Bd) H P hn G1 C1 rm zst.1 zst.2.1 zst.2.2.1 zst.2.2.2 ⟨fun x y => y, by have := P.2.2.1.1; omega⟩ ⟨Int.le_refl _, by have := P.2.2.2.1.2; omega⟩ ?_
    rw [setS_1]
    refine ⟨by rw [n2]; exact n1, fun q x y => ?_, by rw [n2]; exact P.2.2.2.2.2.1.2.2⟩
    rw [n3] at x
    exact P.2.2.2.2.2.1.2.1 q x y
theorem st_set {n L0 : Nat} {xs : Nat → Int32} {h : HP} (G : Glob n L0 xs h) (hn : n + 1 ≤ 512) (g w v : Int) : LStp n L0 xs h 168 26 [.inl g, .inl w, .inl v] := by
  obtain ⟨U0, o, ww, tr, S, R, st, X, L, A, C, D, B, E, tx, nu, O, Bd, H, P⟩ := G
  have hS := P.2.2.2.2.2.1.1
  have f := sim_facts hS
  have p1 := P.1
  have hq : 0 ≤ X 0 4 ∧ X 0 4 ≤ 4 := by rw [p1.1]; exact p1.2.2.2
  have stay : Glob (n + 1) L0 xs (wX 488 h X) := H.glob (P.next hn ⟨rfl, rfl⟩ EqR.refl rfl rfl P.2.2.2.2.2.1 (fun _ _ => ⟨rfl, rfl⟩) P.2.2.2.2.2.2.2)
  have stayB : Glob (n + 1) L0 xs (wX 488 h (bgX X)) := H.glob (P.next hn ⟨congrFun bgX_0 4, congrFun bgX_0 6⟩ (by rw [bgX_1]; exact EqR.refl) (cpX_ne (by decide)) (cpX_ne (by decide)) P.2.2.2.2.2.1 (fun _ _ => ⟨rfl, rfl⟩) P.2.2.2.2.2.2.2)
  have j := hS.setE (g := g) (w := w) (v := v)
  have hold : isH (X 1) g → 0 ≤ w ∧ w ≤ 4 → 0 ≤ rOf (X 1) g w := fun a b => by
    have c := hS.2.1.2.2.1 g a.1 (by have := a.2; omega)
    have p := hS.2.1.1.per (g := g) ⟨a.1, by have := a.2; omega⟩
    rcases (show w = 0 ∨ w = 1 ∨ w = 2 ∨ w = 3 ∨ w = 4 by omega) with e | e | e | e | e
    · rw [e]; exact c.1.1
    · rw [e]; exact c.2.1.1
    · rw [e]; exact c.2.2.1.1
    · rw [e]; exact c.2.2.2.1.1
    · rw [e]; omega
  refine sp_P_set (d := 8) H.1 f.1 f.2.1.1 f.2.2.1 (fun k => ?_) (fun k H1 o' w' tr' S' R' st' G1 C1 rm => ?_)
  · refine ⟨H.2.2.2.1, H.2.1.ty, LStp.mid H.2.1 ?_⟩
    refine sp_m_set (d := 10) H.2.1.1 hS.2.1.1 hS.RF hq hold (fun b => ⟨(j.1 b).symm, stay⟩) (fun b c e => ⟨(j.2.2 b c e).symm, stay⟩) (fun b c => absurd (j.2.1 b c) k)
  · have H2 := H.ck G1 C1
    refine ⟨H2.2.2.2.1, H2.2.1.ty, LStp.mid H2.2.1 ?_⟩
    refine sp_m_set (d := 10) H2.2.1.1 hS.2.1.1 hS.RF hq hold (fun b => absurd k (by rw [j.1 b]; decide)) (fun b c e => absurd k (by rw [j.2.2 b c e]; decide)) (fun b c => ⟨?_, ?_⟩)
    · have bb := b.1
      exact hS.1.cs ⟨bb.1, by have := bb.2; omega⟩ ⟨b.2.1.1, by have := b.2.1.2; omega⟩
    · have n1 := hS.set b c
      have bb := b.1
      have b1 := b.2.1
      have n2 : ups (X 1) (8 + 10 * g + w) v 2 = X 1 2 := ups_ne (by have := bb.1; omega)
      have n3 : ups (X 1) (8 + 10 * g + w) v 0 = X 1 0 := ups_ne (by have := bb.1; omega)
      refine act_glob (O' := O) (Bd' := Bd) H P hn G1 C1 rm zst.1 zst.2.1 zst.2.2.1 zst.2.2.2 ⟨fun x y => y, by have := P.2.2.1.1; omega⟩ ⟨Int.le_refl _, by have := P.2.2.2.1.2; omega⟩ ?_
      rw [setS_1]
      refine ⟨by rw [n2]; exact n1, fun q x y => ?_, by rw [n2]; exact P.2.2.2.2.2.1.2.2⟩
      rw [n3] at x
      exact P.2.2.2.2.2.1.2.1 q x y
theorem aX_bad {v : Int} {Y : Nat → Int → Int} (h : v ≤ -1000001) : aX v Y = Y := cif_t h
theorem aX_ok {v : Int} {Y : Nat → Int → Int} (h : ¬ v ≤ -1000001) : aX v Y = acX Y := cif_f h
theorem st_takeOff {n L0 : Nat} {xs : Nat → Int32} {h : HP} (G : Glob n L0 xs h) (hn : n + 1 ≤ 512) (u : Int) : LStp n L0 xs h 167 24 [.inl u] := by
  obtain ⟨U0, o, ww, tr, S, R, st, X, L, A, C, D, B, E, tx, nu, O, Bd, H, P⟩ := G
  have hS := P.2.2.2.2.2.1.1
  have f := sim_facts hS
  have p1 := P.1
  have hq : 0 ≤ X 0 4 ∧ X 0 4 ≤ 4 := by rw [p1.1]; exact p1.2.2.2
  have stay : Glob (n + 1) L0 xs (wX 488 h X) := H.glob (P.next hn ⟨rfl, rfl⟩ EqR.refl rfl rfl P.2.2.2.2.2.1 (fun _ _ => ⟨rfl, rfl⟩) P.2.2.2.2.2.2.2)
  have stayB : Glob (n + 1) L0 xs (wX 488 h (bgX X)) := H.glob (P.next hn ⟨congrFun bgX_0 4, congrFun bgX_0 6⟩ (by rw [bgX_1]; exact EqR.refl) (cpX_ne (by decide)) (cpX_ne (by decide)) P.2.2.2.2.2.1 (fun _ _ => ⟨rfl, rfl⟩) P.2.2.2.2.2.2.2)
  have j := hS.ret (u := u)
  have rfun : ∀ s : Int → Int, 0 ≤ rOn s := fun s => by
    unfold rOn fI
    generalize (s 1).toNat = m
    induction m with
    | zero => exact Int.le_refl _
    | succ m ih =>
      rw [List.range_succ, List.foldl_append]
      have := b2i_01 (rIts s (m : Int) 2 = 0)
      show 0 ≤ _ + b2i (rIts s (m : Int) 2 = 0)
      omega
  refine sp_P_takeOff (d := 8) H.1 f.1 f.2.1.1 f.2.2.1 (fun k => ?_) (fun k H1 o' w' tr' S' R' st' G1 C1 rm => ?_)
  · refine ⟨H.2.2.2.1, H.2.1.ty, LStp.mid H.2.1 ?_⟩
    refine sp_m_takeOff (d := 11) H.2.1.1 hS.2.1.1 hq (fun v Y r => ?_)
    unfold RTake at r
    rw [bgX_1] at r
    rcases r with ⟨b, e, y⟩ | ⟨b, c, e, y⟩ | ⟨b, c, e, y⟩
    · rw [e, y, aX_bad (by decide)]
      exact ⟨(j.1 b).symm, stayB⟩
    · rw [e, y, aX_bad (by decide)]
      exact ⟨(j.2.1 b c).symm, stayB⟩
    · exact absurd (j.2.2 b c) k
  · have H2 := H.ck G1 C1
    refine ⟨H2.2.2.2.1, H2.2.1.ty, LStp.mid H2.2.1 ?_⟩
    refine sp_m_takeOff (d := 11) H2.2.1.1 hS.2.1.1 hq (fun v Y r => ?_)
    unfold RTake at r
    rw [bgX_1] at r
    rcases r with ⟨b, e, y⟩ | ⟨b, c, e, y⟩ | ⟨b, c, e, y⟩
    · exact absurd k (by rw [j.1 b]; decide)
    · exact absurd k (by rw [j.2.1 b c]; decide)
    · have v0 := rfun (ups (X 1) (58 + 4 * u + 2) 1)
      have bb := b.1
      have n1 := hS.unit23 (u := u) (w := 2) (v := 1) ⟨b.1, by have := b.2; omega⟩ (Or.inl rfl) (fun _ => Or.inr rfl)
      have n2 : ups (X 1) (58 + 4 * u + 2) 1 2 = X 1 2 := ups_ne (by omega)
      have n3 : ups (X 1) (58 + 4 * u + 2) 1 0 = X 1 0 := ups_ne (by omega)
      rw [y, aX_ok (by omega)]
      refine ⟨by rw [e]; exact n1.on, ?_⟩
      refine act_glob (Z := setS (cpX X 3 15568 (X 1)) (ups (X 1) (58 + 4 * u + 2) 1)) (O' := O) (Bd' := Bd) H P hn G1 C1 rm zst.1 zst.2.1 zst.2.2.1 zst.2.2.2 ⟨fun x y => y, by have := P.2.2.1.1; omega⟩ ⟨Int.le_refl _, by have := P.2.2.2.1.2; omega⟩ ?_
      rw [setS_1]
      refine ⟨by rw [n2]; exact n1, fun q x y => ?_, by rw [n2]; exact P.2.2.2.2.2.1.2.2⟩
      rw [n3] at x
      exact P.2.2.2.2.2.1.2.1 q x y
theorem st_send {n L0 : Nat} {xs : Nat → Int32} {h : HP} (G : Glob n L0 xs h) (hn : n + 1 ≤ 512) (u t v fl tk : Int) : LStp n L0 xs h 172 58 [.inl u, .inl t, .inl v, .inl fl, .inl tk] := by
  obtain ⟨U0, o, ww, tr, S, R, st, X, L, A, C, D, B, E, tx, nu, O, Bd, H, P⟩ := G
  have hS := P.2.2.2.2.2.1.1
  have f := sim_facts hS
  have p1 := P.1
  have hq : 0 ≤ X 0 4 ∧ X 0 4 ≤ 4 := by rw [p1.1]; exact p1.2.2.2
  have stay : Glob (n + 1) L0 xs (wX 488 h X) := H.glob (P.next hn ⟨rfl, rfl⟩ EqR.refl rfl rfl P.2.2.2.2.2.1 (fun _ _ => ⟨rfl, rfl⟩) P.2.2.2.2.2.2.2)
  have stayB : Glob (n + 1) L0 xs (wX 488 h (bgX X)) := H.glob (P.next hn ⟨congrFun bgX_0 4, congrFun bgX_0 6⟩ (by rw [bgX_1]; exact EqR.refl) (cpX_ne (by decide)) (cpX_ne (by decide)) P.2.2.2.2.2.1 (fun _ _ => ⟨rfl, rfl⟩) P.2.2.2.2.2.2.2)
  have j := hS.dep (u := u) (st := t) (v := v) (fl := fl) (tk := tk)
  have c := hS.2.1.2.2.2.2.1
  have hd : 0 ≤ X 1 2 ∧ X 1 2 ≤ 100000 := ⟨c.1, by omega⟩
  refine sp_P_send (d := 8) H.1 f.1 f.2.1.1 f.2.2.1 f.2.2.2.2.1 (fun k => ?_) (fun k H1 o' w' tr' S' R' st' G1 C1 rm => ?_)
  · refine ⟨H.2.2.2.1, H.2.1.ty, LStp.mid H.2.1 ?_⟩
    refine sp_m_send (d := 12) H.2.1.1 hS.2.1.1 hq hd (fun v Y r => ?_)
    unfold RSend at r
    rw [bgX_1] at r
    rcases r with ⟨b, e, y⟩ | ⟨b, c, e, y⟩ | ⟨b, c, w, e, y⟩ | ⟨b, c, w, e, y⟩
    · rw [e, y, aX_bad (by decide)]
      exact ⟨(j.1 b).symm, stayB⟩
    · rw [e, y, aX_bad (by decide)]
      exact ⟨(j.2.1 b c).symm, stayB⟩
    · rw [e, y, aX_bad (by decide)]
      exact ⟨(j.2.2.1 b c w).symm, stayB⟩
    · exact absurd (j.2.2.2 b c w) k
  · have H2 := H.ck G1 C1
    refine ⟨H2.2.2.2.1, H2.2.1.ty, LStp.mid H2.2.1 ?_⟩
    refine sp_m_send (d := 12) H2.2.1.1 hS.2.1.1 hq hd (fun v Y r => ?_)
    unfold RSend at r
    rw [bgX_1] at r
    rcases r with ⟨b, e, y⟩ | ⟨b, c, e, y⟩ | ⟨b, c, w, e, y⟩ | ⟨b, po, w, e, y⟩
    · exact absurd k (by rw [j.1 b]; decide)
    · exact absurd k (by rw [j.2.1 b c]; decide)
    · exact absurd k (by rw [j.2.2.1 b c w]; decide)
    · have pO := P.2.2.1
      have pB := P.2.2.2.1
      have wd := P.2.2.2.2.2.1.wide (O' := O ++ [(u, t)]) (B' := Bd + 1) (fun x hx => List.mem_append.mpr (Or.inl hx)) ⟨by omega, by omega⟩
      have lO : (O ++ [(u, t)]).length = O.length + 1 := by rw [List.length_append, List.length_singleton]
      have c2 := P.2.2.2.2.2.1.1.2.1.2.2.2.2.1
      obtain ⟨n1, ⟨n2, n3⟩, n4⟩ := wd.1.sendOne (by omega) b (List.mem_append.mpr (Or.inr (List.mem_singleton.mpr rfl))) w (by omega)
      rw [y, aX_ok (by omega)]
      refine ⟨by rw [e]; exact n4, ?_⟩
      refine act_glob (Z := setS (cpX X 3 15568 (X 1)) (rOne (rFreed (X 1)) (rFree (X 1)) u t _ fl tk)) (O' := O ++ [(u, t)]) (Bd' := Bd + 1) H P hn G1 C1 rm zst.1 zst.2.1 zst.2.2.1 zst.2.2.2 ⟨fun x hx => List.mem_append.mpr (Or.inl hx), by omega⟩ ⟨by omega, by omega⟩ ?_
      rw [setS_1]
      refine ⟨by rw [n2]; exact n1, fun q x y => ?_, by rw [n2]; exact P.2.2.2.2.2.1.2.2⟩
      rw [n3] at x
      rw [kR_up3]
      exact P.2.2.2.2.2.1.2.1 q x y
theorem st_undo {n L0 : Nat} {xs : Nat → Int32} {h : HP} (G : Glob n L0 xs h) (hn : n + 1 ≤ 512) : LStp n L0 xs h 181 70 [] := by
  obtain ⟨U0, o, ww, tr, S, R, st, X, L, A, C, D, B, E, tx, nu, O, Bd, H, P⟩ := G
  have hS := P.2.2.2.2.2.1.1
  have f := sim_facts hS
  have p1 := P.1
  have hq : 0 ≤ X 0 4 ∧ X 0 4 ≤ 4 := by rw [p1.1]; exact p1.2.2.2
  have stay : Glob (n + 1) L0 xs (wX 488 h X) := H.glob (P.next hn ⟨rfl, rfl⟩ EqR.refl rfl rfl P.2.2.2.2.2.1 (fun _ _ => ⟨rfl, rfl⟩) P.2.2.2.2.2.2.2)
  have stayB : Glob (n + 1) L0 xs (wX 488 h (bgX X)) := H.glob (P.next hn ⟨congrFun bgX_0 4, congrFun bgX_0 6⟩ (by rw [bgX_1]; exact EqR.refl) (cpX_ne (by decide)) (cpX_ne (by decide)) P.2.2.2.2.2.1 (fun _ _ => ⟨rfl, rfl⟩) P.2.2.2.2.2.2.2)
  refine sp_P_undo (d := 8) H.1 (fun k => ?_) (fun m hm k H1 G1 C1 => ?_)
  · refine ⟨H.2.2.2.1, H.2.1.ty, LStp.mid H.2.1 ?_⟩
    exact sp_m_undo (d := 14) H.2.1.1 hq (fun _ => ⟨rfl, stay⟩) (fun e => absurd (p1.1.trans k) e)
  · have H2 := H.ck G1 C1
    refine ⟨H2.2.2.2.1, H2.2.1.ty, LStp.mid H2.2.1 ?_⟩
    refine sp_m_undo (d := 14) H2.2.1.1 hq (fun e => by have := p1.1; omega) (fun _ => ⟨by rw [p1.1]; omega, H2.glob (O := O) (Bd := Bd) ?_⟩)
    have x4 : X 0 4 - 1 = (m : Int) := by rw [p1.1]; omega
    rw [x4]
    have e0 : ∀ a b, ¬ (a = 0 ∧ b = 4) → a ≠ 1 → cpX (upX X 0 4 (m : Int)) 1 15568 (fun b => X 2 (15568 * (m : Int) + b)) a b = X a b := fun a b q z => by
      rw [cpX_nj z]
      exact upX_at q
    obtain ⟨_, pt, pO, pB, pT, p4, ph, pl⟩ := P
    refine ⟨⟨?_, by rw [e0 0 6 (by decide) (by decide)]; exact p1.2.1, p1.2.2.1, by omega, by omega⟩, fun j x y => by rw [e0 5 j (by omega) (by decide)]; exact pt j x y, ⟨by omega, hn⟩, ⟨pB.1, by omega⟩, pT, ?_, fun j hj => ?_, fun r hr => pl _ (swr_lt hm hr)⟩
    · rw [cpX_nj (by decide)]; exact upX_is
    · dsimp only
      rw [show swr m 4 = m from if_pos rfl]
      exact (ph m (by omega)).eqR cpX_EqR
    · dsimp only
      rw [show swr m j = j by unfold swr; rw [if_neg (by omega), if_neg (by omega)]]
      refine (ph j (by omega)).eqR (fun b b0 b1 => ?_)
      unfold blk
      exact e0 2 _ (by omega) (by decide)
theorem st_type {n L0 : Nat} {xs : Nat → Int32} {h : HP} (G : Glob n L0 xs h) (hn : n + 1 ≤ 512) (c : Int) : LStp n L0 xs h 182 71 [.inl c] := by
  obtain ⟨U0, o, ww, tr, S, R, st, X, L, A, C, D, B, E, tx, nu, O, Bd, H, P⟩ := G
  have hS := P.2.2.2.2.2.1.1
  have f := sim_facts hS
  have p1 := P.1
  have hq : 0 ≤ X 0 4 ∧ X 0 4 ≤ 4 := by rw [p1.1]; exact p1.2.2.2
  have stay : Glob (n + 1) L0 xs (wX 488 h X) := H.glob (P.next hn ⟨rfl, rfl⟩ EqR.refl rfl rfl P.2.2.2.2.2.1 (fun _ _ => ⟨rfl, rfl⟩) P.2.2.2.2.2.2.2)
  have stayB : Glob (n + 1) L0 xs (wX 488 h (bgX X)) := H.glob (P.next hn ⟨congrFun bgX_0 4, congrFun bgX_0 6⟩ (by rw [bgX_1]; exact EqR.refl) (cpX_ne (by decide)) (cpX_ne (by decide)) P.2.2.2.2.2.1 (fun _ _ => ⟨rfl, rfl⟩) P.2.2.2.2.2.2.2)
  refine sp_P_type (d := 8) H.1 H.2.2.1 p1.2.2.1 (fun k => ?_) (fun k k2 => ?_) (fun k k2 H1 G1 C1 O1 => ?_)
  · refine ⟨H.2.2.2.1, H.2.1.ty, LStp.mid H.2.1 ?_⟩
    exact sp_m_type2 (d := 14) H.2.1.1 (by have := p1.2; omega) (by have := p1.2; omega) (fun _ => ⟨rfl, stay⟩) (fun b => absurd b k) (fun b => absurd b k)
  · refine ⟨H.2.2.2.1, H.2.1.ty, LStp.mid H.2.1 ?_⟩
    exact sp_m_type2 (d := 14) H.2.1.1 (by have := p1.2; omega) (by have := p1.2; omega) (fun b => absurd k b) (fun _ _ => ⟨rfl, stay⟩) (fun _ b => by have := p1.2.1; omega)
  · have A1 := C1.ref H.2.1
    refine ⟨H.2.2.2.1.cr C1, A1.ty, LStp.mid A1 ?_⟩
    refine sp_m_type2 (d := 14) A1.1 (by have := p1.2; omega) (by have := p1.2; omega) (fun b => absurd k b) (fun _ b => by have := p1.2.1; omega) (fun _ _ => ⟨by rw [p1.2.1], ?_⟩)
    obtain ⟨_, pt, pO, pB, pT, p4, ph, pl⟩ := P
    obtain ⟨O', t1, t2, t3⟩ := pT.typed (c := c) p1.2.2.1.1
    have e1 : ∀ a, a ≠ 0 → a ≠ 5 → upX (upX X 5 (X 0 6) c) 0 6 (X 0 6 + 1) a = X a := fun a x y => (upX_ne x).trans (upX_ne y)
    have H3 : HeapG L0 xs H1 U0 o ww tr S R st X (L + 1) A C D B E (ups tx L c) nu := ⟨G1, A1, O1, H.2.2.2.1.cr C1, H.2.2.2.2⟩
    refine H3.glob (O := O') (Bd := Bd) ⟨⟨?_, ?_, by omega, p1.2.2.2⟩, fun j x y => ?_, ⟨by omega, hn⟩, ⟨pB.1, by omega⟩, t1, ?_, fun j hj => ?_, pl⟩
    · rw [upX_at (by omega), upX_at (by omega)]; exact p1.1
    · rw [upX_is, p1.2.1]
    · rw [upX_at (by omega), p1.2.1]
      by_cases z : j = L
      · rw [z, upX_is, ups_eq rfl]
        exact ⟨rfl, k⟩
      · rw [upX_at (by omega), ups_ne z]
        exact pt j x (by omega)
    · rw [e1 1 (by decide) (by decide)]
      exact p4.wide t2 ⟨Int.le_refl _, by omega⟩
    · unfold blk
      rw [e1 2 (by decide) (by decide)]
      exact (ph j hj).wide t2 ⟨Int.le_refl _, by omega⟩
theorem st_clearText {n L0 : Nat} {xs : Nat → Int32} {h : HP} (G : Glob n L0 xs h) (hn : n + 1 ≤ 512) : LStp n L0 xs h 183 72 [] := by
  obtain ⟨U0, o, ww, tr, S, R, st, X, L, A, C, D, B, E, tx, nu, O, Bd, H, P⟩ := G
  have hS := P.2.2.2.2.2.1.1
  have f := sim_facts hS
  have p1 := P.1
  have hq : 0 ≤ X 0 4 ∧ X 0 4 ≤ 4 := by rw [p1.1]; exact p1.2.2.2
  have stay : Glob (n + 1) L0 xs (wX 488 h X) := H.glob (P.next hn ⟨rfl, rfl⟩ EqR.refl rfl rfl P.2.2.2.2.2.1 (fun _ _ => ⟨rfl, rfl⟩) P.2.2.2.2.2.2.2)
  have stayB : Glob (n + 1) L0 xs (wX 488 h (bgX X)) := H.glob (P.next hn ⟨congrFun bgX_0 4, congrFun bgX_0 6⟩ (by rw [bgX_1]; exact EqR.refl) (cpX_ne (by decide)) (cpX_ne (by decide)) P.2.2.2.2.2.1 (fun _ _ => ⟨rfl, rfl⟩) P.2.2.2.2.2.2.2)
  refine sp_P_clearText (d := 8) H.1 H.2.2.1 p1.2.2.1 (fun H1 G1 C1 O1 => ?_)
  have A1 := C1.ref H.2.1
  refine ⟨H.2.2.2.1.cr C1, A1.ty, LStp.mid A1 ?_⟩
  refine sp_m_clearText (d := 15) A1.1 ⟨p1.2.1, ?_⟩
  obtain ⟨_, pt, pO, pB, pT, p4, ph, pl⟩ := P
  have e1 : ∀ a, a ≠ 0 → upX X 0 6 0 a = X a := fun a x => upX_ne x
  have H3 : HeapG L0 xs H1 U0 o ww tr S R st X 0 A C D B E tx nu := ⟨G1, A1, O1, H.2.2.2.1.cr C1, H.2.2.2.2⟩
  refine H3.glob (O := O) (Bd := Bd) ⟨⟨?_, upX_is, by omega, p1.2.2.2⟩, fun j x y => by omega, ⟨by omega, hn⟩, ⟨pB.1, by omega⟩, fun a n0 n1 n2 nx x k => ?_, ?_, fun j hj => ?_, pl⟩
  · rw [upX_at (by omega)]; exact p1.1
  · have := k.1
    omega
  · rw [e1 1 (by decide)]
    exact p4
  · unfold blk
    rw [e1 2 (by decide)]
    exact ph j hj

/-! THE CLASS: its constructor -/
def trI (r : Nat) : Nat := if r = 4 then 8 else if r = 5 then 88 else 168 + 80 * r
def BaI (H : HP) : Prop := Sta H ∧ (hTy H 3 = (7, 0) ∧ hTy H 4 = (204, 4)) ∧ (hR H 3 0 = some 4 ∧ hR H 3 1 = some 5 ∧ hR H 3 2 = some 8 ∧ hR H 3 3 = some 88) ∧ hI H 3 4 = 0 ∧ OO5 H ∧ hI H 5 1 = 0
theorem Sta.al {c : Nat} {h H : HP} (s : Sta h) (x : Al c h H) (hc : 2 ≤ c) (hz : 2 ≤ hZ h) : Sta H := by
  obtain ⟨⟨s1, s2⟩, s3, s4⟩ := s
  exact ⟨⟨(x.2.1 0 (by omega)).trans s1, (x.2.1 1 (by omega)).trans s2⟩, by rw [(x.2.2 0 (by omega) (by omega)).1]; exact s3, by rw [(x.2.2 1 (by omega) (by omega)).1]; exact s4⟩
theorem OO5.al {c : Nat} {h H : HP} (s : OO5 h) (x : Al c h H) (hc : c ≠ 5) (hz : 8 ≤ hZ h) : OO5 H := by
  obtain ⟨e1, e2, e3, e4, e5⟩ := s
  have h5 := (x.2.2 5 (by omega) (by omega)).2
  exact ⟨(x.2.1 5 (by omega)).trans e1, (x.2.1 6 (by omega)).trans e2, (x.2.1 7 (by omega)).trans e3, by rw [h5]; exact e4, by rw [h5]; exact e5⟩
theorem BaI.al {h H : HP} (s : BaI h) (x : Al 4 h H) (hz : 8 ≤ hZ h) : BaI H := by
  obtain ⟨a, ⟨b1, b2⟩, c, d, e, f⟩ := s
  have h3 := x.2.2 3 (by omega) (by omega)
  exact ⟨a.al x (by omega) (by omega), ⟨(x.2.1 3 (by omega)).trans b1, (x.2.1 4 (by omega)).trans b2⟩, by rw [h3.2]; exact c, by rw [h3.1]; exact d, e.al x (by omega) (by omega), by rw [(x.2.2 5 (by omega) (by omega)).1]; exact f⟩
theorem TR.al {t c : Nat} {G H : HP} {S : Nat → Int → Int} {R : Nat → List FV} (T : TR t G oG wG S R) (ht : 8 ≤ t) (x : Al c G H) (hc : c = 3 ∨ c = 4) : TR t H oG wG S R :=
  T.same ht ⟨oG_out (Or.inl (by decide)), oG_out (Or.inl (by decide))⟩ x.1 x.2.1 (fun b hb h3 h4 => x.2.2 b hb (by omega))
theorem treeAl {G H : HP} {S : Nat → Int → Int} {R : Nat → List FV} (x : OldS (hZ G) (sNew G (5, 0) 12) H) (z : hZ H = hZ G + 80) (T : TR (hZ G) H oG wG S R) : Al (hZ G) (sNew G (5, 0) 12) H := by
  refine ⟨by rw [z]; show hZ G + 1 ≤ _; omega, fun b hb => ?_, fun b hb hn => ?_⟩
  · have hb2 : b < hZ G + 1 := hb
    by_cases h : b = hZ G
    · rw [h, hTy_at]
      have := T.1.2.2.1 0 (by decide)
      rw [Nat.add_zero] at this
      exact this
    · exact (x b (by omega)).1
  · have hb2 : b < hZ G + 1 := hb
    exact (x b (by omega)).2
theorem sp_T_init2 {d : Nat} {h : HP} {k : Nat} (hk : k < 6) (hz : hZ h = 8 + 80 * k) {Q : HP → Prop} (K : ∀ H S, Al (hZ h) (sNew h (5, 0) 12) H → hZ H = hZ h + 80 → hU H = hU h + 632 → TR (8 + 80 * k) H oG wG S (fun _ => []) → InitS S → Q H) : CaV (d + 3) 109 [.inr (some (hZ h))] (sNew h (5, 0) 12) Q := by
  refine sp_T_init (t := hZ h) (by omega) (o := oG) (w := wG) (fun n hn => by rw [hz]; exact oG_in hk hn) (fun _ _ _ => rfl) (fun b hb => by rw [hz]; exact oG_ob hk (by omega)) hTy_at rfl (fun H S x z u T I => ?_)
  exact K H S (treeAl x z T) z (by rw [u]; show hU h + 12 + 620 = _; omega) (by rw [← hz]; exact T) I
def PIv (h : HP) (n : Nat) (H : HP) (S : Nat → Nat → Int → Int) : Prop := hZ H = 168 + 80 * n ∧ hU H = hU h + 1339 + 632 * n ∧ BaI H ∧ (∀ r, r < 6 → (r < n ∨ 4 ≤ r) → TR (trI r) H oG wG (S r) (fun _ => []) ∧ InitS (S r)) ∧ (∀ j : Nat, j < n → hR H 4 j = some (trI j)) ∧ ∀ b, b < 3 → hTy H b = hTy h b ∧ hI H b = hI h b
set_option maxRecDepth 20000 in
theorem lp_P_init {d : Nat} {h : HP} {Q : HP → Prop} (K : ∀ H S, PIv h 4 H S → Q H) (k : Nat) : ∀ (i : Nat) (H : HP) (S : Nat → Nat → Int → Int), 4 - i < k → (i ≤ 4) → (PIv h i H S) → At (d + 4) 164 26 [some (.inr (some 3)), some (.inl (i : Nat))] [] H (fun v h' => v = none ∧ Q h') := by
  have hC : cod 164 = c_P_init := rfl
  induction k with
  | zero =>
    intro i H S hk
    exact absurd hk (Nat.not_lt_zero _)
  | succ k ih =>
    intro i H S hk hI0 hI1
    obtain ⟨pz, pu, pb, pt, pr, p3⟩ := id hI1
    refine x_1 (p' := 27) hC rfl rfl rfl rfl ?_
    refine x_1 (p' := 28) hC rfl rfl rfl rfl ?_
    refine x_icge (p' := 29) hC rfl rfl (fun c28 => ?_) (fun c28 => ?_)
    · refine x_ret hC rfl rfl rfl ⟨rfl, ?_⟩
      exact K H S (by rw [show 4 = i by omega]; exact hI1)
    · refine x_1 (p' := 30) hC rfl rfl rfl rfl ?_
      refine x_getR (p' := 31) (q := some 4) hC rfl rfl rfl (by rw [pb.2.1.1]) pb.2.2.1.1 ?_
      refine x_1 (p' := 32) hC rfl rfl rfl rfl ?_
      refine x_new (p' := 33) hC rfl rfl rfl ?_
      refine x_1 (p' := 34) hC rfl rfl rfl rfl ?_
      refine x_cVN0 (p' := 35) (n := 109) hC rfl rfl rfl rfl rfl ?_
      refine sp_T_init2 (h := H) (k := i + 2) (by omega) (by omega) (fun H2 S2 x2 z2 u2 T2 I2 => ?_)
      have A2 : Al 4 H H2 := x2.obj
      have B2 := pb.al A2 (by omega)
      refine x_aast (p' := 36) (t := 204) (n := 4) hC rfl rfl rfl (B2.2.1.2) rfl (by rw [x2.2.1 (hZ H) (Nat.lt_succ_self _), hTy_at]) (by decide) (by omega) (by omega) ?_
      have A3 : Al 4 H2 (sR H2 4 (i : Nat) (some (hZ H))) := Al.sR
      have hr3 : ∀ j, hR (sR H2 4 (i : Nat) (some (hZ H))) 4 j = if j = (i : Nat) then some (hZ H) else hR H2 4 j := fun j => by
        rw [hR_sR]
        by_cases hj : j = (i : Nat)
        · rw [if_pos ⟨rfl, hj⟩, if_pos hj]
        · rw [if_neg (fun q => hj q.2), if_neg hj]
      have z3 : hZ (sR H2 4 (i : Nat) (some (hZ H))) = hZ H2 := rfl
      have u3 : hU (sR H2 4 (i : Nat) (some (hZ H))) = hU H2 := rfl
      generalize sR H2 4 (i : Nat) (some (hZ H)) = H3 at *
      refine x_inc1 (p' := 37) hC rfl rfl (⟨by omega, by omega⟩) ?_
      refine x_1 (p' := 26) hC rfl rfl rfl rfl ?_
      rw [show (((i : Nat) : Int) + 1) = ((i + 1 : Nat) : Int) by omega]
      have htri : trI i = 168 + 80 * i := by
        unfold trI
        rw [if_neg (by omega), if_neg (by omega)]
      have hr4 : ∀ j : Nat, j < i → hR H2 4 j = hR H 4 j := fun j hj => congrFun ((x2.2.2 4 (by show 4 < hZ H + 1; omega) (by omega)).2.trans (hR_new (by omega))) j
      refine ih (i + 1) H3 (upG S i S2) (by omega) (by omega) ⟨by omega, by omega, B2.al A3 (by omega), fun r hr hh => ?_, fun j hj => ?_, fun b hb => ⟨(A3.2.1 b (by omega)).trans ((A2.2.1 b (by omega)).trans (p3 b hb).1), (A3.2.2 b (by omega) (by omega)).1.trans ((A2.2.2 b (by omega) (by omega)).1.trans (p3 b hb).2)⟩⟩
      · by_cases hri : r = i
        · rw [hri, upG_eq, htri]
          rw [show 8 + 80 * (i + 2) = 168 + 80 * i by omega] at T2
          exact ⟨T2.al (by omega) A3 (Or.inr rfl), I2⟩
        · rw [upG_ne hri]
          have hp := pt r hr (by omega)
          have h8 : 8 ≤ trI r := by
            unfold trI
            split
            · omega
            · split <;> omega
          exact ⟨(hp.1.al h8 A2 (Or.inr rfl)).al h8 A3 (Or.inr rfl), hp.2⟩
      · by_cases hji : j = i
        · rw [hr3, if_pos (by omega), hji, htri]; congr 1
        · rw [hr3, if_neg (by omega), hr4 j (by omega)]; exact pr j (by omega)
set_option maxRecDepth 20000 in
set_option maxHeartbeats 2000000 in
theorem sp_P_init {d : Nat} {h : HP} (hK0 : hTy h 3 = (7, 0)) (hz : hZ h = 4) (hs : Sta h) {Q : HP → Prop} (K : ∀ H S, PIv h 4 H S → Q H) : CaV (d + 4) 164 [.inr (some 3)] h Q := by
  have hC : cod 164 = c_P_init := rfl
  refine CaV.start rfl ?_
  refine x_1 (p' := 1) hC rfl rfl rfl rfl ?_
  refine x_obj (p' := 2) hC rfl rfl rfl ?_
  refine x_1 (p' := 3) hC rfl rfl rfl rfl ?_
  refine x_1 (p' := 4) hC rfl rfl rfl rfl ?_
  refine x_newr (p' := 5) hC rfl rfl rfl (by decide) ?_
  refine x_putR (p' := 6) hC rfl rfl rfl (by rw [hTy_new (by omega), hK0]) (by decide) ?_
  obtain ⟨A1, z1, u1, e1, r1, q1, j1⟩ := mkA h 3 0 (204, 4) 4 (by omega)
  refine At.heap (h' := sR (sNew h (204, 4) 4) 3 0 (some (hZ h))) rfl ?_
  generalize sR (sNew h (204, 4) 4) 3 0 (some (hZ h)) = H1 at *
  have y1 : hTy H1 3 = (7, 0) := (A1.2.1 3 (by omega)).trans hK0
  refine x_1 (p' := 7) hC rfl rfl rfl rfl ?_
  refine x_new (p' := 8) hC rfl rfl rfl ?_
  refine x_1 (p' := 9) hC rfl rfl rfl rfl ?_
  refine x_cVN0 (p' := 10) (n := 156) hC rfl rfl rfl rfl rfl ?_
  refine sp_O_init (h := sNew H1 (3, 0) 8) (a := hZ H1) hTy_at (by omega) rfl (fun H2x xO zO uO fO iO => ?_)
  have uO2 : hU H2x = hU H1 + 71 := by rw [uO]; rfl
  refine x_putR (p' := 11) hC rfl rfl rfl (by rw [(Al.obj (t := 3) xO).2.1 3 (by omega), y1]) (by decide) ?_
  obtain ⟨A2, z2, u2, b2, r2, q2, j2⟩ := mkO H1 H2x 3 1 xO (by omega)
  refine At.heap (h' := sR H2x 3 1 (some (hZ H1))) rfl ?_
  generalize sR H2x 3 1 (some (hZ H1)) = H2 at *
  have y2 : hTy H2 3 = (7, 0) := (A2.2.1 3 (by omega)).trans y1
  refine x_1 (p' := 12) hC rfl rfl rfl rfl ?_
  refine x_new (p' := 13) hC rfl rfl rfl ?_
  refine x_1 (p' := 14) hC rfl rfl rfl rfl ?_
  refine x_cVN0 (p' := 15) (n := 109) hC rfl rfl rfl rfl rfl ?_
  refine sp_T_init2 (h := H2) (k := 0) (by omega) (by omega) (fun H3x S4 x3 zt3 ut3 T4 I4 => ?_)
  refine x_putR (p' := 16) hC rfl rfl rfl (by rw [(Al.obj (t := 3) x3).2.1 3 (by omega), y2]) (by decide) ?_
  obtain ⟨A3, z3, u3, b3, r3, q3, j3⟩ := mkO H2 H3x 3 2 x3 (by omega)
  refine At.heap (h' := sR H3x 3 2 (some (hZ H2))) rfl ?_
  generalize sR H3x 3 2 (some (hZ H2)) = H3 at *
  have y3 : hTy H3 3 = (7, 0) := (A3.2.1 3 (by omega)).trans y2
  refine x_1 (p' := 17) hC rfl rfl rfl rfl ?_
  refine x_new (p' := 18) hC rfl rfl rfl ?_
  refine x_1 (p' := 19) hC rfl rfl rfl rfl ?_
  refine x_cVN0 (p' := 20) (n := 109) hC rfl rfl rfl rfl rfl ?_
  refine sp_T_init2 (h := H3) (k := 1) (by omega) (by omega) (fun H4x S5 x4 zt4 ut4 T5 I5 => ?_)
  refine x_putR (p' := 21) hC rfl rfl rfl (by rw [(Al.obj (t := 3) x4).2.1 3 (by omega), y3]) (by decide) ?_
  obtain ⟨A4, z4, u4, b4, r4, q4, j4⟩ := mkO H3 H4x 3 3 x4 (by omega)
  refine At.heap (h' := sR H4x 3 3 (some (hZ H3))) rfl ?_
  generalize sR H4x 3 3 (some (hZ H3)) = H4 at *
  have y4 : hTy H4 3 = (7, 0) := (A4.2.1 3 (by omega)).trans y3
  refine x_1 (p' := 22) hC rfl rfl rfl rfl ?_
  refine x_1 (p' := 23) hC rfl rfl rfl rfl ?_
  refine x_putI (p' := 24) hC rfl rfl rfl (by rw [y4]) (by decide) ?_
  obtain ⟨H5, hH5⟩ : ∃ H5, H5 = sI H4 3 ((4 : Nat) : Int) 0 := ⟨_, rfl⟩
  have A5 : Al 3 H4 H5 := by rw [hH5]; exact Al.sI
  have z5 : hZ H5 = hZ H4 := by rw [hH5]; rfl
  have u5 : hU H5 = hU H4 := by rw [hH5]; rfl
  have g5 : hR H5 = hR H4 := by rw [hH5]; rfl
  have j5 : hI H5 3 4 = 0 := by rw [hH5]; exact hI_z (Or.inl rfl)
  refine At.heap (h' := H5) hH5.symm ?_
  refine x_1 (p' := 25) hC rfl rfl rfl rfl ?_
  refine x_stI1 (p' := 26) hC rfl rfl rfl ?_
  have hz1 : hZ H1 = 5 := by omega
  rw [hz1] at fO iO xO
  have B25 := ((b2.trans A3).trans A4).trans A5
  have X15 := (((A1.trans A2).trans A3).trans A4).trans A5
  refine lp_P_init K _ 0 H5 (fun r => if r = 4 then S4 else S5) (Nat.lt_succ_self _) (by omega) ⟨by omega, by omega, ⟨hs.al X15 (by omega) (by omega), ⟨(A5.2.1 3 (by omega)).trans y4, ?_⟩, ⟨?_, ?_, ?_, ?_⟩, j5, ?_, ?_⟩, fun r hr hh => ?_, fun j hj => absurd hj (Nat.not_lt_zero _), fun b hb => ⟨X15.2.1 b (by omega), (X15.2.2 b (by omega) (by omega)).1⟩⟩
  · rw [((A2.trans A3).trans (A4.trans A5)).2.1 4 (by omega)]; rw [hz] at e1; exact e1
  · rw [g5, q4 0 (by decide), q3 0 (by decide), q2 0 (by decide), r1]; congr 1
  · rw [g5, q4 1 (by decide), q3 1 (by decide), r2]; congr 1
  · rw [g5, q4 2 (by decide), r3]; congr 1; omega
  · rw [g5, r4]; congr 1; omega
  · exact OO5.al (show OO5 H2x from fO) B25 (by decide) (by omega)
  · rw [(B25.2.2 5 (by omega) (by decide)).1]; exact iO
  · by_cases h4 : r = 4
    · subst h4
      exact ⟨(((T4.al (by decide) b3 (Or.inl rfl)).al (by decide) A4 (Or.inl rfl)).al (by decide) A5 (Or.inl rfl)), I4⟩
    · have h5 : r = 5 := by omega
      subst h5
      exact ⟨((T5.al (by decide) b4 (Or.inl rfl)).al (by decide) A5 (Or.inl rfl)), I5⟩

/-! THE CLASS: what a change records -/
/-- the texts' cells, the tables and the reference's cells are as they were -/
def CK (h H : HP) : Prop := ∀ b, (b < 8 ∧ b ≠ 3 ∧ b ≠ 4) ∨ (488 ≤ b ∧ b < 488) → hTy H b = hTy h b ∧ hI H b = hI h b ∧ hR H b = hR h b
theorem CK.refl {h : HP} : CK h h := fun _ _ => ⟨rfl, rfl, rfl⟩
theorem CK.trans {a b c : HP} (x : CK a b) (y : CK b c) : CK a c := fun q hq => ⟨(y q hq).1.trans (x q hq).1, (y q hq).2.1.trans (x q hq).2.1, (y q hq).2.2.trans (x q hq).2.2⟩
theorem GP.ck {h : HP} {o : Nat → Nat} {w : Nat → Nat × Nat} {tr : Nat → Nat} {S : Nat → Nat → Int → Int} {R : Nat → Nat → List FV} {st : Int} {U0 : Nat} (G : GP U0 h o w tr S R st) {r : Nat} (hr : r < 6) {H : HP} {o' : Nat → Nat} {w' : Nat → Nat × Nat} (E : ExtT h o w (tr r) H o' w') : CK h H := fun b hb => by
  have ht := G.t8 hr
  have f := G.2.2.2.2.2.2.1
  have hz := G.2.2.2.2.2.2.2.2.2.2.2.2
  have x := E.2.2.1 b (by omega) (by rw [f b (by omega)]; omega)
  exact ⟨(E.2.1 b (by omega)).1, x.1, x.2⟩
/-- the trees change their roles -/
theorem GP.refs {h : HP} {o : Nat → Nat} {w : Nat → Nat × Nat} {tr : Nat → Nat} {S : Nat → Nat → Int → Int} {R : Nat → Nat → List FV} {st : Int} {U0 : Nat} (G : GP U0 h o w tr S R st) {H : HP} {ro : Nat → Nat} {st' : Int} (hro : ∀ r, r < 6 → ro r < 6) (hin : ∀ r q, r < 6 → q < 6 → ro r = ro q → r = q) (hy : hTy H = hTy h) (hz : hZ H = hZ h) (hu : hU H = hU h) (hi : ∀ b, b ≠ 3 → hI H b = hI h b) (h34 : hI H 3 4 = st') (hst : 0 ≤ st' ∧ st' ≤ 4) (hr : ∀ b, b ≠ 3 → b ≠ 4 → hR H b = hR h b) (h3 : hR H 3 0 = some 4 ∧ hR H 3 1 = some 5 ∧ hR H 3 2 = some (tr (ro 4)) ∧ hR H 3 3 = some (tr (ro 5))) (h4 : ∀ j : Nat, j < 4 → hR H 4 j = some (tr (ro j))) : GP U0 H o w (fun r => tr (ro r)) (fun r => S (ro r)) (fun r => R (ro r)) st' := by
  have ht := fun q hq => G.t8 (r := q) hq
  obtain ⟨⟨⟨s1, s2⟩, s3, s4⟩, a, b, c, ⟨d1, d2⟩, ⟨e1, e2, e3, e4, e5⟩, f, g, i, j, k⟩ := G
  refine ⟨⟨⟨by rw [hy]; exact s1, by rw [hy]; exact s2⟩, by rw [hi 0 (by omega)]; exact s3, by rw [hi 1 (by omega)]; exact s4⟩, by rw [hy]; exact a, h3, h4, ⟨h34, hst⟩, ⟨by rw [hy]; exact e1, by rw [hy]; exact e2, by rw [hy]; exact e3, by rw [hr 5 (by decide) (by decide)]; exact e4, by rw [hr 5 (by decide) (by decide)]; exact e5⟩, f, fun r hr => g _ (hro r hr), fun r q hr hq e => hin r q hr hq (i _ _ (hro r hr) (hro q hq) e), fun r hr2 => ?_, by rw [hz, hu]; exact k⟩
  exact (j _ (hro r hr2)).same (ht _ (hro r hr2)).1 ⟨f 3 (Or.inl (by decide)), f 4 (Or.inl (by decide))⟩ (Nat.le_of_eq hz.symm) (fun b _ => by rw [hy]) (fun b _ q1 q2 => ⟨hi b q1, hr b q1 q2⟩)
theorem GP.face {h : HP} {o : Nat → Nat} {w : Nat → Nat × Nat} {tr : Nat → Nat} {S : Nat → Nat → Int → Int} {R : Nat → Nat → List FV} {st : Int} {U0 : Nat} (G : GP U0 h o w tr S R st) : (hTy h 3).1 = 6 + 1 ∧ hTy h 4 = (204, 4) ∧ hR h 3 0 = some 4 ∧ hR h 3 1 = some 5 ∧ hR h 3 2 = some (tr 4) ∧ hR h 3 3 = some (tr 5) ∧ hI h 3 4 = st ∧ (0 ≤ st ∧ st ≤ 4) ∧ ∀ j : Nat, j < 4 → hR h 4 j = some (tr j) := by
  obtain ⟨_, ⟨a1, a2⟩, ⟨b1, b2, b3, b4⟩, c, ⟨d1, d2⟩, _⟩ := G
  exact ⟨by rw [a1], a2, b1, b2, b3, b4, d1, d2, c⟩
def rotr (r : Nat) : Nat := if r < 3 then r + 1 else if r = 3 then 0 else r
theorem rotr_lt : ∀ r, r < 6 → rotr r < 6 := by decide
theorem rotr_in : ∀ r q, r < 6 → q < 6 → rotr r = rotr q → r = q := fun r q _ _ e => by
  unfold rotr at e
  repeat' split at e
  all_goals omega
/-- what the recording of a state makes of the states -/
def RemP (st : Int) (S : Nat → Nat → Int → Int) (R : Nat → Nat → List FV) (S' : Nat → Nat → Int → Int) (R' : Nat → Nat → List FV) (st' : Int) : Prop := ∃ n : Nat, n < 4 ∧ (n : Int) = (if st = 4 then 3 else st) ∧ st' = n + 1 ∧ (S' 4 = S 4 ∧ R' 4 = R 4 ∧ S' 5 = S 5 ∧ R' 5 = R 5) ∧ (∀ j, j < n → S' j = S (if st = 4 then j + 1 else j) ∧ R' j = R (if st = 4 then j + 1 else j)) ∧ (∃ q, q < 4 ∧ CQ (R q) (S 4) (R 4) (S' n) (R' n)) ∧ ∀ j, n < j → j < 4 → ∃ q, q < 4 ∧ S' j = S q ∧ R' j = R q
set_option maxRecDepth 20000 in
set_option maxHeartbeats 2000000 in
theorem tl_P_remember {d : Nat} {h : HP} {o : Nat → Nat} {w : Nat → Nat × Nat} {tr : Nat → Nat} {S : Nat → Nat → Int → Int} {R : Nat → Nat → List FV} {st : Int} {U0 : Nat} (G : GP U0 h o w tr S R st) {n : Nat} (hn : n < 4) (hst : st = n) (h4 : 0 ≤ cT (S 4) 4 ∧ cT (S 4) 4 ≤ 5) (h5 : 0 ≤ cT (S 4) 5 ∧ cT (S 4) 5 ≤ 10) (h7 : 0 ≤ cT (S 4) 7) (hb : ∀ u : Int, 0 ≤ u → u < cT (S 4) 5 → 0 ≤ cU (S 4) u 2 ∧ cU (S 4) u 2 ≤ 1) {Q : HP → Prop} (K : ∀ H o' w' S' R', GP U0 H o' w' tr S' R' (n + 1) → CK h H → (∀ r, r ≠ n → S' r = S r ∧ R' r = R r) → CQ (R n) (S 4) (R 4) (S' n) (R' n) → Q H) {z1 z2 : Option AV} : At (d + 6) 186 38 [some (.inr (some 3)), z1, z2] [] h (fun v h' => v = none ∧ Q h') := by
  have hC : cod 186 = c_P_remember := rfl
  obtain ⟨g3, g4, r0, r1, r2, r3, gs, gst, gh⟩ := G.face
  refine x_1 (p' := 39) hC rfl rfl rfl rfl ?_
  refine x_getR (p' := 40) (q := some 4) hC rfl rfl rfl g3 r0 ?_
  refine x_1 (p' := 41) hC rfl rfl rfl rfl ?_
  refine x_getI (p' := 42) hC rfl rfl rfl g3 ?_
  rw [show hI h 3 ((4 : Nat) : Int) = (n : Nat) by rw [← hst]; exact gs]
  refine x_aald (p' := 43) (t := 204) (n := 4) (q := some (tr n)) hC rfl rfl rfl g4 rfl (by omega) (by omega) (gh n hn) ?_
  refine x_1 (p' := 44) hC rfl rfl rfl rfl ?_
  refine x_getR (p' := 45) (q := some (tr 4)) hC rfl rfl rfl g3 r2 ?_
  refine x_cVV1 (p' := 46) (n := 110) hC rfl rfl rfl rfl rfl ((G.T (show n < 6 by omega)).1.ty) ?_
  refine sp_T_copyFrom (G.T (show n < 6 by omega)) (G.T (show 4 < 6 by omega)) (G.dj (by omega) (by omega) (by omega)) h4 h5 h7 hb (fun H2 o2 w2 S2 R2 E2 T2 c2 => ?_)
  have G2 := G.tree (show n < 6 by omega) E2 T2
  have C2 := G.ck (show n < 6 by omega) E2
  obtain ⟨g3b, g4b, r0b, r1b, r2b, r3b, gsb, gstb, ghb⟩ := G2.face
  refine x_1 (p' := 47) hC rfl rfl rfl rfl ?_
  refine x_1 (p' := 48) hC rfl rfl rfl rfl ?_
  refine x_getI (p' := 49) hC rfl rfl rfl g3b ?_
  rw [show hI H2 3 ((4 : Nat) : Int) = (n : Nat) by rw [← hst]; exact gsb]
  refine x_1 (p' := 50) hC rfl rfl rfl rfl ?_
  refine x_add (p' := 51) hC rfl rfl rfl (⟨by omega, by omega⟩) ?_
  refine x_putI (p' := 52) hC rfl rfl rfl g3b (by decide) ?_
  obtain ⟨H3, hH3⟩ : ∃ H3, H3 = sI H2 3 ((4 : Nat) : Int) ((n : Nat) + 1) := ⟨_, rfl⟩
  have G3 : GP U0 H3 o2 w2 (fun r => tr r) (fun r => upG S n S2 r) (fun r => upG R n R2 r) (n + 1) := by
    rw [hH3]
    exact G2.refs (ro := fun r => r) (st' := (n : Int) + 1) (fun r hr => hr) (fun r q _ _ e => e) rfl rfl rfl (fun b hb => hI_sI_ne hb) (by rw [hI_sI]; exact if_pos ⟨rfl, rfl⟩) (by omega) (fun _ _ _ => rfl) ⟨r0b, r1b, r2b, r3b⟩ ghb
  have C3 : CK H2 H3 := fun b hb => by rw [hH3]; exact ⟨rfl, hI_sI_ne (by omega), rfl⟩
  refine At.heap (h' := H3) hH3.symm ?_
  refine x_ret hC rfl rfl rfl ⟨rfl, ?_⟩
  refine K H3 o2 w2 _ _ G3 (C2.trans C3) (fun r hr => ⟨upG_ne hr, upG_ne hr⟩) ?_
  show CQ (R n) (S 4) (R 4) (upG S n S2 n) (upG R n R2 n)
  rw [upG_eq, upG_eq]
  exact c2
set_option maxRecDepth 20000 in
theorem lp_P_rem {d : Nat} {h : HP} {o : Nat → Nat} {w : Nat → Nat × Nat} {tr : Nat → Nat} {S : Nat → Nat → Int → Int} {R : Nat → Nat → List FV} {st : Int} {U0 : Nat} (G : GP U0 h o w tr S R st) (h44 : st = 4) (h4 : 0 ≤ cT (S 4) 4 ∧ cT (S 4) 4 ≤ 5) (h5 : 0 ≤ cT (S 4) 5 ∧ cT (S 4) 5 ≤ 10) (h7 : 0 ≤ cT (S 4) 7) (hb : ∀ u : Int, 0 ≤ u → u < cT (S 4) 5 → 0 ≤ cU (S 4) u 2 ∧ cU (S 4) u 2 ≤ 1) {Q : HP → Prop} (K : ∀ H o' w' tr' S' R' st', GP U0 H o' w' tr' S' R' st' → CK h H → RemP st S R S' R' st' → tr' 4 = tr 4 → tr' 5 = tr 5 → Q H) (k : Nat) : ∀ (i : Int), (4 - i).toNat < k → (1 ≤ i ∧ i ≤ 4) → At (d + 6) 186 11 [some (.inr (some 3)), some (.inr (some (tr 0))), some (.inl i)] [] (sRA h 4 (fun j => if 0 ≤ j ∧ j < i - 1 then hR h 4 (j + 1) else hR h 4 j)) (fun v h' => v = none ∧ Q h') := by
  have hC : cod 186 = c_P_remember := rfl
  induction k with
  | zero =>
    intro i hk
    exact absurd hk (Nat.not_lt_zero _)
  | succ k ih =>
    intro i hk hI0
    obtain ⟨g3, g4, r0, r1, r2, r3, gs, gst, gh⟩ := G.face
    have k3 : ∀ f, hR (sRA h 4 f) 3 = hR h 3 := fun f => hR_sRA_ne (by decide)
    refine x_1 (p' := 12) hC rfl rfl rfl rfl ?_
    refine x_1 (p' := 13) hC rfl rfl rfl rfl ?_
    refine x_icge (p' := 14) hC rfl rfl (fun c13 => ?_) (fun c13 => ?_)
    · refine x_1 (p' := 27) hC rfl rfl rfl rfl ?_
      refine x_1 (p' := 28) hC rfl rfl rfl rfl ?_
      refine x_getI (p' := 29) hC rfl rfl rfl g3 ?_
      rw [show hI (sRA h 4 (fun j => if 0 ≤ j ∧ j < i - 1 then hR h 4 (j + 1) else hR h 4 j)) 3 ((4 : Nat) : Int) = 4 by rw [← h44]; exact gs]
      refine x_1 (p' := 30) hC rfl rfl rfl rfl ?_
      refine x_sub (p' := 31) hC rfl rfl rfl (⟨by omega, by omega⟩) ?_
      refine x_putI (p' := 32) hC rfl rfl rfl g3 (by decide) ?_
      refine x_1 (p' := 33) hC rfl rfl rfl rfl ?_
      refine x_getR (p' := 34) (q := some 4) hC rfl rfl rfl g3 (by show hR (sRA h 4 _) 3 0 = _; rw [k3]; exact r0) ?_
      refine x_1 (p' := 35) hC rfl rfl rfl rfl ?_
      refine x_getI (p' := 36) hC rfl rfl rfl g3 ?_
      rw [hI_sI, if_pos ⟨rfl, rfl⟩]
      refine x_1 (p' := 37) hC rfl rfl rfl rfl ?_
      refine x_aast (p' := 38) (t := 204) (n := 4) hC rfl rfl rfl g4 rfl (show (hTy h _).1 + 199 = 204 by rw [(G.T (show 0 < 6 by omega)).1.ty]) (by decide) (by decide) (by decide) ?_
      obtain ⟨H2, hH2⟩ : ∃ H2, H2 = sR (sI (sRA h 4 (fun j => if 0 ≤ j ∧ j < i - 1 then hR h 4 (j + 1) else hR h 4 j)) 3 ((4 : Nat) : Int) (4 - 1)) 4 (4 - 1) (some (tr 0)) := ⟨_, rfl⟩
      refine At.heap (h' := H2) hH2.symm ?_
      have hi4 : i = 4 := by omega
      have hr2 : ∀ j : Nat, j < 4 → hR H2 4 j = some (tr (rotr j)) := fun j hj => by
        rw [hH2, hR_sR]
        by_cases h3 : (j : Int) = 4 - 1
        · rw [if_pos ⟨rfl, h3⟩, show rotr j = 0 by unfold rotr; rw [if_neg (by omega), if_pos (by omega)]]
        · rw [if_neg (fun q => h3 q.2)]
          show hR (sRA h 4 _) 4 j = _
          rw [hR_sRA, if_pos (by omega), show rotr j = j + 1 by unfold rotr; rw [if_pos (by omega)], ← gh (j + 1) (by omega)]
          congr 1
      have hrn : ∀ b, b ≠ 4 → hR H2 b = hR h b := fun b hb => by
        rw [hH2, hR_sR_ne hb]
        show hR (sRA h 4 _) b = _
        rw [hR_sRA_ne hb]
      have hin : ∀ b, b ≠ 3 → hI H2 b = hI h b := fun b hb => by
        rw [hH2, hI_sR, hI_sI_ne hb]; rfl
      have G2 : GP U0 H2 o w (fun r => tr (rotr r)) (fun r => S (rotr r)) (fun r => R (rotr r)) 3 := G.refs (ro := rotr) rotr_lt rotr_in (by rw [hH2]; rfl) (by rw [hH2]; rfl) (by rw [hH2]; rfl) hin (by rw [hH2, hI_sR, hI_sI]; exact if_pos ⟨rfl, rfl⟩) (by decide) (fun b h3 h4 => hrn b h4) (by rw [hrn 3 (by decide)]; exact ⟨r0, r1, r2, r3⟩) hr2
      have C2 : CK h H2 := fun b hb => ⟨by rw [hH2]; rfl, hin b (by omega), hrn b (by omega)⟩
      refine tl_P_remember G2 (n := 3) (by decide) rfl h4 h5 h7 hb (fun H3 o3 w3 S3 R3 G3 C3 hsr hcq => ?_)
      refine K H3 o3 w3 _ S3 R3 _ G3 (C2.trans C3) ⟨3, by decide, by rw [if_pos h44]; rfl, rfl, ⟨(hsr 4 (by decide)).1, (hsr 4 (by decide)).2, (hsr 5 (by decide)).1, (hsr 5 (by decide)).2⟩, fun j hj => ?_, ⟨0, by decide, hcq⟩, fun j h1 h2 => absurd h1 (by omega)⟩ rfl rfl
      have e : rotr j = j + 1 := by unfold rotr; rw [if_pos (by omega)]
      rw [if_pos h44, (hsr j (by omega)).1, (hsr j (by omega)).2]
      exact ⟨congrArg S e, congrArg R e⟩
    · refine x_1 (p' := 15) hC rfl rfl rfl rfl ?_
      refine x_getR (p' := 16) (q := some 4) hC rfl rfl rfl g3 (by rw [k3]; exact r0) ?_
      refine x_1 (p' := 17) hC rfl rfl rfl rfl ?_
      refine x_1 (p' := 18) hC rfl rfl rfl rfl ?_
      refine x_sub (p' := 19) hC rfl rfl rfl (⟨by omega, by omega⟩) ?_
      refine x_1 (p' := 20) hC rfl rfl rfl rfl ?_
      refine x_getR (p' := 21) (q := some 4) hC rfl rfl rfl g3 (by rw [k3]; exact r0) ?_
      refine x_1 (p' := 22) hC rfl rfl rfl rfl ?_
      refine x_aald (p' := 23) (t := 204) (n := 4) (q := some (tr i.toNat)) hC rfl rfl rfl g4 rfl (by omega) (by omega) (by rw [hR_sRA, if_neg (by omega), ← gh i.toNat (by omega), Int.toNat_of_nonneg (by omega)]) ?_
      refine x_aast (p' := 24) (t := 204) (n := 4) hC rfl rfl rfl g4 rfl (show (hTy h _).1 + 199 = 204 by rw [(G.T (show i.toNat < 6 by omega)).1.ty]) (by decide) (by omega) (by omega) ?_
      rw [sR_sRA]
      refine x_inc2 (p' := 25) hC rfl rfl (⟨by omega, by omega⟩) ?_
      refine x_1 (p' := 11) hC rfl rfl rfl rfl ?_
      rw [sRA_congr (f' := fun j => if 0 ≤ j ∧ j < i + 1 - 1 then hR h 4 (j + 1) else hR h 4 j) (fun j => by
        by_cases hj : j = i - 1
        · rw [if_pos hj, if_pos (by omega), hj, show i - 1 + 1 = i by omega, ← gh i.toNat (by omega), Int.toNat_of_nonneg (by omega)]
        · rw [if_neg hj]
          by_cases h2 : 0 ≤ j ∧ j < i - 1
          · rw [if_pos h2, if_pos (by omega)]
          · rw [if_neg h2, if_neg (by omega)])]
      exact ih _ (by omega) (by omega)
set_option maxRecDepth 20000 in
set_option maxHeartbeats 2000000 in
theorem sp_P_remember {d : Nat} {h : HP} {o : Nat → Nat} {w : Nat → Nat × Nat} {tr : Nat → Nat} {S : Nat → Nat → Int → Int} {R : Nat → Nat → List FV} {st : Int} {U0 : Nat} (G : GP U0 h o w tr S R st) (h4 : 0 ≤ cT (S 4) 4 ∧ cT (S 4) 4 ≤ 5) (h5 : 0 ≤ cT (S 4) 5 ∧ cT (S 4) 5 ≤ 10) (h7 : 0 ≤ cT (S 4) 7) (hb : ∀ u : Int, 0 ≤ u → u < cT (S 4) 5 → 0 ≤ cU (S 4) u 2 ∧ cU (S 4) u 2 ≤ 1) {Q : HP → Prop} (K : ∀ H o' w' tr' S' R' st', GP U0 H o' w' tr' S' R' st' → CK h H → RemP st S R S' R' st' → tr' 4 = tr 4 → tr' 5 = tr 5 → Q H) : CaV (d + 6) 186 [.inr (some 3)] h Q := by
  have hC : cod 186 = c_P_remember := rfl
  refine CaV.start rfl ?_
  obtain ⟨g3, g4, r0, r1, r2, r3, gs, gst, gh⟩ := G.face
  refine x_1 (p' := 1) hC rfl rfl rfl rfl ?_
  refine x_getI (p' := 2) hC rfl rfl rfl g3 ?_
  rw [show hI h 3 ((4 : Nat) : Int) = st from gs]
  refine x_1 (p' := 3) hC rfl rfl rfl rfl ?_
  refine x_icne (p' := 4) hC rfl rfl (fun c3 => ?_) (fun c3 => ?_)
  · refine tl_P_remember G (n := st.toNat) (by omega) (by omega) h4 h5 h7 hb (fun H3 o3 w3 S3 R3 G3 C3 hsr hcq => ?_)
    have hst4 : ¬ st = 4 := by omega
    refine K H3 o3 w3 _ S3 R3 _ G3 C3 ⟨st.toNat, by omega, by rw [if_neg hst4]; omega, rfl, ⟨(hsr 4 (by omega)).1, (hsr 4 (by omega)).2, (hsr 5 (by omega)).1, (hsr 5 (by omega)).2⟩, fun j hj => ?_, ⟨st.toNat, by omega, hcq⟩, fun j h1 h2 => ⟨j, h2, hsr j (by omega)⟩⟩ rfl rfl
    rw [if_neg hst4]
    exact hsr j (by omega)
  · refine x_1 (p' := 5) hC rfl rfl rfl rfl ?_
    refine x_getR (p' := 6) (q := some 4) hC rfl rfl rfl g3 r0 ?_
    refine x_1 (p' := 7) hC rfl rfl rfl rfl ?_
    refine x_aald (p' := 8) (t := 204) (n := 4) (q := some (tr 0)) hC rfl rfl rfl g4 rfl (by decide) (by decide) (gh 0 (by decide)) ?_
    refine x_stA1 (p' := 9) hC rfl rfl rfl ?_
    refine x_1 (p' := 10) hC rfl rfl rfl rfl ?_
    refine x_stI2 (p' := 11) hC rfl rfl rfl ?_
    have hlp := lp_P_rem (d := d) G (by omega) h4 h5 h7 hb K _ 1 (Nat.lt_succ_self _) (by omega)
    rw [sRA_self (fun j => if_neg (by omega))] at hlp
    exact hlp

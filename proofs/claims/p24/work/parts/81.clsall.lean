/-! THE CLASS: the whole object -/
def OO5 (h : HP) : Prop := hTy h 5 = (3, 0) ∧ hTy h 6 = (101, 60) ∧ hTy h 7 = (100, 3) ∧ hR h 5 0 = some 6 ∧ hR h 5 4 = some 7
def potA (w : Nat → Nat × Nat) : Nat := pot 8 w + pot 88 w + pot 168 w + pot 248 w + pot 328 w + pot 408 w
/-- the object at 3: its trees by their roles (0 to 3: the history, 4: now, 5: the trial), states st -/
def GP (U0 : Nat) (h : HP) (o : Nat → Nat) (w : Nat → Nat × Nat) (tr : Nat → Nat) (S : Nat → Nat → Int → Int) (R : Nat → Nat → List FV) (st : Int) : Prop :=
  Sta h ∧ (hTy h 3 = (7, 0) ∧ hTy h 4 = (204, 4)) ∧ (hR h 3 0 = some 4 ∧ hR h 3 1 = some 5 ∧ hR h 3 2 = some (tr 4) ∧ hR h 3 3 = some (tr 5)) ∧ (∀ j : Nat, j < 4 → hR h 4 j = some (tr j)) ∧ (hI h 3 4 = st ∧ 0 ≤ st ∧ st ≤ 4) ∧ OO5 h ∧ (∀ b, b < 8 ∨ (488 ≤ b ∧ b < 488) → o b = b) ∧ (∀ r, r < 6 → ∃ k, k < 6 ∧ tr r = 8 + 80 * k) ∧ (∀ r q, r < 6 → q < 6 → tr r = tr q → r = q) ∧ (∀ r, r < 6 → TR (tr r) h o w (S r) (R r)) ∧ (hU h + 576 = U0 + potA w ∧ 9 * hZ h + U0 ≤ 4392 + hU h ∧ 488 ≤ hZ h)
def upG {α : Type} (f : Nat → α) (r : Nat) (x : α) : Nat → α := fun q => if q = r then x else f q
theorem upG_eq {α : Type} {f : Nat → α} {r : Nat} {x : α} : upG f r x r = x := if_pos rfl
theorem upG_ne {α : Type} {f : Nat → α} {r q : Nat} {x : α} (h : q ≠ r) : upG f r x q = f q := if_neg h
theorem GP.T {h : HP} {o : Nat → Nat} {w : Nat → Nat × Nat} {tr : Nat → Nat} {S : Nat → Nat → Int → Int} {R : Nat → Nat → List FV} {st : Int} {U0 : Nat} (G : GP U0 h o w tr S R st) {r : Nat} (hr : r < 6) : TR (tr r) h o w (S r) (R r) := G.2.2.2.2.2.2.2.2.2.1 r hr
theorem GP.t8 {h : HP} {o : Nat → Nat} {w : Nat → Nat × Nat} {tr : Nat → Nat} {S : Nat → Nat → Int → Int} {R : Nat → Nat → List FV} {st : Int} {U0 : Nat} (G : GP U0 h o w tr S R st) {r : Nat} (hr : r < 6) : 8 ≤ tr r ∧ tr r + 80 ≤ 488 := by
  obtain ⟨k, hk, e⟩ := G.2.2.2.2.2.2.2.1 r hr
  omega
theorem GP.dj {h : HP} {o : Nat → Nat} {w : Nat → Nat × Nat} {tr : Nat → Nat} {S : Nat → Nat → Int → Int} {R : Nat → Nat → List FV} {st : Int} {U0 : Nat} (G : GP U0 h o w tr S R st) {r q : Nat} (hr : r < 6) (hq : q < 6) (hn : r ≠ q) : tr r + 80 ≤ tr q ∨ tr q + 80 ≤ tr r := by
  obtain ⟨k, hk, e⟩ := G.2.2.2.2.2.2.2.1 r hr
  obtain ⟨j, hj, e2⟩ := G.2.2.2.2.2.2.2.1 q hq
  have := G.2.2.2.2.2.2.2.2.1 r q hr hq
  by_cases hkj : k = j
  · exact absurd (this (by rw [e, e2, hkj])) hn
  · omega
theorem pot_same {t : Nat} {w w0 : Nat → Nat × Nat} (h : ∀ q, t ≤ q → q < t + 80 → w q = w0 q) : pot t w = pot t w0 := by
  unfold pot
  rw [h (t + 3) (by omega) (by omega), h (t + 13) (by omega) (by omega), h (t + 20) (by omega) (by omega), h (t + 27) (by omega) (by omega), h (t + 34) (by omega) (by omega), h (t + 41) (by omega) (by omega)]
theorem potA_ext {t : Nat} {w w0 : Nat → Nat × Nat} {k : Nat} (hk : k < 6) (ht : t = 8 + 80 * k) (h : ∀ q, ¬ (t ≤ q ∧ q < t + 80) → w q = w0 q) : potA w + pot t w0 = potA w0 + pot t w := by
  have e : ∀ t', t' + 80 ≤ t ∨ t + 80 ≤ t' → pot t' w = pot t' w0 := fun t' h' => pot_same (fun q h1 h2 => h q (by omega))
  unfold potA
  rcases (show t = 8 ∨ t = 88 ∨ t = 168 ∨ t = 248 ∨ t = 328 ∨ t = 408 by omega) with c | c | c | c | c | c
  all_goals subst c
  · rw [e 88 (by omega), e 168 (by omega), e 248 (by omega), e 328 (by omega), e 408 (by omega)]; omega
  · rw [e 8 (by omega), e 168 (by omega), e 248 (by omega), e 328 (by omega), e 408 (by omega)]; omega
  · rw [e 8 (by omega), e 88 (by omega), e 248 (by omega), e 328 (by omega), e 408 (by omega)]; omega
  · rw [e 8 (by omega), e 88 (by omega), e 168 (by omega), e 328 (by omega), e 408 (by omega)]; omega
  · rw [e 8 (by omega), e 88 (by omega), e 168 (by omega), e 248 (by omega), e 408 (by omega)]; omega
  · rw [e 8 (by omega), e 88 (by omega), e 168 (by omega), e 248 (by omega), e 328 (by omega)]; omega
/-- a tree of the object changes -/
theorem GP.tree {h : HP} {o : Nat → Nat} {w : Nat → Nat × Nat} {tr : Nat → Nat} {S : Nat → Nat → Int → Int} {R : Nat → Nat → List FV} {st : Int} {U0 : Nat} (G : GP U0 h o w tr S R st) {r : Nat} (hr : r < 6) {H : HP} {o' : Nat → Nat} {w' : Nat → Nat × Nat} (E : ExtT h o w (tr r) H o' w') {S' : Nat → Int → Int} {R' : Nat → List FV} (T : TR (tr r) H o' w' S' R') : GP U0 H o' w' tr (upG S r S') (upG R r R') st := by
  have ht := G.t8 hr
  have hdj := fun q hq hn => G.dj (r := q) hq hr hn
  have hTT := fun q hq => G.T (r := q) hq
  obtain ⟨⟨⟨s1, s2⟩, s3, s4⟩, ⟨a1, a2⟩, ⟨b1, b2, b3, b4⟩, c, ⟨d1, d2⟩, ⟨e1, e2, e3, e4, e5⟩, f, g, i, j, ⟨k1, k2, k3⟩⟩ := G
  have hc : ∀ b, b < 8 → hTy H b = hTy h b ∧ hI H b = hI h b ∧ hR H b = hR h b := fun b hb => by
    have x := E.2.2.1 b (by omega) (by rw [f b (Or.inl hb)]; omega)
    exact ⟨(E.2.1 b (by omega)).1, x.1, x.2⟩
  have hz := E.1
  obtain ⟨k, hk, ek⟩ := g r hr
  have hp := potA_ext hk ek E.2.2.2.2.2.1
  have hu := E.2.2.2.2.2.2.1
  have h9 := E.2.2.2.2.2.2.2
  refine ⟨⟨⟨by rw [(hc 0 (by decide)).1]; exact s1, by rw [(hc 1 (by decide)).1]; exact s2⟩, by rw [(hc 0 (by decide)).2.1]; exact s3, by rw [(hc 1 (by decide)).2.1]; exact s4⟩, ⟨by rw [(hc 3 (by decide)).1]; exact a1, by rw [(hc 4 (by decide)).1]; exact a2⟩, ⟨by rw [(hc 3 (by decide)).2.2]; exact b1, by rw [(hc 3 (by decide)).2.2]; exact b2, by rw [(hc 3 (by decide)).2.2]; exact b3, by rw [(hc 3 (by decide)).2.2]; exact b4⟩, fun q hq => by rw [(hc 4 (by decide)).2.2]; exact c q hq, ⟨by rw [(hc 3 (by decide)).2.1]; exact d1, d2⟩, ⟨by rw [(hc 5 (by decide)).1]; exact e1, by rw [(hc 6 (by decide)).1]; exact e2, by rw [(hc 7 (by decide)).1]; exact e3, by rw [(hc 5 (by decide)).2.2]; exact e4, by rw [(hc 5 (by decide)).2.2]; exact e5⟩, fun b hb => by rw [(E.2.1 b (by omega)).2]; exact f b hb, g, i, fun q hq => ?_, ⟨by omega, by omega, by omega⟩⟩
  by_cases hqr : q = r
  · rw [hqr, upG_eq, upG_eq]; exact T
  · rw [upG_ne hqr, upG_ne hqr]
    exact (hTT q hq).other E (hdj q hq hqr).symm
/-- cells that no tree and no table holds may change -/
theorem GP.cells {h : HP} {o : Nat → Nat} {w : Nat → Nat × Nat} {tr : Nat → Nat} {S : Nat → Nat → Int → Int} {R : Nat → Nat → List FV} {st : Int} {U0 : Nat} (G : GP U0 h o w tr S R st) {H : HP} (hy : hTy H = hTy h) (hr : hR H = hR h) (hz : hZ H = hZ h) (hu : hU H = hU h) (hi : ∀ b, ¬ (b = 5 ∨ b = 6 ∨ b = 7 ∨ (488 ≤ b ∧ b < 488)) → hI H b = hI h b) : GP U0 H o w tr S R st := by
  have ht := fun q hq => G.t8 (r := q) hq
  obtain ⟨⟨⟨s1, s2⟩, s3, s4⟩, a, b, c, ⟨d1, d2⟩, e, f, g, i, j, k⟩ := G
  refine ⟨⟨⟨by rw [hy]; exact s1, by rw [hy]; exact s2⟩, by rw [hi 0 (by omega)]; exact s3, by rw [hi 1 (by omega)]; exact s4⟩, by rw [hy]; exact a, by rw [hr]; exact b, fun q hq => by rw [hr]; exact c q hq, ⟨by rw [hi 3 (by omega)]; exact d1, d2⟩, by unfold OO5; rw [hy, hr]; exact e, f, g, i, fun q hq => ?_, by rw [hz, hu]; exact k⟩
  obtain ⟨K, T2, T3, T4⟩ := j q hq
  have hb := ht q hq
  refine ⟨K.keep (Nat.le_of_eq hz.symm) (fun n _ => by rw [hy]) (fun n _ _ _ => by rw [hr]), T2, fun n hn => by rw [hi _ (by omega)]; exact T3 n hn, fun n hn hs => (T4 n hn hs).keep (Nat.le_of_eq hz.symm) (fun b _ => ⟨by rw [hy], rfl⟩) (fun b hb2 ho => ⟨hi b (fun q => ?_), by rw [hr]⟩) rfl⟩
  have := f b (by omega)
  omega
theorem GP.eo {h : HP} {o : Nat → Nat} {w : Nat → Nat × Nat} {tr : Nat → Nat} {S : Nat → Nat → Int → Int} {R : Nat → Nat → List FV} {st : Int} {U0 : Nat} (G : GP U0 h o w tr S R st) {H : HP} (E : EO h H) : GP U0 H o w tr S R st := G.cells E.1 E.2.1 E.2.2.1 E.2.2.2.1 (fun b hb => E.2.2.2.2 b (by omega) (by omega) (by omega))
theorem RowP.kap {H : HP} {o : Nat → Nat} {w : Nat → Nat × Nat} {r : Nat} {L : List FV} (P : RowP H o w r L) : kap (w r) ≤ 30720 := by
  obtain ⟨_, p2, _, _, W, _⟩ := P
  have := p2.le
  have := W.2.2.2.2.1
  unfold Jvm.Pilot.CPhasorTreeLaw_law_r4566_d5a5ba.kap
  omega
theorem TR.pot {t : Nat} {H : HP} {o : Nat → Nat} {w : Nat → Nat × Nat} {S : Nat → Int → Int} {R : Nat → List FV} (T : TR t H o w S R) : pot t w ≤ 184320 := by
  have a := (T.2.2.2 3 (by decide) (by decide)).kap
  have b := (T.2.2.2 13 (by decide) (by decide)).kap
  have c := (T.2.2.2 20 (by decide) (by decide)).kap
  have d := (T.2.2.2 27 (by decide) (by decide)).kap
  have e := (T.2.2.2 34 (by decide) (by decide)).kap
  have f := (T.2.2.2 41 (by decide) (by decide)).kap
  unfold Jvm.Pilot.CPhasorTreeLaw_law_r4566_d5a5ba.pot
  omega
/-- the object's room -/
theorem GP.room {h : HP} {o : Nat → Nat} {w : Nat → Nat × Nat} {tr : Nat → Nat} {S : Nat → Nat → Int → Int} {R : Nat → Nat → List FV} {st : Int} {U0 : Nat} (G : GP U0 h o w tr S R st) : hU h ≤ U0 + 1105920 ∧ 9 * hZ h ≤ 4392 + 1105920 := by
  have hp : ∀ k, k < 6 → pot (8 + 80 * k) w ≤ 184320 := by
    have g := G.2.2.2.2.2.2.2.1
    have i := G.2.2.2.2.2.2.2.2.1
    have j := G.2.2.2.2.2.2.2.2.2.1
    obtain ⟨f, hf⟩ := Classical.axiomOfChoice (fun r : Nat => show ∃ k, r < 6 → k < 6 ∧ tr r = 8 + 80 * k by
      by_cases hr : r < 6
      · obtain ⟨k, hk⟩ := g r hr
        exact ⟨k, fun _ => hk⟩
      · exact ⟨0, fun h => absurd h hr⟩)
    have hinj : ∀ r q, r < 6 → q < 6 → f r = f q → r = q := fun r q hr hq e => i r q hr hq (by rw [(hf r hr).2, (hf q hq).2, e])
    have n01 := hinj 0 1 (by omega) (by omega); have n02 := hinj 0 2 (by omega) (by omega); have n03 := hinj 0 3 (by omega) (by omega); have n04 := hinj 0 4 (by omega) (by omega); have n05 := hinj 0 5 (by omega) (by omega)
    have n12 := hinj 1 2 (by omega) (by omega); have n13 := hinj 1 3 (by omega) (by omega); have n14 := hinj 1 4 (by omega) (by omega); have n15 := hinj 1 5 (by omega) (by omega)
    have n23 := hinj 2 3 (by omega) (by omega); have n24 := hinj 2 4 (by omega) (by omega); have n25 := hinj 2 5 (by omega) (by omega)
    have n34 := hinj 3 4 (by omega) (by omega); have n35 := hinj 3 5 (by omega) (by omega); have n45 := hinj 4 5 (by omega) (by omega)
    have b0 := (hf 0 (by omega)).1; have b1 := (hf 1 (by omega)).1; have b2 := (hf 2 (by omega)).1; have b3 := (hf 3 (by omega)).1; have b4 := (hf 4 (by omega)).1; have b5 := (hf 5 (by omega)).1
    intro k hk
    have : k = f 0 ∨ k = f 1 ∨ k = f 2 ∨ k = f 3 ∨ k = f 4 ∨ k = f 5 := by
      clear hf hinj g i j
      omega
    rcases this with c | c | c | c | c | c
    · rw [c, ← (hf 0 (by omega)).2]; exact (j 0 (by omega)).pot
    · rw [c, ← (hf 1 (by omega)).2]; exact (j 1 (by omega)).pot
    · rw [c, ← (hf 2 (by omega)).2]; exact (j 2 (by omega)).pot
    · rw [c, ← (hf 3 (by omega)).2]; exact (j 3 (by omega)).pot
    · rw [c, ← (hf 4 (by omega)).2]; exact (j 4 (by omega)).pot
    · rw [c, ← (hf 5 (by omega)).2]; exact (j 5 (by omega)).pot
  have q0 := hp 0 (by omega); have q1 := hp 1 (by omega); have q2 := hp 2 (by omega); have q3 := hp 3 (by omega); have q4 := hp 4 (by omega); have q5 := hp 5 (by omega)
  have hk := G.2.2.2.2.2.2.2.2.2.2
  unfold potA at hk
  simp only [Nat.mul_zero, Nat.add_zero, Nat.mul_one, Nat.reduceMul, Nat.reduceAdd] at q0 q1 q2 q3 q4 q5
  omega

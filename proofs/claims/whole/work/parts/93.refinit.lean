/-! the reference, made -/
theorem rIx_in : ∀ f g : Fin 14, rIx f.val = rIx g.val → rIx f.val ≠ 0 → f = g := by decide
theorem rIx_le : ∀ f : Fin 14, rIx f.val ≤ 9 := by decide
/-- k of its arrays are made, u cells used -/
def rNw (m : Nat) (h H : HP) (n u : Nat) : Prop := Al m h H ∧ hZ H = m + 1 + n ∧ hU H = hU h + u ∧ (∀ i, 1 ≤ i → i ≤ n → hTy H (m + i) = rLn i ∧ ∀ j, hI H (m + i) j = 0) ∧ (∀ f : Nat, f < 14 → rIx f ≠ 0 → rIx f ≤ n → hR H m (f : Nat) = some (m + rIx f)) ∧ hI H m = hI h m
theorem rNw.step {m n u c f : Nat} {h H : HP} {ty : Nat × Nat} (I : rNw m h H n u) (hz : hZ h = m + 1) (hf : f < 14) (hi : rIx f = n + 1) (ht : ty = rLn (n + 1)) : rNw m h (sR (sNew H ty c) m (f : Nat) (some (hZ H))) (n + 1) (u + c) := by
  obtain ⟨A, z, us, t, r, hm⟩ := I
  refine ⟨(A.trans Al.new).trans Al.sR, by show hZ H + 1 = _; omega, by show hU H + c = _; omega, fun i h1 h2 => ?_, fun g hg hg0 hgn => ?_, ?_⟩
  · by_cases hin : i = n + 1
    · have e : m + i = hZ H := by omega
      refine ⟨?_, fun j => ?_⟩
      · rw [hTy_sR, e, hTy_at, hin]; exact ht
      · show hI (sNew H ty c) (m + i) j = 0
        rw [e]
        exact if_pos rfl
    · have t := t i h1 (by omega)
      refine ⟨?_, fun j => ?_⟩
      · rw [hTy_sR, hTy_new (by omega)]; exact t.1
      · show hI (sNew H ty c) (m + i) j = 0
        rw [hI_new (by omega)]
        exact t.2 j
  · by_cases hgf : g = f
    · subst hgf
      rw [hi, show m + (n + 1) = hZ H by omega]
      exact hR_sR_eq
    · have hne : rIx g ≠ n + 1 := fun e => by
        have := rIx_in ⟨g, hg⟩ ⟨f, hf⟩ (by show rIx g = rIx f; omega) hg0
        exact hgf (Fin.mk.inj this)
      rw [hR_sR, if_neg (fun q => hgf (by omega)), hR_new (by omega)]
      exact r g hg hg0 (by omega)
  · show hI (sNew H ty c) m = _
    rw [hI_new (by omega)]
    exact hm
/-- the reference's cells at first -/
def xI0 : Nat → Int → Int := fun a b => if a = 1 ∧ b = 13 then -1 else if a = 1 ∧ b = 12 then 1 else if a = 1 ∧ b = 0 then 1 else 0
set_option maxRecDepth 20000 in
set_option maxHeartbeats 2000000 in
theorem sp_m_init {d m : Nat} {h : HP} (hK0 : hTy h m = (8, 0)) (h3 : 3 ≤ m) (hz : m + 1 = hZ h) (h0 : ∀ j, hI h m j = 0) {Q : HP → Prop} (K : ∀ H, Al m h H → hZ H = m + 10 → hU H = hU h + 109619 → RO m H → (∀ i, i ≤ 9 → hI H (m + i) = xI0 i) → Q H) : CaV (d + 1) 1 [.inr (some m)] h Q := by
  have hC : cod 1 = c_m_init := rfl
  refine CaV.start rfl ?_
  have I0 : rNw m h h 0 0 := ⟨Al.refl, by omega, rfl, fun i h1 h2 => absurd h1 (by omega), fun f _ h1 h2 => absurd h1 (by omega), rfl⟩
  refine x_1 (p' := 1) hC rfl rfl rfl rfl ?_
  refine x_obj (p' := 2) hC rfl rfl rfl ?_
  refine x_1 (p' := 3) hC rfl rfl rfl rfl ?_
  refine x_1 (p' := 4) hC rfl rfl rfl rfl ?_
  refine x_newi (p' := 5) hC rfl rfl (by decide) ?_
  refine x_putR (p' := 6) hC rfl rfl rfl (by rw [hTy_new (by have := I0.2.1; omega), I0.1.2.1 m (by omega), hK0]) h3 ?_
  obtain ⟨H1, hH1⟩ : ∃ H1, H1 = sR (sNew h (100, (15568 : Int).toNat) (15568 : Int).toNat) m ((0 : Nat) : Int) (some (hZ h)) := ⟨_, rfl⟩
  refine At.heap (h' := H1) hH1.symm ?_
  have I1 : rNw m h H1 1 15568 := by rw [hH1]; exact I0.step hz.symm (by decide) rfl rfl
  clear hH1
  refine x_1 (p' := 7) hC rfl rfl rfl rfl ?_
  refine x_ldc (p' := 8) (v := 62272) hC rfl rfl (by decide) ?_
  refine x_newi (p' := 9) hC rfl rfl (by decide) ?_
  refine x_putR (p' := 10) hC rfl rfl rfl (by rw [hTy_new (by have := I1.2.1; omega), I1.1.2.1 m (by omega), hK0]) h3 ?_
  obtain ⟨H2, hH2⟩ : ∃ H2, H2 = sR (sNew H1 (100, (62272 : Int).toNat) (62272 : Int).toNat) m ((1 : Nat) : Int) (some (hZ H1)) := ⟨_, rfl⟩
  refine At.heap (h' := H2) hH2.symm ?_
  have I2 : rNw m h H2 2 77840 := by rw [hH2]; exact I1.step hz.symm (by decide) rfl rfl
  clear hH2
  refine x_1 (p' := 11) hC rfl rfl rfl rfl ?_
  refine x_1 (p' := 12) hC rfl rfl rfl rfl ?_
  refine x_newi (p' := 13) hC rfl rfl (by decide) ?_
  refine x_putR (p' := 14) hC rfl rfl rfl (by rw [hTy_new (by have := I2.2.1; omega), I2.1.2.1 m (by omega), hK0]) h3 ?_
  obtain ⟨H3, hH3⟩ : ∃ H3, H3 = sR (sNew H2 (100, (15568 : Int).toNat) (15568 : Int).toNat) m ((2 : Nat) : Int) (some (hZ H2)) := ⟨_, rfl⟩
  refine At.heap (h' := H3) hH3.symm ?_
  have I3 : rNw m h H3 3 93408 := by rw [hH3]; exact I2.step hz.symm (by decide) rfl rfl
  clear hH3
  refine x_1 (p' := 15) hC rfl rfl rfl rfl ?_
  refine x_1 (p' := 16) hC rfl rfl rfl rfl ?_
  refine x_newi (p' := 17) hC rfl rfl (by decide) ?_
  refine x_putR (p' := 18) hC rfl rfl rfl (by rw [hTy_new (by have := I3.2.1; omega), I3.1.2.1 m (by omega), hK0]) h3 ?_
  obtain ⟨H4, hH4⟩ : ∃ H4, H4 = sR (sNew H3 (100, (15568 : Int).toNat) (15568 : Int).toNat) m ((3 : Nat) : Int) (some (hZ H3)) := ⟨_, rfl⟩
  refine At.heap (h' := H4) hH4.symm ?_
  have I4 : rNw m h H4 4 108976 := by rw [hH4]; exact I3.step hz.symm (by decide) rfl rfl
  clear hH4
  refine x_1 (p' := 19) hC rfl rfl rfl rfl ?_
  refine x_1 (p' := 20) hC rfl rfl rfl rfl ?_
  refine x_newc (p' := 21) hC rfl rfl (by decide) ?_
  refine x_putR (p' := 22) hC rfl rfl rfl (by rw [hTy_new (by have := I4.2.1; omega), I4.1.2.1 m (by omega), hK0]) h3 ?_
  obtain ⟨H5, hH5⟩ : ∃ H5, H5 = sR (sNew H4 (101, (60 : Int).toNat) (60 : Int).toNat) m ((5 : Nat) : Int) (some (hZ H4)) := ⟨_, rfl⟩
  refine At.heap (h' := H5) hH5.symm ?_
  have I5 : rNw m h H5 5 109036 := by rw [hH5]; exact I4.step hz.symm (by decide) rfl rfl
  clear hH5
  refine x_1 (p' := 23) hC rfl rfl rfl rfl ?_
  refine x_1 (p' := 24) hC rfl rfl rfl rfl ?_
  refine x_newi (p' := 25) hC rfl rfl (by decide) ?_
  refine x_putR (p' := 26) hC rfl rfl rfl (by rw [hTy_new (by have := I5.2.1; omega), I5.1.2.1 m (by omega), hK0]) h3 ?_
  obtain ⟨H6, hH6⟩ : ∃ H6, H6 = sR (sNew H5 (100, (3 : Int).toNat) (3 : Int).toNat) m ((9 : Nat) : Int) (some (hZ H5)) := ⟨_, rfl⟩
  refine At.heap (h' := H6) hH6.symm ?_
  have I6 : rNw m h H6 6 109039 := by rw [hH6]; exact I5.step hz.symm (by decide) rfl rfl
  clear hH6
  refine x_1 (p' := 27) hC rfl rfl rfl rfl ?_
  refine x_1 (p' := 28) hC rfl rfl rfl rfl ?_
  refine x_newi (p' := 29) hC rfl rfl (by decide) ?_
  refine x_putR (p' := 30) hC rfl rfl rfl (by rw [hTy_new (by have := I6.2.1; omega), I6.1.2.1 m (by omega), hK0]) h3 ?_
  obtain ⟨H7, hH7⟩ : ∃ H7, H7 = sR (sNew H6 (100, (10 : Int).toNat) (10 : Int).toNat) m ((10 : Nat) : Int) (some (hZ H6)) := ⟨_, rfl⟩
  refine At.heap (h' := H7) hH7.symm ?_
  have I7 : rNw m h H7 7 109049 := by rw [hH7]; exact I6.step hz.symm (by decide) rfl rfl
  clear hH7
  refine x_1 (p' := 31) hC rfl rfl rfl rfl ?_
  refine x_1 (p' := 32) hC rfl rfl rfl rfl ?_
  refine x_newi (p' := 33) hC rfl rfl (by decide) ?_
  refine x_putR (p' := 34) hC rfl rfl rfl (by rw [hTy_new (by have := I7.2.1; omega), I7.1.2.1 m (by omega), hK0]) h3 ?_
  obtain ⟨H8, hH8⟩ : ∃ H8, H8 = sR (sNew H7 (100, (10 : Int).toNat) (10 : Int).toNat) m ((11 : Nat) : Int) (some (hZ H7)) := ⟨_, rfl⟩
  refine At.heap (h' := H8) hH8.symm ?_
  have I8 : rNw m h H8 8 109059 := by rw [hH8]; exact I7.step hz.symm (by decide) rfl rfl
  clear hH8
  refine x_1 (p' := 35) hC rfl rfl rfl rfl ?_
  refine x_1 (p' := 36) hC rfl rfl rfl rfl ?_
  refine x_newi (p' := 37) hC rfl rfl (by decide) ?_
  refine x_putR (p' := 38) hC rfl rfl rfl (by rw [hTy_new (by have := I8.2.1; omega), I8.1.2.1 m (by omega), hK0]) h3 ?_
  obtain ⟨H9, hH9⟩ : ∃ H9, H9 = sR (sNew H8 (100, (560 : Int).toNat) (560 : Int).toNat) m ((12 : Nat) : Int) (some (hZ H8)) := ⟨_, rfl⟩
  refine At.heap (h' := H9) hH9.symm ?_
  have I9 : rNw m h H9 9 109619 := by rw [hH9]; exact I8.step hz.symm (by decide) rfl rfl
  clear hH9
  refine x_1 (p' := 39) hC rfl rfl rfl rfl ?_
  refine x_getR (p' := 40) (q := some (m + 1)) hC rfl rfl rfl (by show (hTy H9 m).1 = 7 + 1; rw [I9.1.2.1 m (by omega), hK0]) (by show hR H9 m ((0 : Nat) : Int) = _; exact I9.2.2.2.2.1 0 (by decide) (by decide) (by decide)) ?_
  refine x_1 (p' := 41) hC rfl rfl rfl rfl ?_
  refine x_1 (p' := 42) hC rfl rfl rfl rfl ?_
  refine x_iast (p' := 43) hC rfl rfl rfl (by show hTy H9 (m + 1) = (100, 15568); exact (I9.2.2.2.1 1 (by decide) (by decide)).1) (by omega) (by decide) (by decide) ?_
  refine x_1 (p' := 44) hC rfl rfl rfl rfl ?_
  refine x_getR (p' := 45) (q := some (m + 1)) hC rfl rfl rfl (by show (hTy H9 m).1 = 7 + 1; rw [I9.1.2.1 m (by omega), hK0]) (by show hR H9 m ((0 : Nat) : Int) = _; exact I9.2.2.2.2.1 0 (by decide) (by decide) (by decide)) ?_
  refine x_1 (p' := 46) hC rfl rfl rfl rfl ?_
  refine x_1 (p' := 47) hC rfl rfl rfl rfl ?_
  refine x_iast (p' := 48) hC rfl rfl rfl (by show hTy H9 (m + 1) = (100, 15568); exact (I9.2.2.2.1 1 (by decide) (by decide)).1) (by omega) (by decide) (by decide) ?_
  refine x_1 (p' := 49) hC rfl rfl rfl rfl ?_
  refine x_getR (p' := 50) (q := some (m + 1)) hC rfl rfl rfl (by show (hTy H9 m).1 = 7 + 1; rw [I9.1.2.1 m (by omega), hK0]) (by show hR H9 m ((0 : Nat) : Int) = _; exact I9.2.2.2.2.1 0 (by decide) (by decide) (by decide)) ?_
  refine x_1 (p' := 51) hC rfl rfl rfl rfl ?_
  refine x_1 (p' := 52) hC rfl rfl rfl rfl ?_
  refine x_iast (p' := 53) hC rfl rfl rfl (by show hTy H9 (m + 1) = (100, 15568); exact (I9.2.2.2.1 1 (by decide) (by decide)).1) (by omega) (by decide) (by decide) ?_
  refine x_ret hC rfl rfl rfl ⟨rfl, ?_⟩
  obtain ⟨A, z, us, t, r, hm⟩ := I9
  have hs1 : ∀ {G : HP} {j v : Int}, (∀ i, i < m + 1 ∨ m + 1 < i → hI (sI G (m + 1) j v) i = hI G i) := fun {G j v} i hi => hI_sI_ne (by omega)
  have al : ∀ {G : HP} {j v : Int}, Al m h G → Al m h (sI G (m + 1) j v) := fun {G j v} x => ⟨x.1, x.2.1, fun b hb hn => ⟨by rw [hs1 b (by omega)]; exact (x.2.2 b hb hn).1, (x.2.2 b hb hn).2⟩⟩
  refine K _ (al (al (al A))) (by show hZ H9 = _; omega) us ⟨h3, fun i hi => ?_, fun f hf hf0 => ?_⟩ (fun i hi => ?_)
  · show hTy H9 (m + i) = _
    by_cases hi0 : i = 0
    · rw [hi0, Nat.add_zero, A.2.1 m (by omega), hK0]; rfl
    · exact (t i (by omega) hi).1
  · show hR H9 m (f : Nat) = _
    exact r f hf hf0 (rIx_le ⟨f, hf⟩)
  · funext j
    by_cases hi1 : i = 1
    · subst hi1
      unfold xI0
      rw [hI_sI]
      by_cases q13 : j = 13
      · rw [if_pos ⟨rfl, q13⟩, if_pos ⟨rfl, q13⟩]
      · rw [if_neg (fun q => q13 q.2), if_neg (fun q => q13 q.2), hI_sI]
        by_cases q12 : j = 12
        · rw [if_pos ⟨rfl, q12⟩, if_pos ⟨rfl, q12⟩]
        · rw [if_neg (fun q => q12 q.2), if_neg (fun q => q12 q.2), hI_sI]
          by_cases q0 : j = 0
          · rw [if_pos ⟨rfl, q0⟩, if_pos ⟨rfl, q0⟩]
          · rw [if_neg (fun q => q0 q.2), if_neg (fun q => q0 q.2)]
            exact (t 1 (by decide) (by decide)).2 j
    · rw [hs1 _ (by omega), hs1 _ (by omega), hs1 _ (by omega)]
      unfold xI0
      rw [if_neg (fun q => hi1 q.1), if_neg (fun q => hi1 q.1), if_neg (fun q => hi1 q.1)]
      by_cases hi0 : i = 0
      · rw [hi0, Nat.add_zero, hm]; exact h0 j
      · exact (t i (by omega) hi).2 j

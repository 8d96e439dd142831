/-! THE SIMULATION: the beginning -/
theorem xI0_at {k : Int} : xI0 1 k = if k = 13 then -1 else if k = 12 then 1 else if k = 0 then 1 else 0 := by
  unfold xI0
  by_cases a : k = 13
  · rw [if_pos ⟨rfl, a⟩, if_pos a]
  · rw [if_neg (fun q => a q.2), if_neg a]
    by_cases b : k = 12
    · rw [if_pos ⟨rfl, b⟩, if_pos b]
    · rw [if_neg (fun q => b q.2), if_neg b]
      by_cases c : k = 0
      · rw [if_pos ⟨rfl, c⟩, if_pos c]
      · rw [if_neg (fun q => c q.2), if_neg c]
theorem sim_init {S : Nat → Int → Int} (I : InitS S) (hc : CntR S (fun _ => [])) : Sim (xI0 1) 1 [] 0 S (fun _ => []) := by
  obtain ⟨i4, i5, i6, i7, h3, h4, h5, h6, h7, h8, se, se4, sf, i8⟩ := I
  have z : ∀ k : Int, k ≠ 13 → k ≠ 12 → k ≠ 0 → xI0 1 k = 0 := fun k a b c => by rw [xI0_at, if_neg a, if_neg b, if_neg c]
  have s0 : xI0 1 0 = 1 := by rw [xI0_at]; decide
  have s12 : xI0 1 12 = 1 := by rw [xI0_at]; decide
  have s13 : xI0 1 13 = -1 := by rw [xI0_at]; decide
  generalize xI0 1 = s at *
  have no : ∀ f, ¬ inR7 s f := fun f q => by
    have := q.1
    have := q.2
    have := z 7 (by decide) (by decide) (by decide)
    omega
  have g0 : ∀ g, 0 ≤ g → g < s 0 → g = 0 := fun g a b => by omega
  have s1 : s 1 = 0 := z 1 (by decide) (by decide) (by decide)
  have s2 : s 2 = 0 := z 2 (by decide) (by decide) (by decide)
  have s3 : s 3 = 0 := z 3 (by decide) (by decide) (by decide)
  have s4 : s 4 = 0 := z 4 (by decide) (by decide) (by decide)
  have s5 : s 5 = 0 := z 5 (by decide) (by decide) (by decide)
  have s6 : s 6 = 0 := z 6 (by decide) (by decide) (by decide)
  have s7 : s 7 = 0 := z 7 (by decide) (by decide) (by decide)
  have of : ∀ w, 0 ≤ w → w < 10 → w ≠ 4 → w ≠ 5 → rOf s 0 w = 0 := fun w a b c d => z _ (by omega) (by omega) (by omega)
  have of4 : rOf s 0 4 = 1 := s12
  have of5 : rOf s 0 5 = -1 := s13
  refine ⟨⟨⟨by rw [s0, i4], by rw [s1, i5], by rw [s2, i6], by rw [s4, i7], ?_, by rw [s6, i8]⟩, fun g a b => ?_, fun u a b => by omega, fun i a b => by omega, RelW.iff.mpr ⟨hc.1, [], ⟨List.nodup_nil, fun f => ⟨fun q => absurd q List.not_mem_nil, fun q => absurd q.1 (no f)⟩⟩, List.Pairwise.nil, trivial⟩⟩, ⟨⟨by omega, by omega, by omega, by omega, fun g a b => ?_, fun u a b => by omega⟩, ⟨of5, fun g a b => by omega⟩, fun g a b => ?_, fun u a b => by omega, by omega, fun i a b => by omega⟩, ⟨fun f q => absurd q (no f), fun f q => absurd q (no f), fun f q => absurd q (no f), fun f e q => absurd q (no f), ⟨fun _ => (0, 0), fun f q => absurd q.1 (no f), fun f e q => absurd q.1 (no f)⟩, ?_⟩, fun g a b => ⟨fun i j x y w => ?_, fun i j x y w => ?_⟩⟩
  · unfold cKept
    rw [s5, i7]
    rfl
  · have e := g0 g a b
    subst e
    refine ⟨⟨fun k x y => ?_, by rw [of5, h3], ?_, by rw [of 6 (by decide) (by decide) (by decide) (by decide), h5], by rw [of 7 (by decide) (by decide) (by decide) (by decide), h6], by rw [of 8 (by decide) (by decide) (by decide) (by decide), h7], fun q => ?_, fun _ => h8, fun u x y => ?_⟩, RelK.iff.mpr ⟨hc.2 0 (by decide) (by decide), [], ⟨List.nodup_nil, fun f => ⟨fun q => absurd q List.not_mem_nil, fun q => absurd q.1 (no f)⟩⟩, trivial⟩⟩
    · by_cases q : k = 4
      · rw [q, of4, se4]
      · rw [of k x (by omega) q (by omega)]
        exact (se k x (by omega)).symm
    · rw [h4]
      unfold rDepth
      rw [of5]
      rfl
    · rw [of 6 (by decide) (by decide) (by decide) (by decide)] at q
      omega
    · have nf : ¬ fHas (SF S (15 + 7 * (0 : Int).toNat)) u := fun q => by
        have q : rBit (SF S 15 5) u := q
        rw [sf] at q
        exact rBit_0 ⟨x, y⟩ q
      rw [z (98 + 30 * 0 + 3 * u) (by omega) (by omega) (by omega)]
      exact ⟨⟨fun q => absurd q (by decide), fun q => absurd q nf⟩, fun q => absurd q nf⟩
  · have e := g0 g a b
    subst e
    rw [of5, of4]
    decide
  · have e := g0 g a b
    subst e
    rw [of 0 (by decide) (by decide) (by decide) (by decide), of 1 (by decide) (by decide) (by decide) (by decide), of 2 (by decide) (by decide) (by decide) (by decide), of 3 (by decide) (by decide) (by decide) (by decide), of 6 (by decide) (by decide) (by decide) (by decide), of 9 (by decide) (by decide) (by decide) (by decide)]
    decide
  · rw [s7]
    show ([] : List Int).length ≤ 40
    decide
  · have w : j < ((0 : Nat) : Int) := w
    omega
  · have w : j < ((0 : Nat) : Int) := w
    omega
theorem CaI.imp {d y : Nat} {as : List AV} {h : HP} {Q Q' : Int → HP → Prop} (k : CaI d y as h Q) (hq : ∀ x h', Q x h' → Q' x h') : CaI d y as h Q' := At.mono k (fun v h' ⟨x, e, q⟩ => ⟨x, e, hq x h' q⟩)
theorem Glob.skip {n L0 : Nat} {xs : Nat → Int32} {h : HP} (G : Glob n L0 xs h) (hn : n + 1 ≤ 512) : Glob (n + 1) L0 xs h := by
  obtain ⟨U0, o, ww, tr, S, R, st, X, L, A, C, D, B, E, tx, nu, O, Bd, H, P⟩ := G
  have := H.glob (P.next hn ⟨rfl, rfl⟩ EqR.refl rfl rfl P.2.2.2.2.2.1 (fun _ _ => ⟨rfl, rfl⟩) P.2.2.2.2.2.2.2)
  rw [H.2.1.eq] at this
  exact this
theorem Glob.scr {n L0 : Nat} {xs : Nat → Int32} {h : HP} (G : Glob n L0 xs h) : Scr L0 xs h ∧ (hTy h 3).1 = 7 := by
  obtain ⟨U0, o, ww, tr, S, R, st, X, L, A, C, D, B, E, tx, nu, O, Bd, H, P⟩ := G
  exact ⟨H.2.2.2.1, by rw [H.1.2.1.1]⟩
theorem Glob.room {n L0 : Nat} {xs : Nat → Int32} {h : HP} (G : Glob n L0 xs h) : hZ h ≤ 600003 ∧ hU h ≤ 7302250 := by
  obtain ⟨U0, o, ww, tr, S, R, st, X, L, A, C, D, B, E, tx, nu, O, Bd, H, P⟩ := G
  have r := H.1.room
  have u := H.2.2.2.2
  omega
set_option maxRecDepth 20000 in
set_option maxHeartbeats 2000000 in
theorem law_init {L0 : Nat} {xs : Nat → Int32} {Q : Option AV → HP → Prop} (K : ∀ H, Glob 0 L0 xs H → At 16 0 8 [some (.inr (some 2)), some (.inr (some 3)), some (.inr (some 488)), none] [] H Q) : At 16 0 0 (ini 0 [.inr (some 2)]) [] (hp0 L0 xs) Q := by
  have hC : cod 0 = c_L_law := rfl
  show At 16 0 0 [some (.inr (some 2)), none, none, none] [] (hp0 L0 xs) Q
  have z0 : hZ (hp0 L0 xs) = 3 := rfl
  have u0 : hU (hp0 L0 xs) = 0 := rfl
  have sta : Sta (hp0 L0 xs) := ⟨⟨rfl, rfl⟩, rfl, rfl⟩
  have sc0 : hTy (hp0 L0 xs) 2 = (100, L0) ∧ hI (hp0 L0 xs) 2 = fun j => (xs j.toNat).toInt := ⟨rfl, rfl⟩
  generalize hp0 L0 xs = h0 at *
  refine x_new (p' := 1) hC rfl rfl rfl ?_
  refine x_1 (p' := 2) hC rfl rfl rfl rfl ?_
  refine x_cVN0 (p' := 3) (n := 164) hC rfl rfl rfl rfl rfl ?_
  rw [z0]
  refine sp_P_init (d := 11) (by have := @hTy_at h0 (6 + 1, 0) (fcn 6); rw [z0] at this; exact this) (by show hZ h0 + 1 = 4; omega) (sta.al (c := 3) Al.new (by decide) (by omega)) (fun H S I => ?_)
  obtain ⟨pz, pu, pb, pt, pr, p3⟩ := I
  refine x_stA1 (p' := 4) hC rfl rfl rfl ?_
  refine x_new (p' := 5) hC rfl rfl rfl ?_
  refine x_1 (p' := 6) hC rfl rfl rfl rfl ?_
  refine x_cVN0 (p' := 7) (n := 1) hC rfl rfl rfl rfl rfl ?_
  have pz : hZ H = 488 := by omega
  refine sp_m_init (d := 14) (m := hZ H) hTy_at (by omega) rfl (fun j => if_pos rfl) (fun H2 x z u ro xi => ?_)
  refine x_stA2 (p' := 8) hC rfl rfl rfl ?_
  rw [pz] at x ro xi z ⊢
  refine K H2 ?_
  have u1 : hU (sNew h0 (6 + 1, 0) (fcn 6)) = hU h0 + fcn 6 := rfl
  have u2 : hU (sNew H (8, 0) (fcn 7)) = hU H + fcn 7 := rfl
  have f6 : fcn 6 ≤ 100 := by decide
  have f7 : fcn 7 ≤ 100 := by decide
  have xo : Al 4 H H2 := by
    have x' : Al (hZ H) (sNew H (7 + 1, 0) (fcn 7)) H2 := by rw [pz]; exact x
    exact x'.obj
  have B2 := pb.al xo (by omega)
  have r4 : ∀ j, hR H2 4 j = hR H 4 j := fun j => by
    have := (x.2.2 4 (by show 4 < hZ H + 1; omega) (by decide)).2
    rw [this, hR_new (by omega)]
  have c2 : hTy H2 2 = (100, L0) ∧ hI H2 2 = fun j => (xs j.toNat).toInt := by
    have a := xo.2.1 2 (by omega)
    have b := (xo.2.2 2 (by omega) (by decide)).1
    have a1 := p3 2 (by decide)
    rw [a, b, a1.1, a1.2, hTy_new (by omega), hI_new (by omega)]
    exact sc0
  have t8 : ∀ r, r < 6 → 8 ≤ trI r := fun r hr => by
    unfold trI
    split
    · omega
    · split <;> omega
  have TT : ∀ r, r < 6 → TR (trI r) H2 oG wG (S r) (fun _ => []) ∧ InitS (S r) := fun r hr => by
    have := pt r hr (by omega)
    exact ⟨this.1.al (t8 r hr) xo (Or.inr rfl), this.2⟩
  have pA : potA wG = 576 := by decide
  have G : GP (hU H2) H2 oG wG trI S (fun _ _ => []) 0 := by
    refine ⟨B2.1, B2.2.1, B2.2.2.1, fun j hj => by rw [r4]; exact pr j hj, ⟨B2.2.2.2.1, by decide, by decide⟩, B2.2.2.2.2.1, fun b hb => oG_out (by omega), fun r hr => ?_, fun r q hr hq e => ?_, fun r hr => (TT r hr).1, by rw [pA]; exact ⟨rfl, by omega, by omega⟩⟩
    · unfold trI
      by_cases a : r = 4
      · exact ⟨0, by decide, by rw [if_pos a]⟩
      · rw [if_neg a]
        by_cases b : r = 5
        · exact ⟨1, by decide, by rw [if_pos b]⟩
        · rw [if_neg b]
          exact ⟨r + 2, by omega, by omega⟩
    · unfold trI at e
      repeat' split at e
      all_goals omega
  have A : RefAt H2 xI0 := ⟨ro, xi⟩
  have O5 : OT H2 H2 0 (hI H2 5 2) (hI H2 5 3) (hI H2 5 5) (hI H2 5 6) (hI H2 5 7) (hI H2 6) (hI H2 7) := ⟨EO.refl, B2.2.2.2.2.1, ⟨B2.2.2.2.2.2, rfl, rfl, rfl, rfl, rfl⟩, rfl, rfl⟩
  have si := sim_init (TT 4 (by decide)).2 (TT 4 (by decide)).1.cnt
  refine ⟨hU H2, oG, wG, trI, S, fun _ _ => [], 0, xI0, 0, _, _, _, _, _, _, _, [], 0, ⟨G, A, O5, ⟨c2.1, fun j => congrFun c2.2 j⟩, by omega⟩, ⟨rfl, rfl, by decide, by decide, by decide⟩, fun j a b => by omega, ⟨Nat.le_refl _, by decide⟩, by decide, fun a n0 n1 n2 nx a0 k => ?_, ⟨?_, fun q a b => Nat.zero_le _, by decide⟩, fun j hj => by omega, fun r hr q a b => Nat.zero_le _⟩
  · have := k.1
    omega
  · exact si

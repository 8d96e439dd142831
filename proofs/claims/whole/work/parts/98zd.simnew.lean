/-! THE SIMULATION: new hubs, new units -/
theorem rDep_st {s : Int → Int} {n0 : Int} (lt : ∀ x, 0 ≤ x → x < n0 → rOf s x 5 < x) : ∀ (n : Nat) (x : Int), x < (n : Int) → x < n0 → rDep s (n + 1) x = rDep s n x
  | 0, x, h, _ => by
    show (if x < 0 then 0 else 1 + rDep s 0 (rOf s x 5)) = 0
    rw [if_pos (by omega)]
  | n + 1, x, h, h0 => by
    by_cases q : x < 0
    · rw [rDep, if_pos q, rDep, if_pos q]
    · have l := lt x (by omega) h0
      rw [rDep, if_neg q, rDep_st lt n _ (by omega) (by omega)]
      conv => rhs; rw [rDep, if_neg q]
theorem Sim.newHub {s : Int → Int} {t : Int} {O : List (Int × Int)} {C : Int} {S : Nat → Int → Int} {R : Nat → List FV} (h : Sim s t O C S R) {a p : Int} (ok : okNew s a p) (h5 : s 0 < 5) : Sim (rHub s a p) t O C (upX (cHb S (cT S 4) a (cH S a 4 + 1) p) 0 4 (cT S 4 + 1)) (upR R (13 + 7 * (cT S 4).toNat) []) ∧ (rHub s a p 2 = s 2 ∧ rHub s a p 0 = s 0 + 1) := by
  obtain ⟨hr, hd, hf, hk⟩ := h
  have hs := hd.1
  have h00 := hs.1
  have h01 := hs.2.1
  have h05 := hs.2.2.2.1
  obtain ⟨t0, t1, t2, t4, t5, t6⟩ := hr.1
  obtain ⟨⟨a0, a1⟩, p1, p2⟩ := ok
  rw [← t0]
  generalize hn : s 0 = n at *
  have e0 : rHub s a p 0 = n + 1 := by unfold rHub; rw [ups_eq rfl, hn]
  have e : ∀ k, k ≠ 0 → (k < 8 + 10 * n ∨ 8 + 10 * n + 10 ≤ k) → (k < 98 + 30 * n ∨ 98 + 30 * n + 30 ≤ k) → rHub s a p k = s k := fun k x y z => by
    unfold rHub
    rw [ups_ne x, hn]
    unfold rHubH rHubI
    rw [if_neg (by omega), if_neg (by omega)]
  have eh : ∀ w, 0 ≤ w → w < 10 → rOf (rHub s a p) n w = if w = 4 then p else if w = 5 then a else 0 := fun w x y => by
    unfold rOf rHub
    rw [ups_ne (by omega), hn]
    unfold rHubH rHubI
    rw [if_neg (by omega), if_pos (by omega)]
    by_cases q : w = 4
    · rw [if_pos (by omega), if_pos q]
    · rw [if_neg (by omega), if_neg q]
      by_cases q : w = 5
      · rw [if_pos (by omega), if_pos q]
      · rw [if_neg (by omega), if_neg q]
  have ez : ∀ w, 0 ≤ w → w < 10 → w ≠ 4 → w ≠ 5 → rOf (rHub s a p) n w = 0 := fun w x y z v => by rw [eh w x y, if_neg z, if_neg v]
  have eh0 : ∀ k, 98 + 30 * n ≤ k → k < 98 + 30 * n + 30 → rHub s a p k = 0 := fun k x y => by
    unfold rHub
    rw [ups_ne (by omega), hn]
    unfold rHubH
    rw [if_pos ⟨x, y⟩]
  generalize rHub s a p = s' at *
  have cm : ∀ m k, ¬ (m = 0 ∧ k = 4) → (m < 11 + 7 * n.toNat ∨ 15 + 7 * n.toNat < m ∨ m = 14 + 7 * n.toNat) → upX (cHb S n a (cH S a 4 + 1) p) 0 4 (n + 1) m k = S m k := fun m k x y => by
    rw [upX_at x]
    unfold cHb cHb0
    rw [upX_at (by omega), upX_at (by omega), upX_at (by omega), upX_at (by omega), upX_at (by omega), upX_at (by omega), upX_at (by omega), upX_at (by omega), upX_at (by omega)]
    unfold upA
    rw [if_neg (by omega)]
  have c04 : cT (upX (cHb S n a (cH S a 4 + 1) p) 0 4 (n + 1)) 4 = n + 1 := upX_is
  have cT' : ∀ k, k ≠ 4 → cT (upX (cHb S n a (cH S a 4 + 1) p) 0 4 (n + 1)) k = cT S k := fun k q => cm 0 k (by omega) (by omega)
  have cnS : ∀ k, 0 ≤ k → k < 5 → cSe (upX (cHb S n a (cH S a 4 + 1) p) 0 4 (n + 1)) n k = if k = 4 then p else 0 := fun k x y => by
    unfold cSe
    rw [upX_at (by omega)]
    unfold cHb cHb0
    rw [upX_at (by omega), upX_at (by omega), upX_at (by omega), upX_at (by omega), upX_at (by omega), upX_at (by omega), upX_at (by omega), upX_at (by omega)]
    by_cases q : k = 4
    · rw [q, upX_is, if_pos rfl]
    · rw [upX_at (by omega), if_neg q]
      unfold upA
      rw [if_pos rfl, if_pos ⟨x, y⟩]
  have cn3 : cH (upX (cHb S n a (cH S a 4 + 1) p) 0 4 (n + 1)) n 3 = a ∧ cH (upX (cHb S n a (cH S a 4 + 1) p) 0 4 (n + 1)) n 4 = cH S a 4 + 1 ∧ cH (upX (cHb S n a (cH S a 4 + 1) p) 0 4 (n + 1)) n 5 = 0 ∧ cH (upX (cHb S n a (cH S a 4 + 1) p) 0 4 (n + 1)) n 6 = 0 ∧ cH (upX (cHb S n a (cH S a 4 + 1) p) 0 4 (n + 1)) n 7 = 0 ∧ cH (upX (cHb S n a (cH S a 4 + 1) p) 0 4 (n + 1)) n 8 = -1 := by
    show upX (cHb S n a (cH S a 4 + 1) p) 0 4 (n + 1) (11 + 7 * n.toNat) 3 = a ∧ upX (cHb S n a (cH S a 4 + 1) p) 0 4 (n + 1) (11 + 7 * n.toNat) 4 = cH S a 4 + 1 ∧ upX (cHb S n a (cH S a 4 + 1) p) 0 4 (n + 1) (11 + 7 * n.toNat) 5 = 0 ∧ upX (cHb S n a (cH S a 4 + 1) p) 0 4 (n + 1) (11 + 7 * n.toNat) 6 = 0 ∧ upX (cHb S n a (cH S a 4 + 1) p) 0 4 (n + 1) (11 + 7 * n.toNat) 7 = 0 ∧ upX (cHb S n a (cH S a 4 + 1) p) 0 4 (n + 1) (11 + 7 * n.toNat) 8 = -1
    unfold cHb
    refine ⟨?_, ?_, ?_, ?_, ?_, ?_⟩
    · rw [upX_at (by omega), upX_at (by omega), upX_at (by omega), upX_at (by omega), upX_at (by omega), upX_at (by omega), upX_is]
    · rw [upX_at (by omega), upX_at (by omega), upX_at (by omega), upX_at (by omega), upX_at (by omega), upX_is]
    · rw [upX_at (by omega), upX_at (by omega), upX_at (by omega), upX_at (by omega), upX_is]
    · rw [upX_at (by omega), upX_at (by omega), upX_at (by omega), upX_is]
    · rw [upX_at (by omega), upX_at (by omega), upX_is]
    · rw [upX_at (by omega), upX_is]
  have cnZ : cZ (upX (cHb S n a (cH S a 4 + 1) p) 0 4 (n + 1)) n = 0 := by
    unfold cZ
    rw [upX_at (by omega)]
    unfold cHb cHb0
    rw [upX_at (by omega), upX_at (by omega), upX_at (by omega), upX_at (by omega), upX_at (by omega), upX_at (by omega), upX_at (by omega), upX_is]
  have cnF : SF (upX (cHb S n a (cH S a 4 + 1) p) 0 4 (n + 1)) (15 + 7 * n.toNat) 5 = 0 := by
    unfold SF
    rw [if_neg (by decide), if_pos (by decide), upX_at (by omega)]
    unfold cHb cHb0
    rw [upX_at (by omega), upX_at (by omega), upX_at (by omega), upX_at (by omega), upX_at (by omega), upX_at (by omega), upX_is]
  have sf : ∀ m : Nat, (m + 2 < 11 + 7 * n.toNat ∨ 15 + 7 * n.toNat < m) → 0 < m → SF (upX (cHb S n a (cH S a 4 + 1) p) 0 4 (n + 1)) m = SF S m := fun m x y => by
    funext k
    unfold SF
    rw [cm m k (by omega) (by omega), cm (m + 1) (k - 6) (by omega) (by omega), cm (m + 2) (k - 16) (by omega) (by omega)]
  generalize upX (cHb S n a (cH S a 4 + 1) p) 0 4 (n + 1) = S' at *
  have of : ∀ g w, 0 ≤ g → g < n → 0 ≤ w → w < 10 → rOf s' g w = rOf s g w := fun g w x y z v => e _ (by omega) (by omega) (by omega)
  have it : ∀ u w, 0 ≤ u → u < 10 → 0 ≤ w → w < 4 → rIts s' u w = rIts s u w := fun u w x y z v => e _ (by omega) (by omega) (by omega)
  have e7 : s' 7 = s 7 := e 7 (by decide) (by omega) (by omega)
  have e1 : s' 1 = s 1 := e 1 (by decide) (by omega) (by omega)
  have e2 : s' 2 = s 2 := e 2 (by decide) (by omega) (by omega)
  have e5 : s' 5 = s 5 := e 5 (by decide) (by omega) (by omega)
  have hi : ∀ k, 248 ≤ k → s' k = s k := fun k q => e k (by omega) (by omega) (by omega)
  have ho := OthP.of e7 hs.2.2.1.2 (fun k a b => hi k (by omega))
  have lt5 : ∀ x, 0 ≤ x → x < n → rOf s x 5 < x := fun x y z => (hs.2.2.2.2.1 x y (by rw [hn]; exact z)).2.1
  have i7 : ∀ f, inR7 s' f ↔ inR7 s f := fun f => by unfold inR7; rw [e7]
  have per : ∀ c, kidOK s c → rPer s' c = rPer s c := fun c k => by
    unfold rPer
    rcases k with ⟨x, y, z⟩ | ⟨x, y, z⟩
    · rw [if_pos x, if_pos x]; exact it _ 1 y (by omega) (by decide) (by decide)
    · rw [if_neg (by omega), if_neg (by omega)]; exact of _ 4 (by omega) (by omega) (by decide) (by decide)
  refine ⟨⟨⟨⟨?_, ?_, ?_, ?_, ?_, ?_⟩, fun g x y => ?_, fun u x y k z v => ?_, fun i x y => ?_, RelW.iff.mpr ⟨?_, ?_⟩⟩, ⟨⟨by rw [e0]; omega, by rw [e1]; exact h01, by rw [e7]; exact hs.2.2.1, by rw [e5]; exact h05, fun g x y => ?_, fun u x y => ?_⟩, ⟨?_, fun g x y => ?_⟩, fun g x y => ?_, fun u x y => ?_, ?_, fun i x y => ?_⟩, ?_, fun g x y => ?_⟩, e2, e0⟩
  · rw [e0, c04]
  · rw [e1, cT' 5 (by decide)]; exact t1
  · rw [e2, cT' 6 (by decide)]; exact t2
  · rw [e 4 (by decide) (by omega) (by omega), cT' 7 (by decide)]; exact t4
  · unfold cKept at t5 ⊢
    rw [e5, cT' 7 (by decide)]; exact t5
  · rw [e 6 (by decide) (by omega) (by omega), cT' 8 (by decide)]; exact t6
  · rw [e0] at y
    by_cases q : g < n
    · have q' : g < s 0 := by rw [hn]; exact q
      refine ⟨(hr.2.1 g x (by omega)).1.to (fun w z v => of g w x q (by omega) v) (fun k z v => ?_) (fun k z v => e k (by omega) (by omega) (by omega)) (rDepth_congr hs (fun x y z => of x 5 y (by omega) (by decide) (by decide)) ⟨x, q'⟩) (fun k _ _ => cm _ k (by omega) (by omega)) (sf _ (by omega) (by omega)), ?_⟩
      · rw [of g k x q z (by omega)]
        exact ((hr.2.1 g x (by omega)).1.1 k z v).trans (show cSe S g k = cSe S' g k from (cm _ k (by omega) (by omega)).symm)
      · exact (hr.2.1 g x (by omega)).2.keep ho (fun f z => z.elim) (cm _ 1 (by omega) (by omega)) (upR_ne (by omega))
    · have gn : g = n := by omega
      subst gn
      refine ⟨⟨fun k z v => ?_, ?_, ?_, ?_, ?_, ?_, ?_, ?_, fun u z v => ?_⟩, RelK.iff.mpr ⟨?_, [], ⟨List.nodup_nil, fun f => ⟨fun z => absurd z List.not_mem_nil, fun z => ?_⟩⟩, ?_⟩⟩
      · rw [eh k z (by omega), cnS k z v, if_neg (show ¬ k = 5 by omega)]
      · rw [eh 5 (by decide) (by decide), cn3.1]; rfl
      · rw [cn3.2.1]
        have da := (hr.2.1 a a0 (by omega)).1.2.2.1
        rw [← da]
        unfold rDepth
        rw [eh 5 (by decide) (by decide), if_neg (by decide), if_pos rfl, rDep, if_neg (by omega)]
        have c1 := rDep_congr (s := s) (s' := s') (n0 := g) (fun x y z => of x 5 y z (by decide) (by decide)) (fun x y z => by have := lt5 x y z; omega) 5 (rOf s a 5) (by have := lt5 a a0 (by omega); omega)
        have c2 := rDep_st (s := s) (n0 := g) lt5 5 (rOf s a 5) (by have := lt5 a a0 (by omega); omega) (by have := lt5 a a0 (by omega); omega)
        rw [of a 5 a0 (by omega) (by decide) (by decide), c1, c2]
        omega
      · rw [ez 6 (by decide) (by decide) (by decide) (by decide), cn3.2.2.1]
      · rw [ez 7 (by decide) (by decide) (by decide) (by decide), cn3.2.2.2.1]
      · rw [ez 8 (by decide) (by decide) (by decide) (by decide), cn3.2.2.2.2.1]
      · rw [ez 6 (by decide) (by decide) (by decide) (by decide)]; intro z; exact absurd z (by decide)
      · intro _; exact cn3.2.2.2.2.2
      · have nf : ¬ fHas (SF S' (15 + 7 * g.toNat)) u := fun w => by
          have w : rBit (SF S' (15 + 7 * g.toNat) 5) u := w
          rw [cnF] at w
          exact rBit_0 ⟨z, v⟩ w
        rw [eh0 _ (by omega) (by omega)]
        exact ⟨⟨fun w => absurd w (by decide), fun w => absurd w nf⟩, fun w => absurd w nf⟩
      · rw [cnZ, show kR (upR R (13 + 7 * g.toNat) []) g = [] from upR_eq]; rfl
      · exfalso
        have m : mK s g f := (ho.K (fun w => w)).mp z
        have fo := (hf.1 f m.1 (by rw [m.2.1]; decide)).2
        have := fo.hub hs
        have := m.2.2
        omega
      · rw [show kR (upR R (13 + 7 * g.toNat) []) g = [] from upR_eq]; trivial
  · rw [e1] at y
    rw [it u k x (by omega) z v]
    exact (hr.2.2.1 u x y k z v).trans (show cU S u k = cU S' u k from (cm _ k (by omega) (by omega)).symm)
  · rw [e5] at y
    exact (hr.2.2.2.1 i x y).to ⟨x, y⟩ h05.2 e5 (fun k a b => hi k a) (cT' 7 (by decide)) (fun j _ => sf _ (by omega) (by omega))
  · rw [upR_ne (by omega), ← (RelW.iff.mp hr.2.2.2.2).1]
    exact cm 3 1 (by omega) (by omega)
  · rw [upR_ne (by omega)]
    exact (RelW.iff.mp hr.2.2.2.2).2.keep ho (fun f z => z.elim)
  · rw [e0] at y
    by_cases q : g < n
    · rw [of g 5 x q (by decide) (by decide), of g 4 x q (by decide) (by decide)]
      exact hs.2.2.2.2.1 g x (by omega)
    · have gn : g = n := by omega
      rw [gn, eh 5 (by decide) (by decide), eh 4 (by decide) (by decide), if_neg (by decide), if_pos rfl, if_pos rfl]
      omega
  · rw [e1] at y
    have r := hs.2.2.2.2.2 u x y
    rw [it u 0 x (by omega) (by decide) (by decide), it u 1 x (by omega) (by decide) (by decide), e0]
    omega
  · rw [of 0 5 (by decide) (by omega) (by decide) (by decide)]; exact hd.2.1.1
  · rw [e0] at y
    by_cases q : g < n
    · rw [of g 5 (by omega) q (by decide) (by decide)]
      exact hd.2.1.2 g x (by omega)
    · have gn : g = n := by omega
      rw [gn, eh 5 (by decide) (by decide), if_neg (by decide), if_pos rfl]
      exact a0
  · rw [e0] at y
    have c := hd.2.2.2.2.1
    by_cases q : g < n
    · rw [of g 0 x q (by decide) (by decide), of g 1 x q (by decide) (by decide), of g 2 x q (by decide) (by decide), of g 3 x q (by decide) (by decide), of g 6 x q (by decide) (by decide), of g 9 x q (by decide) (by decide)]
      exact hd.2.2.1 g x (by omega)
    · have gn : g = n := by omega
      rw [gn, ez 0 (by decide) (by decide) (by decide) (by decide), ez 1 (by decide) (by decide) (by decide) (by decide), ez 2 (by decide) (by decide) (by decide) (by decide), ez 3 (by decide) (by decide) (by decide) (by decide), ez 6 (by decide) (by decide) (by decide) (by decide), ez 9 (by decide) (by decide) (by decide) (by decide)]
      exact ⟨by decide, by decide, by decide, by decide, by decide, by omega, fun w => absurd w (by decide)⟩
  · rw [e1] at y
    rw [it u 2 x (by omega) (by decide) (by decide)]
    exact hd.2.2.2.1 u x y
  · rw [e2, e 3 (by decide) (by omega) (by omega), e 4 (by decide) (by omega) (by omega)]
    exact hd.2.2.2.2.1
  · rw [e5] at y
    rw [hi _ (by omega)]
    exact hd.2.2.2.2.2 i x y
  · refine hf.gen hs (e 3 (by decide) (by omega) (by omega)) e7 (by rw [e0]; omega) (by rw [e1]; exact Int.le_refl _) (fun g w x y z => of g w x (by omega) (by omega) (by omega)) (fun u x y => it u 0 x (by omega) (by decide) (by decide)) (fun k x y => hi k (by omega)) (by rw [e2]; exact Int.le_refl _) (fun f i kf fo => ?_) (fun u st x y z => ?_)
    · have hb := fo.hub hs
      unfold rSl0
      rw [per _ fo.1, of _ 4 hb.1 (by omega) (by decide) (by decide)]
    · have hu := hs.2.2.2.2.2 u x y
      unfold rSl0
      rw [per u (Or.inl ⟨by omega, x, y⟩), of _ 4 hu.1 (by omega) (by decide) (by decide)]
  · rw [e0] at y
    by_cases q : g < n
    · rw [show kR (upR R (13 + 7 * n.toNat) []) g = kR R g from upR_ne (by omega)]
      exact hk g x (by omega)
    · have gn : g = n := by omega
      rw [gn, show kR (upR R (13 + 7 * n.toNat) []) n = [] from upR_eq]
      refine ⟨fun i j a b c => ?_, fun i j a b c => ?_⟩
      · have c : j < ((0 : Nat) : Int) := c
        omega
      · have c : j < ((0 : Nat) : Int) := c
        omega
theorem Sim.newUnit {s : Int → Int} {t : Int} {O : List (Int × Int)} {C : Int} {S : Nat → Int → Int} {R : Nat → List FV} (h : Sim s t O C S R) {a p : Int} (ok : okNew s a p) (h5 : s 1 < 10) : Sim (rUnit s a p) t O C (upX (cUb S (cT S 5) a p) 0 5 (cT S 5 + 1)) R ∧ (rUnit s a p 2 = s 2 ∧ rUnit s a p 0 = s 0) := by
  obtain ⟨hr, hd, hf, hk⟩ := h
  have hs := hd.1
  have h00 := hs.1
  have h01 := hs.2.1
  have h05 := hs.2.2.2.1
  obtain ⟨t0, t1, t2, t4, t5, t6⟩ := hr.1
  obtain ⟨⟨a0, a1⟩, p1, p2⟩ := ok
  rw [← t1]
  generalize hn : s 1 = n at *
  have e1 : rUnit s a p 1 = n + 1 := by unfold rUnit; rw [ups_eq rfl, hn]
  have e : ∀ k, k ≠ 1 → (k < 58 + 4 * n ∨ 58 + 4 * n + 4 ≤ k) → rUnit s a p k = s k := fun k x y => by
    unfold rUnit
    rw [hn, ups_ne x, ups_ne (by omega), ups_ne (by omega), ups_ne (by omega), ups_ne (by omega)]
  have en : rIts (rUnit s a p) n 0 = a ∧ rIts (rUnit s a p) n 1 = p ∧ rIts (rUnit s a p) n 2 = 0 ∧ rIts (rUnit s a p) n 3 = 0 := by
    unfold rIts rUnit
    rw [hn]
    refine ⟨?_, ?_, ?_, ?_⟩
    · rw [ups_ne (by omega), ups_ne (by omega), ups_ne (by omega), ups_ne (by omega), ups_eq (by omega)]
    · rw [ups_ne (by omega), ups_ne (by omega), ups_ne (by omega), ups_eq rfl]
    · rw [ups_ne (by omega), ups_ne (by omega), ups_eq rfl]
    · rw [ups_ne (by omega), ups_eq rfl]
  generalize rUnit s a p = s' at *
  have cm : ∀ m k, ¬ (m = 0 ∧ k = 5) → (m ≠ 46 + n.toNat ∨ k < 0 ∨ 4 ≤ k) → upX (cUb S n a p) 0 5 (n + 1) m k = S m k := fun m k x y => by
    rw [upX_at x]
    unfold cUb
    rw [upX_at (by omega), upX_at (by omega), upX_at (by omega), upX_at (by omega)]
  have c05 : cT (upX (cUb S n a p) 0 5 (n + 1)) 5 = n + 1 := upX_is
  have cn : cU (upX (cUb S n a p) 0 5 (n + 1)) n 0 = a ∧ cU (upX (cUb S n a p) 0 5 (n + 1)) n 1 = p ∧ cU (upX (cUb S n a p) 0 5 (n + 1)) n 2 = 0 ∧ cU (upX (cUb S n a p) 0 5 (n + 1)) n 3 = 0 := by
    show upX (cUb S n a p) 0 5 (n + 1) (46 + n.toNat) 0 = a ∧ upX (cUb S n a p) 0 5 (n + 1) (46 + n.toNat) 1 = p ∧ upX (cUb S n a p) 0 5 (n + 1) (46 + n.toNat) 2 = 0 ∧ upX (cUb S n a p) 0 5 (n + 1) (46 + n.toNat) 3 = 0
    unfold cUb
    refine ⟨?_, ?_, ?_, ?_⟩
    · rw [upX_at (by omega), upX_at (by omega), upX_at (by omega), upX_at (by omega), upX_is]
    · rw [upX_at (by omega), upX_at (by omega), upX_at (by omega), upX_is]
    · rw [upX_at (by omega), upX_at (by omega), upX_is]
    · rw [upX_at (by omega), upX_is]
  have cT' : ∀ k, k ≠ 5 → cT (upX (cUb S n a p) 0 5 (n + 1)) k = cT S k := fun k q => cm 0 k (by omega) (by omega)
  have sf : ∀ m : Nat, (m + 2 < 46 ∨ 56 ≤ m) → 0 < m → SF (upX (cUb S n a p) 0 5 (n + 1)) m = SF S m := fun m x y => by
    funext k
    unfold SF
    rw [cm m k (by omega) (by omega), cm (m + 1) (k - 6) (by omega) (by omega), cm (m + 2) (k - 16) (by omega) (by omega)]
  generalize upX (cUb S n a p) 0 5 (n + 1) = S' at *
  have of : ∀ g w, 0 ≤ g → g < 5 → 0 ≤ w → w < 10 → rOf s' g w = rOf s g w := fun g w x y z v => e _ (by omega) (by omega)
  have it : ∀ u w, 0 ≤ u → u < n → 0 ≤ w → w < 4 → rIts s' u w = rIts s u w := fun u w x y z v => e _ (by omega) (by omega)
  have e0 : s' 0 = s 0 := e 0 (by decide) (by omega)
  have e7 : s' 7 = s 7 := e 7 (by decide) (by omega)
  have e2 : s' 2 = s 2 := e 2 (by decide) (by omega)
  have e5 : s' 5 = s 5 := e 5 (by decide) (by omega)
  have hi : ∀ k, 98 ≤ k → s' k = s k := fun k q => e k (by omega) (by omega)
  have ho := OthP.of e7 hs.2.2.1.2 (fun k a b => hi k (by omega))
  have per : ∀ c, kidOK s c → rPer s' c = rPer s c := fun c k => by
    unfold rPer
    rcases k with ⟨x, y, z⟩ | ⟨x, y, z⟩
    · rw [if_pos x, if_pos x]; exact it _ 1 y (by omega) (by decide) (by decide)
    · rw [if_neg (by omega), if_neg (by omega)]; exact of _ 4 (by omega) (by omega) (by decide) (by decide)
  refine ⟨⟨⟨⟨?_, ?_, ?_, ?_, ?_, ?_⟩, fun g x y => ⟨?_, ?_⟩, fun u x y k z v => ?_, fun i x y => ?_, RelW.iff.mpr ⟨?_, ?_⟩⟩, ⟨⟨by rw [e0]; exact h00, by rw [e1]; omega, by rw [e7]; exact hs.2.2.1, by rw [e5]; exact h05, fun g x y => ?_, fun u x y => ?_⟩, ⟨?_, fun g x y => ?_⟩, fun g x y => ?_, fun u x y => ?_, ?_, fun i x y => ?_⟩, ?_, fun g x y => ?_⟩, e2, e0⟩
  · rw [e0, cT' 4 (by decide)]; exact t0
  · rw [e1, c05]
  · rw [e2, cT' 6 (by decide)]; exact t2
  · rw [e 4 (by decide) (by omega), cT' 7 (by decide)]; exact t4
  · unfold cKept at t5 ⊢
    rw [e5, cT' 7 (by decide)]; exact t5
  · rw [e 6 (by decide) (by omega), cT' 8 (by decide)]; exact t6
  · rw [e0] at y
    refine (hr.2.1 g x y).1.to (fun w z v => of g w x (by omega) (by omega) v) (fun k z v => ?_) (fun k z v => hi k (by omega)) (rDepth_congr hs (fun x y z => of x 5 y (by omega) (by decide) (by decide)) ⟨x, y⟩) (fun k _ _ => cm _ k (by omega) (by omega)) (sf _ (by omega) (by omega))
    rw [of g k x (by omega) z (by omega)]
    exact ((hr.2.1 g x y).1.1 k z v).trans (show cSe S g k = cSe S' g k from (cm _ k (by omega) (by omega)).symm)
  · rw [e0] at y
    exact (hr.2.1 g x y).2.keep ho (fun f z => z.elim) (cm _ 1 (by omega) (by omega)) rfl
  · rw [e1] at y
    by_cases q : u < n
    · rw [it u k x q z v]
      exact (hr.2.2.1 u x (by omega) k z v).trans (show cU S u k = cU S' u k from (cm _ k (by omega) (by omega)).symm)
    · have un : u = n := by omega
      rw [un]
      rcases (show k = 0 ∨ k = 1 ∨ k = 2 ∨ k = 3 by omega) with w | w | w | w
      · rw [w, en.1, cn.1]
      · rw [w, en.2.1, cn.2.1]
      · rw [w, en.2.2.1, cn.2.2.1]
      · rw [w, en.2.2.2, cn.2.2.2]
  · rw [e5] at y
    exact (hr.2.2.2.1 i x y).to ⟨x, y⟩ h05.2 e5 (fun k a b => hi k (by omega)) (cT' 7 (by decide)) (fun j _ => sf _ (by omega) (by omega))
  · exact (cm 3 1 (by omega) (by omega)).trans (RelW.iff.mp hr.2.2.2.2).1
  · exact (RelW.iff.mp hr.2.2.2.2).2.keep ho (fun f z => z.elim)
  · rw [e0] at y
    rw [of g 5 x (by omega) (by decide) (by decide), of g 4 x (by omega) (by decide) (by decide)]
    exact hs.2.2.2.2.1 g x y
  · rw [e1] at y
    by_cases q : u < n
    · rw [it u 0 x q (by decide) (by decide), it u 1 x q (by decide) (by decide), e0]
      exact hs.2.2.2.2.2 u x (by omega)
    · have un : u = n := by omega
      rw [un, en.1, en.2.1, e0]
      omega
  · rw [of 0 5 (by decide) (by decide) (by decide) (by decide)]; exact hd.2.1.1
  · rw [e0] at y
    rw [of g 5 (by omega) (by omega) (by decide) (by decide)]
    exact hd.2.1.2 g x y
  · rw [e0] at y
    rw [of g 0 x (by omega) (by decide) (by decide), of g 1 x (by omega) (by decide) (by decide), of g 2 x (by omega) (by decide) (by decide), of g 3 x (by omega) (by decide) (by decide), of g 6 x (by omega) (by decide) (by decide), of g 9 x (by omega) (by decide) (by decide)]
    exact hd.2.2.1 g x y
  · rw [e1] at y
    by_cases q : u < n
    · rw [it u 2 x q (by decide) (by decide)]
      exact hd.2.2.2.1 u x (by omega)
    · have un : u = n := by omega
      rw [un]
      exact Or.inl en.2.2.1
  · rw [e2, e 3 (by decide) (by omega), e 4 (by decide) (by omega)]
    exact hd.2.2.2.2.1
  · rw [e5] at y
    rw [hi _ (by omega)]
    exact hd.2.2.2.2.2 i x y
  · refine hf.gen hs (e 3 (by decide) (by omega)) e7 (by rw [e0]; exact Int.le_refl _) (by rw [e1]; omega) (fun g w x y z => of g w x (by omega) (by omega) (by omega)) (fun u x y => it u 0 x (by omega) (by decide) (by decide)) (fun k x y => hi k (by omega)) (by rw [e2]; exact Int.le_refl _) (fun f i kf fo => ?_) (fun u st x y z => ?_)
    · have hb := fo.hub hs
      unfold rSl0
      rw [per _ fo.1, of _ 4 hb.1 (by omega) (by decide) (by decide)]
    · have hu := hs.2.2.2.2.2 u x y
      unfold rSl0
      rw [per u (Or.inl ⟨by omega, x, y⟩), of _ 4 hu.1 (by omega) (by decide) (by decide)]
  · rw [e0] at y
    exact hk g x y

/-! THE SIMULATION: the frame that a hub builds -/
theorem fPut_at {v : FV} {u x f k : Int} : fPut v u x f k = if k = 16 + u then f else if k = 6 + u then x else if k = 5 then oOr (v 5) (oShl 1 u) else v k := rfl
theorem fPut_has {v : FV} {u x f k : Int} (hu : 0 ≤ u ∧ u < 10) (hk : 0 ≤ k ∧ k < 10) : fHas (fPut v u x f) k ↔ fHas v k ∨ k = u := by
  show rBit (fPut v u x f 5) k ↔ rBit (v 5) k ∨ k = u
  rw [fPut_at, if_neg (by omega), if_neg (by omega), if_pos rfl]
  exact rBit_or hu hk
theorem fPut_v {v : FV} {u x f : Int} : fPut v u x f (6 + u) = x ∧ fPut v u x f (16 + u) = f := by
  rw [fPut_at, fPut_at, if_neg (by omega), if_pos rfl, if_pos rfl]
  exact ⟨rfl, rfl⟩
theorem fPut_o {v : FV} {u x f k : Int} (hu : 0 ≤ u ∧ u < 10) (hk : 0 ≤ k ∧ k < 10) (h : k ≠ u) : fPut v u x f (6 + k) = v (6 + k) ∧ fPut v u x f (16 + k) = v (16 + k) := by
  rw [fPut_at, fPut_at, if_neg (by omega), if_neg (by omega), if_neg (by omega), if_neg (by omega), if_neg (by omega), if_neg (by omega)]
  exact ⟨rfl, rfl⟩
theorem rThr_ok {s : Int → Int} (hs : RI s) {g : Int} : ∀ (n : Nat) (c x : Int), kidOK s c → x < s 0 → 0 ≤ rThr s g n c x → kidOK s (rThr s g n c x)
  | 0, c, x, _, _, h => by rw [rThr] at h; omega
  | n + 1, c, x, hc, hx, h => by
    rw [rThr] at h ⊢
    by_cases q : x < 0
    · rw [if_pos q] at h; omega
    · rw [if_neg q] at h ⊢
      by_cases q2 : x = g
      · rw [if_pos q2]; exact hc
      · rw [if_neg q2] at h ⊢
        have h0 := hs.1
        have hh := hs.2.2.2.2.1 x (by omega) hx
        exact rThr_ok hs n _ _ (Or.inr ⟨by omega, by omega, by omega⟩) (by omega) h
theorem rThrough_ok {s : Int → Int} (hs : RI s) {g u : Int} (hu : 0 ≤ u ∧ u < s 1) (h : rIsOf s g u) : kidOK s (rThrough s g u) := by
  have h1 := hs.2.1
  exact rThr_ok hs 6 u (rIts s u 0) (Or.inl ⟨by omega, hu.1, hu.2⟩) (hs.2.2.2.2.2 u hu.1 hu.2).2.1 h.2
/-- what the hub holds of unit u, as the reference has it -/
def HoldAt (s : Int → Int) (g u : Int) (hd : FV) : Prop := (s (98 + 30 * g + 3 * u) = 1 ↔ fHas hd u) ∧ (fHas hd u → s (98 + 30 * g + 3 * u + 1) = hd (6 + u) ∧ s (98 + 30 * g + 3 * u + 2) = hd (16 + u))
theorem cTk_is {s : Int → Int} {t : Int} {O : List (Int × Int)} {S : Nat → Int → Int} {R : Nat → List FV} {g u : Int} {p : FV × FV} {r : Option (Int × Int)} (hR : Rel s S R) (hC : CI S) (hs : RI s) (hg : 0 ≤ g ∧ g < s 0) (hF : FmI s t O) (hS : SortS (kR R g)) (hl : 0 < (kR R g).length) (hu : 0 ≤ u ∧ u < s 1) (hi : rIsOf s g u) (hp : p.1 1 = gt (kR R g) 0 2) (hd : HoldAt s g u p.2) (hr : RRead s g u (gt (kR R g) 0 2) r) : cTk S (kR R g) g u p = putR p.1 u r := by
  have h1 := hs.2.1
  have u10 : 0 ≤ u ∧ u < 10 := ⟨hu.1, by omega⟩
  have hK := (hR.2.1 g hg.1 hg.2).2
  have hs7 := hs.2.2.1.1
  have kc := rThrough_ok hs hu hi
  have ht : cTow S u g = kid (rThrough s g u) := by
    rcases hR.tow hC hg.1 hu with ⟨_, e⟩ | ⟨n, _⟩
    · exact e
    · exact absurd hi n
  have pc := hs.kper kc
  have pg := hs.per hg
  have ex : cExp S g (kid (rThrough s g u)) (gt (kR R g) 0 2) = rExp s g (rThrough s g u) (gt (kR R g) 0 2) := (hR.exp hg kc).symm
  have ge1 : rPer s (rThrough s g u) ≤ rOf s g 4 → ¬ rOf s g 4 / rPer s (rThrough s g u) = 0 := fun q z => by
    have := (Int.le_ediv_iff_mul_le (a := 1) (b := rOf s g 4) (show 0 < rPer s (rThrough s g u) by omega)).mpr (by omega)
    omega
  unfold cTk
  rw [ht, hp, ex, ← hR.per kc, ← hR.cs hg (by decide), ← hR.cs hg (by decide)]
  unfold rExp
  rcases hr with ⟨a, b, c⟩ | ⟨a, b, c⟩ | ⟨a, b, c⟩ | ⟨a, b, c⟩
  · rw [if_pos a, if_neg (ge1 a), if_neg (by omega)]
    exact cStF_is hK hF hS hl kc.r15 u10 c
  · rw [if_pos a, if_neg (ge1 a), if_pos (by omega), c]
    exact cFlF_is hR hg hs7 hF hS hl kc u10 hp
  · rw [if_neg a, b2i_t b, if_neg (by decide), if_neg (by omega)]
    exact cStF_is hK hF hS hl kc.r15 u10 c
  · rw [if_neg a, b2i_f b, if_pos rfl, c]
    unfold cHeF rHeldO
    by_cases q : fHas p.2 u
    · rw [cif_t q, cif_t (hd.1.mpr q), (hd.2 q).1, (hd.2 q).2]
      rfl
    · rw [cif_f q, cif_f (fun z => q (hd.1.mp z))]
      rfl
/-- what is built after n units, and what is held then -/
def BuiltN (s : Int → Int) (g sl : Int) (r : Int → Option (Int × Int)) (hd : FV) (n : Int) (p : FV × FV) : Prop :=
  (p.1 0 = g ∧ p.1 1 = sl ∧ p.1 4 = rMis s g r n ∧ p.1 5 = rMsk s g r n) ∧ (0 ≤ rMsk s g r n ∧ rMsk s g r n < 1024) ∧ (0 ≤ rMis s g r n ∧ rMis s g r n ≤ n) ∧
  (∀ k, 0 ≤ k → k < 10 → (rBit (rMsk s g r n) k ↔ k < n ∧ rIsOf s g k ∧ (r k).isSome = true)) ∧
  (∀ k, 0 ≤ k → k < 10 → k < n → rIsOf s g k → ∀ x y, r k = some (x, y) → p.1 (6 + k) = x ∧ p.1 (16 + k) = y) ∧
  ∀ k, 0 ≤ k → k < 10 → (∀ x y, k < n → rIsOf s g k → r k = some (x, y) → fHas p.2 k ∧ p.2 (6 + k) = x ∧ p.2 (16 + k) = y) ∧ (¬ (k < n ∧ rIsOf s g k ∧ (r k).isSome = true) → (fHas p.2 k ↔ fHas hd k) ∧ p.2 (6 + k) = hd (6 + k) ∧ p.2 (16 + k) = hd (16 + k))
theorem cB_is {s : Int → Int} {t : Int} {O : List (Int × Int)} {S : Nat → Int → Int} {R : Nat → List FV} {g : Int} {r : Int → Option (Int × Int)} (hR : Rel s S R) (hC : CI S) (hs : RI s) (hg : 0 ≤ g ∧ g < s 0) (hF : FmI s t O) (hS : SortS (kR R g)) (hl : 0 < (kR R g).length) (hr : ∀ u, 0 ≤ u → u < s 1 → rIsOf s g u → RRead s g u (gt (kR R g) 0 2) (r u)) : BuiltN s g (gt (kR R g) 0 2) r (SF S (15 + 7 * g.toNat)) (s 1) (cB S (kR R g) g (s 1)) := by
  have h1 := hs.2.1
  have key : ∀ n : Nat, (n : Int) ≤ s 1 → BuiltN s g (gt (kR R g) 0 2) r (SF S (15 + 7 * g.toNat)) (n : Int) (cB S (kR R g) g (n : Int)) := by
    intro n
    induction n with
    | zero =>
      intro _
      rw [show ((0 : Nat) : Int) = 0 from rfl, cB_0]
      refine ⟨⟨?_, ?_, ?_, ?_⟩, ⟨by show (0 : Int) ≤ 0; decide, by show (0 : Int) < 1024; decide⟩, ⟨by show (0 : Int) ≤ 0; decide, by show (0 : Int) ≤ 0; decide⟩, fun k a b => ⟨fun z => absurd z (rBit_0 ⟨a, b⟩), fun z => by omega⟩, fun k a b c => by omega, fun k a b => ⟨fun x y c => by omega, fun _ => ⟨Iff.rfl, rfl, rfl⟩⟩⟩
      · unfold fBeg; dsimp only; rw [ups_ne (by decide), ups_ne (by decide), ups_ne (by decide), ups_eq rfl]
      · unfold fBeg; dsimp only; rw [ups_ne (by decide), ups_ne (by decide), ups_eq rfl]
      · unfold fBeg; dsimp only; rw [ups_ne (by decide), ups_eq rfl]; rfl
      · unfold fBeg; dsimp only; rw [ups_eq rfl]; rfl
    | succ n ih =>
      intro hn
      have ih := ih (by omega)
      rw [show ((n + 1 : Nat) : Int) = (n : Int) + 1 by omega, cB_succ (by omega)]
      generalize cB S (kR R g) g (n : Int) = p at ih
      obtain ⟨⟨p0, p1, p4, p5⟩, pm, pq, pb, pv, ph⟩ := ih
      have n10 : 0 ≤ (n : Int) ∧ (n : Int) < 10 := ⟨by omega, by omega⟩
      have em : rMsk s g r ((n : Int) + 1) = cif (rIsOf s g (n : Int)) (oOr (rMsk s g r (n : Int)) (cif ((r (n : Int)).isSome = true) (oShl 1 (n : Int)) 0)) (rMsk s g r (n : Int)) := by unfold rMsk; rw [fI_succ (by omega)]
      have ei : rMis s g r ((n : Int) + 1) = cif (rIsOf s g (n : Int)) (rMis s g r (n : Int) + cif ((r (n : Int)).isSome = true) 0 1) (rMis s g r (n : Int)) := by unfold rMis; rw [fI_succ (by omega)]
      unfold cBs
      by_cases hi : rIsOf s g (n : Int)
      · have ht : ¬ cTow S (n : Int) g = -1 := by
          have k := (rThrough_ok hs ⟨by omega, by omega⟩ hi).r15
          have k2 := kid_rng k
          rcases hR.tow hC (u := (n : Int)) hg.1 ⟨by omega, by omega⟩ with ⟨_, e⟩ | ⟨e, _⟩
          · omega
          · exact absurd hi e
        have hH := ((hR.2.1 g hg.1 hg.2).1.2.2.2.2.2.2.2.2 (n : Int) (by omega) (by omega))
        have hh := (ph (n : Int) n10.1 n10.2).2 (by omega)
        have tk := cTk_is (p := p) hR hC hs hg hF hS hl ⟨by omega, by omega⟩ hi p1 ⟨by rw [hh.1]; exact hH.1, fun z => by rw [hh.2.1, hh.2.2]; exact hH.2 (hh.1.mp z)⟩ (hr (n : Int) (by omega) (by omega) hi)
        rw [if_neg ht, tk]
        cases hrn : r (n : Int) with
        | none =>
          have nf : ¬ fHas p.1 (n : Int) := fun z => by
            have z : rBit (p.1 5) (n : Int) := z
            rw [p5] at z
            have := ((pb (n : Int) n10.1 n10.2).mp z).1
            omega
          have e0 : oOr (rMsk s g r (n : Int)) 0 = rMsk s g r (n : Int) := by
            show (iS (rMsk s g r (n : Int)) ||| 0).toInt = _
            rw [Int32.or_zero, iS_toInt ⟨by omega, by omega⟩]
          show BuiltN _ _ _ _ _ _ (cif (fHas p.1 (n : Int)) _ (ups p.1 4 (p.1 4 + 1), p.2))
          rw [cif_f nf]
          have emn : rMsk s g r ((n : Int) + 1) = rMsk s g r (n : Int) := by rw [em, cif_t hi, hrn, cif_f (show ¬ (none : Option (Int × Int)).isSome = true by decide), e0]
          have ein : rMis s g r ((n : Int) + 1) = rMis s g r (n : Int) + 1 := by rw [ei, cif_t hi, hrn, cif_f (show ¬ (none : Option (Int × Int)).isSome = true by decide)]
          refine ⟨⟨?_, ?_, ?_, ?_⟩, by rw [emn]; exact pm, by rw [ein]; omega, fun k a b => ?_, fun k a b c d x y e => ?_, fun k a b => ⟨fun x y c d e => ?_, fun c => ?_⟩⟩
          · dsimp only; rw [ups_ne (by decide)]; exact p0
          · dsimp only; rw [ups_ne (by decide)]; exact p1
          · dsimp only; rw [ups_eq rfl, ein, p4]
          · dsimp only; rw [ups_ne (by decide), emn, p5]
          · rw [emn, pb k a b]
            constructor
            · rintro ⟨x, y⟩; exact ⟨by omega, y⟩
            · rintro ⟨x, y, z⟩
              refine ⟨?_, y, z⟩
              by_cases q : k = n
              · rw [q, hrn] at z; exact absurd z (by decide)
              · omega
          · have kn : k ≠ n := fun q => by rw [q, hrn] at e; exact absurd e (by simp)
            dsimp only
            rw [ups_ne (by omega), ups_ne (by omega)]
            exact pv k a b (by omega) d x y e
          · have kn : k ≠ n := fun q => by rw [q, hrn] at e; exact absurd e (by simp)
            exact (ph k a b).1 x y (by omega) d e
          · refine (ph k a b).2 (fun z => c ⟨by omega, z.2⟩)
        | some q =>
          obtain ⟨x, y⟩ := q
          have hf : fHas (putR p.1 (n : Int) (some (x, y))) (n : Int) := (fPut_has n10 n10).mpr (Or.inr rfl)
          rw [cif_t hf]
          show BuiltN _ _ _ _ _ _ (fPut p.1 (n : Int) x y, fPut p.2 (n : Int) (fPut p.1 (n : Int) x y (6 + n)) (fPut p.1 (n : Int) x y (16 + n)))
          rw [fPut_v.1, fPut_v.2]
          have emn : rMsk s g r ((n : Int) + 1) = oOr (rMsk s g r (n : Int)) (oShl 1 (n : Int)) := by rw [em, cif_t hi, hrn, cif_t (show (some (x, y)).isSome = true from rfl)]
          have ein : rMis s g r ((n : Int) + 1) = rMis s g r (n : Int) := by rw [ei, cif_t hi, hrn, cif_t (show (some (x, y)).isSome = true from rfl)]; omega
          refine ⟨⟨?_, ?_, ?_, ?_⟩, by rw [emn]; exact mask_or pm n10, by rw [ein]; omega, fun k a b => ?_, fun k a b c d x' y' e => ?_, fun k a b => ⟨fun x' y' c d e => ?_, fun c => ?_⟩⟩
          · dsimp only; rw [fPut_at, if_neg (by omega), if_neg (by omega), if_neg (by omega)]; exact p0
          · dsimp only; rw [fPut_at, if_neg (by omega), if_neg (by omega), if_neg (by omega)]; exact p1
          · dsimp only; rw [fPut_at, if_neg (by omega), if_neg (by omega), if_neg (by omega), ein]; exact p4
          · dsimp only; rw [fPut_at, if_neg (by omega), if_neg (by omega), if_pos rfl, emn, p5]
          · rw [emn, rBit_or n10 ⟨a, b⟩, pb k a b]
            constructor
            · rintro (⟨z, z2⟩ | z)
              · exact ⟨by omega, z2⟩
              · rw [z, hrn]; exact ⟨by omega, hi, rfl⟩
            · rintro ⟨z, z2⟩
              by_cases q : k = n
              · exact Or.inr q
              · exact Or.inl ⟨by omega, z2⟩
          · by_cases q : k = n
            · subst q
              rw [hrn] at e
              injection e with e
              injection e with e1 e2
              rw [← e1, ← e2]
              exact fPut_v
            · dsimp only
              rw [(fPut_o n10 ⟨a, b⟩ q).1, (fPut_o n10 ⟨a, b⟩ q).2]
              exact pv k a b (by omega) d x' y' e
          · by_cases q : k = n
            · subst q
              rw [hrn] at e
              injection e with e
              injection e with e1 e2
              rw [← e1, ← e2]
              exact ⟨(fPut_has n10 n10).mpr (Or.inr rfl), fPut_v⟩
            · dsimp only
              rw [(fPut_o n10 ⟨a, b⟩ q).1, (fPut_o n10 ⟨a, b⟩ q).2]
              have z := (ph k a b).1 x' y' (by omega) d e
              exact ⟨(fPut_has n10 ⟨a, b⟩).mpr (Or.inl z.1), z.2⟩
          · have q : k ≠ n := fun q => c ⟨by omega, by rw [q]; exact hi, by rw [q, hrn]; rfl⟩
            have z := (ph k a b).2 (fun z => c ⟨by omega, z.2⟩)
            dsimp only
            rw [(fPut_o n10 ⟨a, b⟩ q).1, (fPut_o n10 ⟨a, b⟩ q).2, fPut_has n10 ⟨a, b⟩]
            exact ⟨⟨fun y => z.1.mp (y.resolve_right q), fun y => Or.inl (z.1.mpr y)⟩, z.2⟩
      · have ht : cTow S (n : Int) g = -1 := by
          rcases hR.tow hC (u := (n : Int)) hg.1 ⟨by omega, by omega⟩ with ⟨e, _⟩ | ⟨_, e⟩
          · exact absurd e hi
          · exact e
        have emn : rMsk s g r ((n : Int) + 1) = rMsk s g r (n : Int) := by rw [em, cif_f hi]
        have ein : rMis s g r ((n : Int) + 1) = rMis s g r (n : Int) := by rw [ei, cif_f hi]
        rw [if_pos ht]
        refine ⟨⟨p0, p1, by rw [ein]; exact p4, by rw [emn]; exact p5⟩, by rw [emn]; exact pm, by rw [ein]; omega, fun k a b => ?_, fun k a b c d x y e => ?_, fun k a b => ⟨fun x y c d e => ?_, fun c => ?_⟩⟩
        · rw [emn, pb k a b]
          constructor
          · rintro ⟨x, y⟩; exact ⟨by omega, y⟩
          · rintro ⟨x, y, z⟩
            refine ⟨?_, y, z⟩
            by_cases q : k = n
            · rw [q] at y; exact absurd y hi
            · omega
        · have kn : k ≠ n := fun q => hi (by rw [← q]; exact d)
          exact pv k a b (by omega) d x y e
        · have kn : k ≠ n := fun q => hi (by rw [← q]; exact d)
          exact (ph k a b).1 x y (by omega) d e
        · exact (ph k a b).2 (fun z => c ⟨by omega, z.2⟩)
  have := key (s 1).toNat (by omega)
  rw [show ((s 1).toNat : Int) = s 1 by omega] at this
  exact this

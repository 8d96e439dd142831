/-! THE SIMULATION: a step of the law: time -/
theorem GSm.la {T n0 : Int} {O : List (Int × Int)} {C : Int} {s : Int → Int} {S : Nat → Int → Int} {R : Nat → List FV} (h : GSm T n0 O C s S R) (hO : O.length ≤ 512) : LA R := fun q a b => by
  by_cases z : q < s 0
  · have := (h.1.len hO).1 q a z
    omega
  · exact h.2.1 q (by omega) b
theorem frz {X Y : Nat → Int → Int} (f : FrX (bgX X) Y) : (Y 0 4 = X 0 4 ∧ Y 0 6 = X 0 6) ∧ Y 2 = X 2 ∧ EqR (Y 3) (X 1) ∧ Y 5 = X 5 := by
  have e0 : ∀ j, j ≠ 13 → Y 0 j = X 0 j := fun j q => (f 0 j (by decide) (by decide) (by decide) (by decide) (fun z => q z.2)).trans (congrFun bgX_0 j)
  have e : ∀ i, i ≠ 0 → i ≠ 1 → i ≠ 7 → i ≠ 8 → i ≠ 9 → Y i = bgX X i := fun i a b c d x => funext fun j => f i j b c d x (fun z => a z.1)
  refine ⟨⟨e0 4 (by decide), e0 6 (by decide)⟩, (e 2 (by decide) (by decide) (by decide) (by decide) (by decide)).trans (cpX_ne (by decide)), ?_, (e 5 (by decide) (by decide) (by decide) (by decide) (by decide)).trans (cpX_ne (by decide))⟩
  rw [e 3 (by decide) (by decide) (by decide) (by decide) (by decide)]
  exact cpX_EqR
theorem SimG.gd {s : Int → Int} {O : List (Int × Int)} {B : Int} {S : Nat → Int → Int} {R : Nat → List FV} (h : SimG s O B S R) (hO : O.length ≤ 512) (hB : 0 ≤ B ∧ B ≤ 20000) : Gd s := ⟨O, S, R, B, hO, hB, h.1, h.2.1, by have := h.2.2; omega⟩
theorem SimG.sra {s : Int → Int} {O : List (Int × Int)} {B : Int} {S : Nat → Int → Int} {R : Nat → List FV} (h : SimG s O B S R) : SRA (fun x => x = s) (s 2) (s 0) O (B + 14000 * s 2) S R := ⟨⟨s, rfl⟩, fun x e => by rw [e]; exact ⟨h.1, h.2.1, rfl, rfl⟩⟩
theorem st_pass {n L0 : Nat} {xs : Nat → Int32} {h : HP} (G : Glob n L0 xs h) (hn : n + 1 ≤ 512) (m : Int) : LStp n L0 xs h 173 60 [.inl m] := by
  obtain ⟨U0, o, ww, tr, S, R, st, X, L, A, C, D, B, E, tx, nu, O, Bd, H, P⟩ := G
  have hS := P.2.2.2.2.2.1.1
  have f := sim_facts hS
  have p1 := P.1
  have hq : 0 ≤ X 0 4 ∧ X 0 4 ≤ 4 := by rw [p1.1]; exact p1.2.2.2
  have stay : Glob (n + 1) L0 xs (wX 488 h X) := H.glob (P.next hn ⟨rfl, rfl⟩ EqR.refl rfl rfl P.2.2.2.2.2.1 (fun _ _ => ⟨rfl, rfl⟩) P.2.2.2.2.2.2.2)
  have stayB : Glob (n + 1) L0 xs (wX 488 h (bgX X)) := H.glob (P.next hn ⟨congrFun bgX_0 4, congrFun bgX_0 6⟩ (by rw [bgX_1]; exact EqR.refl) (cpX_ne (by decide)) (cpX_ne (by decide)) P.2.2.2.2.2.1 (fun _ _ => ⟨rfl, rfl⟩) P.2.2.2.2.2.2.2)
  have pO := P.2.2.1
  have pB := P.2.2.2.1
  have p4 := P.2.2.2.2.2.1
  have c := hS.2.1.2.2.2.2.1
  have el := hS.ela (n := m)
  have gd := p4.gd (by omega) ⟨pB.1, by omega⟩
  refine sp_P_pass (d := 8) H.1 f.1 f.2.1.1 f.2.2.1 f.2.2.2.2.1 (n := m) (PT := fun S2 R2 => SRA (fun s => ∃ a, a = X 1 ∧ TkN Tk m.toNat a s) (X 1 2 + m) (X 1 0) O (Bd + 14000 * (X 1 2 + m)) S2 R2) (fun k {h} {o} {w} {t} {Q} TT K => ?_) (fun k => ?_) (fun k H1 o' w' tr' S' R' st' S2 R2 G1 C1 rm sr => ?_)
  · have ok : (1 ≤ m ∧ m ≤ 100) ∧ X 1 2 + m ≤ 20000 := by
      rw [k] at el
      by_cases q : 1 ≤ m ∧ m ≤ 100
      · by_cases q2 : X 1 2 + m ≤ 20000
        · exact ⟨q, q2⟩
        · rw [if_neg (fun z => z q), if_neg q2] at el; omega
      · rw [if_pos q] at el; omega
    exact sp_elapse (d := 9) (n := m) (by omega) ⟨pB.1, by omega⟩ (by omega) ⟨c.1, by omega⟩ p4.sra TT K
  · refine ⟨H.2.2.2.1, H.2.1.ty, LStp.mid H.2.1 ?_⟩
    refine sp_m_pass (d := 5) H.2.1.1 (tkh H.2.1.1) Gd.ri gd hq (fun v Y fr r => ?_)
    obtain ⟨z0, z2, z3, z5⟩ := frz fr
    have same : Y 1 = X 1 → Glob (n + 1) L0 xs (wX 488 h Y) := fun e => H.glob (P.next hn z0 (by rw [e]; exact EqR.refl) z2 z5 p4 (fun _ _ => ⟨rfl, rfl⟩) P.2.2.2.2.2.2.2)
    rcases r with ⟨b, e, y⟩ | ⟨b, d, e, y⟩ | ⟨b, d, _⟩
    · rw [if_pos b] at el
      rw [aX_bad (by omega)]
      exact ⟨by rw [e, el], same y⟩
    · rw [if_neg (fun z => z b), if_neg (by omega)] at el
      rw [aX_bad (by omega)]
      exact ⟨by rw [e, el], same y⟩
    · rw [if_neg (fun z => z b), if_pos d] at el
      exact absurd el k
  · have H2 := H.ck G1 C1
    refine ⟨H2.2.2.2.1, H2.2.1.ty, LStp.mid H2.2.1 ?_⟩
    refine sp_m_pass (d := 5) H2.2.1.1 (tkh H2.2.1.1) Gd.ri gd hq (fun v Y fr r => ?_)
    obtain ⟨z0, z2, z3, z5⟩ := frz fr
    rcases r with ⟨b, e, y⟩ | ⟨b, d, e, y⟩ | ⟨b, d, ⟨j, hj, tk⟩, e⟩
    · rw [if_pos b, k] at el; omega
    · rw [if_neg (fun z => z b), if_neg (by omega), k] at el; omega
    · have g := sr.2 (Y 1) ⟨X 1, rfl, by rw [show m.toNat = j by omega]; exact tk⟩
      have gn := g.n0
      have t2 := g.2.2.1
      rw [aX_ok (by omega)]
      refine ⟨by rw [e, t2, gn.2.1], ?_⟩
      refine act_glob (O' := O) (Bd' := Bd) H P hn G1 C1 rm z0 z2 z3 z5 ⟨fun x y => y, by omega⟩ ⟨Int.le_refl _, by omega⟩ ⟨?_, g.2.1, by omega⟩
      have g1 := g.1
      rw [show Bd + 14000 * Y 1 2 = Bd + 14000 * (X 1 2 + m) by rw [t2]]
      exact g1
theorem krz {X Z : Nat → Int → Int} (f : KR X Z) : (Z 0 4 = X 0 4 ∧ Z 0 6 = X 0 6) ∧ EqR (Z 1) (X 1) ∧ Z 2 = X 2 ∧ Z 5 = X 5 := by
  have e : ∀ i, i ≠ 0 → i ≠ 1 → i ≠ 4 → i ≠ 7 → i ≠ 8 → i ≠ 9 → Z i = X i := fun i a b c d x y => funext fun j => f.2 i j b c d x y (fun z => a z.1)
  exact ⟨⟨f.2 0 4 (by decide) (by decide) (by decide) (by decide) (by decide) (by decide), f.2 0 6 (by decide) (by decide) (by decide) (by decide) (by decide) (by decide)⟩, f.1, e 2 (by decide) (by decide) (by decide) (by decide) (by decide) (by decide), e 5 (by decide) (by decide) (by decide) (by decide) (by decide) (by decide)⟩
/-- the trial's tree changed, no more -/
theorem trial_glob {n L0 : Nat} {xs : Nat → Int32} {H1 : HP} {U0 : Nat} {o' : Nat → Nat} {w' : Nat → Nat × Nat} {tr : Nat → Nat} {S : Nat → Nat → Int → Int} {R : Nat → Nat → List FV} {st : Int} {X Z : Nat → Int → Int} {L A C D B E : Int} {tx nu : Int → Int} {O : List (Int × Int)} {Bd : Int} {S1 : Nat → Int → Int} {R1 : Nat → List FV} (H : HeapG L0 xs H1 U0 o' w' tr (upG S 5 S1) (upG R 5 R1) st X L A C D B E tx nu) (P : PureG n st X L tx O Bd S R) (hn : n + 1 ≤ 512) (hl : LA R1) (z0 : Z 0 4 = X 0 4 ∧ Z 0 6 = X 0 6) (z1 : EqR (Z 1) (X 1)) (z2 : Z 2 = X 2) (z5 : Z 5 = X 5) : Glob (n + 1) L0 xs (wX 488 H1 Z) := by
  refine H.glob (P.next hn z0 z1 z2 z5 ?_ (fun j hj => ⟨upG_ne (by omega), upG_ne (by omega)⟩) (fun r hr => ?_))
  · rw [upG_ne (by decide), upG_ne (by decide)]
    exact P.2.2.2.2.2.1
  · by_cases q : r = 5
    · rw [q, upG_eq]; exact hl
    · rw [upG_ne q]; exact P.2.2.2.2.2.2.2 r hr
theorem NxN.pre {c : Int} {s : Int → Int} : ∀ {n : Nat} {s' : Int → Int}, NxN Tk c n s s' → ∀ j, j < n → ∃ t, NxN Tk c j s t ∧ t 4 = c
  | 0, _, _, j, hj => absurd hj (Nat.not_lt_zero _)
  | n + 1, s', h, j, hj => by
    obtain ⟨t, a, b, _⟩ := h
    by_cases q : j = n
    · exact ⟨t, q ▸ a, b⟩
    · exact a.pre j (by omega)
theorem st_nextOut {n L0 : Nat} {xs : Nat → Int32} {h : HP} (G : Glob n L0 xs h) (hn : n + 1 ≤ 512) : LStp n L0 xs h 178 66 [] := by
  obtain ⟨U0, o, ww, tr, S, R, st, X, L, A, C, D, B, E, tx, nu, O, Bd, H, P⟩ := G
  have hS := P.2.2.2.2.2.1.1
  have f := sim_facts hS
  have p1 := P.1
  have hq : 0 ≤ X 0 4 ∧ X 0 4 ≤ 4 := by rw [p1.1]; exact p1.2.2.2
  have stay : Glob (n + 1) L0 xs (wX 488 h X) := H.glob (P.next hn ⟨rfl, rfl⟩ EqR.refl rfl rfl P.2.2.2.2.2.1 (fun _ _ => ⟨rfl, rfl⟩) P.2.2.2.2.2.2.2)
  have stayB : Glob (n + 1) L0 xs (wX 488 h (bgX X)) := H.glob (P.next hn ⟨congrFun bgX_0 4, congrFun bgX_0 6⟩ (by rw [bgX_1]; exact EqR.refl) (cpX_ne (by decide)) (cpX_ne (by decide)) P.2.2.2.2.2.1 (fun _ _ => ⟨rfl, rfl⟩) P.2.2.2.2.2.2.2)
  have pO := P.2.2.1
  have pB := P.2.2.2.1
  have p4 := P.2.2.2.2.2.1
  have c := hS.2.1.2.2.2.2.1
  have gd := p4.gd (by omega) ⟨pB.1, by omega⟩
  have t7 : X 1 4 = cT (S 4) 7 := hS.1.1.2.2.2.1
  have l2 := p4.2.2
  refine sp_P_nextOut (d := 8) H.1 f.1 f.2.1.1 f.2.2.1
    (PM := fun i S1 R1 => (0 ≤ i ∧ i ≤ 200) ∧ SRA (NxN Tk (X 1 4) i.toNat (X 1)) (X 1 2 + i) (X 1 0) O (Bd + 14000 * (X 1 2 + i)) S1 R1 ∧ (∀ s, NxN Tk (X 1 4) i.toNat (X 1) s → X 1 4 ≤ s 4) ∧ ∀ j : Nat, (j : Int) < i → ∀ s, NxN Tk (X 1 4) j (X 1) s → s 4 = X 1 4)
    (PN := fun i S1 R1 => ((0 ≤ i ∧ i ≤ 200) ∧ SRA (NxN Tk (X 1 4) i.toNat (X 1)) (X 1 2 + i) (X 1 0) O (Bd + 14000 * (X 1 2 + i)) S1 R1 ∧ ∀ j : Nat, (j : Int) < i → ∀ s, NxN Tk (X 1 4) j (X 1) s → s 4 = X 1 4) ∧ cT S1 7 = X 1 4)
    (fun i S1 R1 hp h0 h1 {h} {o} {w} {t} {Q} TT K => ?_) (fun i S1 R1 hp hlt => ?_) (fun S1 R1 cq cn => ?_) (fun i S1 R1 hp hlt hi1 hi2 H1 o' w' G1 C1 => ?_) (fun S1 R1 hp H1 o' w' G1 C1 => ?_)
  · obtain ⟨⟨hi, sr, hh⟩, h7⟩ := hp
    have s4 : ∀ s, NxN Tk (X 1 4) i.toNat (X 1) s → s 4 = X 1 4 := fun s hs => by
      rw [← h7]
      exact (sr.2 s hs).1.1.1.2.2.2.1
    have e1 : (i + 1).toNat = i.toNat + 1 := by omega
    refine sp_elapse (d := 9) (n := 1) (by omega) ⟨pB.1, by omega⟩ (by decide) ⟨by omega, by omega⟩ sr TT (fun H' o' w' S' R' e T' sr' => K H' o' w' S' R' e T' ⟨⟨by omega, by omega⟩, ?_, fun s hs => ?_, fun j hj s hs => ?_⟩)
    · rw [show X 1 2 + (i + 1) = X 1 2 + i + 1 by omega]
      refine sr'.iff (fun s => ?_)
      rw [e1]
      constructor
      · rintro ⟨a, ha, t, et, tk⟩
        have et : t = a := et
        rw [et] at tk
        exact ⟨a, ha, s4 a ha, tk⟩
      · rintro ⟨a, ha, _, tk⟩
        exact ⟨a, ha, a, rfl, tk⟩
    · rw [e1] at hs
      obtain ⟨a, ha, ea, tk⟩ := hs
      have g := sr.2 a ha
      have t2 := g.2.2.1
      have := (tick_pure (B := Bd) (by rw [show Bd + 14000 * a 2 = Bd + 14000 * (X 1 2 + i) by rw [t2]]; exact g.1) g.2.1 (by omega) ⟨pB.1, by omega⟩ (by omega) tk).1
      omega
    · by_cases q : (j : Int) = i
      · exact s4 s (by rw [show i.toNat = j by omega]; exact hs)
      · exact hh j (by omega) s hs
  · obtain ⟨hi, sr, hge, hh⟩ := hp
    refine ⟨⟨hi, sr, hh⟩, ?_⟩
    obtain ⟨s, hs⟩ := sr.1
    have := (sr.2 s hs).1.1.1.2.2.2.1
    have := hge s hs
    omega
  · obtain ⟨p4', la⟩ := p4.copy (by omega) cq cn (P.2.2.2.2.2.2.2 5 (by decide))
    refine ⟨⟨⟨by decide, by decide⟩, ?_, fun j hj => by omega⟩, ?_⟩
    · rw [Int.add_zero]
      exact p4'.sra.iff (fun s => Iff.rfl)
    · exact p4'.1.1.1.2.2.2.1.symm
  · obtain ⟨hi, sr, hge, hh⟩ := hp
    have H2 := H.ck G1 C1
    obtain ⟨s1, hs1⟩ := sr.1
    have la := (sr.2 s1 hs1).la (by omega)
    refine ⟨H2.2.2.2.1, H2.2.1.ty, LStp.mid H2.2.1 ?_⟩
    refine sp_m_nextOut (d := 6) H2.2.1.1 (tkh H2.2.1.1) Gd.ri gd (by omega) (fun m s' Z hm nx hor _ kr => ?_)
    obtain ⟨z0, z1, z2, z5⟩ := krz kr
    have m1 : (m : Int) ≤ i := by
      by_cases q : (m : Int) ≤ i
      · exact q
      · obtain ⟨t, ht, e4⟩ := nx.pre i.toNat (by omega)
        have := (sr.2 t ht).1.1.1.2.2.2.1
        omega
    have m2 : (m : Int) = i := by
      by_cases q : (m : Int) < i
      · have := hh m q s' nx
        rcases hor with z | z
        · omega
        · exact absurd this z
      · omega
    have e4 := (sr.2 s' (by rw [show i.toNat = m by omega]; exact nx)).1.1.1.2.2.2.1
    refine ⟨by rw [if_pos (by omega)]; exact m2, trial_glob H2 P hn la z0 z1 z2 z5⟩
  · obtain ⟨⟨hi, sr, hh⟩, h7⟩ := hp
    have H2 := H.ck G1 C1
    obtain ⟨s1, hs1⟩ := sr.1
    have la := (sr.2 s1 hs1).la (by omega)
    refine ⟨H2.2.2.2.1, H2.2.1.ty, LStp.mid H2.2.1 ?_⟩
    refine sp_m_nextOut (d := 6) H2.2.1.1 (tkh H2.2.1.1) Gd.ri gd (by omega) (fun m s' Z hm nx hor _ kr => ?_)
    obtain ⟨z0, z1, z2, z5⟩ := krz kr
    have m2 : m = 200 := by
      by_cases q : m < 200
      · have := hh m (by omega) s' nx
        rcases hor with z | z
        · exact z
        · exact absurd this z
      · omega
    have e4 := (sr.2 s' (by rw [show (200 : Int).toNat = m by omega]; exact nx)).1.1.1.2.2.2.1
    refine ⟨by rw [if_neg (by omega)], trial_glob H2 P hn la z0 z1 z2 z5⟩
theorem st_foresee {n L0 : Nat} {xs : Nat → Int32} {h : HP} (G : Glob n L0 xs h) (hn : n + 1 ≤ 512) (m : Int) : LStp n L0 xs h 179 67 [.inl m] := by
  obtain ⟨U0, o, ww, tr, S, R, st, X, L, A, C, D, B, E, tx, nu, O, Bd, H, P⟩ := G
  have hS := P.2.2.2.2.2.1.1
  have f := sim_facts hS
  have p1 := P.1
  have hq : 0 ≤ X 0 4 ∧ X 0 4 ≤ 4 := by rw [p1.1]; exact p1.2.2.2
  have stay : Glob (n + 1) L0 xs (wX 488 h X) := H.glob (P.next hn ⟨rfl, rfl⟩ EqR.refl rfl rfl P.2.2.2.2.2.1 (fun _ _ => ⟨rfl, rfl⟩) P.2.2.2.2.2.2.2)
  have stayB : Glob (n + 1) L0 xs (wX 488 h (bgX X)) := H.glob (P.next hn ⟨congrFun bgX_0 4, congrFun bgX_0 6⟩ (by rw [bgX_1]; exact EqR.refl) (cpX_ne (by decide)) (cpX_ne (by decide)) P.2.2.2.2.2.1 (fun _ _ => ⟨rfl, rfl⟩) P.2.2.2.2.2.2.2)
  have pO := P.2.2.1
  have pB := P.2.2.2.1
  have p4 := P.2.2.2.2.2.1
  have c := hS.2.1.2.2.2.2.1
  have gd := p4.gd (by omega) ⟨pB.1, by omega⟩
  have l2 := p4.2.2
  refine sp_P_foresee (d := 8) H.1 f.1 f.2.1.1 f.2.2.1 (n := m) (PT := fun S2 R2 => SRA (fun s => ∃ a, a = X 1 ∧ TkN Tk m.toNat a s) (X 1 2 + m) (X 1 0) O (Bd + 14000 * (X 1 2 + m)) S2 R2) (fun ok S1 R1 cq {h} {o} {w} {t} {Q} TT K => ?_) (fun S1 R1 sr => ?_) (fun k => ?_) (fun ok S1 R1 sr H1 o' w' G1 C1 => ?_)
  · obtain ⟨p4', _⟩ := p4.copy (by omega) cq TT.cnt (P.2.2.2.2.2.2.2 5 (by decide))
    exact sp_elapse (d := 9) (n := m) (by omega) ⟨pB.1, by omega⟩ (by omega) ⟨c.1, by omega⟩ p4'.sra TT K
  · obtain ⟨s, hs⟩ := sr.1
    have ff := sim_facts (sr.2 s hs).1
    exact ⟨ff.2.1, ff.2.2.2.2.2.2.2⟩
  · refine ⟨H.2.2.2.1, H.2.1.ty, LStp.mid H.2.1 ?_⟩
    exact sp_m_foresee (d := 6) H.2.1.1 (tkh H.2.1.1) Gd.ri gd (by omega) (fun _ => ⟨rfl, stay⟩) (fun ok => absurd ok k)
  · have H2 := H.ck G1 C1
    obtain ⟨s1, hs1⟩ := sr.1
    have la := (sr.2 s1 hs1).la (by omega)
    refine ⟨H2.2.2.2.1, H2.2.1.ty, LStp.mid H2.2.1 ?_⟩
    refine sp_m_foresee (d := 6) H2.2.1.1 (tkh H2.2.1.1) Gd.ri gd (by omega) (fun k => absurd ok k) (fun _ j s' Z hj tk _ kr => ?_)
    obtain ⟨z0, z1, z2, z5⟩ := krz kr
    have g := sr.2 s' ⟨X 1, rfl, by rw [show m.toNat = j by omega]; exact tk⟩
    have of := g.1.outF (i := 0) (w := 0) (Int.le_refl 0) ⟨Int.le_refl 0, by decide⟩
    have t4 := g.1.1.1.2.2.2.1
    have t5 := g.1.1.1.2.2.2.2.1
    have c4 := g.1.2.1.2.2.2.2.1
    unfold cKept e_mnF at t5
    refine ⟨?_, trial_glob H2 P hn la z0 z1 z2 z5⟩
    rw [← of]
    by_cases q : s' 4 = 0
    · rw [if_pos q, if_pos (by split at t5 <;> omega)]
    · rw [if_neg q, if_neg (by split at t5 <;> omega), if_neg (by decide), show 248 + 25 * (s' 5 - 1 - 0) + 0 = 248 + 25 * (s' 5 - 1) by omega]

/-! THE SIMULATION: a step of the law: what only reads -/
def Scr (L0 : Nat) (xs : Nat → Int32) (h : HP) : Prop := hTy h 2 = (100, L0) ∧ ∀ j : Int, hI h 2 j = (xs j.toNat).toInt
def HeapG (L0 : Nat) (xs : Nat → Int32) (h : HP) (U0 : Nat) (o : Nat → Nat) (w : Nat → Nat × Nat) (tr : Nat → Nat) (S : Nat → Nat → Int → Int) (R : Nat → Nat → List FV) (st : Int) (X : Nat → Int → Int) (L A C D B E : Int) (tx nu : Int → Int) : Prop := GP U0 h o w tr S R st ∧ RefAt h X ∧ OT h h L A C D B E tx nu ∧ Scr L0 xs h ∧ U0 ≤ 1000000
/-- the heap of the law, n calls done -/
def Glob (n L0 : Nat) (xs : Nat → Int32) (h : HP) : Prop := ∃ U0 o w tr S R st X L A C D B E tx nu O Bd, HeapG L0 xs h U0 o w tr S R st X L A C D B E tx nu ∧ PureG n st X L tx O Bd S R
/-- one call of both, with the same answer -/
def LStp (n L0 : Nat) (xs : Nat → Int32) (h : HP) (yc yr : Nat) (as : List AV) : Prop := CaI 15 yc (.inr (some 3) :: as) h (fun v h1 => Scr L0 xs h1 ∧ (hTy h1 488).1 = 8 ∧ CaI 15 yr (.inr (some 488) :: as) h1 (fun v' h2 => v' = v ∧ Glob (n + 1) L0 xs h2))
theorem RefAt.ty {h : HP} {X : Nat → Int → Int} (A : RefAt h X) : (hTy h 488).1 = 8 := by
  have := A.1.2.1 0 (by decide)
  rw [show hTy h 488 = rLn 0 from this]
  rfl
theorem OT.wx {h : HP} {X : Nat → Int → Int} {L A C D B E : Int} {tx nu : Int → Int} (O : OT h h L A C D B E tx nu) : OT (wX 488 h X) (wX 488 h X) L A C D B E tx nu := by
  obtain ⟨_, o2, o3, o4, o5⟩ := O
  have e : ∀ b, b < 488 → hI (wX 488 h X) b = hI h b := fun b hb => by
    funext j
    exact if_neg (by omega)
  exact ⟨EO.refl, o2, by rw [e 5 (by decide)]; exact o3, by rw [e 6 (by decide)]; exact o4, by rw [e 7 (by decide)]; exact o5⟩
theorem Scr.wx {L0 : Nat} {xs : Nat → Int32} {h : HP} {X : Nat → Int → Int} (s : Scr L0 xs h) : Scr L0 xs (wX 488 h X) := ⟨s.1, fun j => by
  rw [← s.2 j]
  show (if 488 ≤ 2 ∧ 2 ≤ 488 + 9 then X (2 - 488) j else hI h 2 j) = hI h 2 j
  rw [if_neg (by decide)]⟩
theorem Scr.cr {L0 : Nat} {xs : Nat → Int32} {h H : HP} (s : Scr L0 xs h) (c : CR h H) : Scr L0 xs H := by
  have e := c 2 (Or.inl rfl)
  exact ⟨by rw [e.1]; exact s.1, fun j => by rw [e.2.1]; exact s.2 j⟩
theorem LStp.mid {h : HP} {X : Nat → Int → Int} {y : Nat} {as : List AV} {Q : Int → HP → Prop} (A : RefAt h X) (k : CaI 15 y (.inr (some 488) :: as) (wX 488 h X) Q) : CaI 15 y (.inr (some 488) :: as) h Q := by
  rw [A.eq] at k
  exact k
theorem HeapG.glob {n L0 : Nat} {xs : Nat → Int32} {h : HP} {U0 : Nat} {o : Nat → Nat} {w : Nat → Nat × Nat} {tr : Nat → Nat} {S : Nat → Nat → Int → Int} {R : Nat → Nat → List FV} {st : Int} {X Y : Nat → Int → Int} {L A C D B E : Int} {tx nu : Int → Int} {O : List (Int × Int)} {Bd : Int} (G : HeapG L0 xs h U0 o w tr S R st X L A C D B E tx nu) (P : PureG n st Y L tx O Bd S R) : Glob n L0 xs (wX 488 h Y) :=
  ⟨U0, o, w, tr, S, R, st, Y, L, A, C, D, B, E, tx, nu, O, Bd, ⟨G.1.wx, G.2.1.wx, G.2.2.1.wx, G.2.2.2.1.wx, G.2.2.2.2⟩, P⟩
theorem HeapG.ck {L0 : Nat} {xs : Nat → Int32} {h H : HP} {U0 : Nat} {o o' : Nat → Nat} {w w' : Nat → Nat × Nat} {tr tr' : Nat → Nat} {S S' : Nat → Nat → Int → Int} {R R' : Nat → Nat → List FV} {st st' : Int} {X : Nat → Int → Int} {L A C D B E : Int} {tx nu : Int → Int} (G : HeapG L0 xs h U0 o w tr S R st X L A C D B E tx nu) (G' : GP U0 H o' w' tr' S' R' st') (c : CK h H) : HeapG L0 xs H U0 o' w' tr' S' R' st' X L A C D B E tx nu := ⟨G', c.cr.ref G.2.1, G.2.2.1.ck c, G.2.2.2.1.cr c.cr, G.2.2.2.2⟩
theorem rDep_rng {s : Int → Int} : ∀ (n : Nat) (x : Int), 0 ≤ rDep s n x ∧ rDep s n x ≤ n
  | 0, x => by rw [rDep]; omega
  | n + 1, x => by
    have ih := rDep_rng (s := s) n (rOf s x 5)
    rw [rDep]
    split <;> omega
/-- what the class's calls ask of the tree -/
theorem sim_facts {s : Int → Int} {t : Int} {O : List (Int × Int)} {C : Int} {S : Nat → Int → Int} {R : Nat → List FV} (h : Sim s t O C S R) : CI S ∧ (0 ≤ cT S 7 ∧ cT S 7 ≤ 2000000000) ∧ (∀ u : Int, 0 ≤ u → u < cT S 5 → 0 ≤ cU S u 2 ∧ cU S u 2 ≤ 1) ∧ (∀ g : Int, 0 ≤ g → g < cT S 4 → 0 ≤ cH S g 4 ∧ cH S g 4 ≤ 100) ∧ (0 ≤ cT S 6 ∧ cT S 6 ≤ 100000) ∧ (∀ g : Int, 0 ≤ g → g < cT S 4 → RowOK (kR R g)) ∧ (∀ g : Int, 0 ≤ g → g < cT S 4 → 0 ≤ cSe S g 0 ∧ cSe S g 0 ≤ 40) ∧ ∀ j : Int, 0 ≤ j → j < cKept S → 0 ≤ SF S (56 + 3 * ((cT S 7 - 1 - j) % 8).toNat) 5 ∧ SF S (56 + 3 * ((cT S 7 - 1 - j) % 8).toNat) 5 < 1024 := by
  have ci := h.CI
  have hro := fun g hg => (h.RowOK (g := g) hg).1.2.2.1
  obtain ⟨hr, hd, hf, hk⟩ := h
  have c := hd.2.2.2.2.1
  obtain ⟨t0, t1, t2, t4, t5, t6⟩ := hr.1
  refine ⟨ci, by omega, fun u a b => ?_, fun g a b => ?_, by omega, fun g a b => hro g ⟨a, by omega⟩, fun g a b => ?_, fun j a b => ?_⟩
  · rw [← hr.cu ⟨a, by omega⟩ (by decide)]
    have := hd.2.2.2.1 u a (by omega)
    omega
  · rw [← (hr.2.1 g a (by omega)).1.2.2.1]
    have := rDep_rng (s := s) 6 (rOf s g 5)
    unfold rDepth
    omega
  · rw [← hr.cs ⟨a, by omega⟩ (by decide)]
    exact (hd.2.2.1 g a (by omega)).1
  · have r := hr.2.2.2.1 j a (by omega)
    rw [← r.2.2.2.1]
    exact hd.2.2.2.2.2 _ (by omega) (by omega)
theorem st_hubOf {n L0 : Nat} {xs : Nat → Int32} {h : HP} (G : Glob n L0 xs h) (hn : n + 1 ≤ 512) (g w : Int) : LStp n L0 xs h 169 30 [.inl g, .inl w] := by
  obtain ⟨U0, o, ww, tr, S, R, st, X, L, A, C, D, B, E, tx, nu, O, Bd, H, P⟩ := G
  have hS := P.2.2.2.2.2.1.1
  have f := sim_facts hS
  refine sp_P_hubOf (d := 8) H.1 f.1 ⟨H.2.2.2.1, H.2.1.ty, LStp.mid H.2.1 ?_⟩
  exact sp_m_hubOf (d := 11) H.2.1.1 hS.2.1.1 hS.RF ⟨hS.hubOf, H.glob (P.next hn ⟨rfl, rfl⟩ EqR.refl rfl rfl P.2.2.2.2.2.1 (fun _ _ => ⟨rfl, rfl⟩) P.2.2.2.2.2.2.2)⟩
theorem st_unitOf {n L0 : Nat} {xs : Nat → Int32} {h : HP} (G : Glob n L0 xs h) (hn : n + 1 ≤ 512) (g w : Int) : LStp n L0 xs h 170 31 [.inl g, .inl w] := by
  obtain ⟨U0, o, ww, tr, S, R, st, X, L, A, C, D, B, E, tx, nu, O, Bd, H, P⟩ := G
  have hS := P.2.2.2.2.2.1.1
  have f := sim_facts hS
  refine sp_P_unitOf (d := 8) H.1 f.1 f.2.2.2.1 ⟨H.2.2.2.1, H.2.1.ty, LStp.mid H.2.1 ?_⟩
  exact sp_m_unitOf (d := 11) H.2.1.1 hS.2.1.1 (fun g a b => (hS.2.1.2.2.1 g a b).2.2.2.1) ⟨hS.unitOf, H.glob (P.next hn ⟨rfl, rfl⟩ EqR.refl rfl rfl P.2.2.2.2.2.1 (fun _ _ => ⟨rfl, rfl⟩) P.2.2.2.2.2.2.2)⟩
theorem st_unitAt {n L0 : Nat} {xs : Nat → Int32} {h : HP} (G : Glob n L0 xs h) (hn : n + 1 ≤ 512) (g w : Int) (hw : w ≤ 2147483647) : LStp n L0 xs h 171 32 [.inl g, .inl w] := by
  obtain ⟨U0, o, ww, tr, S, R, st, X, L, A, C, D, B, E, tx, nu, O, Bd, H, P⟩ := G
  have hS := P.2.2.2.2.2.1.1
  have f := sim_facts hS
  refine sp_P_unitAt (d := 8) H.1 f.1 ⟨H.2.2.2.1, H.2.1.ty, LStp.mid H.2.1 ?_⟩
  exact sp_m_unitAt (d := 12) H.2.1.1 hS.2.1.1 hw ⟨hS.unitAt, H.glob (P.next hn ⟨rfl, rfl⟩ EqR.refl rfl rfl P.2.2.2.2.2.1 (fun _ _ => ⟨rfl, rfl⟩) P.2.2.2.2.2.2.2)⟩
theorem st_slotAt {n L0 : Nat} {xs : Nat → Int32} {h : HP} (G : Glob n L0 xs h) (hn : n + 1 ≤ 512) (g x w : Int) (hx : x ≤ 2147483647) : LStp n L0 xs h 174 61 [.inl g, .inl x, .inl w] := by
  obtain ⟨U0, o, ww, tr, S, R, st, X, L, A, C, D, B, E, tx, nu, O, Bd, H, P⟩ := G
  have hS := P.2.2.2.2.2.1.1
  have f := sim_facts hS
  refine sp_P_slotAt (d := 8) H.1 f.1 f.2.2.2.2.2.1 f.2.2.2.2.2.2.1 f.2.2.2.2.1 hx (fun H1 S' G1 C1 sm => ?_)
  have H2 := H.ck G1 C1
  refine ⟨H2.2.2.2.1, H2.2.1.ty, LStp.mid H2.2.1 ?_⟩
  have c := hS.2.1.2.2.2.2.1
  refine sp_m_slotAt (d := 10) H2.2.1.1 hS.2.1.1 hS.RF (fun g a b => (hS.2.1.2.2.1 g a b).1) ⟨c.1, by omega⟩ ⟨hS.slotAt, H2.glob (P.next hn ⟨rfl, rfl⟩ EqR.refl rfl rfl ?_ (fun j hj => ⟨upG_ne (by omega), rfl⟩) P.2.2.2.2.2.2.2)⟩
  rw [upG_eq]
  obtain ⟨p1, p2, p3⟩ := P.2.2.2.2.2.1
  exact ⟨p1.sx (fun m hm => sm m (by omega)), p2, p3⟩
theorem st_outAt {n L0 : Nat} {xs : Nat → Int32} {h : HP} (G : Glob n L0 xs h) (hn : n + 1 ≤ 512) (g w : Int) : LStp n L0 xs h 175 63 [.inl g, .inl w] := by
  obtain ⟨U0, o, ww, tr, S, R, st, X, L, A, C, D, B, E, tx, nu, O, Bd, H, P⟩ := G
  have hS := P.2.2.2.2.2.1.1
  have f := sim_facts hS
  refine sp_P_outAt (d := 8) H.1 f.2.1 f.2.2.2.2.2.2.2 ⟨H.2.2.2.1, H.2.1.ty, LStp.mid H.2.1 ?_⟩
  exact sp_m_outAt (d := 13) H.2.1.1 hS.2.1.1 ⟨hS.outAt, H.glob (P.next hn ⟨rfl, rfl⟩ EqR.refl rfl rfl P.2.2.2.2.2.1 (fun _ _ => ⟨rfl, rfl⟩) P.2.2.2.2.2.2.2)⟩
theorem st_readingAt {n L0 : Nat} {xs : Nat → Int32} {h : HP} (G : Glob n L0 xs h) (hn : n + 1 ≤ 512) (i u w : Int) : LStp n L0 xs h 176 64 [.inl i, .inl u, .inl w] := by
  obtain ⟨U0, o, ww, tr, S, R, st, X, L, A, C, D, B, E, tx, nu, O, Bd, H, P⟩ := G
  have hS := P.2.2.2.2.2.1.1
  have f := sim_facts hS
  refine sp_P_readingAt (d := 8) H.1 f.1 f.2.1 ⟨H.2.2.2.1, H.2.1.ty, LStp.mid H.2.1 ?_⟩
  exact sp_m_readingAt (d := 13) H.2.1.1 hS.2.1.1 ⟨hS.readAt, H.glob (P.next hn ⟨rfl, rfl⟩ EqR.refl rfl rfl P.2.2.2.2.2.1 (fun _ _ => ⟨rfl, rfl⟩) P.2.2.2.2.2.2.2)⟩
theorem st_heldBy {n L0 : Nat} {xs : Nat → Int32} {h : HP} (G : Glob n L0 xs h) (hn : n + 1 ≤ 512) (i u w : Int) : LStp n L0 xs h 177 65 [.inl i, .inl u, .inl w] := by
  obtain ⟨U0, o, ww, tr, S, R, st, X, L, A, C, D, B, E, tx, nu, O, Bd, H, P⟩ := G
  have hS := P.2.2.2.2.2.1.1
  have f := sim_facts hS
  refine sp_P_heldBy (d := 8) H.1 f.1 ⟨H.2.2.2.1, H.2.1.ty, LStp.mid H.2.1 ?_⟩
  exact sp_m_heldBy (d := 13) H.2.1.1 hS.2.1.1 ⟨hS.heldBy, H.glob (P.next hn ⟨rfl, rfl⟩ EqR.refl rfl rfl P.2.2.2.2.2.1 (fun _ _ => ⟨rfl, rfl⟩) P.2.2.2.2.2.2.2)⟩
theorem st_count {n L0 : Nat} {xs : Nat → Int32} {h : HP} (G : Glob n L0 xs h) (hn : n + 1 ≤ 512) (w : Int) : LStp n L0 xs h 180 69 [.inl w] := by
  obtain ⟨U0, o, ww, tr, S, R, st, X, L, A, C, D, B, E, tx, nu, O, Bd, H, P⟩ := G
  have hS := P.2.2.2.2.2.1.1
  have f := sim_facts hS
  have p1 := P.1
  have gl : Glob (n + 1) L0 xs (wX 488 h X) := H.glob (P.next hn ⟨rfl, rfl⟩ EqR.refl rfl rfl P.2.2.2.2.2.1 (fun _ _ => ⟨rfl, rfl⟩) P.2.2.2.2.2.2.2)
  have ref : ∀ v, rCount X w = v → CaI 15 69 [.inr (some 488), .inl w] h (fun v' h2 => v' = v ∧ Glob (n + 1) L0 xs h2) := fun v e => LStp.mid H.2.1 (sp_m_count (d := 12) H.2.1.1 hS.2.1.1 ⟨e, gl⟩)
  refine sp_P_count (d := 8) H.1 f.1 H.2.2.1 p1.2.2.1 (fun e => ?_) (fun e => ?_) (fun e => ?_) (fun e => ?_)
  · refine ⟨H.2.2.2.1, H.2.1.ty, ref _ ?_⟩
    unfold rCount
    subst e
    rw [if_neg (by decide), if_neg (by decide), if_neg (by decide), if_neg (by decide), if_neg (by decide), if_neg (by decide), if_neg (by decide), if_neg (by decide), if_neg (by decide), if_pos rfl]
    exact p1.1
  · refine ⟨H.2.2.2.1, H.2.1.ty, ref _ ?_⟩
    unfold rCount
    subst e
    rw [if_neg (by decide), if_neg (by decide), if_neg (by decide), if_neg (by decide), if_neg (by decide), if_neg (by decide), if_neg (by decide), if_neg (by decide), if_neg (by decide), if_neg (by decide), if_pos rfl]
    exact p1.2.1
  · exact ⟨H.2.2.2.1, H.2.1.ty, ref _ (hS.count rfl e)⟩
  · refine ⟨H.2.2.2.1, H.2.1.ty, ref _ ?_⟩
    unfold rCount
    rw [if_neg (by omega), if_neg (by omega), if_neg (by omega), if_neg (by omega), if_neg (by omega), if_neg (by omega), if_neg (by omega), if_neg (by omega), if_neg (by omega), if_neg (by omega), if_neg (by omega)]

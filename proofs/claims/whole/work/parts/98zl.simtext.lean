/-! THE SIMULATION: a step of the law: texts -/
theorem OrdIs.cg {tx tx' : Int → Int} {L a c n0 n1 n2 nx : Int} (h : OrdIs tx' L a c n0 n1 n2 nx) (ha : 0 ≤ a) (et : ∀ j, 0 ≤ j → j < L → tx j = tx' j) : OrdIs tx L a c n0 n1 n2 nx := by
  have ol := h.lt
  have te : ∀ j, 0 ≤ j → j < L → tx' j = tx j := fun j a b => (et j a b).symm
  obtain ⟨h1, h2, h3⟩ := h
  refine ⟨h1, by rw [et _ ha h1]; exact h2, ?_⟩
  rcases h3 with ⟨c, a1, a2, k1, k2, k3⟩ | ⟨c, k1, k2⟩
  · left
    have l1 := k1.lo
    have l2 := k2.lo
    rcases k3 with ⟨p, q, x, r, t⟩ | ⟨p, r⟩
    · have l3 := r.lo
      exact ⟨c, a1, a2, k1.sub (by omega) (by omega) te, k2.sub (by omega) (by omega) te, Or.inl ⟨p, by rw [et _ (by omega) p]; exact q, x, r.sub (by omega) ol.2.1 te, t⟩⟩
    · have l3 := r.lo
      exact ⟨c, a1, a2, k1.sub (by omega) (by omega) te, k2.sub (by omega) (by omega) te, Or.inr ⟨fun z => p ⟨z.1, by rw [te _ (by omega) z.1]; exact z.2⟩, r.sub (by omega) ol.2.1 te⟩⟩
  · exact Or.inr ⟨c, k1.sub (by omega) ol.2.1 te, k2⟩
theorem kyz {X Z : Nat → Int → Int} (f : KY X Z) (e : EqR (Z 1) (X 1)) : (Z 0 4 = X 0 4 ∧ Z 0 6 = X 0 6) ∧ EqR (Z 1) (X 1) ∧ Z 2 = X 2 ∧ Z 5 = X 5 := by
  have g : ∀ i, i ≠ 0 → i ≠ 1 → i ≠ 4 → i ≠ 6 → i ≠ 7 → i ≠ 8 → i ≠ 9 → Z i = X i := fun i a b c d x y w => funext fun j => f i j b c d x y w (fun z => a z.1) (fun z => a z.1) (fun z => a z.1)
  exact ⟨⟨f 0 4 (by decide) (by decide) (by decide) (by decide) (by decide) (by decide) (by decide) (by decide) (by decide), f 0 6 (by decide) (by decide) (by decide) (by decide) (by decide) (by decide) (by decide) (by decide) (by decide)⟩, e, g 2 (by decide) (by decide) (by decide) (by decide) (by decide) (by decide) (by decide), g 5 (by decide) (by decide) (by decide) (by decide) (by decide) (by decide) (by decide)⟩
theorem kwz {X Z : Nat → Int → Int} (f : KW X Z) : (Z 0 4 = X 0 4 ∧ Z 0 6 = X 0 6) ∧ Z 2 = X 2 ∧ Z 5 = X 5 := by
  have g : ∀ i, i ≠ 0 → i ≠ 1 → i ≠ 3 → i ≠ 4 → i ≠ 6 → i ≠ 7 → i ≠ 8 → i ≠ 9 → Z i = X i := fun i a b b3 c d x y w => funext fun j => f i j b b3 c d x y w (fun z => a z.1) (fun z => a z.1) (fun z => a z.1)
  exact ⟨⟨f 0 4 (by decide) (by decide) (by decide) (by decide) (by decide) (by decide) (by decide) (by decide) (by decide) (by decide), f 0 6 (by decide) (by decide) (by decide) (by decide) (by decide) (by decide) (by decide) (by decide) (by decide) (by decide)⟩, g 2 (by decide) (by decide) (by decide) (by decide) (by decide) (by decide) (by decide) (by decide), g 5 (by decide) (by decide) (by decide) (by decide) (by decide) (by decide) (by decide) (by decide)⟩
/-- the object behind a trial of the text -/
theorem text_glob {L0 : Nat} {xs : Nat → Int32} {h H1 : HP} {U0 : Nat} {o o' : Nat → Nat} {w w' : Nat → Nat × Nat} {tr : Nat → Nat} {S : Nat → Nat → Int → Int} {R : Nat → Nat → List FV} {st : Int} {X : Nat → Int → Int} {L A C D B E A' C' D' B' E' : Int} {tx nu nu' : Int → Int} {S1 : Nat → Int → Int} {R1 : Nat → List FV} (H : HeapG L0 xs h U0 o w tr S R st X L A C D B E tx nu) (G1 : GP U0 H1 o' w' tr (upG S 5 S1) (upG R 5 R1) st) (C1 : CR h H1) (O1 : OT H1 H1 L A' C' D' B' E' tx nu') : HeapG L0 xs H1 U0 o' w' tr (upG S 5 S1) (upG R 5 R1) st X L A' C' D' B' E' tx nu' := ⟨G1, C1.ref H.2.1, O1, H.2.2.2.1.cr C1, H.2.2.2.2⟩
theorem st_fault {n L0 : Nat} {xs : Nat → Int32} {h : HP} (G : Glob n L0 xs h) (hn : n + 1 ≤ 512) (v : Int) : LStp n L0 xs h 184 79 [.inl v] := by
  obtain ⟨U0, o, ww, tr, S, R, st, X, L, A, C, D, B, E, tx, nu, O, Bd, H, P⟩ := G
  have hS := P.2.2.2.2.2.1.1
  have f := sim_facts hS
  have p1 := P.1
  have hq : 0 ≤ X 0 4 ∧ X 0 4 ≤ 4 := by rw [p1.1]; exact p1.2.2.2
  have stay : Glob (n + 1) L0 xs (wX 488 h X) := H.glob (P.next hn ⟨rfl, rfl⟩ EqR.refl rfl rfl P.2.2.2.2.2.1 (fun _ _ => ⟨rfl, rfl⟩) P.2.2.2.2.2.2.2)
  have stayB : Glob (n + 1) L0 xs (wX 488 h (bgX X)) := H.glob (P.next hn ⟨congrFun bgX_0 4, congrFun bgX_0 6⟩ (by rw [bgX_1]; exact EqR.refl) (cpX_ne (by decide)) (cpX_ne (by decide)) P.2.2.2.2.2.1 (fun _ _ => ⟨rfl, rfl⟩) P.2.2.2.2.2.2.2)
  have pO := P.2.2.1
  have pB := P.2.2.2.1
  have p4 := P.2.2.2.2.2.1
  have c := hS.2.1.2.2.2.2.1
  have pt := P.2.1
  have pT := P.2.2.2.2.1
  have l2 := p4.2.2
  have hL := p1.2.2.1
  have e6 := p1.2.1
  have et : ∀ j, 0 ≤ j → j < L → X 5 j = tx j := fun j a b => (pt j a b).1
  have te : ∀ j, 0 ≤ j → j < L → tx j = X 5 j := fun j a b => (pt j a b).1.symm
  have rc : RunC (X 5) L O Bd := ⟨by omega, ⟨pB.1, by omega⟩, hL, fun a n0 n1 n2 nx x y => pT a n0 n1 n2 nx x (y.cg x te)⟩
  have htx : ∀ j, 0 ≤ j → j < L → 32 ≤ tx j ∧ tx j ≤ 126 := fun j a b => (pt j a b).2
  have htX : ∀ j, 0 ≤ j → j < X 0 6 → 32 ≤ X 5 j ∧ X 5 j ≤ 126 := fun j a b => by rw [et j a (by omega)]; exact htx j a (by omega)
  have l4 : LI (X 1) (R 4) := p4.2.1
  have tk8 : ∀ {m : Nat} {h : HP}, RO m h → ∀ d, TKH d m h Tk Gd := fun hO d => tkh hO
  have fcv : ∀ (a : Int) (S1 : Nat → Int → Int) (r : Int), 0 ≤ a → a < L → Fc tx L a S1 r → Fc (X 5) L a S1 r := fun a S1 r a0 a1 q => by
    have ea := et a a0 a1
    rcases q with ⟨e, z⟩ | ⟨e, n0, n1, n2, nx, O2, z1, z2⟩ | ⟨e, n0, n1, n2, nx, O2, z1, z2⟩
    · exact Or.inl ⟨e, fun n0 n1 n2 nx k => z n0 n1 n2 nx (by rw [ea] at k; exact k.cg a0 te)⟩
    · exact Or.inr (Or.inl ⟨e, n0, n1, n2, nx, by rw [ea]; exact O2.cg a0 et, by rw [ea]; exact z1, z2⟩)
    · exact Or.inr (Or.inr ⟨e, n0, n1, n2, nx, by rw [ea]; exact O2.cg a0 et, by rw [ea]; exact z1, by rw [ea]; exact z2⟩)
  have hpl : ∀ a n S R, PFc (X 5) L (X 1) O Bd a n S R → 0 ≤ a := fun a n S R q => by
    obtain ⟨k, _, ka, _⟩ := q
    omega
  have hF : ∀ a n S R, PFc (X 5) L (X 1) O Bd a n S R → CI S ∧ 0 ≤ cT S 6 ∧ cT S 6 ≤ 50000 := fun a n S R q => q.ci
  have hM : ∀ a n S R n0 n1 n2 nx, PFc (X 5) L (X 1) O Bd a n S R → OrdIs tx L a 109 n0 n1 n2 nx → cDep S n0 n1 n2 0 1 = 0 → PFc (X 5) L (X 1) O Bd nx (n + 1) (upX (upX (upF S 6 (cDpV S n0 n1 n2 0 1)) 3 1 (((R 3).length : Nat) + 1)) (46 + n0.toNat) 3 (wr (cU S n0 3 + 1))) (upR R 3 (insA (R 3) ((R 3).length : Nat) (cDpV S n0 n1 n2 0 1))) := fun a n S R n0 n1 n2 nx q k e => q.send rc (k.cg (hpl _ _ _ _ q) et) e
  have hX : ∀ a n S R n0 n1 n2 nx, PFc (X 5) L (X 1) O Bd a n S R → OrdIs tx L a 120 n0 n1 n2 nx → cRet S n0 = 0 → PFc (X 5) L (X 1) O Bd nx (n + 1) (upX S (46 + n0.toNat) 2 1) R := fun a n S R n0 n1 n2 nx q k e => q.off rc (k.cg (hpl _ _ _ _ q) et) e
  have h0 : ∀ S1 R1, CQ (R 5) (S 4) (R 4) S1 R1 → CntR S1 R1 → PFc (X 5) L (X 1) O Bd 0 0 S1 R1 := fun S1 R1 cq cn => by
    obtain ⟨q1, _⟩ := p4.copy (by omega) cq cn (P.2.2.2.2.2.2.2 5 (by decide))
    exact PFc.start rc q1.1 q1.2.1 q1.2.2
  have rh : RunH Tk Gd (X 5) (X 0 6) (PFr (X 5) L (X 1) O Bd) := by rw [e6]; exact rc.runH
  have r0 : PFr (X 5) L (X 1) O Bd 0 0 (X 1) := PFr.start rc EqR.refl p4.1 p4.2.1 p4.2.2
  have pla : ∀ a n S R, PFc (X 5) L (X 1) O Bd a n S R → LA R := fun a n S R q => by
    obtain ⟨k, _, _, ⟨T, _, sr⟩, _⟩ := q
    obtain ⟨s, hs⟩ := sr.1
    exact (sr.2 s hs).la (by omega)
  refine sp_P_fault (d := 8) H.1 H.2.2.1 hL htx (PF := PFc (X 5) L (X 1) O Bd) hF hM hX (fun a n S R n0 n1 n2 nx q k e {h} {o} {w} {Q} TT K => ?_) f.1 f.2.1.1 f.2.2.1 h0 (v := v) (fun k => ?_) (fun k H1 o' w' S1 R1 a m C B nu' G1 C1 O1 pf la => ?_) (fun k H1 o' w' S1 R1 a m C A nu' r G1 C1 O1 pf a0 a1 fc => ?_)
  · obtain ⟨kk, T, b1, b2, sr, b3⟩ := q.time rc (k.cg (hpl _ _ _ _ q) et) e
    exact sp_elapse (d := 8) (n := n0) (by omega) b2 (by omega) ⟨b1.1, by omega⟩ sr TT (fun H' o' w' S' R' E T' sr' => K H' o' w' S' R' E T' (b3 S' R' sr'))
  · refine ⟨H.2.2.2.1, H.2.1.ty, LStp.mid H.2.1 ?_⟩
    exact sp_m_fault (d := 2) H.2.1.1 (tk8 H.2.1.1 2) Gd.ri (by rw [e6]; exact hL) htX rh r0 (fun _ => ⟨rfl, stay⟩) (fun z => absurd z k)
  · have H2 := text_glob H G1 C1 O1
    refine ⟨H2.2.2.2.1, H2.2.1.ty, LStp.mid H2.2.1 ?_⟩
    refine sp_m_fault (d := 2) H2.2.1.1 (tk8 H2.2.1.1 2) Gd.ri (by rw [e6]; exact hL) htX rh r0 (fun z => absurd k z) (fun _ v' Z rf => ?_)
    obtain ⟨ky, z1, fo⟩ := rf
    rw [e6] at fo
    obtain ⟨z0, z1, z2, z5⟩ := kyz ky z1
    have ev := (pf.outK la).1 v' (Z 0 8) fo
    refine ⟨by rw [if_pos ev], trial_glob H2 P hn (pla _ _ _ _ pf) z0 z1 z2 z5⟩
  · have H2 := text_glob H G1 C1 O1
    refine ⟨H2.2.2.2.1, H2.2.1.ty, LStp.mid H2.2.1 ?_⟩
    refine sp_m_fault (d := 2) H2.2.1.1 (tk8 H2.2.1.1 2) Gd.ri (by rw [e6]; exact hL) htX rh r0 (fun z => absurd k z) (fun _ v' Z rf => ?_)
    obtain ⟨ky, z1, fo⟩ := rf
    rw [e6] at fo
    obtain ⟨z0, z1, z2, z5⟩ := kyz ky z1
    have ev := pf.outF rc ⟨a0, a1⟩ (fcv a S1 r a0 a1 fc) fo
    refine ⟨?_, trial_glob H2 P hn (pla _ _ _ _ pf) z0 z1 z2 z5⟩
    rw [ev.1, ev.2, if_neg (by omega)]
theorem st_play {n L0 : Nat} {xs : Nat → Int32} {h : HP} (G : Glob n L0 xs h) (hn : n + 1 ≤ 512) : LStp n L0 xs h 185 80 [] := by
  obtain ⟨U0, o, ww, tr, S, R, st, X, L, A, C, D, B, E, tx, nu, O, Bd, H, P⟩ := G
  have hS := P.2.2.2.2.2.1.1
  have f := sim_facts hS
  have p1 := P.1
  have hq : 0 ≤ X 0 4 ∧ X 0 4 ≤ 4 := by rw [p1.1]; exact p1.2.2.2
  have stay : Glob (n + 1) L0 xs (wX 488 h X) := H.glob (P.next hn ⟨rfl, rfl⟩ EqR.refl rfl rfl P.2.2.2.2.2.1 (fun _ _ => ⟨rfl, rfl⟩) P.2.2.2.2.2.2.2)
  have stayB : Glob (n + 1) L0 xs (wX 488 h (bgX X)) := H.glob (P.next hn ⟨congrFun bgX_0 4, congrFun bgX_0 6⟩ (by rw [bgX_1]; exact EqR.refl) (cpX_ne (by decide)) (cpX_ne (by decide)) P.2.2.2.2.2.1 (fun _ _ => ⟨rfl, rfl⟩) P.2.2.2.2.2.2.2)
  have pO := P.2.2.1
  have pB := P.2.2.2.1
  have p4 := P.2.2.2.2.2.1
  have c := hS.2.1.2.2.2.2.1
  have pt := P.2.1
  have pT := P.2.2.2.2.1
  have l2 := p4.2.2
  have hL := p1.2.2.1
  have e6 := p1.2.1
  have et : ∀ j, 0 ≤ j → j < L → X 5 j = tx j := fun j a b => (pt j a b).1
  have te : ∀ j, 0 ≤ j → j < L → tx j = X 5 j := fun j a b => (pt j a b).1.symm
  have rc : RunC (X 5) L O Bd := ⟨by omega, ⟨pB.1, by omega⟩, hL, fun a n0 n1 n2 nx x y => pT a n0 n1 n2 nx x (y.cg x te)⟩
  have htx : ∀ j, 0 ≤ j → j < L → 32 ≤ tx j ∧ tx j ≤ 126 := fun j a b => (pt j a b).2
  have htX : ∀ j, 0 ≤ j → j < X 0 6 → 32 ≤ X 5 j ∧ X 5 j ≤ 126 := fun j a b => by rw [et j a (by omega)]; exact htx j a (by omega)
  have l4 : LI (X 1) (R 4) := p4.2.1
  have tk8 : ∀ {m : Nat} {h : HP}, RO m h → ∀ d, TKH d m h Tk Gd := fun hO d => tkh hO
  have fcv : ∀ (a : Int) (S1 : Nat → Int → Int) (r : Int), 0 ≤ a → a < L → Fc tx L a S1 r → Fc (X 5) L a S1 r := fun a S1 r a0 a1 q => by
    have ea := et a a0 a1
    rcases q with ⟨e, z⟩ | ⟨e, n0, n1, n2, nx, O2, z1, z2⟩ | ⟨e, n0, n1, n2, nx, O2, z1, z2⟩
    · exact Or.inl ⟨e, fun n0 n1 n2 nx k => z n0 n1 n2 nx (by rw [ea] at k; exact k.cg a0 te)⟩
    · exact Or.inr (Or.inl ⟨e, n0, n1, n2, nx, by rw [ea]; exact O2.cg a0 et, by rw [ea]; exact z1, z2⟩)
    · exact Or.inr (Or.inr ⟨e, n0, n1, n2, nx, by rw [ea]; exact O2.cg a0 et, by rw [ea]; exact z1, by rw [ea]; exact z2⟩)
  have hpl : ∀ a n S R, PFc (X 5) L (X 1) O Bd a n S R → 0 ≤ a := fun a n S R q => by
    obtain ⟨k, _, ka, _⟩ := q
    omega
  have hF : ∀ a n S R, PFc (X 5) L (X 1) O Bd a n S R → CI S ∧ 0 ≤ cT S 6 ∧ cT S 6 ≤ 50000 := fun a n S R q => q.ci
  have hM : ∀ a n S R n0 n1 n2 nx, PFc (X 5) L (X 1) O Bd a n S R → OrdIs tx L a 109 n0 n1 n2 nx → cDep S n0 n1 n2 0 1 = 0 → PFc (X 5) L (X 1) O Bd nx (n + 1) (upX (upX (upF S 6 (cDpV S n0 n1 n2 0 1)) 3 1 (((R 3).length : Nat) + 1)) (46 + n0.toNat) 3 (wr (cU S n0 3 + 1))) (upR R 3 (insA (R 3) ((R 3).length : Nat) (cDpV S n0 n1 n2 0 1))) := fun a n S R n0 n1 n2 nx q k e => q.send rc (k.cg (hpl _ _ _ _ q) et) e
  have hX : ∀ a n S R n0 n1 n2 nx, PFc (X 5) L (X 1) O Bd a n S R → OrdIs tx L a 120 n0 n1 n2 nx → cRet S n0 = 0 → PFc (X 5) L (X 1) O Bd nx (n + 1) (upX S (46 + n0.toNat) 2 1) R := fun a n S R n0 n1 n2 nx q k e => q.off rc (k.cg (hpl _ _ _ _ q) et) e
  have h0 : ∀ S1 R1, CQ (R 5) (S 4) (R 4) S1 R1 → CntR S1 R1 → PFc (X 5) L (X 1) O Bd 0 0 S1 R1 := fun S1 R1 cq cn => by
    obtain ⟨q1, _⟩ := p4.copy (by omega) cq cn (P.2.2.2.2.2.2.2 5 (by decide))
    exact PFc.start rc q1.1 q1.2.1 q1.2.2
  have rh : RunH Tk Gd (X 5) (X 0 6) (PFr (X 5) L (X 1) O Bd) := by rw [e6]; exact rc.runH
  have r0 : PFr (X 5) L (X 1) O Bd 0 0 (X 1) := PFr.start rc EqR.refl p4.1 p4.2.1 p4.2.2
  have pla : ∀ a n S R, PFc (X 5) L (X 1) O Bd a n S R → LA R := fun a n S R q => by
    obtain ⟨k, _, _, ⟨T, _, sr⟩, _⟩ := q
    obtain ⟨s, hs⟩ := sr.1
    exact (sr.2 s hs).la (by omega)
  refine sp_P_play (d := 8) H.1 H.2.2.1 hL htx (PF := PFc (X 5) L (X 1) O Bd) hF hM hX (fun a n S R n0 n1 n2 nx q k e {h} {o} {w} {Q} TT K => ?_) f.1 f.2.1.1 f.2.2.1 h0 (fun H1 o' w' S1 R1 a m C A nu' r G1 C1 O1 pf a0 a1 fc => ?_) (fun H1 o' w' tr' S' R' st' S1 R1 a m C B nu' G1 C1 O1 rm pf la => ?_)
  · obtain ⟨kk, T, b1, b2, sr, b3⟩ := q.time rc (k.cg (hpl _ _ _ _ q) et) e
    exact sp_elapse (d := 8) (n := n0) (by omega) b2 (by omega) ⟨b1.1, by omega⟩ sr TT (fun H' o' w' S' R' E T' sr' => K H' o' w' S' R' E T' (b3 S' R' sr'))
  · have H2 := text_glob H G1 C1 O1
    have out := fun v' r' fo => pf.outF (v := v') (r' := r') rc ⟨a0, a1⟩ (fcv a S1 r a0 a1 fc) fo
    refine ⟨H2.2.2.2.1, H2.2.1.ty, LStp.mid H2.2.1 ?_⟩
    refine sp_m_play (d := 2) H2.2.1.1 (tk8 H2.2.1.1 2) (tk8 H2.2.1.1 3) Gd.ri (by rw [e6]; exact hL) htX hq rh r0 (PP := fun _ _ _ => False) ⟨fun _ _ _ z => z.elim, fun _ _ _ _ _ _ _ _ _ z => z.elim⟩ (fun _ _ _ _ z => z.elim) (fun z => ?_) (fun v' Z rf _ => ?_) (fun m' Y ps _ => ps.2.2.2.2.elim)
    · obtain ⟨a', n', s', hp, hl⟩ := z
      exfalso
      have := (out (-1000004) 0 (Or.inl ⟨rfl, a', n', s', hp, by omega⟩)).1
      omega
    · obtain ⟨ky, z1, _⟩ := rf
      obtain ⟨z0, z1, z2, z5⟩ := kyz ky z1
      exact ⟨rfl, trial_glob H2 P hn (pla _ _ _ _ pf) z0 z1 z2 z5⟩
  · obtain ⟨k1, k2, k3⟩ := pf.outK la
    have H2 : HeapG L0 xs H1 U0 o' w' (fun r => tr' (sw45 r)) (fun r => S' (sw45 r)) (fun r => R' (sw45 r)) st' X L a C m B 0 tx nu' := ⟨G1, C1.ref H.2.1, O1, H.2.2.2.1.cr C1, H.2.2.2.2⟩
    refine ⟨H2.2.2.2.1, H2.2.1.ty, LStp.mid H2.2.1 ?_⟩
    refine sp_m_play (d := 2) H2.2.1.1 (tk8 H2.2.1.1 2) (tk8 H2.2.1.1 3) Gd.ri (by rw [e6]; exact hL) htX hq rh r0 (PP := PFr (X 5) L (X 1) O Bd) rh (fun a' n' s' r' hp x y => by rw [e6] at y ⊢; exact k3 a' n' s' r' hp x y) (fun _ s e => PFr.start rc e p4.1 p4.2.1 p4.2.2) (fun v' Z rf nv => ?_) (fun m' Y ps hl => ?_)
    · obtain ⟨_, _, fo⟩ := rf
      rw [e6] at fo
      exact absurd (k1 v' _ fo) nv
    · obtain ⟨kw, y3, y7, yn, pp⟩ := ps
      rw [e6] at hl
      obtain ⟨em, T, hT, g⟩ := k2 _ _ _ pp hl
      have mk : 0 ≤ m ∧ 3 * m ≤ 60 := by
        obtain ⟨k, hk, ka, _⟩ := pf
        omega
      obtain ⟨z0, z2, z5⟩ := kwz kw
      have t2 := g.2.2.1
      have la1 := g.la (by omega)
      refine ⟨em, ?_⟩
      rw [aX_ok (by omega)]
      have P5 : PureG n st X L tx O Bd (upG S 5 S1) (upG R 5 R1) := by
        obtain ⟨q1, q2, q3, q4, q5, q6, q7, q8⟩ := P
        refine ⟨q1, q2, q3, q4, q5, by rw [upG_ne (by decide), upG_ne (by decide)]; exact q6, fun j hj => by rw [upG_ne (by omega), upG_ne (by omega)]; exact q7 j hj, fun r hr => ?_⟩
        by_cases q : r = 5
        · rw [q, upG_eq]; exact la1
        · rw [upG_ne q]; exact q8 r hr
      have cnt : ∀ j, j < 4 → CntR (S' j) (R' j) := fun j hj => by
        have this : CntR (S' (sw45 j)) (R' (sw45 j)) := (G1.T (r := j) (by omega)).cnt
        rw [show sw45 j = j by unfold sw45; rw [if_neg (by omega), if_neg (by omega)]] at this
        exact this
      have rm2 := rm
      obtain ⟨_, _, _, _, ⟨s4, r4, s5, r5⟩, _⟩ := rm2
      have s5 : S' 5 = S1 := by rw [s5, upG_eq]
      have r5 : R' 5 = R1 := by rw [r5, upG_eq]
      have sg : SimG (Y 1) O (Bd + m) S1 R1 := by
        refine ⟨?_, g.2.1, by omega⟩
        rw [show Bd + m + 14000 * Y 1 2 = Bd + m + 14000 * T by rw [t2]]
        exact g.1
      have pa := P5.acted (Z := Y) (O' := O) (Bd' := Bd + m) hn rm cnt z0 z2 y3 z5 ⟨fun x y => y, by omega⟩ ⟨by omega, by omega⟩ sg (by rw [r5]; exact la1)
      refine H2.glob (O := O) (Bd := Bd + m) ?_
      obtain ⟨q1, q2, q3, q4, q5, q6, q7, q8⟩ := pa
      refine ⟨q1, q2, q3, q4, q5, ?_, fun j hj => ?_, fun r hr => ?_⟩
      · dsimp only
        rw [show sw45 4 = 5 from rfl, s5, r5]
        rw [upG_eq, upG_eq] at q6
        exact q6
      · have q := q7 j hj
        have j4 : j < 4 := by
          have := q1.2.2.2.2
          omega
        rw [upG_ne (by omega), upG_ne (by omega)] at q
        dsimp only
        rw [show sw45 j = j by unfold sw45; rw [if_neg (by omega), if_neg (by omega)]]
        exact q
      · dsimp only
        by_cases z4 : r = 4
        · rw [z4, show sw45 4 = 5 from rfl, r5]; exact la1
        · by_cases z5 : r = 5
          · rw [z5, show sw45 5 = 4 from rfl, r4, upG_ne (by decide)]
            exact P.2.2.2.2.2.2.2 4 (by decide)
          · have q := q8 r hr
            rw [upG_ne z4] at q
            rw [show sw45 r = r by unfold sw45; rw [if_neg z4, if_neg z5]]
            exact q

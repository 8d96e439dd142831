/-! THE INVARIANTS: time goes by, frames that are due come -/
theorem IvvN.sqq {n : Int} {S S' : Nat → Int → Int} {R : Nat → List FV} (h : IvvN n S R) (x : Sq S S') : IvvN n S' R := by
  obtain ⟨a, b, c, d⟩ := h
  exact ⟨a.sqq x (fun _ _ _ => rfl), fun v hv => (b v hv).sq a.1 x.c, c, fun u p q => by rw [x.u]; exact d u p q⟩
theorem IvvN.time {n : Int} {S : Nat → Int → Int} {R : Nat → List FV} (h : IvvN n S R) (ht : cT S 6 + 1 ≤ 1000) : IvvN n (upX S 0 6 (cT S 6 + 1)) R := by
  obtain ⟨⟨hc, h6, hh, ho, h7, hl⟩, b, c, d⟩ := h
  have e6 : cT (upX S 0 6 (cT S 6 + 1)) 6 = cT S 6 + 1 := upX_is
  have et : ∀ k, k ≠ 6 → cT (upX S 0 6 (cT S 6 + 1)) k = cT S k := fun k hk => upX_at (fun q => hk q.2)
  have en : ∀ m, m ≠ 0 → upX S 0 6 (cT S 6 + 1) m = S m := fun m hm => upX_ne hm
  have eh : cH (upX S 0 6 (cT S 6 + 1)) = cH S := by
    funext g
    exact en _ (by omega)
  have es : cSe (upX S 0 6 (cT S 6 + 1)) = cSe S := by
    funext g
    exact en _ (by omega)
  have eu : cU (upX S 0 6 (cT S 6 + 1)) = cU S := by
    funext g
    exact en _ (by omega)
  have ef : ∀ m, m ≠ 0 → SF (upX S 0 6 (cT S 6 + 1)) m = SF S m := fun m hm => SF_upX hm (by omega) (by omega)
  have sc : SqC S (upX S 0 6 (cT S 6 + 1)) := ⟨⟨et 4 (by decide), et 5 (by decide)⟩, fun g _ _ => by rw [eh, es]; exact ⟨rfl, rfl, rfl⟩, fun u _ _ => by rw [eu]; exact ⟨rfl, rfl⟩⟩
  refine ⟨⟨hc.sq sc (fun u p q => by rw [eu]; exact (hc.2.2.2.2.1 u p q).2.2), by rw [e6]; omega, fun g p q => ?_, ho.sq (et 7 (by decide)) (et 8 (by decide)) (by rw [e6]; omega) (fun m hm => ef m (by omega)), by rw [et 7 (by decide), eh]; exact h7, fun z => ?_⟩, fun v hv => (b v hv).sq hc sc, c, fun u p q => by rw [eu]; exact d u p q⟩
  · exact (hh g p q).sq ⟨p, q⟩ sc (by rw [eh]) (by rw [eh]) (by rw [e6]; omega) rfl (ef _ (by omega))
  · rw [et 7 (by decide)] at z
    have := hl z
    unfold OFS at *
    rw [et 7 (by decide), ef _ (by omega), eh]
    exact this
theorem cRm_sub {S : Nat → Int → Int} {L : List FV} : ∀ n : Nat, n ≤ L.length → (cRm S L n).Sublist (L.take n)
  | 0, _ => List.nil_sublist _
  | n + 1, hn => by
    rw [show ((n + 1 : Nat) : Int) = (n : Int) + 1 by omega, cRm_succ (by omega), List.take_succ_eq_append_getElem (by omega), ← gt_nat (by omega)]
    have ih := cRm_sub (S := S) (L := L) n (by omega)
    rcases Classical.em (gt L (n : Int) 3 ≤ cT S 6) with h | h
    · rw [cif_t h]
      exact ih.trans (List.sublist_append_left _ _)
    · rw [cif_f h]
      exact ih.append (List.Sublist.refl _)
def DuI (S : Nat → Int → Int) (R : Nat → List FV) (i : Nat) : Prop := CoreS (cDu S R i).1 (cDu S R i).2 ∧ Sq S (cDu S R i).1 ∧ ((cDu S R i).2 3 = R 3 ∧ kR (cDu S R i).2 4 = []) ∧ TKR (cDu S R i).2 + (cRm S (R 3) i).length ≤ TKR R + i
theorem IvvN.du {n : Int} {S : Nat → Int → Int} {R : Nat → List FV} (h : IvvN n S R) : ∀ i : Nat, i ≤ (R 3).length → DuI S R i
  | 0, _ => by
    unfold DuI
    rw [show ((0 : Nat) : Int) = 0 by rfl, cDu_0]
    exact ⟨h.1, Sq.refl, ⟨rfl, h.2.2.1.2⟩, by show TKR R + 0 ≤ _; omega⟩
  | i + 1, hi => by
    obtain ⟨a, b, ⟨c, c4⟩, d⟩ := h.du i (by omega)
    unfold DuI
    rw [show ((i + 1 : Nat) : Int) = (i : Int) + 1 by omega, cDu_succ (by omega), cRm_succ (by omega)]
    rcases Classical.em (gt (R 3) (i : Int) 3 ≤ cT S 6) with q | q
    · rw [cif_t q, cif_t q]
      generalize cDu S R (i : Int) = p at *
      have hw := (h.2.1 _ (gt_mem (L := R 3) (i := (i : Int)) (by omega) (by omega))).sq h.1.1 b.c
      have hr := a.1.tg hw.1
      have A := ArrS.ofAr (p := p) hr
      have AR := A.rows hr
      refine ⟨a.arr hw A, b.trans A.1, ⟨by rw [AR.1]; exact c, by rw [AR.2.2 4 (by decide) (by omega)]; exact c4⟩, ?_⟩
      have := AR.2.1
      omega
    · rw [cif_f q, cif_f q]
      refine ⟨a, b, ⟨c, c4⟩, ?_⟩
      rw [List.length_append]
      show TKR _ + (_ + 1) ≤ _
      omega
theorem TKR_le {R : Nat → List FV} {g : Int} (hg : 0 ≤ g ∧ g < 4) : (kR R g).length ≤ TKR R := by
  unfold TKR
  rcases g4 hg.1 hg.2 with q | q | q | q
  · rw [q]; omega
  · rw [q]; omega
  · rw [q]; omega
  · rw [q]; omega
theorem slB_le {S : Nat → Int → Int} (h : CfgS S) {g : Int} (hg : 0 ≤ g ∧ g < 4) : 1020 ≤ slB S g ∧ slB S g ≤ 1060 := by
  have := h.dp hg.1 hg.2
  unfold slB
  omega
theorem IvvN.duok {n : Int} {S : Nat → Int → Int} {R : Nat → List FV} (h : IvvN n S R) (hn : n ≤ 100) : DuOK S R := by
  intro i a b
  obtain ⟨j, rfl⟩ := Int.eq_ofNat_of_zero_le a
  obtain ⟨c, sq, ⟨r3, r4⟩, d⟩ := h.du j (by omega)
  refine ⟨c.1.ci, fun _ _ => rfl, fun _ => ?_⟩
  have hw := h.2.1 _ (gt_mem (L := R 3) (i := (j : Int)) (by omega) (by omega))
  have hs := slB_le h.1.1 (h.1.1.tg hw.1)
  refine ⟨c.1.fo hw.1, ⟨hw.2.1.1, by have := hw.2.1.2; omega⟩, fun g p q => ?_⟩
  by_cases g5 : g = 4
  · rw [g5, r4]; decide
  · have := TKR_le (R := (cDu S R (j : Int)).2) (g := g) ⟨p, by omega⟩
    have := h.2.2.1.1
    omega
theorem IvvN.br {n : Int} {S : Nat → Int → Int} {R : Nat → List FV} (h : IvvN n S R) : IvvN n (cBr S R).1 (cBr S R).2 ∧ Sq S (cBr S R).1 := by
  obtain ⟨c, sq, ⟨r3, r4⟩, d⟩ := h.du (R 3).length (Nat.le_refl _)
  have sub := cRm_sub (S := S) (L := R 3) (R 3).length (Nat.le_refl _)
  rw [List.take_length] at sub
  unfold cBr
  generalize cDu S R ((R 3).length : Nat) = p at *
  generalize cRm S (R 3) ((R 3).length : Nat) = M at *
  have x : Sq p.1 (upX p.1 3 1 (M.length : Nat)) := Sq.up3
  have e3 : upR p.2 3 M 3 = M := upR_eq
  have eT : TKR (upR p.2 3 M) = TKR p.2 := by unfold TKR; rw [kR_up3, kR_up3, kR_up3, kR_up3]
  refine ⟨⟨c.sqq x (fun g _ _ => kR_up3), fun v hv => ?_, ⟨?_, by dsimp only; rw [kR_up3]; exact r4⟩, fun u a b => ?_⟩, sq.trans x⟩
  · dsimp only at hv ⊢
    rw [e3] at hv
    exact (h.2.1 v (sub.subset hv)).sq h.1.1 (sq.trans x).c
  · dsimp only
    rw [e3, eT]
    have := h.2.2.1.1
    omega
  · dsimp only
    rw [e3, (sq.trans x).u]
    have := h.2.2.2 u a b
    have := sub.countP_le (p := pd fun v => v 0 = 5 + u)
    omega

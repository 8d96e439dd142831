/-! THE INVARIANTS: arrivals and releases keep them -/
theorem Sq.up67 {S : Nat → Int → Int} {g k v : Int} (hg : 0 ≤ g ∧ g < 4) (hk : k = 6 ∨ k = 7) : Sq S (upX S (11 + 7 * g.toNat) k v) :=
  fun m j a b c => upX_at (fun q => (c g.toNat (by omega)).1 ⟨q.1, by omega⟩)
theorem Sq.up13 {S : Nat → Int → Int} {g v : Int} (hg : 0 ≤ g ∧ g < 4) : Sq S (upX S (13 + 7 * g.toNat) 1 v) :=
  fun m j a b c => upX_at (fun q => (c g.toNat (by omega)).2 ⟨q.1, q.2⟩)
theorem Sq.up3 {S : Nat → Int → Int} {k v : Int} : Sq S (upX S 3 k v) := fun m j a b c => upX_at (fun q => b q.1)
theorem Sq.f6 {S : Nat → Int → Int} {v : FV} : Sq S (upF S 6 v) := fun m j a b c => congrFun (upF_ne (by omega) (by omega) (by omega)) j
theorem ArrS.ofAr {p : (Nat → Int → Int) × (Nat → List FV)} {v : FV} (hg : 0 ≤ cTgt p.1 (v 0) ∧ cTgt p.1 (v 0) < 4) : ArrS p.1 p.2 v (cAr p v).1 (cAr p v).2 := by
  rcases Classical.em (cLate p.1 (cTgt p.1 (v 0)) (v 0) (cSlt p.1 (cTgt p.1 (v 0)) (v 1) (cPer p.1 (v 0)))) with h | h
  · rw [cAr_1 rfl rfl h]
    exact ⟨Sq.up67 hg (Or.inl rfl), Or.inl rfl⟩
  · have h8 : cH p.1 (cTgt p.1 (v 0)) 8 < cSlt p.1 (cTgt p.1 (v 0)) (v 1) (cPer p.1 (v 0)) := Int.not_le.mp (fun q => h (Or.inr q))
    rcases Classical.em (cHas (kR p.2 (cTgt p.1 (v 0))) (cSlt p.1 (cTgt p.1 (v 0)) (v 1) (cPer p.1 (v 0))) v) with h2 | h2
    · rw [cAr_2 rfl rfl h h2]
      exact ⟨Sq.up67 hg (Or.inr rfl), Or.inl rfl⟩
    · rw [cAr_3 rfl rfl h h2]
      exact ⟨Sq.up13 hg, Or.inr ⟨h8, h2, rfl⟩⟩
theorem ArrS.ofB {S : Nat → Int → Int} {R : Nat → List FV} (hg : 0 ≤ cTgt S (SF S 6 0) ∧ cTgt S (SF S 6 0) < 4) : ArrS S R (SF S 6) (cArB S R).1 (cArB S R).2 := by
  unfold cArB
  dsimp only
  rcases Classical.em (cLate S (cTgt S (SF S 6 0)) (SF S 6 0) (cSlt S (cTgt S (SF S 6 0)) (SF S 6 1) (cPer S (SF S 6 0)))) with h | h
  · rw [cif_t h]
    exact ⟨Sq.up67 hg (Or.inl rfl), Or.inl rfl⟩
  · have h8 : cH S (cTgt S (SF S 6 0)) 8 < cSlt S (cTgt S (SF S 6 0)) (SF S 6 1) (cPer S (SF S 6 0)) := Int.not_le.mp (fun q => h (Or.inr q))
    rw [cif_f h]
    rcases Classical.em (cHas (kR R (cTgt S (SF S 6 0))) (cSlt S (cTgt S (SF S 6 0)) (SF S 6 1) (cPer S (SF S 6 0))) (SF S 6)) with h2 | h2
    · rw [cif_t h2]
      exact ⟨Sq.up67 hg (Or.inr rfl), Or.inl rfl⟩
    · rw [cif_f h2]
      exact ⟨Sq.f6.trans (Sq.up13 hg), Or.inr ⟨h8, h2, rfl⟩⟩
/-- how many frames are kept -/
def TKR (R : Nat → List FV) : Nat := (kR R 0).length + (kR R 1).length + (kR R 2).length + (kR R 3).length
theorem TKR_up {R : Nat → List FV} {g : Int} {L : List FV} (hg : 0 ≤ g ∧ g < 4) : TKR (upR R (13 + 7 * g.toNat) L) + (kR R g).length = TKR R + L.length := by
  have e : ∀ x : Int, 0 ≤ x → (kR (upR R (13 + 7 * g.toNat) L) x).length = if x = g then L.length else (kR R x).length := fun x hx => by
    by_cases q : x = g
    · rw [q, if_pos rfl, kR_eq]
    · rw [if_neg q, kR_ne hg.1 hx q]
  unfold TKR
  rw [e 0 (by decide), e 1 (by decide), e 2 (by decide), e 3 (by decide)]
  rcases g4 hg.1 hg.2 with q | q | q | q
  · rw [q, if_pos rfl, if_neg (by decide), if_neg (by decide), if_neg (by decide)]; omega
  · rw [q, if_neg (by decide), if_pos rfl, if_neg (by decide), if_neg (by decide)]; omega
  · rw [q, if_neg (by decide), if_neg (by decide), if_pos rfl, if_neg (by decide)]; omega
  · rw [q, if_neg (by decide), if_neg (by decide), if_neg (by decide), if_pos rfl]; omega
theorem ArrS.rows {S S' : Nat → Int → Int} {R R' : Nat → List FV} {v : FV} (x : ArrS S R v S' R') (hg : 0 ≤ cTgt S (v 0) ∧ cTgt S (v 0) < 4) : R' 3 = R 3 ∧ TKR R' ≤ TKR R + 1 ∧ (∀ y : Int, 0 ≤ y → y ≠ cTgt S (v 0) → kR R' y = kR R y) := by
  rcases x.2 with e | ⟨_, _, e⟩
  · rw [e]; exact ⟨rfl, by omega, fun _ _ _ => rfl⟩
  · rw [e]
    refine ⟨upR_ne (by omega), ?_, fun y hy hn => kR_ne hg.1 hy hn⟩
    have := TKR_up (R := R) (L := insA (kR R (cTgt S (v 0))) (cPlace (kR R (cTgt S (v 0))) (cSlt S (cTgt S (v 0)) (v 1) (cPer S (v 0)))) (ups (ups v 2 (cSlt S (cTgt S (v 0)) (v 1) (cPer S (v 0)))) 3 (cT S 6))) hg
    rw [insA_len] at this
    omega
theorem SF_upX {S : Nat → Int → Int} {n m : Nat} {k v : Int} (h0 : m ≠ n) (h1 : m + 1 ≠ n) (h2 : m + 2 ≠ n) : SF (upX S n k v) m = SF S m := by
  unfold SF
  rw [upX_ne h0, upX_ne h1, upX_ne h2]
/-- the first half of a release -/
theorem rl0_ne {S : Nat → Int → Int} {L : List FV} {g : Int} {m : Nat} (h : ¬ (6 ≤ m ∧ m ≤ 8)) (h2 : ¬ (11 + 7 * g.toNat ≤ m ∧ m ≤ 17 + 7 * g.toNat ∧ m ≠ 12 + 7 * g.toNat)) : cRl0 S L g m = S m := by
  unfold cRl0
  rw [upX_ne (by omega), upX_ne (by omega), upX_ne (by omega), upF_ne (by omega) (by omega) (by omega), upF_ne (by omega) (by omega) (by omega)]
theorem rl0_h {S : Nat → Int → Int} {L : List FV} {g k : Int} (h8 : k ≠ 8) (h5 : k ≠ 5) : cH (cRl0 S L g) g k = cH S g k := by
  unfold cH cRl0
  rw [upX_at (fun q => h8 q.2), upX_at (fun q => h5 q.2), upX_ne (by omega), upF_ne (by omega) (by omega) (by omega), upF_ne (by omega) (by omega) (by omega)]
theorem rl0_h8 {S : Nat → Int → Int} {L : List FV} {g : Int} : cH (cRl0 S L g) g 8 = (cB S L g (cT S 5)).1 1 := upX_is
theorem rl0_h5 {S : Nat → Int → Int} {L : List FV} {g : Int} : cH (cRl0 S L g) g 5 = wr (cH S g 5 + 1) := by
  unfold cRl0
  show upX _ _ _ _ (11 + 7 * g.toNat) 5 = _
  rw [upX_at (by omega)]
  exact upX_is
theorem rl0_b {S : Nat → Int → Int} {L : List FV} {g : Int} : SF (cRl0 S L g) 6 = nf (cB S L g (cT S 5)).1 := by
  unfold cRl0
  rw [SF6_upX (by omega), SF6_upX (by omega), SF6_upX (by omega), SF_upF]
theorem rl0_held {S : Nat → Int → Int} {L : List FV} {g : Int} : SF (cRl0 S L g) (15 + 7 * g.toNat) = nf (cB S L g (cT S 5)).2 := by
  unfold cRl0
  rw [SF_upX (by omega) (by omega) (by omega), SF_upX (by omega) (by omega) (by omega), SF_upX (by omega) (by omega) (by omega), SF_ne (by omega), SF_upF]
theorem rl0_t {S : Nat → Int → Int} {L : List FV} {g : Int} : cT (cRl0 S L g) = cT S := rl0_ne (by omega) (by omega)
theorem rl0_hx {S : Nat → Int → Int} {L : List FV} {g x : Int} (hg : 0 ≤ g) (hx : 0 ≤ x) (h : x ≠ g) : cH (cRl0 S L g) x = cH S x := rl0_ne (by omega) (by omega)
theorem rl0_c {S : Nat → Int → Int} {L : List FV} {g : Int} (hg : 0 ≤ g ∧ g < 4) : SqC S (cRl0 S L g) ∧ cU (cRl0 S L g) = cU S := by
  have hu : cU (cRl0 S L g) = cU S := by
    funext u
    exact rl0_ne (by omega) (by omega)
  refine ⟨⟨by rw [rl0_t]; exact ⟨rfl, rfl⟩, fun x a b => ?_, fun u _ _ => by rw [hu]; exact ⟨rfl, rfl⟩⟩, hu⟩
  have es : cSe (cRl0 S L g) x = cSe S x := rl0_ne (by omega) (by omega)
  by_cases q : x = g
  · rw [q] at es ⊢
    exact ⟨rl0_h (by decide) (by decide), rl0_h (by decide) (by decide), es⟩
  · have e : cH (cRl0 S L g) x = cH S x := rl0_hx hg.1 a q
    rw [e]; exact ⟨rfl, rfl, es⟩
/-- what the first half of a release keeps -/
theorem CoreS.half {S : Nat → Int → Int} {R : Nat → List FV} {g : Int} (h : CoreS S R) (hg : 0 ≤ g ∧ g < 4) (hl : 0 < (kR R g).length) :
    (∀ x : Int, 0 ≤ x → x < 4 → HubK (cRl0 S (kR R g) g) (upR R (13 + 7 * g.toNat) ((kR R g).drop (cEnd (kR R g) 0).toNat)) x) ∧ OutQ (cRl0 S (kR R g) g) ∧ (SF (cRl0 S (kR R g) g) 6 0 = g ∧ SF (cRl0 S (kR R g) g) 6 1 = gt (kR R g) 0 2 ∧ FlK (SF (cRl0 S (kR R g) g) 6)) ∧ (0 ≤ gt (kR R g) 0 2 ∧ gt (kR R g) 0 2 ≤ slB S g ∧ gt (kR R g) 0 2 % cSe S g 4 = 0 ∧ cH S g 8 < gt (kR R g) 0 2) ∧ cH (cRl0 S (kR R g) g) g 8 = gt (kR R g) 0 2 ∧ cH (cRl0 S (kR R g) g) g 5 = cH S g 5 + 1 := by
  obtain ⟨hc, ht, hh, ho, h7, hk⟩ := h
  obtain ⟨q1, q2, q3, q4, q5⟩ := hh g hg.1 hg.2
  have c5 : cT S 5 = ((5 : Nat) : Int) := hc.1.2
  have iv := cB_inv (S := S) (L := kR R g) (g := g) hl 5 (by decide)
  have fl := cB_fl (S := S) (g := g) (fun v hv => (q1 v hv).2.2.2.2.2.2) hl q4 5 (by decide)
  have b0 := rl0_b (S := S) (L := kR R g) (g := g)
  have bh := rl0_held (S := S) (L := kR R g) (g := g)
  have h8 := rl0_h8 (S := S) (L := kR R g) (g := g)
  have h5 := rl0_h5 (S := S) (L := kR R g) (g := g)
  rw [c5] at b0 bh h8
  rw [iv.1] at b0
  rw [iv.2.1] at bh
  rw [iv.2.2.2.1] at h8
  have k0 := q1 _ (gt_mem (L := kR R g) (i := 0) (by decide) (by omega))
  have dp := hc.dp hg.1 hg.2
  have hsl : 0 ≤ gt (kR R g) 0 2 := by have := k0.2.1; omega
  have c5' : cH (cRl0 S (kR R g) g) g 5 = cH S g 5 + 1 := by
    rw [h5]
    refine wr_id ⟨?_, ?_⟩
    · rcases q5 with z | z <;> omega
    · rcases q5 with z | z
      · omega
      · have := z.2.1; unfold slB at this; omega
  have sc := (rl0_c (S := S) (L := kR R g) hg).1
  have rE := cEnd_rng (L := kR R g) (st := 0) (by decide) (by omega)
  have e8 := k0.2.2.2.2.1
  have esb := k0.2.1.2.2.2
  refine ⟨fun x h0 h1 => ?_, ho.sq (by rw [rl0_t]) (by rw [rl0_t]) (by rw [rl0_t]; exact Int.le_refl _) (fun n hn => ?_), ⟨by rw [b0]; exact iv.2.2.1, by rw [b0]; exact iv.2.2.2.1, by rw [b0]; exact fl.1⟩, ⟨hsl, esb, k0.2.2.2.1, e8⟩, h8, c5'⟩
  · by_cases hx : x = g
    · rw [hx]
      refine ⟨fun v hv => ?_, ?_, ?_, ?_, Or.inr ?_⟩
      · rw [kR_eq] at hv
        obtain ⟨i, i0, i1, ie⟩ := mem_gt hv
        rw [List.length_drop] at i1
        have eg : gt ((kR R g).drop (cEnd (kR R g) 0).toNat) i = gt (kR R g) (i + cEnd (kR R g) 0) := by
          obtain ⟨n, rfl⟩ := Int.eq_ofNat_of_zero_le i0
          rw [gt_drop]
          congr 1
        have hlt := cEnd_out (i := i + cEnd (kR R g) 0) q2 (Int.le_refl 0) (by omega) (by omega)
        have hm := q1 _ (gt_mem (L := kR R g) (i := i + cEnd (kR R g) 0) (by omega) (by omega))
        rw [← ie, eg]
        exact hm.sq hg sc (by rw [h8]; exact hlt) (by rw [rl0_t]; exact Int.le_refl _)
      · rw [kR_eq]
        intro i j a b c
        rw [List.length_drop] at c
        have eg : ∀ i : Int, 0 ≤ i → gt ((kR R g).drop (cEnd (kR R g) 0).toNat) i = gt (kR R g) (i + cEnd (kR R g) 0) := fun i i0 => by
          obtain ⟨n, rfl⟩ := Int.eq_ofNat_of_zero_le i0
          rw [gt_drop]
          congr 1
        rw [eg i a, eg j (by omega)]
        exact q2 _ _ (by omega) (by omega) (by omega)
      · rw [kR_eq]
        exact q3.sublist (List.drop_sublist _ _)
      · rw [bh]; exact fl.2
      · rw [h8, c5', sc.sb hg]
        refine ⟨hsl, esb, ?_, ?_⟩
        · rcases q5 with z | z <;> omega
        · rcases q5 with z | z <;> omega
    · have e : cH (cRl0 S (kR R g) g) x = cH S x := rl0_hx hg.1 h0 hx
      refine (hh x h0 h1).sq ⟨h0, h1⟩ sc (by rw [e]) (by rw [e]) (by rw [rl0_t]; exact Int.le_refl _) (kR_ne hg.1 h0 hx) ?_
      unfold SF
      rw [rl0_ne (by omega) (by omega), rl0_ne (by omega) (by omega), rl0_ne (by omega) (by omega)]
  · unfold SF
    rw [rl0_ne (by omega) (by omega), rl0_ne (by omega) (by omega), rl0_ne (by omega) (by omega)]

/-! OUTPUTS as the law reads them -/
theorem bit5 {x j : Int} (hx : 0 ≤ x ∧ x < 32) (hj : 0 ≤ j ∧ j < 10) : (oAnd (oShr x j) 1 = 0 ∨ oAnd (oShr x j) 1 = 1) ∧ (5 ≤ j → oAnd (oShr x j) 1 = 0) := by
  have key : ∀ (x : Fin 32) (j : Fin 10), (oAnd (oShr (x.val : Int) (j.val : Int)) 1 = 0 ∨ oAnd (oShr (x.val : Int) (j.val : Int)) 1 = 1) ∧ (5 ≤ (j.val : Int) → oAnd (oShr (x.val : Int) (j.val : Int)) 1 = 0) := by decide +kernel
  have e := key ⟨x.toNat, by omega⟩ ⟨j.toNat, by omega⟩
  dsimp only at e
  rw [show ((x.toNat : Nat) : Int) = x by omega, show ((j.toNat : Nat) : Int) = j by omega] at e
  exact e
theorem bit_is {x j : Int} (hx : 0 ≤ x ∧ x < 32) (hj : 0 ≤ j ∧ j < 10) : oAnd (oShr x j) 1 = b2i (rBit x j) := by
  rcases (bit5 hx hj).1 with e | e
  · rw [b2i_f (fun q => by have q : oAnd (oShr x j) 1 = 1 := q; omega), e]
  · rw [b2i_t (show rBit x j from e), e]
theorem no5 {v : FV} (h : FlK v) {j : Int} (h5 : 5 ≤ j) (h10 : j < 10) : ¬ fHas v j := fun q => by
  have q : oAnd (oShr (v 5) j) 1 = 1 := q
  have := (bit5 h.1 (j := j) ⟨by omega, h10⟩).2 h5
  omega
noncomputable def rdN (v : FV) (u : Int) : Int := fI u (fun j n => n + b2i (fHas v j)) 0
noncomputable def flN (v : FV) (u : Int) : Int := fI u (fun j x => oOr x (cif (fHas v j) (v (16 + j)) 0)) 0
theorem rdN_succ {v : FV} {u : Int} (h : 0 ≤ u) : rdN v (u + 1) = rdN v u + b2i (fHas v u) := by unfold rdN; rw [fI_succ h]
theorem flN_succ {v : FV} {u : Int} (h : 0 ≤ u) : flN v (u + 1) = oOr (flN v u) (cif (fHas v u) (v (16 + u)) 0) := by unfold flN; rw [fI_succ h]
theorem ones5 {v : FV} (h : FlK v) : rOnes (v 5) = rdN v 5 := by
  unfold rOnes
  rw [fI_congr (g := fun j n => n + b2i (fHas v j)) (fun j a b n => by rw [bit_is h.1 ⟨a, b⟩])]
  show rdN v 10 = rdN v 5
  rw [show (10 : Int) = 5 + 1 + 1 + 1 + 1 + 1 by decide, rdN_succ (by decide), rdN_succ (by decide), rdN_succ (by decide), rdN_succ (by decide), rdN_succ (by decide)]
  rw [b2i_f (no5 h (by decide) (by decide)), b2i_f (no5 h (by decide) (by decide)), b2i_f (no5 h (by decide) (by decide)), b2i_f (no5 h (by decide) (by decide)), b2i_f (no5 h (by decide) (by decide))]
  omega
theorem oOr_0 {x : Int} (h : inR x) : oOr x 0 = x := by
  show (iS x ||| 0).toInt = x
  rw [Int32.or_zero, iS_toInt h]
theorem flg5 {v : FV} (h : FlK v) : fFlg v = oOr (flN v 5) (if 0 < v 4 then 16 else 0) := by
  unfold fFlg
  have hs : inR (if 0 < v 4 then 16 else 0) := by split <;> exact ⟨by decide, by decide⟩
  generalize (if 0 < v 4 then 16 else 0 : Int) = s at *
  have key : ∀ n : Nat, fI (n : Int) (fun u x => oOr x (cif (fHas v u) (v (16 + u)) 0)) s = oOr (flN v n) s ∧ inR (oOr (flN v n) s) := by
    intro n
    induction n with
    | zero =>
      refine ⟨?_, inR_toInt _⟩
      show s = oOr 0 s
      rw [oOr_c, oOr_0 hs]
    | succ n ih =>
      refine ⟨?_, inR_toInt _⟩
      rw [show ((n + 1 : Nat) : Int) = (n : Int) + 1 by omega, fI_succ (by omega), ih.1, flN_succ (by omega), oOr_a, oOr_a, oOr_c s]
  have e10 := (key 10).1
  rw [show ((10 : Nat) : Int) = 10 by rfl] at e10
  rw [e10]
  have z : ∀ j : Int, 5 ≤ j → j < 10 → flN v (j + 1) = flN v j := fun j a b => by
    rw [flN_succ (by omega), cif_f (no5 h a b)]
    refine oOr_0 ?_
    have : j = ((j - 1).toNat : Nat) + 1 := by omega
    rw [this, flN_succ (by omega)]
    exact inR_toInt _
  rw [show (10 : Int) = 5 + 1 + 1 + 1 + 1 + 1 by decide, z _ (by decide) (by decide), z _ (by decide) (by decide), z _ (by decide) (by decide), z _ (by decide) (by decide), z _ (by decide) (by decide)]
theorem rdF_is {v : FV} (h : FlK v) {u : Int} (hu : 0 ≤ u ∧ u < 5) : (fRd v u 1 = v (16 + u) ∧ 0 ≤ v (16 + u) ∧ v (16 + u) < 1024 ∧ b2i (fHas v u) = 1 ∧ cif (fHas v u) (v (16 + u)) 0 = v (16 + u)) ∨ (fRd v u 1 = -1000004 ∧ b2i (fHas v u) = 0 ∧ cif (fHas v u) (v (16 + u)) 0 = 0) := by
  unfold fRd
  by_cases q : fHas v u
  · rw [cif_t q, cif_t q, b2i_t q, if_neg (by decide)]
    have := h.2 u hu.1 hu.2 q
    exact Or.inl ⟨rfl, this.1, this.2, rfl, rfl⟩
  · rw [cif_f q, cif_f q, b2i_f q]
    exact Or.inr ⟨rfl, rfl, rfl⟩
theorem out_in {S : Nat → Int → Int} {k : Int} (h0 : 0 ≤ k) (h1 : k < cKept S) : qOutAt S k 0 = OFS S k 1 ∧ qOutAt S k 1 = OFS S k 3 ∧ qOutAt S k 2 = fFlg (OFS S k) ∧ qOutAt S k 3 = rOnes (OFS S k 5) ∧ qOutAt S k 4 = OFS S k 4 := by
  unfold qOutAt cOutF
  refine ⟨?_, ?_, ?_, ?_, ?_⟩
  all_goals rw [if_neg (fun z => z ⟨h0, by decide, by decide⟩), if_neg (fun z => z ⟨h0, h1⟩)]
  · rw [if_pos rfl]; rfl
  · rw [if_neg (by decide), if_pos rfl]; rfl
  · rw [if_neg (by decide), if_neg (by decide), if_pos rfl]; rfl
  · rw [if_neg (by decide), if_neg (by decide), if_neg (by decide), if_pos rfl]; rfl
  · rw [if_neg (by decide), if_neg (by decide), if_neg (by decide), if_neg (by decide)]; rfl
theorem out_no {S : Nat → Int → Int} (h : 0 ≤ cKept S) : qOutAt S (cKept S) 0 = -1000004 := by
  unfold qOutAt cOutF
  rw [if_neg (fun z => z ⟨h, by decide, by decide⟩), if_pos (fun z => by omega)]
theorem read_in {S : Nat → Int → Int} (hc : CfgS S) {k u : Int} (h0 : 0 ≤ k) (h1 : k < cKept S) (hu : 0 ≤ u ∧ u < 5) : qReadAt S k u 1 = fRd (OFS S k) u 1 := by
  have c5 := hc.1.2
  unfold qReadAt
  rw [if_neg (fun z => z ⟨h0, ⟨hu.1, by omega⟩, by decide, by decide⟩), if_neg (fun z => z ⟨h0, h1⟩)]
  rfl
theorem kept_is {n : Int} {S : Nat → Int → Int} {R : Nat → List FV} (h : IvvN n S R) : (0 ≤ cT S 7 ∧ cT S 7 ≤ 1061) ∧ (0 ≤ cKept S ∧ cKept S ≤ 8 ∧ cKept S ≤ cT S 7) ∧ (cKept S < 8 → cKept S = cT S 7) := by
  obtain ⟨⟨hc, h6, hh, ho, h7, hl⟩, _⟩ := h
  have s0 := slB_le hc (g := 0) ⟨by decide, by decide⟩
  have t7 : 0 ≤ cT S 7 ∧ cT S 7 ≤ 1061 := by
    rw [h7]
    rcases (hh 0 (by decide) (by decide)).2.2.2.2 with z | z <;> omega
  have e : cKept S = if cT S 7 ≤ 8 then cT S 7 else 8 := rfl
  refine ⟨t7, ?_, ?_⟩
  · rw [e]; split <;> omega
  · rw [e]; split <;> omega

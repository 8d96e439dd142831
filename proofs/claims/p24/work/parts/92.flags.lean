/-! THE INVARIANTS: the flags of what is built -/
theorem or10 {a b : Int} (ha : 0 ≤ a ∧ a < 1024) (hb : 0 ≤ b ∧ b < 1024) : 0 ≤ oOr a b ∧ oOr a b < 1024 := by
  obtain ⟨m, rfl⟩ := Int.eq_ofNat_of_zero_le ha.1
  obtain ⟨n, rfl⟩ := Int.eq_ofNat_of_zero_le hb.1
  have hm : (iS (m : Int)).toBitVec = BitVec.ofNat 32 m := BitVec.ofInt_natCast ..
  have hn : (iS (n : Int)).toBitVec = BitVec.ofNat 32 n := BitVec.ofInt_natCast ..
  have hl := Nat.or_lt_two_pow (n := 10) (x := m) (y := n) (by omega) (by omega)
  have e : oOr (m : Int) (n : Int) = ((m ||| n : Nat) : Int) := by
    unfold oOr
    show (iS (m : Int) ||| iS (n : Int)).toBitVec.toInt = _
    rw [Int32.toBitVec_or, hm, hn]
    have e2 : (BitVec.ofNat 32 m ||| BitVec.ofNat 32 n).toNat = m ||| n := by
      rw [BitVec.toNat_or, BitVec.toNat_ofNat, BitVec.toNat_ofNat, Nat.mod_eq_of_lt (by omega), Nat.mod_eq_of_lt (by omega)]
    rw [BitVec.toInt_eq_toNat_of_lt (by rw [e2]; omega), e2]
  rw [e]
  omega
theorem mask5 {m u : Int} (hm : 0 ≤ m ∧ m < 32) (hu : 0 ≤ u ∧ u < 5) : 0 ≤ oOr m (oShl 1 u) ∧ oOr m (oShl 1 u) < 32 := by
  have key : ∀ (x : Fin 32) (j : Fin 5), 0 ≤ oOr (x.val : Int) (oShl 1 (j.val : Int)) ∧ oOr (x.val : Int) (oShl 1 (j.val : Int)) < 32 := by decide +kernel
  have e := key ⟨m.toNat, by omega⟩ ⟨u.toNat, by omega⟩
  dsimp only at e
  rw [show ((m.toNat : Nat) : Int) = m by omega, show ((u.toNat : Nat) : Int) = u by omega] at e
  exact e
theorem FlK.put {v : FV} {u x f : Int} (h : FlK v) (hu : 0 ≤ u ∧ u < 5) (hf : 0 ≤ f ∧ f < 1024) : FlK (fPut v u x f) := by
  refine ⟨?_, fun k a b c => ?_⟩
  · rw [fPut_at, if_neg (by omega), if_neg (by omega), if_pos rfl]
    exact mask5 h.1 hu
  · by_cases q : k = u
    · rw [q, fPut_v.2]; exact hf
    · rw [(fPut_o ⟨hu.1, by omega⟩ ⟨a, by omega⟩ q).2]
      refine h.2 k a b ?_
      exact ((fPut_has ⟨hu.1, by omega⟩ ⟨a, by omega⟩).mp c).resolve_right q
theorem FlK.beg {v : FV} {c s : Int} : FlK (fBeg v c s) := by
  have e : fBeg v c s 5 = 0 := by unfold fBeg; exact ups_eq rfl
  refine ⟨by rw [e]; decide, fun u a b q => ?_⟩
  have q : rBit (fBeg v c s 5) u := q
  rw [e] at q
  exact absurd q (rBit_0 ⟨a, by omega⟩)
theorem FlK.stF {L : List FV} (hL : ∀ v, v ∈ L → FlK v) {c sl u : Int} {v : FV} (hv : FlK v) (hu : 0 ≤ u ∧ u < 5) : ∀ n : Nat, n ≤ L.length → FlK (cStF L c sl u n v)
  | 0, _ => by rw [show ((0 : Nat) : Int) = 0 by rfl, cStF_0]; exact hv
  | n + 1, hn => by
    rw [show ((n + 1 : Nat) : Int) = (n : Int) + 1 by omega, cStF_succ (by omega)]
    rcases Classical.em (cM1 L c sl u n) with h | h
    · rw [cif_t h]
      refine (FlK.stF hL hv hu n (by omega)).put hu ?_
      exact (hL _ (gt_mem (by omega) (by omega))).2 u hu.1 hu.2 h.2.2
    · rw [cif_f h]; exact FlK.stF hL hv hu n (by omega)
theorem pick_fl {L : List FV} (hL : ∀ v, v ∈ L → FlK v) {c u : Int} {ov : Prop} (hu : 0 ≤ u ∧ u < 5) : ∀ n : Nat, n ≤ L.length → ∀ q, q ∈ cPick L c u ov n → 0 ≤ q.2 ∧ q.2 < 1024
  | 0, _, q, h => by rw [show ((0 : Nat) : Int) = 0 by rfl, cPick_0] at h; exact absurd h List.not_mem_nil
  | n + 1, hn, q, h => by
    rw [show ((n + 1 : Nat) : Int) = (n : Int) + 1 by omega, cPick_succ (by omega)] at h
    rcases Classical.em (cM3 L c u ov n) with k | k
    · rw [cif_t k] at h
      rcases List.mem_append.mp h with z | z
      · exact pick_fl hL hu n (by omega) q z
      · rw [List.mem_singleton.mp z]
        exact (hL _ (gt_mem (by omega) (by omega))).2 u hu.1 hu.2 k.1.2
    · rw [cif_f k] at h
      exact pick_fl hL hu n (by omega) q h
theorem fold_or : ∀ (P : List (Int × Int)) (a : Int), (∀ q, q ∈ P → 0 ≤ q.2 ∧ q.2 < 1024) → 0 ≤ a ∧ a < 1024 → 0 ≤ P.foldl (fun a q => oOr a q.2) a ∧ P.foldl (fun a q => oOr a q.2) a < 1024
  | [], _, _, h => h
  | q :: P, a, hq, h => fold_or P (oOr a q.2) (fun x hx => hq x (List.mem_cons_of_mem _ hx)) (or10 h (hq q List.mem_cons_self))
theorem FlK.flF {S : Nat → Int → Int} {L : List FV} (hL : ∀ v, v ∈ L → FlK v) {g c u : Int} {e : Nat} (he : e ≤ L.length) {v : FV} (hv : FlK v) (hu : 0 ≤ u ∧ u < 5) : FlK (cFlF S L g c u e v) := by
  unfold cFlF
  rcases Classical.em (cPick L c u (cVal L c u e) e = []) with h | h
  · rw [cif_t h]; exact hv
  · rw [cif_f h]
    refine hv.put hu ?_
    unfold cFF pFl
    refine or10 (fold_or _ _ (pick_fl hL hu e he) (by decide)) ?_
    rcases Classical.em (((cPick L c u (cVal L c u e) e).length : Int) < cExp S g c (v 1)) with z | z
    · rw [cif_t z]; decide
    · rw [cif_f z]; decide
theorem FlK.heF {hd : FV} (hh : FlK hd) {u : Int} {v : FV} (hv : FlK v) (hu : 0 ≤ u ∧ u < 5) : FlK (cHeF hd u v) := by
  unfold cHeF
  rcases Classical.em (fHas hd u) with h | h
  · rw [cif_t h]
    exact hv.put hu (or10 (hh.2 u hu.1 hu.2 h) (by decide))
  · rw [cif_f h]; exact hv
theorem FlK.tk {S : Nat → Int → Int} {L : List FV} (hL : ∀ v, v ∈ L → FlK v) (hl : 0 < L.length) {g u : Int} {p : FV × FV} (h1 : FlK p.1) (h2 : FlK p.2) (hu : 0 ≤ u ∧ u < 5) : FlK (cTk S L g u p) := by
  have hE := cEnd_rng (L := L) (st := 0) (by omega) (by omega)
  obtain ⟨e, he⟩ := Int.eq_ofNat_of_zero_le (show 0 ≤ cEnd L 0 by omega)
  unfold cTk
  rw [he]
  split
  · exact h2.heF h1 hu
  · split
    · exact FlK.flF hL (by omega) h1 hu
    · exact FlK.stF hL h1 hu e (by omega)
theorem cB_fl {S : Nat → Int → Int} {L : List FV} {g : Int} (hL : ∀ v, v ∈ L → FlK v) (hl : 0 < L.length) (hh : FlK (SF S (15 + 7 * g.toNat))) : ∀ n : Nat, n ≤ 5 → FlK (cB S L g n).1 ∧ FlK (cB S L g n).2
  | 0, _ => by
    rw [show ((0 : Nat) : Int) = 0 by rfl, cB_0]
    exact ⟨FlK.beg, hh⟩
  | n + 1, hn => by
    obtain ⟨h1, h2⟩ := cB_fl (S := S) (g := g) hL hl hh n (by omega)
    rw [show ((n + 1 : Nat) : Int) = (n : Int) + 1 by omega, cB_succ (by omega)]
    generalize cB S L g n = p at *
    have ht := FlK.tk (S := S) (g := g) (u := n) hL hl h1 h2 (by omega)
    unfold cBs
    split
    · exact ⟨h1, h2⟩
    · rcases Classical.em (fHas (cTk S L g n p) n) with h | h
      · rw [cif_t h]
        exact ⟨ht, h2.put (by omega) (ht.2 n (by omega) (by omega) h)⟩
      · rw [cif_f h]
        exact ⟨ht.up (fun k hk => ups_ne (by omega)), h2⟩

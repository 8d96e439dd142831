/-! THE CLASS: rows of frames, read -/
def z0 : FV := fun _ => 0
def gt (L : List FV) (i : Int) : FV := L.getD i.toNat z0
def RowQ (h : HP) (r arr : Nat) (ad : Nat → Nat) (al cap : Nat) (L : List FV) : Prop :=
  (3 ≤ r ∧ r < hZ h ∧ hTy h r = (4, 0)) ∧ hR h r 0 = some arr ∧ (3 ≤ arr ∧ arr < hZ h ∧ hTy h arr = (200, cap) ∧ cap ≤ 1024) ∧ hI h r 1 = (L.length : Nat) ∧ (L.length ≤ al ∧ al ≤ cap) ∧ (∀ i : Nat, i < al → hR h arr i = some (ad i) ∧ FrP h (ad i)) ∧ (∀ i : Nat, al ≤ i → i < cap → hR h arr i = none) ∧ (∀ i j : Nat, i < al → j < al → ad i = ad j → i = j) ∧ ∀ i : Nat, i < L.length → fV h (ad i) = gt L i
theorem RowQ.ty {h : HP} {r arr : Nat} {ad : Nat → Nat} {al cap : Nat} {L : List FV} (W : RowQ h r arr ad al cap L) : (hTy h r).1 = 3 + 1 := by rw [W.1.2.2]
theorem RowQ.len {h : HP} {r arr : Nat} {ad : Nat → Nat} {al cap : Nat} {L : List FV} (W : RowQ h r arr ad al cap L) : (L.length : Int) ≤ 1024 := by have := W.2.2.1; have := W.2.2.2.2.1; omega
section ZR
variable {d y pos p' : Nat} {ls : Ls} {h : HP} {Q : Option AV → HP → Prop} {C : List Ins} {r arr : Nat} {ad : Nat → Nat} {al cap : Nat} {L : List FV} {st : List AV}
theorem z_rf (W : RowQ h r arr ad al cap L) (hC : cod y = C) {idx : Nat} {v : Int} {w : Nat} {sw : List Nat} (hi : C[pos]? = some (.getfield idx, v, 3, 0, w, sw)) (hp : pos + 1 = p') (kk : At d y p' ls (.inr (some arr) :: st) h Q) : At d y pos ls (.inr (some r) :: st) h Q :=
  x_getR hC hi hp rfl W.ty W.2.1 kk
theorem z_rs (W : RowQ h r arr ad al cap L) (hC : cod y = C) {idx : Nat} {v : Int} {w : Nat} {sw : List Nat} (hi : C[pos]? = some (.getfield idx, v, 3, 1, w, sw)) (hp : pos + 1 = p') (kk : At d y p' ls (.inl ((L.length : Nat) : Int) :: st) h Q) : At d y pos ls (.inr (some r) :: st) h Q := by
  refine x_getI hC hi hp rfl W.ty ?_
  rw [show hI h r ((1 : Nat) : Int) = (L.length : Nat) from W.2.2.2.1]
  exact kk
theorem z_ra (W : RowQ h r arr ad al cap L) (hC : cod y = C) {i : Ins} {j : Int} (hi : C[pos]? = some i) (hI0 : i.1 = .aaload) (hp : pos + 1 = p') (h0 : 0 ≤ j) (h1 : j < (L.length : Nat)) (kk : FrP h (ad j.toNat) → fV h (ad j.toNat) = gt L j → At d y p' ls (.inr (some (ad j.toNat)) :: st) h Q) : At d y pos ls (.inl j :: .inr (some arr) :: st) h Q := by
  have hl := W.2.2.2.2.1
  have h2 := W.2.2.2.2.2.1 j.toNat (by omega)
  refine x_aald (t := 200) (n := cap) (q := some (ad j.toNat)) hC hi hI0 hp W.2.2.1.2.2.1 rfl h0 (by omega) ?_ (kk h2.2 ?_)
  · rw [← h2.1, Int.toNat_of_nonneg h0]
  · have := W.2.2.2.2.2.2.2.2 j.toNat (by omega)
    rw [this, Int.toNat_of_nonneg h0]
end ZR
theorem gt_nat {L : List FV} {i : Nat} (h : i < L.length) : gt L (i : Int) = L[i] := by
  unfold gt
  rw [Int.toNat_natCast, List.getD_eq_getElem?_getD, List.getElem?_eq_getElem h]; rfl
noncomputable def cFrom (L : List FV) (c : Int) : Int := fI (L.length : Nat) (fun i n => n + b2i (gt L i 0 = c)) 0
def tw (L : List FV) (e sl : Int) : Int := (((L.drop e.toNat).takeWhile (fun v => decide (v 2 = sl))).length : Nat)
theorem tw_step {L : List FV} {e sl : Int} (h0 : 0 ≤ e) (h1 : e < (L.length : Nat)) (h2 : gt L e 2 = sl) : tw L e sl = 1 + tw L (e + 1) sl := by
  obtain ⟨n, rfl⟩ := Int.eq_ofNat_of_zero_le h0
  have hn : n < L.length := by omega
  unfold tw
  rw [Int.toNat_natCast, show ((n : Int) + 1).toNat = n + 1 by omega, List.drop_eq_getElem_cons hn, List.takeWhile_cons]
  have e1 : gt L (n : Int) = L[n] := gt_nat hn
  rw [if_pos (by rw [← e1]; exact decide_eq_true h2), List.length_cons]
  omega
theorem tw_stop {L : List FV} {e sl : Int} (h0 : 0 ≤ e) (h2 : (L.length : Nat) ≤ e ∨ ¬ gt L e 2 = sl) : tw L e sl = 0 := by
  obtain ⟨n, rfl⟩ := Int.eq_ofNat_of_zero_le h0
  unfold tw
  rw [Int.toNat_natCast]
  by_cases hn : n < L.length
  · rw [List.drop_eq_getElem_cons hn, List.takeWhile_cons]
    have e1 : gt L (n : Int) = L[n] := gt_nat hn
    rw [if_neg (by rw [← e1]; intro q; have := of_decide_eq_true q; rcases h2 with h2 | h2; omega; exact h2 this)]
    rfl
  · rw [List.drop_eq_nil_of_le (by omega)]; rfl
theorem tw_rng {L : List FV} {e sl : Int} (h0 : 0 ≤ e) (h1 : e ≤ (L.length : Nat)) : 0 ≤ tw L e sl ∧ e + tw L e sl ≤ (L.length : Nat) := by
  unfold tw
  have h2 := (List.takeWhile_sublist (p := fun v : FV => decide (v 2 = sl)) (l := L.drop e.toNat)).length_le
  rw [List.length_drop] at h2
  omega
/-- where the slot ends whose first frame is at st -/
def cEnd (L : List FV) (st : Int) : Int := st + tw L st (gt L st 2)
theorem cEnd_rng {L : List FV} {st : Int} (h0 : 0 ≤ st) (h1 : st < (L.length : Nat)) : st < cEnd L st ∧ cEnd L st ≤ (L.length : Nat) := by
  unfold cEnd
  have := tw_step h0 h1 rfl
  have := tw_rng (L := L) (e := st + 1) (sl := gt L st 2) (by omega) (by omega)
  omega
def cSt (L : List FV) : Nat → Int → Int
  | 0, st => st
  | n + 1, st => if st < (L.length : Nat) then cSt L n (cEnd L st) else st
theorem cSt_end {L : List FV} {st : Int} (h : (L.length : Nat) ≤ st) : ∀ n, cSt L n st = st
  | 0 => rfl
  | n + 1 => by rw [cSt, if_neg (by omega)]
/-- where the slot with this index starts, -1 if there are fewer -/
def cStart (L : List FV) (x : Int) : Int := if cSt L x.toNat 0 < (L.length : Nat) then cSt L x.toNat 0 else -1
noncomputable def cSlots (L : List FV) : Int := fI (L.length : Nat) (fun i n => n + b2i (i = 0 ∨ ¬ gt L i 2 = gt L (i - 1) 2)) 0
def cPl (L : List FV) (sl : Int) : Nat → Int
  | 0 => 0
  | n + 1 => if sl < gt L n 2 then cPl L sl n else ((n + 1 : Nat) : Int)
def cPlace (L : List FV) (sl : Int) : Int := cPl L sl L.length
theorem cPl_rng {L : List FV} {sl : Int} : ∀ n, 0 ≤ cPl L sl n ∧ cPl L sl n ≤ (n : Nat)
  | 0 => by rw [cPl]; omega
  | n + 1 => by
    rw [cPl]
    have := cPl_rng (L := L) (sl := sl) n
    split <;> omega
def cHas (L : List FV) (sl : Int) (v : FV) : Prop := ∃ i : Int, 0 ≤ i ∧ i < (L.length : Nat) ∧ gt L i 2 = sl ∧ gt L i 0 = v 0 ∧ gt L i 1 = v 1
set_option maxRecDepth 20000 in
theorem lp_R_from {d : Nat} {h : HP} {r arr : Nat} {ad : Nat → Nat} {al cap : Nat} {L : List FV} (W : RowQ h r arr ad al cap L) {c : Int} {Q : Int → HP → Prop} (K : Q (cFrom L c) h) (k : Nat) : ∀ (i : Int), ((L.length : Nat) - i).toNat < k → (0 ≤ i ∧ i ≤ (L.length : Nat)) → (0 ≤ fI i (fun i n => n + b2i (gt L i 0 = c)) 0 ∧ fI i (fun i n => n + b2i (gt L i 0 = c)) 0 ≤ i) → At (d) 94 4 [some (.inr (some r)), some (.inl c), some (.inl (fI i (fun i n => n + b2i (gt L i 0 = c)) 0)), some (.inl i)] [] h (fun v h' => ∃ x, v = some (.inl x) ∧ Q x h') := by
  have hC : cod 94 = c_R_framesFrom := rfl
  induction k with
  | zero =>
    intro i hk
    exact absurd hk (Nat.not_lt_zero _)
  | succ k ih =>
    intro i hk hI0 hI1
    have hl := W.len
    have e := fI_succ (g := fun i n => n + b2i (gt L i 0 = c)) (a := (0 : Int)) hI0.1
    refine x_1 (p' := 5) hC rfl rfl rfl rfl ?_
    refine x_1 (p' := 6) hC rfl rfl rfl rfl ?_
    refine z_rs (p' := 7) W hC rfl rfl ?_
    refine x_icge (p' := 8) hC rfl rfl (fun c7 => ?_) (fun c7 => ?_)
    · refine x_1 (p' := 24) hC rfl rfl rfl rfl ?_
      refine x_iret hC rfl rfl rfl ⟨_, rfl, ?_⟩
      refine eqK K ?_
      unfold cFrom
      rw [show ((L.length : Nat) : Int) = i by omega]
    · refine x_1 (p' := 9) hC rfl rfl rfl rfl ?_
      refine x_1 (p' := 10) hC rfl rfl rfl rfl ?_
      refine z_rf (p' := 11) W hC rfl rfl ?_
      refine x_1 (p' := 12) hC rfl rfl rfl rfl ?_
      refine z_ra (p' := 13) W hC rfl rfl rfl (by omega) (by omega) (fun hF12 hV12 => ?_)
      refine z_fg (p' := 14) (kz := 0) hF12 hV12 hC rfl rfl rfl rfl ?_
      refine x_1 (p' := 15) hC rfl rfl rfl rfl ?_
      refine x_icne (p' := 16) hC rfl rfl (fun c15 => ?_) (fun c15 => ?_)
      · rw [b2i_f (by omega)] at e
        refine x_1 (p' := 19) hC rfl rfl rfl rfl ?_
        refine x_add (p' := 20) hC rfl rfl rfl (⟨by omega, by omega⟩) ?_
        refine x_stI2 (p' := 21) hC rfl rfl rfl ?_
        refine x_inc3 (p' := 22) hC rfl rfl (⟨by omega, by omega⟩) ?_
        refine x_1 (p' := 4) hC rfl rfl rfl rfl ?_
        rw [← e]
        exact ih _ (by omega) (by omega) (by omega)
      · rw [b2i_t (by omega)] at e
        refine x_1 (p' := 17) hC rfl rfl rfl rfl ?_
        refine x_1 (p' := 19) hC rfl rfl rfl rfl ?_
        refine x_add (p' := 20) hC rfl rfl rfl (⟨by omega, by omega⟩) ?_
        refine x_stI2 (p' := 21) hC rfl rfl rfl ?_
        refine x_inc3 (p' := 22) hC rfl rfl (⟨by omega, by omega⟩) ?_
        refine x_1 (p' := 4) hC rfl rfl rfl rfl ?_
        rw [← e]
        exact ih _ (by omega) (by omega) (by omega)
set_option maxRecDepth 20000 in
set_option maxHeartbeats 2000000 in
theorem sp_R_framesFrom {d : Nat} {h : HP} {r arr : Nat} {ad : Nat → Nat} {al cap : Nat} {L : List FV} (W : RowQ h r arr ad al cap L) {c : Int} {Q : Int → HP → Prop} (K : Q (cFrom L c) h) : CaI d 94 [.inr (some r), .inl c] h Q := by
  have hC : cod 94 = c_R_framesFrom := rfl
  refine CaI.start rfl ?_
  refine x_1 (p' := 1) hC rfl rfl rfl rfl ?_
  refine x_stI2 (p' := 2) hC rfl rfl rfl ?_
  refine x_1 (p' := 3) hC rfl rfl rfl rfl ?_
  refine x_stI3 (p' := 4) hC rfl rfl rfl ?_
  exact lp_R_from W K _ 0 (Nat.lt_succ_self _) (by omega) (by rw [fI_0]; omega)
set_option maxRecDepth 20000 in
theorem lp_R_end {d : Nat} {h : HP} {r arr : Nat} {ad : Nat → Nat} {al cap : Nat} {L : List FV} (W : RowQ h r arr ad al cap L) {s0 : Int} (hs0 : 0 ≤ s0 ∧ s0 < (L.length : Nat)) {Q : Int → HP → Prop} (K : Q (cEnd L s0) h) (k : Nat) : ∀ (e : Int), ((L.length : Nat) - e).toNat < k → (0 ≤ e ∧ e ≤ (L.length : Nat)) → (e + tw L e (gt L s0 2) = cEnd L s0) → At (d) 95 2 [some (.inr (some r)), some (.inl s0), some (.inl e)] [] h (fun v h' => ∃ x, v = some (.inl x) ∧ Q x h') := by
  have hC : cod 95 = c_R_slotEnd := rfl
  induction k with
  | zero =>
    intro e hk
    exact absurd hk (Nat.not_lt_zero _)
  | succ k ih =>
    intro e hk hI0 hI1
    have hl := W.len
    refine x_1 (p' := 3) hC rfl rfl rfl rfl ?_
    refine x_1 (p' := 4) hC rfl rfl rfl rfl ?_
    refine z_rs (p' := 5) W hC rfl rfl ?_
    refine x_icge (p' := 6) hC rfl rfl (fun c5 => ?_) (fun c5 => ?_)
    · refine x_1 (p' := 20) hC rfl rfl rfl rfl ?_
      refine x_iret hC rfl rfl rfl ⟨_, rfl, ?_⟩
      have := tw_stop (L := L) (sl := gt L s0 2) hI0.1 (by first | exact Or.inl (by omega) | exact Or.inr c16)
      exact eqK K (by omega)
    · refine x_1 (p' := 7) hC rfl rfl rfl rfl ?_
      refine z_rf (p' := 8) W hC rfl rfl ?_
      refine x_1 (p' := 9) hC rfl rfl rfl rfl ?_
      refine z_ra (p' := 10) W hC rfl rfl rfl (by omega) (by omega) (fun hF9 hV9 => ?_)
      refine z_fg (p' := 11) (kz := 2) hF9 hV9 hC rfl rfl rfl rfl ?_
      refine x_1 (p' := 12) hC rfl rfl rfl rfl ?_
      refine z_rf (p' := 13) W hC rfl rfl ?_
      refine x_1 (p' := 14) hC rfl rfl rfl rfl ?_
      refine z_ra (p' := 15) W hC rfl rfl rfl (by omega) (by omega) (fun hF14 hV14 => ?_)
      refine z_fg (p' := 16) (kz := 2) hF14 hV14 hC rfl rfl rfl rfl ?_
      refine x_icne (p' := 17) hC rfl rfl (fun c16 => ?_) (fun c16 => ?_)
      · refine x_1 (p' := 20) hC rfl rfl rfl rfl ?_
        refine x_iret hC rfl rfl rfl ⟨_, rfl, ?_⟩
        have := tw_stop (L := L) (sl := gt L s0 2) hI0.1 (by first | exact Or.inl (by omega) | exact Or.inr c16)
        exact eqK K (by omega)
      · refine x_inc2 (p' := 18) hC rfl rfl (⟨by omega, by omega⟩) ?_
        refine x_1 (p' := 2) hC rfl rfl rfl rfl ?_
        have := tw_step hI0.1 (by omega) c16
        exact ih _ (by omega) (by omega) (by omega)
set_option maxRecDepth 20000 in
set_option maxHeartbeats 2000000 in
theorem sp_R_slotEnd {d : Nat} {h : HP} {r arr : Nat} {ad : Nat → Nat} {al cap : Nat} {L : List FV} (W : RowQ h r arr ad al cap L) {s0 : Int} (hs0 : 0 ≤ s0 ∧ s0 < (L.length : Nat)) {Q : Int → HP → Prop} (K : Q (cEnd L s0) h) : CaI d 95 [.inr (some r), .inl s0] h Q := by
  have hC : cod 95 = c_R_slotEnd := rfl
  refine CaI.start rfl ?_
  refine x_1 (p' := 1) hC rfl rfl rfl rfl ?_
  refine x_stI2 (p' := 2) hC rfl rfl rfl ?_
  exact lp_R_end W hs0 K _ s0 (Nat.lt_succ_self _) (by omega) rfl
set_option maxRecDepth 20000 in
theorem lp_R_start {d : Nat} {h : HP} {r arr : Nat} {ad : Nat → Nat} {al cap : Nat} {L : List FV} (W : RowQ h r arr ad al cap L) {x : Int} (hx : 0 ≤ x ∧ x ≤ 2147483647) {Q : Int → HP → Prop} (K : Q (cStart L x) h) (k : Nat) : ∀ (s : Int) (i : Int), (x - i).toNat < k → (0 ≤ i ∧ i ≤ x) → (0 ≤ s ∧ s ≤ (L.length : Nat)) → (cSt L (x - i).toNat s = cSt L x.toNat 0) → At (d + 1) 96 4 [some (.inr (some r)), some (.inl x), some (.inl s), some (.inl i)] [] h (fun v h' => ∃ x, v = some (.inl x) ∧ Q x h') := by
  have hC : cod 96 = c_R_slotStart := rfl
  induction k with
  | zero =>
    intro s i hk
    exact absurd hk (Nat.not_lt_zero _)
  | succ k ih =>
    intro s i hk hI0 hI1 hI2
    have hl := W.len
    refine x_1 (p' := 5) hC rfl rfl rfl rfl ?_
    refine x_1 (p' := 6) hC rfl rfl rfl rfl ?_
    refine x_icge (p' := 7) hC rfl rfl (fun c6 => ?_) (fun c6 => ?_)
    · refine x_1 (p' := 18) hC rfl rfl rfl rfl ?_
      refine x_1 (p' := 19) hC rfl rfl rfl rfl ?_
      refine z_rs (p' := 20) W hC rfl rfl ?_
      refine x_icge (p' := 21) hC rfl rfl (fun c20 => ?_) (fun c20 => ?_)
      · refine x_1 (p' := 24) hC rfl rfl rfl rfl ?_
        refine x_iret hC rfl rfl rfl ⟨_, rfl, ?_⟩
        refine eqK K ?_
        have e : cSt L x.toNat 0 = s := by
          rw [← hI2]
          first
            | exact cSt_end (by omega) _
            | (rw [show (x - i).toNat = 0 by omega]; rfl)
        unfold cStart
        rw [e]
        first
          | exact if_pos (by omega)
          | exact if_neg (by omega)
      · refine x_1 (p' := 22) hC rfl rfl rfl rfl ?_
        refine x_1 (p' := 24) hC rfl rfl rfl rfl ?_
        refine x_iret hC rfl rfl rfl ⟨_, rfl, ?_⟩
        refine eqK K ?_
        have e : cSt L x.toNat 0 = s := by
          rw [← hI2]
          first
            | exact cSt_end (by omega) _
            | (rw [show (x - i).toNat = 0 by omega]; rfl)
        unfold cStart
        rw [e]
        first
          | exact if_pos (by omega)
          | exact if_neg (by omega)
    · refine x_1 (p' := 8) hC rfl rfl rfl rfl ?_
      refine x_1 (p' := 9) hC rfl rfl rfl rfl ?_
      refine z_rs (p' := 10) W hC rfl rfl ?_
      refine x_icge (p' := 11) hC rfl rfl (fun c10 => ?_) (fun c10 => ?_)
      · refine x_1 (p' := 18) hC rfl rfl rfl rfl ?_
        refine x_1 (p' := 19) hC rfl rfl rfl rfl ?_
        refine z_rs (p' := 20) W hC rfl rfl ?_
        refine x_icge (p' := 21) hC rfl rfl (fun c20 => ?_) (fun c20 => ?_)
        · refine x_1 (p' := 24) hC rfl rfl rfl rfl ?_
          refine x_iret hC rfl rfl rfl ⟨_, rfl, ?_⟩
          refine eqK K ?_
          have e : cSt L x.toNat 0 = s := by
            rw [← hI2]
            first
              | exact cSt_end (by omega) _
              | (rw [show (x - i).toNat = 0 by omega]; rfl)
          unfold cStart
          rw [e]
          first
            | exact if_pos (by omega)
            | exact if_neg (by omega)
        · refine x_1 (p' := 22) hC rfl rfl rfl rfl ?_
          refine x_1 (p' := 24) hC rfl rfl rfl rfl ?_
          refine x_iret hC rfl rfl rfl ⟨_, rfl, ?_⟩
          refine eqK K ?_
          have e : cSt L x.toNat 0 = s := by
            rw [← hI2]
            first
              | exact cSt_end (by omega) _
              | (rw [show (x - i).toNat = 0 by omega]; rfl)
          unfold cStart
          rw [e]
          first
            | exact if_pos (by omega)
            | exact if_neg (by omega)
      · refine x_1 (p' := 12) hC rfl rfl rfl rfl ?_
        refine x_1 (p' := 13) hC rfl rfl rfl rfl ?_
        refine x_cIV1 (p' := 14) (n := 95) hC rfl rfl rfl rfl rfl (W.ty) ?_
        refine sp_R_slotEnd W (by omega) ?_
        have hE := cEnd_rng (L := L) (st := s) (by omega) (by omega)
        refine x_stI2 (p' := 15) hC rfl rfl rfl ?_
        refine x_inc3 (p' := 16) hC rfl rfl (⟨by omega, by omega⟩) ?_
        refine x_1 (p' := 4) hC rfl rfl rfl rfl ?_
        refine ih _ _ (by omega) (by omega) (by omega) ?_
        rw [show (x - i).toNat = (x - (i + 1)).toNat + 1 by omega, cSt, if_pos (by omega)] at hI2
        exact hI2
set_option maxRecDepth 20000 in
set_option maxHeartbeats 2000000 in
theorem sp_R_slotStart {d : Nat} {h : HP} {r arr : Nat} {ad : Nat → Nat} {al cap : Nat} {L : List FV} (W : RowQ h r arr ad al cap L) {x : Int} (hx : 0 ≤ x ∧ x ≤ 2147483647) {Q : Int → HP → Prop} (K : Q (cStart L x) h) : CaI (d + 1) 96 [.inr (some r), .inl x] h Q := by
  have hC : cod 96 = c_R_slotStart := rfl
  refine CaI.start rfl ?_
  refine x_1 (p' := 1) hC rfl rfl rfl rfl ?_
  refine x_stI2 (p' := 2) hC rfl rfl rfl ?_
  refine x_1 (p' := 3) hC rfl rfl rfl rfl ?_
  refine x_stI3 (p' := 4) hC rfl rfl rfl ?_
  exact lp_R_start W hx K _ 0 0 (Nat.lt_succ_self _) (by omega) (by omega) (by rw [show x - 0 = x by omega])
set_option maxRecDepth 20000 in
theorem lp_R_slots {d : Nat} {h : HP} {r arr : Nat} {ad : Nat → Nat} {al cap : Nat} {L : List FV} (W : RowQ h r arr ad al cap L) {Q : Int → HP → Prop} (K : Q (cSlots L) h) (k : Nat) : ∀ (i : Int), ((L.length : Nat) - i).toNat < k → (0 ≤ i ∧ i ≤ (L.length : Nat)) → (0 ≤ fI i (fun i n => n + b2i (i = 0 ∨ ¬ gt L i 2 = gt L (i - 1) 2)) 0 ∧ fI i (fun i n => n + b2i (i = 0 ∨ ¬ gt L i 2 = gt L (i - 1) 2)) 0 ≤ i) → At (d) 97 4 [some (.inr (some r)), some (.inl (fI i (fun i n => n + b2i (i = 0 ∨ ¬ gt L i 2 = gt L (i - 1) 2)) 0)), some (.inl i)] [] h (fun v h' => ∃ x, v = some (.inl x) ∧ Q x h') := by
  have hC : cod 97 = c_R_slots := rfl
  induction k with
  | zero =>
    intro i hk
    exact absurd hk (Nat.not_lt_zero _)
  | succ k ih =>
    intro i hk hI0 hI1
    have hl := W.len
    have e := fI_succ (g := fun i n => n + b2i (i = 0 ∨ ¬ gt L i 2 = gt L (i - 1) 2)) (a := (0 : Int)) hI0.1
    refine x_1 (p' := 5) hC rfl rfl rfl rfl ?_
    refine x_1 (p' := 6) hC rfl rfl rfl rfl ?_
    refine z_rs (p' := 7) W hC rfl rfl ?_
    refine x_icge (p' := 8) hC rfl rfl (fun c7 => ?_) (fun c7 => ?_)
    · refine x_1 (p' := 32) hC rfl rfl rfl rfl ?_
      refine x_iret hC rfl rfl rfl ⟨_, rfl, ?_⟩
      refine eqK K ?_
      unfold cSlots
      rw [show ((L.length : Nat) : Int) = i by omega]
    · refine x_1 (p' := 9) hC rfl rfl rfl rfl ?_
      refine x_1 (p' := 10) hC rfl rfl rfl rfl ?_
      refine x_ifeq (p' := 11) hC rfl rfl (fun c10 => ?_) (fun c10 => ?_)
      · rw [b2i_t (by omega)] at e
        refine x_1 (p' := 25) hC rfl rfl rfl rfl ?_
        refine x_1 (p' := 27) hC rfl rfl rfl rfl ?_
        refine x_add (p' := 28) hC rfl rfl rfl (⟨by omega, by omega⟩) ?_
        refine x_stI1 (p' := 29) hC rfl rfl rfl ?_
        refine x_inc2 (p' := 30) hC rfl rfl (⟨by omega, by omega⟩) ?_
        refine x_1 (p' := 4) hC rfl rfl rfl rfl ?_
        rw [← e]
        exact ih _ (by omega) (by omega) (by omega)
      · refine x_1 (p' := 12) hC rfl rfl rfl rfl ?_
        refine z_rf (p' := 13) W hC rfl rfl ?_
        refine x_1 (p' := 14) hC rfl rfl rfl rfl ?_
        refine z_ra (p' := 15) W hC rfl rfl rfl (by omega) (by omega) (fun hF14 hV14 => ?_)
        refine z_fg (p' := 16) (kz := 2) hF14 hV14 hC rfl rfl rfl rfl ?_
        refine x_1 (p' := 17) hC rfl rfl rfl rfl ?_
        refine z_rf (p' := 18) W hC rfl rfl ?_
        refine x_1 (p' := 19) hC rfl rfl rfl rfl ?_
        refine x_1 (p' := 20) hC rfl rfl rfl rfl ?_
        refine x_sub (p' := 21) hC rfl rfl rfl (⟨by omega, by omega⟩) ?_
        refine z_ra (p' := 22) W hC rfl rfl rfl (by omega) (by omega) (fun hF21 hV21 => ?_)
        refine z_fg (p' := 23) (kz := 2) hF21 hV21 hC rfl rfl rfl rfl ?_
        refine x_iceq (p' := 24) hC rfl rfl (fun c23 => ?_) (fun c23 => ?_)
        · rw [b2i_f (by omega)] at e
          refine x_1 (p' := 27) hC rfl rfl rfl rfl ?_
          refine x_add (p' := 28) hC rfl rfl rfl (⟨by omega, by omega⟩) ?_
          refine x_stI1 (p' := 29) hC rfl rfl rfl ?_
          refine x_inc2 (p' := 30) hC rfl rfl (⟨by omega, by omega⟩) ?_
          refine x_1 (p' := 4) hC rfl rfl rfl rfl ?_
          rw [← e]
          exact ih _ (by omega) (by omega) (by omega)
        · rw [b2i_t (by omega)] at e
          refine x_1 (p' := 25) hC rfl rfl rfl rfl ?_
          refine x_1 (p' := 27) hC rfl rfl rfl rfl ?_
          refine x_add (p' := 28) hC rfl rfl rfl (⟨by omega, by omega⟩) ?_
          refine x_stI1 (p' := 29) hC rfl rfl rfl ?_
          refine x_inc2 (p' := 30) hC rfl rfl (⟨by omega, by omega⟩) ?_
          refine x_1 (p' := 4) hC rfl rfl rfl rfl ?_
          rw [← e]
          exact ih _ (by omega) (by omega) (by omega)
set_option maxRecDepth 20000 in
set_option maxHeartbeats 2000000 in
theorem sp_R_slots {d : Nat} {h : HP} {r arr : Nat} {ad : Nat → Nat} {al cap : Nat} {L : List FV} (W : RowQ h r arr ad al cap L) {Q : Int → HP → Prop} (K : Q (cSlots L) h) : CaI d 97 [.inr (some r)] h Q := by
  have hC : cod 97 = c_R_slots := rfl
  refine CaI.start rfl ?_
  refine x_1 (p' := 1) hC rfl rfl rfl rfl ?_
  refine x_stI1 (p' := 2) hC rfl rfl rfl ?_
  refine x_1 (p' := 3) hC rfl rfl rfl rfl ?_
  refine x_stI2 (p' := 4) hC rfl rfl rfl ?_
  exact lp_R_slots W K _ 0 (Nat.lt_succ_self _) (by omega) (by rw [fI_0]; omega)
set_option maxRecDepth 20000 in
theorem lp_R_place {d : Nat} {h : HP} {r arr : Nat} {ad : Nat → Nat} {al cap : Nat} {L : List FV} (W : RowQ h r arr ad al cap L) {sl : Int} {Q : Int → HP → Prop} (K : Q (cPlace L sl) h) (k : Nat) : ∀ (n : Nat), n < k → (n ≤ L.length) → (cPl L sl n = cPlace L sl) → At (d) 98 3 [some (.inr (some r)), some (.inl sl), some (.inl ((n : Nat) : Int))] [] h (fun v h' => ∃ x, v = some (.inl x) ∧ Q x h') := by
  have hC : cod 98 = c_R_placeFor := rfl
  induction k with
  | zero =>
    intro n hk
    exact absurd hk (Nat.not_lt_zero _)
  | succ k ih =>
    intro n hk hI0 hI1
    have hl := W.len
    refine x_1 (p' := 4) hC rfl rfl rfl rfl ?_
    refine x_ifle (p' := 5) hC rfl rfl (fun c4 => ?_) (fun c4 => ?_)
    · refine x_1 (p' := 17) hC rfl rfl rfl rfl ?_
      refine x_iret hC rfl rfl rfl ⟨_, rfl, ?_⟩
      refine eqK K ?_
      rw [← hI1]
      first
        | (rw [if_neg (by omega)])
        | (rw [show n = 0 by omega]; rfl)
    · obtain ⟨j, rfl⟩ : ∃ j, n = j + 1 := ⟨n - 1, by omega⟩
      rw [cPl] at hI1
      refine x_1 (p' := 6) hC rfl rfl rfl rfl ?_
      refine z_rf (p' := 7) W hC rfl rfl ?_
      refine x_1 (p' := 8) hC rfl rfl rfl rfl ?_
      refine x_1 (p' := 9) hC rfl rfl rfl rfl ?_
      refine x_sub (p' := 10) hC rfl rfl rfl ⟨by omega, by omega⟩ ?_
      rw [show ((j + 1 : Nat) : Int) - 1 = (j : Int) by omega]
      refine z_ra (p' := 11) W hC rfl rfl rfl (by omega) (by omega) (fun hF10 hV10 => ?_)
      refine z_fg (p' := 12) (kz := 2) hF10 hV10 hC rfl rfl rfl rfl ?_
      refine x_1 (p' := 13) hC rfl rfl rfl rfl ?_
      refine x_icle (p' := 14) hC rfl rfl (fun c13 => ?_) (fun c13 => ?_)
      · refine x_1 (p' := 17) hC rfl rfl rfl rfl ?_
        refine x_iret hC rfl rfl rfl ⟨_, rfl, ?_⟩
        refine eqK K ?_
        rw [← hI1]
        first
          | (rw [if_neg (by omega)])
          | (rw [show n = 0 by omega]; rfl)
      · refine x_inc2 (p' := 15) hC rfl rfl (⟨by omega, by omega⟩) ?_
        refine x_1 (p' := 3) hC rfl rfl rfl rfl ?_
        rw [if_pos (by omega)] at hI1
        rw [show ((j + 1 : Nat) : Int) + -1 = (j : Int) by omega]
        exact ih _ (by omega) (by omega) hI1
set_option maxRecDepth 20000 in
set_option maxHeartbeats 2000000 in
theorem sp_R_placeFor {d : Nat} {h : HP} {r arr : Nat} {ad : Nat → Nat} {al cap : Nat} {L : List FV} (W : RowQ h r arr ad al cap L) {sl : Int} {Q : Int → HP → Prop} (K : Q (cPlace L sl) h) : CaI d 98 [.inr (some r), .inl sl] h Q := by
  have hC : cod 98 = c_R_placeFor := rfl
  refine CaI.start rfl ?_
  refine x_1 (p' := 1) hC rfl rfl rfl rfl ?_
  refine z_rs (p' := 2) W hC rfl rfl ?_
  refine x_stI2 (p' := 3) hC rfl rfl rfl ?_
  exact lp_R_place W K _ L.length (Nat.lt_succ_self _) (Nat.le_refl _) rfl
set_option maxRecDepth 20000 in
theorem lp_R_has {d : Nat} {h : HP} {r arr : Nat} {ad : Nat → Nat} {al cap : Nat} {L : List FV} (W : RowQ h r arr ad al cap L) {a : Nat} (hF : FrP h a) {vv : FV} (hv : fV h a = vv) {sl : Int} {Q : Int → HP → Prop} (K : Q (b2i (cHas L sl vv)) h) (k : Nat) : ∀ (i : Int) (z : Option AV), ((L.length : Nat) - i).toNat < k → (0 ≤ i ∧ i ≤ (L.length : Nat)) → (∀ q, 0 ≤ q → q < i → ¬ (gt L q 2 = sl ∧ gt L q 0 = vv 0 ∧ gt L q 1 = vv 1)) → At (d) 99 2 [some (.inr (some r)), some (.inl sl), some (.inr (some a)), some (.inl i), z] [] h (fun v h' => ∃ x, v = some (.inl x) ∧ Q x h') := by
  have hC : cod 99 = c_R_hasIn := rfl
  induction k with
  | zero =>
    intro i z hk
    exact absurd hk (Nat.not_lt_zero _)
  | succ k ih =>
    intro i z hk hI0 hI1
    have hl := W.len
    refine x_1 (p' := 3) hC rfl rfl rfl rfl ?_
    refine x_1 (p' := 4) hC rfl rfl rfl rfl ?_
    refine z_rs (p' := 5) W hC rfl rfl ?_
    refine x_icge (p' := 6) hC rfl rfl (fun c5 => ?_) (fun c5 => ?_)
    · refine x_1 (p' := 30) hC rfl rfl rfl rfl ?_
      refine x_zret hC rfl rfl rfl (by first | omega | exact b2i_01 _) ⟨_, rfl, ?_⟩
      exact eqK K (b2i_f (fun ⟨q, h0, h1, h2⟩ => hI1 q h0 (by omega) h2))
    · refine x_1 (p' := 7) hC rfl rfl rfl rfl ?_
      refine z_rf (p' := 8) W hC rfl rfl ?_
      refine x_1 (p' := 9) hC rfl rfl rfl rfl ?_
      refine z_ra (p' := 10) W hC rfl rfl rfl (by omega) (by omega) (fun hF9 hV9 => ?_)
      refine x_stA4 (p' := 11) hC rfl rfl rfl ?_
      refine x_1 (p' := 12) hC rfl rfl rfl rfl ?_
      refine z_fg (p' := 13) (kz := 2) hF9 hV9 hC rfl rfl rfl rfl ?_
      refine x_1 (p' := 14) hC rfl rfl rfl rfl ?_
      refine x_icne (p' := 15) hC rfl rfl (fun c14 => ?_) (fun c14 => ?_)
      · refine x_inc3 (p' := 28) hC rfl rfl (⟨by omega, by omega⟩) ?_
        refine x_1 (p' := 2) hC rfl rfl rfl rfl ?_
        refine ih _ _ (by omega) (by omega) (fun q h0 h1 => ?_)
        by_cases hq : q = i
        · subst hq
          intro ⟨a1, a2, a3⟩
          first
            | exact c14 a1
            | exact c19 a2
            | exact c24 a3
        · exact hI1 q h0 (by omega)
      · refine x_1 (p' := 16) hC rfl rfl rfl rfl ?_
        refine z_fg (p' := 17) (kz := 0) hF9 hV9 hC rfl rfl rfl rfl ?_
        refine x_1 (p' := 18) hC rfl rfl rfl rfl ?_
        refine z_fg (p' := 19) (kz := 0) hF hv hC rfl rfl rfl rfl ?_
        refine x_icne (p' := 20) hC rfl rfl (fun c19 => ?_) (fun c19 => ?_)
        · refine x_inc3 (p' := 28) hC rfl rfl (⟨by omega, by omega⟩) ?_
          refine x_1 (p' := 2) hC rfl rfl rfl rfl ?_
          refine ih _ _ (by omega) (by omega) (fun q h0 h1 => ?_)
          by_cases hq : q = i
          · subst hq
            intro ⟨a1, a2, a3⟩
            first
              | exact c14 a1
              | exact c19 a2
              | exact c24 a3
          · exact hI1 q h0 (by omega)
        · refine x_1 (p' := 21) hC rfl rfl rfl rfl ?_
          refine z_fg (p' := 22) (kz := 1) hF9 hV9 hC rfl rfl rfl rfl ?_
          refine x_1 (p' := 23) hC rfl rfl rfl rfl ?_
          refine z_fg (p' := 24) (kz := 1) hF hv hC rfl rfl rfl rfl ?_
          refine x_icne (p' := 25) hC rfl rfl (fun c24 => ?_) (fun c24 => ?_)
          · refine x_inc3 (p' := 28) hC rfl rfl (⟨by omega, by omega⟩) ?_
            refine x_1 (p' := 2) hC rfl rfl rfl rfl ?_
            refine ih _ _ (by omega) (by omega) (fun q h0 h1 => ?_)
            by_cases hq : q = i
            · subst hq
              intro ⟨a1, a2, a3⟩
              first
                | exact c14 a1
                | exact c19 a2
                | exact c24 a3
            · exact hI1 q h0 (by omega)
          · refine x_1 (p' := 26) hC rfl rfl rfl rfl ?_
            refine x_zret hC rfl rfl rfl (by first | omega | exact b2i_01 _) ⟨_, rfl, ?_⟩
            exact eqK K (b2i_t ⟨i, hI0.1, by omega, by omega, by omega, by omega⟩)
set_option maxRecDepth 20000 in
set_option maxHeartbeats 2000000 in
theorem sp_R_hasIn {d : Nat} {h : HP} {r arr : Nat} {ad : Nat → Nat} {al cap : Nat} {L : List FV} (W : RowQ h r arr ad al cap L) {a : Nat} (hF : FrP h a) {vv : FV} (hv : fV h a = vv) {sl : Int} {Q : Int → HP → Prop} (K : Q (b2i (cHas L sl vv)) h) : CaI d 99 [.inr (some r), .inl sl, .inr (some a)] h Q := by
  have hC : cod 99 = c_R_hasIn := rfl
  refine CaI.start rfl ?_
  refine x_1 (p' := 1) hC rfl rfl rfl rfl ?_
  refine x_stI3 (p' := 2) hC rfl rfl rfl ?_
  exact lp_R_has W hF hv K _ 0 _ (Nat.lt_succ_self _) (by omega) (fun q h0 h1 => absurd h1 (by omega))

/-! THE SIMULATION: sorted rows -/
def SortS (L : List FV) : Prop := ∀ i j : Int, 0 ≤ i → i < j → j < (L.length : Nat) → gt L i 2 ≤ gt L j 2
theorem tw_all {L : List FV} {sl : Int} : ∀ (n : Nat) (e : Int), 0 ≤ e → (L.length : Nat) - e ≤ (n : Nat) → (∀ i, e ≤ i → i < e + tw L e sl → gt L i 2 = sl) ∧ (e + tw L e sl < (L.length : Nat) → ¬ gt L (e + tw L e sl) 2 = sl)
  | 0, e, h0, hn => by
    have := tw_stop (L := L) (sl := sl) h0 (Or.inl (by omega))
    rw [this]
    exact ⟨fun i h1 h2 => absurd h2 (by omega), fun h => absurd h (by omega)⟩
  | n + 1, e, h0, hn => by
    by_cases hl : (L.length : Nat) ≤ e
    · have := tw_stop (L := L) (sl := sl) h0 (Or.inl hl)
      rw [this]
      exact ⟨fun i h1 h2 => absurd h2 (by omega), fun h => absurd h (by omega)⟩
    · by_cases hs : gt L e 2 = sl
      · have e1 := tw_step h0 (by omega) hs
        have ih := tw_all (L := L) (sl := sl) n (e + 1) (by omega) (by omega)
        rw [e1]
        refine ⟨fun i h1 h2 => ?_, fun h => ?_⟩
        · by_cases hi : i = e
          · rw [hi]; exact hs
          · exact ih.1 i (by omega) (by omega)
        · rw [show e + (1 + tw L (e + 1) sl) = e + 1 + tw L (e + 1) sl by omega]
          exact ih.2 (by omega)
      · have := tw_stop (L := L) (sl := sl) h0 (Or.inr hs)
        rw [this]
        exact ⟨fun i h1 h2 => absurd h2 (by omega), fun _ => by rw [Int.add_zero]; exact hs⟩
theorem cEnd_in {L : List FV} {st i : Int} (h0 : 0 ≤ st) (h1 : st ≤ i) (h2 : i < cEnd L st) : gt L i 2 = gt L st 2 :=
  (tw_all (L := L) (sl := gt L st 2) L.length st h0 (by omega)).1 i h1 h2
theorem cEnd_out {L : List FV} {st i : Int} (hS : SortS L) (h0 : 0 ≤ st) (h1 : cEnd L st ≤ i) (h2 : i < (L.length : Nat)) : gt L st 2 < gt L i 2 := by
  have hr := cEnd_rng h0 (show st < (L.length : Nat) by
    unfold cEnd at h1
    have := (tw_rng (L := L) (e := st) (sl := gt L st 2) h0)
    by_cases q : st ≤ (L.length : Nat)
    · have := this q; omega
    · have := tw_stop (L := L) (e := st) (sl := gt L st 2) h0 (Or.inl (by omega)); omega)
  have hne := (tw_all (L := L) (sl := gt L st 2) L.length st h0 (by omega)).2 (by unfold cEnd at h1; omega)
  have hle := hS st (cEnd L st) h0 hr.1 (by omega)
  have hge : gt L (cEnd L st) 2 ≤ gt L i 2 := by
    by_cases q : cEnd L st = i
    · rw [q]; exact Int.le_refl _
    · exact hS _ _ (by omega) (by omega) h2
  have hne' : ¬ gt L (cEnd L st) 2 = gt L st 2 := hne
  omega
/-- a slot starts at st -/
def SlSt (L : List FV) (st : Int) : Prop := (0 ≤ st ∧ st < (L.length : Nat)) ∧ ∀ i, 0 ≤ i → i < st → gt L i 2 < gt L st 2
theorem SlSt.zero {L : List FV} (h : 0 < L.length) : SlSt L 0 := ⟨by omega, fun i h0 h1 => absurd h1 (by omega)⟩
theorem SlSt.run {L : List FV} {st i : Int} (hS : SortS L) (h : SlSt L st) (h0 : 0 ≤ i) (h1 : i < (L.length : Nat)) : gt L i 2 = gt L st 2 ↔ st ≤ i ∧ i < cEnd L st := by
  constructor
  · intro e
    constructor
    · by_cases q : st ≤ i
      · exact q
      · have := h.2 i h0 (by omega); omega
    · by_cases q : i < cEnd L st
      · exact q
      · have := cEnd_out hS h.1.1 (show cEnd L st ≤ i by omega) h1; omega
  · rintro ⟨a, b⟩
    exact cEnd_in h.1.1 a b
theorem fI_shift {q : Int → Prop} {st : Int} (h0 : 0 ≤ st) (hq : ∀ i, 0 ≤ i → i < st → ¬ q i) : ∀ n : Nat, fI (st + (n : Nat)) (fun i x => x + b2i (q i)) 0 = fI (n : Nat) (fun i x => x + b2i (q (st + i))) 0
  | 0 => by
    rw [show st + ((0 : Nat) : Int) = st by omega]
    refine fI_ind (fun _ x => x = 0) h0 rfl (fun i x a b e => ?_)
    rw [e, b2i_f (hq i a b)]; rfl
  | n + 1 => by
    rw [show st + ((n + 1 : Nat) : Int) = st + (n : Nat) + 1 by omega, fI_succ (by omega), fI_shift h0 hq n, show ((n + 1 : Nat) : Int) = (n : Nat) + 1 by omega, fI_succ (by omega)]
theorem fI_trail {q : Int → Prop} {e : Int} (h0 : 0 ≤ e) : ∀ n : Nat, (∀ i, e ≤ i → i < e + (n : Nat) → ¬ q i) → fI (e + (n : Nat)) (fun i x => x + b2i (q i)) 0 = fI e (fun i x => x + b2i (q i)) 0
  | 0, _ => by rw [show e + ((0 : Nat) : Int) = e by omega]
  | n + 1, hq => by
    rw [show e + ((n + 1 : Nat) : Int) = e + (n : Nat) + 1 by omega, fI_succ (by omega), b2i_f (hq _ (by omega) (by omega)), fI_trail h0 n (fun i a b => hq i a (by omega))]
    omega
/-- how many of the slot at st are of q: a count over the run -/
theorem slot_count {L : List FV} {st : Int} {q : FV → Prop} (hS : SortS L) (h : SlSt L st) : (L.countP (pd fun v => v 2 = gt L st 2 ∧ q v) : Nat) = fI (cEnd L st - st) (fun i n => n + b2i (q (gt L (st + i)))) 0 := by
  have h00 := h.1.1
  have h01 := h.1.2
  have hr := cEnd_rng h.1.1 h.1.2
  rw [← gtC (q := fun v => v 2 = gt L st 2 ∧ q v)]
  have t1 := fI_trail (q := fun i => gt L i 2 = gt L st 2 ∧ q (gt L i)) (e := cEnd L st) (by omega) ((L.length : Int) - cEnd L st).toNat (fun i a b e => by
    have := (h.run hS (by omega) (by omega)).mp e.1; omega)
  rw [show cEnd L st + (((L.length : Int) - cEnd L st).toNat : Nat) = (L.length : Nat) by omega] at t1
  rw [t1]
  have t2 := fI_shift (q := fun i => gt L i 2 = gt L st 2 ∧ q (gt L i)) h.1.1 (fun i a b e => by have := h.2 i a b; omega) (cEnd L st - st).toNat
  rw [show st + ((cEnd L st - st).toNat : Nat) = cEnd L st by omega] at t2
  rw [t2, show (((cEnd L st - st).toNat : Nat) : Int) = cEnd L st - st by omega]
  refine fI_congr (fun i a b x => ?_)
  rw [b2i_congr (show (gt L (st + i) 2 = gt L st 2 ∧ q (gt L (st + i))) ↔ q (gt L (st + i)) from ⟨fun e => e.2, fun e => ⟨(h.run hS (by omega) (by omega)).mpr ⟨by omega, by omega⟩, e⟩⟩)]

/-! THE SIMULATION: all that are due come -/
theorem Sim.comes {s : Int → Int} {t t' : Int} {O : List (Int × Int)} {C : Int} {S : Nat → Int → Int} {R : Nat → List FV} {f : Int} {v : FV} {L : List FV} (h : Sim s t O C S R) (hw : mW s f) (hv : FrW s f v) (hdel : ∀ s', OthP s s' (fun q => q = f) → ¬ mW s' f → RelV s' L) (ht : ∀ e, e ≠ f → mW s e → t' ≤ rFr s e 4) : Sim (rComes s f) t' O C (upX (cAr (S, R) v).1 3 1 (L.length : Nat)) (upR (cAr (S, R) v).2 3 L) := by
  have hr := h.1
  have hd := h.2.1
  have hf := h.2.2.1
  have hs := hd.1
  have w1 : rFr s f 0 = 1 := hw.2
  have kf := (hf.1 f hw.1 (by omega)).2
  have hg := kf.hub hs
  have hsl := kf.slot hs
  have st0 := kf.2.2.1
  have hF : ∀ e, 0 ≤ e → e < s 7 → isK s (rFr s f 1) e → 0 ≤ rFr s e 2 ∧ rFr s e 2 < 15 := fun e a b k => (hf.1 e ⟨a, b⟩ (by rw [k.1]; decide)).2.1.r15
  have eA : cAr (S, R) v = cif (cLate S (rFr s f 1) (kid (rFr s f 2)) (rSl0 s (rFr s f 1) (rFr s f 2) (rFr s f 3))) (upX S (11 + 7 * (rFr s f 1).toNat) 6 (wr (cH S (rFr s f 1) 6 + 1)), R) (cif (cHas (kR R (rFr s f 1)) (rSl0 s (rFr s f 1) (rFr s f 2) (rFr s f 3)) v) (upX S (11 + 7 * (rFr s f 1).toNat) 7 (wr (cH S (rFr s f 1) 7 + 1)), R) (upX S (13 + 7 * (rFr s f 1).toNat) 1 (((kR R (rFr s f 1)).length : Nat) + 1), upR R (13 + 7 * (rFr s f 1).toNat) (insA (kR R (rFr s f 1)) (cPlace (kR R (rFr s f 1)) (rSl0 s (rFr s f 1) (rFr s f 2) (rFr s f 3))) (ups (ups v 2 (rSl0 s (rFr s f 1) (rFr s f 2) (rFr s f 3))) 3 (cT S 6))))) := by
    unfold cAr
    dsimp only
    rw [hv.1, hr.tgt kf.1, ← kf.2.1.1, hv.2.1, hr.slt kf.1 hg]
  have hlt := hr.late (st := rFr s f 3) kf.1 hg (hd.2.2.1 _ hg.1 hg.2).2.2.2.2.1 (by omega)
  rw [eA]
  unfold rComes
  by_cases q : rLate s (rFr s f 1) (rFr s f 2) (rSlot s (rFr s f 1) (rFr s f 2) (rFr s f 3))
  · rw [cif_t q, cif_t (hlt.mp q)]
    exact h.drop (w := 7) hw hdel ht hg (Or.inl rfl)
  · rw [cif_f q, cif_f (fun x => q (hlt.mpr x))]
    have on : ¬ rOff s (rFr s f 2) := fun x => q (Or.inl x)
    rw [rSlot_on on] at q ⊢
    have hdb := hr.dbl (f := f) (sl := rSl0 s (rFr s f 1) (rFr s f 2) (rFr s f 3)) hg kf.1.r15 hF hv.1 hv.2.1
    by_cases z : rDblN s f (rFr s f 1) (rFr s f 2) (rSl0 s (rFr s f 1) (rFr s f 2) (rFr s f 3)) (s 7)
    · rw [cif_t z, cif_t (hdb.mp z)]
      exact h.drop (w := 8) hw hdel ht hg (Or.inr rfl)
    · rw [cif_f z, cif_f (fun x => z (hdb.mpr x))]
      exact h.kept hw hv hdel ht on (fun x => by
        by_cases y : rOf s (rFr s f 1) 9 < rSl0 s (rFr s f 1) (rFr s f 2) (rFr s f 3)
        · exact y
        · exact absurd (Or.inr ⟨x, by omega⟩) q) z
theorem rNext_is {s : Int → Int} (h7 : 0 ≤ s 7) : (rNext s = -1 ∧ ∀ y, mW s y → s 2 < rFr s y 4) ∨ ((mW s (rNext s) ∧ rFr s (rNext s) 4 ≤ s 2) ∧ ∀ y, mW s y → rFr s y 4 ≤ s 2 → rFr s (rNext s) 4 < rFr s y 4 ∨ (rFr s (rNext s) 4 = rFr s y 4 ∧ rFr s (rNext s) 5 ≤ rFr s y 5)) := by
  have key : (rNext s = -1 ∧ ∀ y, (0 ≤ y ∧ y < s 7) → isW s y → s 2 < rFr s y 4) ∨ (((0 ≤ rNext s ∧ rNext s < s 7) ∧ isW s (rNext s) ∧ rFr s (rNext s) 4 ≤ s 2) ∧ ∀ y, (0 ≤ y ∧ y < s 7) → isW s y → rFr s y 4 ≤ s 2 → rFr s (rNext s) 4 < rFr s y 4 ∨ (rFr s (rNext s) 4 = rFr s y 4 ∧ rFr s (rNext s) 5 ≤ rFr s y 5)) := by
    unfold rNext
    refine fI_ind (fun n x => (x = -1 ∧ ∀ y, (0 ≤ y ∧ y < n) → isW s y → s 2 < rFr s y 4) ∨ (((0 ≤ x ∧ x < n) ∧ isW s x ∧ rFr s x 4 ≤ s 2) ∧ ∀ y, (0 ≤ y ∧ y < n) → isW s y → rFr s y 4 ≤ s 2 → rFr s x 4 < rFr s y 4 ∨ (rFr s x 4 = rFr s y 4 ∧ rFr s x 5 ≤ rFr s y 5))) h7 (Or.inl ⟨rfl, fun y a => by omega⟩) (fun i x h0 h1 ih => ?_)
    by_cases hc : rFr s i 0 = 1 ∧ rFr s i 4 ≤ s 2 ∧ (x < 0 ∨ rFr s i 4 < rFr s x 4 ∨ (rFr s i 4 = rFr s x 4 ∧ rFr s i 5 < rFr s x 5))
    · rw [cif_t hc]
      refine Or.inr ⟨⟨⟨h0, by omega⟩, hc.1, hc.2.1⟩, fun y a k d => ?_⟩
      by_cases e : y = i
      · rw [e]; exact Or.inr ⟨rfl, Int.le_refl _⟩
      · rcases ih with ⟨q1, q2⟩ | ⟨q1, q2⟩
        · have := q2 y ⟨a.1, by omega⟩ k; omega
        · have := q2 y ⟨a.1, by omega⟩ k d
          have := hc.2.2
          have := q1.1.1
          omega
    · rw [cif_f hc]
      rcases ih with ⟨q1, q2⟩ | ⟨q1, q2⟩
      · refine Or.inl ⟨q1, fun y a k => ?_⟩
        by_cases e : y = i
        · subst e
          by_cases z : rFr s y 4 ≤ s 2
          · exact absurd ⟨k, z, Or.inl (by omega)⟩ hc
          · omega
        · exact q2 y ⟨a.1, by omega⟩ k
      · refine Or.inr ⟨⟨⟨q1.1.1, by omega⟩, q1.2⟩, fun y a k d => ?_⟩
        by_cases e : y = i
        · subst e
          by_cases z : rFr s x 4 < rFr s y 4 ∨ (rFr s x 4 = rFr s y 4 ∧ rFr s x 5 ≤ rFr s y 5)
          · exact z
          · exact absurd ⟨k, d, Or.inr (by omega)⟩ hc
        · exact q2 y ⟨a.1, by omega⟩ k d
  rcases key with ⟨a, b⟩ | ⟨⟨a, b, c⟩, d⟩
  · exact Or.inl ⟨a, fun y k => b y k.1 k.2⟩
  · exact Or.inr ⟨⟨⟨a, b⟩, c⟩, fun y k e => d y k.1 k.2 e⟩
/-- the class's tree with another row of frames on their way -/
def hat (P : (Nat → Int → Int) × (Nat → List FV)) (L : List FV) : (Nat → Int → Int) × (Nat → List FV) := (upX P.1 3 1 (L.length : Nat), upR P.2 3 L)
theorem upX_upX {S : Nat → Int → Int} {n : Nat} {j v w : Int} : upX (upX S n j v) n j w = upX S n j w := by
  funext a b
  unfold upX
  split <;> rfl
theorem upX_comm {S : Nat → Int → Int} {n m : Nat} {j k v w : Int} (h : n ≠ m) : upX (upX S n j v) m k w = upX (upX S m k w) n j v := by
  funext a b
  unfold upX
  by_cases x : a = m ∧ b = k
  · rw [if_pos x, if_neg (by omega), if_pos x]
  · rw [if_neg x]
    by_cases y : a = n ∧ b = j
    · rw [if_pos y, if_pos y]
    · rw [if_neg y, if_neg y, if_neg x]
theorem upR_upR {R : Nat → List FV} {n : Nat} {L M : List FV} : upR (upR R n L) n M = upR R n M := by
  funext a
  unfold upR
  split <;> rfl
theorem upR_comm {R : Nat → List FV} {n m : Nat} {L M : List FV} (h : n ≠ m) : upR (upR R n L) m M = upR (upR R m M) n L := by
  funext a
  unfold upR
  by_cases x : a = m
  · rw [if_pos x, if_neg (by omega), if_pos x]
  · rw [if_neg x]
    by_cases y : a = n
    · rw [if_pos y, if_pos y]
    · rw [if_neg y, if_neg y, if_neg x]
theorem hat_hat {P : (Nat → Int → Int) × (Nat → List FV)} {L M : List FV} : hat (hat P L) M = hat P M := by
  unfold hat
  dsimp only
  rw [upX_upX, upR_upR]
theorem cAr_hat {P : (Nat → Int → Int) × (Nat → List FV)} {L : List FV} {v : FV} : cAr (hat P L) v = hat (cAr P v) L := by
  have e1 : ∀ g k, cH (upX P.1 3 1 (L.length : Nat)) g k = cH P.1 g k := fun g k => upX_at (by omega)
  have e2 : ∀ g k, cSe (upX P.1 3 1 (L.length : Nat)) g k = cSe P.1 g k := fun g k => upX_at (by omega)
  have e3 : ∀ g k, cU (upX P.1 3 1 (L.length : Nat)) g k = cU P.1 g k := fun g k => upX_at (by omega)
  have e4 : ∀ k, cT (upX P.1 3 1 (L.length : Nat)) k = cT P.1 k := fun k => upX_at (by omega)
  have t1 : cTgt (upX P.1 3 1 (L.length : Nat)) (v 0) = cTgt P.1 (v 0) := by unfold cTgt; rw [e1, e3]
  have t2 : cPer (upX P.1 3 1 (L.length : Nat)) (v 0) = cPer P.1 (v 0) := by unfold cPer; rw [e2, e3]
  have t3 : ∀ g st p, cSlt (upX P.1 3 1 (L.length : Nat)) g st p = cSlt P.1 g st p := fun g st p => by unfold cSlt; rw [e2]
  have t4 : ∀ g c sl, cLate (upX P.1 3 1 (L.length : Nat)) g c sl = cLate P.1 g c sl := fun g c sl => by unfold cLate cGone; rw [e1, e3]
  unfold cAr hat
  dsimp only
  rw [t1, t2, t3, t4, e1, e1, e4, kR_up3]
  generalize cTgt P.1 (v 0) = g
  generalize cSlt P.1 g (v 1) (cPer P.1 (v 0)) = sl
  by_cases q : cLate P.1 g (v 0) sl
  · rw [cif_t q, cif_t q]
    dsimp only
    rw [upX_comm (by omega)]
  · rw [cif_f q, cif_f q]
    by_cases z : cHas (kR P.2 g) sl v
    · rw [cif_t z, cif_t z]
      dsimp only
      rw [upX_comm (by omega)]
    · rw [cif_f z, cif_f z]
      dsimp only
      rw [upX_comm (by omega), upR_comm (by omega)]
/-- the least time due may be raised -/
theorem FmI.raise {s : Int → Int} {t t' : Int} {O : List (Int × Int)} (h : FmI s t O) (ht : ∀ f, mW s f → t' ≤ rFr s f 4) : FmI s t' O :=
  ⟨h.1, h.2.1, fun f a b => ⟨⟨ht f ⟨a, b⟩, (h.2.2.1 f a b).1.2⟩, (h.2.2.1 f a b).2⟩, h.2.2.2⟩
theorem Sim.raise {s : Int → Int} {t t' : Int} {O : List (Int × Int)} {C : Int} {S : Nat → Int → Int} {R : Nat → List FV} (h : Sim s t O C S R) (ht : ∀ f, mW s f → t' ≤ rFr s f 4) : Sim s t' O C S R := ⟨h.1, h.2.1, h.2.2.1.raise ht, h.2.2.2⟩
/-- the places that neither comings nor releases touch -/
def K5 (k : Int) : Prop := k = 0 ∨ k = 1 ∨ k = 2
theorem rComes_lo {s : Int → Int} {f k : Int} (hf : 0 ≤ f) (hg : 0 ≤ rFr s f 1) (hk : K5 k) : rComes s f k = s k := by
  unfold K5 at hk
  unfold rComes
  by_cases q : rLate s (rFr s f 1) (rFr s f 2) (rSlot s (rFr s f 1) (rFr s f 2) (rFr s f 3))
  · rw [cif_t q]; unfold rDrop; rw [ups_ne (by omega), ups_ne (by omega)]
  · rw [cif_f q]
    by_cases z : rDblN s f (rFr s f 1) (rFr s f 2) (rSlot s (rFr s f 1) (rFr s f 2) (rFr s f 3)) (s 7)
    · rw [cif_t z]; unfold rDrop; rw [ups_ne (by omega), ups_ne (by omega)]
    · rw [cif_f z]; unfold rKeep; rw [ups_ne (by omega), ups_ne (by omega), ups_ne (by omega)]
/-- k frames come -/
noncomputable def sq (s : Int → Int) : Nat → Int → Int
  | 0 => s
  | k + 1 => rComes (sq s k) (rNext (sq s k))
theorem gt_dropc {L : List FV} {i : Int} (h0 : 0 ≤ i) (h1 : i < (L.length : Nat)) : L.drop i.toNat = gt L i :: L.drop (i + 1).toNat := by
  obtain ⟨n, rfl⟩ := Int.eq_ofNat_of_zero_le h0
  rw [gt_nat (by omega), show ((n : Int)).toNat = n by omega, show ((n : Int) + 1).toNat = n + 1 by omega]
  exact List.drop_eq_getElem_cons (by omega)
theorem cRm_not {S : Nat → Int → Int} {L : List FV} {n : Int} (hn : 0 ≤ n) : ∀ w : FV, w ∈ cRm S L n → cT S 6 < w 3 := by
  unfold cRm
  refine fI_ind (fun _ (M : List FV) => ∀ w : FV, w ∈ M → cT S 6 < w 3) hn (fun w k => absurd k List.not_mem_nil) (fun i M a b ih => ?_)
  by_cases q : gt L i 3 ≤ cT S 6
  · rw [cif_t q]; exact ih
  · rw [cif_f q]
    intro w k
    rcases List.mem_append.mp k with k | k
    · exact ih w k
    · rw [List.mem_singleton.mp k]; omega
theorem Sim.arrive {s : Int → Int} {O : List (Int × Int)} {C : Int} {S : Nat → Int → Int} {R : Nat → List FV} (h : Sim s (s 2) O C S R) : ∀ i : Int, 0 ≤ i → i ≤ ((R 3).length : Nat) → ∃ K : Nat, (∀ k, k ≤ K → ∃ S1 R1, Sim (sq s k) (s 2) O C S1 R1) ∧ (∀ k, k < K → 0 ≤ rNext (sq s k)) ∧ (sq s K 2 = s 2 ∧ sq s K 0 = s 0 ∧ ∀ q, s 0 ≤ q → q < 5 → kR (cDu S R i).2 q = kR R q) ∧ Sim (sq s K) (s 2) O C (hat (cDu S R i) (cRm S (R 3) i ++ (R 3).drop i.toNat)).1 (hat (cDu S R i) (cRm S (R 3) i ++ (R 3).drop i.toNat)).2 := by
  have e2 : s 2 = cT S 6 := h.1.1.2.2.1
  have key : ∀ n : Nat, (n : Int) ≤ ((R 3).length : Nat) → ∃ K : Nat, (∀ k, k ≤ K → ∃ S1 R1, Sim (sq s k) (s 2) O C S1 R1) ∧ (∀ k, k < K → 0 ≤ rNext (sq s k)) ∧ (sq s K 2 = s 2 ∧ sq s K 0 = s 0 ∧ ∀ q, s 0 ≤ q → q < 5 → kR (cDu S R (n : Int)).2 q = kR R q) ∧ Sim (sq s K) (s 2) O C (hat (cDu S R (n : Int)) (cRm S (R 3) (n : Int) ++ (R 3).drop ((n : Int)).toNat)).1 (hat (cDu S R (n : Int)) (cRm S (R 3) (n : Int) ++ (R 3).drop ((n : Int)).toNat)).2 := by
    intro n
    induction n with
    | zero =>
      intro _
      have e : hat (cDu S R ((0 : Nat) : Int)) (cRm S (R 3) ((0 : Nat) : Int) ++ (R 3).drop (((0 : Nat) : Int)).toNat) = (S, R) := by
        have a : upX S 3 1 ((R 3).length : Nat) = S := by
          funext m k
          unfold upX
          by_cases q : m = 3 ∧ k = 1
          · rw [if_pos q, q.1, q.2]; exact h.1.2.2.2.2.1.symm
          · rw [if_neg q]
        have b : upR R 3 (R 3) = R := by
          funext m
          unfold upR
          by_cases q : m = 3
          · rw [if_pos q, q]
          · rw [if_neg q]
        show (upX S 3 1 ((R 3).length : Nat), upR R 3 (R 3)) = (S, R)
        rw [a, b]
      rw [e]
      exact ⟨0, fun k hk => ⟨S, R, by rw [show k = 0 by omega]; exact h⟩, fun k hk => by omega, ⟨rfl, rfl, fun _ _ _ => rfl⟩, h⟩
    | succ n ih =>
      intro hn
      obtain ⟨K, i1, i2, ⟨i3, i30, i3q⟩, i4⟩ := ih (by omega)
      rw [show ((n + 1 : Nat) : Int) = (n : Int) + 1 by omega]
      have dr := gt_dropc (L := R 3) (i := (n : Int)) (by omega) (by omega)
      have ed : cDu S R ((n : Int) + 1) = cif (gt (R 3) (n : Int) 3 ≤ cT S 6) (cAr (cDu S R (n : Int)) (gt (R 3) (n : Int))) (cDu S R (n : Int)) := by unfold cDu; rw [fI_succ (by omega)]
      have er : cRm S (R 3) ((n : Int) + 1) = cif (gt (R 3) (n : Int) 3 ≤ cT S 6) (cRm S (R 3) (n : Int)) (cRm S (R 3) (n : Int) ++ [gt (R 3) (n : Int)]) := by unfold cRm; rw [fI_succ (by omega)]
      by_cases q : gt (R 3) (n : Int) 3 ≤ cT S 6
      · rw [ed, er, cif_t q, cif_t q]
        rw [dr] at i4
        have hV := (RelW.iff.mp i4.1.2.2.2.2).2
        have e3 : (hat (cDu S R (n : Int)) (cRm S (R 3) (n : Int) ++ gt (R 3) (n : Int) :: (R 3).drop ((n : Int) + 1).toNat)).2 3 = cRm S (R 3) (n : Int) ++ gt (R 3) (n : Int) :: (R 3).drop ((n : Int) + 1).toNat := by unfold hat; dsimp only; exact upR_eq
        rw [e3] at hV
        obtain ⟨f, hw, hv, hall, hdel⟩ := hV.at
        have ge : ∀ y, mW (sq s K) y → s 2 ≤ rFr (sq s K) y 4 := fun y k => (i4.2.2.1.2.2.1 y k.1 k.2).1.1
        have fd : rFr (sq s K) f 4 = s 2 := by
          have := ge f hw
          have := hv.2.2.1
          omega
        have fx : rNext (sq s K) = f := by
          rcases rNext_is (s := sq s K) i4.2.1.1.2.2.1.1 with ⟨_, b⟩ | ⟨⟨a, b⟩, c⟩
          · have := b f hw; omega
          · have m := c f hw (by omega)
            have g1 := ge _ a
            rcases hall _ a with y | ⟨w, hw2, y⟩ | ⟨w, _, _, y⟩
            · exact y
            · have := cRm_not (S := S) (L := R 3) (n := (n : Int)) (by omega) w hw2
              have := y.2.2.1
              omega
            · omega
        have st := i4.comes (t' := s 2) hw hv hdel (fun e _ k => ge e k)
        refine ⟨K + 1, fun k hk => ?_, fun k hk => ?_, ?_, ?_⟩
        · by_cases z : k = K + 1
          · have e : sq s (K + 1) = rComes (sq s K) f := by
              show rComes (sq s K) (rNext (sq s K)) = _
              rw [fx]
            rw [z, e]
            exact ⟨_, _, st⟩
          · exact i1 k (by omega)
        · by_cases z : k = K
          · rw [z, fx]; exact hw.1.1
          · exact i2 k (by omega)
        · have fo := (i4.2.2.1.1 f hw.1 (by have : rFr (sq s K) f 0 = 1 := hw.2; omega)).2
          have fh := fo.hub i4.2.1.1
          have l2 := rComes_lo (k := 2) hw.1.1 fh.1 (Or.inr (Or.inr rfl))
          have l0 := rComes_lo (k := 0) hw.1.1 fh.1 (Or.inl rfl)
          have tg : cTgt (cDu S R (n : Int)).1 (gt (R 3) (n : Int) 0) = rFr (sq s K) f 1 := by
            have t := i4.1.tgt fo.1
            rw [← hv.1] at t
            rw [fo.2.1.1, ← t]
            unfold hat cTgt cH cU
            dsimp only
            rw [upX_at (by omega), upX_at (by omega)]
          refine ⟨?_, ?_, fun q a c => ?_⟩
          · show rComes (sq s K) (rNext (sq s K)) 2 = s 2
            rw [fx, l2, i3]
          · show rComes (sq s K) (rNext (sq s K)) 0 = s 0
            rw [fx, l0, i30]
          · rw [← i3q q a c]
            have hx : ∀ (P : (Nat → Int → Int) × (Nat → List FV)) (v : FV), cTgt P.1 (v 0) ≠ q → 0 ≤ cTgt P.1 (v 0) → kR (cAr P v).2 q = kR P.2 q := fun P v y z => by
              unfold cAr
              dsimp only
              generalize cSlt P.1 (cTgt P.1 (v 0)) (v 1) (cPer P.1 (v 0)) = sl
              by_cases q1 : cLate P.1 (cTgt P.1 (v 0)) (v 0) sl
              · rw [cif_t q1]
              · rw [cif_f q1]
                by_cases q2 : cHas (kR P.2 (cTgt P.1 (v 0))) sl v
                · rw [cif_t q2]
                · rw [cif_f q2]
                  have h0 := h.2.1.1.1
                  exact upR_ne (by omega)
            exact hx _ _ (by rw [tg]; omega) (by rw [tg]; exact fh.1)
        · show Sim (rComes (sq s K) (rNext (sq s K))) (s 2) O C _ _
          rw [fx]
          have e : hat (cAr (hat (cDu S R (n : Int)) (cRm S (R 3) (n : Int) ++ gt (R 3) (n : Int) :: (R 3).drop ((n : Int) + 1).toNat)) (gt (R 3) (n : Int))) (cRm S (R 3) (n : Int) ++ (R 3).drop ((n : Int) + 1).toNat) = hat (cAr (cDu S R (n : Int)) (gt (R 3) (n : Int))) (cRm S (R 3) (n : Int) ++ (R 3).drop ((n : Int) + 1).toNat) := by
            rw [cAr_hat, hat_hat]
          rw [← e]
          exact st
      · rw [ed, er, cif_f q, cif_f q]
        refine ⟨K, i1, i2, ⟨i3, i30, i3q⟩, ?_⟩
        rw [dr] at i4
        rw [List.append_assoc]
        exact i4
  intro i h0 h1
  obtain ⟨n, rfl⟩ := Int.eq_ofNat_of_zero_le h0
  exact key n h1

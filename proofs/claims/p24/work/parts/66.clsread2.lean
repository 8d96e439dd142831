/-! THE CLASS: a tree and its rows, read -/
abbrev kR (R : Nat → List FV) (g : Int) : List FV := R (13 + 7 * g.toNat)
theorem TR.hrow {t : Nat} {h : HP} {o : Nat → Nat} {w : Nat → Nat × Nat} {S : Nat → Int → Int} {R : Nat → List FV} (T : TR t h o w S R) {g : Int} (h0 : 0 ≤ g) (h1 : g < 5) : RowP h o w (t + (13 + 7 * g.toNat)) (kR R g) := T.2.2.2 _ (by omega) (sk_r h0 h1)
theorem TR.way {t : Nat} {h : HP} {o : Nat → Nat} {w : Nat → Nat × Nat} {S : Nat → Int → Int} {R : Nat → List FV} (T : TR t h o w S R) : RowP h o w (t + 3) (R 3) := T.2.2.2 3 (by decide) (by decide)
theorem TR.cZ {t : Nat} {h : HP} {o : Nat → Nat} {w : Nat → Nat × Nat} {S : Nat → Int → Int} {R : Nat → List FV} (T : TR t h o w S R) {g : Int} (h0 : 0 ≤ g) (h1 : g < 5) : cZ S g = ((kR R g).length : Nat) ∧ ((kR R g).length : Int) ≤ 1024 := by
  obtain ⟨_, _, _, _, W, _⟩ := T.hrow h0 h1
  have := W.2.2.2.1
  rw [T.2.2.1 _ (by omega)] at this
  exact ⟨this, W.len⟩
theorem TR.cW {t : Nat} {h : HP} {o : Nat → Nat} {w : Nat → Nat × Nat} {S : Nat → Int → Int} {R : Nat → List FV} (T : TR t h o w S R) : cW S = ((R 3).length : Nat) ∧ ((R 3).length : Int) ≤ 1024 := by
  obtain ⟨_, _, _, _, W, _⟩ := T.way
  have := W.2.2.2.1
  rw [T.2.2.1 _ (by decide)] at this
  exact ⟨this, W.len⟩
/-- the ints of an array become f -/
def sIA (h : HP) (a : Nat) (f : Int → Int) : HP := (hTy h, fun b j => if b = a then f j else hI h b j, hR h, hZ h, hU h)
theorem hI_sIA {h : HP} {a : Nat} {f : Int → Int} : hI (sIA h a f) a = f := by
  funext j
  exact if_pos rfl
theorem hI_sIA_ne {h : HP} {a b : Nat} {f : Int → Int} (n : b ≠ a) : hI (sIA h a f) b = hI h b := by
  funext j
  exact if_neg n
theorem sIA_self {h : HP} {a : Nat} {f : Int → Int} (e : ∀ j, f j = hI h a j) : sIA h a f = h := by
  refine HP_ext ?_
  funext b j
  split
  · rename_i hb; rw [e, hb]
  · rfl
theorem sI_sIA {h : HP} {a : Nat} {f : Int → Int} {k v : Int} : sI (sIA h a f) a k v = sIA h a (ups f k v) := by
  show ((hTy h, _, hR h, hZ h, hU h) : HP) = (hTy h, _, hR h, hZ h, hU h)
  congr 2
  funext b j
  by_cases hb : b = a
  · subst hb
    rw [hI_sIA, if_pos rfl]
    unfold ups
    by_cases hj : j = k
    · rw [if_pos ⟨rfl, hj⟩, if_pos hj]
    · rw [if_neg (fun q => hj q.2), if_neg hj]
  · rw [if_neg (fun q => hb q.1), if_neg hb, hI_sIA_ne hb]
theorem sIA_congr {h : HP} {a : Nat} {f f' : Int → Int} (e : ∀ j, f j = f' j) : sIA h a f = sIA h a f' := by rw [show f = f' from funext e]
theorem RowQ.sIA {h : HP} {r arr : Nat} {ad : Nat → Nat} {al cap : Nat} {L : List FV} (W : RowQ h r arr ad al cap L) {a n : Nat} {f : Int → Int} (ht : hTy h a = (100, n)) (hn : n ≠ 10) : RowQ (sIA h a f) r arr ad al cap L := by
  obtain ⟨⟨q1, q2, q3⟩, q4, q5, q9, q10, q11, q12, q13, q14⟩ := W
  have hne : ∀ b, hTy h b ≠ (100, n) → hI (_root_.id (Jvm.Pilot.CPhasorTreeLaw_law_r4566_d5a5ba.sIA h a f)) b = hI h b := fun b hb => hI_sIA_ne (fun e => hb (by rw [e]; exact ht))
  refine ⟨⟨q1, q2, q3⟩, q4, q5, ?_, q10, q11, q12, q13, fun i hi => ?_⟩
  · rw [show hI (Jvm.Pilot.CPhasorTreeLaw_law_r4566_d5a5ba.sIA h a f) r = hI h r from hne r (by rw [q3]; intro q; cases q)]; exact q9
  · rw [← q14 i hi]
    have hF := (q11 i (by omega)).2
    exact fV_same (hne _ (by rw [hF.2.2.1]; intro q; cases q)) (hne _ (by rw [hF.2.2.2.1]; intro q; exact hn (by injection q with _ q2; exact q2.symm))) (hne _ (by rw [hF.2.2.2.2.1]; intro q; exact hn (by injection q with _ q2; exact q2.symm)))
def upA (S : Nat → Int → Int) (n : Nat) (f : Int → Int) : Nat → Int → Int := fun m => if m = n then f else S m
theorem upA_eq {S : Nat → Int → Int} {n : Nat} {f : Int → Int} : upA S n f n = f := if_pos rfl
theorem upA_ne {S : Nat → Int → Int} {n m : Nat} {f : Int → Int} (h : m ≠ n) : upA S n f m = S m := if_neg h
theorem TR.arr {t : Nat} {H : HP} {o : Nat → Nat} {w : Nat → Nat × Nat} {S : Nat → Int → Int} {R : Nat → List FV} (T : TR t H o w S R) {n : Nat} (hn : n < 80) (h4 : skTy n ≠ (4, 0)) (h2 : skTy n ≠ (200, 8)) {f : Int → Int} : ExtT H o w t (sIA H (t + n) f) o w ∧ TR t (sIA H (t + n) f) o w (upA S n f) R := by
  obtain ⟨K, T2, T3, T4⟩ := T
  have hon : o (t + n) = t + n := by rw [T2 n hn, ow_ne ⟨n, hn⟩ h2]
  refine ⟨⟨Nat.le_refl _, fun _ _ => ⟨rfl, rfl⟩, fun b hb hg => ⟨hI_sIA_ne (fun e => hg (by rw [e, hon]; omega)), rfl⟩, fun b h1 h2 => absurd h2 (Nat.not_lt.mpr h1), fun _ h => h, fun _ _ => rfl, rfl, Nat.le_refl _⟩, K, T2, fun m hm => ?_, fun m hm hm2 => (T4 m hm hm2).keep (Nat.le_refl _) (fun _ _ => ⟨rfl, rfl⟩) (fun b hb ho => ⟨hI_sIA_ne (fun e => ?_), rfl⟩) rfl⟩
  · by_cases h : m = n
    · subst h
      rw [hI_sIA, upA_eq]
    · rw [upA_ne h, hI_sIA_ne (by omega), T3 m hm]
  · rw [e, hon] at ho
    exact h4 (by rw [show n = m by omega]; exact hm2)
/-- the two rows of ints differ at most in what nothing outlasts a call -/
def SX (S S' : Nat → Int → Int) : Prop := ∀ m, m ≠ 6 → m ≠ 7 → m ≠ 8 → m ≠ 9 → m ≠ 10 → S' m = S m
theorem SX.refl {S : Nat → Int → Int} : SX S S := fun _ _ _ _ _ _ => rfl
theorem SX.trans {S S' S2 : Nat → Int → Int} (a : SX S S') (b : SX S' S2) : SX S S2 := fun m h1 h2 h3 h4 h5 => by rw [b m h1 h2 h3 h4 h5, a m h1 h2 h3 h4 h5]
theorem SX.cT {S S' : Nat → Int → Int} (x : SX S S') : cT S' = cT S := by
  funext k
  exact congrFun (x 0 (by decide) (by decide) (by decide) (by decide) (by decide)) k
theorem SX.cH {S S' : Nat → Int → Int} (x : SX S S') : cH S' = cH S := by
  funext g k
  exact congrFun (x (11 + 7 * g.toNat) (by omega) (by omega) (by omega) (by omega) (by omega)) k
theorem SX.cSe {S S' : Nat → Int → Int} (x : SX S S') : cSe S' = cSe S := by
  funext g k
  exact congrFun (x (12 + 7 * g.toNat) (by omega) (by omega) (by omega) (by omega) (by omega)) k
theorem SX.cU {S S' : Nat → Int → Int} (x : SX S S') : cU S' = cU S := by
  funext g k
  exact congrFun (x (46 + g.toNat) (by omega) (by omega) (by omega) (by omega) (by omega)) k
theorem SX.cZ {S S' : Nat → Int → Int} (x : SX S S') : Jvm.Pilot.CPhasorTreeLaw_law_r4566_d5a5ba.cZ S' = Jvm.Pilot.CPhasorTreeLaw_law_r4566_d5a5ba.cZ S := by
  funext g
  exact congrFun (x (13 + 7 * g.toNat) (by omega) (by omega) (by omega) (by omega) (by omega)) 1
theorem SX.CI {S S' : Nat → Int → Int} (x : SX S S') (c : CI S) : CI S' := by
  unfold Jvm.Pilot.CPhasorTreeLaw_law_r4566_d5a5ba.CI at *
  rw [x.cT, x.cH, x.cSe, x.cU]
  exact c
theorem SX.cChild {S S' : Nat → Int → Int} (x : SX S S') {g c : Int} : cChild S' g c ↔ cChild S g c := by
  unfold Jvm.Pilot.CPhasorTreeLaw_law_r4566_d5a5ba.cChild
  rw [x.cT, x.cH, x.cU]
theorem SX.cPer {S S' : Nat → Int → Int} (x : SX S S') {c : Int} : cPer S' c = cPer S c := by
  unfold Jvm.Pilot.CPhasorTreeLaw_law_r4566_d5a5ba.cPer
  rw [x.cSe, x.cU]
theorem SX.cExp {S S' : Nat → Int → Int} (x : SX S S') {g c sl : Int} : cExp S' g c sl = cExp S g c sl := by
  unfold Jvm.Pilot.CPhasorTreeLaw_law_r4566_d5a5ba.cExp
  rw [x.cSe, x.cPer]
theorem cTw_sx {S S' : Nat → Int → Int} (x : SX S S') {g : Int} : ∀ n c y, cTw S' g n c y = cTw S g n c y
  | 0, c, y => rfl
  | n + 1, c, y => by rw [cTw, cTw, x.cH, cTw_sx x n]
theorem SX.cTow {S S' : Nat → Int → Int} (x : SX S S') {u g : Int} : cTow S' u g = cTow S u g := by
  unfold Jvm.Pilot.CPhasorTreeLaw_law_r4566_d5a5ba.cTow
  rw [x.cU, cTw_sx x]
theorem SX.upA9 {S : Nat → Int → Int} {n : Nat} {f : Int → Int} (h : n = 9 ∨ n = 10) : SX S (upA S n f) := fun m _ _ _ h4 h5 => upA_ne (by omega)
def cSlt (S : Nat → Int → Int) (g st per : Int) : Int := if per ≤ cSe S g 4 then (st + cSe S g 4 - 1) / cSe S g 4 * cSe S g 4 else st
def cWait (S : Nat → Int → Int) (L : List FV) (g s tm : Int) : Int := e_mxF 0 ((if cSe S g 1 = 0 then gt L s 2 else gt L s 3) + cSe S g 0 - tm)
noncomputable def cTal (L : List FV) (s e c : Int) : Int := fI (e - s) (fun i n => n + b2i (gt L (s + i) 0 = c)) 0
theorem cTal_0 {L : List FV} {s c : Int} : cTal L s s c = 0 := by unfold cTal; rw [show s - s = 0 by omega, fI_0]
theorem cTal_succ {L : List FV} {s e c : Int} (h : s ≤ e) : cTal L s (e + 1) c = cTal L s e c + b2i (gt L e 0 = c) := by
  unfold cTal
  rw [show e + 1 - s = (e - s) + 1 by omega, fI_succ (by omega), show s + (e - s) = e by omega]
theorem cTal_rng {L : List FV} {s c : Int} : ∀ n : Nat, 0 ≤ cTal L s (s + n) c ∧ cTal L s (s + n) c ≤ n
  | 0 => by rw [show s + ((0 : Nat) : Int) = s by omega, cTal_0]; omega
  | n + 1 => by
    have := cTal_rng (L := L) (s := s) (c := c) n
    have h2 := b2i_01 (gt L (s + n) 0 = c)
    rw [show s + ((n + 1 : Nat) : Int) = s + n + 1 by omega, cTal_succ (by omega)]
    omega
def cCompN (S : Nat → Int → Int) (L : List FV) (g s e n : Int) : Prop := ∀ c, 0 ≤ c → c < n → cChild S g c → cExp S g c (gt L s 2) ≤ cTal L s e c
abbrev cComp (S : Nat → Int → Int) (L : List FV) (g s e : Int) : Prop := cCompN S L g s e 15
theorem cCompN_succ {S : Nat → Int → Int} {L : List FV} {g s e n : Int} (hn : 0 ≤ n) : cCompN S L g s e (n + 1) ↔ cCompN S L g s e n ∧ (cChild S g n → cExp S g n (gt L s 2) ≤ cTal L s e n) := by
  constructor
  · exact fun h => ⟨fun c h0 h1 => h c h0 (by omega), h n hn (by omega)⟩
  · intro h c h0 h1 hc
    by_cases hcn : c = n
    · subst hcn; exact h.2 hc
    · exact h.1 c h0 (by omega) hc
set_option maxRecDepth 20000 in
theorem lp_JA_fill {d : Nat} {h : HP} {a n : Nat} (ht : hTy h a = (100, n)) (h3 : 3 ≤ a) (hn : n < 2147483648) {v : Int} {Q : HP → Prop} (K : Q (sIA h a (fun j => if 0 ≤ j ∧ j < (n : Nat) then v else hI h a j))) (k : Nat) : ∀ (i : Int), ((n : Nat) - i).toNat < k → (0 ≤ i ∧ i ≤ (n : Nat)) → At (d) 191 5 [some (.inr (some a)), some (.inl v), some (.inl i), some (.inl (n : Nat))] [] (sIA h a (fun j => if 0 ≤ j ∧ j < i then v else hI h a j)) (fun v h' => v = none ∧ Q h') := by
  have hC : cod 191 = c_JA_fill := rfl
  induction k with
  | zero =>
    intro i hk
    exact absurd hk (Nat.not_lt_zero _)
  | succ k ih =>
    intro i hk hI0
    refine x_1 (p' := 6) hC rfl rfl rfl rfl ?_
    refine x_1 (p' := 7) hC rfl rfl rfl rfl ?_
    refine x_icge (p' := 8) hC rfl rfl (fun c7 => ?_) (fun c7 => ?_)
    · refine x_ret hC rfl rfl rfl ⟨rfl, ?_⟩
      rw [show i = (n : Nat) by omega]
      exact K
    · refine x_1 (p' := 9) hC rfl rfl rfl rfl ?_
      refine x_1 (p' := 10) hC rfl rfl rfl rfl ?_
      refine x_1 (p' := 11) hC rfl rfl rfl rfl ?_
      refine x_iast (p' := 12) (n := n) hC rfl rfl rfl ht h3 (by omega) (by omega) ?_
      rw [sI_sIA]
      refine x_inc2 (p' := 13) hC rfl rfl (⟨by omega, by omega⟩) ?_
      refine x_1 (p' := 5) hC rfl rfl rfl rfl ?_
      rw [sIA_congr (f' := fun j => if 0 ≤ j ∧ j < i + 1 then v else hI h a j) (fun j => by
        unfold ups
        by_cases hj : j = i
        · rw [if_pos hj, if_pos (by omega)]
        · rw [if_neg hj]
          show (if 0 ≤ j ∧ j < i then v else hI h a j) = _
          by_cases h2 : 0 ≤ j ∧ j < i
          · rw [if_pos h2, if_pos (by omega)]
          · rw [if_neg h2, if_neg (by omega)])]
      exact ih _ (by omega) (by omega)
set_option maxRecDepth 20000 in
set_option maxHeartbeats 2000000 in
theorem sp_JA_fill {d : Nat} {h : HP} {a n : Nat} (ht : hTy h a = (100, n)) (h3 : 3 ≤ a) (hn : n < 2147483648) {v : Int} {Q : HP → Prop} (K : Q (sIA h a (fun j => if 0 ≤ j ∧ j < (n : Nat) then v else hI h a j))) : CaV d 191 [.inr (some a), .inl v] h Q := by
  have hC : cod 191 = c_JA_fill := rfl
  refine CaV.start rfl ?_
  refine x_1 (p' := 1) hC rfl rfl rfl rfl ?_
  refine x_stI2 (p' := 2) hC rfl rfl rfl ?_
  refine x_1 (p' := 3) hC rfl rfl rfl rfl ?_
  refine x_len (p' := 4) hC rfl rfl rfl ht rfl (by omega) ?_
  refine x_stI3 (p' := 5) hC rfl rfl rfl ?_
  have hlp := lp_JA_fill (d := d) ht h3 hn K _ 0 (Nat.lt_succ_self _) (by omega)
  rw [sIA_self (f := fun j => if 0 ≤ j ∧ j < 0 then v else hI h a j) (fun j => if_neg (by omega))] at hlp
  exact hlp
set_option maxRecDepth 20000 in
set_option maxHeartbeats 2000000 in
theorem sp_H_slotFor {d : Nat} {h : HP} {t : Nat} (hK : SkT t h) {S : Nat → Int → Int} (hS : ∀ n, n < 80 → hI h (t + n) = S n) {g s p : Int} (hg : 0 ≤ g ∧ g < 5) (hP : 1 ≤ cSe S g 4 ∧ cSe S g 4 ≤ 20) (hs : 0 ≤ s ∧ s ≤ 100000) {Q : Int → HP → Prop} (K : Q (cSlt S g s p) h) : CaI (d + 1) 107 [.inr (some (t + (11 + 7 * g.toNat))), .inl s, .inl p] h Q := by
  have hC : cod 107 = c_H_slotFor := rfl
  refine CaI.start rfl ?_
  have hm := mul_div_le (a := s + cSe S g 4 - 1) (p := cSe S g 4) (by omega) (by omega)
  refine x_1 (p' := 1) hC rfl rfl rfl rfl ?_
  refine z_hr0 (p' := 2) hK (by omega) (by omega) hC rfl rfl ?_
  refine x_1 (p' := 3) hC rfl rfl rfl rfl ?_
  refine z_sl (p' := 4) hK hS (by omega) (by omega) hC rfl rfl rfl (by omega) (by omega) ?_
  refine x_stI3 (p' := 5) hC rfl rfl rfl ?_
  refine x_1 (p' := 6) hC rfl rfl rfl rfl ?_
  refine x_1 (p' := 7) hC rfl rfl rfl rfl ?_
  refine x_icgt (p' := 8) hC rfl rfl (fun c7 => ?_) (fun c7 => ?_)
  · refine x_1 (p' := 19) hC rfl rfl rfl rfl ?_
    refine x_iret hC rfl rfl rfl ⟨_, rfl, ?_⟩
    refine eqK K ?_
    unfold cSlt
    repeat (first | rw [if_pos (by omega)] | rw [if_neg (by omega)])
  · refine x_1 (p' := 9) hC rfl rfl rfl rfl ?_
    refine x_1 (p' := 10) hC rfl rfl rfl rfl ?_
    refine x_add (p' := 11) hC rfl rfl rfl (⟨by omega, by omega⟩) ?_
    refine x_1 (p' := 12) hC rfl rfl rfl rfl ?_
    refine x_sub (p' := 13) hC rfl rfl rfl (⟨by omega, by omega⟩) ?_
    refine x_1 (p' := 14) hC rfl rfl rfl rfl ?_
    refine x_cIS2 (p' := 15) (n := 189) hC rfl rfl rfl rfl rfl ?_
    refine sp_P_quotient ?_
    rw [if_pos (by omega), wr_tdiv (by omega) (by omega) (by omega)]
    refine x_1 (p' := 16) hC rfl rfl rfl rfl ?_
    refine x_mul (p' := 17) hC rfl rfl rfl (⟨by omega, by omega⟩) ?_
    refine x_1 (p' := 19) hC rfl rfl rfl rfl ?_
    refine x_iret hC rfl rfl rfl ⟨_, rfl, ?_⟩
    refine eqK K ?_
    unfold cSlt
    repeat (first | rw [if_pos (by omega)] | rw [if_neg (by omega)])
set_option maxRecDepth 20000 in
set_option maxHeartbeats 2000000 in
theorem sp_H_waitLeft {d : Nat} {h : HP} {t : Nat} {o : Nat → Nat} {w : Nat → Nat × Nat} {S : Nat → Int → Int} {R : Nat → List FV} (T : TR t h o w S R) {g s tm : Int} (hg : 0 ≤ g ∧ g < 5) (hs : 0 ≤ s ∧ s < ((kR R g).length : Nat)) (h2 : 0 ≤ gt (kR R g) s 2 ∧ gt (kR R g) s 2 ≤ 100000) (h3 : 0 ≤ gt (kR R g) s 3 ∧ gt (kR R g) s 3 ≤ 100000) (hw : 0 ≤ cSe S g 0 ∧ cSe S g 0 ≤ 40) (htm : 0 ≤ tm ∧ tm ≤ 100000) {Q : Int → HP → Prop} (K : Q (cWait S (kR R g) g s tm) h) : CaI (d + 1) 108 [.inr (some (t + (11 + 7 * g.toNat))), .inl s, .inl tm] h Q := by
  have hC : cod 108 = c_H_waitLeft := rfl
  refine CaI.start rfl ?_
  obtain ⟨p1, p2, arr, ad, W, p3, p4⟩ := T.hrow hg.1 hg.2
  have hK := T.1
  have hS := T.2.2.1
  have hl := W.len
  refine x_1 (p' := 1) hC rfl rfl rfl rfl ?_
  refine z_hr1 (p' := 2) hK (by omega) (by omega) hC rfl rfl ?_
  refine z_rf (p' := 3) W hC rfl rfl ?_
  refine x_1 (p' := 4) hC rfl rfl rfl rfl ?_
  refine z_ra (p' := 5) W hC rfl rfl rfl (by omega) (by omega) (fun hF4 hV4 => ?_)
  refine x_stA3 (p' := 6) hC rfl rfl rfl ?_
  refine x_1 (p' := 7) hC rfl rfl rfl rfl ?_
  refine z_hr0 (p' := 8) hK (by omega) (by omega) hC rfl rfl ?_
  refine x_1 (p' := 9) hC rfl rfl rfl rfl ?_
  refine z_sl (p' := 10) hK hS (by omega) (by omega) hC rfl rfl rfl (by omega) (by omega) ?_
  refine x_ifne (p' := 11) hC rfl rfl (fun c10 => ?_) (fun c10 => ?_)
  · refine x_1 (p' := 15) hC rfl rfl rfl rfl ?_
    refine z_fg (p' := 16) (kz := 3) hF4 hV4 hC rfl rfl rfl rfl ?_
    refine x_stI4 (p' := 17) hC rfl rfl rfl ?_
    refine x_1 (p' := 18) hC rfl rfl rfl rfl ?_
    refine x_1 (p' := 19) hC rfl rfl rfl rfl ?_
    refine x_1 (p' := 20) hC rfl rfl rfl rfl ?_
    refine z_hr0 (p' := 21) hK (by omega) (by omega) hC rfl rfl ?_
    refine x_1 (p' := 22) hC rfl rfl rfl rfl ?_
    refine z_sl (p' := 23) hK hS (by omega) (by omega) hC rfl rfl rfl (by omega) (by omega) ?_
    refine x_add (p' := 24) hC rfl rfl rfl (⟨by omega, by omega⟩) ?_
    refine x_1 (p' := 25) hC rfl rfl rfl rfl ?_
    refine x_sub (p' := 26) hC rfl rfl rfl (⟨by omega, by omega⟩) ?_
    refine x_max (p' := 27) hC rfl rfl rfl ?_
    refine x_iret hC rfl rfl rfl ⟨_, rfl, ?_⟩
    refine eqK K ?_
    unfold cWait
    repeat (first | rw [if_pos (by omega)] | rw [if_neg (by omega)])
  · refine x_1 (p' := 12) hC rfl rfl rfl rfl ?_
    refine z_fg (p' := 13) (kz := 2) hF4 hV4 hC rfl rfl rfl rfl ?_
    refine x_1 (p' := 16) hC rfl rfl rfl rfl ?_
    refine x_stI4 (p' := 17) hC rfl rfl rfl ?_
    refine x_1 (p' := 18) hC rfl rfl rfl rfl ?_
    refine x_1 (p' := 19) hC rfl rfl rfl rfl ?_
    refine x_1 (p' := 20) hC rfl rfl rfl rfl ?_
    refine z_hr0 (p' := 21) hK (by omega) (by omega) hC rfl rfl ?_
    refine x_1 (p' := 22) hC rfl rfl rfl rfl ?_
    refine z_sl (p' := 23) hK hS (by omega) (by omega) hC rfl rfl rfl (by omega) (by omega) ?_
    refine x_add (p' := 24) hC rfl rfl rfl (⟨by omega, by omega⟩) ?_
    refine x_1 (p' := 25) hC rfl rfl rfl rfl ?_
    refine x_sub (p' := 26) hC rfl rfl rfl (⟨by omega, by omega⟩) ?_
    refine x_max (p' := 27) hC rfl rfl rfl ?_
    refine x_iret hC rfl rfl rfl ⟨_, rfl, ?_⟩
    refine eqK K ?_
    unfold cWait
    repeat (first | rw [if_pos (by omega)] | rw [if_neg (by omega)])
def cTouch (S : Nat → Int → Int) (g : Int) : Prop := cZ S g = 0 ∧ cH S g 5 = 0
def cCanB (S : Nat → Int → Int) (g p : Int) : Prop := cTouch S g ∧ (0 ≤ cH S g 3 → cTouch S (cH S g 3) ∧ rGo p (cSe S (cH S g 3) 4))
def cCanN (S : Nat → Int → Int) (g p n : Int) : Prop := cCanB S g p ∧ ∀ c, 0 ≤ c → c < n → cChild S g c → rGo p (cPer S c)
theorem cCanN_succ {S : Nat → Int → Int} {g p n : Int} (hn : 0 ≤ n) : cCanN S g p (n + 1) ↔ cCanN S g p n ∧ (cChild S g n → rGo p (cPer S n)) := by
  constructor
  · exact fun h => ⟨⟨h.1, fun c h0 h1 => h.2 c h0 (by omega)⟩, h.2 n hn (by omega)⟩
  · intro h
    refine ⟨h.1.1, fun c h0 h1 hc => ?_⟩
    by_cases hcn : c = n
    · subst hcn; exact h.2 hc
    · exact h.1.2 c h0 (by omega) hc
set_option maxRecDepth 20000 in
theorem lp_T_can {d : Nat} {h : HP} {t : Nat} (hK : SkT t h) {S : Nat → Int → Int} (hS : ∀ n, n < 80 → hI h (t + n) = S n) (hc : CI S) {g p a : Int} (hp : 1 ≤ p ∧ p ≤ 20) {Q : Int → HP → Prop} (K : Q (b2i (cCanN S g p 15)) h) (k : Nat) : ∀ (i : Int), (15 - i).toNat < k → (0 ≤ i ∧ i ≤ 15) → (cCanN S g p i) → At (d + 2) 119 38 [some (.inr (some t)), some (.inl g), some (.inl p), some (.inl a), some (.inl i)] [] h (fun v h' => ∃ x, v = some (.inl x) ∧ Q x h') := by
  have hC : cod 119 = c_T_canHavePeriod := rfl
  induction k with
  | zero =>
    intro i hk
    exact absurd hk (Nat.not_lt_zero _)
  | succ k ih =>
    intro i hk hI0 hI1
    have hsu := cCanN_succ (S := S) (g := g) (p := p) hI0.1
    refine x_1 (p' := 39) hC rfl rfl rfl rfl ?_
    refine x_1 (p' := 40) hC rfl rfl rfl rfl ?_
    refine x_icge (p' := 41) hC rfl rfl (fun c40 => ?_) (fun c40 => ?_)
    · refine x_1 (p' := 57) hC rfl rfl rfl rfl ?_
      refine x_zret hC rfl rfl rfl (by first | omega | exact b2i_01 _) ⟨_, rfl, ?_⟩
      exact eqK K (b2i_t (by rw [show (15 : Int) = i by omega]; exact hI1))
    · refine x_1 (p' := 42) hC rfl rfl rfl rfl ?_
      refine x_1 (p' := 43) hC rfl rfl rfl rfl ?_
      refine x_1 (p' := 44) hC rfl rfl rfl rfl ?_
      refine x_cIV2 (p' := 45) (n := 121) hC rfl rfl rfl rfl rfl (hK.ty) ?_
      refine sp_T_isChild hK hS hc (by omega) ?_
      refine x_ifeq (p' := 46) hC rfl rfl (fun c45 => ?_) (fun c45 => ?_)
      · have c45 := b2i_0.mp c45
        refine x_inc4 (p' := 55) hC rfl rfl (⟨by omega, by omega⟩) ?_
        refine x_1 (p' := 38) hC rfl rfl rfl rfl ?_
        refine ih _ (by omega) (by omega) (hsu.mpr ⟨hI1, fun q => ?_⟩)
        first
          | exact absurd q c45
          | exact c51
      · have c45 := b2i_n0.mp c45
        have hpp := cPer_child hc hI0.1 c45
        refine x_1 (p' := 47) hC rfl rfl rfl rfl ?_
        refine x_1 (p' := 48) hC rfl rfl rfl rfl ?_
        refine x_1 (p' := 49) hC rfl rfl rfl rfl ?_
        refine x_cIV1 (p' := 50) (n := 122) hC rfl rfl rfl rfl rfl (hK.ty) ?_
        refine sp_T_periodOf hK hS (by omega) ?_
        refine x_cIS2 (p' := 51) (n := 190) hC rfl rfl rfl rfl rfl ?_
        refine sp_P_goTogether (by omega) (by omega) ?_
        refine x_ifne (p' := 52) hC rfl rfl (fun c51 => ?_) (fun c51 => ?_)
        · have c51 := b2i_n0.mp c51
          refine x_inc4 (p' := 55) hC rfl rfl (⟨by omega, by omega⟩) ?_
          refine x_1 (p' := 38) hC rfl rfl rfl rfl ?_
          refine ih _ (by omega) (by omega) (hsu.mpr ⟨hI1, fun q => ?_⟩)
          first
            | exact absurd q c45
            | exact c51
        · have c51 := b2i_0.mp c51
          refine x_1 (p' := 53) hC rfl rfl rfl rfl ?_
          refine x_zret hC rfl rfl rfl (by first | omega | exact b2i_01 _) ⟨_, rfl, ?_⟩
          exact eqK K (b2i_f (fun q => c51 (q.2 i hI0.1 (by omega) c45)))
set_option maxRecDepth 20000 in
set_option maxHeartbeats 2000000 in
theorem sp_T_canHavePeriod {d : Nat} {h : HP} {t : Nat} (hK : SkT t h) {S : Nat → Int → Int} (hS : ∀ n, n < 80 → hI h (t + n) = S n) (hc : CI S) {g p : Int} (hg : 0 ≤ g ∧ g < cT S 4) (hp : 1 ≤ p ∧ p ≤ 20) {Q : Int → HP → Prop} (K : Q (b2i (cCanN S g p 15)) h) : CaI (d + 2) 119 [.inr (some t), .inl g, .inl p] h Q := by
  have hC : cod 119 = c_T_canHavePeriod := rfl
  refine CaI.start rfl ?_
  have h4 := hc.1
  have h5 := hc.2.1
  have hx := hc.2.2.1 g hg.1 hg.2
  have hy := fun q => hc.2.2.1 (cH S g 3) q (by omega)
  refine x_1 (p' := 1) hC rfl rfl rfl rfl ?_
  refine z_tr (p' := 2) (n := 1) hK hC rfl rfl rfl rfl ?_
  refine x_1 (p' := 3) hC rfl rfl rfl rfl ?_
  refine z_hub (p' := 4) hK hC rfl rfl rfl (by omega) (by omega) ?_
  refine z_hg (p' := 5) (kz := 3) hK hS (by omega) (by omega) hC rfl rfl rfl rfl ?_
  refine x_stI3 (p' := 6) hC rfl rfl rfl ?_
  refine x_1 (p' := 7) hC rfl rfl rfl rfl ?_
  refine z_tr (p' := 8) (n := 1) hK hC rfl rfl rfl rfl ?_
  refine x_1 (p' := 9) hC rfl rfl rfl rfl ?_
  refine z_hub (p' := 10) hK hC rfl rfl rfl (by omega) (by omega) ?_
  refine x_cIV0 (p' := 11) (n := 106) hC rfl rfl rfl rfl rfl (hK.hty (by omega) (by omega)) ?_
  refine sp_H_isUntouched hK hS (by omega) ?_
  refine x_ifne (p' := 12) hC rfl rfl (fun c11 => ?_) (fun c11 => ?_)
  · have c11 := b2i_n0.mp c11
    refine x_1 (p' := 15) hC rfl rfl rfl rfl ?_
    refine x_1 (p' := 16) hC rfl rfl rfl rfl ?_
    refine x_cIV1 (p' := 17) (n := 111) hC rfl rfl rfl rfl rfl (hK.ty) ?_
    refine sp_T_hasHub hK hS hc ?_
    refine x_ifeq (p' := 18) hC rfl rfl (fun c17 => ?_) (fun c17 => ?_)
    · have c17 := b2i_0.mp c17
      refine x_1 (p' := 37) hC rfl rfl rfl rfl ?_
      refine x_stI4 (p' := 38) hC rfl rfl rfl ?_
      refine lp_T_can hK hS hc hp K _ 0 (Nat.lt_succ_self _) (by omega) ⟨⟨c11, fun q => ?_⟩, fun c h0 h1 => absurd h1 (by omega)⟩
      first
        | exact ⟨c23, c33⟩
        | (exfalso; omega)
    · have c17 := b2i_n0.mp c17
      have hy2 := hy (by omega)
      refine x_1 (p' := 19) hC rfl rfl rfl rfl ?_
      refine z_tr (p' := 20) (n := 1) hK hC rfl rfl rfl rfl ?_
      refine x_1 (p' := 21) hC rfl rfl rfl rfl ?_
      refine z_hub (p' := 22) hK hC rfl rfl rfl (by omega) (by omega) ?_
      refine x_cIV0 (p' := 23) (n := 106) hC rfl rfl rfl rfl rfl (hK.hty (by omega) (by omega)) ?_
      refine sp_H_isUntouched hK hS (by omega) ?_
      refine x_ifeq (p' := 24) hC rfl rfl (fun c23 => ?_) (fun c23 => ?_)
      · have c23 := b2i_0.mp c23
        refine x_1 (p' := 35) hC rfl rfl rfl rfl ?_
        refine x_zret hC rfl rfl rfl (by first | omega | exact b2i_01 _) ⟨_, rfl, ?_⟩
        exact eqK K (b2i_f (fun q => by
          have q2 := q.1.2 (by omega)
          first
            | exact c23 q2.1
            | exact c33 q2.2))
      · have c23 := b2i_n0.mp c23
        refine x_1 (p' := 25) hC rfl rfl rfl rfl ?_
        refine x_1 (p' := 26) hC rfl rfl rfl rfl ?_
        refine z_tr (p' := 27) (n := 1) hK hC rfl rfl rfl rfl ?_
        refine x_1 (p' := 28) hC rfl rfl rfl rfl ?_
        refine z_hub (p' := 29) hK hC rfl rfl rfl (by omega) (by omega) ?_
        refine z_hr0 (p' := 30) hK (by omega) (by omega) hC rfl rfl ?_
        refine x_1 (p' := 31) hC rfl rfl rfl rfl ?_
        refine z_sl (p' := 32) hK hS (by omega) (by omega) hC rfl rfl rfl (by omega) (by omega) ?_
        refine x_cIS2 (p' := 33) (n := 190) hC rfl rfl rfl rfl rfl ?_
        refine sp_P_goTogether (by omega) (by omega) ?_
        refine x_ifne (p' := 34) hC rfl rfl (fun c33 => ?_) (fun c33 => ?_)
        · have c33 := b2i_n0.mp c33
          refine x_1 (p' := 37) hC rfl rfl rfl rfl ?_
          refine x_stI4 (p' := 38) hC rfl rfl rfl ?_
          refine lp_T_can hK hS hc hp K _ 0 (Nat.lt_succ_self _) (by omega) ⟨⟨c11, fun q => ?_⟩, fun c h0 h1 => absurd h1 (by omega)⟩
          first
            | exact ⟨c23, c33⟩
            | (exfalso; omega)
        · have c33 := b2i_0.mp c33
          refine x_1 (p' := 35) hC rfl rfl rfl rfl ?_
          refine x_zret hC rfl rfl rfl (by first | omega | exact b2i_01 _) ⟨_, rfl, ?_⟩
          exact eqK K (b2i_f (fun q => by
            have q2 := q.1.2 (by omega)
            first
              | exact c23 q2.1
              | exact c33 q2.2))
  · have c11 := b2i_0.mp c11
    refine x_1 (p' := 13) hC rfl rfl rfl rfl ?_
    refine x_zret hC rfl rfl rfl (by first | omega | exact b2i_01 _) ⟨_, rfl, ?_⟩
    exact eqK K (b2i_f (fun q => c11 q.1.1))
/-- the class's two tables -/
def Sta (h : HP) : Prop := (hTy h 0 = (100, 5) ∧ hTy h 1 = (100, 5)) ∧ hI h 0 = (fun j => if j = 4 then 1 else 0) ∧ hI h 1 = (fun j => if j = 0 then 40 else if j = 1 then 1 else if j = 2 then 2 else 20)
noncomputable def cSetE (S : Nat → Int → Int) (g w v : Int) : Int := if ¬ (cHub S g ∧ (0 ≤ w ∧ w ≤ 4) ∧ (if w = 4 then 1 else 0) ≤ v ∧ v ≤ sMax w) then -1000001 else cif (w = 4 → cCanN S g v 15) 0 (-1000002)
set_option maxRecDepth 20000 in
set_option maxHeartbeats 2000000 in
theorem sp_T_settingError {d : Nat} {h : HP} (hA : Sta h) {t : Nat} (hK : SkT t h) {S : Nat → Int → Int} (hS : ∀ n, n < 80 → hI h (t + n) = S n) (hc : CI S) {g w v : Int} {Q : Int → HP → Prop} (K : Q (cSetE S g w v) h) : CaI (d + 3) 118 [.inr (some t), .inl g, .inl w, .inl v] h Q := by
  have hC : cod 118 = c_T_settingError := rfl
  refine CaI.start rfl ?_
  have h4 := hc.1
  have h5 := hc.2.1
  obtain ⟨⟨b0, b1⟩, b2, b3⟩ := hA
  have e0 : hI h 0 w = (if w = 4 then 1 else 0) := by rw [b2]
  have e1 : hI h 1 w = (if w = 0 then 40 else if w = 1 then 1 else if w = 2 then 2 else 20) := by rw [b3]
  refine x_1 (p' := 1) hC rfl rfl rfl rfl ?_
  refine x_1 (p' := 2) hC rfl rfl rfl rfl ?_
  refine x_cIV1 (p' := 3) (n := 111) hC rfl rfl rfl rfl rfl (hK.ty) ?_
  refine sp_T_hasHub hK hS hc ?_
  refine x_ifeq (p' := 4) hC rfl rfl (fun c3 => ?_) (fun c3 => ?_)
  · have c3 := b2i_0.mp c3
    refine x_ldc (p' := 19) (v := (-1000001)) hC rfl rfl (by decide) ?_
    refine x_iret hC rfl rfl rfl ⟨_, rfl, ?_⟩
    refine eqK K ?_
    unfold cSetE
    first
      | rw [if_pos (by intro q; first | omega | (have q2 := q.2.2; unfold sMax at q2; exact c17 q2))]
      | (rw [if_neg (by intro q; exact q ⟨by omega, by omega, by have q2 := c17; unfold sMax; exact q2⟩)]
         first
           | exact cif_t (fun _ => c27)
           | exact cif_t (fun q => absurd q (by omega))
           | exact cif_f (fun q => c27 (q (by omega))))
  · have c3 := b2i_n0.mp c3
    refine x_1 (p' := 5) hC rfl rfl rfl rfl ?_
    refine x_1 (p' := 6) hC rfl rfl rfl rfl ?_
    refine x_1 (p' := 7) hC rfl rfl rfl rfl ?_
    refine x_cIS3 (p' := 8) (n := 187) hC rfl rfl rfl rfl rfl ?_
    refine sp_P_isWithin ?_
    refine x_ifeq (p' := 9) hC rfl rfl (fun c8 => ?_) (fun c8 => ?_)
    · have c8 := b2i_0.mp c8
      refine x_ldc (p' := 19) (v := (-1000001)) hC rfl rfl (by decide) ?_
      refine x_iret hC rfl rfl rfl ⟨_, rfl, ?_⟩
      refine eqK K ?_
      unfold cSetE
      first
        | rw [if_pos (by intro q; first | omega | (have q2 := q.2.2; unfold sMax at q2; exact c17 q2))]
        | (rw [if_neg (by intro q; exact q ⟨by omega, by omega, by have q2 := c17; unfold sMax; exact q2⟩)]
           first
             | exact cif_t (fun _ => c27)
             | exact cif_t (fun q => absurd q (by omega))
             | exact cif_f (fun q => c27 (q (by omega))))
    · have c8 := b2i_n0.mp c8
      refine x_1 (p' := 10) hC rfl rfl rfl rfl ?_
      refine x_1 (p' := 11) hC rfl rfl rfl rfl ?_
      refine x_1 (p' := 12) hC rfl rfl rfl rfl ?_
      refine x_iald (p' := 13) hC rfl rfl rfl b0 (by omega) (by omega) ?_
      rw [e0]
      refine x_1 (p' := 14) hC rfl rfl rfl rfl ?_
      refine x_1 (p' := 15) hC rfl rfl rfl rfl ?_
      refine x_iald (p' := 16) hC rfl rfl rfl b1 (by omega) (by omega) ?_
      rw [e1]
      refine x_cIS3 (p' := 17) (n := 187) hC rfl rfl rfl rfl rfl ?_
      refine sp_P_isWithin ?_
      refine x_ifne (p' := 18) hC rfl rfl (fun c17 => ?_) (fun c17 => ?_)
      · have c17 := b2i_n0.mp c17
        have c17 := of_eq_true (eq_true c17)
        refine x_1 (p' := 21) hC rfl rfl rfl rfl ?_
        refine x_1 (p' := 22) hC rfl rfl rfl rfl ?_
        refine x_icne (p' := 23) hC rfl rfl (fun c22 => ?_) (fun c22 => ?_)
        · refine x_1 (p' := 29) hC rfl rfl rfl rfl ?_
          refine x_1 (p' := 31) hC rfl rfl rfl rfl ?_
          refine x_iret hC rfl rfl rfl ⟨_, rfl, ?_⟩
          refine eqK K ?_
          unfold cSetE
          first
            | rw [if_pos (by intro q; first | omega | (have q2 := q.2.2; unfold sMax at q2; exact c17 q2))]
            | (rw [if_neg (by intro q; exact q ⟨by omega, by omega, by have q2 := c17; unfold sMax; exact q2⟩)]
               first
                 | exact cif_t (fun _ => c27)
                 | exact cif_t (fun q => absurd q (by omega))
                 | exact cif_f (fun q => c27 (q (by omega))))
        · refine x_1 (p' := 24) hC rfl rfl rfl rfl ?_
          refine x_1 (p' := 25) hC rfl rfl rfl rfl ?_
          refine x_1 (p' := 26) hC rfl rfl rfl rfl ?_
          refine x_cIV2 (p' := 27) (n := 119) hC rfl rfl rfl rfl rfl (hK.ty) ?_
          have hsm : v ≤ 20 := by
            have := c17.2
            split at this <;> first | omega | (split at this <;> first | omega | (split at this <;> omega))
          refine sp_T_canHavePeriod hK hS hc (by omega) (by have := c17.1; rw [if_pos (by omega)] at this; omega) ?_
          refine x_ifeq (p' := 28) hC rfl rfl (fun c27 => ?_) (fun c27 => ?_)
          · have c27 := b2i_0.mp c27
            refine x_ldc (p' := 31) (v := (-1000002)) hC rfl rfl (by decide) ?_
            refine x_iret hC rfl rfl rfl ⟨_, rfl, ?_⟩
            refine eqK K ?_
            unfold cSetE
            first
              | rw [if_pos (by intro q; first | omega | (have q2 := q.2.2; unfold sMax at q2; exact c17 q2))]
              | (rw [if_neg (by intro q; exact q ⟨by omega, by omega, by have q2 := c17; unfold sMax; exact q2⟩)]
                 first
                   | exact cif_t (fun _ => c27)
                   | exact cif_t (fun q => absurd q (by omega))
                   | exact cif_f (fun q => c27 (q (by omega))))
          · have c27 := b2i_n0.mp c27
            refine x_1 (p' := 29) hC rfl rfl rfl rfl ?_
            refine x_1 (p' := 31) hC rfl rfl rfl rfl ?_
            refine x_iret hC rfl rfl rfl ⟨_, rfl, ?_⟩
            refine eqK K ?_
            unfold cSetE
            first
              | rw [if_pos (by intro q; first | omega | (have q2 := q.2.2; unfold sMax at q2; exact c17 q2))]
              | (rw [if_neg (by intro q; exact q ⟨by omega, by omega, by have q2 := c17; unfold sMax; exact q2⟩)]
                 first
                   | exact cif_t (fun _ => c27)
                   | exact cif_t (fun q => absurd q (by omega))
                   | exact cif_f (fun q => c27 (q (by omega))))
      · have c17 := b2i_0.mp c17
        have c17 := of_eq_true (eq_true c17)
        refine x_ldc (p' := 19) (v := (-1000001)) hC rfl rfl (by decide) ?_
        refine x_iret hC rfl rfl rfl ⟨_, rfl, ?_⟩
        refine eqK K ?_
        unfold cSetE
        first
          | rw [if_pos (by intro q; first | omega | (have q2 := q.2.2; unfold sMax at q2; exact c17 q2))]
          | (rw [if_neg (by intro q; exact q ⟨by omega, by omega, by have q2 := c17; unfold sMax; exact q2⟩)]
             first
               | exact cif_t (fun _ => c27)
               | exact cif_t (fun q => absurd q (by omega))
               | exact cif_f (fun q => c27 (q (by omega))))

/-! THE INVARIANTS: sending, taking off; what is counted -/
theorem CoreS.un {S : Nat → Int → Int} {R : Nat → List FV} (h : CoreS S R) {u k x : Int} (hu : 0 ≤ u ∧ u < 5) (hk : k = 3 ∨ (k = 2 ∧ x = 1)) : CoreS (upX S (46 + u.toNat) k x) R ∧ SqC S (upX S (46 + u.toNat) k x) := by
  obtain ⟨hc, h6, hh, ho, h7, hl⟩ := h
  have et : cT (upX S (46 + u.toNat) k x) = cT S := upX_ne (by omega)
  have eh : ∀ g : Int, 0 ≤ g → g < 5 → cH (upX S (46 + u.toNat) k x) g = cH S g ∧ cSe (upX S (46 + u.toNat) k x) g = cSe S g := fun g a b => ⟨upX_ne (by omega), upX_ne (by omega)⟩
  have eu : ∀ y j : Int, 0 ≤ y → ¬ (y = u ∧ j = k) → cU (upX S (46 + u.toNat) k x) y j = cU S y j := fun y j a q => upX_at (fun z => q ⟨by omega, z.2⟩)
  have sc : SqC S (upX S (46 + u.toNat) k x) := ⟨by rw [et]; exact ⟨rfl, rfl⟩, fun g a b => by rw [(eh g a b).1, (eh g a b).2]; exact ⟨rfl, rfl, rfl⟩, fun y a b => ⟨eu y 0 a (by omega), eu y 1 a (by omega)⟩⟩
  refine ⟨⟨hc.sq sc (fun y a b => ?_), by rw [et]; exact h6, fun g a b => ?_, ho.sq (by rw [et]) (by rw [et]) (by rw [et]; exact Int.le_refl _) (fun n hn => SF_upX (by omega) (by omega) (by omega)), by rw [et, (eh 0 (by decide) (by decide)).1]; exact h7, fun z => ?_⟩, sc⟩
  · by_cases q : y = u ∧ (2 : Int) = k
    · have e : cU (upX S (46 + u.toNat) k x) y 2 = x := by rw [q.1, q.2]; exact upX_is
      rw [e]; omega
    · rw [eu y 2 a q]; exact (hc.2.2.2.2.1 y a b).2.2
  · have e := (eh g a (by omega)).1
    exact (hh g a b).sq ⟨a, b⟩ sc (by rw [e]) (by rw [e]) (by rw [et]; exact Int.le_refl _) rfl (SF_upX (by omega) (by omega) (by omega))
  · rw [et] at z
    have := hl z
    unfold OFS at *
    rw [et, SF_upX (by omega) (by omega) (by omega), (eh 0 (by decide) (by decide)).1]
    exact this
theorem IvvN.off {n : Int} {S : Nat → Int → Int} {R : Nat → List FV} (h : IvvN n S R) {u : Int} (hu : 0 ≤ u ∧ u < 5) : IvvN n (upX S (46 + u.toNat) 2 1) R := by
  obtain ⟨a, b, c, d⟩ := h
  obtain ⟨p, q⟩ := a.un hu (x := 1) (Or.inr ⟨rfl, rfl⟩)
  refine ⟨p, fun v hv => (b v hv).sq a.1 q, c, fun y x z => ?_⟩
  have e : cU (upX S (46 + u.toNat) 2 1) y 3 = cU S y 3 := upX_at (by omega)
  rw [e]
  exact d y x z
theorem IvvN.more {n m : Int} {S : Nat → Int → Int} {R : Nat → List FV} (h : IvvN n S R) (hn : n ≤ m) : IvvN m S R := by
  obtain ⟨a, b, ⟨c, c4⟩, d⟩ := h
  exact ⟨a, b, ⟨by omega, c4⟩, fun y x z => by have := d y x z; omega⟩
theorem IvvN.sent {n : Int} {S : Nat → Int → Int} {R : Nat → List FV} (h : IvvN n S R) (hn : n ≤ 100) {u s1 v fl tk : Int} (hu : 0 ≤ u ∧ u < 5) (h0 : cDep S u s1 v fl tk = 0) : IvvN (n + 1) (upX (upX (upF S 6 (cDpV S u s1 v fl tk)) 3 1 (((R 3).length : Nat) + 1)) (46 + u.toNat) 3 (wr (cU S u 3 + 1))) (upR R 3 (insA (R 3) ((R 3).length : Nat) (cDpV S u s1 v fl tk))) := by
  obtain ⟨⟨_, ⟨d1, d2⟩, _, ⟨d3, d4⟩, _⟩, ⟨e1, e2, e3⟩, _⟩ := cDep_0 h0
  have V0 : cDpV S u s1 v fl tk 0 = 5 + u := by
    unfold cDpV fBeg
    rw [ups_ne (by decide), fPut_ne (by omega) (by omega) (by omega), ups_ne (by decide), ups_ne (by decide), ups_ne (by decide), ups_eq rfl]
  have V1 : cDpV S u s1 v fl tk 1 = s1 := by
    unfold cDpV fBeg
    rw [ups_ne (by decide), fPut_ne (by omega) (by omega) (by omega), ups_ne (by decide), ups_ne (by decide), ups_eq rfl]
  have VF : FlK (cDpV S u s1 v fl tk) := (FlK.beg.put hu ⟨d3, by omega⟩).up (fun k hk => ups_ne (by omega))
  generalize cDpV S u s1 v fl tk = V at *
  obtain ⟨a, b, ⟨c, c4⟩, d⟩ := h
  have x1 : Sq S (upX (upF S 6 V) 3 1 (((R 3).length : Nat) + 1)) := Sq.f6.trans Sq.up3
  have a1 : CoreS (upX (upF S 6 V) 3 1 (((R 3).length : Nat) + 1)) (upR R 3 (insA (R 3) ((R 3).length : Nat) V)) := a.sqq x1 (fun g _ _ => kR_up3)
  obtain ⟨p, q⟩ := a1.un hu (k := 3) (x := wr (cU S u 3 + 1)) (Or.inl rfl)
  have sc := x1.c.trans q
  have i3 : upR R 3 (insA (R 3) ((R 3).length : Nat) V) 3 = insA (R 3) ((R 3).length : Nat) V := upR_eq
  have iT : TKR (upR R 3 (insA (R 3) ((R 3).length : Nat) V)) = TKR R := by unfold TKR; rw [kR_up3, kR_up3, kR_up3, kR_up3]
  have hch : ChOK (5 + u) := Or.inr (by omega)
  have hw : WayK S V := by
    have st := slB_le a.1 (a.1.tg hch)
    have t6 := a.2.1
    refine ⟨by rw [V0]; exact hch, by rw [V0, V1]; omega, ?_, VF⟩
    rw [V0, V1]
    unfold cPer
    rw [if_neg (by omega), show 5 + u - 5 = u by omega]
    exact e2
  refine ⟨p, fun w hw2 => ?_, ⟨?_, by rw [kR_up3]; exact c4⟩, fun y x z => ?_⟩
  · rw [i3, insA_mem] at hw2
    rcases hw2 with r | r
    · rw [r]; exact hw.sq a.1 sc
    · exact (b w r).sq a.1 sc
  · rw [i3, insA_len, iT]; omega
  · have dd := d y x z
    rw [i3, insA_perm.countP_eq]
    by_cases r : y = u
    · have du := d u hu.1 hu.2
      have e : cU (upX (upX (upF S 6 V) 3 1 (((R 3).length : Nat) + 1)) (46 + u.toNat) 3 (wr (cU S u 3 + 1))) y 3 = wr (cU S u 3 + 1) := by rw [r]; exact upX_is
      rw [e, wr_id ⟨by omega, by omega⟩, List.countP_cons_of_pos (p := pd fun (v : FV) => v 0 = 5 + y) (pd_t.mpr (show V 0 = 5 + y by rw [V0, r])), r]
      omega
    · have e : cU (upX (upX (upF S 6 V) 3 1 (((R 3).length : Nat) + 1)) (46 + u.toNat) 3 (wr (cU S u 3 + 1))) y 3 = cU S y 3 := by
        rw [← x1.u]
        exact upX_at (fun s => r (by omega))
      rw [e, List.countP_cons_of_neg (by rw [Bool.not_eq_true]; exact pd_f.mpr (show ¬ (V 0 = 5 + y) by omega))]
      omega
/-- every unit that is on is a unit of the root -/
theorem tow0 {S : Nat → Int → Int} (h : CfgS S) {u : Int} (hu : 0 ≤ u ∧ u < 5) : ¬ cTow S u 0 = -1 ↔ cU S u 2 = 0 := by
  have hx := (h.2.2.2.2.1 u hu.1 hu.2).1
  obtain ⟨_, ⟨p0, p1, p2, p3⟩, _⟩ := h
  unfold cTow
  by_cases q : cU S u 2 = 0
  · rw [if_pos q]
    refine ⟨fun _ => q, fun _ => ?_⟩
    generalize cU S u 0 = x at *
    rcases g4 hx.1 hx.2 with e | e | e | e
    · rw [e, cTw, if_neg (by decide), if_pos rfl]; omega
    · rw [e, cTw, if_pos (by decide), p1, cTw, if_neg (by decide), if_pos rfl]; decide
    · rw [e, cTw, if_pos (by decide), p2, cTw, if_neg (by decide), if_pos rfl]; decide
    · rw [e, cTw, if_pos (by decide), p3, cTw, if_pos (by decide), p2, cTw, if_neg (by decide), if_pos rfl]; decide
  · rw [if_neg q]
    exact ⟨fun z => absurd rfl z, fun z => absurd z q⟩
theorem und0 {S : Nat → Int → Int} (h : CfgS S) : cUnder S 0 = fI 5 (fun u n => n + b2i (cU S u 2 = 0)) 0 := by
  unfold cUnder
  rw [h.1.2]
  refine fI_congr (fun u a b x => ?_)
  rw [b2i_congr (tow0 h ⟨a, b⟩)]
theorem fI_le {n : Int} (hn : 0 ≤ n) {f g : Int → Int} (h : ∀ i, 0 ≤ i → i < n → f i ≤ g i) : fI n (fun i x => x + f i) 0 ≤ fI n (fun i x => x + g i) 0 := by
  have key : ∀ k : Nat, (k : Int) ≤ n → fI (k : Int) (fun i x => x + f i) 0 ≤ fI (k : Int) (fun i x => x + g i) 0 := by
    intro k
    induction k with
    | zero => intro _; exact Int.le_refl _
    | succ k ih =>
      intro hk
      rw [show ((k + 1 : Nat) : Int) = (k : Int) + 1 by omega, fI_succ (by omega), fI_succ (by omega)]
      have := ih (by omega)
      have := h k (by omega) (by omega)
      omega
  have := key n.toNat (by omega)
  rw [Int.toNat_of_nonneg hn] at this
  exact this
theorem under_off {S : Nat → Int → Int} {R : Nat → List FV} (h : CoreS S R) {u : Int} (hu : 0 ≤ u ∧ u < 5) : cUnder (upX S (46 + u.toNat) 2 1) 0 ≤ cUnder S 0 := by
  obtain ⟨p, _⟩ := h.un hu (k := 2) (x := 1) (Or.inr ⟨rfl, rfl⟩)
  rw [und0 h.1, und0 p.1]
  refine fI_le (by decide) (fun y a b => ?_)
  by_cases q : y = u
  · have e : cU (upX S (46 + u.toNat) 2 1) y 2 = 1 := by rw [q]; exact upX_is
    rw [e, b2i_f (by decide)]
    exact (b2i_01 _).1
  · have e : cU (upX S (46 + u.toNat) 2 1) y 2 = cU S y 2 := upX_at (fun s => q (by omega))
    rw [e]; exact Int.le_refl _
/-- all frames on their way, by their children -/
noncomputable def waySum (L : List FV) : Int := (0 + cFrom L 1 + cFrom L 2 + cFrom L 3) + cFrom L (5 + 0) + cFrom L (5 + 1) + cFrom L (5 + 2) + cFrom L (5 + 3) + cFrom L (5 + 4)
theorem cFrom_is {L : List FV} {c : Int} : cFrom L c = (L.countP (pd fun v => v 0 = c) : Nat) := gtC (q := fun v => v 0 = c)
theorem waySum_is : ∀ {L : List FV}, (∀ v, v ∈ L → ChOK (v 0)) → waySum L = (L.length : Nat)
  | [], _ => by unfold waySum; rw [cFrom_is, cFrom_is, cFrom_is, cFrom_is, cFrom_is, cFrom_is, cFrom_is, cFrom_is]; rfl
  | v :: L, h => by
    have ih := waySum_is (L := L) (fun w hw => h w (List.mem_cons_of_mem _ hw))
    have hv := h v List.mem_cons_self
    unfold waySum at *
    have e : ∀ c : Int, cFrom (v :: L) c = cFrom L c + b2i (v 0 = c) := fun c => by
      rw [cFrom_is, cFrom_is]
      by_cases q : v 0 = c
      · rw [List.countP_cons_of_pos (p := pd fun (v : FV) => v 0 = c) (pd_t.mpr q), b2i_t q]; omega
      · rw [List.countP_cons_of_neg (by rw [Bool.not_eq_true]; exact pd_f.mpr q), b2i_f q]; omega
    rw [e, e, e, e, e, e, e, e, List.length_cons]
    have f : ∀ c : Int, b2i (v 0 = c) = if v 0 = c then 1 else 0 := fun c => by
      by_cases q : v 0 = c
      · rw [b2i_t q, if_pos q]
      · rw [b2i_f q, if_neg q]
    rw [f, f, f, f, f, f, f, f]
    generalize cFrom L 1 = a0 at *
    generalize cFrom L 2 = a1 at *
    generalize cFrom L 3 = a2 at *
    generalize cFrom L (5 + 0) = a3 at *
    generalize cFrom L (5 + 1) = a4 at *
    generalize cFrom L (5 + 2) = a5 at *
    generalize cFrom L (5 + 3) = a6 at *
    generalize cFrom L (5 + 4) = a7 at *
    unfold ChOK at hv
    rcases (show v 0 = 1 ∨ v 0 = 2 ∨ v 0 = 3 ∨ v 0 = 5 ∨ v 0 = 6 ∨ v 0 = 7 ∨ v 0 = 8 ∨ v 0 = 9 by omega) with z | z | z | z | z | z | z | z
    all_goals (rw [z]; simp; omega)

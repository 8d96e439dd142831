/-! THE SIMULATION: a tick, as the reference's rows -/
def RAllS (s : Int → Int) (V F : Int → Int) (g sl : Int) (r : Int → Option (Int × Int)) : Prop := ∀ u, 0 ≤ u → u < s 1 → rIsOf s g u → RRead s g u sl (r u) ∧ ∀ x y, r u = some (x, y) → V u = x ∧ F u = y
/-- one release -/
def RlS (g : Int) (s s2 : Int → Int) : Prop := rDue s g ∧ ∃ V F r, RAllS s V F g (rBehind s g (-1)) r ∧ s2 = rRel s g (rBehind s g (-1)) r V F
def AskN (g : Int) : Nat → (Int → Int) → (Int → Int) → Prop
  | 0, s, s' => s' = s
  | n + 1, s, s' => ∃ t, AskN g n s t ∧ RlS g t s'
def AskS (g : Int) (s s' : Int → Int) : Prop := ∃ j, AskN g j s s' ∧ ¬ rDue s' g
def HubR (dd hh : Int) (s s' : Int → Int) : Prop := (rDepth s hh = dd ∧ AskS hh s s') ∨ (¬ rDepth s hh = dd ∧ s' = s)
def LvN (dd : Int) : Nat → (Int → Int) → (Int → Int) → Prop
  | 0, s, s' => s' = s
  | n + 1, s, s' => ∃ t, LvN dd n s t ∧ HubR dd (n : Int) t s'
def DpN (n0 : Nat) : Nat → (Int → Int) → (Int → Int) → Prop
  | 0, s, s' => s' = s
  | m + 1, s, s' => ∃ t, DpN n0 m s t ∧ LvN (4 - (m : Int)) n0 t s'
/-- all that are due have come -/
def Arr (s s1 : Int → Int) : Prop := ∃ K : Nat, s1 = sq (ups s 2 (s 2 + 1)) K ∧ (∀ k, k < K → 0 ≤ rNext (sq (ups s 2 (s 2 + 1)) k)) ∧ rNext s1 < 0
/-- within a tick from s: the depths above dd are done, and at dd the hubs below hh -/
def InT (dd hh : Int) (s s' : Int → Int) : Prop := ∃ s1, Arr s s1 ∧ ((0 ≤ dd ∧ dd ≤ 4 ∧ ∃ t, DpN (s 0).toNat (4 - dd).toNat s1 t ∧ LvN dd hh.toNat t s') ∨ (dd < 0 ∧ DpN (s 0).toNat 5 s1 s'))
def Tk (s s' : Int → Int) : Prop := InT (-1) 0 s s'
theorem RPlain.ex (s : Int → Int) (g u c sl : Int) : ∃ r, RPlain s g u c sl r := by
  by_cases q : ∃ f, 0 ≤ f ∧ f < s 7 ∧ rPM s g u c sl f
  · obtain ⟨f, a, b, d⟩ := q
    exact ⟨_, Or.inr ⟨f, a, b, d, rfl⟩⟩
  · exact ⟨none, Or.inl ⟨rfl, fun f a b d => q ⟨f, a, b, d⟩⟩⟩
theorem RRead.ex (s : Int → Int) (g u sl : Int) : ∃ r, RRead s g u sl r := by
  obtain ⟨r, hr⟩ := RPlain.ex s g u (rThrough s g u) sl
  by_cases a : rPer s (rThrough s g u) ≤ rOf s g 4
  · by_cases b : rOf s g 2 = 0 ∨ rPer s (rThrough s g u) = rOf s g 4
    · exact ⟨r, Or.inl ⟨a, b, hr⟩⟩
    · exact ⟨_, Or.inr (Or.inl ⟨a, ⟨fun z => b (Or.inl z), fun z => b (Or.inr z)⟩, rfl⟩)⟩
  · by_cases b : sl % rPer s (rThrough s g u) = 0
    · exact ⟨r, Or.inr (Or.inr (Or.inl ⟨a, b, hr⟩))⟩
    · exact ⟨_, Or.inr (Or.inr (Or.inr ⟨a, b, rfl⟩))⟩
theorem RlS.ex {s : Int → Int} {g : Int} (h : rDue s g) : ∃ s2, RlS g s s2 := by
  obtain ⟨r, hr⟩ := Classical.axiomOfChoice (fun u => RRead.ex s g u (rBehind s g (-1)))
  exact ⟨_, h, fun u => vOf (r u), fun u => fOf (r u), r, fun u _ _ _ => ⟨hr u, fun x y e => by dsimp only; rw [e]; exact ⟨rfl, rfl⟩⟩, rfl⟩
theorem rRel_lo {s : Int → Int} {g sl C k : Int} {r : Int → Option (Int × Int)} {V F : Int → Int} (h : HdI s C) (hg : 0 ≤ g ∧ g < s 0) (hk : K5 k) : rRel s g sl r V F k = s k := by
  have hs := h.1
  have h00 := hs.1
  have g5 : 0 ≤ g ∧ g < 5 := ⟨hg.1, by omega⟩
  have he := rB_he (sl := sl) (msk := rMsk s g r (s 1)) (V := V) (F := F) h hg
  have eR : rRel s g sl r V F = cif (g = 0) (rOut (rB s g sl (rMsk s g r (s 1)) V F) sl (rMsk s g r (s 1)) (rMis s g r (s 1)) (rFlg s g r (s 1)) V F) (rSends (rB s g sl (rMsk s g r (s 1)) V F) g sl (rMsk s g r (s 1)) V F) := rfl
  rw [eR]
  generalize rB s g sl (rMsk s g r (s 1)) V F = b at he
  have ek : b k = s k := by
    unfold K5 at hk
    exact he.lo g5 (by omega) (by omega)
  have b5 := he.lo g5 (k := 5) (by decide) (by decide)
  have b7 := he.lo g5 (k := 7) (by decide) (by decide)
  by_cases q : g = 0
  · rw [cif_t q, rOut_lo (by rw [b5]; exact hs.2.2.2.1) (by unfold K5 at hk; omega) (by unfold K5 at hk; omega)]
    exact ek
  · rw [cif_f q]
    have f0 : 0 ≤ rFree b := (rFree0_le b 560 0 (by omega) (by rw [b7]; exact hs.2.2.1.1)).1
    have e1 : rT1 b g sl (rMsk s g r (s 1)) V F k = b k := by
      unfold rT1
      rw [ups_ne (by unfold K5 at hk; omega), rSent_lo f0 (by unfold K5 at hk; omega)]
      unfold rFreed
      exact ups_ne (by unfold K5 at hk; omega)
    have eS : rSends b g sl (rMsk s g r (s 1)) V F = cif (rOf b g 3 = 0) (rComes (rT1 b g sl (rMsk s g r (s 1)) V F) (rFree b)) (rT1 b g sl (rMsk s g r (s 1)) V F) := rfl
    rw [eS]
    have up : 0 ≤ rFr (rT1 b g sl (rMsk s g r (s 1)) V F) (rFree b) 1 := by
      unfold rT1
      rw [rFr_ups, if_neg (by omega), rSent_hd.2.1, he.of g5 g5 (by decide) (fun _ => by decide)]
      exact h.2.1.2 g (by omega) hg.2
    by_cases z : rOf b g 3 = 0
    · rw [cif_t z, rComes_lo f0 up hk, e1, ek]
    · rw [cif_f z, e1, ek]
/-- a row within a tick and the class's tree -/
def GSm (T n0 : Int) (O : List (Int × Int)) (C : Int) (s : Int → Int) (S : Nat → Int → Int) (R : Nat → List FV) : Prop := Sim s (s 2 + 1) O C S R ∧ LI s R ∧ s 2 = T ∧ s 0 = n0
theorem Sim.mono {s : Int → Int} {t : Int} {O : List (Int × Int)} {C C' : Int} {S : Nat → Int → Int} {R : Nat → List FV} (h : Sim s t O C S R) (h1 : C ≤ C') (h2 : C' ≤ 1000000000) : Sim s t O C' S R := by
  have c := h.2.1.2.2.2.2.1
  exact ⟨h.1, h.2.1.hq Hq.refl h.2.1.1.2.2.1 ⟨c.2.2.1, by omega⟩ h1 h2, h.2.2⟩
theorem GSm.mono {T n0 : Int} {O : List (Int × Int)} {C C' : Int} {s : Int → Int} {S : Nat → Int → Int} {R : Nat → List FV} (h : GSm T n0 O C s S R) (h1 : C ≤ C') (h2 : C' ≤ 1000000000) : GSm T n0 O C' s S R := ⟨h.1.mono h1 h2, h.2⟩
theorem GSm.sx {T n0 : Int} {O : List (Int × Int)} {C : Int} {s : Int → Int} {S S' : Nat → Int → Int} {R : Nat → List FV} (h : GSm T n0 O C s S R) (x : ∀ m, ¬ (6 ≤ m ∧ m ≤ 10) → S' m = S m) : GSm T n0 O C s S' R := ⟨h.1.sx x, h.2⟩
theorem GSm.due {T n0 : Int} {O : List (Int × Int)} {C : Int} {s : Int → Int} {S : Nat → Int → Int} {R : Nat → List FV} (h : GSm T n0 O C s S R) {g : Int} (hg : 0 ≤ g ∧ g < n0) : rDue s g ↔ cReady S R g := by
  have hg' : 0 ≤ g ∧ g < s 0 := by rw [h.2.2.2]; exact hg
  have hS : Sim s (s 2 + 1) O C S R := h.1
  have hR : Rel s S R := hS.1
  exact hR.due hS.2.1.1.2.2.1.1 hg' (hS.RowOK hg').1
theorem GSm.rl {T n0 : Int} {O : List (Int × Int)} {C : Int} {s s2 : Int → Int} {S : Nat → Int → Int} {R : Nat → List FV} (h : GSm T n0 O C s S R) (hO : O.length ≤ 512) {g : Int} (hg : 0 ≤ g ∧ g < n0) (hC : C + 1 ≤ 1000000000) (hr : RlS g s s2) : GSm T n0 O (C + 1) s2 (cRl S R g).1 (cRl S R g).2 ∧ (kR (cRl S R g).2 g).length < (kR R g).length := by
  have hg' : 0 ≤ g ∧ g < s 0 := by rw [h.2.2.2]; exact hg
  obtain ⟨dq, V, F, r, ra, rfl⟩ := hr
  have hl : 0 < (kR R g).length := ((h.due hg).mp dq).1
  have e0 := (h.1.slot0 hg' hl).2.2.2.2
  rw [e0] at ra ⊢
  have r1 := h.1.release hO hg' hl (fun u a b c => (ra u a b c).1) (fun u a b c => (ra u a b c).2) hC
  have r2 := h.1.relRows hg' hl (fun u a b c => (ra u a b c).1)
  have l0 := rRel_lo (k := 0) (sl := gt (kR R g) 0 2) (r := r) (V := V) (F := F) h.1.2.1 hg' (Or.inl rfl)
  have l2 := rRel_lo (k := 2) (sl := gt (kR R g) 0 2) (r := r) (V := V) (F := F) h.1.2.1 hg' (Or.inr (Or.inr rfl))
  refine ⟨⟨?_, fun q a b => ?_, ?_, ?_⟩, r2.1⟩
  · rw [l2]; exact r1
  · rw [l0] at a
    rw [r2.2 q a b]
    exact h.2.1 q a b
  · rw [l2]; exact h.2.2.1
  · rw [l0]; exact h.2.2.2
/-- a set of rows, all of them related to the one tree -/
def SRA (A : (Int → Int) → Prop) (T n0 : Int) (O : List (Int × Int)) (C : Int) (S : Nat → Int → Int) (R : Nat → List FV) : Prop := (∃ s, A s) ∧ ∀ s, A s → GSm T n0 O C s S R
/-- j releases -/
theorem SRA.rl {A : (Int → Int) → Prop} {T n0 : Int} {O : List (Int × Int)} {C : Int} {S : Nat → Int → Int} {R : Nat → List FV} {g : Int} {j : Nat} (h : SRA (fun s => ∃ a, A a ∧ AskN g j a s) T n0 O C S R) (hO : O.length ≤ 512) (hg : 0 ≤ g ∧ g < n0) (hC : C + 1 ≤ 1000000000) (hr : cReady S R g) : SRA (fun s => ∃ a, A a ∧ AskN g (j + 1) a s) T n0 O (C + 1) (cRl S R g).1 (cRl S R g).2 ∧ (kR (cRl S R g).2 g).length < (kR R g).length ∧ ∀ s, (∃ a, A a ∧ AskN g j a s) → rDue s g := by
  obtain ⟨⟨s, a, ha, hs⟩, hall⟩ := h
  have gs := hall s ⟨a, ha, hs⟩
  obtain ⟨s2, h2⟩ := RlS.ex ((gs.due hg).mpr hr)
  refine ⟨⟨⟨s2, a, ha, s, hs, h2⟩, fun s' ⟨a', ha', t, ht, h'⟩ => ((hall t ⟨a', ha', ht⟩).rl hO hg hC h').1⟩, (gs.rl hO hg hC h2).2, fun s' h' => ((hall s' h').due hg).mpr hr⟩
theorem AskN.pre {g : Int} {s s' : Int → Int} : ∀ {n j : Nat}, AskN g n s s' → j < n → ∃ t, AskN g j s t ∧ rDue t g
  | 0, j, _, h => absurd h (Nat.not_lt_zero _)
  | n + 1, j, h, hj => by
    obtain ⟨t, a, b⟩ := h
    by_cases q : j = n
    · exact ⟨t, q ▸ a, b.1⟩
    · exact AskN.pre a (by omega)
/-- after all releases -/
theorem SRA.askEnd {A : (Int → Int) → Prop} {T n0 : Int} {O : List (Int × Int)} {C : Int} {S : Nat → Int → Int} {R : Nat → List FV} {g : Int} {j : Nat} (h : SRA (fun s => ∃ a, A a ∧ AskN g j a s) T n0 O C S R) (hg : 0 ≤ g ∧ g < n0) (hd : ∀ i, i < j → ∀ s, (∃ a, A a ∧ AskN g i a s) → rDue s g) (hr : ¬ cReady S R g) : SRA (fun s => ∃ a, A a ∧ AskS g a s) T n0 O C S R := by
  obtain ⟨⟨s, a, ha, hs⟩, hall⟩ := h
  refine ⟨⟨s, a, ha, j, hs, fun z => hr (((hall s ⟨a, ha, hs⟩).due hg).mp z)⟩, fun s' ⟨a', ha', i, hi, nd⟩ => ?_⟩
  by_cases q : i = j
  · exact hall s' ⟨a', ha', q ▸ hi⟩
  · by_cases q2 : i < j
    · exact absurd (hd i q2 s' ⟨a', ha', hi⟩) nd
    · obtain ⟨t, b, c⟩ := hi.pre (show j < i by omega)
      exact absurd (((hall t ⟨a', ha', b⟩).due hg).mp c) hr

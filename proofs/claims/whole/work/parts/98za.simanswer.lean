/-! THE SIMULATION: what is answered -/
/-- the slot behind the one that starts at st -/
theorem RelK.next {s : Int → Int} {S : Nat → Int → Int} {R : Nat → List FV} {g st : Int} (h : RelK s S R g) (hn : 0 ≤ s 7) (hS : SortS (kR R g)) (hp : ∀ i : Int, 0 ≤ i → i < ((kR R g).length : Nat) → 0 ≤ gt (kR R g) i 2) (hs : SlSt (kR R g) st) : rBehind s g (gt (kR R g) st 2) = (if cEnd (kR R g) st < ((kR R g).length : Nat) then gt (kR R g) (cEnd (kR R g) st) 2 else -1) ∧ (cEnd (kR R g) st < ((kR R g).length : Nat) → SlSt (kR R g) (cEnd (kR R g) st)) := by
  have h00 := hs.1
  have re := cEnd_rng hs.1.1 hs.1.2
  have p0 := hp st hs.1.1 hs.1.2
  have hb := rBehind_is (s := s) (g := g) (sl := gt (kR R g) st 2) hn (by omega)
  have lt : cEnd (kR R g) st < ((kR R g).length : Nat) → gt (kR R g) st 2 < gt (kR R g) (cEnd (kR R g) st) 2 := fun q => cEnd_out hS hs.1.1 (Int.le_refl _) q
  constructor
  · by_cases q : cEnd (kR R g) st < ((kR R g).length : Nat)
    · rw [if_pos q]
      obtain ⟨f, hf, k, e⟩ := h.of (i := cEnd (kR R g) st) (by omega) q
      have l := lt q
      rcases hb with ⟨_, z⟩ | ⟨z1, ⟨f', a, b, k', e'⟩, z3⟩
      · have := z f hf.1 hf.2 k
        have := e.2.2.1
        omega
      · have m := z3 f hf.1 hf.2 k (by rw [← e.2.2.1]; exact l)
        obtain ⟨i, hi, ei⟩ := h.to a b k'
        have e1 := ei.2.2.1
        have e2 := e.2.2.1
        have ni : ¬ i < cEnd (kR R g) st := fun y => by
          by_cases y2 : st ≤ i
          · have := cEnd_in hs.1.1 y2 y; omega
          · have := hs.2 i hi.1 (by omega); omega
        by_cases y : i = cEnd (kR R g) st
        · rw [y] at e1; omega
        · have := hS (cEnd (kR R g) st) i (by omega) (by omega) hi.2
          omega
    · rw [if_neg q]
      rcases hb with ⟨z, _⟩ | ⟨z1, ⟨f', a, b, k', e'⟩, z3⟩
      · exact z
      · obtain ⟨i, hi, ei⟩ := h.to a b k'
        have e1 := ei.2.2.1
        by_cases y2 : st ≤ i
        · have := cEnd_in hs.1.1 y2 (show i < cEnd (kR R g) st by omega); omega
        · have := hs.2 i hi.1 (by omega); omega
  · intro q
    refine ⟨⟨by omega, q⟩, fun i a b => ?_⟩
    have l := lt q
    by_cases y2 : st ≤ i
    · have := cEnd_in hs.1.1 y2 b; omega
    · have := hs.2 i a (by omega); omega
theorem RelK.nth {s : Int → Int} {S : Nat → Int → Int} {R : Nat → List FV} {g : Int} (h : RelK s S R g) (hs : RI s) (hf : RF s) (hS : SortS (kR R g)) (hp : ∀ i : Int, 0 ≤ i → i < ((kR R g).length : Nat) → 0 ≤ gt (kR R g) i 2 ∧ gt (kR R g) i 2 ≤ 100000) : ∀ (n : Nat) (st : Int), SlSt (kR R g) st → rNth s g (n : Int) (gt (kR R g) st 2) = (if cSt (kR R g) n st < ((kR R g).length : Nat) then gt (kR R g) (cSt (kR R g) n st) 2 else -1) ∧ (cSt (kR R g) n st < ((kR R g).length : Nat) → SlSt (kR R g) (cSt (kR R g) n st))
  | 0, st, hst => by
    have := hp st hst.1.1 hst.1.2
    have h0 := hst.1
    rw [rNth_eq hs hf (by omega), if_neg (by omega), cSt, if_pos h0.2]
    exact ⟨rfl, fun _ => hst⟩
  | n + 1, st, hst => by
    have p := hp st hst.1.1 hst.1.2
    have h0 := hst.1
    obtain ⟨e1, e2⟩ := h.next hs.2.2.1.1 hS (fun i a b => (hp i a b).1) hst
    rw [rNth_eq hs hf (by omega), if_pos (by omega), cSt, if_pos h0.2, show ((n + 1 : Nat) : Int) - 1 = (n : Int) by omega, e1]
    by_cases q : cEnd (kR R g) st < ((kR R g).length : Nat)
    · rw [if_pos q]
      exact RelK.nth h hs hf hS hp n _ (e2 q)
    · have z : ∀ (m : Nat) (x : Int), ¬ x < ((kR R g).length : Nat) → cSt (kR R g) m x = x := fun m x y => by
        cases m with
        | zero => rfl
        | succ m => rw [cSt, if_neg y]
      rw [if_neg q, z n _ q, if_neg q, rNth_eq hs hf (by omega), if_neg (by omega)]
      exact ⟨rfl, fun y => absurd y q⟩
theorem fI_add {F G : Int → Int} : ∀ n : Nat, fI (n : Int) (fun i x => x + (F i + G i)) 0 = fI (n : Int) (fun i x => x + F i) 0 + fI (n : Int) (fun i x => x + G i) 0
  | 0 => rfl
  | n + 1 => by
    rw [show ((n + 1 : Nat) : Int) = (n : Int) + 1 by omega, fI_succ (by omega), fI_succ (by omega), fI_succ (by omega), fI_add n]
    omega
theorem fI_one {st : Int} (h0 : 0 ≤ st) : ∀ n : Nat, fI (n : Int) (fun i x => x + b2i (i = st)) 0 = b2i (st < (n : Int))
  | 0 => by
    rw [b2i_f (by omega)]; rfl
  | n + 1 => by
    rw [show ((n + 1 : Nat) : Int) = (n : Int) + 1 by omega, fI_succ (by omega), fI_one h0 n]
    by_cases q : (n : Int) = st
    · rw [b2i_t q, b2i_f (by omega), b2i_t (by omega)]; rfl
    · rw [b2i_f q]
      by_cases z : st < (n : Int)
      · rw [b2i_t z, b2i_t (by omega)]; rfl
      · rw [b2i_f z, b2i_f (by omega)]; rfl
/-- how many slots start at st or behind -/
noncomputable def nSt (L : List FV) (st : Int) : Int := fI (L.length : Nat) (fun i n => n + b2i (st ≤ i ∧ (i = 0 ∨ ¬ gt L i 2 = gt L (i - 1) 2))) 0
theorem nSt_step {L : List FV} {st : Int} (hS : SortS L) (hs : SlSt L st) : nSt L st = 1 + nSt L (cEnd L st) := by
  have h00 := hs.1
  have re := cEnd_rng hs.1.1 hs.1.2
  unfold nSt
  have e : ∀ i : Int, 0 ≤ i → i < (L.length : Nat) → b2i (st ≤ i ∧ (i = 0 ∨ ¬ gt L i 2 = gt L (i - 1) 2)) = b2i (i = st) + b2i (cEnd L st ≤ i ∧ (i = 0 ∨ ¬ gt L i 2 = gt L (i - 1) 2)) := fun i a b => by
    by_cases q : i = st
    · have x1 : b2i (st ≤ i ∧ (i = 0 ∨ ¬ gt L i 2 = gt L (i - 1) 2)) = 1 := b2i_t ⟨by omega, by
        by_cases z : i = 0
        · exact Or.inl z
        · have y := hs.2 (i - 1) (by omega) (by omega)
          rw [← q] at y
          exact Or.inr (by omega)⟩
      have x2 : b2i (i = st) = 1 := b2i_t q
      have x3 : b2i (cEnd L st ≤ i ∧ (i = 0 ∨ ¬ gt L i 2 = gt L (i - 1) 2)) = 0 := b2i_f (fun z => by omega)
      rw [x1, x2, x3]; rfl
    · have x2 : b2i (i = st) = 0 := b2i_f q
      rw [x2]
      by_cases z : st ≤ i
      · by_cases y : cEnd L st ≤ i
        · rw [b2i_congr (show (st ≤ i ∧ (i = 0 ∨ ¬ gt L i 2 = gt L (i - 1) 2)) ↔ (cEnd L st ≤ i ∧ (i = 0 ∨ ¬ gt L i 2 = gt L (i - 1) 2)) from ⟨fun w => ⟨y, w.2⟩, fun w => ⟨z, w.2⟩⟩)]
          omega
        · have c1 := cEnd_in (L := L) hs.1.1 z (by omega)
          have c2 := cEnd_in (L := L) hs.1.1 (show st ≤ i - 1 by omega) (by omega)
          have x1 : b2i (st ≤ i ∧ (i = 0 ∨ ¬ gt L i 2 = gt L (i - 1) 2)) = 0 := b2i_f (fun w => by omega)
          have x3 : b2i (cEnd L st ≤ i ∧ (i = 0 ∨ ¬ gt L i 2 = gt L (i - 1) 2)) = 0 := b2i_f (fun w => y w.1)
          rw [x1, x3]; rfl
      · have x1 : b2i (st ≤ i ∧ (i = 0 ∨ ¬ gt L i 2 = gt L (i - 1) 2)) = 0 := b2i_f (fun w => z w.1)
        have x3 : b2i (cEnd L st ≤ i ∧ (i = 0 ∨ ¬ gt L i 2 = gt L (i - 1) 2)) = 0 := b2i_f (fun w => by omega)
        rw [x1, x3]; rfl
  rw [fI_congr (g := fun i n => n + (b2i (i = st) + b2i (cEnd L st ≤ i ∧ (i = 0 ∨ ¬ gt L i 2 = gt L (i - 1) 2)))) (fun i a b x => by rw [e i a b]), fI_add, fI_one hs.1.1, b2i_t hs.1.2]
theorem nSt_end {L : List FV} {st : Int} (h : (L.length : Nat) ≤ st) : nSt L st = 0 := by
  unfold nSt
  refine fI_ind (fun n x => n ≤ (L.length : Nat) → x = 0) (by omega) (fun _ => rfl) (fun i x a b ih c => ?_) (Int.le_refl _)
  rw [ih (by omega), b2i_f (fun z => by omega)]; rfl
theorem RelK.slots {s : Int → Int} {S : Nat → Int → Int} {R : Nat → List FV} {g : Int} (h : RelK s S R g) (hs : RI s) (hf : RF s) (hS : SortS (kR R g)) (hp : ∀ i : Int, 0 ≤ i → i < ((kR R g).length : Nat) → 0 ≤ gt (kR R g) i 2 ∧ gt (kR R g) i 2 ≤ 100000) : ∀ (n : Nat) (st : Int), SlSt (kR R g) st → ((kR R g).length : Nat) - st ≤ (n : Int) → 1 + rSls s g (gt (kR R g) st 2) = nSt (kR R g) st
  | 0, st, hst, hn => by have := hst.1; omega
  | n + 1, st, hst, hn => by
    have p := hp st hst.1.1 hst.1.2
    have h0 := hst.1
    have re := cEnd_rng hst.1.1 hst.1.2
    obtain ⟨e1, e2⟩ := h.next hs.2.2.1.1 hS (fun i a b => (hp i a b).1) hst
    rw [rSls_eq hs hf (g := g) (sl := gt (kR R g) st 2) (by omega), e1, nSt_step hS hst]
    by_cases q : cEnd (kR R g) st < ((kR R g).length : Nat)
    · have pe := hp _ (by omega) q
      rw [if_pos q, if_neg (by omega), RelK.slots h hs hf hS hp n _ (e2 q) (by omega)]
    · rw [if_neg q, if_pos (show (-1 : Int) < 0 by decide), nSt_end (L := kR R g) (st := cEnd (kR R g) st) (by omega)]
theorem Sim.bounds {s : Int → Int} {t : Int} {O : List (Int × Int)} {C : Int} {S : Nat → Int → Int} {R : Nat → List FV} (h : Sim s t O C S R) {g : Int} (hg : 0 ≤ g ∧ g < s 0) : ∀ i : Int, 0 ≤ i → i < ((kR R g).length : Nat) → 0 ≤ gt (kR R g) i 2 ∧ gt (kR R g) i 2 ≤ 100000 := fun i a b => ((h.RowOK hg).1.2.2.1 i a b).2.1
theorem Sim.RF {s : Int → Int} {t : Int} {O : List (Int × Int)} {C : Int} {S : Nat → Int → Int} {R : Nat → List FV} (h : Sim s t O C S R) : RF s := h.2.2.1.RF h.2.1.1 h.2.1.2.2.2.2.1.2.1
theorem Sim.slots {s : Int → Int} {t : Int} {O : List (Int × Int)} {C : Int} {S : Nat → Int → Int} {R : Nat → List FV} (h : Sim s t O C S R) {g : Int} (hg : 0 ≤ g ∧ g < s 0) : rSls s g (-1) = cSlots (kR R g) := by
  have hs := h.2.1.1
  have hf := h.RF
  have hK := (h.1.2.1 g hg.1 hg.2).2
  have hS := (h.2.2.2 g hg.1 hg.2).1
  have hb := h.bounds hg
  have e0 : cSlots (kR R g) = nSt (kR R g) 0 := by
    unfold cSlots nSt
    exact fI_congr (fun i a b x => by rw [b2i_congr (show (i = 0 ∨ ¬ gt (kR R g) i 2 = gt (kR R g) (i - 1) 2) ↔ (0 ≤ i ∧ (i = 0 ∨ ¬ gt (kR R g) i 2 = gt (kR R g) (i - 1) 2)) from ⟨fun w => ⟨a, w⟩, fun w => w.2⟩)])
  rw [e0, rSls_eq hs hf (by omega), hK.behind hs.2.2.1.1 hS (fun i a b => (hb i a b).1)]
  by_cases q : (kR R g).length = 0
  · rw [if_pos q, if_pos (by omega), nSt_end (by omega)]
  · have p := hb 0 (by omega) (by omega)
    rw [if_neg q, if_neg (by omega)]
    exact hK.slots hs hf hS hb (kR R g).length 0 (SlSt.zero (by omega)) (by omega)
theorem RelK.all {s : Int → Int} {S : Nat → Int → Int} {R : Nat → List FV} {g st : Int} (h : RelK s S R g) (hn : 0 ≤ s 7) (hS : SortS (kR R g)) (hs : SlSt (kR R g) st) : rFrames s g (-1) (gt (kR R g) st 2) = cEnd (kR R g) st - st := by
  have h00 := hs.1
  have re := cEnd_rng hs.1.1 hs.1.2
  have e := slot_count (q := fun _ => True) hS hs
  have ones : ∀ n : Nat, fI (n : Int) (fun (_ : Int) (x : Int) => x + b2i True) 0 = n := by
    intro n
    induction n with
    | zero => rfl
    | succ n ih => rw [show ((n + 1 : Nat) : Int) = (n : Int) + 1 by omega, fI_succ (by omega), ih, b2i_t trivial]
  have o := ones (cEnd (kR R g) st - st).toNat
  rw [show ((cEnd (kR R g) st - st).toNat : Int) = cEnd (kR R g) st - st by omega] at o
  rw [← o, ← e]
  unfold rFrames
  exact h.count (p := fun f => rIn s f g (gt (kR R g) st 2) ∧ ((-1 : Int) < 0 ∨ rFr s f 2 = -1)) (q := fun v => v 2 = gt (kR R g) st 2 ∧ True) hn (fun f _ _ k => ⟨k.1.1, k.1.2.1⟩) (fun f v a b k _ e => ⟨fun z => ⟨by rw [e.2.2.1]; exact z.1.2.2, trivial⟩, fun z => ⟨⟨k.1, k.2, by rw [← e.2.2.1]; exact z.1⟩, Or.inl (by decide)⟩⟩)
theorem Sim.slotAt {s : Int → Int} {t : Int} {O : List (Int × Int)} {C : Int} {S : Nat → Int → Int} {R : Nat → List FV} (h : Sim s t O C S R) {g x w : Int} : rSlotAt s g x w = qSlotAt S R g x w := by
  have hs := h.2.1.1
  have hf := h.RF
  have hr := h.1
  have e0 := hr.1.1
  unfold rSlotAt qSlotAt
  by_cases q : isH s g ∧ 0 ≤ x ∧ 0 ≤ w ∧ w ≤ 5
  · have q' : cHub S g ∧ 0 ≤ x ∧ 0 ≤ w ∧ w ≤ 5 := ⟨⟨q.1.1, by have := q.1.2; omega⟩, q.2⟩
    rw [if_neg (fun z => z q), if_neg (show ¬ ¬ (cHub S g ∧ 0 ≤ x ∧ 0 ≤ w ∧ w ≤ 5) from fun z => z q')]
    have hg : 0 ≤ g ∧ g < s 0 := ⟨q.1.1, by have := q.1.2; omega⟩
    have hK := (hr.2.1 g hg.1 hg.2).2
    have hS := (h.2.2.2 g hg.1 hg.2).1
    have hT := (h.2.2.2 g hg.1 hg.2).2
    have hI := (h.RowOK hg).1
    have hb := h.bounds hg
    have hn := hs.2.2.1.1
    have key : (rNth s g x (rBehind s g (-1)) = -1 ∧ cStart (kR R g) x = -1) ∨ ∃ st, SlSt (kR R g) st ∧ rNth s g x (rBehind s g (-1)) = gt (kR R g) st 2 ∧ cStart (kR R g) x = st := by
      rw [hK.behind hn hS (fun i a b => (hb i a b).1)]
      unfold cStart
      by_cases z : (kR R g).length = 0
      · have e1 : cSt (kR R g) x.toNat 0 = 0 := by
          cases x.toNat with
          | zero => rfl
          | succ m => rw [cSt, if_neg (by omega)]
        rw [if_pos z, e1, if_neg (by omega), rNth_eq hs hf (by omega), if_neg (by omega)]
        exact Or.inl ⟨rfl, rfl⟩
      · have r := hK.nth hs hf hS hb x.toNat 0 (SlSt.zero (by omega))
        rw [show ((x.toNat : Nat) : Int) = x by omega] at r
        rw [if_neg z, r.1]
        by_cases y : cSt (kR R g) x.toNat 0 < ((kR R g).length : Nat)
        · rw [if_pos y, if_pos y]
          exact Or.inr ⟨_, r.2 y, rfl, rfl⟩
        · rw [if_neg y, if_neg y]
          exact Or.inl ⟨rfl, rfl⟩
    rcases key with ⟨a, b⟩ | ⟨st, hst, a, b⟩
    · rw [a, b]
      unfold rSlotOf cSlotF
      rw [if_pos (by decide), if_pos rfl]
    · have h0 := hst.1
      have p := hb st h0.1 h0.2
      rw [a, b]
      unfold rSlotOf cSlotF
      rw [if_neg (show ¬ gt (kR R g) st 2 < 0 by omega), if_neg (show ¬ st = -1 by omega), hK.first hn hS hT hI.2.2.1 hst, hK.all hn hS hst, hr.expected hg, b2i_congr (hr.compl hn hg hI hst), hr.lasts hn hg hI hst]
  · have q' : ¬ (cHub S g ∧ 0 ≤ x ∧ 0 ≤ w ∧ w ≤ 5) := fun z => q ⟨⟨z.1.1, by have := z.1.2; omega⟩, z.2⟩
    rw [if_pos q, if_pos q']
theorem Sim.way15 {s : Int → Int} {t : Int} {O : List (Int × Int)} {C : Int} {S : Nat → Int → Int} {R : Nat → List FV} (h : Sim s t O C S R) : ∀ f, 0 ≤ f → f < s 7 → isW s f → 0 ≤ rFr s f 2 ∧ rFr s f 2 < 15 := fun f a b k => (h.2.2.1.1 f ⟨a, b⟩ (by have : rFr s f 0 = 1 := k; omega)).2.1.r15
theorem Sim.hubOf {s : Int → Int} {t : Int} {O : List (Int × Int)} {C : Int} {S : Nat → Int → Int} {R : Nat → List FV} (h : Sim s t O C S R) {g w : Int} : rHubOf s g w = qHubOf S R g w := by
  have hr := h.1
  have hd := h.2.1
  have hs := hd.1
  have e0 := hr.1.1
  unfold rHubOf qHubOf
  by_cases q : isH s g ∧ 0 ≤ w ∧ w ≤ 14
  · have q' : cHub S g ∧ 0 ≤ w ∧ w ≤ 14 := ⟨⟨q.1.1, by have := q.1.2; omega⟩, q.2⟩
    rw [if_neg (fun z => z q), if_neg (show ¬ ¬ (cHub S g ∧ 0 ≤ w ∧ w ≤ 14) from fun z => z q')]
    have hg : 0 ≤ g ∧ g < s 0 := ⟨q.1.1, by have := q.1.2; omega⟩
    obtain ⟨r1, r2, r3, r4, r5, r6, r7, r8, r9⟩ := (hr.2.1 g hg.1 hg.2).1
    have c9 := (hd.2.2.1 g hg.1 hg.2).2.2.2.2
    have h5 : g = 0 ↔ cH S g 3 = -1 := by
      rw [← r2]
      constructor
      · intro z; rw [z]; exact hd.2.1.1
      · intro z
        by_cases y : g = 0
        · exact y
        · have := hd.2.1.2 g (by omega) hg.2
          omega
    have h00 := hs.1
    unfold cHubF
    by_cases w5 : w < 5
    · rw [if_pos w5, if_neg (by omega), if_neg (by omega), if_neg (by omega), if_neg (by omega), if_neg (by omega), if_neg (by omega), if_neg (by omega), if_neg (by omega), if_neg (by omega), if_neg (by omega)]
      exact r1 w q.2.1 w5
    · rw [if_neg w5, r2, r3, hr.children, hr.under h.CI hg.1, h.slots hg, r4, r5, r6, hr.onWay hs.2.2.1.1 h.way15 (by omega), show kid (10 + g) = g by unfold kid; rw [if_neg (by omega)]; omega]
      by_cases a5 : w = 5
      · rw [if_pos a5, if_pos a5]
        by_cases z : g = 0
        · rw [if_pos z, if_pos (h5.mp z)]
        · rw [if_neg z, if_neg (fun y => z (h5.mpr y))]
      · rw [if_neg a5, if_neg a5]
        by_cases a13 : w = 13
        · subst a13
          rw [if_neg (by decide), if_neg (by decide), if_neg (by decide), if_neg (by decide), if_neg (by decide), if_neg (by decide), if_neg (by decide), if_pos rfl]
          by_cases z : cH S g 5 = 0
          · rw [if_pos z, if_neg (by decide), if_neg (by decide), if_neg (by decide), if_neg (by decide), if_neg (by decide), if_neg (by decide), if_neg (by decide), if_pos rfl, if_pos (r8 (by omega))]
          · have z' : 0 < rOf s g 6 := by omega
            have := c9.2.2 z'
            have := r7 z'
            rw [if_neg z, if_neg (by decide), if_neg (by decide), if_neg (by decide), if_neg (by decide), if_neg (by decide), if_neg (by decide), if_neg (by decide), if_pos rfl, if_neg (by omega)]
            omega
        · by_cases a6 : w = 6
          · rw [if_pos a6, if_pos a6]
          · rw [if_neg a6, if_neg a6]
            by_cases a7 : w = 7
            · rw [if_pos a7, if_pos a7]
            · rw [if_neg a7, if_neg a7]
              by_cases a8 : w = 8
              · rw [if_pos a8, if_pos a8]
              · rw [if_neg a8, if_neg a8]
                by_cases a9 : w = 9
                · rw [if_pos a9, if_pos a9]
                · rw [if_neg a9, if_neg a9]
                  by_cases a10 : w = 10
                  · rw [if_pos a10, if_pos a10]
                  · rw [if_neg a10, if_neg a10]
                    by_cases a11 : w = 11
                    · rw [if_pos a11, if_pos a11]
                    · rw [if_neg a11, if_neg a11]
                      by_cases a12 : w = 12
                      · rw [if_pos a12, if_pos a12]
                      · rw [if_neg a12, if_neg a12, if_neg a13, if_neg a13, if_pos (show w = 14 by omega)]
  · have q' : ¬ (cHub S g ∧ 0 ≤ w ∧ w ≤ 14) := fun z => q ⟨⟨z.1.1, by have := z.1.2; omega⟩, z.2⟩
    rw [if_pos q, if_pos q']
theorem Sim.unitOf {s : Int → Int} {t : Int} {O : List (Int × Int)} {C : Int} {S : Nat → Int → Int} {R : Nat → List FV} (h : Sim s t O C S R) {u w : Int} : rUnitOf s u w = qUnitOf S R u w := by
  have hr := h.1
  have hd := h.2.1
  have hs := hd.1
  have e1 := hr.1.2.1
  have h01 := hs.2.1
  unfold rUnitOf qUnitOf
  by_cases q : isU s u ∧ 0 ≤ w ∧ w ≤ 6
  · have q' : cUnit S u ∧ 0 ≤ w ∧ w ≤ 6 := ⟨⟨q.1.1, by have := q.1.2; omega⟩, q.2⟩
    rw [if_neg (fun z => z q), if_neg (show ¬ ¬ (cUnit S u ∧ 0 ≤ w ∧ w ≤ 6) from fun z => z q')]
    have hu : 0 ≤ u ∧ u < s 1 := ⟨q.1.1, by have := q.1.2; omega⟩
    have hp := hs.2.2.2.2.2 u hu.1 hu.2
    have h2 := hd.2.2.2.1 u hu.1 hu.2
    have c2 := hr.cu (k := 2) hu (by decide)
    have c0 := hr.cu (k := 0) hu (by decide)
    have h00 := hs.1
    unfold cUnitF
    by_cases a4 : w < 4
    · rw [if_pos a4, hr.cu hu ⟨q.2.1, a4⟩]
      by_cases b0 : w = 0
      · rw [if_pos b0, b0]
      · rw [if_neg b0]
        by_cases b1 : w = 1
        · rw [if_pos b1, b1]
        · rw [if_neg b1]
          by_cases b2 : w = 2
          · rw [if_pos b2, b2]
            split <;> omega
          · rw [if_neg b2, if_pos (by omega), show w = 3 by omega]
    · rw [if_neg a4, if_neg (show ¬ w = 0 by omega), if_neg (show ¬ w = 1 by omega), if_neg (show ¬ w = 2 by omega), if_neg (show ¬ w = 3 by omega), hr.onWay (c := u) hs.2.2.1.1 h.way15 (by omega), show kid u = 5 + u by unfold kid; rw [if_pos (by omega)]; omega]
      unfold rDly
      rw [hr.dl h.CI 6 5 _ hp.2.1 (by omega) (by omega), (hr.2.1 _ hp.1 hp.2.1).1.2.2.1, c0]
      by_cases a : w = 4
      · rw [if_pos a, if_pos a]
      · rw [if_neg a, if_neg a]
        by_cases a5 : w = 5
        · rw [if_pos a5, if_pos a5]
        · rw [if_neg a5, if_neg a5]; omega
  · have q' : ¬ (cUnit S u ∧ 0 ≤ w ∧ w ≤ 6) := fun z => q ⟨⟨z.1.1, by have := z.1.2; omega⟩, z.2⟩
    rw [if_pos q, if_pos q']
theorem Rel.uA {s : Int → Int} {S : Nat → Int → Int} {R : Nat → List FV} (h : Rel s S R) (hC : CI S) {g x : Int} (hg : 0 ≤ g) : ∀ (n : Nat) (u a : Int), 0 ≤ u → 0 ≤ x - a → rUA s g n u (x - a) = cUA S g x n u a
  | 0, _, _, _, _ => rfl
  | n + 1, u, a, hu, ha => by
    have e1 := h.1.2.1
    rw [rUA, cUA]
    by_cases q : s 1 ≤ u
    · rw [if_pos q, if_pos (show cT S 5 ≤ u by omega)]
    · rw [if_neg q, if_neg (show ¬ cT S 5 ≤ u by omega)]
      rcases h.tow hC hg (u := u) ⟨hu, by omega⟩ with ⟨p, e⟩ | ⟨p, e⟩
      · have := kid_nn p.2
        rw [cif_t p, if_neg (show ¬ cTow S u g = -1 by omega)]
        by_cases z : x - a = 0
        · rw [if_pos z, if_pos (show a = x by omega)]
        · rw [if_neg z, if_neg (show ¬ a = x by omega), show x - a - 1 = x - (a + 1) by omega]
          exact Rel.uA h hC hg n _ _ (by omega) (by omega)
      · rw [cif_f p, if_pos e]
        exact Rel.uA h hC hg n _ _ (by omega) ha
theorem Sim.unitAt {s : Int → Int} {t : Int} {O : List (Int × Int)} {C : Int} {S : Nat → Int → Int} {R : Nat → List FV} (h : Sim s t O C S R) {g x : Int} : rUnitAt s g x = qUnitAt S g x := by
  have e0 := h.1.1.1
  unfold rUnitAt qUnitAt
  by_cases q : isH s g ∧ 0 ≤ x
  · have q' : cHub S g ∧ 0 ≤ x := ⟨⟨q.1.1, by have := q.1.2; omega⟩, q.2⟩
    rw [if_neg (fun z => z q), if_neg (show ¬ ¬ (cHub S g ∧ 0 ≤ x) from fun z => z q')]
    have := h.1.uA h.CI (g := g) (x := x) q.1.1 11 0 0 (by decide) (by omega)
    rw [Int.sub_zero] at this
    exact this
  · have q' : ¬ (cHub S g ∧ 0 ≤ x) := fun z => q ⟨⟨z.1.1, by have := z.1.2; omega⟩, z.2⟩
    rw [if_pos q, if_pos q']
theorem Sim.outF {s : Int → Int} {t : Int} {O : List (Int × Int)} {C : Int} {S : Nat → Int → Int} {R : Nat → List FV} (h : Sim s t O C S R) {i w : Int} (hi : 0 ≤ i) (hw : 0 ≤ w ∧ w ≤ 4) : (if s 5 ≤ i then -1000004 else if w = 3 then rOnes (s (248 + 25 * (s 5 - 1 - i) + 3)) else s (248 + 25 * (s 5 - 1 - i) + w)) = cOutF S i w := by
  have e5 := h.1.1.2.2.2.2.1
  unfold cOutF
  by_cases z : s 5 ≤ i
  · rw [if_pos z, if_pos (show ¬ (0 ≤ i ∧ i < cKept S) by omega)]
  · rw [if_neg z, if_neg (show ¬ ¬ (0 ≤ i ∧ i < cKept S) from fun y => y ⟨hi, by omega⟩)]
    obtain ⟨o1, o2, o3, o4, o5, _⟩ := h.1.2.2.2.1 i hi (by omega)
    by_cases a3 : w = 3
    · subst a3
      rw [if_pos rfl, if_neg (by decide), if_neg (by decide), if_neg (by decide), if_pos rfl, o4]
    · rw [if_neg a3]
      by_cases a0 : w = 0
      · subst a0; rw [if_pos rfl, Int.add_zero]; exact o1
      · rw [if_neg a0]
        by_cases a1 : w = 1
        · subst a1; rw [if_pos rfl]; exact o2
        · rw [if_neg a1]
          by_cases a2 : w = 2
          · subst a2; rw [if_pos rfl]; exact o3
          · rw [if_neg a2, if_neg a3, show w = 4 by omega]
            exact o5
theorem Sim.outAt {s : Int → Int} {t : Int} {O : List (Int × Int)} {C : Int} {S : Nat → Int → Int} {R : Nat → List FV} (h : Sim s t O C S R) {i w : Int} : rOutAt s i w = qOutAt S i w := by
  unfold rOutAt qOutAt
  by_cases q : 0 ≤ i ∧ 0 ≤ w ∧ w ≤ 4
  · rw [if_neg (show ¬ ¬ (0 ≤ i ∧ 0 ≤ w ∧ w ≤ 4) from fun z => z q), if_neg (show ¬ ¬ (0 ≤ i ∧ 0 ≤ w ∧ w ≤ 4) from fun z => z q)]
    exact h.outF q.1 q.2
  · rw [if_pos q, if_pos q]
theorem Sim.readAt {s : Int → Int} {t : Int} {O : List (Int × Int)} {C : Int} {S : Nat → Int → Int} {R : Nat → List FV} (h : Sim s t O C S R) {i u w : Int} : rReadAt s i u w = qReadAt S i u w := by
  have e1 := h.1.1.2.1
  have e5 := h.1.1.2.2.2.2.1
  unfold rReadAt qReadAt
  by_cases q : 0 ≤ i ∧ isU s u ∧ 0 ≤ w ∧ w ≤ 1
  · have q' : 0 ≤ i ∧ cUnit S u ∧ 0 ≤ w ∧ w ≤ 1 := ⟨q.1, ⟨q.2.1.1, by have := q.2.1.2; omega⟩, q.2.2⟩
    rw [if_neg (fun z => z q), if_neg (show ¬ ¬ (0 ≤ i ∧ cUnit S u ∧ 0 ≤ w ∧ w ≤ 1) from fun z => z q')]
    by_cases z : s 5 ≤ i
    · rw [if_pos z, if_pos (show ¬ (0 ≤ i ∧ i < cKept S) by omega)]
    · rw [if_neg z, if_neg (show ¬ ¬ (0 ≤ i ∧ i < cKept S) from fun y => y ⟨q.1, by omega⟩)]
      obtain ⟨_, _, _, o4, _, o6⟩ := h.1.2.2.2.1 i q.1 (by omega)
      unfold fRd
      by_cases y : fHas (SF S (56 + 3 * ((cT S 7 - 1 - i) % 8).toNat)) u
      · have h01 := h.2.1.1.2.1
        have r := o6 u q.2.1.1 (by have := q.2.1.2; omega) y
        have y2 : oAnd (oShr (s (248 + 25 * (s 5 - 1 - i) + 3)) u) 1 = 1 := by rw [o4]; exact y
        rw [cif_t y, if_pos y2]
        by_cases w0 : w = 0
        · subst w0
          rw [if_pos rfl, show 248 + 25 * (s 5 - 1 - i) + 5 + 10 * 0 + u = 248 + 25 * (s 5 - 1 - i) + 5 + u by omega]
          exact r.1
        · have w1 : w = 1 := by omega
          subst w1
          rw [if_neg (by decide), show 248 + 25 * (s 5 - 1 - i) + 5 + 10 * 1 + u = 248 + 25 * (s 5 - 1 - i) + 15 + u by omega]
          exact r.2
      · have y2 : ¬ oAnd (oShr (s (248 + 25 * (s 5 - 1 - i) + 3)) u) 1 = 1 := by rw [o4]; exact y
        rw [cif_f y, if_neg y2]
  · have q' : ¬ (0 ≤ i ∧ cUnit S u ∧ 0 ≤ w ∧ w ≤ 1) := fun z => q ⟨z.1, ⟨z.2.1.1, by have := z.2.1.2; omega⟩, z.2.2⟩
    rw [if_pos q, if_pos q']
theorem Sim.heldBy {s : Int → Int} {t : Int} {O : List (Int × Int)} {C : Int} {S : Nat → Int → Int} {R : Nat → List FV} (h : Sim s t O C S R) {g u w : Int} : rHeldBy s g u w = qHeldBy S g u w := by
  have e0 := h.1.1.1
  have e1 := h.1.1.2.1
  unfold rHeldBy qHeldBy
  by_cases q : isH s g ∧ isU s u ∧ 0 ≤ w ∧ w ≤ 1
  · have q' : cHub S g ∧ cUnit S u ∧ 0 ≤ w ∧ w ≤ 1 := ⟨⟨q.1.1, by have := q.1.2; omega⟩, ⟨q.2.1.1, by have := q.2.1.2; omega⟩, q.2.2⟩
    rw [if_neg (fun z => z q), if_neg (show ¬ ¬ (cHub S g ∧ cUnit S u ∧ 0 ≤ w ∧ w ≤ 1) from fun z => z q')]
    have h01 := h.2.1.1.2.1
    exact h.1.heldBy ⟨q.1.1, by have := q.1.2; omega⟩ ⟨q.2.1.1, by have := q.2.1.2; omega⟩ (by omega)
  · have q' : ¬ (cHub S g ∧ cUnit S u ∧ 0 ≤ w ∧ w ≤ 1) := fun z => q ⟨⟨z.1.1, by have := z.1.2; omega⟩, ⟨z.2.1.1, by have := z.2.1.2; omega⟩, z.2.2⟩
    rw [if_pos q, if_pos q']
theorem HdI.thr {s : Int → Int} {C : Int} (h : HdI s C) : ∀ (n : Nat) (c x : Int), 0 ≤ c → 0 ≤ x → x < s 0 → x < (n : Int) → 0 ≤ rThr s 0 n c x
  | 0, c, x, _, a, _, b => by omega
  | n + 1, c, x, hc, a, b, d => by
    rw [rThr, if_neg (by omega)]
    by_cases q : x = 0
    · rw [if_pos q]; exact hc
    · rw [if_neg q]
      have hh := h.1.2.2.2.2.1 x a b
      have hp := h.2.1.2 x (by omega) b
      exact HdI.thr h n _ _ (by omega) hp (by omega) (by omega)
theorem Sim.on {s : Int → Int} {t : Int} {O : List (Int × Int)} {C : Int} {S : Nat → Int → Int} {R : Nat → List FV} (h : Sim s t O C S R) : rOn s = cUnder S 0 := by
  rw [← h.1.under h.CI (Int.le_refl 0)]
  unfold rOn rUnitsOf
  refine fI_congr (fun u a b x => ?_)
  rw [b2i_congr (show rIts s u 2 = 0 ↔ rIsOf s 0 u from ⟨fun q => ⟨q, ?_⟩, fun q => q.1⟩)]
  have hs := h.2.1.1
  have hp := hs.2.2.2.2.2 u a b
  have h00 := hs.1
  exact h.2.1.thr 6 u _ a hp.1 hp.2.1 (by omega)
theorem Sim.count {s : Int → Int} {t : Int} {O : List (Int × Int)} {C : Int} {S : Nat → Int → Int} {R : Nat → List FV} (h : Sim s t O C S R) {X : Nat → Int → Int} (hX : X 1 = s) {w : Int} (hw : 0 ≤ w ∧ w ≤ 8) : rCount X w = cTot S w := by
  obtain ⟨t0, t1, t2, t4, t5, t6⟩ := h.1.1
  unfold rCount cTot
  rw [hX, h.on, h.1.allWay h.2.1.1.2.2.1.1, h.1.sum (w := 7) (j := 6) (Or.inr (Or.inl ⟨rfl, rfl⟩)), h.1.sum (w := 8) (j := 7) (Or.inr (Or.inr ⟨rfl, rfl⟩)), t0, t2, t4, t5, t6]
  by_cases a0 : w = 0
  · rw [if_pos a0, if_pos a0]
  · rw [if_neg a0, if_neg a0]
    by_cases a1 : w = 1
    · rw [if_pos a1, if_pos a1]
    · rw [if_neg a1, if_neg a1]
      by_cases a2 : w = 2
      · rw [if_pos a2, if_pos a2]
      · rw [if_neg a2, if_neg a2]
        by_cases a3 : w = 3
        · rw [if_pos a3, if_pos a3]
        · rw [if_neg a3, if_neg a3]
          by_cases a4 : w = 4
          · rw [if_pos a4, if_pos a4]
          · rw [if_neg a4, if_neg a4]
            by_cases a5 : w = 5
            · rw [if_pos a5, if_pos a5]
            · rw [if_neg a5, if_neg a5]
              by_cases a6 : w = 6
              · rw [if_pos a6, if_pos a6]
              · rw [if_neg a6, if_neg a6]
                by_cases a7 : w = 7
                · rw [if_pos a7, if_pos a7]
                · rw [if_neg a7, if_neg a7, if_pos (by omega)]
theorem Sim.dep {s : Int → Int} {t : Int} {O : List (Int × Int)} {C : Int} {S : Nat → Int → Int} {R : Nat → List FV} (h : Sim s t O C S R) {u st v fl tk : Int} : (¬ okSend s u st v fl tk → cDep S u st v fl tk = -1000001) ∧ (okSend s u st v fl tk → ¬ poSend s u st → cDep S u st v fl tk = -1000002) ∧ (okSend s u st v fl tk → poSend s u st → 40 ≤ rAllWay s → cDep S u st v fl tk = -1000003) ∧ (okSend s u st v fl tk → poSend s u st → rAllWay s < 40 → cDep S u st v fl tk = 0) := by
  obtain ⟨t0, t1, t2, t4, t5, t6⟩ := h.1.1
  have e : rAllWay s = cW S := h.1.allWay h.2.1.1.2.2.1.1
  have ok : okSend s u st v fl tk ↔ (cUnit S u ∧ (0 ≤ st ∧ st ≤ 20000) ∧ (-100000 ≤ v ∧ v ≤ 100000) ∧ (0 ≤ fl ∧ fl ≤ 15) ∧ 1 ≤ tk ∧ tk ≤ 60) := by unfold okSend cUnit; rw [t1]
  have po : okSend s u st v fl tk → (poSend s u st ↔ (cU S u 2 = 0 ∧ st % cU S u 1 = 0 ∧ st ≤ cT S 6)) := fun q => by
    have hu : 0 ≤ u ∧ u < s 1 := ⟨q.1.1, by have := q.1.2; omega⟩
    unfold poSend
    rw [h.1.cu hu (by decide), h.1.cu hu (by decide), t2]
  rw [e]
  unfold cDep
  refine ⟨fun a => if_pos (fun z => a (ok.mpr z)), fun a b => ?_, fun a b c => ?_, fun a b c => ?_⟩
  · rw [if_neg (fun z => z (ok.mp a)), if_pos (fun z => b ((po a).mpr z))]
  · rw [if_neg (fun z => z (ok.mp a)), if_neg (fun z => z ((po a).mp b)), if_neg (by omega)]
  · rw [if_neg (fun z => z (ok.mp a)), if_neg (fun z => z ((po a).mp b)), if_pos c]
theorem Sim.ela {s : Int → Int} {t : Int} {O : List (Int × Int)} {C : Int} {S : Nat → Int → Int} {R : Nat → List FV} (h : Sim s t O C S R) {n : Int} : cEla S n = if ¬ (1 ≤ n ∧ n ≤ 100) then -1000001 else if s 2 + n ≤ 20000 then 0 else -1000003 := by
  unfold cEla
  rw [← h.1.1.2.2.1]
theorem Sim.ret {s : Int → Int} {t : Int} {O : List (Int × Int)} {C : Int} {S : Nat → Int → Int} {R : Nat → List FV} (h : Sim s t O C S R) {u : Int} : (¬ isU s u → cRet S u = -1000001) ∧ (isU s u → ¬ rIts s u 2 = 0 → cRet S u = -1000002) ∧ (isU s u → rIts s u 2 = 0 → cRet S u = 0) := by
  have t1 := h.1.1.2.1
  have ok : isU s u ↔ cUnit S u := by unfold isU cUnit; rw [t1]
  have po : isU s u → rIts s u 2 = cU S u 2 := fun q => h.1.cu ⟨q.1, by have := q.2; omega⟩ (by decide)
  unfold cRet
  refine ⟨fun a => if_pos (fun z => a (ok.mpr z)), fun a b => ?_, fun a b => ?_⟩
  · rw [if_neg (fun z => z (ok.mp a)), if_neg (by rw [← po a]; exact b)]
  · rw [if_neg (fun z => z (ok.mp a)), if_pos (by rw [← po a]; exact b)]
theorem Sim.join {s : Int → Int} {t : Int} {O : List (Int × Int)} {C : Int} {S : Nat → Int → Int} {R : Nat → List FV} (h : Sim s t O C S R) {a p z : Int} : (¬ okNew s a p → cJoin S a p z = -1000001) ∧ (okNew s a p → ¬ rGo p (rOf s a 4) → cJoin S a p z = -1000002) ∧ (okNew s a p → rGo p (rOf s a 4) → z = 0 → cJoin S a p z = -1000003) ∧ (okNew s a p → rGo p (rOf s a 4) → ¬ z = 0 → cJoin S a p z = 0) := by
  have t0 := h.1.1.1
  have ok : okNew s a p ↔ (cHub S a ∧ 1 ≤ p ∧ p ≤ 20) := by unfold okNew isH cHub; rw [t0]
  have po : okNew s a p → rOf s a 4 = cSe S a 4 := fun q => h.1.cs ⟨q.1.1, by have := q.1.2; omega⟩ (by decide)
  unfold cJoin
  refine ⟨fun x => if_pos (fun y => x (ok.mpr y)), fun x y => ?_, fun x y w => ?_, fun x y w => ?_⟩
  · rw [if_neg (fun k => k (ok.mp x)), if_pos (by rw [← po x]; exact y)]
  · rw [if_neg (fun k => k (ok.mp x)), if_neg (by rw [← po x]; exact fun k => k y), if_pos w]
  · rw [if_neg (fun k => k (ok.mp x)), if_neg (by rw [← po x]; exact fun k => k y), if_neg w]
theorem Sim.setE {s : Int → Int} {t : Int} {O : List (Int × Int)} {C : Int} {S : Nat → Int → Int} {R : Nat → List FV} (h : Sim s t O C S R) {g w v : Int} : (¬ okSet s g w v → cSetE S g w v = -1000001) ∧ (okSet s g w v → (w = 4 → rCanN s g v 15) → cSetE S g w v = 0) ∧ (okSet s g w v → w = 4 → ¬ rCanN s g v 15 → cSetE S g w v = -1000002) := by
  have t0 := h.1.1.1
  have ok : okSet s g w v ↔ (cHub S g ∧ (0 ≤ w ∧ w ≤ 4) ∧ (if w = 4 then 1 else 0) ≤ v ∧ v ≤ sMax w) := by unfold okSet isH cHub; rw [t0]
  have po : okSet s g w v → (rCanN s g v 15 ↔ cCanN S g v 15) := fun q => h.1.can h.2.1.1 h.RF h.CI ⟨q.1.1, by have := q.1.2; omega⟩ (fun x a b => (h.RowOK ⟨a, b⟩).1)
  unfold cSetE
  refine ⟨fun x => if_pos (fun y => x (ok.mpr y)), fun x y => ?_, fun x y z => ?_⟩
  · rw [if_neg (fun k => k (ok.mp x)), cif_t (fun k => (po x).mp (y k))]
  · rw [if_neg (fun k => k (ok.mp x)), cif_f (fun k => z ((po x).mpr (k y)))]

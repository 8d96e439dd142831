/-! THE SIMULATION: what a row keeps to -/
/-- the slot at hub g of what child c stamped st, taken off or not -/
def rSl0 (s : Int → Int) (g c st : Int) : Int := if rPer s c ≤ rOf s g 4 then (st + rOf s g 4 - 1) / rOf s g 4 * rOf s g 4 else st
/-- the hub above child c -/
def par (s : Int → Int) (c : Int) : Int := if c < 10 then rIts s c 0 else rOf s (c - 10) 5
def stMax (c : Int) : Int := if c < 10 then 20000 else 20000 + 20 * (15 - c)
def FrOK (s : Int → Int) (f : Int) : Prop := kidOK s (rFr s f 2) ∧ (rFr s f 1 = par s (rFr s f 2) ∧ 0 ≤ rFr s f 1) ∧ 0 ≤ rFr s f 3 ∧ rFr s f 3 ≤ stMax (rFr s f 2)
def KeptOK (s : Int → Int) (f : Int) : Prop := rFr s f 4 = rSl0 s (rFr s f 1) (rFr s f 2) (rFr s f 3) ∧ (0 < rOf s (rFr s f 1) 6 → rOf s (rFr s f 1) 9 < rFr s f 4) ∧ 0 ≤ rFr s f 5 ∧ rFr s f 5 ≤ s 2
def WayOK (s : Int → Int) (t f : Int) : Prop := t ≤ rFr s f 4 ∧ 0 ≤ rFr s f 5 ∧ rFr s f 5 < s 3
/-- f has an origin: it waits, or it is a hub's and on its way -/
def hasO (s : Int → Int) (f : Int) : Prop := inR7 s f ∧ (rFr s f 0 = 2 ∨ (rFr s f 0 = 1 ∧ 10 ≤ rFr s f 2))
def OrgAt (s : Int → Int) (f : Int) (q : Int × Int) : Prop := (0 ≤ q.1 ∧ q.1 < s 1) ∧ ((rFr s f 0 = 2 ∧ rFr s f 2 = q.1 ∧ rFr s f 3 = q.2) ∨ (0 < rOf s (rIts s q.1 0) 6 ∧ rSl0 s (rIts s q.1 0) q.1 q.2 ≤ rOf s (rIts s q.1 0) 9))
/-- the origins of the frames are all different, and all in O -/
def OrgI (s : Int → Int) (O : List (Int × Int)) : Prop := ∃ og : Int → Int × Int, (∀ f, hasO s f → og f ∈ O ∧ OrgAt s f (og f)) ∧ ∀ f e, hasO s f → hasO s e → og f = og e → f = e
def HdI (s : Int → Int) (C : Int) : Prop := RI s ∧ (rOf s 0 5 = -1 ∧ ∀ g, 1 ≤ g → g < s 0 → 0 ≤ rOf s g 5) ∧ (∀ g, 0 ≤ g → g < s 0 → (0 ≤ rOf s g 0 ∧ rOf s g 0 ≤ 40) ∧ (0 ≤ rOf s g 1 ∧ rOf s g 1 ≤ 1) ∧ (0 ≤ rOf s g 2 ∧ rOf s g 2 ≤ 2) ∧ (0 ≤ rOf s g 3 ∧ rOf s g 3 ≤ 20) ∧ 0 ≤ rOf s g 6 ∧ rOf s g 6 ≤ C ∧ (0 < rOf s g 6 → 0 ≤ rOf s g 9)) ∧ (∀ u, 0 ≤ u → u < s 1 → rIts s u 2 = 0 ∨ rIts s u 2 = 1) ∧ (0 ≤ s 2 ∧ s 2 ≤ 50000 ∧ 0 ≤ s 3 ∧ s 3 ≤ C ∧ 0 ≤ s 4 ∧ s 4 ≤ C ∧ C ≤ 1000000000) ∧ ∀ i, 0 ≤ i → i < s 5 → 0 ≤ s (248 + 25 * i + 3) ∧ s (248 + 25 * i + 3) < 1024
def FmI (s : Int → Int) (t : Int) (O : List (Int × Int)) : Prop := (∀ f, inR7 s f → ¬ rFr s f 0 = 0 → (rFr s f 0 = 1 ∨ rFr s f 0 = 2) ∧ FrOK s f) ∧ (∀ f, inR7 s f → rFr s f 0 = 2 → KeptOK s f) ∧ (∀ f, inR7 s f → rFr s f 0 = 1 → WayOK s t f ∧ (rFr s f 2 < 10 → (rFr s f 2, rFr s f 3) ∈ O)) ∧ (∀ f e, inR7 s f → inR7 s e → rFr s f 0 = 2 → rFr s e 0 = 2 → rFr s f 2 = rFr s e 2 → rFr s f 3 = rFr s e 3 → f = e) ∧ OrgI s O ∧ (irP (s 7) (fun f => rFr s f 0 = 1 ∧ rFr s f 2 < 10)).length ≤ 40
theorem rSl0_rng {s : Int → Int} {g c st : Int} (hP : 1 ≤ rOf s g 4 ∧ rOf s g 4 ≤ 20) : st ≤ rSl0 s g c st ∧ rSl0 s g c st < st + 20 := by
  unfold rSl0
  by_cases q : rPer s c ≤ rOf s g 4
  · rw [if_pos q]
    have e := Int.emod_add_mul_ediv (st + rOf s g 4 - 1) (rOf s g 4)
    have a := Int.emod_nonneg (st + rOf s g 4 - 1) (show rOf s g 4 ≠ 0 by omega)
    have b := Int.emod_lt_of_pos (st + rOf s g 4 - 1) (show 0 < rOf s g 4 by omega)
    rw [Int.mul_comm] at e
    omega
  · rw [if_neg q]; omega
theorem kidOK.rng {s : Int → Int} {c : Int} (h : kidOK s c) : 0 ≤ c ∧ c < 15 ∨ (0 ≤ c ∧ c < 10) := by
  rcases h with ⟨a, b, e⟩ | ⟨a, b, e⟩ <;> omega
theorem kidOK.r15 {s : Int → Int} {c : Int} (h : kidOK s c) : 0 ≤ c ∧ c < 15 := by
  rcases h with ⟨a, b, e⟩ | ⟨a, b, e⟩ <;> omega
theorem FrOK.hub {s : Int → Int} {f : Int} (hs : RI s) (h : FrOK s f) : 0 ≤ rFr s f 1 ∧ rFr s f 1 < s 0 := by
  obtain ⟨k, ⟨e, p⟩, _⟩ := h
  refine ⟨p, ?_⟩
  rw [e]
  unfold par
  rcases k with ⟨a, b, q⟩ | ⟨a, b, q⟩
  · rw [if_pos a]
    exact (hs.2.2.2.2.2 _ b q).2.1
  · rw [if_neg (by omega)]
    have := (hs.2.2.2.2.1 _ (by omega) q).2.1
    omega
theorem RI.per {s : Int → Int} (hs : RI s) {g : Int} (hg : 0 ≤ g ∧ g < s 0) : 1 ≤ rOf s g 4 ∧ rOf s g 4 ≤ 20 := (hs.2.2.2.2.1 g hg.1 hg.2).2.2
theorem RI.kper {s : Int → Int} (hs : RI s) {c : Int} (hc : kidOK s c) : 1 ≤ rPer s c ∧ rPer s c ≤ 20 := by
  unfold rPer
  rcases hc with ⟨a, b, q⟩ | ⟨a, b, q⟩
  · rw [if_pos a]
    exact (hs.2.2.2.2.2 _ b q).2.2
  · rw [if_neg (by omega)]
    exact (hs.2.2.2.2.1 _ (by omega) q).2.2
/-- a slot at g of a frame that may be there -/
theorem FrOK.slot {s : Int → Int} {f : Int} (hs : RI s) (h : FrOK s f) : rFr s f 3 ≤ rSl0 s (rFr s f 1) (rFr s f 2) (rFr s f 3) ∧ rSl0 s (rFr s f 1) (rFr s f 2) (rFr s f 3) < rFr s f 3 + 20 ∧ rSl0 s (rFr s f 1) (rFr s f 2) (rFr s f 3) ≤ 20000 + 20 * (5 - rFr s f 1) := by
  have hh := h.hub hs
  have r := rSl0_rng (s := s) (g := rFr s f 1) (c := rFr s f 2) (st := rFr s f 3) (hs.per hh)
  refine ⟨r.1, r.2, ?_⟩
  obtain ⟨k, ⟨e, p⟩, _, m⟩ := h
  have h0 := hs.1
  unfold stMax at m
  rcases k with ⟨a, b, q⟩ | ⟨a, b, q⟩
  · rw [if_pos a] at m
    omega
  · rw [if_neg (by omega)] at m
    unfold par at e
    rw [if_neg (by omega)] at e
    have := (hs.2.2.2.2.1 _ (by omega) q).2.1
    omega
theorem FmI.RF {s : Int → Int} {t : Int} {O : List (Int × Int)} (hs : RI s) (ht : s 2 ≤ 50000) (h : FmI s t O) : RF s := by
  intro f h0 h1 k
  have a := (h.1 f ⟨h0, h1⟩ (by omega)).2
  have b := h.2.1 f ⟨h0, h1⟩ k
  have hh := a.hub hs
  have sl := a.slot hs
  have h00 := hs.1
  have b1 := b.1
  have b2 := b.2.2
  have a3 := a.2.2
  have h7 := hs.2.2.1
  unfold stMax at a3
  refine ⟨⟨hh.1, by omega⟩, ⟨by omega, by omega⟩, b2.1, by omega⟩
theorem FmI.RC {s : Int → Int} {t : Int} {O : List (Int × Int)} (hs : RI s) (h : FmI s t O) {f : Int} (hf : mW s f) : RC s f := by
  have k : rFr s f 0 = 1 := hf.2
  have a := (h.1 f hf.1 (by omega)).2
  have hh := a.hub hs
  have h00 := hs.1
  have h7 := hs.2.2.1
  have f0 := hf.1.1
  have f1 := hf.1.2
  have cr := a.1.r15
  have sl := a.2.2
  refine ⟨⟨f0, by omega⟩, ⟨hh.1, by omega⟩, cr, hs.per hh, sl.1, ?_⟩
  have := sl.2
  unfold stMax at this
  split at this <;> omega
theorem len_le_of {l m : List Int} (h : l.Nodup) (hs : ∀ x, x ∈ l → x ∈ m) : l.length ≤ m.length := List.Nodup.length_le_of_subset h hs
theorem FmI.alive {s : Int → Int} {t : Int} {O : List (Int × Int)} (h : FmI s t O) : (irP (s 7) (fun f => ¬ rFr s f 0 = 0)).length ≤ 40 + O.length := by
  obtain ⟨h1, _, _, _, ⟨og, ho, hi⟩, h40⟩ := h
  have e1 : (irP (s 7) (hasO s)).length ≤ O.length := by
    have nd : ((irP (s 7) (hasO s)).map og).Nodup := by
      refine List.pairwise_map.mpr (List.Pairwise.imp_of_mem (fun {a b} ha hb k q => k ?_) (irP_nodup (n := s 7) (p := hasO s)))
      exact hi a b (irP_mem.mp ha).2 (irP_mem.mp hb).2 q
    have sb : ∀ x, x ∈ (irP (s 7) (hasO s)).map og → x ∈ O := fun x hx => by
      obtain ⟨f, hf, rfl⟩ := List.mem_map.mp hx
      exact (ho f (irP_mem.mp hf).2).1
    have := List.Nodup.length_le_of_subset nd sb
    rw [List.length_map] at this
    exact this
  have e2 : (irP (s 7) (fun f => ¬ rFr s f 0 = 0)).length ≤ (irP (s 7) (fun f => rFr s f 0 = 1 ∧ rFr s f 2 < 10) ++ irP (s 7) (hasO s)).length := by
    refine len_le_of irP_nodup (fun f hf => ?_)
    obtain ⟨a, b⟩ := irP_mem.mp hf
    have q := h1 f a b
    refine List.mem_append.mpr ?_
    rw [irP_mem, irP_mem]
    rcases q.1 with z | z
    · by_cases c : rFr s f 2 < 10
      · exact Or.inl ⟨a, z, c⟩
      · exact Or.inr ⟨a, a, Or.inr ⟨z, by omega⟩⟩
    · exact Or.inr ⟨a, a, Or.inl z⟩
  rw [List.length_append] at e2
  omega
theorem rFree0_is (s : Int → Int) : ∀ (n : Nat) (f : Int), 0 ≤ f → f ≤ s 7 → s 7 - f < (n : Nat) → (∀ y, 0 ≤ y → y < f → ¬ rFr s y 0 = 0) → (0 ≤ rFree0 s n f ∧ rFree0 s n f ≤ s 7) ∧ (rFree0 s n f < s 7 → rFr s (rFree0 s n f) 0 = 0) ∧ ∀ y, 0 ≤ y → y < rFree0 s n f → ¬ rFr s y 0 = 0
  | 0, f, h0, h1, hn, _ => by omega
  | n + 1, f, h0, h1, hn, hb => by
    unfold rFree0
    by_cases q : f < s 7 ∧ ¬ rFr s f 0 = 0
    · rw [if_pos q]
      refine rFree0_is s n (f + 1) (by omega) (by omega) (by omega) (fun y a b => ?_)
      by_cases e : y = f
      · rw [e]; exact q.2
      · exact hb y a (by omega)
    · rw [if_neg q]
      refine ⟨⟨h0, h1⟩, fun z => ?_, hb⟩
      by_cases e : rFr s f 0 = 0
      · exact e
      · exact absurd ⟨z, e⟩ q
/-- a frame is free, while not too many are taken -/
theorem rFree_is {s : Int → Int} (h7 : 0 ≤ s 7 ∧ s 7 ≤ 559) {k : Nat} (hk : (irP (s 7) (fun f => ¬ rFr s f 0 = 0)).length ≤ k) (hk2 : k < 559) : (0 ≤ rFree s ∧ rFree s ≤ s 7 ∧ rFree s < 559) ∧ (rFree s < s 7 → rFr s (rFree s) 0 = 0) := by
  have r := rFree0_is s 560 0 (by omega) h7.1 (by omega) (fun y a b => by omega)
  refine ⟨⟨r.1.1, r.1.2, ?_⟩, r.2.1⟩
  have e : (ir (rFree s)).length ≤ (irP (s 7) (fun f => ¬ rFr s f 0 = 0)).length := by
    refine len_le_of ir_nodup (fun x hx => ?_)
    have hx := ir_mem.mp hx
    have hr : rFree s ≤ s 7 := r.1.2
    exact irP_mem.mpr ⟨⟨hx.1, by omega⟩, r.2.2 x hx.1 hx.2⟩
  have l : (ir (rFree s)).length = (rFree s).toNat := by
    unfold ir
    rw [List.length_map, List.length_range]
  omega

/-! THE SIMULATION: a frame comes -/
theorem rFr_ups {s : Int → Int} {f w j v : Int} : rFr (ups s j v) f w = if 448 + 27 * f + w = j then v else rFr s f w := rfl
theorem Hq.ups {s : Int → Int} {j v : Int} (h : 448 ≤ j ∨ j = 3 ∨ j = 7 ∨ ∃ g : Int, (0 ≤ g ∧ g < 5) ∧ (j = 8 + 10 * g + 7 ∨ j = 8 + 10 * g + 8)) : Hq s (ups s j v) := by
  intro k h0 h1 h3 h7 hg
  refine ups_ne (fun e => ?_)
  rcases h with a | a | a | ⟨g, a, b⟩
  · omega
  · omega
  · omega
  · have := hg g a.1 a.2
    rcases b with b | b <;> omega
theorem Rel.tgt {s : Int → Int} {S : Nat → Int → Int} {R : Nat → List FV} (h : Rel s S R) {c : Int} (k : kidOK s c) : cTgt S (kid c) = par s c := by
  unfold cTgt par
  rcases k with ⟨a, b, e⟩ | ⟨a, b, e⟩
  · rw [show kid c = c + 5 by unfold kid; rw [if_pos a]]
    rw [if_neg (by omega), if_pos a, show c + 5 - 5 = c by omega]
    exact (h.cu ⟨b, e⟩ (by decide)).symm
  · rw [show kid c = c - 10 by unfold kid; rw [if_neg (by omega)]]
    rw [if_pos (by omega), if_neg (by omega)]
    exact (h.up ⟨by omega, e⟩).symm
theorem Rel.slt {s : Int → Int} {S : Nat → Int → Int} {R : Nat → List FV} (h : Rel s S R) {g c st : Int} (k : kidOK s c) (hg : 0 ≤ g ∧ g < s 0) : cSlt S g st (cPer S (kid c)) = rSl0 s g c st := by
  unfold cSlt rSl0
  rw [h.per k, h.cs hg (by decide)]
theorem Rel.gone {s : Int → Int} {S : Nat → Int → Int} {R : Nat → List FV} (h : Rel s S R) {c : Int} (k : kidOK s c) : cGone S (kid c) ↔ rOff s c := by
  unfold cGone rOff kid
  rcases k with ⟨a, b, e⟩ | ⟨a, b, e⟩
  · rw [if_pos a, show c + 5 - 5 = c by omega, h.cu ⟨b, e⟩ (by decide)]
    exact ⟨fun x => ⟨a, x.2⟩, fun x => ⟨by omega, x.2⟩⟩
  · rw [if_neg (by omega)]
    exact ⟨fun x => by omega, fun x => by omega⟩
theorem rSlot_on {s : Int → Int} {g c st : Int} (h : ¬ rOff s c) : rSlot s g c st = rSl0 s g c st := by
  unfold rSlot rSl0
  by_cases q : rPer s c ≤ rOf s g 4
  · rw [cif_f (fun x => x.elim h (fun y => y q)), if_pos q]
  · rw [cif_t (Or.inr q), if_neg q]
theorem Rel.late {s : Int → Int} {S : Nat → Int → Int} {R : Nat → List FV} (h : Rel s S R) {g c st : Int} (k : kidOK s c) (hg : 0 ≤ g ∧ g < s 0) (h6 : 0 ≤ rOf s g 6) (hsl : 0 ≤ rSl0 s g c st) : rLate s g c (rSlot s g c st) ↔ cLate S g (kid c) (rSl0 s g c st) := by
  unfold rLate cLate
  rw [h.gone k]
  by_cases q : rOff s c
  · exact ⟨fun _ => Or.inl q, fun _ => Or.inl q⟩
  · rw [rSlot_on q]
    obtain ⟨_, _, _, r4, _, _, r7, r8, _⟩ := (h.2.1 g hg.1 hg.2).1
    constructor
    · rintro (x | ⟨x, y⟩)
      · exact Or.inl x
      · right; rw [← r7 x]; exact y
    · rintro (x | x)
      · exact Or.inl x
      · right
        by_cases z : rOf s g 6 = 0
        · have := r8 z; omega
        · have z' : 0 < rOf s g 6 := by omega
          exact ⟨z', by rw [r7 z']; exact x⟩
theorem Rel.dbl {s : Int → Int} {S : Nat → Int → Int} {R : Nat → List FV} (h : Rel s S R) {f g c sl : Int} {v : FV} (hg : 0 ≤ g ∧ g < s 0) (hc : 0 ≤ c ∧ c < 15) (hF : ∀ e, 0 ≤ e → e < s 7 → isK s g e → 0 ≤ rFr s e 2 ∧ rFr s e 2 < 15) (h0 : v 0 = kid c) (h1 : v 1 = rFr s f 3) : rDblN s f g c sl (s 7) ↔ cHas (kR R g) sl v := by
  have hK := (h.2.1 g hg.1 hg.2).2
  constructor
  · rintro ⟨e, a, b, k, k2, k3⟩
    obtain ⟨i, hi, hf⟩ := hK.to a b ⟨k.1, k.2.1⟩
    exact ⟨i, hi.1, hi.2, by rw [hf.2.2.1]; exact k.2.2, by rw [hf.1, k2, h0], by rw [hf.2.1, k3, h1]⟩
  · rintro ⟨i, a, b, k, k2, k3⟩
    obtain ⟨e, he, kk, hf⟩ := hK.of a b
    refine ⟨e, he.1, he.2, ⟨kk.1, kk.2, by rw [← hf.2.2.1]; exact k⟩, ?_, by rw [← hf.2.1, k3, h1]⟩
    rw [hf.1, h0] at k2
    exact kid_in (hF e he.1 he.2 kk) hc k2
theorem cPl_is {L : List FV} {sl : Int} : ∀ n : Nat, n ≤ L.length → (∀ i : Int, cPl L sl n ≤ i → i < (n : Nat) → sl < gt L i 2) ∧ (0 < cPl L sl n → gt L (cPl L sl n - 1) 2 ≤ sl)
  | 0, _ => ⟨fun i a b => by rw [cPl] at a; omega, fun h => by rw [cPl] at h; omega⟩
  | n + 1, hn => by
    have ih := cPl_is (L := L) (sl := sl) n (by omega)
    rw [cPl]
    by_cases q : sl < gt L (n : Int) 2
    · rw [if_pos q]
      refine ⟨fun i a b => ?_, ih.2⟩
      by_cases e : i = n
      · rw [e]; exact q
      · exact ih.1 i a (by omega)
    · rw [if_neg q]
      refine ⟨fun i a b => by omega, fun _ => ?_⟩
      rw [show ((n + 1 : Nat) : Int) - 1 = (n : Int) by omega]
      omega
theorem cPlace_is {L : List FV} {sl : Int} (hS : SortS L) : (0 ≤ cPlace L sl ∧ cPlace L sl ≤ (L.length : Nat)) ∧ (∀ i : Int, 0 ≤ i → i < cPlace L sl → gt L i 2 ≤ sl) ∧ ∀ i : Int, cPlace L sl ≤ i → i < (L.length : Nat) → sl < gt L i 2 := by
  have r := cPl_rng (L := L) (sl := sl) L.length
  have p := cPl_is (L := L) (sl := sl) L.length (Nat.le_refl _)
  unfold cPlace
  refine ⟨r, fun i a b => ?_, p.1⟩
  have := p.2 (by omega)
  by_cases e : i = cPl L sl L.length - 1
  · rw [e]; exact this
  · have := hS i (cPl L sl L.length - 1) a (by omega) (by omega)
    omega
theorem insA_rows {L : List FV} {v : FV} {sl : Int} (hS : SortS L) (hT : TimeS L) (hv : v 2 = sl) (ht : ∀ i : Int, 0 ≤ i → i < (L.length : Nat) → gt L i 3 ≤ v 3) : SortS (insA L (cPlace L sl) v) ∧ TimeS (insA L (cPlace L sl) v) := by
  obtain ⟨r, p, q⟩ := cPlace_is (sl := sl) hS
  have g := fun (k : Int) (a : 0 ≤ k) (b : k ≤ (L.length : Nat)) => gt_insA (v := v) r.1 r.2 a b
  have l : (insA L (cPlace L sl) v).length = L.length + 1 := insA_len
  constructor
  · intro i j a b c
    rw [l] at c
    rw [g i a (by omega), g j (by omega) (by omega)]
    split
    · split
      · exact hS i j a b (by omega)
      · split
        · rw [hv]; exact p i a (by omega)
        · by_cases e : i = j - 1
          · rw [e]; exact Int.le_refl _
          · exact hS i (j - 1) a (by omega) (by omega)
    · split
      · rw [if_neg (by omega), if_neg (by omega), hv]
        have := q (j - 1) (by omega) (by omega)
        omega
      · rw [if_neg (by omega), if_neg (by omega)]
        exact hS (i - 1) (j - 1) (by omega) (by omega) (by omega)
  · intro i j a b c e
    rw [l] at c
    rw [g i a (by omega), g j (by omega) (by omega)] at e ⊢
    by_cases x : i < cPlace L sl
    · rw [if_pos x] at e ⊢
      by_cases y : j < cPlace L sl
      · rw [if_pos y] at e ⊢
        exact hT i j a b (by omega) e
      · rw [if_neg y] at e ⊢
        by_cases z : j = cPlace L sl
        · rw [if_pos z]; exact ht i a (by omega)
        · rw [if_neg z] at e ⊢
          have := p i a x
          have := q (j - 1) (by omega) (by omega)
          omega
    · rw [if_neg x] at e ⊢
      by_cases z : i = cPlace L sl
      · rw [if_pos z, if_neg (by omega), if_neg (by omega)] at e
        have := q (j - 1) (by omega) (by omega)
        omega
      · rw [if_neg z, if_neg (by omega), if_neg (by omega)] at e ⊢
        exact hT (i - 1) (j - 1) (by omega) (by omega) (by omega) e
def KI (s : Int → Int) (R : Nat → List FV) : Prop := ∀ g, 0 ≤ g → g < s 0 → SortS (kR R g) ∧ TimeS (kR R g)
/-- the reference's row s and the class's tree S, R: related, and all that they keep to (t: the least time due, O: the origins, C: a bound of the counts) -/
def Sim (s : Int → Int) (t : Int) (O : List (Int × Int)) (C : Int) (S : Nat → Int → Int) (R : Nat → List FV) : Prop := Rel s S R ∧ HdI s C ∧ FmI s t O ∧ KI s R
theorem Sim.RowOK {s : Int → Int} {t : Int} {O : List (Int × Int)} {C : Int} {S : Nat → Int → Int} {R : Nat → List FV} (h : Sim s t O C S R) {g : Int} (hg : 0 ≤ g ∧ g < s 0) : RowI2 s (kR R g) g ∧ ∀ i : Int, 0 ≤ i → i < ((kR R g).length : Nat) → gt (kR R g) i 3 ≤ s 2 ∧ gt (kR R g) i 2 ≤ 20000 + 20 * (5 - g) := by
  obtain ⟨hr, hd, hf, hk⟩ := h
  have hs := hd.1
  have hK := (hr.2.1 g hg.1 hg.2).2
  have hT := hd.2.2.2.2.1
  have hF : ∀ f, 0 ≤ f → f < s 7 → isK s g f → FrOK s f ∧ KeptOK s f := fun f a b k => ⟨(hf.1 f ⟨a, b⟩ (by rw [k.1]; decide)).2, hf.2.1 f ⟨a, b⟩ k.1⟩
  refine ⟨⟨(hk g hg.1 hg.2).1, (hk g hg.1 hg.2).2, fun i a b => ?_, fun f a b k => (hF f a b k).1.1.r15⟩, fun i a b => ?_⟩
  · obtain ⟨f, hf2, k, e⟩ := hK.of a b
    obtain ⟨k1, k2⟩ := hF f hf2.1 hf2.2 k
    have sl := k1.slot hs
    have hb := k1.hub hs
    have st := k1.2.2
    have c15 := kid_rng k1.1.r15
    have e0 := e.1
    have e2 := e.2.2.1
    have e3 := e.2.2.2.1
    have k3 := k2.1
    have k4 := k2.2.2
    refine ⟨by rw [e0]; exact c15, ⟨by omega, by omega⟩, by omega, by omega⟩
  · obtain ⟨f, hf2, k, e⟩ := hK.of a b
    obtain ⟨k1, k2⟩ := hF f hf2.1 hf2.2 k
    have sl := k1.slot hs
    have e2 := e.2.2.1
    have e3 := e.2.2.2.1
    have k3 := k2.1
    have k4 := k2.2.2
    have kg := k.2
    exact ⟨by omega, by omega⟩

/-! THE SIMULATION: what is due -/
def dik (c : Int) : Int := if c < 5 then c + 10 else c - 5
theorem kid_dik {c : Int} (h : 0 ≤ c ∧ c < 15) : kid (dik c) = c ∧ 0 ≤ dik c ∧ dik c < 15 := by
  unfold kid dik
  split <;> split <;> omega
theorem kid_rng {c : Int} (h : 0 ≤ c ∧ c < 15) : 0 ≤ kid c ∧ kid c < 15 := by
  unfold kid
  split <;> omega
theorem rChild.ok {s : Int → Int} {g c : Int} (hc : 0 ≤ c ∧ c < 15) (h : rChild s g c) : kidOK s c := by
  rcases h with ⟨a, b, e, _⟩ | ⟨a, b, e, _⟩
  · exact Or.inl ⟨a, b, by omega⟩
  · exact Or.inr ⟨a, hc.2, by omega⟩
/-- what a row must keep to -/
def RowI2 (s : Int → Int) (L : List FV) (g : Int) : Prop := SortS L ∧ TimeS L ∧ RowOK L ∧ ∀ f, 0 ≤ f → f < s 7 → isK s g f → 0 ≤ rFr s f 2 ∧ rFr s f 2 < 15
theorem Rel.compl {s : Int → Int} {S : Nat → Int → Int} {R : Nat → List FV} {g st : Int} (h : Rel s S R) (hn : 0 ≤ s 7) (hg : 0 ≤ g ∧ g < s 0) (hI : RowI2 s (kR R g) g) (hs : SlSt (kR R g) st) : rCompl s g (gt (kR R g) st 2) ↔ cComp S (kR R g) g st (cEnd (kR R g) st) := by
  have hK := (h.2.1 g hg.1 hg.2).2
  unfold rCompl rComplN cComp cCompN
  constructor
  · intro q c c0 c1 hc
    obtain ⟨e, d0, d1⟩ := kid_dik ⟨c0, c1⟩
    have hr : rChild s g (dik c) := (h.child ⟨d0, d1⟩).mpr (by rw [e]; exact hc)
    have q := q (dik c) d0 d1 hr
    rw [hK.frames hn hI.1 hs ⟨d0, d1⟩ hI.2.2.2, h.exp hg (rChild.ok ⟨d0, d1⟩ hr), e] at q
    exact q
  · intro q c c0 c1 hc
    have kr := kid_rng ⟨c0, c1⟩
    have q := q (kid c) kr.1 kr.2 ((h.child ⟨c0, c1⟩).mp hc)
    rw [hK.frames hn hI.1 hs ⟨c0, c1⟩ hI.2.2.2, h.exp hg (rChild.ok ⟨c0, c1⟩ hc)]
    exact q
theorem Rel.lasts {s : Int → Int} {S : Nat → Int → Int} {R : Nat → List FV} {g st : Int} (h : Rel s S R) (hn : 0 ≤ s 7) (hg : 0 ≤ g ∧ g < s 0) (hI : RowI2 s (kR R g) g) (hs : SlSt (kR R g) st) : rLasts s g (gt (kR R g) st 2) = cWait S (kR R g) g st (cT S 6) := by
  have hK := (h.2.1 g hg.1 hg.2).2
  have e2 : s 2 = cT S 6 := h.1.2.2.1
  unfold rLasts rEnd cWait e_mxF
  rw [hK.first hn hI.1 hI.2.1 hI.2.2.1 hs, h.cs hg (by decide), h.cs hg (by decide), e2]
  by_cases q : cSe S g 1 = 0
  · rw [if_pos q]
    split <;> split <;> omega
  · rw [if_neg q]
    split <;> split <;> omega
theorem Rel.due {s : Int → Int} {S : Nat → Int → Int} {R : Nat → List FV} {g : Int} (h : Rel s S R) (hn : 0 ≤ s 7) (hg : 0 ≤ g ∧ g < s 0) (hI : RowI2 s (kR R g) g) : rDue s g ↔ cReady S R g := by
  have hK := (h.2.1 g hg.1 hg.2).2
  have hb := hK.behind hn hI.1 (fun i a b => (hI.2.2.1 i a b).2.1.1)
  unfold rDue cReady
  by_cases hl : (kR R g).length = 0
  · rw [if_pos hl] at hb
    rw [hb, hl]
    constructor
    · rintro ⟨q, _⟩; omega
    · rintro ⟨q, _⟩; omega
  · rw [if_neg hl] at hb
    have hs := SlSt.zero (L := kR R g) (by omega)
    rw [hb, h.compl hn hg hI hs, h.lasts hn hg hI hs]
    constructor
    · rintro ⟨_, q⟩; exact ⟨by omega, q.symm⟩
    · rintro ⟨_, q⟩; exact ⟨(hI.2.2.1 0 (by omega) (by omega)).2.1.1, q.symm⟩
theorem sum_kid (F : Int → Int) : fI 15 (fun c n => n + F (kid c)) 0 = fI 15 (fun c n => n + F c) 0 := by
  unfold fI
  rw [show (15 : Int).toNat = 15 from rfl, show List.range 15 = [0, 1, 2, 3, 4, 5, 6, 7, 8, 9, 10, 11, 12, 13, 14] by decide]
  simp only [List.foldl_cons, List.foldl_nil]
  rw [show kid ((0 : Nat) : Int) = 5 by decide, show kid ((1 : Nat) : Int) = 6 by decide, show kid ((2 : Nat) : Int) = 7 by decide, show kid ((3 : Nat) : Int) = 8 by decide, show kid ((4 : Nat) : Int) = 9 by decide, show kid ((5 : Nat) : Int) = 10 by decide, show kid ((6 : Nat) : Int) = 11 by decide, show kid ((7 : Nat) : Int) = 12 by decide, show kid ((8 : Nat) : Int) = 13 by decide, show kid ((9 : Nat) : Int) = 14 by decide, show kid ((10 : Nat) : Int) = 0 by decide, show kid ((11 : Nat) : Int) = 1 by decide, show kid ((12 : Nat) : Int) = 2 by decide, show kid ((13 : Nat) : Int) = 3 by decide, show kid ((14 : Nat) : Int) = 4 by decide]
  show _ = 0 + F 0 + F 1 + F 2 + F 3 + F 4 + F 5 + F 6 + F 7 + F 8 + F 9 + F 10 + F 11 + F 12 + F 13 + F 14
  omega
theorem Rel.children {s : Int → Int} {S : Nat → Int → Int} {R : Nat → List FV} {g : Int} (h : Rel s S R) : rChildren s g = cChildren S g := by
  unfold rChildren cChildren
  rw [← sum_kid (fun c => b2i (cChild S g c))]
  exact fI_congr (fun c a b n => by rw [b2i_congr (h.child ⟨a, b⟩)])
theorem Rel.expected {s : Int → Int} {S : Nat → Int → Int} {R : Nat → List FV} {g sl : Int} (h : Rel s S R) (hg : 0 ≤ g ∧ g < s 0) : rExpected s g sl = cExpA S g sl := by
  unfold rExpected cExpA
  rw [← sum_kid (fun c => cif (cChild S g c) (cExp S g c sl) 0)]
  refine fI_congr (fun c a b n => ?_)
  by_cases q : rChild s g c
  · rw [cif_t q, cif_t ((h.child ⟨a, b⟩).mp q), h.exp hg (rChild.ok ⟨a, b⟩ q)]
  · rw [cif_f q, cif_f (fun e => q ((h.child ⟨a, b⟩).mpr e))]

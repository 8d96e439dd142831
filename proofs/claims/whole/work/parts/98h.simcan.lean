/-! THE SIMULATION: a period that may be set -/
theorem Rel.can {s : Int → Int} {S : Nat → Int → Int} {R : Nat → List FV} (h : Rel s S R) (hs : RI s) (hf : RF s) (hC : CI S) {g p : Int} (hg : 0 ≤ g ∧ g < s 0) (hI : ∀ x, 0 ≤ x → x < s 0 → RowI2 s (kR R x) x) : rCanN s g p 15 ↔ cCanN S g p 15 := by
  have t := h.touch hs hf hg (hI g hg.1 hg.2)
  have eu := h.up hg
  have h0 := h.1.1
  have hh := hC.2.2.1 g hg.1 (by omega)
  have tu : 0 ≤ cH S g 3 → ((rSls s (cH S g 3) (-1) = 0 ∧ rOf s (cH S g 3) 6 = 0) ↔ cTouch S (cH S g 3)) := fun q => h.touch hs hf ⟨q, by omega⟩ (hI _ q (by omega))
  have pu : 0 ≤ cH S g 3 → rOf s (cH S g 3) 4 = cSe S (cH S g 3) 4 := fun q => h.cs ⟨q, by omega⟩ (by decide)
  unfold rCanN cCanN rCanB cCanB
  rw [eu]
  constructor
  · rintro ⟨⟨a, b, c⟩, d⟩
    refine ⟨⟨t.mp ⟨a, b⟩, fun q => ?_⟩, fun c c0 c1 hc => ?_⟩
    · obtain ⟨x, y, z⟩ := c q
      exact ⟨(tu q).mp ⟨y, z⟩, by rw [← pu q]; exact x⟩
    · obtain ⟨e, d0, d1⟩ := kid_dik ⟨c0, c1⟩
      have hr : rChild s g (dik c) := (h.child ⟨d0, d1⟩).mpr (by rw [e]; exact hc)
      have q := d (dik c) d0 d1 hr
      rw [h.per (rChild.ok ⟨d0, d1⟩ hr), e] at q
      exact q
  · rintro ⟨⟨a, c⟩, d⟩
    refine ⟨⟨(t.mpr a).1, (t.mpr a).2, fun q => ?_⟩, fun c c0 c1 hc => ?_⟩
    · obtain ⟨x, y⟩ := c q
      exact ⟨by rw [pu q]; exact y, ((tu q).mpr x).1, ((tu q).mpr x).2⟩
    · have kr := kid_rng ⟨c0, c1⟩
      have q := d (kid c) kr.1 kr.2 ((h.child ⟨c0, c1⟩).mp hc)
      rw [h.per (rChild.ok ⟨c0, c1⟩ hc)]
      exact q

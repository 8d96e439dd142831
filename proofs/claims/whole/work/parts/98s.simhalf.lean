/-! THE SIMULATION: a release, its first half for both -/
theorem SF_upX {A : Nat → Int → Int} {n m : Nat} {k v : Int} (h : n ≠ m ∧ n ≠ m + 1 ∧ n ≠ m + 2) : SF (upX A n k v) m = SF A m := by
  funext j
  unfold SF
  rw [upX_at (by omega), upX_at (by omega), upX_at (by omega)]
theorem Sim.CI {s : Int → Int} {t : Int} {O : List (Int × Int)} {C : Int} {S : Nat → Int → Int} {R : Nat → List FV} (h : Sim s t O C S R) : CI S := by
  obtain ⟨hr, hd, _⟩ := h
  have hs := hd.1
  obtain ⟨t0, t1, _⟩ := hr.1
  refine ⟨by rw [← t0]; exact hs.1, by rw [← t1]; exact hs.2.1, fun g a b => ?_, fun u a b => ?_⟩
  · rw [← t0] at b
    have x := hs.2.2.2.2.1 g a b
    have y := (hd.2.2.1 g a b).2.2.2.1
    rw [← hr.up ⟨a, b⟩, ← hr.cs ⟨a, b⟩ (by decide), ← hr.cs ⟨a, b⟩ (by decide)]
    exact ⟨x.1, x.2.1, x.2.2.1, x.2.2.2, y.1, y.2⟩
  · rw [← t1] at b
    have x := hs.2.2.2.2.2 u a b
    rw [← hr.cu ⟨a, b⟩ (by decide), ← hr.cu ⟨a, b⟩ (by decide), ← t0]
    exact x
noncomputable def rB (s : Int → Int) (g sl msk : Int) (V F : Int → Int) : Int → Int := ups (ups (rHld (rClr s g sl (s 7)) g msk 10 V F) (8 + 10 * g + 6) (wr (rOf (rClr s g sl (s 7)) g 6 + 1))) (8 + 10 * g + 9) sl
theorem rB_fr {s : Int → Int} {g sl msk f w : Int} {V F : Int → Int} (hg : 0 ≤ g ∧ g < 5) (hf : 0 ≤ f) (hw : 0 ≤ w ∧ w < 27) : rFr (rB s g sl msk V F) f w = cif (w = 0 ∧ inR7 s f ∧ rIn s f g sl) 0 (rFr s f w) := by
  show rB s g sl msk V F (448 + 27 * f + w) = _
  unfold rB
  rw [ups_ne (by omega), ups_ne (by omega), rHld_out (by omega)]
  unfold rClr
  refine cif_congr ⟨fun ⟨e, a, b, c, d⟩ => ?_, fun ⟨a, b, c⟩ => ⟨f, b.1, b.2, by omega, c⟩⟩
  have : e = f := by omega
  subst this
  exact ⟨by omega, ⟨a, b⟩, d⟩
theorem rB_lo {s : Int → Int} {g sl msk k : Int} {V F : Int → Int} (hk : k < 448) (h6 : k ≠ 8 + 10 * g + 6) (h9 : k ≠ 8 + 10 * g + 9) : rB s g sl msk V F k = cif (98 + 30 * g ≤ k ∧ k < 98 + 30 * g + 3 * 10 ∧ rBit msk ((k - 98 - 30 * g) / 3)) (if (k - 98 - 30 * g) % 3 = 0 then 1 else if (k - 98 - 30 * g) % 3 = 1 then V ((k - 98 - 30 * g) / 3) else F ((k - 98 - 30 * g) / 3)) (s k) := by
  unfold rB
  rw [ups_ne h9, ups_ne h6]
  unfold rHld
  rw [rClr_lo k hk]
theorem rB_he {s : Int → Int} {g sl msk C : Int} {V F : Int → Int} (h : HdI s C) (hg : 0 ≤ g ∧ g < s 0) : He s (rB s g sl msk V F) g sl := by
  have h0 := h.1.1
  refine ⟨fun k a b c d e => ?_, ?_, ?_⟩
  · rw [rB_lo b c d, cif_f (fun z => by omega)]
  · show rB s g sl msk V F (8 + 10 * g + 6) = _
    unfold rB
    rw [ups_ne (by omega), ups_eq rfl]
    have e : rOf (rClr s g sl (s 7)) g 6 = rOf s g 6 := rClr_lo _ (by omega)
    rw [e, wr_id]
    have h6 := (h.2.2.1 g hg.1 hg.2).2.2.2.2
    have hC := h.2.2.2.2.1.2.2.2.2.2.2
    exact ⟨by omega, by omega⟩
  · exact ups_eq rfl
theorem cRl0_at {S : Nat → Int → Int} {L : List FV} {g : Int} {m : Nat} {k : Int} (h1 : m ≠ 6 ∧ m ≠ 7 ∧ m ≠ 8) (h2 : m ≠ 15 + 7 * g.toNat ∧ m ≠ 16 + 7 * g.toNat ∧ m ≠ 17 + 7 * g.toNat) (h3 : ¬ (m = 13 + 7 * g.toNat ∧ k = 1)) (h4 : ¬ (m = 11 + 7 * g.toNat ∧ (k = 5 ∨ k = 8))) : cRl0 S L g m k = S m k := by
  unfold cRl0
  rw [upX_at (by omega), upX_at (by omega), upX_at (by omega), upF_ne (by omega) (by omega) (by omega), upF_ne (by omega) (by omega) (by omega)]
theorem cRl0_held {S : Nat → Int → Int} {L : List FV} {g : Int} : SF (cRl0 S L g) (15 + 7 * g.toNat) = nf (cB S L g (cT S 5)).2 := by
  unfold cRl0
  rw [SF_upX (by omega), SF_upX (by omega), SF_upX (by omega), SF_ne (by omega), SF_upF]
theorem cRl0_built {S : Nat → Int → Int} {L : List FV} {g : Int} : SF (cRl0 S L g) 6 = nf (cB S L g (cT S 5)).1 := by
  unfold cRl0
  rw [SF_upX (by omega), SF_upX (by omega), SF_upX (by omega), SF_upF]
theorem cRl0_n {S : Nat → Int → Int} {L : List FV} {g : Int} : cRl0 S L g (13 + 7 * g.toNat) 1 = ((L.drop (cEnd L 0).toNat).length : Nat) ∧ cRl0 S L g (11 + 7 * g.toNat) 5 = wr (cH S g 5 + 1) ∧ cRl0 S L g (11 + 7 * g.toNat) 8 = (cB S L g (cT S 5)).1 1 := by
  unfold cRl0
  refine ⟨by rw [upX_at (by omega), upX_at (by omega), upX_is], by rw [upX_at (by omega), upX_is], upX_is⟩
theorem Sim.slot0 {s : Int → Int} {t : Int} {O : List (Int × Int)} {C : Int} {S : Nat → Int → Int} {R : Nat → List FV} {g : Int} (h : Sim s t O C S R) (hg : 0 ≤ g ∧ g < s 0) (hl : 0 < (kR R g).length) : (0 < rOf s g 6 → rOf s g 9 < gt (kR R g) 0 2) ∧ (∀ f, inR7 s f → isK s g f → ¬ rFr s f 4 = gt (kR R g) 0 2 → gt (kR R g) 0 2 < rFr s f 4) ∧ (∃ f, inR7 s f ∧ rIn s f g (gt (kR R g) 0 2)) ∧ (0 ≤ gt (kR R g) 0 2 ∧ gt (kR R g) 0 2 ≤ 20000 + 20 * (5 - g)) ∧ rBehind s g (-1) = gt (kR R g) 0 2 := by
  have hK := (h.1.2.1 g hg.1 hg.2).2
  have hI := h.RowOK hg
  have hS := hI.1.1
  obtain ⟨f, hf, k, e⟩ := hK.of (i := 0) (by omega) (by omega)
  have hs7 := h.2.1.1.2.2.1.1
  have kk := h.2.2.1.2.1 f hf k.1
  have r0 := (hI.1.2.2.1 0 (by omega) (by omega)).2.1
  refine ⟨fun z => ?_, fun f' i7 k' z => ?_, ⟨f, hf, k.1, k.2, by rw [e.2.2.1]⟩, ⟨r0.1, (hI.2 0 (by omega) (by omega)).2⟩, ?_⟩
  · rw [e.2.2.1]
    have := kk.2.1
    rw [k.2] at this
    exact this z
  · obtain ⟨i, hi, e'⟩ := hK.to i7.1 i7.2 k'
    rw [← e'.2.2.1] at z ⊢
    by_cases q : i = 0
    · rw [q] at z; exact absurd rfl z
    · have := hS 0 i (by omega) (by omega) hi.2
      omega
  · rw [hK.behind hs7 hS (fun i a b => (hI.1.2.2.1 i a b).2.1.1), if_neg (by omega)]
theorem Sim.half {s : Int → Int} {t : Int} {O : List (Int × Int)} {C : Int} {S : Nat → Int → Int} {R : Nat → List FV} {g : Int} {r : Int → Option (Int × Int)} {V F : Int → Int} (h : Sim s t O C S R) (hg : 0 ≤ g ∧ g < s 0) (hl : 0 < (kR R g).length) (hr : ∀ u, 0 ≤ u → u < s 1 → rIsOf s g u → RRead s g u (gt (kR R g) 0 2) (r u)) (hV : ∀ u, 0 ≤ u → u < s 1 → rIsOf s g u → ∀ x y, r u = some (x, y) → V u = x ∧ F u = y) (hC : C + 1 ≤ 1000000000) : BuiltN s g (gt (kR R g) 0 2) r (SF S (15 + 7 * g.toNat)) (s 1) (cB S (kR R g) g (s 1)) ∧ Sim (rB s g (gt (kR R g) 0 2) (rMsk s g r (s 1)) V F) t O (C + 1) (cRl0 S (kR R g) g) (upR R (13 + 7 * g.toNat) ((kR R g).drop (cEnd (kR R g) 0).toNat)) ∧ ∃ p, OrgS (rB s g (gt (kR R g) 0 2) (rMsk s g r (s 1)) V F) O p := by
  have hci := h.CI
  have hI := h.RowOK hg
  obtain ⟨z1, z2, z3, z4, _⟩ := h.slot0 hg hl
  obtain ⟨hR, hH, hF, hk⟩ := h
  have hs := hH.1
  have h00 := hs.1
  have h01 := hs.2.1
  have g5 : 0 ≤ g ∧ g < 5 := ⟨hg.1, by omega⟩
  have bu := cB_is hR hci hs hg hF (hk g hg.1 hg.2).1 hl hr
  have he := rB_he (sl := gt (kR R g) 0 2) (msk := rMsk s g r (s 1)) (V := V) (F := F) hH hg
  have e5 : cT S 5 = s 1 := hR.1.2.1.symm
  have hh : ∀ f w, 0 ≤ f → (0 ≤ w ∧ w < 27) → rFr (rB s g (gt (kR R g) 0 2) (rMsk s g r (s 1)) V F) f w = cif (w = 0 ∧ inR7 s f ∧ rIn s f g (gt (kR R g) 0 2)) 0 (rFr s f w) := fun f w a b => rB_fr g5 a b
  generalize hb : rB s g (gt (kR R g) 0 2) (rMsk s g r (s 1)) V F = b at he hh ⊢
  have b7 : b 7 = s 7 := he.lo g5 (by decide) (by decide)
  have i7 : ∀ f, inR7 b f ↔ inR7 s f := fun f => by unfold inR7; rw [b7]
  have ho : OthP s b (fun f => inR7 s f ∧ rIn s f g (gt (kR R g) 0 2)) := fun f nd => ⟨i7 f, fun x w a c => by rw [hh f w x.1 ⟨a, c⟩, cif_f (fun z => nd z.2)]⟩
  have hz : ∀ f, inR7 s f → rIn s f g (gt (kR R g) 0 2) → rFr b f 0 = 0 := fun f x y => by rw [hh f 0 x.1 (by decide), cif_t ⟨rfl, x, y⟩]
  obtain ⟨hF', hO'⟩ := hF.cut hH he hg ho b7 hz z1 z2 z3
  have hH' := hH.he he hg z4.1 hC
  have ts := take_slot (hk g hg.1 hg.2).1 hl
  have S1H : ∀ x k : Int, 0 ≤ x → x < 5 → (x = g → k ≠ 5 ∧ k ≠ 8) → cH (cRl0 S (kR R g) g) x k = cH S x k := fun x k a b c => cRl0_at (by omega) (by omega) (by omega) (by omega)
  have S1S : ∀ x k : Int, 0 ≤ x → x < 5 → cSe (cRl0 S (kR R g) g) x k = cSe S x k := fun x k a b => cRl0_at (by omega) (by omega) (by omega) (by omega)
  have S1T : ∀ k : Int, cT (cRl0 S (kR R g) g) k = cT S k := fun k => cRl0_at (by omega) (by omega) (by omega) (by omega)
  have S1U : ∀ u k : Int, 0 ≤ u → cU (cRl0 S (kR R g) g) u k = cU S u k := fun u k a => cRl0_at (by omega) (by omega) (by omega) (by omega)
  have b0 : b 0 = s 0 := he.lo g5 (by decide) (by decide)
  refine ⟨bu, ⟨⟨?_, fun x a c => ⟨⟨fun k p q => ?_, ?_, ?_, ?_, ?_, ?_, ?_, ?_, fun u p q => ?_⟩, ?_⟩, fun u a c k p q => ?_, fun i a c => ?_, RelW.iff.mpr ⟨?_, ?_⟩⟩, hH', hF', fun x a c => ?_⟩, hO'⟩
  · obtain ⟨t0, t1, t2, t4, t5, t6⟩ := hR.1
    unfold cKept at t5
    unfold RelT cKept
    rw [S1T, S1T, S1T, S1T, S1T, he.lo g5 (k := 0) (by decide) (by decide), he.lo g5 (k := 1) (by decide) (by decide), he.lo g5 (k := 2) (by decide) (by decide), he.lo g5 (k := 4) (by decide) (by decide), he.lo g5 (k := 5) (by decide) (by decide), he.lo g5 (k := 6) (by decide) (by decide)]
    exact ⟨t0, t1, t2, t4, t5, t6⟩
  · rw [b0] at c
    have x5 : 0 ≤ x ∧ x < 5 := ⟨a, by omega⟩
    obtain ⟨r1, r2, r3, r4, r5, r6, r7, r8, r9⟩ := (hR.2.1 x a c).1
    rw [he.of g5 x5 ⟨p, by omega⟩ (fun _ => by omega), S1S x k a x5.2]; exact r1 k p q
  · rw [b0] at c
    have x5 : 0 ≤ x ∧ x < 5 := ⟨a, by omega⟩
    obtain ⟨r1, r2, r3, r4, r5, r6, r7, r8, r9⟩ := (hR.2.1 x a c).1
    rw [he.of g5 x5 (by decide) (fun _ => by decide), S1H x 3 a x5.2 (fun _ => by decide)]; exact r2
  · rw [b0] at c
    have x5 : 0 ≤ x ∧ x < 5 := ⟨a, by omega⟩
    obtain ⟨r1, r2, r3, r4, r5, r6, r7, r8, r9⟩ := (hR.2.1 x a c).1
    rw [he.dep g5 hs ⟨a, c⟩, S1H x 4 a x5.2 (fun _ => by decide)]; exact r3
  · rw [b0] at c
    have x5 : 0 ≤ x ∧ x < 5 := ⟨a, by omega⟩
    obtain ⟨r1, r2, r3, r4, r5, r6, r7, r8, r9⟩ := (hR.2.1 x a c).1
    by_cases y : x = g
    · subst y
      unfold cH
      rw [cRl0_n.2.1, he.2.1, r4, wr_id]
      have h6 := (hH.2.2.1 x a c).2.2.2.2
      have hC2 := hH.2.2.2.2.1.2.2.2.2.2.2
      rw [r4] at h6
      exact ⟨by omega, by omega⟩
    · rw [he.of g5 x5 (by decide) (fun z => absurd z y), S1H x 5 a x5.2 (fun z => absurd z y)]; exact r4
  · rw [b0] at c
    have x5 : 0 ≤ x ∧ x < 5 := ⟨a, by omega⟩
    obtain ⟨r1, r2, r3, r4, r5, r6, r7, r8, r9⟩ := (hR.2.1 x a c).1
    rw [he.of g5 x5 (by decide) (fun _ => by decide), S1H x 6 a x5.2 (fun _ => by decide)]; exact r5
  · rw [b0] at c
    have x5 : 0 ≤ x ∧ x < 5 := ⟨a, by omega⟩
    obtain ⟨r1, r2, r3, r4, r5, r6, r7, r8, r9⟩ := (hR.2.1 x a c).1
    rw [he.of g5 x5 (by decide) (fun _ => by decide), S1H x 7 a x5.2 (fun _ => by decide)]; exact r6
  · rw [b0] at c
    have x5 : 0 ≤ x ∧ x < 5 := ⟨a, by omega⟩
    obtain ⟨r1, r2, r3, r4, r5, r6, r7, r8, r9⟩ := (hR.2.1 x a c).1
    by_cases y : x = g
    · subst y
      intro _
      unfold cH
      rw [cRl0_n.2.2, he.2.2, e5]
      exact bu.1.2.1.symm
    · rw [he.of g5 x5 (by decide) (fun z => absurd z y), he.of g5 x5 (by decide) (fun z => absurd z y), S1H x 8 a x5.2 (fun z => absurd z y)]; exact r7
  · rw [b0] at c
    have x5 : 0 ≤ x ∧ x < 5 := ⟨a, by omega⟩
    obtain ⟨r1, r2, r3, r4, r5, r6, r7, r8, r9⟩ := (hR.2.1 x a c).1
    by_cases y : x = g
    · subst y
      intro z
      rw [he.2.1] at z
      have h6 := (hH.2.2.1 x a c).2.2.2.2
      omega
    · rw [he.of g5 x5 (by decide) (fun z => absurd z y), S1H x 8 a x5.2 (fun z => absurd z y)]; exact r8
  · rw [b0] at c
    have x5 : 0 ≤ x ∧ x < 5 := ⟨a, by omega⟩
    obtain ⟨r1, r2, r3, r4, r5, r6, r7, r8, r9⟩ := (hR.2.1 x a c).1
    by_cases y : x = g
    · subst y
      have u10 : 0 ≤ u ∧ u < 10 := ⟨p, by omega⟩
      have e0 : b (98 + 30 * x + 3 * u) = cif (rBit (rMsk s x r (s 1)) u) 1 (s (98 + 30 * x + 3 * u)) := by
        rw [← hb, rB_lo (by omega) (by omega) (by omega), show (98 + 30 * x + 3 * u - 98 - 30 * x) / 3 = u by omega, show (98 + 30 * x + 3 * u - 98 - 30 * x) % 3 = 0 by omega, if_pos rfl]
        exact cif_congr ⟨fun z => z.2.2, fun z => ⟨by omega, by omega, z⟩⟩
      have e1 : b (98 + 30 * x + 3 * u + 1) = cif (rBit (rMsk s x r (s 1)) u) (V u) (s (98 + 30 * x + 3 * u + 1)) := by
        rw [← hb, rB_lo (by omega) (by omega) (by omega), show (98 + 30 * x + 3 * u + 1 - 98 - 30 * x) / 3 = u by omega, show (98 + 30 * x + 3 * u + 1 - 98 - 30 * x) % 3 = 1 by omega, if_neg (by decide), if_pos rfl]
        exact cif_congr ⟨fun z => z.2.2, fun z => ⟨by omega, by omega, z⟩⟩
      have e2 : b (98 + 30 * x + 3 * u + 2) = cif (rBit (rMsk s x r (s 1)) u) (F u) (s (98 + 30 * x + 3 * u + 2)) := by
        rw [← hb, rB_lo (by omega) (by omega) (by omega), show (98 + 30 * x + 3 * u + 2 - 98 - 30 * x) / 3 = u by omega, show (98 + 30 * x + 3 * u + 2 - 98 - 30 * x) % 3 = 2 by omega, if_neg (by decide), if_neg (by decide)]
        exact cif_congr ⟨fun z => z.2.2, fun z => ⟨by omega, by omega, z⟩⟩
      rw [e0, e1, e2, cRl0_held, e5]
      have n5 : fHas (nf (cB S (kR R x) x (s 1)).2) u ↔ fHas (cB S (kR R x) x (s 1)).2 u := by
        show rBit (nf _ 5) u ↔ rBit _ u
        rw [nf_in (by decide) (by decide)]
      rw [n5, nf_in (by omega) (by omega), nf_in (by omega) (by omega)]
      have bh := bu.2.2.2.2.2 u u10.1 u10.2
      by_cases y : rBit (rMsk s x r (s 1)) u
      · rw [cif_t y, cif_t y, cif_t y]
        obtain ⟨y1, y2, y3⟩ := (bu.2.2.2.1 u u10.1 u10.2).mp y
        obtain ⟨⟨vx, vy⟩, hq⟩ := Option.isSome_iff_exists.mp y3
        have hv := hV u p y1 y2 vx vy hq
        have hb2 := bh.1 vx vy y1 y2 hq
        rw [hv.1, hv.2]
        exact ⟨⟨fun _ => hb2.1, fun _ => rfl⟩, fun _ => ⟨hb2.2.1.symm, hb2.2.2.symm⟩⟩
      · rw [cif_f y, cif_f y, cif_f y]
        have hb2 := bh.2 (fun z => y ((bu.2.2.2.1 u u10.1 u10.2).mpr z))
        rw [hb2.1, hb2.2.1, hb2.2.2]
        exact r9 u p q
    · have sf : SF (cRl0 S (kR R g) g) (15 + 7 * x.toNat) = SF S (15 + 7 * x.toNat) := by
        unfold cRl0
        rw [SF_upX (by omega), SF_upX (by omega), SF_upX (by omega), SF_ne (by omega), SF_ne (by omega)]
      rw [sf, he.1 _ (by omega) (by omega) (by omega) (by omega) (by omega), he.1 _ (by omega) (by omega) (by omega) (by omega) (by omega), he.1 _ (by omega) (by omega) (by omega) (by omega) (by omega)]
      exact r9 u p q
  · rw [b0] at c
    have x5 : 0 ≤ x ∧ x < 5 := ⟨a, by omega⟩
    obtain ⟨r1, r2, r3, r4, r5, r6, r7, r8, r9⟩ := (hR.2.1 x a c).1
    by_cases y : x = g
    · subst y
      refine (hR.2.1 x a c).2.cut (sl := gt (kR R x) 0 2) (e := cEnd (kR R x) 0) ho (fun f d m => ?_) (fun f m => ?_) ts.1 ts.2 upR_eq ?_
      · have := hz f d.1 d.2
        have := m.2.1
        omega
      · exact ⟨fun d => d.2.2.2, fun d => ⟨m.1, m.2.1, m.2.2, d⟩⟩
      · exact cRl0_n.1
    · refine (hR.2.1 x a c).2.keep ho (fun f d => ⟨fun m => ?_, fun m => ?_⟩) ?_ (upR_ne (by omega))
      · exact y (m.2.2.symm.trans d.2.2.1)
      · have := hz f d.1 d.2
        have := m.2.1
        omega
      · unfold cZ
        exact cRl0_at (by omega) (by omega) (by omega) (by omega)
  · rw [he.lo g5 (k := 1) (by decide) (by decide)] at c
    rw [he.its g5 ⟨a, by omega⟩ ⟨p, q⟩, S1U u k a]
    exact hR.2.2.1 u a c k p q
  · rw [he.lo g5 (k := 5) (by decide) (by decide)] at c
    have c5 := hs.2.2.2.1
    have sf : SF (cRl0 S (kR R g) g) (56 + 3 * ((cT S 7 - 1 - i) % 8).toNat) = SF S (56 + 3 * ((cT S 7 - 1 - i) % 8).toNat) := by
      unfold cRl0
      rw [SF_upX (by omega), SF_upX (by omega), SF_upX (by omega), SF_ne (by omega), SF_ne (by omega)]
    have hi : ∀ k, 248 ≤ k → k < 448 → b k = s k := fun k x y => he.1 k (by omega) y (by omega) (by omega) (by omega)
    obtain ⟨o1, o2, o3, o4, o5, o6⟩ := hR.2.2.2.1 i a c
    unfold RelO
    rw [S1T, sf, he.lo g5 (k := 5) (by decide) (by decide), hi _ (by omega) (by omega), hi _ (by omega) (by omega), hi _ (by omega) (by omega), hi _ (by omega) (by omega), hi _ (by omega) (by omega)]
    refine ⟨o1, o2, o3, o4, o5, fun u x y z => ?_⟩
    rw [hi _ (by omega) (by omega), hi _ (by omega) (by omega)]
    exact o6 u x y z
  · have := (RelW.iff.mp hR.2.2.2.2).1
    unfold cW at this ⊢
    rw [upR_ne (by omega), ← this]
    exact cRl0_at (by omega) (by omega) (by omega) (by omega)
  · rw [upR_ne (by omega)]
    refine (RelW.iff.mp hR.2.2.2.2).2.keep ho (fun f d => ⟨fun m => ?_, fun m => ?_⟩)
    · have w1 : rFr s f 0 = 1 := m.2
      have := d.2.1
      omega
    · have w1 : rFr b f 0 = 1 := m.2
      have := hz f d.1 d.2
      omega
  · rw [b0] at c
    have x5 : 0 ≤ x ∧ x < 5 := ⟨a, by omega⟩
    obtain ⟨r1, r2, r3, r4, r5, r6, r7, r8, r9⟩ := (hR.2.1 x a c).1
    by_cases y : x = g
    · subst y
      have e : kR (upR R (13 + 7 * x.toNat) ((kR R x).drop (cEnd (kR R x) 0).toNat)) x = (kR R x).drop (cEnd (kR R x) 0).toNat := upR_eq
      rw [e]
      have hkx := hk x a c
      have gd : ∀ i : Int, 0 ≤ i → gt ((kR R x).drop (cEnd (kR R x) 0).toNat) i = gt (kR R x) (i + (cEnd (kR R x) 0).toNat) := fun i p => by
        have := gt_drop (L := kR R x) (m := (cEnd (kR R x) 0).toNat) (k := i.toNat)
        rw [show ((i.toNat : Nat) : Int) = i by omega] at this
        rw [this]
        congr 1
        omega
      constructor
      · intro i j p q w
        rw [List.length_drop] at w
        rw [gd i p, gd j (by omega)]
        exact hkx.1 _ _ (by omega) (by omega) (by omega)
      · intro i j p q w v
        rw [List.length_drop] at w
        rw [gd i p, gd j (by omega)] at v ⊢
        exact hkx.2 _ _ (by omega) (by omega) (by omega) v
    · have e : kR (upR R (13 + 7 * g.toNat) ((kR R g).drop (cEnd (kR R g) 0).toNat)) x = kR R x := upR_ne (by omega)
      rw [e]
      exact hk x a c

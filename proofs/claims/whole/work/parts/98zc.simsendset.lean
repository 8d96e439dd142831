/-! THE SIMULATION: send, set -/
theorem Sim.set {s : Int → Int} {t : Int} {O : List (Int × Int)} {C : Int} {S : Nat → Int → Int} {R : Nat → List FV} (h : Sim s t O C S R) {g w v : Int} (ok : okSet s g w v) (hc : w = 4 → rCanN s g v 15) : Sim (ups s (8 + 10 * g + w) v) t O C (upX S (12 + 7 * g.toNat) w v) R := by
  obtain ⟨⟨g0, g1⟩, ⟨w0, w4⟩, v0, vm⟩ := ok
  have hd := h.2.1
  have hs := hd.1
  have h00 := hs.1
  have h01 := hs.2.1
  have hg : 0 ≤ g ∧ g < s 0 := ⟨g0, by omega⟩
  have e : ∀ k, k ≠ 8 + 10 * g + w → ups s (8 + 10 * g + w) v k = s k := fun k q => ups_ne q
  have eq : ups s (8 + 10 * g + w) v (8 + 10 * g + w) = v := ups_eq rfl
  have vb : (w = 0 → 0 ≤ v ∧ v ≤ 40) ∧ (w = 1 → 0 ≤ v ∧ v ≤ 1) ∧ (w = 2 → 0 ≤ v ∧ v ≤ 2) ∧ (w = 3 → 0 ≤ v ∧ v ≤ 20) ∧ (w = 4 → 1 ≤ v ∧ v ≤ 20) := by
    unfold sMax at vm
    refine ⟨fun q => ?_, fun q => ?_, fun q => ?_, fun q => ?_, fun q => ?_⟩
    all_goals subst q
    all_goals simp at v0 vm
    all_goals omega
  have of5 : ∀ x k, 0 ≤ x → x < s 0 → 5 ≤ k → k < 10 → rOf (ups s (8 + 10 * g + w) v) x k = rOf s x k := fun x k a b c d => e _ (by omega)
  have it : ∀ u k, 0 ≤ u → u < 10 → 0 ≤ k → k < 4 → rIts (ups s (8 + 10 * g + w) v) u k = rIts s u k := fun u k a b c d => e _ (by omega)
  have fm : FmI (ups s (8 + 10 * g + w) v) t O := by
    by_cases z : w = 4
    · have cn := hc z
      obtain ⟨⟨k1, k2, k3⟩, _⟩ := cn
      have none : ∀ x, 0 ≤ x → x < s 0 → rSls s x (-1) = 0 → ∀ f, ¬ mK s x f := fun x a b q f m => by
        have hK := (h.1.2.1 x a b).2
        rw [h.slots ⟨a, b⟩] at q
        obtain ⟨i, hi, _⟩ := hK.to m.1.1 m.1.2 m.2
        have p0 : 0 < (kR R x).length := by omega
        have key : 0 < cSlots (kR R x) := by
          have e0 : cSlots (kR R x) = nSt (kR R x) 0 := by
            unfold cSlots nSt
            exact fI_congr (fun i a b y => by rw [b2i_congr (show (i = 0 ∨ ¬ gt (kR R x) i 2 = gt (kR R x) (i - 1) 2) ↔ (0 ≤ i ∧ (i = 0 ∨ ¬ gt (kR R x) i 2 = gt (kR R x) (i - 1) 2)) from ⟨fun w => ⟨a, w⟩, fun w => w.2⟩)])
          rw [e0, nSt_step (h.2.2.2 x a b).1 (SlSt.zero p0)]
          have : 0 ≤ nSt (kR R x) (cEnd (kR R x) 0) := by
            unfold nSt
            refine fI_ind (fun _ y => 0 ≤ y) (by omega) (Int.le_refl _) (fun i y _ _ ih => ?_)
            have := b2i_01 (cEnd (kR R x) 0 ≤ i ∧ (i = 0 ∨ ¬ gt (kR R x) i 2 = gt (kR R x) (i - 1) 2))
            omega
          omega
        omega
      have per : ∀ c, kidOK s c → c ≠ 10 + g → rPer (ups s (8 + 10 * g + w) v) c = rPer s c := fun c k ne => by
        unfold rPer
        rcases k with ⟨a, b, d⟩ | ⟨a, b, d⟩
        · rw [if_pos a, if_pos a]; exact it _ 1 b (by omega) (by decide) (by decide)
        · rw [if_neg (by omega), if_neg (by omega)]; exact e _ (by omega)
      refine h.2.2.1.gen hs (e 3 (by omega)) (e 7 (by omega)) (by rw [e 0 (by omega)]; exact Int.le_refl _) (by rw [e 1 (by omega)]; exact Int.le_refl _) (fun x k a b c => of5 x k a b (by omega) (by omega)) (fun u a b => it u 0 a (by omega) (by decide) (by decide)) (fun k a b => e k (by omega)) (by rw [e 2 (by omega)]; exact Int.le_refl _) (fun f i7 kf fo => ?_) (fun u st a b q => ?_)
      · have hb := fo.hub hs
        have nf : rFr s f 1 ≠ g := fun q => none g hg.1 hg.2 k1 f ⟨i7, kf, q⟩
        have nc : rFr s f 2 ≠ 10 + g := fun q => by
          have pp := fo.2.1
          rw [q] at pp
          unfold par at pp
          rw [if_neg (by omega), show 10 + g - 10 = g by omega] at pp
          have up := pp.2
          rw [pp.1] at up
          have lt := (hs.2.2.2.2.1 g hg.1 hg.2).2.1
          exact none (rOf s g 5) up (by omega) (k3 up).2.1 f ⟨i7, kf, pp.1⟩
        unfold rSl0
        rw [per _ fo.1 nc, show rOf (ups s (8 + 10 * g + w) v) (rFr s f 1) 4 = rOf s (rFr s f 1) 4 from e _ (by omega)]
      · have hu := hs.2.2.2.2.2 u a b
        have nh : rIts s u 0 ≠ g := fun z => by rw [z] at q; omega
        unfold rSl0
        rw [per u (Or.inl ⟨by omega, a, b⟩) (by omega), show rOf (ups s (8 + 10 * g + w) v) (rIts s u 0) 4 = rOf s (rIts s u 0) 4 from e _ (by omega)]
    · exact h.2.2.1.same hs (fun k q => e k (by unfold FR at q; omega)) (by rw [e 2 (by omega)]; exact Int.le_refl _)
  refine h.head (by omega) fm (fun m k q => upX_at (by rcases q with q | q | ⟨x, q1, q2⟩ <;> omega)) (fun x k a b c d => ?_) (fun u k a b c d => ?_) (fun x k a b c d => by omega) ?_
  · unfold rOf cSe
    by_cases q : x = g ∧ k = w
    · rw [q.1, q.2, eq, upX_is]
    · rw [e _ (by omega), upX_at (by omega)]
      exact h.1.cs ⟨a, b⟩ ⟨c, d⟩
  · rw [it u k a (by omega) c d]
    exact (h.1.cu ⟨a, b⟩ ⟨c, d⟩).trans (show cU S u k = cU (upX S (12 + 7 * g.toNat) w v) u k from (upX_at (by omega)).symm)
  · obtain ⟨_, b1, b2, b3, b4, b5⟩ := hd
    have at4 : ∀ x k, 0 ≤ x → x < s 0 → 0 ≤ k → k < 5 → rOf (ups s (8 + 10 * g + w) v) x k = if x = g ∧ k = w then v else rOf s x k := fun x k a b c d => by
      unfold rOf
      by_cases q : x = g ∧ k = w
      · rw [if_pos q, q.1, q.2, eq]
      · rw [if_neg q, e _ (by omega)]
    generalize ups s (8 + 10 * g + w) v = s' at *
    refine ⟨⟨by rw [e 0 (by omega)]; exact hs.1, by rw [e 1 (by omega)]; exact hs.2.1, by rw [e 7 (by omega)]; exact hs.2.2.1, by rw [e 5 (by omega)]; exact hs.2.2.2.1, fun x a b => ?_, fun u a b => ?_⟩, ⟨by rw [of5 0 5 (by decide) (by omega) (by decide) (by decide)]; exact b1.1, fun x a b => ?_⟩, fun x a b => ?_, fun u a b => ?_, by rw [e 2 (by omega), e 3 (by omega), e 4 (by omega)]; exact b4, fun i a b => ?_⟩
    · rw [e 0 (by omega)] at b
      have r := hs.2.2.2.2.1 x a b
      rw [of5 x 5 a b (by decide) (by decide), at4 x 4 a b (by decide) (by decide)]
      refine ⟨r.1, r.2.1, ?_⟩
      split
      · omega
      · exact r.2.2
    · rw [e 1 (by omega)] at b
      rw [it u 0 a (by omega) (by decide) (by decide), it u 1 a (by omega) (by decide) (by decide), e 0 (by omega)]
      exact hs.2.2.2.2.2 u a b
    · rw [e 0 (by omega)] at b
      rw [of5 x 5 (by omega) b (by decide) (by decide)]
      exact b1.2 x a b
    · rw [e 0 (by omega)] at b
      have r := b2 x a b
      rw [at4 x 0 a b (by decide) (by decide), at4 x 1 a b (by decide) (by decide), at4 x 2 a b (by decide) (by decide), at4 x 3 a b (by decide) (by decide), of5 x 6 a b (by decide) (by decide), of5 x 9 a b (by decide) (by decide)]
      refine ⟨?_, ?_, ?_, ?_, r.2.2.2.2⟩
      · split
        · exact vb.1 (by omega)
        · exact r.1
      · split
        · exact vb.2.1 (by omega)
        · exact r.2.1
      · split
        · exact vb.2.2.1 (by omega)
        · exact r.2.2.1
      · split
        · exact vb.2.2.2.1 (by omega)
        · exact r.2.2.2.1
    · rw [e 1 (by omega)] at b
      rw [it u 2 a (by omega) (by decide) (by decide)]
      exact b3 u a b
    · rw [e 5 (by omega)] at b
      rw [e _ (by omega)]
      exact b5 i a b
/-- a unit's frame, sent, but for the unit's count -/
def rU1 (s : Int → Int) (f u st v fl del : Int) : Int → Int := ups (ups (ups (ups (ups (ups (ups (ups (ups (ups s (448 + 27 * f + 0) 1) (448 + 27 * f + 1) (rIts s u 0)) (448 + 27 * f + 2) u) (448 + 27 * f + 3) st) (448 + 27 * f + 4) (s 2 + del)) (448 + 27 * f + 5) (s 3)) (448 + 27 * f + 6) (oShl 1 u)) (448 + 27 * f + (7 + u)) v) (448 + 27 * f + (17 + u)) fl) 3 (wr (s 3 + 1))
theorem rU1_hd {s : Int → Int} {f u st v fl del : Int} (hf : 0 ≤ f) (hu : 0 ≤ u ∧ u < 10) : rFr (rU1 s f u st v fl del) f 0 = 1 ∧ rFr (rU1 s f u st v fl del) f 1 = rIts s u 0 ∧ rFr (rU1 s f u st v fl del) f 2 = u ∧ rFr (rU1 s f u st v fl del) f 3 = st ∧ rFr (rU1 s f u st v fl del) f 4 = s 2 + del ∧ rFr (rU1 s f u st v fl del) f 5 = s 3 ∧ rFr (rU1 s f u st v fl del) f 6 = oShl 1 u ∧ rFr (rU1 s f u st v fl del) f (7 + u) = v ∧ rFr (rU1 s f u st v fl del) f (17 + u) = fl := by
  unfold rFr rU1
  refine ⟨?_, ?_, ?_, ?_, ?_, ?_, ?_, ?_, ?_⟩
  · rw [ups_ne (by omega), ups_ne (by omega), ups_ne (by omega), ups_ne (by omega), ups_ne (by omega), ups_ne (by omega), ups_ne (by omega), ups_ne (by omega), ups_ne (by omega), ups_eq rfl]
  · rw [ups_ne (by omega), ups_ne (by omega), ups_ne (by omega), ups_ne (by omega), ups_ne (by omega), ups_ne (by omega), ups_ne (by omega), ups_ne (by omega), ups_eq rfl]
  · rw [ups_ne (by omega), ups_ne (by omega), ups_ne (by omega), ups_ne (by omega), ups_ne (by omega), ups_ne (by omega), ups_ne (by omega), ups_eq rfl]
  · rw [ups_ne (by omega), ups_ne (by omega), ups_ne (by omega), ups_ne (by omega), ups_ne (by omega), ups_ne (by omega), ups_eq rfl]
  · rw [ups_ne (by omega), ups_ne (by omega), ups_ne (by omega), ups_ne (by omega), ups_ne (by omega), ups_eq rfl]
  · rw [ups_ne (by omega), ups_ne (by omega), ups_ne (by omega), ups_ne (by omega), ups_eq rfl]
  · rw [ups_ne (by omega), ups_ne (by omega), ups_ne (by omega), ups_eq rfl]
  · rw [ups_ne (by omega), ups_ne (by omega), ups_eq rfl]
  · rw [ups_ne (by omega), ups_eq rfl]
theorem rU1_ne {s : Int → Int} {f u st v fl del k : Int} (hf : 0 ≤ f) (hu : 0 ≤ u ∧ u < 10) (h : k < 448 + 27 * f ∨ 448 + 27 * f + 27 ≤ k) (h3 : k ≠ 3) : rU1 s f u st v fl del k = s k := by
  unfold rU1
  rw [ups_ne h3, ups_ne (by omega), ups_ne (by omega), ups_ne (by omega), ups_ne (by omega), ups_ne (by omega), ups_ne (by omega), ups_ne (by omega), ups_ne (by omega), ups_ne (by omega)]
theorem Sim.sendU {s : Int → Int} {O : List (Int × Int)} {C : Int} {S : Nat → Int → Int} {R : Nat → List FV} (h : Sim s (s 2 + 1) O C S R) (hO : O.length ≤ 512) {u st v fl del : Int} (ok : okSend s u st v fl del) (hin : (u, st) ∈ O) (h40 : rAllWay s < 40) (h3 : s 3 + 1 ≤ C) : Sim (rU1 (rFreed s) (rFree s) u st v fl del) (s 2 + 1) O C (hat (upF S 6 (cDpV S u st v fl del), R) (R 3 ++ [cDpV S u st v fl del])).1 (hat (upF S 6 (cDpV S u st v fl del), R) (R 3 ++ [cDpV S u st v fl del])).2 := by
  obtain ⟨⟨u0, u1⟩, ⟨s0, s1⟩, _, _, d0, d1⟩ := ok
  have h := h.sx (S' := upF S 6 (cDpV S u st v fl del)) (fun m hm => upF_ne (by omega) (by omega) (by omega))
  have e6 : cT S 6 = s 2 := by
    have := h.1.1.2.2.1
    rw [this]
    exact (show cT (upF S 6 (cDpV S u st v fl del)) 6 = cT S 6 from congrFun (upF_ne (by omega) (by omega) (by omega)) 6).symm
  have c0 : cDpV S u st v fl del 0 = 5 + u := by
    unfold cDpV
    rw [ups_ne (by decide), fPut_at, if_neg (by omega), if_neg (by omega), if_neg (by omega)]
    unfold fBeg
    rw [ups_ne (by decide), ups_ne (by decide), ups_ne (by decide), ups_eq rfl]
  have c1 : cDpV S u st v fl del 1 = st := by
    unfold cDpV
    rw [ups_ne (by decide), fPut_at, if_neg (by omega), if_neg (by omega), if_neg (by omega)]
    unfold fBeg
    rw [ups_ne (by decide), ups_ne (by decide), ups_eq rfl]
  have c3 : cDpV S u st v fl del 3 = s 2 + del := by
    unfold cDpV
    rw [ups_eq rfl, e6]
  have c5 : cDpV S u st v fl del 5 = oShl 1 u := by
    unfold cDpV
    rw [ups_ne (by decide), fPut_at, if_neg (by omega), if_neg (by omega), if_pos rfl]
    unfold fBeg
    rw [ups_eq rfl]
    show (iS 0 ||| iS (oShl 1 u)).toInt = _
    rw [show iS 0 = 0 by decide, Int32.zero_or, iS_toInt (inR_shl 1 u)]
  have cv : cDpV S u st v fl del (6 + u) = v ∧ cDpV S u st v fl del (16 + u) = fl := by
    unfold cDpV
    rw [ups_ne (by omega), ups_ne (by omega)]
    exact fPut_v
  generalize cDpV S u st v fl del = cv' at *
  generalize upF S 6 cv' = S at *
  obtain ⟨hr, hd, hf, hk⟩ := h
  have hs := hd.1
  have h00 := hs.1
  have h01 := hs.2.1
  have h5 := hd.2.2.2.2.1
  have al := hf.alive
  have fr := rFree_is hs.2.2.1 al (by omega)
  generalize hff : rFree s = f at fr
  have b2 : 0 ≤ b2i (f = s 7 ∧ f < 559) ∧ b2i (f = s 7 ∧ f < 559) ≤ 1 := b2i_01 _
  have fd : ∀ k, k ≠ 7 → rFreed s k = s k := fun k q => by unfold rFreed; exact ups_ne q
  have fd7 : rFreed s 7 = s 7 + b2i (f = s 7 ∧ f < 559) := by unfold rFreed; rw [ups_eq rfl, hff]
  have u10 : 0 ≤ u ∧ u < 10 := ⟨u0, by omega⟩
  have hd0 := rU1_hd (s := rFreed s) (f := f) (u := u) (st := st) (v := v) (fl := fl) (del := del) fr.1.1 u10
  have ne0 : ∀ k, (k < 448 + 27 * f ∨ 448 + 27 * f + 27 ≤ k) → k ≠ 3 → rU1 (rFreed s) f u st v fl del k = rFreed s k := fun k a b => rU1_ne fr.1.1 u10 a b
  have e3 : rU1 (rFreed s) f u st v fl del 3 = s 3 + 1 := by
    unfold rU1
    rw [ups_eq rfl, fd 3 (by decide), wr_id ⟨by omega, by omega⟩]
  generalize rU1 (rFreed s) f u st v fl del = r1 at *
  obtain ⟨f0, f1, f2, f3, f4, f5, f6, f7, f8⟩ := hd0
  rw [show rIts (rFreed s) u 0 = rIts s u 0 from fd _ (by omega)] at f1
  rw [fd 2 (by decide)] at f4
  rw [fd 3 (by decide)] at f5
  have e7 : r1 7 = s 7 + b2i (f = s 7 ∧ f < 559) := by rw [ne0 7 (by omega) (by decide), fd7]
  have hq : Hq s r1 := fun k a c d e _ => by rw [ne0 k (by omega) d, fd k e]
  have ne : ∀ e w, e ≠ f → 0 ≤ e → 0 ≤ w → w < 27 → rFr r1 e w = rFr s e w := fun e w a c x y => by
    show r1 (448 + 27 * e + w) = _
    rw [ne0 _ (by omega) (by omega), fd _ (by omega)]
    rfl
  have ho : OthP s r1 (fun q => q = f) := fun e he => by
    refine ⟨?_, fun x w a c => ne e w he x.1 a c⟩
    unfold inR7
    rw [e7]
    by_cases z : f = s 7 ∧ f < 559
    · rw [b2i_t z]; exact ⟨fun x => ⟨x.1, by omega⟩, fun x => ⟨x.1, by omega⟩⟩
    · rw [b2i_f z]; exact ⟨fun x => ⟨x.1, by omega⟩, fun x => ⟨x.1, by omega⟩⟩
  have nf : ¬ (inR7 s f ∧ ¬ rFr s f 0 = 0) := fun z => z.2 (fr.2 z.1.2)
  have nW0 : ¬ mW s f := fun z => nf ⟨z.1, by have : rFr s f 0 = 1 := z.2; omega⟩
  have nK0 : ∀ x, ¬ mK s x f := fun x z => nf ⟨z.1, by have := z.2.1; omega⟩
  have i7 : inR7 r1 f := by
    unfold inR7
    rw [e7]
    refine ⟨fr.1.1, ?_⟩
    by_cases z : f = s 7 ∧ f < 559
    · rw [b2i_t z]; omega
    · rw [b2i_f z]; omega
  have mw : mW r1 f := ⟨i7, f0⟩
  have fw : FrW r1 f cv' := by
    refine ⟨?_, ?_, ?_, ?_, fun k x y z => ?_⟩
    · rw [f2, c0]; unfold kid; rw [if_pos u10.2]; omega
    · rw [f3, c1]
    · rw [f4, c3]
    · rw [f6, c5]
    · have z : rBit (cv' 5) k := z
      have ku : k = u := by
        rw [c5, show oShl 1 u = oOr 0 (oShl 1 u) from (show oShl 1 u = (iS 0 ||| iS (oShl 1 u)).toInt by rw [show iS 0 = 0 by decide, Int32.zero_or, iS_toInt (inR_shl 1 u)])] at z
        exact ((rBit_or u10 ⟨x, y⟩).mp z).resolve_left (rBit_0 ⟨x, y⟩)
      subst ku
      rw [f7, f8]
      exact cv
  have hV := (RelW.iff.mp hr.2.2.2.2).2
  have hV' : RelV r1 (R 3 ++ [cv']) := hV.snoc ho nW0 mw (fun y m => by
    rw [f5]
    exact ((hf.2.2.1 y m.1 m.2).1).2.2) fw
  have l7 : 0 ≤ r1 7 ∧ r1 7 ≤ 559 := by
    have q7 := hs.2.2.1
    rw [e7]
    by_cases z : f = s 7 ∧ f < 559
    · rw [b2i_t z]; omega
    · rw [b2i_f z]; omega
  have hd' : HdI r1 C := hd.hq hq l7 (by rw [e3]; omega) (Int.le_refl _) h5.2.2.2.2.2.2
  have kc : kidOK s u := Or.inl ⟨u10.2, u0, by omega⟩
  obtain ⟨og, o1, o2⟩ := hf.2.2.2.2.1
  have lo7 : ∀ k : Int, 8 ≤ k → k < 448 → r1 k = s k := fun k y z => by rw [ne0 k (by omega) (by omega), fd k (by omega)]
  refine ⟨hr.hq hs hq (fun m k a c _ => ?_) (fun x a c => ?_) (fun x a c => ?_) (RelW.iff.mpr ⟨?_, ?_⟩), hd', hf.step hs hq (by omega) ho (fun e he m => ((hf.2.2.1 e m.1 m.2).1).1) (fun _ _ => ⟨Or.inl f0, ?_⟩) (fun _ y => by omega) (fun _ _ => ⟨⟨by omega, by omega, by omega⟩, fun _ => ?_⟩) (fun _ y => by omega) ⟨og, fun e _ k => o1 e k, fun e e' _ _ k k' => o2 e e' k k', fun k => ?_⟩ ?_, fun x a c => ?_⟩
  · unfold hat; exact upX_at (by omega)
  · obtain ⟨_, _, _, _, r5, r6, _⟩ := (hr.2.1 x a c).1
    unfold hat cH
    dsimp only
    rw [upX_at (by omega), upX_at (by omega), ← show cH S x 6 = S (11 + 7 * x.toNat) 6 from rfl, ← show cH S x 7 = S (11 + 7 * x.toNat) 7 from rfl, ← r5, ← r6]
    exact ⟨lo7 _ (by omega) (by omega), lo7 _ (by omega) (by omega)⟩
  · refine (hr.2.1 x a c).2.keep ho (fun e he => ?_) ?_ kR_up3
    · rw [he]
      exact ⟨nK0 x, fun m => by have : rFr r1 f 0 = 2 := m.2.1; omega⟩
    · unfold cZ hat; exact upX_at (by omega)
  · unfold cW hat; dsimp only; rw [upX_is, upR_eq]
  · unfold hat; dsimp only; rw [upR_eq]; exact hV'
  · unfold FrOK
    rw [f1, f2, f3]
    have hu := hs.2.2.2.2.2 u u0 (by omega)
    refine ⟨hq.kid kc, ⟨?_, hu.1⟩, s0, ?_⟩
    · rw [hq.prt kc.r15]; unfold par; rw [if_pos u10.2]
    · unfold stMax; rw [if_pos u10.2]; exact s1
  · rw [f2, f3]; exact hin
  · rcases k.2 with y | y <;> omega
  · have a40 : (irP (s 7) (isW s)).length < 40 := by
      have e : rAllWay s = ((irP (s 7) (isW s)).length : Nat) := by
        unfold rAllWay
        rw [fI_count (p := isW s) (q := fun f => rFr s f 0 = 1) (List.Perm.refl _) hs.2.2.1.1 (fun i _ _ h => h)]
        have : (irP (s 7) (isW s)).countP (pd fun f => rFr s f 0 = 1) = (irP (s 7) (isW s)).length := List.countP_eq_length.mpr (fun a ha => pd_t.mpr (irP_mem.mp ha).2)
        rw [this]
      omega
    have := len_le_of (l := irP (r1 7) (fun x => rFr r1 x 0 = 1 ∧ rFr r1 x 2 < 10)) (m := f :: irP (s 7) (isW s)) irP_nodup (fun e he => by
      obtain ⟨a, b, c⟩ := irP_mem.mp he
      by_cases k : e = f
      · rw [k]; exact List.mem_cons_self
      · obtain ⟨i, sm⟩ := ho e k
        have sm := sm (i.mp a)
        rw [sm 0 (by decide) (by decide)] at b
        exact List.mem_cons_of_mem _ (irP_mem.mpr ⟨i.mp a, b⟩))
    rw [List.length_cons] at this
    omega
  · unfold hat
    dsimp only
    rw [kR_up3]
    rw [hq.lo (k := 0) (by decide) (by decide) (by decide) (by decide)] at c
    exact hk x a c
/-- a unit sends -/
theorem Sim.sendOne {s : Int → Int} {O : List (Int × Int)} {C : Int} {S : Nat → Int → Int} {R : Nat → List FV} (h : Sim s (s 2 + 1) O C S R) (hO : O.length ≤ 512) {u st v fl del : Int} (ok : okSend s u st v fl del) (hin : (u, st) ∈ O) (h40 : rAllWay s < 40) (h3 : s 3 + 1 ≤ C) : Sim (rOne (rFreed s) (rFree s) u st v fl del) (s 2 + 1) O C (upX (upX (upF S 6 (cDpV S u st v fl del)) 3 1 (((R 3).length : Nat) + 1)) (46 + u.toNat) 3 (wr (cU S u 3 + 1))) (upR R 3 (insA (R 3) ((R 3).length : Nat) (cDpV S u st v fl del))) ∧ (rOne (rFreed s) (rFree s) u st v fl del 2 = s 2 ∧ rOne (rFreed s) (rFree s) u st v fl del 0 = s 0) ∧ rAllWay (rOne (rFreed s) (rFree s) u st v fl del) = ((R 3).length : Nat) + 1 := by
  have hs := h.2.1.1
  have h01 := hs.2.1
  have u0 := ok.1.1
  have u1 := ok.1.2
  have st1 := h.sendU hO ok hin h40 h3
  have fr := rFree_is hs.2.2.1 h.2.2.1.alive (by omega)
  have e1 : rU1 (rFreed s) (rFree s) u st v fl del 1 = s 1 := by
    rw [rU1_ne fr.1.1 ⟨u0, by omega⟩ (by omega) (by decide)]
    unfold rFreed
    exact ups_ne (by decide)
  have st2 := st1.unit23 (u := u) (w := 3) (v := wr (rIts (rFreed s) u 3 + 1)) ⟨u0, by rw [e1]; omega⟩ (Or.inr rfl) (fun z => by omega)
  have eO : rOne (rFreed s) (rFree s) u st v fl del = ups (rU1 (rFreed s) (rFree s) u st v fl del) (58 + 4 * u + 3) (wr (rIts (rFreed s) u 3 + 1)) := rfl
  have i3 : rIts (rFreed s) u 3 = cU S u 3 := by
    have : rIts (rFreed s) u 3 = rIts s u 3 := by unfold rFreed; exact ups_ne (by omega)
    rw [this]
    exact h.1.cu ⟨u0, by omega⟩ (by decide)
  rw [← eO, i3] at st2
  unfold hat at st2
  dsimp only at st2
  rw [insA_end]
  have st3 : Sim (rOne (rFreed s) (rFree s) u st v fl del) (s 2 + 1) O C (upX (upX (upF S 6 (cDpV S u st v fl del)) 3 1 (((R 3).length : Nat) + 1)) (46 + u.toNat) 3 (wr (cU S u 3 + 1))) (upR R 3 (R 3 ++ [cDpV S u st v fl del])) := by
    have el : (((R 3 ++ [cDpV S u st v fl del]).length : Nat) : Int) = ((R 3).length : Nat) + 1 := by rw [List.length_append, List.length_singleton]; rfl
    rw [el] at st2
    exact st2
  refine ⟨st3, ⟨?_, ?_⟩, ?_⟩
  · rw [eO, ups_ne (by omega), rU1_ne fr.1.1 ⟨u0, by omega⟩ (by omega) (by decide)]
    unfold rFreed
    exact ups_ne (by decide)
  · rw [eO, ups_ne (by omega), rU1_ne fr.1.1 ⟨u0, by omega⟩ (by omega) (by decide)]
    unfold rFreed
    exact ups_ne (by decide)
  · have := st3.1.allWay st3.2.1.1.2.2.1.1
    rw [this]
    unfold cW
    rw [upX_at (by omega), upX_is]

/-! THE SIMULATION: a frame sent on by a hub -/
noncomputable def rT1 (b : Int → Int) (g sl msk : Int) (V F : Int → Int) : Int → Int := ups (rSent (rFreed b) (rFree b) (rOf b g 5) (10 + g) sl (b 2 + rOf b g 3) (b 3) msk V F) 3 (wr (b 3 + 1))
theorem rSent_lo {s : Int → Int} {f a c sl due n msk k : Int} {V F : Int → Int} (hf : 0 ≤ f) (hk : k < 448) : rSent s f a c sl due n msk V F k = s k := by
  unfold rSent rLay
  rw [if_neg (by omega), if_neg (by omega), ups_ne (by omega), ups_ne (by omega), ups_ne (by omega), ups_ne (by omega), ups_ne (by omega), ups_ne (by omega), ups_ne (by omega)]
theorem rSent_ne {s : Int → Int} {f a c sl due n msk e w : Int} {V F : Int → Int} (he : e ≠ f) (hw : 0 ≤ w ∧ w < 27) : rFr (rSent s f a c sl due n msk V F) e w = rFr s e w := by
  unfold rFr rSent rLay
  rw [if_neg (by omega), if_neg (by omega), ups_ne (by omega), ups_ne (by omega), ups_ne (by omega), ups_ne (by omega), ups_ne (by omega), ups_ne (by omega), ups_ne (by omega)]
theorem rSent_hd {s : Int → Int} {f a c sl due n msk : Int} {V F : Int → Int} : rFr (rSent s f a c sl due n msk V F) f 0 = 1 ∧ rFr (rSent s f a c sl due n msk V F) f 1 = a ∧ rFr (rSent s f a c sl due n msk V F) f 2 = c ∧ rFr (rSent s f a c sl due n msk V F) f 3 = sl ∧ rFr (rSent s f a c sl due n msk V F) f 4 = due ∧ rFr (rSent s f a c sl due n msk V F) f 5 = n ∧ rFr (rSent s f a c sl due n msk V F) f 6 = msk := by
  unfold rFr rSent rLay
  refine ⟨?_, ?_, ?_, ?_, ?_, ?_, ?_⟩
  · rw [if_neg (by omega), if_neg (by omega), ups_ne (by omega), ups_ne (by omega), ups_ne (by omega), ups_ne (by omega), ups_ne (by omega), ups_ne (by omega), ups_eq rfl]
  · rw [if_neg (by omega), if_neg (by omega), ups_ne (by omega), ups_ne (by omega), ups_ne (by omega), ups_ne (by omega), ups_ne (by omega), ups_eq rfl]
  · rw [if_neg (by omega), if_neg (by omega), ups_ne (by omega), ups_ne (by omega), ups_ne (by omega), ups_ne (by omega), ups_eq rfl]
  · rw [if_neg (by omega), if_neg (by omega), ups_ne (by omega), ups_ne (by omega), ups_ne (by omega), ups_eq rfl]
  · rw [if_neg (by omega), if_neg (by omega), ups_ne (by omega), ups_ne (by omega), ups_eq rfl]
  · rw [if_neg (by omega), if_neg (by omega), ups_ne (by omega), ups_eq rfl]
  · rw [if_neg (by omega), if_neg (by omega), ups_eq rfl]
theorem rSent_vf {s : Int → Int} {f a c sl due n msk u : Int} {V F : Int → Int} (hu : 0 ≤ u ∧ u < 10) : rFr (rSent s f a c sl due n msk V F) f (7 + u) = V u ∧ rFr (rSent s f a c sl due n msk V F) f (17 + u) = F u := by
  unfold rFr rSent rLay
  rw [if_pos (by omega), if_neg (by omega), if_pos (by omega)]
  exact ⟨by congr 1; omega, by congr 1; omega⟩
theorem insA_end {L : List FV} {v : FV} : insA L (L.length : Nat) v = L ++ [v] := by
  unfold insA
  rw [show ((L.length : Nat) : Int).toNat = L.length by omega, List.take_length, List.drop_length]
theorem OthP.trans {s s' s2 : Int → Int} {D : Int → Prop} (h : OthP s s' D) (k : OthP s' s2 D) : OthP s s2 D := fun f nd => ⟨(k f nd).1.trans (h f nd).1, fun i w a b => ((k f nd).2 ((h f nd).1.mpr i) w a b).trans ((h f nd).2 i w a b)⟩
theorem Sim.sent {b : Int → Int} {t' : Int} {O : List (Int × Int)} {C : Int} {S : Nat → Int → Int} {R : Nat → List FV} {g sl msk : Int} {V F : Int → Int} {p : Int × Int} {v : FV} (h : Sim b (b 2 + 1) O C S R) (hO : O.length ≤ 512) (hp : OrgS b O p) (hg : 0 < g ∧ g < b 0) (h3 : b 3 + 1 ≤ C) (hsl : 0 ≤ sl ∧ sl ≤ 20000 + 20 * (5 - g)) (v0 : v 0 = g) (v1 : v 1 = sl) (v3 : v 3 = b 2 + rOf b g 3) (v5 : v 5 = msk) (hv : ∀ u, 0 ≤ u → u < 10 → rBit msk u → v (6 + u) = V u ∧ v (16 + u) = F u) (ht : t' ≤ b 2 + rOf b g 3 ∧ t' ≤ b 2 + 1) : (0 ≤ rFree b ∧ rFree b < 559) ∧ mW (rT1 b g sl msk V F) (rFree b) ∧ FrW (rT1 b g sl msk V F) (rFree b) v ∧ (∀ s', OthP (rT1 b g sl msk V F) s' (fun q => q = rFree b) → ¬ mW s' (rFree b) → RelV s' (R 3)) ∧ (∀ e, e ≠ rFree b → mW (rT1 b g sl msk V F) e → b 2 + 1 ≤ rFr (rT1 b g sl msk V F) e 4) ∧ Sim (rT1 b g sl msk V F) t' O C (hat (S, R) (R 3 ++ [v])).1 (hat (S, R) (R 3 ++ [v])).2 := by
  obtain ⟨hr, hd, hf, hk⟩ := h
  have hs := hd.1
  have h00 := hs.1
  have h5 := hd.2.2.2.2.1
  have al := hf.alive
  have fr := rFree_is hs.2.2.1 al (by omega)
  generalize hff : rFree b = f at fr
  have b2 : 0 ≤ b2i (f = b 7 ∧ f < 559) ∧ b2i (f = b 7 ∧ f < 559) ≤ 1 := b2i_01 _
  have hdf := (hd.2.2.1 g (by omega) hg.2).2.2.2.1
  have e7 : rT1 b g sl msk V F 7 = b 7 + b2i (f = b 7 ∧ f < 559) := by
    unfold rT1
    rw [ups_ne (by decide), hff, rSent_lo fr.1.1 (by decide)]
    unfold rFreed
    rw [ups_eq rfl, hff]
  have e3 : rT1 b g sl msk V F 3 = b 3 + 1 := by
    unfold rT1
    rw [ups_eq rfl, wr_id ⟨by omega, by omega⟩]
  have hq : Hq b (rT1 b g sl msk V F) := fun k a c d e _ => by
    unfold rT1
    rw [ups_ne d, hff, rSent_lo fr.1.1 c]
    unfold rFreed
    exact ups_ne e
  have frd : ∀ e w, 0 ≤ e → 0 ≤ w → rFr (rFreed b) e w = rFr b e w := fun e w a c => by
    unfold rFreed
    show ups b 7 _ (448 + 27 * e + w) = _
    exact ups_ne (by omega)
  have ne : ∀ e w, e ≠ f → 0 ≤ e → 0 ≤ w → w < 27 → rFr (rT1 b g sl msk V F) e w = rFr b e w := fun e w a c x y => by
    unfold rT1
    rw [rFr_ups, if_neg (by omega), hff, rSent_ne a ⟨x, y⟩, frd e w c x]
  have at3 : ∀ w, 0 ≤ w → rFr (rT1 b g sl msk V F) f w = rFr (rSent (rFreed b) f (rOf b g 5) (10 + g) sl (b 2 + rOf b g 3) (b 3) msk V F) f w := fun w x => by
    unfold rT1
    rw [rFr_ups, if_neg (by omega), hff]
  obtain ⟨f0, f1, f2, f3, f4, f5, f6⟩ := rSent_hd (s := rFreed b) (f := f) (a := rOf b g 5) (c := 10 + g) (sl := sl) (due := b 2 + rOf b g 3) (n := b 3) (msk := msk) (V := V) (F := F)
  rw [← at3 _ (by decide)] at f0 f1 f2 f3 f4 f5 f6
  have fv : ∀ u, 0 ≤ u → u < 10 → rFr (rT1 b g sl msk V F) f (7 + u) = V u ∧ rFr (rT1 b g sl msk V F) f (17 + u) = F u := fun u x y => by
    rw [at3 _ (by omega), at3 _ (by omega)]
    exact rSent_vf ⟨x, y⟩
  have ho : OthP b (rT1 b g sl msk V F) (fun q => q = f) := fun e he => by
    refine ⟨?_, fun x w a c => ne e w he x.1 a c⟩
    unfold inR7
    rw [e7]
    by_cases z : f = b 7 ∧ f < 559
    · rw [b2i_t z]; exact ⟨fun x => ⟨x.1, by omega⟩, fun x => ⟨x.1, by omega⟩⟩
    · rw [b2i_f z]; exact ⟨fun x => ⟨x.1, by omega⟩, fun x => ⟨x.1, by omega⟩⟩
  have nf : ¬ (inR7 b f ∧ ¬ rFr b f 0 = 0) := fun z => z.2 (fr.2 z.1.2)
  have nW0 : ¬ mW b f := fun z => nf ⟨z.1, by have : rFr b f 0 = 1 := z.2; omega⟩
  have nK0 : ∀ x, ¬ mK b x f := fun x z => nf ⟨z.1, by have := z.2.1; omega⟩
  have i7 : inR7 (rT1 b g sl msk V F) f := by
    unfold inR7
    rw [e7]
    refine ⟨fr.1.1, ?_⟩
    by_cases z : f = b 7 ∧ f < 559
    · rw [b2i_t z]; omega
    · rw [b2i_f z]; omega
  have mw : mW (rT1 b g sl msk V F) f := ⟨i7, f0⟩
  have fw : FrW (rT1 b g sl msk V F) f v := by
    refine ⟨?_, ?_, ?_, ?_, fun u x y z => ?_⟩
    · rw [f2, v0]; unfold kid; rw [if_neg (by omega)]; omega
    · rw [f3, v1]
    · rw [f4, v3]
    · rw [f6, v5]
    · have z : rBit msk u := by rw [← v5]; exact z
      rw [(fv u x y).1, (fv u x y).2]
      exact hv u x y z
  have ap : 0 ≤ rOf b g 5 := hd.2.1.2 g (by omega) hg.2
  have hV := (RelW.iff.mp hr.2.2.2.2).2
  have hV' : RelV (rT1 b g sl msk V F) (R 3 ++ [v]) := hV.snoc ho nW0 mw (fun y m => by
    rw [f5]
    exact ((hf.2.2.1 y m.1 m.2).1).2.2) fw
  have dl : ∀ s', OthP (rT1 b g sl msk V F) s' (fun q => q = f) → ¬ mW s' f → RelV s' (R 3) := fun s' o' n' => hV.keep (ho.trans o') (fun e he => by rw [he]; exact ⟨nW0, n'⟩)
  have du : ∀ e, e ≠ f → mW (rT1 b g sl msk V F) e → b 2 + 1 ≤ rFr (rT1 b g sl msk V F) e 4 := fun e he m => by
    have m2 : mW b e := (ho.W he).mp m
    rw [ne e 4 he m2.1.1 (by decide) (by decide)]
    exact ((hf.2.2.1 e m2.1 m2.2).1).1
  have l7 : 0 ≤ rT1 b g sl msk V F 7 ∧ rT1 b g sl msk V F 7 ≤ 559 := by
    have q7 := hs.2.2.1
    rw [e7]
    by_cases z : f = b 7 ∧ f < 559
    · rw [b2i_t z]; omega
    · rw [b2i_f z]; omega
  have hd' : HdI (rT1 b g sl msk V F) C := hd.hq hq l7 (by rw [e3]; omega) (Int.le_refl _) h5.2.2.2.2.2.2
  refine ⟨⟨fr.1.1, fr.1.2.2⟩, mw, fw, dl, du, hr.hq hs hq (fun m k a c _ => ?_) (fun x a c => ?_) (fun x a c => ?_) (RelW.iff.mpr ⟨?_, ?_⟩), hd', ?_, fun x a c => ?_⟩
  · unfold hat; exact upX_at (by omega)
  · obtain ⟨_, _, _, _, r5, r6, _⟩ := (hr.2.1 x a c).1
    unfold hat cH
    dsimp only
    rw [upX_at (by omega), upX_at (by omega), ← show cH S x 6 = S (11 + 7 * x.toNat) 6 from rfl, ← show cH S x 7 = S (11 + 7 * x.toNat) 7 from rfl, ← r5, ← r6]
    have lo7 : ∀ k : Int, 8 ≤ k → k < 448 → rT1 b g sl msk V F k = b k := fun k y z => by
      unfold rT1
      rw [ups_ne (by omega), hff, rSent_lo fr.1.1 z]
      unfold rFreed
      exact ups_ne (by omega)
    exact ⟨lo7 _ (by omega) (by omega), lo7 _ (by omega) (by omega)⟩
  · refine (hr.2.1 x a c).2.keep ho (fun e he => ?_) ?_ kR_up3
    · rw [he]
      exact ⟨nK0 x, fun m => by have : rFr (rT1 b g sl msk V F) f 0 = 2 := m.2.1; omega⟩
    · unfold cZ hat; exact upX_at (by omega)
  · unfold cW hat; dsimp only; rw [upX_is, upR_eq]
  · unfold hat; dsimp only; rw [upR_eq]; exact hV'
  · obtain ⟨pO, pu, pl, og, o1, o2, o3⟩ := hp
    have kc : kidOK b (10 + g) := Or.inr ⟨by omega, by omega, by omega⟩
    have h01 := hs.2.1
    refine hf.step hs hq (by omega) ho (fun e he m => ?_) (fun _ _ => ⟨Or.inl f0, ?_⟩) (fun _ y => by omega) (fun _ _ => ⟨⟨by omega, by omega, by omega⟩, fun y => by omega⟩) (fun _ y => by omega) ⟨fun e => if e = f then p else og e, fun e he k => ?_, fun e e' he he' k k' q => ?_, fun _ => ⟨?_, ?_, fun e he k q => ?_⟩⟩ (Nat.le_trans (irP_fewer ho (fun _ y => by omega)) hf.2.2.2.2.2)
    · have := ((hf.2.2.1 e m.1 m.2).1).1
      omega
    · unfold FrOK
      rw [f1, f2, f3]
      refine ⟨hq.kid kc, ⟨?_, ap⟩, ?_⟩
      · rw [hq.prt kc.r15]; unfold par; rw [if_neg (by omega), show 10 + g - 10 = g by omega]
      · unfold stMax; rw [if_neg (by omega)]; omega
    · dsimp only; rw [if_neg he]; exact o1 e k
    · dsimp only at q; rw [if_neg he, if_neg he'] at q; exact o2 e e' k k' q
    · dsimp only; rw [if_pos rfl]; exact pO
    · dsimp only; rw [if_pos rfl]
      have hu := hs.2.2.2.2.2 p.1 pu.1 pu.2
      refine ⟨by rw [hq.lo (k := 1) (by decide) (by decide) (by decide) (by decide)]; exact pu, Or.inr ?_⟩
      rw [hq.its ⟨pu.1, by omega⟩ (by decide), hq.sl0 ⟨pu.1, by omega⟩ ⟨hu.1, by omega⟩, hq.of ⟨hu.1, by omega⟩ (by decide) (by decide) (by decide), hq.of ⟨hu.1, by omega⟩ (by decide) (by decide) (by decide)]
      exact pl
    · dsimp only at q; rw [if_neg he, if_pos rfl] at q; exact o3 e k q
  · unfold hat
    dsimp only
    rw [kR_up3]
    rw [hq.lo (k := 0) (by decide) (by decide) (by decide) (by decide)] at c
    exact hk x a c
theorem ups_ups {v : FV} {j x y : Int} : ups (ups v j x) j y = ups v j y := by
  funext k
  unfold ups
  split <;> rfl
theorem hat_self {S : Nat → Int → Int} {R : Nat → List FV} (h : cW S = ((R 3).length : Nat)) : hat (S, R) (R 3) = (S, R) := by
  have a : upX S 3 1 ((R 3).length : Nat) = S := by
    funext m k
    unfold upX
    by_cases q : m = 3 ∧ k = 1
    · rw [if_pos q, q.1, q.2]; exact h.symm
    · rw [if_neg q]
  have b : upR R 3 (R 3) = R := by
    funext m
    unfold upR
    by_cases q : m = 3
    · rw [if_pos q, q]
    · rw [if_neg q]
  show (upX S 3 1 ((R 3).length : Nat), upR R 3 (R 3)) = (S, R)
  rw [a, b]
/-- what a hub that is not the root does with what it built -/
theorem Sim.sends {b : Int → Int} {O : List (Int × Int)} {C : Int} {S : Nat → Int → Int} {R : Nat → List FV} {g sl msk : Int} {V F : Int → Int} {p : Int × Int} (h : Sim b (b 2 + 1) O C S R) (hO : O.length ≤ 512) (hp : OrgS b O p) (hg : 0 < g ∧ g < b 0) (h3 : b 3 + 1 ≤ C) (hsl : 0 ≤ sl ∧ sl ≤ 20000 + 20 * (5 - g)) (v0 : SF S 6 0 = g) (v1 : SF S 6 1 = sl) (v5 : SF S 6 5 = msk) (hv : ∀ u, 0 ≤ u → u < 10 → rBit msk u → SF S 6 (6 + u) = V u ∧ SF S 6 (16 + u) = F u) : Sim (rSends b g sl msk V F) (b 2 + 1) O C (cTl S R g).1 (cTl S R g).2 := by
  have hr := h.1
  have e6 : b 2 = cT S 6 := hr.1.2.2.1
  have ed : rOf b g 3 = cSe S g 3 := hr.cs ⟨by omega, hg.2⟩ (by decide)
  have hdf := (h.2.1.2.2.1 g (by omega) hg.2).2.2.2.1
  have w0 : ups (SF S 6) 3 (b 2 + rOf b g 3) 0 = g := by rw [ups_ne (by decide)]; exact v0
  have w1 : ups (SF S 6) 3 (b 2 + rOf b g 3) 1 = sl := by rw [ups_ne (by decide)]; exact v1
  have w5 : ups (SF S 6) 3 (b 2 + rOf b g 3) 5 = msk := by rw [ups_ne (by decide)]; exact v5
  have wv : ∀ u, 0 ≤ u → u < 10 → rBit msk u → ups (SF S 6) 3 (b 2 + rOf b g 3) (6 + u) = V u ∧ ups (SF S 6) 3 (b 2 + rOf b g 3) (16 + u) = F u := fun u x y z => by rw [ups_ne (by omega), ups_ne (by omega)]; exact hv u x y z
  have eR : rSends b g sl msk V F = cif (rOf b g 3 = 0) (rComes (rT1 b g sl msk V F) (rFree b)) (rT1 b g sl msk V F) := rfl
  unfold cTl
  rw [eR, if_neg (by omega), ← ed]
  by_cases q : rOf b g 3 = 0
  · rw [cif_t q, if_pos q]
    obtain ⟨_, m, fw, dl, du, st⟩ := h.sent (t' := b 2) (v := ups (SF S 6) 3 (b 2 + rOf b g 3)) hO hp hg h3 hsl w0 w1 (ups_eq rfl) w5 wv ⟨by omega, by omega⟩
    have st2 := st.comes (t' := b 2 + 1) m fw dl du
    have e : hat (cAr (hat (S, R) (R 3 ++ [ups (SF S 6) 3 (b 2 + rOf b g 3)])) (ups (SF S 6) 3 (b 2 + rOf b g 3))) (R 3) = cAr (S, R) (ups (SF S 6) 3 (b 2 + rOf b g 3)) := by
      rw [cAr_hat, hat_hat, ← cAr_hat, hat_self hr.2.2.2.2.1]
    have st3 : Sim (rComes (rT1 b g sl msk V F) (rFree b)) (b 2 + 1) O C (hat (cAr (hat (S, R) (R 3 ++ [ups (SF S 6) 3 (b 2 + rOf b g 3)])) (ups (SF S 6) 3 (b 2 + rOf b g 3))) (R 3)).1 (hat (cAr (hat (S, R) (R 3 ++ [ups (SF S 6) 3 (b 2 + rOf b g 3)])) (ups (SF S 6) 3 (b 2 + rOf b g 3))) (R 3)).2 := st2
    rw [e] at st3
    have eq : (cArB S R).2 = (cAr (S, R) (ups (SF S 6) 3 (b 2 + rOf b g 3))).2 ∧ ∀ m, ¬ (6 ≤ m ∧ m ≤ 10) → (cArB S R).1 m = (cAr (S, R) (ups (SF S 6) 3 (b 2 + rOf b g 3))).1 m := by
      unfold cArB cAr
      dsimp only
      have c2 : ∀ sl : Int, cHas (kR R (cTgt S (SF S 6 0))) sl (ups (SF S 6) 3 (b 2 + rOf b g 3)) ↔ cHas (kR R (cTgt S (SF S 6 0))) sl (SF S 6) := fun sl => by
        unfold cHas
        rw [ups_ne (show ¬ (0 : Int) = 3 by decide), ups_ne (show ¬ (1 : Int) = 3 by decide)]
      rw [ups_ne (show ¬ (0 : Int) = 3 by decide), ups_ne (show ¬ (1 : Int) = 3 by decide), cif_congr (c2 _)]
      generalize cTgt S (SF S 6 0) = x
      generalize cSlt S x (SF S 6 1) (cPer S (SF S 6 0)) = y
      by_cases z : cLate S x (SF S 6 0) y
      · rw [cif_t z, cif_t z]; exact ⟨rfl, fun _ _ => rfl⟩
      · rw [cif_f z, cif_f z]
        by_cases z2 : cHas (kR R x) y (SF S 6)
        · rw [cif_t z2, cif_t z2]; exact ⟨rfl, fun _ _ => rfl⟩
        · rw [cif_f z2, cif_f z2]
          have ev : ups (ups (ups (SF S 6) 3 (b 2 + rOf b g 3)) 2 y) 3 (cT S 6) = ups (ups (SF S 6) 2 y) 3 (cT S 6) := by
            funext k
            unfold ups
            repeat' split
            all_goals rfl
          refine ⟨by dsimp only; rw [ev], fun m hm => ?_⟩
          funext k
          dsimp only
          unfold upX
          rw [upF_ne (by omega) (by omega) (by omega)]
    rw [eq.1]
    exact st3.sx eq.2
  · rw [cif_f q, if_neg q]
    obtain ⟨_, _, _, _, _, st⟩ := h.sent (t' := b 2 + 1) (v := ups (SF S 6) 3 (b 2 + rOf b g 3)) hO hp hg h3 hsl w0 w1 (ups_eq rfl) w5 wv ⟨by omega, by omega⟩
    dsimp only
    rw [insA_end, ← e6]
    unfold hat at st
    dsimp only at st
    refine st.sx (fun m hm => ?_)
    funext k
    unfold upX
    rw [upF_ne (by omega) (by omega) (by omega), List.length_append, List.length_singleton]
    rfl

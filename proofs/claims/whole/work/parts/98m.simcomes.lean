/-! THE SIMULATION: a frame comes, all of it -/
theorem kR_up3 {R : Nat → List FV} {L : List FV} {g : Int} : kR (upR R 3 L) g = kR R g := upR_ne (by omega)
theorem upX_at {S : Nat → Int → Int} {n m : Nat} {j k v : Int} (h : ¬ (m = n ∧ k = j)) : upX S n j v m k = S m k := if_neg h
theorem upX_is {S : Nat → Int → Int} {n : Nat} {j v : Int} : upX S n j v n j = v := if_pos ⟨rfl, rfl⟩
theorem mW.noK {s : Int → Int} {f g : Int} (h : mW s f) : ¬ mK s g f := fun k => by
  have a : rFr s f 0 = 1 := h.2
  have b : rFr s f 0 = 2 := k.2.1
  omega
/-- a frame is dropped: late (w = 7) or double (w = 8) -/
theorem Sim.drop {s : Int → Int} {t t' : Int} {O : List (Int × Int)} {C : Int} {S : Nat → Int → Int} {R : Nat → List FV} {f g w : Int} {L : List FV} (h : Sim s t O C S R) (hw : mW s f) (hdel : ∀ s', OthP s s' (fun q => q = f) → ¬ mW s' f → RelV s' L) (ht : ∀ e, e ≠ f → mW s e → t' ≤ rFr s e 4) (hg : 0 ≤ g ∧ g < s 0) (h78 : w = 7 ∨ w = 8) : Sim (rDrop s f g w) t' O C (upX (upX S (11 + 7 * g.toNat) (w - 1) (wr (cH S g (w - 1) + 1))) 3 1 (L.length : Nat)) (upR R 3 L) := by
  obtain ⟨hr, hd, hf, hk⟩ := h
  have hs := hd.1
  have h00 := hs.1
  have f0 := hw.1.1
  have hq : Hq s (rDrop s f g w) := Hq.trans (Hq.ups (Or.inr (Or.inr (Or.inr ⟨g, ⟨hg.1, by omega⟩, by omega⟩)))) (Hq.ups (Or.inl (by omega)))
  have hfr : ∀ e x, 0 ≤ e → 0 ≤ x → x < 27 → rFr (rDrop s f g w) e x = if e = f ∧ x = 0 then 0 else rFr s e x := fun e x a b c => by
    unfold rDrop
    rw [rFr_ups, rFr_ups]
    by_cases q : e = f ∧ x = 0
    · rw [if_pos q, if_pos (by omega)]
    · rw [if_neg q, if_neg (by omega), if_neg (by omega)]
  have h7 : rDrop s f g w 7 = s 7 := by unfold rDrop; rw [ups_ne (by omega), ups_ne (by omega)]
  have h3 : rDrop s f g w 3 = s 3 := by unfold rDrop; rw [ups_ne (by omega), ups_ne (by omega)]
  have hoth : OthP s (rDrop s f g w) (fun q => q = f) := fun e he => ⟨by unfold inR7; rw [h7], fun r x a b => by rw [hfr e x r.1 a b, if_neg (fun z => he z.1)]⟩
  have hz : rFr (rDrop s f g w) f 0 = 0 := by rw [hfr f 0 f0 (by decide) (by decide), if_pos ⟨rfl, rfl⟩]
  have nW : ¬ mW (rDrop s f g w) f := fun k => by have : rFr (rDrop s f g w) f 0 = 1 := k.2; omega
  have nK : ∀ x, ¬ mK (rDrop s f g w) x f := fun x k => by have : rFr (rDrop s f g w) f 0 = 2 := k.2.1; omega
  have nO : ¬ hasO (rDrop s f g w) f := fun k => by rcases k.2 with y | y <;> omega
  obtain ⟨og, o1, o2⟩ := hf.2.2.2.2.1
  have hd' : HdI (rDrop s f g w) C := hd.hq hq (by rw [h7]; exact hs.2.2.1) (by rw [h3]; exact ⟨hd.2.2.2.2.1.2.2.1, hd.2.2.2.2.1.2.2.2.1⟩) (Int.le_refl _) hd.2.2.2.2.1.2.2.2.2.2.2
  refine ⟨hr.hq hs hq (fun m k a b c => ?_) (fun x a b => ?_) (fun x a b => ?_) (RelW.iff.mpr ⟨?_, ?_⟩), hd', hf.step hs hq (by omega) hoth ht (fun _ y => absurd hz y) (fun _ y => by omega) (fun _ y => by omega) (fun _ y => by omega) ⟨og, fun e _ k => o1 e k, fun e e' _ _ k k' => o2 e e' k k', fun k => absurd k nO⟩ (Nat.le_trans (irP_fewer hoth (fun _ y => by omega)) hf.2.2.2.2.2), fun x a b => ?_⟩
  · rw [upX_at (by omega), upX_at]
    have := (c g.toNat (by omega)).1
    omega
  · have e7 : rOf (rDrop s f g w) x 7 = if x = g ∧ w = 7 then wr (rOf s g 7 + 1) else rOf s x 7 := by
      unfold rOf rDrop
      rw [ups_ne (by omega)]
      by_cases q : x = g ∧ w = 7
      · rw [if_pos q, ups_eq (by rw [q.1, q.2]), q.2]
      · rw [if_neg q, ups_ne (by omega)]
    have e8 : rOf (rDrop s f g w) x 8 = if x = g ∧ w = 8 then wr (rOf s g 8 + 1) else rOf s x 8 := by
      unfold rOf rDrop
      rw [ups_ne (by omega)]
      by_cases q : x = g ∧ w = 8
      · rw [if_pos q, ups_eq (by rw [q.1, q.2]), q.2]
      · rw [if_neg q, ups_ne (by omega)]
    obtain ⟨_, _, _, _, r5, r6, _⟩ := (hr.2.1 x a b).1
    obtain ⟨_, _, _, _, u5, u6, _⟩ := (hr.2.1 g hg.1 hg.2).1
    have c6 : cH (upX (upX S (11 + 7 * g.toNat) (w - 1) (wr (cH S g (w - 1) + 1))) 3 1 (L.length : Nat)) x 6 = if x = g ∧ w = 7 then wr (cH S g 6 + 1) else cH S x 6 := by
      unfold cH
      rw [upX_at (by omega)]
      by_cases q : x = g ∧ w = 7
      · rw [if_pos q, q.1, q.2]; exact upX_is
      · rw [if_neg q, upX_at (by omega)]
    have c7 : cH (upX (upX S (11 + 7 * g.toNat) (w - 1) (wr (cH S g (w - 1) + 1))) 3 1 (L.length : Nat)) x 7 = if x = g ∧ w = 8 then wr (cH S g 7 + 1) else cH S x 7 := by
      unfold cH
      rw [upX_at (by omega)]
      by_cases q : x = g ∧ w = 8
      · rw [if_pos q, q.1, q.2]; exact upX_is
      · rw [if_neg q, upX_at (by omega)]
    rw [e7, e8, c6, c7, u5, u6, r5, r6]
    exact ⟨rfl, rfl⟩
  · have q0 := hq.lo (k := 0) (by decide) (by decide) (by decide) (by decide)
    refine (hr.2.1 x a b).2.keep hoth (fun e he => ?_) ?_ kR_up3
    · rw [he]; exact ⟨hw.noK, nK x⟩
    · unfold cZ; rw [upX_at (by omega), upX_at (by omega)]
  · unfold cW; rw [upX_is, upR_eq]
  · rw [upR_eq]; exact hdel _ hoth nW
  · rw [kR_up3]
    have q0 := hq.lo (k := 0) (by decide) (by decide) (by decide) (by decide)
    rw [q0] at b
    exact hk x a b
/-- a frame is kept -/
theorem Sim.kept {s : Int → Int} {t t' : Int} {O : List (Int × Int)} {C : Int} {S : Nat → Int → Int} {R : Nat → List FV} {f : Int} {v : FV} {L : List FV} (h : Sim s t O C S R) (hw : mW s f) (hv : FrW s f v) (hdel : ∀ s', OthP s s' (fun q => q = f) → ¬ mW s' f → RelV s' L) (ht : ∀ e, e ≠ f → mW s e → t' ≤ rFr s e 4) (hl : ¬ rOff s (rFr s f 2)) (hl2 : 0 < rOf s (rFr s f 1) 6 → rOf s (rFr s f 1) 9 < rSl0 s (rFr s f 1) (rFr s f 2) (rFr s f 3)) (hdb : ¬ rDblN s f (rFr s f 1) (rFr s f 2) (rSl0 s (rFr s f 1) (rFr s f 2) (rFr s f 3)) (s 7)) : Sim (rKeep s f (rSl0 s (rFr s f 1) (rFr s f 2) (rFr s f 3))) t' O C (upX (upX S (13 + 7 * (rFr s f 1).toNat) 1 (((kR R (rFr s f 1)).length : Nat) + 1)) 3 1 (L.length : Nat)) (upR (upR R (13 + 7 * (rFr s f 1).toNat) (insA (kR R (rFr s f 1)) (cPlace (kR R (rFr s f 1)) (rSl0 s (rFr s f 1) (rFr s f 2) (rFr s f 3))) (ups (ups v 2 (rSl0 s (rFr s f 1) (rFr s f 2) (rFr s f 3))) 3 (cT S 6)))) 3 L) := by
  have hSim := h
  obtain ⟨hr, hd, hf, hk⟩ := h
  have hs := hd.1
  have h00 := hs.1
  have f0 := hw.1.1
  have w1 : rFr s f 0 = 1 := hw.2
  have kf := (hf.1 f hw.1 (by omega)).2
  have hg := kf.hub hs
  have hwy := hf.2.2.1 f hw.1 w1
  have hsl := kf.slot hs
  have e2 : s 2 = cT S 6 := hr.1.2.2.1
  generalize hgg : rFr s f 1 = g at *
  generalize hcc : rFr s f 2 = c at *
  generalize hst : rFr s f 3 = st at *
  generalize hss : rSl0 s g c st = sl at *
  have kc : kidOK s c := by have := kf.1; rw [hcc] at this; exact this
  have kp : g = par s c := by have := kf.2.1.1; rw [hcc, hgg] at this; exact this
  have hq : Hq s (rKeep s f sl) := (Hq.trans (Hq.ups (Or.inl (by omega))) (Hq.ups (Or.inl (by omega)))).trans (Hq.ups (Or.inl (by omega)))
  have hfr : ∀ e x, 0 ≤ e → 0 ≤ x → x < 27 → rFr (rKeep s f sl) e x = if e = f ∧ x = 5 then s 2 else if e = f ∧ x = 4 then sl else if e = f ∧ x = 0 then 2 else rFr s e x := fun e x a b c => by
    unfold rKeep
    rw [rFr_ups, rFr_ups, rFr_ups]
    by_cases q5 : e = f ∧ x = 5
    · rw [if_pos q5, if_pos (by omega)]
    · rw [if_neg q5, if_neg (by omega)]
      by_cases q4 : e = f ∧ x = 4
      · rw [if_pos q4, if_pos (by omega)]
      · rw [if_neg q4, if_neg (by omega)]
        by_cases q0 : e = f ∧ x = 0
        · rw [if_pos q0, if_pos (by omega)]
        · rw [if_neg q0, if_neg (by omega)]
  have h7 : rKeep s f sl 7 = s 7 := by unfold rKeep; rw [ups_ne (by omega), ups_ne (by omega), ups_ne (by omega)]
  have h3 : rKeep s f sl 3 = s 3 := by unfold rKeep; rw [ups_ne (by omega), ups_ne (by omega), ups_ne (by omega)]
  have hoth : OthP s (rKeep s f sl) (fun q => q = f) := fun e he => ⟨by unfold inR7; rw [h7], fun r x a b => by rw [hfr e x r.1 a b, if_neg (fun z => he z.1), if_neg (fun z => he z.1), if_neg (fun z => he z.1)]⟩
  have F0 : rFr (rKeep s f sl) f 0 = 2 := by rw [hfr f 0 f0 (by decide) (by decide), if_neg (by omega), if_neg (by omega), if_pos ⟨rfl, rfl⟩]
  have F4 : rFr (rKeep s f sl) f 4 = sl := by rw [hfr f 4 f0 (by decide) (by decide), if_neg (by omega), if_pos ⟨rfl, rfl⟩]
  have F5 : rFr (rKeep s f sl) f 5 = s 2 := by rw [hfr f 5 f0 (by decide) (by decide), if_pos ⟨rfl, rfl⟩]
  have Fx : ∀ x, 0 ≤ x → x < 27 → x ≠ 0 → x ≠ 4 → x ≠ 5 → rFr (rKeep s f sl) f x = rFr s f x := fun x a b c d e => by rw [hfr f x f0 a b, if_neg (by omega), if_neg (by omega), if_neg (by omega)]
  have F1 : rFr (rKeep s f sl) f 1 = g := by rw [Fx 1 (by decide) (by decide) (by decide) (by decide) (by decide)]; exact hgg
  have F2 : rFr (rKeep s f sl) f 2 = c := by rw [Fx 2 (by decide) (by decide) (by decide) (by decide) (by decide)]; exact hcc
  have F3 : rFr (rKeep s f sl) f 3 = st := by rw [Fx 3 (by decide) (by decide) (by decide) (by decide) (by decide)]; exact hst
  have nW : ¬ mW (rKeep s f sl) f := fun k => by have : rFr (rKeep s f sl) f 0 = 1 := k.2; omega
  have i7 : inR7 (rKeep s f sl) f := by unfold inR7; rw [h7]; exact hw.1
  have isK' : ∀ x, mK (rKeep s f sl) x f ↔ x = g := fun x => by
    unfold mK isK
    rw [F0, F1]
    exact ⟨fun z => z.2.2.symm, fun z => ⟨i7, rfl, z.symm⟩⟩
  have kok : FrOK (rKeep s f sl) f := by
    unfold FrOK
    rw [F1, F2, F3, hq.prt kc.r15]
    refine ⟨hq.kid kc, ⟨kp, hg.1⟩, ?_⟩
    have := kf.2.2
    rw [hcc, hst] at this
    exact this
  have uniq : ∀ e, e ≠ f → inR7 s e → rFr s e 0 = 2 → c = rFr s e 2 → st = rFr s e 3 → False := fun e he i7e k0 k2 k3 => by
    have ke := (hf.1 e i7e (by omega)).2
    have kk := hf.2.1 e i7e k0
    have ge : rFr s e 1 = g := by rw [ke.2.1.1, ← k2, ← kp]
    exact hdb ⟨e, i7e.1, i7e.2, ⟨k0, ge, by rw [kk.1, ge, ← k2, ← k3, hss]⟩, k2.symm, by rw [← k3, hst]⟩
  have v3 : ∀ i : Int, 0 ≤ i → i < ((kR R g).length : Nat) → gt (kR R g) i 3 ≤ s 2 := fun i a b => ((hSim.RowOK hg).2 i a b).1
  have ins := insA_rows (v := ups (ups v 2 sl) 3 (cT S 6)) (sl := sl) (hk g hg.1 hg.2).1 (hk g hg.1 hg.2).2 (by rw [ups_ne (by omega), ups_eq rfl]) (fun i a b => by rw [ups_eq rfl, ← e2]; exact v3 i a b)
  have nO : ∀ e, e ≠ f → hasO s e → ∀ og : Int → Int × Int, OrgAt s e (og e) → c < 10 → og e ≠ (c, st) := fun e he ho og k c10 q => by
    rw [q] at k
    have pc : rIts s c 0 = g := by rw [kp]; unfold par; rw [if_pos c10]
    rcases k.2 with ⟨a, b, d⟩ | ⟨a, b⟩
    · exact uniq e he ho.1 a b.symm d.symm
    · dsimp only at a b
      rw [pc] at a b
      have := hl2 a
      omega
  obtain ⟨og, o1, o2⟩ := hf.2.2.2.2.1
  have h5 := hd.2.2.2.2.1
  have hd' : HdI (rKeep s f sl) C := hd.hq hq (by rw [h7]; exact hs.2.2.1) (by rw [h3]; exact ⟨h5.2.2.1, h5.2.2.2.1⟩) (Int.le_refl _) h5.2.2.2.2.2.2
  have g5 : 0 ≤ g ∧ g < 5 := ⟨hg.1, by omega⟩
  refine ⟨hr.hq hs hq (fun m k a b c => ?_) (fun x a b => ?_) (fun x a b => ?_) (RelW.iff.mpr ⟨?_, ?_⟩), hd', hf.step hs hq (by omega) hoth ht (fun _ _ => ⟨Or.inr F0, kok⟩) (fun _ _ => ⟨?_, ?_, ?_⟩) (fun _ y => by omega) (fun _ _ e he i7e k0 k2 k3 => ?_) ?_ (Nat.le_trans (irP_fewer hoth (fun _ y => by omega)) hf.2.2.2.2.2), fun x a b => ?_⟩
  · rw [upX_at (by omega), upX_at]
    have := (c g.toNat (by omega)).2
    exact this
  · obtain ⟨_, _, _, _, r5, r6, _⟩ := (hr.2.1 x a b).1
    have x5 : x < 5 := by omega
    unfold cH rOf rKeep
    rw [upX_at (by omega), upX_at (by omega), upX_at (by omega), upX_at (by omega), ups_ne (by omega), ups_ne (by omega), ups_ne (by omega), ups_ne (by omega), ups_ne (by omega), ups_ne (by omega)]
    exact ⟨r5, r6⟩
  · by_cases q : x = g
    · subst q
      refine (hr.2.1 x a b).2.ins (f := f) (v := ups (ups v 2 sl) 3 (cT S 6)) hoth hw.noK ((isK' x).mpr rfl) ⟨?_, ?_, ?_, ?_, ?_⟩ ?_ (by rw [kR_up3]; exact upR_eq)
      · rw [ups_ne (by decide), ups_ne (by decide), F2, ← hcc]; exact hv.1
      · rw [ups_ne (by decide), ups_ne (by decide), F3, ← hst]; exact hv.2.1
      · rw [ups_ne (by decide), ups_eq rfl, F4]
      · rw [ups_eq rfl, F5, e2]
      · refine ⟨?_, fun u u0 u1 hb => ?_⟩
        · rw [ups_ne (by decide), ups_ne (by decide), Fx 6 (by decide) (by decide) (by decide) (by decide) (by decide)]; exact hv.2.2.2.1
        · rw [ups_ne (by decide), ups_ne (by decide)] at hb
          rw [ups_ne (by omega), ups_ne (by omega), ups_ne (by omega), ups_ne (by omega), Fx (7 + u) (by omega) (by omega) (by omega) (by omega) (by omega), Fx (17 + u) (by omega) (by omega) (by omega) (by omega) (by omega)]
          exact hv.2.2.2.2 u u0 u1 hb
      · have := (hr.2.1 x a b).2.1
        unfold cZ at this ⊢
        rw [upX_at (by omega), upX_is, this]
    · refine (hr.2.1 x a b).2.keep hoth (fun e he => ?_) ?_ (by rw [kR_up3]; exact upR_ne (by omega))
      · rw [he]; exact ⟨hw.noK, fun k => q ((isK' x).mp k)⟩
      · unfold cZ; rw [upX_at (by omega), upX_at (by omega)]
  · unfold cW; rw [upX_is, upR_eq]
  · rw [upR_eq]; exact hdel _ hoth nW
  · rw [F4, F1, F2, F3, hq.sl0 kc.r15 g5, hss]
  · rw [F4, F1, hq.of g5 (by decide) (by decide) (by decide), hq.of g5 (by decide) (by decide) (by decide)]; exact hl2
  · rw [F5, hq.lo (k := 2) (by decide) (by decide) (by decide) (by decide)]; exact ⟨h5.1, Int.le_refl _⟩
  · rw [F2] at k2; rw [F3] at k3; exact uniq e he i7e k0 k2 k3
  · by_cases c10 : c < 10
    · refine ⟨fun e => if e = f then (c, st) else og e, fun e he k => ?_, fun e e' he he' k k' q => ?_, fun _ => ⟨?_, ⟨?_, Or.inl ⟨F0, ?_, ?_⟩⟩, fun e he k q => ?_⟩⟩
      · dsimp only; rw [if_neg he]; exact o1 e k
      · dsimp only at q; rw [if_neg he, if_neg he'] at q; exact o2 e e' k k' q
      · dsimp only; rw [if_pos rfl]; exact hwy.2 c10
      · dsimp only; rw [if_pos rfl, hq.lo (k := 1) (by decide) (by decide) (by decide) (by decide)]
        rcases kc with ⟨_, y, z⟩ | ⟨y, _⟩
        · exact ⟨y, z⟩
        · omega
      · dsimp only; rw [if_pos rfl]; exact F2
      · dsimp only; rw [if_pos rfl]; exact F3
      · dsimp only at q
        rw [if_neg he, if_pos rfl] at q
        exact nO e he k og (o1 e k).2 c10 q
    · have hof : hasO s f := ⟨hw.1, Or.inr ⟨w1, by omega⟩⟩
      refine ⟨og, fun e _ k => o1 e k, fun e e' _ _ k k' => o2 e e' k k', fun _ => ⟨(o1 f hof).1, ?_, fun e he k q => he (o2 e f k hof q)⟩⟩
      have r := (o1 f hof).2
      have hu := hs.2.2.2.2.2 (og f).1 r.1.1 r.1.2
      have h01 := hs.2.1
      have r00 := r.1
      rcases r.2 with ⟨z, _⟩ | z
      · omega
      · refine ⟨by rw [hq.lo (k := 1) (by decide) (by decide) (by decide) (by decide)]; exact r.1, Or.inr ?_⟩
        rw [hq.its ⟨r00.1, by omega⟩ (by decide), hq.sl0 ⟨r00.1, by omega⟩ ⟨hu.1, by omega⟩, hq.of ⟨hu.1, by omega⟩ (by decide) (by decide) (by decide), hq.of ⟨hu.1, by omega⟩ (by decide) (by decide) (by decide)]
        exact z
  · rw [kR_up3]
    have q0 := hq.lo (k := 0) (by decide) (by decide) (by decide) (by decide)
    rw [q0] at b
    by_cases q : x = g
    · subst q
      rw [show kR (upR R (13 + 7 * x.toNat) (insA (kR R x) (cPlace (kR R x) sl) (ups (ups v 2 sl) 3 (cT S 6)))) x = insA (kR R x) (cPlace (kR R x) sl) (ups (ups v 2 sl) 3 (cT S 6)) from upR_eq]
      exact ins
    · rw [show kR (upR R (13 + 7 * g.toNat) (insA (kR R g) (cPlace (kR R g) sl) (ups (ups v 2 sl) 3 (cT S 6)))) x = kR R x from upR_ne (by omega)]
      exact hk x a b

/-! THE SIMULATION: an output -/
theorem rOut_lo {s : Int → Int} {sl msk mis fl k : Int} {V F : Int → Int} (h5 : 0 ≤ s 5 ∧ s 5 ≤ 8) (hk : k < 248 ∨ 448 ≤ k) (h4 : k ≠ 4 ∧ k ≠ 5 ∧ k ≠ 6) : rOut s sl msk mis fl V F k = s k := by
  unfold rOut rOutT rOut3
  by_cases q : s 5 = 8
  · rw [if_pos q, ups_ne h4.1, ups_ne h4.2.1, ups_ne h4.2.2]
    have e5 : ups (rSh s 175) 5 7 5 = 7 := ups_eq rfl
    unfold rLay
    rw [e5, if_neg (by omega), if_neg (by omega), ups_ne (by omega), ups_ne (by omega), ups_ne (by omega), ups_ne (by omega), ups_ne (by omega), ups_ne h4.2.1]
    unfold rSh
    rw [if_neg (by omega)]
  · rw [if_neg q, ups_ne h4.1, ups_ne h4.2.1, ups_ne h4.2.2]
    unfold rLay
    rw [if_neg (by omega), if_neg (by omega), ups_ne (by omega), ups_ne (by omega), ups_ne (by omega), ups_ne (by omega), ups_ne (by omega)]
theorem rOut_n {s : Int → Int} {sl msk mis fl : Int} {V F : Int → Int} (h5 : 0 ≤ s 5 ∧ s 5 ≤ 8) : rOut s sl msk mis fl V F 4 = wr (s 4 + 1) ∧ rOut s sl msk mis fl V F 5 = (if s 5 = 8 then 8 else s 5 + 1) ∧ rOut s sl msk mis fl V F 6 = if s 4 = 0 ∨ s 6 < s 2 - sl then s 2 - sl else s 6 := by
  have lo : ∀ (b : Int → Int) (k : Int), (0 ≤ b 5 ∧ b 5 ≤ 8) → k < 248 → rLay (ups (ups (ups (ups (ups b (248 + 25 * b 5) sl) (248 + 25 * b 5 + 1) (b 2)) (248 + 25 * b 5 + 2) (oOr fl (if 0 < mis then 16 else 0))) (248 + 25 * b 5 + 3) msk) (248 + 25 * b 5 + 4) mis) (248 + 25 * b 5) 10 V F k = b k := fun b k h hk => by
    unfold rLay
    rw [if_neg (by omega), if_neg (by omega), ups_ne (by omega), ups_ne (by omega), ups_ne (by omega), ups_ne (by omega), ups_ne (by omega)]
  unfold rOut rOutT rOut3
  by_cases q : s 5 = 8
  · rw [if_pos q]
    have e : ∀ k, k < 248 → k ≠ 5 → ups (rSh s 175) 5 7 k = s k := fun k a c => by
      rw [ups_ne c]; unfold rSh; rw [if_neg (by omega)]
    have e5 : ups (rSh s 175) 5 7 5 = 7 := ups_eq rfl
    have l := lo (ups (rSh s 175) 5 7)
    refine ⟨?_, ?_, ?_⟩
    · rw [ups_eq rfl, l 4 (by rw [e5]; decide) (by decide), e 4 (by decide) (by decide)]
    · rw [ups_ne (by decide), ups_eq rfl, l 5 (by rw [e5]; decide) (by decide), e5, if_pos q]; rfl
    · rw [ups_ne (by decide), ups_ne (by decide), ups_eq rfl, l 4 (by rw [e5]; decide) (by decide), l 6 (by rw [e5]; decide) (by decide), l 2 (by rw [e5]; decide) (by decide), e 4 (by decide) (by decide), e 6 (by decide) (by decide), e 2 (by decide) (by decide)]
  · rw [if_neg q]
    have l := lo s
    refine ⟨?_, ?_, ?_⟩
    · rw [ups_eq rfl, l 4 (by omega) (by decide)]
    · rw [ups_ne (by decide), ups_eq rfl, l 5 (by omega) (by decide), if_neg q]
    · rw [ups_ne (by decide), ups_ne (by decide), ups_eq rfl, l 4 (by omega) (by decide), l 6 (by omega) (by decide), l 2 (by omega) (by decide)]
/-- an older output: one place up if all places were taken -/
theorem rOut_old {s : Int → Int} {sl msk mis fl j w : Int} {V F : Int → Int} (h5 : 0 ≤ s 5 ∧ s 5 ≤ 8) (hj : 0 ≤ j) (hw : 0 ≤ w ∧ w < 25) (hj2 : j < (if s 5 = 8 then 7 else s 5)) : rOut s sl msk mis fl V F (248 + 25 * j + w) = s (248 + 25 * (if s 5 = 8 then j + 1 else j) + w) := by
  unfold rOut rOutT rOut3
  by_cases q : s 5 = 8
  · rw [if_pos q] at hj2
    rw [if_pos q, if_pos q, ups_ne (by omega), ups_ne (by omega), ups_ne (by omega)]
    have e5 : ups (rSh s 175) 5 7 5 = 7 := ups_eq rfl
    unfold rLay
    rw [e5, if_neg (by omega), if_neg (by omega), ups_ne (by omega), ups_ne (by omega), ups_ne (by omega), ups_ne (by omega), ups_ne (by omega), ups_ne (by omega)]
    unfold rSh
    rw [if_pos (by omega)]
    congr 1
    omega
  · rw [if_neg q] at hj2
    rw [if_neg q, if_neg q, ups_ne (by omega), ups_ne (by omega), ups_ne (by omega)]
    unfold rLay
    rw [if_neg (by omega), if_neg (by omega), ups_ne (by omega), ups_ne (by omega), ups_ne (by omega), ups_ne (by omega), ups_ne (by omega)]
theorem rOut_new {s : Int → Int} {sl msk mis fl n : Int} {V F : Int → Int} (h5 : 0 ≤ s 5 ∧ s 5 ≤ 8) (hn : n = if s 5 = 8 then 7 else s 5) : rOut s sl msk mis fl V F (248 + 25 * n) = sl ∧ rOut s sl msk mis fl V F (248 + 25 * n + 1) = s 2 ∧ rOut s sl msk mis fl V F (248 + 25 * n + 2) = oOr fl (if 0 < mis then 16 else 0) ∧ rOut s sl msk mis fl V F (248 + 25 * n + 3) = msk ∧ rOut s sl msk mis fl V F (248 + 25 * n + 4) = mis ∧ ∀ u, 0 ≤ u → u < 10 → rOut s sl msk mis fl V F (248 + 25 * n + 5 + u) = V u ∧ rOut s sl msk mis fl V F (248 + 25 * n + 15 + u) = F u := by
  have key : ∀ b : Int → Int, b 5 = n → b 2 = s 2 → (0 ≤ n ∧ n ≤ 8) → (rOutT b sl msk mis fl V F (248 + 25 * n) = sl ∧ rOutT b sl msk mis fl V F (248 + 25 * n + 1) = s 2 ∧ rOutT b sl msk mis fl V F (248 + 25 * n + 2) = oOr fl (if 0 < mis then 16 else 0) ∧ rOutT b sl msk mis fl V F (248 + 25 * n + 3) = msk ∧ rOutT b sl msk mis fl V F (248 + 25 * n + 4) = mis ∧ ∀ u, 0 ≤ u → u < 10 → rOutT b sl msk mis fl V F (248 + 25 * n + 5 + u) = V u ∧ rOutT b sl msk mis fl V F (248 + 25 * n + 15 + u) = F u) := fun b e5 e2 hn => by
    unfold rOutT rOut3
    rw [e5, e2]
    refine ⟨?_, ?_, ?_, ?_, ?_, fun u u0 u1 => ⟨?_, ?_⟩⟩
    · rw [ups_ne (by omega), ups_ne (by omega), ups_ne (by omega)]
      unfold rLay
      rw [if_neg (by omega), if_neg (by omega), ups_ne (by omega), ups_ne (by omega), ups_ne (by omega), ups_ne (by omega), ups_eq rfl]
    · rw [ups_ne (by omega), ups_ne (by omega), ups_ne (by omega)]
      unfold rLay
      rw [if_neg (by omega), if_neg (by omega), ups_ne (by omega), ups_ne (by omega), ups_ne (by omega), ups_eq rfl]
    · rw [ups_ne (by omega), ups_ne (by omega), ups_ne (by omega)]
      unfold rLay
      rw [if_neg (by omega), if_neg (by omega), ups_ne (by omega), ups_ne (by omega), ups_eq rfl]
    · rw [ups_ne (by omega), ups_ne (by omega), ups_ne (by omega)]
      unfold rLay
      rw [if_neg (by omega), if_neg (by omega), ups_ne (by omega), ups_eq rfl]
    · rw [ups_ne (by omega), ups_ne (by omega), ups_ne (by omega)]
      unfold rLay
      rw [if_neg (by omega), if_neg (by omega), ups_eq rfl]
    · rw [ups_ne (by omega), ups_ne (by omega), ups_ne (by omega)]
      unfold rLay
      rw [if_pos (by omega)]
      congr 1; omega
    · rw [ups_ne (by omega), ups_ne (by omega), ups_ne (by omega)]
      unfold rLay
      rw [if_neg (by omega), if_pos (by omega)]
      congr 1; omega
  unfold rOut
  by_cases q : s 5 = 8
  · rw [if_pos q] at hn
    rw [if_pos q]
    refine key _ (by rw [ups_eq rfl, hn]) ?_ (by omega)
    rw [ups_ne (by decide)]; unfold rSh; rw [if_neg (by omega)]
  · rw [if_neg q] at hn
    rw [if_neg q]
    exact key s hn.symm rfl (by omega)
theorem fFlg_congr {v w : FV} (h4 : v 4 = w 4) (h5 : v 5 = w 5) (h : ∀ u, 0 ≤ u → u < 10 → v (16 + u) = w (16 + u)) : fFlg v = fFlg w := by
  unfold fFlg
  rw [h4]
  refine fI_congr (fun u a b x => ?_)
  have e : fHas v u ↔ fHas w u := by show rBit (v 5) u ↔ rBit (w 5) u; rw [h5]
  rw [cif_congr e, h u a b]
/-- the places that what the frames keep to asks for -/
def FR (k : Int) : Prop := k = 0 ∨ k = 1 ∨ k = 3 ∨ k = 7 ∨ (∃ g : Int, (0 ≤ g ∧ g < 5) ∧ (k = 8 + 10 * g + 4 ∨ k = 8 + 10 * g + 5 ∨ k = 8 + 10 * g + 6 ∨ k = 8 + 10 * g + 9)) ∨ (∃ u : Int, (0 ≤ u ∧ u < 10) ∧ (k = 58 + 4 * u ∨ k = 58 + 4 * u + 1)) ∨ (448 ≤ k ∧ k < 15568)
theorem FmI.same {s s' : Int → Int} {t : Int} {O : List (Int × Int)} (h : FmI s t O) (hs : RI s) (e : ∀ k, FR k → s' k = s k) (h2t : s 2 ≤ s' 2) : FmI s' t O := by
  have h00 := hs.1
  have h01 := hs.2.1
  have h07 := hs.2.2.1
  have i7 : ∀ f, inR7 s' f ↔ inR7 s f := fun f => by unfold inR7; rw [e 7 (Or.inr (Or.inr (Or.inr (Or.inl rfl))))]
  have fr : ∀ f w, inR7 s f → (0 ≤ w ∧ w < 27) → rFr s' f w = rFr s f w := fun f w a b => by
    have a1 := a.1
    have a2 := a.2
    exact e _ (Or.inr (Or.inr (Or.inr (Or.inr (Or.inr (Or.inr ⟨by omega, by omega⟩))))))
  have of : ∀ g w, 0 ≤ g → g < 5 → (w = 4 ∨ w = 5 ∨ w = 6 ∨ w = 9) → rOf s' g w = rOf s g w := fun g w a b c => e _ (Or.inr (Or.inr (Or.inr (Or.inr (Or.inl ⟨g, ⟨a, b⟩, by omega⟩)))))
  have it : ∀ u w, 0 ≤ u → u < 10 → (w = 0 ∨ w = 1) → rIts s' u w = rIts s u w := fun u w a b c => e _ (Or.inr (Or.inr (Or.inr (Or.inr (Or.inr (Or.inl ⟨u, ⟨a, b⟩, by omega⟩))))))
  have e00 := e 0 (Or.inl rfl)
  have e01 := e 1 (Or.inr (Or.inl rfl))
  have e03 := e 3 (Or.inr (Or.inr (Or.inl rfl)))
  have per : ∀ c, 0 ≤ c → c < 15 → rPer s' c = rPer s c := fun c a b => by
    unfold rPer
    by_cases q : c < 10
    · rw [if_pos q, if_pos q, it c 1 a q (by decide)]
    · rw [if_neg q, if_neg q, of _ 4 (by omega) (by omega) (by decide)]
  have prt : ∀ c, 0 ≤ c → c < 15 → par s' c = par s c := fun c a b => by
    unfold par
    by_cases q : c < 10
    · rw [if_pos q, if_pos q, it c 0 a q (by decide)]
    · rw [if_neg q, if_neg q, of _ 5 (by omega) (by omega) (by decide)]
  have sl0 : ∀ g c st, 0 ≤ g → g < 5 → 0 ≤ c → c < 15 → rSl0 s' g c st = rSl0 s g c st := fun g c st a b x y => by
    unfold rSl0
    rw [per c x y, of g 4 a b (by decide)]
  have has : ∀ f, hasO s' f ↔ hasO s f := fun f => by
    unfold hasO
    rw [i7]
    constructor
    · rintro ⟨a, b⟩; rw [fr f 0 a (by decide), fr f 2 a (by decide)] at b; exact ⟨a, b⟩
    · rintro ⟨a, b⟩; rw [← fr f 0 a (by decide), ← fr f 2 a (by decide)] at b; exact ⟨a, b⟩
  obtain ⟨h1, h2, h3, h4, ⟨og, o1, o2⟩, h40⟩ := h
  refine ⟨fun f x z => ?_, fun f x z => ?_, fun f x z => ?_, fun f g x y z w p q => ?_, ⟨og, fun f x => ?_, fun f g x y z => o2 f g ((has f).mp x) ((has g).mp y) z⟩, ?_⟩
  · have x' := (i7 f).mp x
    rw [fr f 0 ((i7 f).mp x) (by decide)] at z ⊢
    have r := h1 f x' z
    refine ⟨r.1, ?_⟩
    unfold FrOK kidOK
    rw [fr f 1 ((i7 f).mp x) (by decide), fr f 2 ((i7 f).mp x) (by decide), fr f 3 ((i7 f).mp x) (by decide), e00, e01, prt _ r.2.1.r15.1 r.2.1.r15.2]
    exact r.2
  · have x' := (i7 f).mp x
    rw [fr f 0 ((i7 f).mp x) (by decide)] at z
    have r := h2 f x' z
    have k := (h1 f x' (by omega)).2
    have hb := k.hub hs
    unfold KeptOK
    rw [fr f 1 ((i7 f).mp x) (by decide), fr f 2 ((i7 f).mp x) (by decide), fr f 3 ((i7 f).mp x) (by decide), fr f 4 ((i7 f).mp x) (by decide), fr f 5 ((i7 f).mp x) (by decide), sl0 _ _ _ hb.1 (by omega) k.1.r15.1 k.1.r15.2, of _ 6 hb.1 (by omega) (by decide), of _ 9 hb.1 (by omega) (by decide)]
    exact ⟨r.1, r.2.1, r.2.2.1, by have := r.2.2.2; omega⟩
  · have x' := (i7 f).mp x
    rw [fr f 0 ((i7 f).mp x) (by decide)] at z
    unfold WayOK
    rw [fr f 2 ((i7 f).mp x) (by decide), fr f 3 ((i7 f).mp x) (by decide), fr f 4 ((i7 f).mp x) (by decide), fr f 5 ((i7 f).mp x) (by decide), e03]
    exact h3 f x' z
  · rw [fr f 0 ((i7 f).mp x) (by decide)] at z
    rw [fr g 0 ((i7 g).mp y) (by decide)] at w
    rw [fr f 2 ((i7 f).mp x) (by decide), fr g 2 ((i7 g).mp y) (by decide)] at p
    rw [fr f 3 ((i7 f).mp x) (by decide), fr g 3 ((i7 g).mp y) (by decide)] at q
    exact h4 f g ((i7 f).mp x) ((i7 g).mp y) z w p q
  · have r := o1 f ((has f).mp x)
    refine ⟨r.1, ?_⟩
    have r2 := r.2
    have r1 := r2.1
    have hu := hs.2.2.2.2.2 (og f).1 r1.1 r1.2
    unfold OrgAt
    rw [e01, fr f 0 ((i7 f).mp x.1) (by decide), fr f 2 ((i7 f).mp x.1) (by decide), fr f 3 ((i7 f).mp x.1) (by decide), it _ 0 r1.1 (by omega) (by decide), of _ 6 hu.1 (by omega) (by decide), of _ 9 hu.1 (by omega) (by decide), sl0 _ _ _ hu.1 (by omega) r1.1 (by omega)]
    exact r2
  · refine Nat.le_trans (len_le_of irP_nodup (fun f hf => ?_)) h40
    obtain ⟨x, y, z⟩ := irP_mem.mp hf
    rw [fr f 0 ((i7 f).mp x) (by decide)] at y
    rw [fr f 2 ((i7 f).mp x) (by decide)] at z
    exact irP_mem.mpr ⟨(i7 f).mp x, y, z⟩
theorem Sim.outs {s : Int → Int} {t : Int} {O : List (Int × Int)} {C : Int} {S : Nat → Int → Int} {R : Nat → List FV} {sl msk mis fl : Int} {V F : Int → Int} (h : Sim s t O C S R) (h4 : s 4 + 1 ≤ C) (hm : 0 ≤ msk ∧ msk < 1024) (v1 : SF S 6 1 = sl) (v4 : SF S 6 4 = mis) (v5 : SF S 6 5 = msk) (vf : fFlg (SF S 6) = oOr fl (if 0 < mis then 16 else 0)) (hv : ∀ u, 0 ≤ u → u < 10 → rBit msk u → SF S 6 (6 + u) = V u ∧ SF S 6 (16 + u) = F u) : Sim (rOut s sl msk mis fl V F) t O C (cPut S) R := by
  obtain ⟨hr, hd, hf, hk⟩ := h
  have hs := hd.1
  have h00 := hs.1
  have h01 := hs.2.1
  have h5 := hs.2.2.2.1
  obtain ⟨t0, t1, t2, t4, t5, t6⟩ := hr.1
  have hcn := hd.2.2.2.2.1
  obtain ⟨n4, n5, n6⟩ := rOut_n (sl := sl) (msk := msk) (mis := mis) (fl := fl) (V := V) (F := F) h5
  have lo : ∀ k, ¬ (4 ≤ k ∧ k ≤ 6) → (k < 248 ∨ 448 ≤ k) → rOut s sl msk mis fl V F k = s k := fun k a b => rOut_lo h5 b (by omega)
  have new := rOut_new (sl := sl) (msk := msk) (mis := mis) (fl := fl) (V := V) (F := F) (n := if s 5 = 8 then 7 else s 5) h5 rfl
  have old := fun j w a b c => rOut_old (sl := sl) (msk := msk) (mis := mis) (fl := fl) (V := V) (F := F) (j := j) (w := w) h5 a b c
  generalize rOut s sl msk mis fl V F = s' at n4 n5 n6 lo new old ⊢
  have of : ∀ g w, 0 ≤ g → g < 5 → 0 ≤ w → w < 10 → rOf s' g w = rOf s g w := fun g w a b c d => lo _ (by omega) (by omega)
  have it : ∀ u w, 0 ≤ u → u < 10 → 0 ≤ w → w < 4 → rIts s' u w = rIts s u w := fun g w a b c d => lo _ (by omega) (by omega)
  have m0 := Int.emod_nonneg (cT S 7) (show (8 : Int) ≠ 0 by decide)
  have m8 := Int.emod_lt_of_pos (cT S 7) (show (0 : Int) < 8 by decide)
  have pc : ∀ m k, ¬ (6 ≤ m ∧ m ≤ 8) → m ≠ 0 → m < 56 → cPut S m k = S m k := fun m k a b c => by
    unfold cPut
    rw [upX_at (by omega), upF_ne (by omega) (by omega) (by omega), upF_ne (by omega) (by omega) (by omega), upX_at (by omega)]
  have p0 : ∀ k, k ≠ 7 → k ≠ 8 → cPut S 0 k = S 0 k := fun k a b => by
    unfold cPut
    rw [upX_at (by omega), upF_ne (by omega) (by omega) (by omega), upF_ne (by omega) (by omega) (by omega), upX_at (by omega)]
  have p7 : cT (cPut S) 7 = cT S 7 + 1 := by unfold cPut cT; rw [upX_is]
  have p8 : cT (cPut S) 8 = cMost S := by
    unfold cPut cT
    rw [upX_at (by omega), upF_ne (by omega) (by omega) (by omega), upF_ne (by omega) (by omega) (by omega), upX_is]
  have sf : ∀ n, (n + 2 < 56 ∧ 8 < n) ∨ (56 + 3 * (cT S 7 % 8).toNat + 2 < n ∨ (56 ≤ n ∧ n + 2 < 56 + 3 * (cT S 7 % 8).toNat)) → SF (cPut S) n = SF S n := fun n a => by
    unfold cPut
    rw [SF_upX (by omega), SF_ne (by omega), SF_ne (by omega), SF_upX (by omega)]
  have sn : SF (cPut S) (56 + 3 * (cT S 7 % 8).toNat) = nf (ups (SF S 6) 3 (cT S 6)) := by
    unfold cPut
    rw [SF_upX (by omega), SF_upF]
  have hdep : ∀ g, 0 ≤ g → g < s 0 → rDepth s' g = rDepth s g := fun g a b => by
    have key : ∀ (n : Nat) (x : Int), x < s 0 → rDep s' n x = rDep s n x := by
      intro n
      induction n with
      | zero => intro x _; rfl
      | succ n ih =>
        intro x hx
        rw [rDep, rDep]
        by_cases q : x < 0
        · rw [if_pos q, if_pos q]
        · have hh := hs.2.2.2.2.1 x (by omega) hx
          rw [if_neg q, if_neg q, of x 5 (by omega) (by omega) (by decide) (by decide), ih _ (by omega)]
    have hh := hs.2.2.2.2.1 g a b
    unfold rDepth
    rw [of g 5 a (by omega) (by decide) (by decide)]
    exact key 6 _ (by omega)
  have ho : OthP s s' (fun _ => False) := fun f _ => ⟨by unfold inR7; rw [lo 7 (by decide) (by decide)], fun x w a b => lo _ (by have := x.1; omega) (by have := x.1; omega)⟩
  have hn : 0 ≤ (if s 5 = 8 then 7 else s 5) ∧ (if s 5 = 8 then 7 else s 5) ≤ 7 := by split <;> omega
  have e50 : s' 5 = (if s 5 = 8 then 7 else s 5) + 1 := by rw [n5]; split <;> omega
  unfold cKept e_mnF at t5
  refine ⟨⟨⟨?_, ?_, ?_, ?_, ?_, ?_⟩, fun g a b => ⟨⟨fun k p q => ?_, ?_, ?_, ?_, ?_, ?_, ?_, ?_, fun u p q => ?_⟩, ?_⟩, fun u a b k p q => ?_, fun i a b => ?_, RelW.iff.mpr ⟨?_, ?_⟩⟩, ⟨⟨?_, ?_, ?_, ?_, fun g a b => ?_, fun u a b => ?_⟩, ⟨?_, fun g a b => ?_⟩, fun g a b => ?_, fun u a b => ?_, ?_, fun j a b => ?_⟩, hf.same hs (fun k q => lo k (by unfold FR at q; omega) (by unfold FR at q; omega)) (by rw [lo 2 (by decide) (by decide)]; exact Int.le_refl _), fun g a b => ?_⟩
  · rw [lo 0 (by decide) (by decide), t0]; exact (p0 4 (by decide) (by decide)).symm
  · rw [lo 1 (by decide) (by decide), t1]; exact (p0 5 (by decide) (by decide)).symm
  · rw [lo 2 (by decide) (by decide), t2]; exact (p0 6 (by decide) (by decide)).symm
  · rw [n4, p7, ← t4, wr_id ⟨by omega, by omega⟩]
  · unfold cKept e_mnF
    rw [p7, n5, ← t4]
    rw [← t4] at t5
    split at t5 <;> split <;> split <;> omega
  · rw [n6, p8]
    unfold cMost e_mxF
    rw [v1, ← t4, ← t6, ← t2]
    split <;> split <;> try split
    all_goals omega
  · rw [lo 0 (by decide) (by decide)] at b
    rw [of g k a (by omega) p (by omega)]
    exact ((hr.2.1 g a b).1.1 k p q).trans (pc _ _ (by omega) (by omega) (by omega)).symm
  · rw [lo 0 (by decide) (by decide)] at b
    rw [of g 5 a (by omega) (by decide) (by decide)]
    exact ((hr.2.1 g a b).1.2.1).trans (pc _ _ (by omega) (by omega) (by omega)).symm
  · rw [lo 0 (by decide) (by decide)] at b
    rw [hdep g a b]
    exact ((hr.2.1 g a b).1.2.2.1).trans (pc _ _ (by omega) (by omega) (by omega)).symm
  · rw [lo 0 (by decide) (by decide)] at b
    rw [of g 6 a (by omega) (by decide) (by decide)]
    exact ((hr.2.1 g a b).1.2.2.2.1).trans (pc _ _ (by omega) (by omega) (by omega)).symm
  · rw [lo 0 (by decide) (by decide)] at b
    rw [of g 7 a (by omega) (by decide) (by decide)]
    exact ((hr.2.1 g a b).1.2.2.2.2.1).trans (pc _ _ (by omega) (by omega) (by omega)).symm
  · rw [lo 0 (by decide) (by decide)] at b
    rw [of g 8 a (by omega) (by decide) (by decide)]
    exact ((hr.2.1 g a b).1.2.2.2.2.2.1).trans (pc _ _ (by omega) (by omega) (by omega)).symm
  · rw [lo 0 (by decide) (by decide)] at b
    rw [of g 6 a (by omega) (by decide) (by decide), of g 9 a (by omega) (by decide) (by decide)]
    intro z
    exact ((hr.2.1 g a b).1.2.2.2.2.2.2.1 z).trans (pc _ _ (by omega) (by omega) (by omega)).symm
  · rw [lo 0 (by decide) (by decide)] at b
    rw [of g 6 a (by omega) (by decide) (by decide)]
    intro z
    exact (pc _ _ (by omega) (by omega) (by omega)).trans ((hr.2.1 g a b).1.2.2.2.2.2.2.2.1 z)
  · rw [lo 0 (by decide) (by decide)] at b
    rw [sf _ (by omega), lo _ (by omega) (by omega), lo _ (by omega) (by omega), lo _ (by omega) (by omega)]
    exact (hr.2.1 g a b).1.2.2.2.2.2.2.2.2 u p q
  · rw [lo 0 (by decide) (by decide)] at b
    exact (hr.2.1 g a b).2.keep ho (fun f e => e.elim) (pc _ _ (by omega) (by omega) (by omega)) rfl
  · rw [lo 1 (by decide) (by decide)] at b
    rw [it u k a (by omega) p q]
    exact (hr.2.2.1 u a b k p q).trans (pc _ _ (by omega) (by omega) (by omega)).symm
  · unfold RelO
    rw [p7]
    by_cases i0 : i = 0
    · subst i0
      rw [show s' 5 - 1 - 0 = (if s 5 = 8 then 7 else s 5) by omega, show (cT S 7 + 1 - 1 - 0) = cT S 7 by omega, sn, new.1, new.2.1, new.2.2.1, new.2.2.2.1, new.2.2.2.2.1]
      have w : ∀ k, 0 ≤ k → k < 26 → k ≠ 3 → nf (ups (SF S 6) 3 (cT S 6)) k = SF S 6 k := fun k x y z => by rw [nf_in x y, ups_ne z]
      refine ⟨?_, ?_, ?_, ?_, ?_, fun u x y z => ?_⟩
      · rw [w 1 (by decide) (by decide) (by decide), v1]
      · rw [nf_in (by decide) (by decide), ups_eq rfl, t2]
      · rw [← vf]
        exact (fFlg_congr (w 4 (by decide) (by decide) (by decide)) (w 5 (by decide) (by decide) (by decide)) (fun u x y => w _ (by omega) (by omega) (by omega))).symm
      · rw [w 5 (by decide) (by decide) (by decide), v5]
      · rw [w 4 (by decide) (by decide) (by decide), v4]
      · rw [w 5 (by decide) (by decide) (by decide), v5] at z
        rw [w _ (by omega) (by omega) (by omega), w _ (by omega) (by omega) (by omega)]
        have r := hv u x y z
        have r2 := new.2.2.2.2.2 u x y
        exact ⟨r2.1.trans r.1.symm, r2.2.trans r.2.symm⟩
    · have b' : i - 1 < s 5 := by rw [n5] at b; split at b <;> omega
      have oo := hr.2.2.2.1 (i - 1) (by omega) b'
      unfold RelO at oo
      rw [show cT S 7 - 1 - (i - 1) = cT S 7 + 1 - 1 - i by omega] at oo
      have i7 : i ≤ 7 := by rw [n5] at b; split at b <;> omega
      have mm : ¬ ((cT S 7 + 1 - 1 - i) % 8).toNat = (cT S 7 % 8).toNat := by omega
      have mr := Int.emod_lt_of_pos (cT S 7 + 1 - 1 - i) (show (0 : Int) < 8 by decide)
      rw [sf _ (by omega)]
      have at1 : ∀ w, 0 ≤ w → w < 25 → s' (248 + 25 * (s' 5 - 1 - i) + w) = s (248 + 25 * (s 5 - 1 - (i - 1)) + w) := fun w x y => by
        rw [old (s' 5 - 1 - i) w (by rw [n5]; rw [n5] at b; split at b <;> split <;> omega) ⟨x, y⟩ (by rw [n5]; split <;> omega)]
        congr 1
        rw [n5]
        split <;> omega
      have at0 := at1 0 (by decide) (by decide)
      rw [Int.add_zero, Int.add_zero] at at0
      rw [at0, at1 1 (by decide) (by decide), at1 2 (by decide) (by decide), at1 3 (by decide) (by decide), at1 4 (by decide) (by decide)]
      obtain ⟨o1, o2, o3, o4, o5, o6⟩ := oo
      refine ⟨o1, o2, o3, o4, o5, fun u x y z => ?_⟩
      have r := o6 u x y z
      have e1 := at1 (5 + u) (by omega) (by omega)
      have e2 := at1 (15 + u) (by omega) (by omega)
      rw [← Int.add_assoc, ← Int.add_assoc] at e1 e2
      rw [e1, e2]
      exact r
  · exact (pc 3 1 (by omega) (by omega) (by omega)).trans (RelW.iff.mp hr.2.2.2.2).1
  · exact (RelW.iff.mp hr.2.2.2.2).2.keep ho (fun f e => e.elim)
  · rw [lo 0 (by decide) (by decide)]; exact hs.1
  · rw [lo 1 (by decide) (by decide)]; exact hs.2.1
  · rw [lo 7 (by decide) (by decide)]; exact hs.2.2.1
  · rw [e50]; omega
  · rw [lo 0 (by decide) (by decide)] at b
    rw [of g 5 a (by omega) (by decide) (by decide), of g 4 a (by omega) (by decide) (by decide)]
    exact hs.2.2.2.2.1 g a b
  · rw [lo 1 (by decide) (by decide)] at b
    rw [it u 0 a (by omega) (by decide) (by decide), it u 1 a (by omega) (by decide) (by decide), lo 0 (by decide) (by decide)]
    exact hs.2.2.2.2.2 u a b
  · rw [of 0 5 (by decide) (by decide) (by decide) (by decide)]; exact hd.2.1.1
  · rw [lo 0 (by decide) (by decide)] at b
    rw [of g 5 (by omega) (by omega) (by decide) (by decide)]
    exact hd.2.1.2 g a b
  · rw [lo 0 (by decide) (by decide)] at b
    rw [of g 0 a (by omega) (by decide) (by decide), of g 1 a (by omega) (by decide) (by decide), of g 2 a (by omega) (by decide) (by decide), of g 3 a (by omega) (by decide) (by decide), of g 6 a (by omega) (by decide) (by decide), of g 9 a (by omega) (by decide) (by decide)]
    exact hd.2.2.1 g a b
  · rw [lo 1 (by decide) (by decide)] at b
    rw [it u 2 a (by omega) (by decide) (by decide)]
    exact hd.2.2.2.1 u a b
  · rw [lo 2 (by decide) (by decide), lo 3 (by decide) (by decide), n4, wr_id ⟨by omega, by omega⟩]
    exact ⟨hcn.1, hcn.2.1, hcn.2.2.1, hcn.2.2.2.1, by omega, h4, hcn.2.2.2.2.2.2⟩
  · by_cases z : j = (if s 5 = 8 then 7 else s 5)
    · rw [z, new.2.2.2.1]; exact hm
    · rw [old j 3 a (by decide) (by omega)]
      refine hd.2.2.2.2.2 _ ?_ ?_
      · split <;> omega
      · rw [n5] at b
        split <;> split at b <;> omega
  · rw [lo 0 (by decide) (by decide)] at b
    exact hk g a b

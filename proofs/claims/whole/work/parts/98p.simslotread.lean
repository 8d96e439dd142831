/-! THE SIMULATION: what a slot's frames say -/
theorem RelK.slotTo {s : Int → Int} {S : Nat → Int → Int} {R : Nat → List FV} {g f : Int} (h : RelK s S R g) (hS : SortS (kR R g)) (hl : 0 < (kR R g).length) (i7 : inR7 s f) (hf : rIn s f g (gt (kR R g) 0 2)) : ∃ i : Int, (0 ≤ i ∧ i < cEnd (kR R g) 0) ∧ FrK s f (gt (kR R g) i) := by
  obtain ⟨i, hi, e⟩ := h.to i7.1 i7.2 ⟨hf.1, hf.2.1⟩
  have := ((SlSt.zero hl).run hS hi.1 hi.2).mp (by rw [e.2.2.1]; exact hf.2.2)
  exact ⟨i, this, e⟩
theorem RelK.slotOf {s : Int → Int} {S : Nat → Int → Int} {R : Nat → List FV} {g i : Int} (h : RelK s S R g) (hl : 0 < (kR R g).length) (h0 : 0 ≤ i) (h1 : i < cEnd (kR R g) 0) : ∃ f, inR7 s f ∧ rIn s f g (gt (kR R g) 0 2) ∧ FrK s f (gt (kR R g) i) := by
  have r := cEnd_rng (L := kR R g) (st := 0) (by omega) (by omega)
  obtain ⟨f, hf, k, e⟩ := h.of h0 (by omega)
  exact ⟨f, hf, ⟨k.1, k.2, by rw [← e.2.2.1]; exact cEnd_in (by omega) h0 h1⟩, e⟩
def putR (v : FV) (u : Int) (r : Option (Int × Int)) : FV := match r with
  | none => v
  | some q => fPut v u q.1 q.2
theorem fPut_i {v : FV} {u x f : Int} (hu : 0 ≤ u ∧ u < 10) : fPut (fPut v u x f) u x f = fPut v u x f := by
  have e5 : fPut v u x f 5 = oOr (v 5) (oShl 1 u) := by
    unfold fPut
    rw [ups_ne (by omega), ups_ne (by omega), ups_eq rfl]
  funext k
  by_cases q : k = 16 + u
  · subst q; unfold fPut; rw [ups_eq rfl, ups_eq rfl]
  · by_cases q2 : k = 6 + u
    · subst q2; unfold fPut; rw [ups_ne (by omega), ups_eq rfl, ups_ne (by omega), ups_eq rfl]
    · by_cases q3 : k = 5
      · subst q3
        rw [e5]
        show ups (ups (ups (fPut v u x f) 5 (oOr (fPut v u x f 5) (oShl 1 u))) (6 + u) x) (16 + u) f 5 = _
        rw [ups_ne (by omega), ups_ne (by omega), ups_eq rfl, e5, oOr_i]
      · show ups (ups (ups (fPut v u x f) 5 (oOr (fPut v u x f 5) (oShl 1 u))) (6 + u) x) (16 + u) f k = _
        rw [ups_ne q, ups_ne q2, ups_ne q3]
theorem FmI.uniq {s : Int → Int} {t : Int} {O : List (Int × Int)} (h : FmI s t O) {f e g sl : Int} (hf : inR7 s f) (he : inR7 s e) (kf : rIn s f g sl) (ke : rIn s e g sl) (h2 : rFr s f 2 = rFr s e 2) (h3 : rFr s f 3 = rFr s e 3) : f = e := h.2.2.2.1 f e hf he kf.1 ke.1 h2 h3
theorem FmI.kid {s : Int → Int} {t : Int} {O : List (Int × Int)} (h : FmI s t O) {f g sl : Int} (hf : inR7 s f) (kf : rIn s f g sl) : 0 ≤ rFr s f 2 ∧ rFr s f 2 < 15 := (h.1 f hf (by rw [kf.1]; decide)).2.1.r15
theorem cStF_is {s : Int → Int} {t : Int} {O : List (Int × Int)} {S : Nat → Int → Int} {R : Nat → List FV} {g c u : Int} {r : Option (Int × Int)} {v : FV} (hK : RelK s S R g) (hF : FmI s t O) (hS : SortS (kR R g)) (hl : 0 < (kR R g).length) (hc : 0 ≤ c ∧ c < 15) (hu : 0 ≤ u ∧ u < 10) (hr : RPlain s g u c (gt (kR R g) 0 2) r) : cStF (kR R g) (kid c) (gt (kR R g) 0 2) u (cEnd (kR R g) 0) v = putR v u r := by
  have re := cEnd_rng (L := kR R g) (st := 0) (by omega) (by omega)
  have toP : ∀ i : Int, 0 ≤ i → i < cEnd (kR R g) 0 → cM1 (kR R g) (kid c) (gt (kR R g) 0 2) u i → ∃ f, inR7 s f ∧ rPM s g u c (gt (kR R g) 0 2) f ∧ gt (kR R g) i (6 + u) = rFr s f (7 + u) ∧ gt (kR R g) i (16 + u) = rFr s f (17 + u) := fun i a b m => by
    obtain ⟨f, i7, k, e⟩ := hK.slotOf hl a b
    have p := e.2.2.2.2.2 u hu.1 hu.2 m.2.2
    refine ⟨f, i7, ⟨k, kid_in (hF.kid i7 k) hc (e.1.symm.trans m.1), e.2.1.symm.trans m.2.1, ?_⟩, p⟩
    have := m.2.2
    rw [← e.2.2.2.2.1]
    exact this
  unfold cStF
  rcases hr with ⟨rfl, hn⟩ | ⟨f, a, b, pm, rfl⟩
  · refine fI_ind (fun _ x => x = putR v u none) (by omega) rfl (fun i x h0 h1 ih => ?_)
    rw [cif_f (fun m => ?_)]
    · exact ih
    · obtain ⟨f, i7, p, _⟩ := toP i h0 h1 m
      exact hn f i7.1 i7.2 p
  · obtain ⟨i0, hi0, e0⟩ := hK.slotTo hS hl ⟨a, b⟩ pm.1
    have m0 : cM1 (kR R g) (kid c) (gt (kR R g) 0 2) u i0 := ⟨by rw [e0.1, pm.2.1], by rw [e0.2.1, pm.2.2.1], by
      show rBit (gt (kR R g) i0 5) u
      rw [e0.2.2.2.2.1]; exact pm.2.2.2⟩
    have key := fI_ind (n := cEnd (kR R g) 0) (g := fun i x => cif (cM1 (kR R g) (kid c) (gt (kR R g) 0 2) u i) (fPut x u (gt (kR R g) i (6 + u)) (gt (kR R g) i (16 + u))) x) (a := v) (fun n x => (x = v ∧ ∀ i, 0 ≤ i → i < n → ¬ cM1 (kR R g) (kid c) (gt (kR R g) 0 2) u i) ∨ x = fPut v u (rFr s f (7 + u)) (rFr s f (17 + u))) (by omega) (Or.inl ⟨rfl, fun i p q => by omega⟩) (fun i x h0 h1 ih => by
      by_cases m : cM1 (kR R g) (kid c) (gt (kR R g) 0 2) u i
      · rw [cif_t m]
        obtain ⟨f', i7, p, q1, q2⟩ := toP i h0 h1 m
        have ef : f' = f := hF.uniq i7 ⟨a, b⟩ p.1 pm.1 (p.2.1.trans pm.2.1.symm) (p.2.2.1.trans pm.2.2.1.symm)
        rw [q1, q2, ef]
        right
        rcases ih with ⟨e, _⟩ | e
        · rw [e]
        · rw [e, fPut_i hu]
      · rw [cif_f m]
        rcases ih with ⟨e, z⟩ | e
        · refine Or.inl ⟨e, fun j p q => ?_⟩
          by_cases ej : j = i
          · rw [ej]; exact m
          · exact z j p (by omega)
        · exact Or.inr e)
    rcases key with ⟨_, z⟩ | e
    · exact absurd m0 (z i0 hi0.1 hi0.2)
    · exact e
theorem L2.map {α β γ : Type} {r : α → β → Prop} {p : α → γ} {q : β → γ} : ∀ {l : List α} {m : List β}, L2 r l m → (∀ a, a ∈ l → ∀ b, b ∈ m → r a b → p a = q b) → l.map p = m.map q
  | [], [], _, _ => rfl
  | a :: l, b :: m, h, k => by
    rw [List.map_cons, List.map_cons, k a List.mem_cons_self b List.mem_cons_self h.1, L2.map (l := l) (m := m) h.2 (fun x hx y hy => k x (List.mem_cons_of_mem _ hx) y (List.mem_cons_of_mem _ hy))]
  | [], _ :: _, h, _ => h.elim
  | _ :: _, [], h, _ => h.elim
theorem gath_is {s : Int → Int} {g u c sl al n : Int} (hn : 0 ≤ n) : rGath s g u c sl al n = (irP n (rGT s g u c sl al)).map (fun f => (rFr s f (7 + u), rFr s f (17 + u))) := by
  unfold rGath
  refine fI_ind (fun n x => x = (irP n (rGT s g u c sl al)).map (fun f => (rFr s f (7 + u), rFr s f (17 + u)))) hn rfl (fun i x h0 h1 ih => ?_)
  unfold irP at ih ⊢
  rw [ir_succ h0, List.filter_append, List.map_append, ← ih]
  by_cases q : rGT s g u c sl al i
  · rw [cif_t q, List.filter_cons_of_pos (pd_t.mpr q)]; rfl
  · rw [cif_f q, List.filter_cons_of_neg (by rw [pd_f.mpr q]; decide)]
    exact (List.append_nil x).symm
theorem pick_is {L : List FV} {q : FV → Prop} {p : FV → Int × Int} : ∀ n : Nat, n ≤ L.length → fI (n : Int) (fun i P => cif (q (gt L i)) (P ++ [p (gt L i)]) P) [] = ((L.take n).filter (pd q)).map p
  | 0, _ => rfl
  | n + 1, hn => by
    have e : gt L (n : Int) = L[n]'(by omega) := gt_nat (by omega)
    rw [show ((n + 1 : Nat) : Int) = (n : Int) + 1 by omega, fI_succ (by omega), pick_is n (by omega), List.take_succ_eq_append_getElem (by omega), List.filter_append, List.map_append, ← e]
    by_cases z : q (gt L (n : Int))
    · rw [cif_t z, List.filter_cons_of_pos (pd_t.mpr z)]; rfl
    · rw [cif_f z, List.filter_cons_of_neg (by rw [pd_f.mpr z]; decide)]
      exact (List.append_nil _).symm
theorem take_slot {L : List FV} (hS : SortS L) (hl : 0 < L.length) : (∀ v, v ∈ L.take (cEnd L 0).toNat → v 2 = gt L 0 2) ∧ ∀ v, v ∈ L.drop (cEnd L 0).toNat → ¬ v 2 = gt L 0 2 := by
  have r := cEnd_rng (L := L) (st := 0) (by omega) (by omega)
  refine ⟨fun v hv => ?_, fun v hv => ?_⟩
  · obtain ⟨j, hj, e⟩ := List.getElem_of_mem hv
    rw [List.length_take] at hj
    rw [← e, List.getElem_take, ← gt_nat (by omega)]
    exact cEnd_in (by omega) (by omega) (by omega)
  · obtain ⟨j, hj, e⟩ := List.getElem_of_mem hv
    rw [List.length_drop] at hj
    rw [← e, List.getElem_drop, ← gt_nat (by omega)]
    have := cEnd_out (i := (((cEnd L 0).toNat + j : Nat) : Int)) hS (Int.le_refl 0) (by omega) (by omega)
    omega
theorem pick_perm {s : Int → Int} {t : Int} {O : List (Int × Int)} {S : Nat → Int → Int} {R : Nat → List FV} {g c u al : Int} {ov : Prop} (hs7 : 0 ≤ s 7) (hK : RelK s S R g) (hF : FmI s t O) (hS : SortS (kR R g)) (hl : 0 < (kR R g).length) (hc : 0 ≤ c ∧ c < 15) (hu : 0 ≤ u ∧ u < 10) (hov : ov ↔ al = 0) : (cPick (kR R g) (kid c) u ov (cEnd (kR R g) 0)).Perm (rGath s g u c (gt (kR R g) 0 2) al (s 7)) := by
  have re := cEnd_rng (L := kR R g) (st := 0) (by omega) (by omega)
  have ts := take_slot hS hl
  obtain ⟨_, J, ⟨hJ, hm⟩, hL⟩ := RelK.iff.mp hK
  have e1 : cPick (kR R g) (kid c) u ov (cEnd (kR R g) 0) = (((kR R g).take (cEnd (kR R g) 0).toNat).filter (pd fun v => (v 0 = kid c ∧ fHas v u) ∧ (ov → oAnd (v (16 + u)) 1 = 0))).map (fun v => (v (6 + u), v (16 + u))) := by
    have := pick_is (L := kR R g) (q := fun v => (v 0 = kid c ∧ fHas v u) ∧ (ov → oAnd (v (16 + u)) 1 = 0)) (p := fun v => (v (6 + u), v (16 + u))) (cEnd (kR R g) 0).toNat (by omega)
    rw [show ((cEnd (kR R g) 0).toNat : Int) = cEnd (kR R g) 0 by omega] at this
    exact this
  have e2 : ((kR R g).take (cEnd (kR R g) 0).toNat).filter (pd fun v => (v 0 = kid c ∧ fHas v u) ∧ (ov → oAnd (v (16 + u)) 1 = 0)) = (kR R g).filter (pd fun v => v 2 = gt (kR R g) 0 2 ∧ (v 0 = kid c ∧ fHas v u) ∧ (ov → oAnd (v (16 + u)) 1 = 0)) := by
    conv => rhs; rw [← List.take_append_drop (cEnd (kR R g) 0).toNat (kR R g)]
    rw [List.filter_append]
    have z : ((kR R g).drop (cEnd (kR R g) 0).toNat).filter (pd fun v => v 2 = gt (kR R g) 0 2 ∧ (v 0 = kid c ∧ fHas v u) ∧ (ov → oAnd (v (16 + u)) 1 = 0)) = [] := List.filter_eq_nil_iff.mpr (fun v hv q => ts.2 v hv (pd_t.mp q).1)
    rw [List.take_append_drop, z, List.append_nil]
    refine List.filter_congr (fun v hv => ?_)
    by_cases q : (v 0 = kid c ∧ fHas v u) ∧ (ov → oAnd (v (16 + u)) 1 = 0)
    · exact (pd_t.mpr q).trans (pd_t.mpr ⟨ts.1 v hv, q⟩).symm
    · exact (pd_f.mpr q).trans (pd_f.mpr (fun z => q z.2)).symm
  have iff1 : ∀ f, f ∈ J → ∀ v, v ∈ kR R g → FrK s f v → (rGT s g u c (gt (kR R g) 0 2) al f ↔ (v 2 = gt (kR R g) 0 2 ∧ (v 0 = kid c ∧ fHas v u) ∧ (ov → oAnd (v (16 + u)) 1 = 0))) := fun f hf v hv e => by
    have mk := (hm f).mp hf
    have cf := (hF.1 f mk.1 (by rw [mk.2.1]; decide)).2.1.r15
    have eb : fHas v u ↔ rBit (rFr s f 6) u := by show rBit (v 5) u ↔ _; rw [e.2.2.2.2.1]
    constructor
    · rintro ⟨⟨a, b, d⟩, x⟩
      have hb := eb.mpr d
      refine ⟨by rw [e.2.2.1]; exact a.2.2, ⟨by rw [e.1, b], hb⟩, fun y => ?_⟩
      rw [(e.2.2.2.2.2 u hu.1 hu.2 hb).2]
      rcases x with x | x
      · exact absurd (hov.mp y) x
      · exact x
    · rintro ⟨a, ⟨b, d⟩, x⟩
      refine ⟨⟨⟨mk.2.1, mk.2.2, by rw [← e.2.2.1]; exact a⟩, kid_in cf hc (e.1.symm.trans b), eb.mp d⟩, ?_⟩
      by_cases y : al = 0
      · right
        rw [← (e.2.2.2.2.2 u hu.1 hu.2 d).2]
        exact x (hov.mpr y)
      · exact Or.inl y
  have hf2 := hL.filter (p := pd (rGT s g u c (gt (kR R g) 0 2) al)) (q := pd fun v => v 2 = gt (kR R g) 0 2 ∧ (v 0 = kid c ∧ fHas v u) ∧ (ov → oAnd (v (16 + u)) 1 = 0)) (fun f hf v hv e => by
    have i := iff1 f hf v hv e
    by_cases q : rGT s g u c (gt (kR R g) 0 2) al f
    · exact (pd_t.mpr q).trans (pd_t.mpr (i.mp q)).symm
    · exact (pd_f.mpr q).trans (pd_f.mpr (fun z => q (i.mpr z))).symm)
  have e3 := hf2.map (p := fun f => (rFr s f (7 + u), rFr s f (17 + u))) (q := fun v => (v (6 + u), v (16 + u))) (fun f hf v hv e => by
    have hb := (pd_t.mp (List.mem_filter.mp hv).2).2.1.2
    have := e.2.2.2.2.2 u hu.1 hu.2 hb
    rw [this.1, this.2])
  rw [e1, e2, ← e3, gath_is hs7]
  refine List.Perm.map _ ?_
  refine (List.perm_ext_iff_of_nodup (List.Pairwise.filter _ hJ) irP_nodup).mpr (fun f => ?_)
  rw [List.mem_filter, pd_t, hm f, irP_mem]
  constructor
  · rintro ⟨a, b⟩; exact ⟨a.1, b⟩
  · rintro ⟨a, b⟩; exact ⟨⟨a, b.1.1.1, b.1.1.2.1⟩, b⟩
theorem cFlF_is {s : Int → Int} {t : Int} {O : List (Int × Int)} {S : Nat → Int → Int} {R : Nat → List FV} {g c u : Int} {v : FV} (hR : Rel s S R) (hg : 0 ≤ g ∧ g < s 0) (hs7 : 0 ≤ s 7) (hF : FmI s t O) (hS : SortS (kR R g)) (hl : 0 < (kR R g).length) (hc : kidOK s c) (hu : 0 ≤ u ∧ u < 10) (hv : v 1 = gt (kR R g) 0 2) : cFlF S (kR R g) g (kid c) u (cEnd (kR R g) 0) v = putR v u (rFilt s g u c (gt (kR R g) 0 2)) := by
  have hK := (hR.2.1 g hg.1 hg.2).2
  have pp : (cPick (kR R g) (kid c) u (cVal (kR R g) (kid c) u (cEnd (kR R g) 0)) (cEnd (kR R g) 0)).Perm (rPick s g u c (gt (kR R g) 0 2)) := by
    have v0 : cVal (kR R g) (kid c) u (cEnd (kR R g) 0) ↔ ¬ rGath s g u c (gt (kR R g) 0 2) 0 (s 7) = [] := by
      have p0 := pick_perm (ov := True) (al := 0) hs7 hK hF hS hl hc.r15 hu ⟨fun _ => rfl, fun _ => trivial⟩
      have re := cEnd_rng (L := kR R g) (st := 0) (by omega) (by omega)
      have e1 : cPick (kR R g) (kid c) u True (cEnd (kR R g) 0) = (((kR R g).take (cEnd (kR R g) 0).toNat).filter (pd fun v => (v 0 = kid c ∧ fHas v u) ∧ (True → oAnd (v (16 + u)) 1 = 0))).map (fun v => (v (6 + u), v (16 + u))) := by
        have := pick_is (L := kR R g) (q := fun v => (v 0 = kid c ∧ fHas v u) ∧ (True → oAnd (v (16 + u)) 1 = 0)) (p := fun v => (v (6 + u), v (16 + u))) (cEnd (kR R g) 0).toNat (by omega)
        rw [show ((cEnd (kR R g) 0).toNat : Int) = cEnd (kR R g) 0 by omega] at this
        exact this
      rw [e1] at p0
      constructor
      · rintro ⟨i, a, b, m, d⟩ z
        rw [z] at p0
        have nil := List.map_eq_nil_iff.mp p0.eq_nil
        have ht : gt (kR R g) i ∈ (kR R g).take (cEnd (kR R g) 0).toNat := by
          have : gt ((kR R g).take (cEnd (kR R g) 0).toNat) ((i.toNat : Nat) : Int) = gt (kR R g) ((i.toNat : Nat) : Int) := gt_take (by omega)
          rw [show ((i.toNat : Nat) : Int) = i by omega] at this
          rw [← this]
          exact gt_mem a (by rw [List.length_take]; omega)
        exact List.filter_eq_nil_iff.mp nil _ ht (pd_t.mpr ⟨m, fun _ => d⟩)
      · intro z
        have ne : ((kR R g).take (cEnd (kR R g) 0).toNat).filter (pd fun v => (v 0 = kid c ∧ fHas v u) ∧ (True → oAnd (v (16 + u)) 1 = 0)) ≠ [] := fun y => by
          rw [y] at p0
          exact z p0.symm.eq_nil
        obtain ⟨w, hw⟩ := List.exists_mem_of_ne_nil _ ne
        obtain ⟨h1, h2⟩ := List.mem_filter.mp hw
        obtain ⟨i, a, b, e⟩ := mem_gt h1
        rw [List.length_take] at b
        have : gt ((kR R g).take (cEnd (kR R g) 0).toNat) ((i.toNat : Nat) : Int) = gt (kR R g) ((i.toNat : Nat) : Int) := gt_take (by omega)
        rw [show ((i.toNat : Nat) : Int) = i by omega] at this
        have h2 := pd_t.mp h2
        rw [← e, this] at h2
        exact ⟨i, a, by omega, h2.1, h2.2 trivial⟩
    unfold rPick
    by_cases q : rGath s g u c (gt (kR R g) 0 2) 0 (s 7) = []
    · rw [cif_t q]
      exact pick_perm hs7 hK hF hS hl hc.r15 hu ⟨fun z => absurd q (v0.mp z), fun z => absurd z (by decide)⟩
    · rw [cif_f q]
      exact pick_perm hs7 hK hF hS hl hc.r15 hu ⟨fun _ => rfl, fun _ => v0.mpr q⟩
  unfold cFlF rFilt
  generalize cPick (kR R g) (kid c) u (cVal (kR R g) (kid c) u (cEnd (kR R g) 0)) (cEnd (kR R g) 0) = P at pp
  generalize rPick s g u c (gt (kR R g) 0 2) = Q at pp
  by_cases q : Q = []
  · rw [cif_t q, cif_t (by rw [q] at pp; exact pp.eq_nil)]
    rfl
  · rw [cif_f q, cif_f (fun z => by rw [z] at pp; exact q pp.symm.eq_nil)]
    show fPut _ _ _ _ = fPut _ _ _ _
    have hv1 : cFV S g P = rFVal s g Q := by
      unfold cFV rFVal
      rw [← hR.cs (k := 2) hg (by decide), lsum_perm (pp.map _), pp.length_eq, rMed_perm (pp.map _)]
    have hv2 : cFF S g (kid c) (v 1) P = rFFlag s g c (gt (kR R g) 0 2) Q := by
      unfold cFF rFFlag
      rw [pFl_is, orAll_perm (pp.map _), pp.length_eq, hv, hR.exp hg hc]
    rw [hv1, hv2]

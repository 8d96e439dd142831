/-! THE SIMULATION: rows that change -/
def inR7 (s : Int → Int) (f : Int) : Prop := 0 ≤ f ∧ f < s 7
def mK (s : Int → Int) (g f : Int) : Prop := inR7 s f ∧ isK s g f
def mW (s : Int → Int) (f : Int) : Prop := inR7 s f ∧ isW s f
theorem irP_perm {n : Int} {p : Int → Prop} {J : List Int} : J.Perm (irP n p) ↔ J.Nodup ∧ ∀ f, f ∈ J ↔ (0 ≤ f ∧ f < n) ∧ p f := by
  constructor
  · intro h
    exact ⟨h.nodup_iff.mpr irP_nodup, fun f => by rw [h.mem_iff, irP_mem]⟩
  · rintro ⟨a, b⟩
    exact (List.perm_ext_iff_of_nodup a irP_nodup).mpr (fun f => by rw [b f, irP_mem])
theorem RelK.iff {s : Int → Int} {S : Nat → Int → Int} {R : Nat → List FV} {g : Int} : RelK s S R g ↔ cZ S g = ((kR R g).length : Nat) ∧ ∃ J : List Int, (J.Nodup ∧ ∀ f, f ∈ J ↔ mK s g f) ∧ L2 (FrK s) J (kR R g) := by
  unfold RelK
  constructor
  · rintro ⟨a, J, b, c⟩
    exact ⟨a, J, irP_perm.mp b, c⟩
  · rintro ⟨a, J, b, c⟩
    exact ⟨a, J, irP_perm.mpr b, c⟩
/-- the frames on their way are L, in order of their numbers -/
def RelV (s : Int → Int) (L : List FV) : Prop := ∃ W : List Int, (W.Nodup ∧ ∀ f, f ∈ W ↔ mW s f) ∧ W.Pairwise (fun a b => rFr s a 5 < rFr s b 5) ∧ L2 (FrW s) W L
theorem RelW.iff {s : Int → Int} {S : Nat → Int → Int} {R : Nat → List FV} : RelW s S R ↔ cW S = ((R 3).length : Nat) ∧ RelV s (R 3) := by
  unfold RelW RelV
  constructor
  · rintro ⟨a, J, b, c⟩
    exact ⟨a, J, irP_perm.mp b, c⟩
  · rintro ⟨a, J, b, c⟩
    exact ⟨a, J, irP_perm.mpr b, c⟩
def FrSame (s s' : Int → Int) (f : Int) : Prop := ∀ w, 0 ≤ w → w < 27 → rFr s' f w = rFr s f w
theorem PayR.to {s s' : Int → Int} {f : Int} {v : FV} (e : FrSame s s' f) (h : PayR s f v) : PayR s' f v := by
  refine ⟨h.1.trans (e 6 (by decide) (by decide)).symm, fun u h0 h1 hb => ?_⟩
  have q := h.2 u h0 h1 hb
  exact ⟨q.1.trans (e _ (by omega) (by omega)).symm, q.2.trans (e _ (by omega) (by omega)).symm⟩
theorem FrK.to {s s' : Int → Int} {f : Int} {v : FV} (e : FrSame s s' f) (h : FrK s f v) : FrK s' f v :=
  ⟨by rw [e 2 (by decide) (by decide)]; exact h.1, by rw [e 3 (by decide) (by decide)]; exact h.2.1, by rw [e 4 (by decide) (by decide)]; exact h.2.2.1, by rw [e 5 (by decide) (by decide)]; exact h.2.2.2.1, h.2.2.2.2.to e⟩
theorem FrW.to {s s' : Int → Int} {f : Int} {v : FV} (e : FrSame s s' f) (h : FrW s f v) : FrW s' f v :=
  ⟨by rw [e 2 (by decide) (by decide)]; exact h.1, by rw [e 3 (by decide) (by decide)]; exact h.2.1, by rw [e 4 (by decide) (by decide)]; exact h.2.2.1, h.2.2.2.to e⟩
/-- all frames but those of D stay as they are -/
def OthP (s s' : Int → Int) (D : Int → Prop) : Prop := ∀ f, ¬ D f → (inR7 s' f ↔ inR7 s f) ∧ (inR7 s f → FrSame s s' f)
theorem OthP.K {s s' : Int → Int} {D : Int → Prop} (h : OthP s s' D) {f g : Int} (hf : ¬ D f) : mK s' g f ↔ mK s g f := by
  obtain ⟨a, b⟩ := h f hf
  unfold mK isK
  constructor
  · rintro ⟨x, y, z⟩
    have e := b (a.mp x)
    exact ⟨a.mp x, by rw [← e 0 (by decide) (by decide)]; exact y, by rw [← e 1 (by decide) (by decide)]; exact z⟩
  · rintro ⟨x, y, z⟩
    have e := b x
    exact ⟨a.mpr x, by rw [e 0 (by decide) (by decide)]; exact y, by rw [e 1 (by decide) (by decide)]; exact z⟩
theorem OthP.W {s s' : Int → Int} {D : Int → Prop} (h : OthP s s' D) {f : Int} (hf : ¬ D f) : mW s' f ↔ mW s f := by
  obtain ⟨a, b⟩ := h f hf
  unfold mW isW
  constructor
  · rintro ⟨x, y⟩
    have e := b (a.mp x)
    exact ⟨a.mp x, by rw [← e 0 (by decide) (by decide)]; exact y⟩
  · rintro ⟨x, y⟩
    have e := b x
    exact ⟨a.mpr x, by rw [e 0 (by decide) (by decide)]; exact y⟩
theorem L2.take {α β : Type} {r : α → β → Prop} : ∀ (n : Nat) {l : List α} {m : List β}, L2 r l m → L2 r (l.take n) (m.take n)
  | 0, _, _, _ => trivial
  | _ + 1, [], [], _ => trivial
  | n + 1, _ :: l, _ :: m, h => ⟨h.1, L2.take n (l := l) (m := m) h.2⟩
  | _ + 1, [], _ :: _, h => h.elim
  | _ + 1, _ :: _, [], h => h.elim
theorem L2.drop {α β : Type} {r : α → β → Prop} : ∀ (n : Nat) {l : List α} {m : List β}, L2 r l m → L2 r (l.drop n) (m.drop n)
  | 0, _, _, h => h
  | _ + 1, [], [], _ => trivial
  | n + 1, _ :: l, _ :: m, h => L2.drop n (l := l) (m := m) h.2
  | _ + 1, [], _ :: _, h => h.elim
  | _ + 1, _ :: _, [], h => h.elim
theorem L2.split {α β : Type} {r : α → β → Prop} {v : β} {B : List β} : ∀ {A : List β} {l : List α}, L2 r l (A ++ v :: B) → ∃ A' f B', l = A' ++ f :: B' ∧ L2 r A' A ∧ r f v ∧ L2 r B' B
  | [], f :: l, h => ⟨[], f, l, rfl, trivial, h.1, h.2⟩
  | [], [], h => h.elim
  | a :: A, x :: l, h => by
    obtain ⟨A', f, B', e, p, q, t⟩ := L2.split (A := A) (l := l) h.2
    exact ⟨x :: A', f, B', by rw [e]; rfl, ⟨h.1, p⟩, q, t⟩
  | _ :: _, [], h => h.elim
theorem RelK.keep {s s' : Int → Int} {S S' : Nat → Int → Int} {R R' : Nat → List FV} {g : Int} {D : Int → Prop} (h : RelK s S R g) (ho : OthP s s' D) (hd : ∀ f, D f → ¬ mK s g f ∧ ¬ mK s' g f) (hz : cZ S' g = cZ S g) (hr : kR R' g = kR R g) : RelK s' S' R' g := by
  obtain ⟨hc, J, ⟨hJ, hm⟩, hl⟩ := RelK.iff.mp h
  refine RelK.iff.mpr ⟨by rw [hz, hr]; exact hc, J, ⟨hJ, fun f => ?_⟩, ?_⟩
  · rw [hm f]
    by_cases q : D f
    · exact ⟨fun x => absurd x (hd f q).1, fun x => absurd x (hd f q).2⟩
    · exact (ho.K q).symm
  · rw [hr]
    refine hl.mono (fun f hf v _ k => ?_)
    have m := (hm f).mp hf
    exact k.to ((ho f (fun q => (hd f q).1 m)).2 m.1)
theorem RelK.ins {s s' : Int → Int} {S S' : Nat → Int → Int} {R R' : Nat → List FV} {g f x : Int} {v : FV} (h : RelK s S R g) (ho : OthP s s' (fun q => q = f)) (h0 : ¬ mK s g f) (h1 : mK s' g f) (hv : FrK s' f v) (hz : cZ S' g = cZ S g + 1) (hr : kR R' g = insA (kR R g) x v) : RelK s' S' R' g := by
  obtain ⟨hc, J, ⟨hJ, hm⟩, hl⟩ := RelK.iff.mp h
  have hfJ : f ∉ J := fun q => h0 ((hm f).mp q)
  have hl' : L2 (FrK s') J (kR R g) := hl.mono (fun y hy w _ k => by
    have m := (hm y).mp hy
    exact k.to ((ho y (fun q => h0 (q ▸ m))).2 m.1))
  refine RelK.iff.mpr ⟨?_, J.take x.toNat ++ f :: J.drop x.toNat, ⟨?_, fun y => ?_⟩, ?_⟩
  · rw [hz, hr, hc]
    have : (insA (kR R g) x v).length = (kR R g).length + 1 := by
      unfold insA
      have := congrArg List.length (List.take_append_drop x.toNat (kR R g))
      rw [List.length_append] at this
      rw [List.length_append, List.length_cons]
      omega
    omega
  · refine (List.perm_middle.nodup_iff).mpr ?_
    rw [List.take_append_drop]
    exact List.nodup_cons.mpr ⟨hfJ, hJ⟩
  · rw [List.perm_middle.mem_iff, List.take_append_drop, List.mem_cons, hm y]
    by_cases q : y = f
    · subst q; exact ⟨fun _ => h1, fun _ => Or.inl rfl⟩
    · rw [ho.K q]
      exact ⟨fun e => e.resolve_left q, Or.inr⟩
  · rw [hr]
    unfold insA
    exact (hl'.take _).app ⟨hv, hl'.drop _⟩
theorem RelK.cut {s s' : Int → Int} {S S' : Nat → Int → Int} {R R' : Nat → List FV} {g sl e : Int} {D : Int → Prop} (h : RelK s S R g) (ho : OthP s s' D) (hD : ∀ f, D f → ¬ mK s' g f) (hD2 : ∀ f, mK s g f → (D f ↔ rFr s f 4 = sl)) (h1 : ∀ v, v ∈ (kR R g).take e.toNat → v 2 = sl) (h2 : ∀ v, v ∈ (kR R g).drop e.toNat → ¬ v 2 = sl) (hr : kR R' g = (kR R g).drop e.toNat) (hz : cZ S' g = (((kR R g).drop e.toNat).length : Nat)) : RelK s' S' R' g := by
  obtain ⟨hc, J, ⟨hJ, hm⟩, hl⟩ := RelK.iff.mp h
  have t1 : ∀ f, f ∈ J.take e.toNat → D f := fun f hf => by
    obtain ⟨v, hv, k⟩ := (hl.take e.toNat).left f hf
    refine (hD2 f ((hm f).mp (List.mem_of_mem_take hf))).mpr ?_
    rw [← k.2.2.1]; exact h1 v hv
  have t2 : ∀ f, f ∈ J.drop e.toNat → ¬ D f := fun f hf q => by
    obtain ⟨v, hv, k⟩ := (hl.drop e.toNat).left f hf
    refine h2 v hv ?_
    rw [k.2.2.1]
    exact (hD2 f ((hm f).mp (List.mem_of_mem_drop hf))).mp q
  refine RelK.iff.mpr ⟨by rw [hz, hr], J.drop e.toNat, ⟨hJ.sublist (List.drop_sublist _ _), fun f => ?_⟩, ?_⟩
  · constructor
    · intro hf
      exact (ho.K (t2 f hf)).mpr ((hm f).mp (List.mem_of_mem_drop hf))
    · intro k
      have nd : ¬ D f := fun q => hD f q k
      have hf := (hm f).mpr ((ho.K nd).mp k)
      rw [← List.take_append_drop e.toNat J, List.mem_append] at hf
      rcases hf with hf | hf
      · exact absurd (t1 f hf) nd
      · exact hf
  · rw [hr]
    refine (hl.drop e.toNat).mono (fun f hf v _ k => ?_)
    have m := (hm f).mp (List.mem_of_mem_drop hf)
    exact k.to ((ho f (t2 f hf)).2 m.1)
theorem RelV.keep {s s' : Int → Int} {L : List FV} {D : Int → Prop} (h : RelV s L) (ho : OthP s s' D) (hd : ∀ f, D f → ¬ mW s f ∧ ¬ mW s' f) : RelV s' L := by
  obtain ⟨W, ⟨hJ, hm⟩, hs, hl⟩ := h
  have nd : ∀ f, f ∈ W → ¬ D f := fun f hf q => (hd f q).1 ((hm f).mp hf)
  have sm : ∀ f, f ∈ W → FrSame s s' f := fun f hf => (ho f (nd f hf)).2 ((hm f).mp hf).1
  refine ⟨W, ⟨hJ, fun f => ?_⟩, ?_, ?_⟩
  · rw [hm f]
    by_cases q : D f
    · exact ⟨fun x => absurd x (hd f q).1, fun x => absurd x (hd f q).2⟩
    · exact (ho.W q).symm
  · refine List.Pairwise.imp_of_mem (fun {a b} ha hb k => ?_) hs
    rw [sm a ha 5 (by decide) (by decide), sm b hb 5 (by decide) (by decide)]
    exact k
  · exact hl.mono (fun f hf v _ k => k.to (sm f hf))
theorem RelV.snoc {s s' : Int → Int} {L : List FV} {f : Int} {v : FV} (h : RelV s L) (ho : OthP s s' (fun q => q = f)) (h0 : ¬ mW s f) (h1 : mW s' f) (hn : ∀ y, mW s y → rFr s y 5 < rFr s' f 5) (hv : FrW s' f v) : RelV s' (L ++ [v]) := by
  obtain ⟨W, ⟨hJ, hm⟩, hs, hl⟩ := h
  have nd : ∀ y, y ∈ W → ¬ y = f := fun y hy q => h0 (q ▸ (hm y).mp hy)
  have sm : ∀ y, y ∈ W → FrSame s s' y := fun y hy => (ho y (nd y hy)).2 ((hm y).mp hy).1
  refine ⟨W ++ [f], ⟨?_, fun y => ?_⟩, ?_, ?_⟩
  · refine List.nodup_append.mpr ⟨hJ, List.nodup_cons.mpr ⟨List.not_mem_nil, List.nodup_nil⟩, fun a ha b hb => ?_⟩
    rw [List.mem_singleton.mp hb]; exact nd a ha
  · rw [List.mem_append, List.mem_singleton, hm y]
    by_cases q : y = f
    · subst q; exact ⟨fun _ => h1, fun _ => Or.inr rfl⟩
    · rw [ho.W q]
      exact ⟨fun e => e.resolve_right q, Or.inl⟩
  · refine List.pairwise_append.mpr ⟨List.Pairwise.imp_of_mem (fun {a b} ha hb k => ?_) hs, List.pairwise_singleton _ _, fun a ha b hb => ?_⟩
    · rw [sm a ha 5 (by decide) (by decide), sm b hb 5 (by decide) (by decide)]
      exact k
    · rw [List.mem_singleton.mp hb, sm a ha 5 (by decide) (by decide)]
      exact hn a ((hm a).mp ha)
  · exact (hl.mono (fun y hy w _ k => k.to (sm y hy))).app ⟨hv, trivial⟩
/-- the frame of one place of the list -/
theorem RelV.at {s : Int → Int} {A B : List FV} {v : FV} (h : RelV s (A ++ v :: B)) : ∃ f, mW s f ∧ FrW s f v ∧ (∀ y, mW s y → y = f ∨ (∃ w, w ∈ A ∧ FrW s y w) ∨ (∃ w, w ∈ B ∧ FrW s y w ∧ rFr s f 5 < rFr s y 5)) ∧ ∀ s', OthP s s' (fun q => q = f) → ¬ mW s' f → RelV s' (A ++ B) := by
  obtain ⟨W, ⟨hJ, hm⟩, hs, hl⟩ := h
  obtain ⟨A', f, B', rfl, hA, hf, hB⟩ := hl.split
  have hp := (List.pairwise_append.mp hs)
  have hnd : f ∉ A' ++ B' := (List.nodup_cons.mp (List.perm_middle.nodup_iff.mp hJ)).1
  refine ⟨f, (hm f).mp (List.mem_append.mpr (Or.inr List.mem_cons_self)), hf, fun y hy => ?_, fun s' ho hw => ?_⟩
  · rcases List.mem_append.mp ((hm y).mpr hy) with k | k
    · obtain ⟨w, hw, r⟩ := hA.left y k
      exact Or.inr (Or.inl ⟨w, hw, r⟩)
    · rcases List.mem_cons.mp k with k | k
      · exact Or.inl k
      · obtain ⟨w, hw, r⟩ := hB.left y k
        exact Or.inr (Or.inr ⟨w, hw, r, (List.pairwise_cons.mp hp.2.1).1 y k⟩)
  · have nd : ∀ y, y ∈ A' ++ B' → ¬ y = f := fun y hy q => hnd (q ▸ hy)
    have sb : ∀ y, y ∈ A' ++ B' → y ∈ A' ++ f :: B' := fun y hy => List.perm_middle.mem_iff.mpr (List.mem_cons_of_mem _ hy)
    have sm : ∀ y, y ∈ A' ++ B' → FrSame s s' y := fun y hy => (ho y (nd y hy)).2 ((hm y).mp (sb y hy)).1
    refine ⟨A' ++ B', ⟨(List.nodup_cons.mp (List.perm_middle.nodup_iff.mp hJ)).2, fun y => ?_⟩, ?_, ?_⟩
    · constructor
      · intro hy
        exact (ho.W (nd y hy)).mpr ((hm y).mp (sb y hy))
      · intro k
        have q : ¬ y = f := fun q => hw (q ▸ k)
        have := (hm y).mpr ((ho.W q).mp k)
        exact (List.mem_cons.mp (List.perm_middle.mem_iff.mp this)).resolve_left q
    · have hs2 : (A' ++ B').Pairwise (fun a b => rFr s a 5 < rFr s b 5) := List.pairwise_append.mpr ⟨hp.1, (List.pairwise_cons.mp hp.2.1).2, fun a ha b hb => hp.2.2 a ha b (List.mem_cons_of_mem _ hb)⟩
      refine List.Pairwise.imp_of_mem (fun {a b} ha hb k => ?_) hs2
      rw [sm a ha 5 (by decide) (by decide), sm b hb 5 (by decide) (by decide)]
      exact k
    · exact (hA.app hB).mono (fun y hy w _ k => k.to (sm y hy))

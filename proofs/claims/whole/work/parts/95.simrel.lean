/-! THE SIMULATION: the reference's row against the class's ints and lists -/
/-- two lists, related place by place -/
def L2 {α β : Type} (r : α → β → Prop) : List α → List β → Prop
  | [], [] => True
  | a :: l, b :: m => r a b ∧ L2 r l m
  | [], _ :: _ => False
  | _ :: _, [] => False
theorem L2.len {α β : Type} {r : α → β → Prop} : ∀ {l : List α} {m : List β}, L2 r l m → l.length = m.length
  | [], [], _ => rfl
  | _ :: l, _ :: m, h => congrArg (· + 1) (L2.len (l := l) (m := m) h.2)
  | [], _ :: _, h => h.elim
  | _ :: _, [], h => h.elim
theorem L2.mono {α β : Type} {r r' : α → β → Prop} : ∀ {l : List α} {m : List β}, L2 r l m → (∀ a, a ∈ l → ∀ b, b ∈ m → r a b → r' a b) → L2 r' l m
  | [], [], _, _ => trivial
  | a :: l, b :: m, h, k => ⟨k a (List.mem_cons_self) b (List.mem_cons_self) h.1, L2.mono (l := l) (m := m) h.2 (fun x hx y hy => k x (List.mem_cons_of_mem _ hx) y (List.mem_cons_of_mem _ hy))⟩
  | [], _ :: _, h, _ => h.elim
  | _ :: _, [], h, _ => h.elim
theorem L2.app {α β : Type} {r : α → β → Prop} : ∀ {l : List α} {m : List β} {l' : List α} {m' : List β}, L2 r l m → L2 r l' m' → L2 r (l ++ l') (m ++ m')
  | [], [], _, _, _, k => k
  | _ :: l, _ :: m, _, _, h, k => ⟨h.1, L2.app (l := l) (m := m) h.2 k⟩
  | [], _ :: _, _, _, h, _ => h.elim
  | _ :: _, [], _, _, h, _ => h.elim
theorem L2.count {α β : Type} {r : α → β → Prop} {p : α → Bool} {q : β → Bool} : ∀ {l : List α} {m : List β}, L2 r l m → (∀ a, a ∈ l → ∀ b, b ∈ m → r a b → p a = q b) → l.countP p = m.countP q
  | [], [], _, _ => rfl
  | a :: l, b :: m, h, k => by
    have e := k a (List.mem_cons_self) b (List.mem_cons_self) h.1
    have ih := L2.count (l := l) (m := m) h.2 (fun x hx y hy => k x (List.mem_cons_of_mem _ hx) y (List.mem_cons_of_mem _ hy))
    rw [List.countP_cons, List.countP_cons, ih, e]
  | [], _ :: _, h, _ => h.elim
  | _ :: _, [], h, _ => h.elim
theorem L2.filter {α β : Type} {r : α → β → Prop} {p : α → Bool} {q : β → Bool} : ∀ {l : List α} {m : List β}, L2 r l m → (∀ a, a ∈ l → ∀ b, b ∈ m → r a b → p a = q b) → L2 r (l.filter p) (m.filter q)
  | [], [], _, _ => trivial
  | a :: l, b :: m, h, k => by
    have e := k a (List.mem_cons_self) b (List.mem_cons_self) h.1
    have ih := L2.filter (l := l) (m := m) h.2 (fun x hx y hy => k x (List.mem_cons_of_mem _ hx) y (List.mem_cons_of_mem _ hy))
    rw [List.filter_cons, List.filter_cons, e]
    by_cases hq : q b = true
    · rw [if_pos hq, if_pos hq]; exact ⟨h.1, ih⟩
    · rw [if_neg hq, if_neg hq]; exact ih
  | [], _ :: _, h, _ => h.elim
  | _ :: _, [], h, _ => h.elim
/-- the reference's child as the class's -/
def kid (c : Int) : Int := if c < 10 then c + 5 else c - 10
theorem kid_in {c e : Int} (hc : 0 ≤ c ∧ c < 15) (he : 0 ≤ e ∧ e < 15) (h : kid c = kid e) : c = e := by
  unfold kid at h
  split at h <;> split at h <;> omega
/-- what frame f carries, v carries -/
def PayR (s : Int → Int) (f : Int) (v : FV) : Prop := v 5 = rFr s f 6 ∧ ∀ u, 0 ≤ u → u < 10 → rBit (v 5) u → v (6 + u) = rFr s f (7 + u) ∧ v (16 + u) = rFr s f (17 + u)
/-- the kept frame f is v -/
def FrK (s : Int → Int) (f : Int) (v : FV) : Prop := v 0 = kid (rFr s f 2) ∧ v 1 = rFr s f 3 ∧ v 2 = rFr s f 4 ∧ v 3 = rFr s f 5 ∧ PayR s f v
/-- the frame f on its way is v -/
def FrW (s : Int → Int) (f : Int) (v : FV) : Prop := v 0 = kid (rFr s f 2) ∧ v 1 = rFr s f 3 ∧ v 3 = rFr s f 4 ∧ PayR s f v
def isW (s : Int → Int) (f : Int) : Prop := rFr s f 0 = 1
def isK (s : Int → Int) (g f : Int) : Prop := rFr s f 0 = 2 ∧ rFr s f 1 = g
/-- the frames on their way, in order of their numbers -/
def RelW (s : Int → Int) (S : Nat → Int → Int) (R : Nat → List FV) : Prop := cW S = ((R 3).length : Nat) ∧ ∃ W : List Int, W.Perm (irP (s 7) (isW s)) ∧ W.Pairwise (fun a b => rFr s a 5 < rFr s b 5) ∧ L2 (FrW s) W (R 3)
/-- the frames kept at g -/
def RelK (s : Int → Int) (S : Nat → Int → Int) (R : Nat → List FV) (g : Int) : Prop := cZ S g = ((kR R g).length : Nat) ∧ ∃ J : List Int, J.Perm (irP (s 7) (isK s g)) ∧ L2 (FrK s) J (kR R g)
def RelH (s : Int → Int) (S : Nat → Int → Int) (g : Int) : Prop := (∀ k : Int, 0 ≤ k → k < 5 → rOf s g k = cSe S g k) ∧ rOf s g 5 = cH S g 3 ∧ rDepth s g = cH S g 4 ∧ rOf s g 6 = cH S g 5 ∧ rOf s g 7 = cH S g 6 ∧ rOf s g 8 = cH S g 7 ∧ (0 < rOf s g 6 → rOf s g 9 = cH S g 8) ∧ (rOf s g 6 = 0 → cH S g 8 = -1) ∧
  ∀ u, 0 ≤ u → u < 10 → (s (98 + 30 * g + 3 * u) = 1 ↔ fHas (SF S (15 + 7 * g.toNat)) u) ∧ (fHas (SF S (15 + 7 * g.toNat)) u → s (98 + 30 * g + 3 * u + 1) = SF S (15 + 7 * g.toNat) (6 + u) ∧ s (98 + 30 * g + 3 * u + 2) = SF S (15 + 7 * g.toNat) (16 + u))
def RelU (s : Int → Int) (S : Nat → Int → Int) (u : Int) : Prop := ∀ k : Int, 0 ≤ k → k < 4 → rIts s u k = cU S u k
def RelO (s : Int → Int) (S : Nat → Int → Int) (i : Int) : Prop :=
  s (248 + 25 * (s 5 - 1 - i)) = SF S (56 + 3 * ((cT S 7 - 1 - i) % 8).toNat) 1 ∧ s (248 + 25 * (s 5 - 1 - i) + 1) = SF S (56 + 3 * ((cT S 7 - 1 - i) % 8).toNat) 3 ∧ s (248 + 25 * (s 5 - 1 - i) + 2) = fFlg (SF S (56 + 3 * ((cT S 7 - 1 - i) % 8).toNat)) ∧ s (248 + 25 * (s 5 - 1 - i) + 3) = SF S (56 + 3 * ((cT S 7 - 1 - i) % 8).toNat) 5 ∧ s (248 + 25 * (s 5 - 1 - i) + 4) = SF S (56 + 3 * ((cT S 7 - 1 - i) % 8).toNat) 4 ∧
  ∀ u, 0 ≤ u → u < 10 → rBit (SF S (56 + 3 * ((cT S 7 - 1 - i) % 8).toNat) 5) u → s (248 + 25 * (s 5 - 1 - i) + 5 + u) = SF S (56 + 3 * ((cT S 7 - 1 - i) % 8).toNat) (6 + u) ∧ s (248 + 25 * (s 5 - 1 - i) + 15 + u) = SF S (56 + 3 * ((cT S 7 - 1 - i) % 8).toNat) (16 + u)
def RelT (s : Int → Int) (S : Nat → Int → Int) : Prop := s 0 = cT S 4 ∧ s 1 = cT S 5 ∧ s 2 = cT S 6 ∧ s 4 = cT S 7 ∧ s 5 = cKept S ∧ s 6 = cT S 8
/-- the reference's row s is the class's tree S, R -/
def Rel (s : Int → Int) (S : Nat → Int → Int) (R : Nat → List FV) : Prop := RelT s S ∧ (∀ g, 0 ≤ g → g < s 0 → RelH s S g ∧ RelK s S R g) ∧ (∀ u, 0 ≤ u → u < s 1 → RelU s S u) ∧ (∀ i, 0 ≤ i → i < s 5 → RelO s S i) ∧ RelW s S R
theorem Rel.allWay {s : Int → Int} {S : Nat → Int → Int} {R : Nat → List FV} (h : Rel s S R) (hn : 0 ≤ s 7) : rAllWay s = cW S := by
  obtain ⟨hc, W, hp, hs, hl⟩ := h.2.2.2.2
  unfold rAllWay
  rw [fI_count (p := isW s) (q := fun f => rFr s f 0 = 1) hp hn (fun i _ _ h => h), hc, ← hl.len]
  have : W.countP (pd fun f => rFr s f 0 = 1) = W.length := List.countP_eq_length.mpr (fun a ha => pd_t.mpr ((irP_mem.mp (hp.mem_iff.mp ha)).2))
  rw [this]

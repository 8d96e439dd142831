/-! THE CLASS: texts, read -/
/-- only ints of the orders (5), their text (6) and their numbers (7) differ -/
def EO (h h' : HP) : Prop := hTy h' = hTy h ∧ hR h' = hR h ∧ hZ h' = hZ h ∧ hU h' = hU h ∧ ∀ b, b ≠ 5 → b ≠ 6 → b ≠ 7 → hI h' b = hI h b
theorem EO.refl {h : HP} : EO h h := ⟨rfl, rfl, rfl, rfl, fun _ _ _ _ => rfl⟩
theorem EO.trans {a b c : HP} (x : EO a b) (y : EO b c) : EO a c := ⟨y.1.trans x.1, y.2.1.trans x.2.1, y.2.2.1.trans x.2.2.1, y.2.2.2.1.trans x.2.2.2.1, fun q h1 h2 h3 => (y.2.2.2.2 q h1 h2 h3).trans (x.2.2.2.2 q h1 h2 h3)⟩
theorem EO.sI {h : HP} {a : Nat} {k v : Int} (ha : a = 5 ∨ a = 6 ∨ a = 7) : EO h (Jvm.Pilot.CPhasorTreeLaw_law_r5579_67eb37.sI h a k v) := ⟨rfl, rfl, rfl, rfl, fun _ _ _ _ => hI_sI_ne (by omega)⟩
/-- since G only the orders have changed; they hold: the text tx of length L, the place A, the kind C, D orders done, the start B, the reason E, the numbers nu -/
def OT (G h : HP) (L A C D B E : Int) (tx nu : Int → Int) : Prop := EO G h ∧ (hTy h 5 = (3, 0) ∧ hTy h 6 = (101, 60) ∧ hTy h 7 = (100, 3) ∧ hR h 5 0 = some 6 ∧ hR h 5 4 = some 7) ∧ (hI h 5 1 = L ∧ hI h 5 2 = A ∧ hI h 5 3 = C ∧ hI h 5 5 = D ∧ hI h 5 6 = B ∧ hI h 5 7 = E) ∧ hI h 6 = tx ∧ hI h 7 = nu
theorem OT.ty {G h : HP} {L A C D B E : Int} {tx nu : Int → Int} (O : OT G h L A C D B E tx nu) : (hTy h 5).1 = 2 + 1 := by rw [O.2.1.1]
section ZO
variable {d y pos p' : Nat} {ls : Ls} {h : HP} {Q : Option AV → HP → Prop} {C : List Ins} {st : List AV} {G : HP} {L A Cc D B E : Int} {tx nu : Int → Int}
theorem z_og1 (O : OT G h L A Cc D B E tx nu) (hC : cod y = C) {idx : Nat} {v : Int} {w : Nat} {sw : List Nat} (hi : C[pos]? = some (.getfield idx, v, 2, 1, w, sw)) (hp : pos + 1 = p') (kk : At d y p' ls (.inl L :: st) h Q) : At d y pos ls (.inr (some 5) :: st) h Q := by
  refine x_getI hC hi hp rfl O.ty ?_
  rw [show hI h 5 ((1 : Nat) : Int) = L from O.2.2.1.1]
  exact kk
theorem z_op1 (O : OT G h L A Cc D B E tx nu) (hC : cod y = C) {idx : Nat} {v : Int} {w : Nat} {sw : List Nat} {x : Int} (hi : C[pos]? = some (.putfield idx, v, 2, 1, w, sw)) (hp : pos + 1 = p') (kk : OT G (sI h 5 1 x) x A Cc D B E tx nu → At d y p' ls st (sI h 5 1 x) Q) : At d y pos ls (.inl x :: .inr (some 5) :: st) h Q := by
  refine x_putI hC hi hp rfl O.ty (by decide) (kk ⟨O.1.trans (EO.sI (Or.inl rfl)), O.2.1, ⟨?_, ?_, ?_, ?_, ?_, ?_⟩, ?_, ?_⟩)
  · rw [hI_sI, if_pos ⟨rfl, rfl⟩]
  · rw [hI_sI, if_neg (fun q => absurd q.2 (by decide))]; exact O.2.2.1.2.1
  · rw [hI_sI, if_neg (fun q => absurd q.2 (by decide))]; exact O.2.2.1.2.2.1
  · rw [hI_sI, if_neg (fun q => absurd q.2 (by decide))]; exact O.2.2.1.2.2.2.1
  · rw [hI_sI, if_neg (fun q => absurd q.2 (by decide))]; exact O.2.2.1.2.2.2.2.1
  · rw [hI_sI, if_neg (fun q => absurd q.2 (by decide))]; exact O.2.2.1.2.2.2.2.2
  · rw [hI_sI_ne (by decide)]; exact O.2.2.2.1
  · rw [hI_sI_ne (by decide)]; exact O.2.2.2.2
theorem z_og2 (O : OT G h L A Cc D B E tx nu) (hC : cod y = C) {idx : Nat} {v : Int} {w : Nat} {sw : List Nat} (hi : C[pos]? = some (.getfield idx, v, 2, 2, w, sw)) (hp : pos + 1 = p') (kk : At d y p' ls (.inl A :: st) h Q) : At d y pos ls (.inr (some 5) :: st) h Q := by
  refine x_getI hC hi hp rfl O.ty ?_
  rw [show hI h 5 ((2 : Nat) : Int) = A from O.2.2.1.2.1]
  exact kk
theorem z_op2 (O : OT G h L A Cc D B E tx nu) (hC : cod y = C) {idx : Nat} {v : Int} {w : Nat} {sw : List Nat} {x : Int} (hi : C[pos]? = some (.putfield idx, v, 2, 2, w, sw)) (hp : pos + 1 = p') (kk : OT G (sI h 5 2 x) L x Cc D B E tx nu → At d y p' ls st (sI h 5 2 x) Q) : At d y pos ls (.inl x :: .inr (some 5) :: st) h Q := by
  refine x_putI hC hi hp rfl O.ty (by decide) (kk ⟨O.1.trans (EO.sI (Or.inl rfl)), O.2.1, ⟨?_, ?_, ?_, ?_, ?_, ?_⟩, ?_, ?_⟩)
  · rw [hI_sI, if_neg (fun q => absurd q.2 (by decide))]; exact O.2.2.1.1
  · rw [hI_sI, if_pos ⟨rfl, rfl⟩]
  · rw [hI_sI, if_neg (fun q => absurd q.2 (by decide))]; exact O.2.2.1.2.2.1
  · rw [hI_sI, if_neg (fun q => absurd q.2 (by decide))]; exact O.2.2.1.2.2.2.1
  · rw [hI_sI, if_neg (fun q => absurd q.2 (by decide))]; exact O.2.2.1.2.2.2.2.1
  · rw [hI_sI, if_neg (fun q => absurd q.2 (by decide))]; exact O.2.2.1.2.2.2.2.2
  · rw [hI_sI_ne (by decide)]; exact O.2.2.2.1
  · rw [hI_sI_ne (by decide)]; exact O.2.2.2.2
theorem z_og3 (O : OT G h L A Cc D B E tx nu) (hC : cod y = C) {idx : Nat} {v : Int} {w : Nat} {sw : List Nat} (hi : C[pos]? = some (.getfield idx, v, 2, 3, w, sw)) (hp : pos + 1 = p') (kk : At d y p' ls (.inl Cc :: st) h Q) : At d y pos ls (.inr (some 5) :: st) h Q := by
  refine x_getI hC hi hp rfl O.ty ?_
  rw [show hI h 5 ((3 : Nat) : Int) = Cc from O.2.2.1.2.2.1]
  exact kk
theorem z_op3 (O : OT G h L A Cc D B E tx nu) (hC : cod y = C) {idx : Nat} {v : Int} {w : Nat} {sw : List Nat} {x : Int} (hi : C[pos]? = some (.putfield idx, v, 2, 3, w, sw)) (hp : pos + 1 = p') (hx : 0 ≤ x ∧ x ≤ 65535) (kk : OT G (sI h 5 3 x) L A x D B E tx nu → At d y p' ls st (sI h 5 3 x) Q) : At d y pos ls (.inl x :: .inr (some 5) :: st) h Q := by
  refine x_putB hC hi hp rfl O.ty (by decide) ⟨hx.1, fun q => absurd q (by decide), hx.2⟩ (kk ⟨O.1.trans (EO.sI (Or.inl rfl)), O.2.1, ⟨?_, ?_, ?_, ?_, ?_, ?_⟩, ?_, ?_⟩)
  · rw [hI_sI, if_neg (fun q => absurd q.2 (by decide))]; exact O.2.2.1.1
  · rw [hI_sI, if_neg (fun q => absurd q.2 (by decide))]; exact O.2.2.1.2.1
  · rw [hI_sI, if_pos ⟨rfl, rfl⟩]
  · rw [hI_sI, if_neg (fun q => absurd q.2 (by decide))]; exact O.2.2.1.2.2.2.1
  · rw [hI_sI, if_neg (fun q => absurd q.2 (by decide))]; exact O.2.2.1.2.2.2.2.1
  · rw [hI_sI, if_neg (fun q => absurd q.2 (by decide))]; exact O.2.2.1.2.2.2.2.2
  · rw [hI_sI_ne (by decide)]; exact O.2.2.2.1
  · rw [hI_sI_ne (by decide)]; exact O.2.2.2.2
theorem z_og5 (O : OT G h L A Cc D B E tx nu) (hC : cod y = C) {idx : Nat} {v : Int} {w : Nat} {sw : List Nat} (hi : C[pos]? = some (.getfield idx, v, 2, 5, w, sw)) (hp : pos + 1 = p') (kk : At d y p' ls (.inl D :: st) h Q) : At d y pos ls (.inr (some 5) :: st) h Q := by
  refine x_getI hC hi hp rfl O.ty ?_
  rw [show hI h 5 ((5 : Nat) : Int) = D from O.2.2.1.2.2.2.1]
  exact kk
theorem z_op5 (O : OT G h L A Cc D B E tx nu) (hC : cod y = C) {idx : Nat} {v : Int} {w : Nat} {sw : List Nat} {x : Int} (hi : C[pos]? = some (.putfield idx, v, 2, 5, w, sw)) (hp : pos + 1 = p') (kk : OT G (sI h 5 5 x) L A Cc x B E tx nu → At d y p' ls st (sI h 5 5 x) Q) : At d y pos ls (.inl x :: .inr (some 5) :: st) h Q := by
  refine x_putI hC hi hp rfl O.ty (by decide) (kk ⟨O.1.trans (EO.sI (Or.inl rfl)), O.2.1, ⟨?_, ?_, ?_, ?_, ?_, ?_⟩, ?_, ?_⟩)
  · rw [hI_sI, if_neg (fun q => absurd q.2 (by decide))]; exact O.2.2.1.1
  · rw [hI_sI, if_neg (fun q => absurd q.2 (by decide))]; exact O.2.2.1.2.1
  · rw [hI_sI, if_neg (fun q => absurd q.2 (by decide))]; exact O.2.2.1.2.2.1
  · rw [hI_sI, if_pos ⟨rfl, rfl⟩]
  · rw [hI_sI, if_neg (fun q => absurd q.2 (by decide))]; exact O.2.2.1.2.2.2.2.1
  · rw [hI_sI, if_neg (fun q => absurd q.2 (by decide))]; exact O.2.2.1.2.2.2.2.2
  · rw [hI_sI_ne (by decide)]; exact O.2.2.2.1
  · rw [hI_sI_ne (by decide)]; exact O.2.2.2.2
theorem z_og6 (O : OT G h L A Cc D B E tx nu) (hC : cod y = C) {idx : Nat} {v : Int} {w : Nat} {sw : List Nat} (hi : C[pos]? = some (.getfield idx, v, 2, 6, w, sw)) (hp : pos + 1 = p') (kk : At d y p' ls (.inl B :: st) h Q) : At d y pos ls (.inr (some 5) :: st) h Q := by
  refine x_getI hC hi hp rfl O.ty ?_
  rw [show hI h 5 ((6 : Nat) : Int) = B from O.2.2.1.2.2.2.2.1]
  exact kk
theorem z_op6 (O : OT G h L A Cc D B E tx nu) (hC : cod y = C) {idx : Nat} {v : Int} {w : Nat} {sw : List Nat} {x : Int} (hi : C[pos]? = some (.putfield idx, v, 2, 6, w, sw)) (hp : pos + 1 = p') (kk : OT G (sI h 5 6 x) L A Cc D x E tx nu → At d y p' ls st (sI h 5 6 x) Q) : At d y pos ls (.inl x :: .inr (some 5) :: st) h Q := by
  refine x_putI hC hi hp rfl O.ty (by decide) (kk ⟨O.1.trans (EO.sI (Or.inl rfl)), O.2.1, ⟨?_, ?_, ?_, ?_, ?_, ?_⟩, ?_, ?_⟩)
  · rw [hI_sI, if_neg (fun q => absurd q.2 (by decide))]; exact O.2.2.1.1
  · rw [hI_sI, if_neg (fun q => absurd q.2 (by decide))]; exact O.2.2.1.2.1
  · rw [hI_sI, if_neg (fun q => absurd q.2 (by decide))]; exact O.2.2.1.2.2.1
  · rw [hI_sI, if_neg (fun q => absurd q.2 (by decide))]; exact O.2.2.1.2.2.2.1
  · rw [hI_sI, if_pos ⟨rfl, rfl⟩]
  · rw [hI_sI, if_neg (fun q => absurd q.2 (by decide))]; exact O.2.2.1.2.2.2.2.2
  · rw [hI_sI_ne (by decide)]; exact O.2.2.2.1
  · rw [hI_sI_ne (by decide)]; exact O.2.2.2.2
theorem z_og7 (O : OT G h L A Cc D B E tx nu) (hC : cod y = C) {idx : Nat} {v : Int} {w : Nat} {sw : List Nat} (hi : C[pos]? = some (.getfield idx, v, 2, 7, w, sw)) (hp : pos + 1 = p') (kk : At d y p' ls (.inl E :: st) h Q) : At d y pos ls (.inr (some 5) :: st) h Q := by
  refine x_getI hC hi hp rfl O.ty ?_
  rw [show hI h 5 ((7 : Nat) : Int) = E from O.2.2.1.2.2.2.2.2]
  exact kk
theorem z_op7 (O : OT G h L A Cc D B E tx nu) (hC : cod y = C) {idx : Nat} {v : Int} {w : Nat} {sw : List Nat} {x : Int} (hi : C[pos]? = some (.putfield idx, v, 2, 7, w, sw)) (hp : pos + 1 = p') (kk : OT G (sI h 5 7 x) L A Cc D B x tx nu → At d y p' ls st (sI h 5 7 x) Q) : At d y pos ls (.inl x :: .inr (some 5) :: st) h Q := by
  refine x_putI hC hi hp rfl O.ty (by decide) (kk ⟨O.1.trans (EO.sI (Or.inl rfl)), O.2.1, ⟨?_, ?_, ?_, ?_, ?_, ?_⟩, ?_, ?_⟩)
  · rw [hI_sI, if_neg (fun q => absurd q.2 (by decide))]; exact O.2.2.1.1
  · rw [hI_sI, if_neg (fun q => absurd q.2 (by decide))]; exact O.2.2.1.2.1
  · rw [hI_sI, if_neg (fun q => absurd q.2 (by decide))]; exact O.2.2.1.2.2.1
  · rw [hI_sI, if_neg (fun q => absurd q.2 (by decide))]; exact O.2.2.1.2.2.2.1
  · rw [hI_sI, if_neg (fun q => absurd q.2 (by decide))]; exact O.2.2.1.2.2.2.2.1
  · rw [hI_sI, if_pos ⟨rfl, rfl⟩]
  · rw [hI_sI_ne (by decide)]; exact O.2.2.2.1
  · rw [hI_sI_ne (by decide)]; exact O.2.2.2.2
theorem z_or0 (O : OT G h L A Cc D B E tx nu) (hC : cod y = C) {idx : Nat} {v : Int} {w : Nat} {sw : List Nat} (hi : C[pos]? = some (.getfield idx, v, 2, 0, w, sw)) (hp : pos + 1 = p') (kk : At d y p' ls (.inr (some 6) :: st) h Q) : At d y pos ls (.inr (some 5) :: st) h Q :=
  x_getR hC hi hp rfl O.ty O.2.1.2.2.2.1 kk
theorem z_or4 (O : OT G h L A Cc D B E tx nu) (hC : cod y = C) {idx : Nat} {v : Int} {w : Nat} {sw : List Nat} (hi : C[pos]? = some (.getfield idx, v, 2, 4, w, sw)) (hp : pos + 1 = p') (kk : At d y p' ls (.inr (some 7) :: st) h Q) : At d y pos ls (.inr (some 5) :: st) h Q :=
  x_getR hC hi hp rfl O.ty O.2.1.2.2.2.2 kk
theorem z_ox (O : OT G h L A Cc D B E tx nu) (hC : cod y = C) {i : Ins} {j : Int} (hi : C[pos]? = some i) (hI0 : i.1 = .caload) (hp : pos + 1 = p') (h0 : 0 ≤ j) (h1 : j < 60) (kk : At d y p' ls (.inl (tx j) :: st) h Q) : At d y pos ls (.inl j :: .inr (some 6) :: st) h Q := by
  refine x_cald hC hi hI0 hp O.2.1.2.1 h0 h1 ?_
  rw [O.2.2.2.1]; exact kk
theorem z_on (O : OT G h L A Cc D B E tx nu) (hC : cod y = C) {i : Ins} {j : Int} (hi : C[pos]? = some i) (hI0 : i.1 = .iaload) (hp : pos + 1 = p') (h0 : 0 ≤ j) (h1 : j < 3) (kk : At d y p' ls (.inl (nu j) :: st) h Q) : At d y pos ls (.inl j :: .inr (some 7) :: st) h Q := by
  refine x_iald hC hi hI0 hp O.2.1.2.2.1 h0 h1 ?_
  rw [O.2.2.2.2]; exact kk
theorem z_os (O : OT G h L A Cc D B E tx nu) (hC : cod y = C) {i : Ins} {j x : Int} (hi : C[pos]? = some i) (hI0 : i.1 = .iastore) (hp : pos + 1 = p') (h0 : 0 ≤ j) (h1 : j < 3) (kk : OT G (sI h 7 j x) L A Cc D B E tx (ups nu j x) → At d y p' ls st (sI h 7 j x) Q) : At d y pos ls (.inl x :: .inl j :: .inr (some 7) :: st) h Q := by
  refine x_iast hC hi hI0 hp O.2.1.2.2.1 (by decide) h0 h1 (kk ⟨O.1.trans (EO.sI (Or.inr (Or.inr rfl))), O.2.1, ?_, ?_, ?_⟩)
  · rw [hI_sI_ne (by decide)]; exact O.2.2.1
  · rw [hI_sI_ne (by decide)]; exact O.2.2.2.1
  · funext q
    rw [hI_sI, O.2.2.2.2]
    unfold ups
    by_cases hq : q = j
    · rw [if_pos ⟨rfl, hq⟩, if_pos hq]
    · rw [if_neg (fun e => hq e.2), if_neg hq]
theorem z_oc (O : OT G h L A Cc D B E tx nu) (hC : cod y = C) {i : Ins} {j x : Int} (hi : C[pos]? = some i) (hI0 : i.1 = .castore) (hp : pos + 1 = p') (h0 : 0 ≤ j) (h1 : j < 60) (hx : 0 ≤ x ∧ x ≤ 65535) (kk : OT G (sI h 6 j x) L A Cc D B E (ups tx j x) nu → At d y p' ls st (sI h 6 j x) Q) : At d y pos ls (.inl x :: .inl j :: .inr (some 6) :: st) h Q := by
  refine x_cast hC hi hI0 hp O.2.1.2.1 (by decide) h0 h1 hx (kk ⟨O.1.trans (EO.sI (Or.inr (Or.inl rfl))), O.2.1, ?_, ?_, ?_⟩)
  · rw [hI_sI_ne (by decide)]; exact O.2.2.1
  · funext q
    rw [hI_sI, O.2.2.2.1]
    unfold ups
    by_cases hq : q = j
    · rw [if_pos ⟨rfl, hq⟩, if_pos hq]
    · rw [if_neg (fun e => hq e.2), if_neg hq]
  · rw [hI_sI_ne (by decide)]; exact O.2.2.2.2
end ZO
abbrev isDig (c : Int) : Prop := 48 ≤ c ∧ c ≤ 57
def dVal (tx : Int → Int) (a : Int) : Nat → Int
  | 0 => 0
  | n + 1 => 10 * dVal tx a n + (tx (a + n) - 48)
def pB : Nat → Int
  | 0 => 0
  | n + 1 => 10 * pB n + 9
theorem dVal_rng {tx : Int → Int} {a : Int} : ∀ n : Nat, (∀ j : Nat, j < n → isDig (tx (a + j))) → 0 ≤ dVal tx a n ∧ dVal tx a n ≤ pB n
  | 0, _ => by rw [dVal, pB]; omega
  | n + 1, h => by
    have := dVal_rng n (fun j hj => h j (by omega))
    have h2 := h n (by omega)
    rw [dVal, pB]; omega
theorem pB_le : ∀ n : Fin 8, pB n.val ≤ 9999999 := by decide
/-- a number of 1 to 6 digits stands at a, e behind it; its value is x, the next place nx -/
def NumIs (tx : Int → Int) (L a e x nx : Int) : Prop := ∃ D : Nat, (1 ≤ D ∧ D ≤ 6) ∧ (∀ j : Nat, j < D → isDig (tx (a + j))) ∧ a + D < L ∧ tx (a + D) = e ∧ x = dVal tx a D ∧ nx = a + D + 1
theorem NumIs.uniq {tx : Int → Int} {L a e e' x x' nx nx' : Int} (he : ¬ isDig e) (he' : ¬ isDig e') (h : NumIs tx L a e x nx) (h' : NumIs tx L a e' x' nx') : x = x' ∧ nx = nx' ∧ e = e' := by
  obtain ⟨D, h1, h2, h3, h4, h5, h6⟩ := h
  obtain ⟨D', g1, g2, g3, g4, g5, g6⟩ := h'
  have hD : D = D' := by
    rcases Nat.lt_trichotomy D D' with q | q | q
    · exact absurd (h4 ▸ g2 D q) he
    · exact q
    · exact absurd (g4 ▸ h2 D' q) he'
  subst hD
  exact ⟨h5.trans g5.symm, h6.trans g6.symm, h4.symm.trans g4⟩
set_option maxRecDepth 20000 in
set_option maxHeartbeats 2000000 in
theorem sp_O_isAt {d : Nat} {G h : HP} {L A Cc D B E : Int} {tx nu : Int → Int} (hO : OT G h L A Cc D B E tx nu) (hL : 0 ≤ L ∧ L ≤ 60) (hA : 0 ≤ A) {c : Int} {Q : Int → HP → Prop} (K : Q (b2i (A < L ∧ tx A = c)) h) : CaI d 163 [.inr (some 5), .inl c] h Q := by
  have hC : cod 163 = c_O_isAt := rfl
  refine CaI.start rfl ?_
  refine x_1 (p' := 1) hC rfl rfl rfl rfl ?_
  refine z_og2 (p' := 2) hO hC rfl rfl ?_
  refine x_1 (p' := 3) hC rfl rfl rfl rfl ?_
  refine z_og1 (p' := 4) hO hC rfl rfl ?_
  refine x_icge (p' := 5) hC rfl rfl (fun c4 => ?_) (fun c4 => ?_)
  · refine x_1 (p' := 15) hC rfl rfl rfl rfl ?_
    refine x_zret hC rfl rfl rfl (by first | omega | exact b2i_01 _) ⟨_, rfl, ?_⟩
    refine eqK K ?_
    first | exact b2i_t (by omega) | exact b2i_f (by omega)
  · refine x_1 (p' := 6) hC rfl rfl rfl rfl ?_
    refine z_or0 (p' := 7) hO hC rfl rfl ?_
    refine x_1 (p' := 8) hC rfl rfl rfl rfl ?_
    refine z_og2 (p' := 9) hO hC rfl rfl ?_
    refine z_ox (p' := 10) hO hC rfl rfl rfl (by omega) (by omega) ?_
    refine x_1 (p' := 11) hC rfl rfl rfl rfl ?_
    refine x_icne (p' := 12) hC rfl rfl (fun c11 => ?_) (fun c11 => ?_)
    · refine x_1 (p' := 15) hC rfl rfl rfl rfl ?_
      refine x_zret hC rfl rfl rfl (by first | omega | exact b2i_01 _) ⟨_, rfl, ?_⟩
      refine eqK K ?_
      first | exact b2i_t (by omega) | exact b2i_f (by omega)
    · refine x_1 (p' := 13) hC rfl rfl rfl rfl ?_
      refine x_1 (p' := 15) hC rfl rfl rfl rfl ?_
      refine x_zret hC rfl rfl rfl (by first | omega | exact b2i_01 _) ⟨_, rfl, ?_⟩
      refine eqK K ?_
      first | exact b2i_t (by omega) | exact b2i_f (by omega)
set_option maxRecDepth 20000 in
set_option maxHeartbeats 2000000 in
theorem sp_O_append {d : Nat} {G h : HP} {L A Cc D B E : Int} {tx nu : Int → Int} (hO : OT G h L A Cc D B E tx nu) (hL : 0 ≤ L ∧ L ≤ 60) (hA : 0 ≤ A) {c : Int} (hc : 0 ≤ c ∧ c ≤ 65535) {Q : Int → HP → Prop} (K0 : L = 60 → Q 0 h) (K1 : L < 60 → ∀ h', OT G h' (L + 1) A Cc D B E (ups tx L c) nu → Q 1 h') : CaI d 157 [.inr (some 5), .inl c] h Q := by
  have hC : cod 157 = c_O_append := rfl
  refine CaI.start rfl ?_
  refine x_1 (p' := 1) hC rfl rfl rfl rfl ?_
  refine z_og1 (p' := 2) hO hC rfl rfl ?_
  refine x_1 (p' := 3) hC rfl rfl rfl rfl ?_
  refine x_iclt (p' := 4) hC rfl rfl (fun c3 => ?_) (fun c3 => ?_)
  · refine x_1 (p' := 7) hC rfl rfl rfl rfl ?_
    refine z_or0 (p' := 8) hO hC rfl rfl ?_
    refine x_1 (p' := 9) hC rfl rfl rfl rfl ?_
    refine z_og1 (p' := 10) hO hC rfl rfl ?_
    refine x_1 (p' := 11) hC rfl rfl rfl rfl ?_
    refine z_oc (p' := 12) hO hC rfl rfl rfl (by omega) (by omega) (by omega) (fun hO => ?_)
    refine x_1 (p' := 13) hC rfl rfl rfl rfl ?_
    refine x_1 (p' := 14) hC rfl rfl rfl rfl ?_
    refine z_og1 (p' := 15) hO hC rfl rfl ?_
    refine x_1 (p' := 16) hC rfl rfl rfl rfl ?_
    refine x_add (p' := 17) hC rfl rfl rfl (⟨by omega, by omega⟩) ?_
    refine z_op1 (p' := 18) hO hC rfl rfl (fun hO => ?_)
    refine x_1 (p' := 19) hC rfl rfl rfl rfl ?_
    refine x_zret hC rfl rfl rfl (by first | omega | exact b2i_01 _) ⟨_, rfl, ?_⟩
    exact K1 (by omega) _ hO
  · refine x_1 (p' := 5) hC rfl rfl rfl rfl ?_
    refine x_zret hC rfl rfl rfl (by first | omega | exact b2i_01 _) ⟨_, rfl, ?_⟩
    exact K0 (by omega)
set_option maxRecDepth 20000 in
theorem lp_O_num0 {d : Nat} {G : HP} {L A Cc D B E : Int} {tx nu : Int → Int} (hL : 0 ≤ L ∧ L ≤ 60) (hA : 0 ≤ A ∧ A ≤ 100) {ix e sg : Int} (hk : 0 ≤ ix ∧ ix ≤ 2) (he : e = 44 ∨ e = 59) (hsg : sg = 0) {Q : Int → HP → Prop} (K1 : ∀ x nx, NumIs tx L (A + sg) e x nx → ∀ h', OT G h' L nx Cc D B E tx (ups nu ix (if sg = 1 then -x else x)) → Q 1 h') (K0 : (∀ x nx, ¬ NumIs tx L (A + sg) e x nx) → ∀ h' A' nu', 0 ≤ A' → OT G h' L A' Cc D B E tx nu' → Q 0 h') (k : Nat) : ∀ (n : Nat) (h : HP) (z : Option AV), 7 - n < k → (n ≤ 7) → ((∀ j : Nat, j < n → isDig (tx (A + sg + j))) ∧ A + sg + n ≤ max L (A + sg)) → (OT G h L (A + sg + n) Cc D B E tx nu) → At (d + 1) 162 25 [some (.inr (some 5)), some (.inl ix), some (.inl e), some (.inl 0), some (.inl (dVal tx (A + sg) n)), some (.inl (n : Nat)), z] [] h (fun v h' => ∃ x, v = some (.inl x) ∧ Q x h') := by
  have hC : cod 162 = c_O_readNumber := rfl
  induction k with
  | zero =>
    intro n h z hk
    exact absurd hk (Nat.not_lt_zero _)
  | succ k ih =>
    intro n h z hk hI0 hI1 hI2
    have hO := hI2
    have hdv := dVal_rng (tx := tx) (a := A + sg) n hI1.1
    have hpb := pB_le ⟨n, by omega⟩
    dsimp only at hpb
    have hrg : inR (if (0 : Int) = 0 then dVal tx (A + sg) n else -dVal tx (A + sg) n) := ⟨by split <;> omega, by split <;> omega⟩
    refine x_1 (p' := 26) hC rfl rfl rfl rfl ?_
    refine x_1 (p' := 27) hC rfl rfl rfl rfl ?_
    refine x_icgt (p' := 28) hC rfl rfl (fun c27 => ?_) (fun c27 => ?_)
    · refine x_1 (p' := 68) hC rfl rfl rfl rfl ?_
      refine z_or4 (p' := 69) hO hC rfl rfl ?_
      refine x_1 (p' := 70) hC rfl rfl rfl rfl ?_
      refine x_1 (p' := 71) hC rfl rfl rfl rfl ?_
      refine x_ifeq (p' := 72) hC rfl rfl (fun _ => ?_) (fun c => absurd c (by decide))
      refine x_1 (p' := 76) hC rfl rfl rfl rfl ?_
      refine z_os (p' := 77) hO hC rfl rfl rfl (by omega) (by omega) (fun hO => ?_)
      refine x_1 (p' := 78) hC rfl rfl rfl rfl ?_
      refine x_1 (p' := 79) hC rfl rfl rfl rfl ?_
      refine x_1 (p' := 80) hC rfl rfl rfl rfl ?_
      refine x_cIS3 (p' := 81) (n := 187) hC rfl rfl rfl rfl rfl ?_
      refine sp_P_isWithin ?_
      refine x_ifeq (p' := 82) hC rfl rfl (fun c81 => ?_) (fun c81 => ?_)
      · have c81 := b2i_0.mp c81
        refine x_1 (p' := 89) hC rfl rfl rfl rfl ?_
        refine x_stI6 (p' := 90) hC rfl rfl rfl ?_
        refine x_1 (p' := 91) hC rfl rfl rfl rfl ?_
        refine x_1 (p' := 92) hC rfl rfl rfl rfl ?_
        refine z_og2 (p' := 93) hO hC rfl rfl ?_
        refine x_1 (p' := 94) hC rfl rfl rfl rfl ?_
        refine x_add (p' := 95) hC rfl rfl rfl (⟨by omega, by omega⟩) ?_
        refine z_op2 (p' := 96) hO hC rfl rfl (fun hO => ?_)
        refine x_1 (p' := 97) hC rfl rfl rfl rfl ?_
        refine x_zret hC rfl rfl rfl (by first | omega | exact b2i_01 _) ⟨_, rfl, ?_⟩
        first
          | (refine K1 _ _ ⟨n, by omega, hI1.1, by omega, by omega, rfl, rfl⟩ _ ?_
             subst hsg
             exact hO)
          | (refine K0 (fun x nx ⟨D2, g1, g2, g3, g4, g5, g6⟩ => ?_) _ _ _ (by omega) hO
             rcases Nat.lt_trichotomy n D2 with q | q | q
             · have := g2 n q
               omega
             · subst q; omega
             · have := hI1.1 D2 q
               rw [g4] at this
               omega)
      · have c81 := b2i_n0.mp c81
        refine x_1 (p' := 83) hC rfl rfl rfl rfl ?_
        refine x_1 (p' := 84) hC rfl rfl rfl rfl ?_
        refine x_cIV1 (p' := 85) (n := 163) hC rfl rfl rfl rfl rfl (hO.ty) ?_
        refine sp_O_isAt hO hL (by omega) ?_
        refine x_ifeq (p' := 86) hC rfl rfl (fun c85 => ?_) (fun c85 => ?_)
        · have c85 := b2i_0.mp c85
          refine x_1 (p' := 89) hC rfl rfl rfl rfl ?_
          refine x_stI6 (p' := 90) hC rfl rfl rfl ?_
          refine x_1 (p' := 91) hC rfl rfl rfl rfl ?_
          refine x_1 (p' := 92) hC rfl rfl rfl rfl ?_
          refine z_og2 (p' := 93) hO hC rfl rfl ?_
          refine x_1 (p' := 94) hC rfl rfl rfl rfl ?_
          refine x_add (p' := 95) hC rfl rfl rfl (⟨by omega, by omega⟩) ?_
          refine z_op2 (p' := 96) hO hC rfl rfl (fun hO => ?_)
          refine x_1 (p' := 97) hC rfl rfl rfl rfl ?_
          refine x_zret hC rfl rfl rfl (by first | omega | exact b2i_01 _) ⟨_, rfl, ?_⟩
          first
            | (refine K1 _ _ ⟨n, by omega, hI1.1, by omega, by omega, rfl, rfl⟩ _ ?_
               subst hsg
               exact hO)
            | (refine K0 (fun x nx ⟨D2, g1, g2, g3, g4, g5, g6⟩ => ?_) _ _ _ (by omega) hO
               rcases Nat.lt_trichotomy n D2 with q | q | q
               · have := g2 n q
                 omega
               · subst q; omega
               · have := hI1.1 D2 q
                 rw [g4] at this
                 omega)
        · have c85 := b2i_n0.mp c85
          refine x_1 (p' := 87) hC rfl rfl rfl rfl ?_
          refine x_1 (p' := 89) hC rfl rfl rfl rfl ?_
          refine x_stI6 (p' := 90) hC rfl rfl rfl ?_
          refine x_1 (p' := 91) hC rfl rfl rfl rfl ?_
          refine x_1 (p' := 92) hC rfl rfl rfl rfl ?_
          refine z_og2 (p' := 93) hO hC rfl rfl ?_
          refine x_1 (p' := 94) hC rfl rfl rfl rfl ?_
          refine x_add (p' := 95) hC rfl rfl rfl (⟨by omega, by omega⟩) ?_
          refine z_op2 (p' := 96) hO hC rfl rfl (fun hO => ?_)
          refine x_1 (p' := 97) hC rfl rfl rfl rfl ?_
          refine x_zret hC rfl rfl rfl (by first | omega | exact b2i_01 _) ⟨_, rfl, ?_⟩
          first
            | (refine K1 _ _ ⟨n, by omega, hI1.1, by omega, by omega, rfl, rfl⟩ _ ?_
               subst hsg
               exact hO)
            | (refine K0 (fun x nx ⟨D2, g1, g2, g3, g4, g5, g6⟩ => ?_) _ _ _ (by omega) hO
               rcases Nat.lt_trichotomy n D2 with q | q | q
               · have := g2 n q
                 omega
               · subst q; omega
               · have := hI1.1 D2 q
                 rw [g4] at this
                 omega)
    · refine x_1 (p' := 29) hC rfl rfl rfl rfl ?_
      refine z_og2 (p' := 30) hO hC rfl rfl ?_
      refine x_1 (p' := 31) hC rfl rfl rfl rfl ?_
      refine z_og1 (p' := 32) hO hC rfl rfl ?_
      refine x_icge (p' := 33) hC rfl rfl (fun c32 => ?_) (fun c32 => ?_)
      · refine x_1 (p' := 68) hC rfl rfl rfl rfl ?_
        refine z_or4 (p' := 69) hO hC rfl rfl ?_
        refine x_1 (p' := 70) hC rfl rfl rfl rfl ?_
        refine x_1 (p' := 71) hC rfl rfl rfl rfl ?_
        refine x_ifeq (p' := 72) hC rfl rfl (fun _ => ?_) (fun c => absurd c (by decide))
        refine x_1 (p' := 76) hC rfl rfl rfl rfl ?_
        refine z_os (p' := 77) hO hC rfl rfl rfl (by omega) (by omega) (fun hO => ?_)
        refine x_1 (p' := 78) hC rfl rfl rfl rfl ?_
        refine x_1 (p' := 79) hC rfl rfl rfl rfl ?_
        refine x_1 (p' := 80) hC rfl rfl rfl rfl ?_
        refine x_cIS3 (p' := 81) (n := 187) hC rfl rfl rfl rfl rfl ?_
        refine sp_P_isWithin ?_
        refine x_ifeq (p' := 82) hC rfl rfl (fun c81 => ?_) (fun c81 => ?_)
        · have c81 := b2i_0.mp c81
          refine x_1 (p' := 89) hC rfl rfl rfl rfl ?_
          refine x_stI6 (p' := 90) hC rfl rfl rfl ?_
          refine x_1 (p' := 91) hC rfl rfl rfl rfl ?_
          refine x_1 (p' := 92) hC rfl rfl rfl rfl ?_
          refine z_og2 (p' := 93) hO hC rfl rfl ?_
          refine x_1 (p' := 94) hC rfl rfl rfl rfl ?_
          refine x_add (p' := 95) hC rfl rfl rfl (⟨by omega, by omega⟩) ?_
          refine z_op2 (p' := 96) hO hC rfl rfl (fun hO => ?_)
          refine x_1 (p' := 97) hC rfl rfl rfl rfl ?_
          refine x_zret hC rfl rfl rfl (by first | omega | exact b2i_01 _) ⟨_, rfl, ?_⟩
          first
            | (refine K1 _ _ ⟨n, by omega, hI1.1, by omega, by omega, rfl, rfl⟩ _ ?_
               subst hsg
               exact hO)
            | (refine K0 (fun x nx ⟨D2, g1, g2, g3, g4, g5, g6⟩ => ?_) _ _ _ (by omega) hO
               rcases Nat.lt_trichotomy n D2 with q | q | q
               · have := g2 n q
                 omega
               · subst q; omega
               · have := hI1.1 D2 q
                 rw [g4] at this
                 omega)
        · have c81 := b2i_n0.mp c81
          refine x_1 (p' := 83) hC rfl rfl rfl rfl ?_
          refine x_1 (p' := 84) hC rfl rfl rfl rfl ?_
          refine x_cIV1 (p' := 85) (n := 163) hC rfl rfl rfl rfl rfl (hO.ty) ?_
          refine sp_O_isAt hO hL (by omega) ?_
          refine x_ifeq (p' := 86) hC rfl rfl (fun c85 => ?_) (fun c85 => ?_)
          · have c85 := b2i_0.mp c85
            refine x_1 (p' := 89) hC rfl rfl rfl rfl ?_
            refine x_stI6 (p' := 90) hC rfl rfl rfl ?_
            refine x_1 (p' := 91) hC rfl rfl rfl rfl ?_
            refine x_1 (p' := 92) hC rfl rfl rfl rfl ?_
            refine z_og2 (p' := 93) hO hC rfl rfl ?_
            refine x_1 (p' := 94) hC rfl rfl rfl rfl ?_
            refine x_add (p' := 95) hC rfl rfl rfl (⟨by omega, by omega⟩) ?_
            refine z_op2 (p' := 96) hO hC rfl rfl (fun hO => ?_)
            refine x_1 (p' := 97) hC rfl rfl rfl rfl ?_
            refine x_zret hC rfl rfl rfl (by first | omega | exact b2i_01 _) ⟨_, rfl, ?_⟩
            first
              | (refine K1 _ _ ⟨n, by omega, hI1.1, by omega, by omega, rfl, rfl⟩ _ ?_
                 subst hsg
                 exact hO)
              | (refine K0 (fun x nx ⟨D2, g1, g2, g3, g4, g5, g6⟩ => ?_) _ _ _ (by omega) hO
                 rcases Nat.lt_trichotomy n D2 with q | q | q
                 · have := g2 n q
                   omega
                 · subst q; omega
                 · have := hI1.1 D2 q
                   rw [g4] at this
                   omega)
          · have c85 := b2i_n0.mp c85
            refine x_1 (p' := 87) hC rfl rfl rfl rfl ?_
            refine x_1 (p' := 89) hC rfl rfl rfl rfl ?_
            refine x_stI6 (p' := 90) hC rfl rfl rfl ?_
            refine x_1 (p' := 91) hC rfl rfl rfl rfl ?_
            refine x_1 (p' := 92) hC rfl rfl rfl rfl ?_
            refine z_og2 (p' := 93) hO hC rfl rfl ?_
            refine x_1 (p' := 94) hC rfl rfl rfl rfl ?_
            refine x_add (p' := 95) hC rfl rfl rfl (⟨by omega, by omega⟩) ?_
            refine z_op2 (p' := 96) hO hC rfl rfl (fun hO => ?_)
            refine x_1 (p' := 97) hC rfl rfl rfl rfl ?_
            refine x_zret hC rfl rfl rfl (by first | omega | exact b2i_01 _) ⟨_, rfl, ?_⟩
            first
              | (refine K1 _ _ ⟨n, by omega, hI1.1, by omega, by omega, rfl, rfl⟩ _ ?_
                 subst hsg
                 exact hO)
              | (refine K0 (fun x nx ⟨D2, g1, g2, g3, g4, g5, g6⟩ => ?_) _ _ _ (by omega) hO
                 rcases Nat.lt_trichotomy n D2 with q | q | q
                 · have := g2 n q
                   omega
                 · subst q; omega
                 · have := hI1.1 D2 q
                   rw [g4] at this
                   omega)
      · refine x_1 (p' := 34) hC rfl rfl rfl rfl ?_
        refine z_or0 (p' := 35) hO hC rfl rfl ?_
        refine x_1 (p' := 36) hC rfl rfl rfl rfl ?_
        refine z_og2 (p' := 37) hO hC rfl rfl ?_
        refine z_ox (p' := 38) hO hC rfl rfl rfl (by omega) (by omega) ?_
        refine x_1 (p' := 39) hC rfl rfl rfl rfl ?_
        refine x_iclt (p' := 40) hC rfl rfl (fun c39 => ?_) (fun c39 => ?_)
        · refine x_1 (p' := 68) hC rfl rfl rfl rfl ?_
          refine z_or4 (p' := 69) hO hC rfl rfl ?_
          refine x_1 (p' := 70) hC rfl rfl rfl rfl ?_
          refine x_1 (p' := 71) hC rfl rfl rfl rfl ?_
          refine x_ifeq (p' := 72) hC rfl rfl (fun _ => ?_) (fun c => absurd c (by decide))
          refine x_1 (p' := 76) hC rfl rfl rfl rfl ?_
          refine z_os (p' := 77) hO hC rfl rfl rfl (by omega) (by omega) (fun hO => ?_)
          refine x_1 (p' := 78) hC rfl rfl rfl rfl ?_
          refine x_1 (p' := 79) hC rfl rfl rfl rfl ?_
          refine x_1 (p' := 80) hC rfl rfl rfl rfl ?_
          refine x_cIS3 (p' := 81) (n := 187) hC rfl rfl rfl rfl rfl ?_
          refine sp_P_isWithin ?_
          refine x_ifeq (p' := 82) hC rfl rfl (fun c81 => ?_) (fun c81 => ?_)
          · have c81 := b2i_0.mp c81
            refine x_1 (p' := 89) hC rfl rfl rfl rfl ?_
            refine x_stI6 (p' := 90) hC rfl rfl rfl ?_
            refine x_1 (p' := 91) hC rfl rfl rfl rfl ?_
            refine x_1 (p' := 92) hC rfl rfl rfl rfl ?_
            refine z_og2 (p' := 93) hO hC rfl rfl ?_
            refine x_1 (p' := 94) hC rfl rfl rfl rfl ?_
            refine x_add (p' := 95) hC rfl rfl rfl (⟨by omega, by omega⟩) ?_
            refine z_op2 (p' := 96) hO hC rfl rfl (fun hO => ?_)
            refine x_1 (p' := 97) hC rfl rfl rfl rfl ?_
            refine x_zret hC rfl rfl rfl (by first | omega | exact b2i_01 _) ⟨_, rfl, ?_⟩
            first
              | (refine K1 _ _ ⟨n, by omega, hI1.1, by omega, by omega, rfl, rfl⟩ _ ?_
                 subst hsg
                 exact hO)
              | (refine K0 (fun x nx ⟨D2, g1, g2, g3, g4, g5, g6⟩ => ?_) _ _ _ (by omega) hO
                 rcases Nat.lt_trichotomy n D2 with q | q | q
                 · have := g2 n q
                   omega
                 · subst q; omega
                 · have := hI1.1 D2 q
                   rw [g4] at this
                   omega)
          · have c81 := b2i_n0.mp c81
            refine x_1 (p' := 83) hC rfl rfl rfl rfl ?_
            refine x_1 (p' := 84) hC rfl rfl rfl rfl ?_
            refine x_cIV1 (p' := 85) (n := 163) hC rfl rfl rfl rfl rfl (hO.ty) ?_
            refine sp_O_isAt hO hL (by omega) ?_
            refine x_ifeq (p' := 86) hC rfl rfl (fun c85 => ?_) (fun c85 => ?_)
            · have c85 := b2i_0.mp c85
              refine x_1 (p' := 89) hC rfl rfl rfl rfl ?_
              refine x_stI6 (p' := 90) hC rfl rfl rfl ?_
              refine x_1 (p' := 91) hC rfl rfl rfl rfl ?_
              refine x_1 (p' := 92) hC rfl rfl rfl rfl ?_
              refine z_og2 (p' := 93) hO hC rfl rfl ?_
              refine x_1 (p' := 94) hC rfl rfl rfl rfl ?_
              refine x_add (p' := 95) hC rfl rfl rfl (⟨by omega, by omega⟩) ?_
              refine z_op2 (p' := 96) hO hC rfl rfl (fun hO => ?_)
              refine x_1 (p' := 97) hC rfl rfl rfl rfl ?_
              refine x_zret hC rfl rfl rfl (by first | omega | exact b2i_01 _) ⟨_, rfl, ?_⟩
              first
                | (refine K1 _ _ ⟨n, by omega, hI1.1, by omega, by omega, rfl, rfl⟩ _ ?_
                   subst hsg
                   exact hO)
                | (refine K0 (fun x nx ⟨D2, g1, g2, g3, g4, g5, g6⟩ => ?_) _ _ _ (by omega) hO
                   rcases Nat.lt_trichotomy n D2 with q | q | q
                   · have := g2 n q
                     omega
                   · subst q; omega
                   · have := hI1.1 D2 q
                     rw [g4] at this
                     omega)
            · have c85 := b2i_n0.mp c85
              refine x_1 (p' := 87) hC rfl rfl rfl rfl ?_
              refine x_1 (p' := 89) hC rfl rfl rfl rfl ?_
              refine x_stI6 (p' := 90) hC rfl rfl rfl ?_
              refine x_1 (p' := 91) hC rfl rfl rfl rfl ?_
              refine x_1 (p' := 92) hC rfl rfl rfl rfl ?_
              refine z_og2 (p' := 93) hO hC rfl rfl ?_
              refine x_1 (p' := 94) hC rfl rfl rfl rfl ?_
              refine x_add (p' := 95) hC rfl rfl rfl (⟨by omega, by omega⟩) ?_
              refine z_op2 (p' := 96) hO hC rfl rfl (fun hO => ?_)
              refine x_1 (p' := 97) hC rfl rfl rfl rfl ?_
              refine x_zret hC rfl rfl rfl (by first | omega | exact b2i_01 _) ⟨_, rfl, ?_⟩
              first
                | (refine K1 _ _ ⟨n, by omega, hI1.1, by omega, by omega, rfl, rfl⟩ _ ?_
                   subst hsg
                   exact hO)
                | (refine K0 (fun x nx ⟨D2, g1, g2, g3, g4, g5, g6⟩ => ?_) _ _ _ (by omega) hO
                   rcases Nat.lt_trichotomy n D2 with q | q | q
                   · have := g2 n q
                     omega
                   · subst q; omega
                   · have := hI1.1 D2 q
                     rw [g4] at this
                     omega)
        · refine x_1 (p' := 41) hC rfl rfl rfl rfl ?_
          refine z_or0 (p' := 42) hO hC rfl rfl ?_
          refine x_1 (p' := 43) hC rfl rfl rfl rfl ?_
          refine z_og2 (p' := 44) hO hC rfl rfl ?_
          refine z_ox (p' := 45) hO hC rfl rfl rfl (by omega) (by omega) ?_
          refine x_1 (p' := 46) hC rfl rfl rfl rfl ?_
          refine x_icgt (p' := 47) hC rfl rfl (fun c46 => ?_) (fun c46 => ?_)
          · refine x_1 (p' := 68) hC rfl rfl rfl rfl ?_
            refine z_or4 (p' := 69) hO hC rfl rfl ?_
            refine x_1 (p' := 70) hC rfl rfl rfl rfl ?_
            refine x_1 (p' := 71) hC rfl rfl rfl rfl ?_
            refine x_ifeq (p' := 72) hC rfl rfl (fun _ => ?_) (fun c => absurd c (by decide))
            refine x_1 (p' := 76) hC rfl rfl rfl rfl ?_
            refine z_os (p' := 77) hO hC rfl rfl rfl (by omega) (by omega) (fun hO => ?_)
            refine x_1 (p' := 78) hC rfl rfl rfl rfl ?_
            refine x_1 (p' := 79) hC rfl rfl rfl rfl ?_
            refine x_1 (p' := 80) hC rfl rfl rfl rfl ?_
            refine x_cIS3 (p' := 81) (n := 187) hC rfl rfl rfl rfl rfl ?_
            refine sp_P_isWithin ?_
            refine x_ifeq (p' := 82) hC rfl rfl (fun c81 => ?_) (fun c81 => ?_)
            · have c81 := b2i_0.mp c81
              refine x_1 (p' := 89) hC rfl rfl rfl rfl ?_
              refine x_stI6 (p' := 90) hC rfl rfl rfl ?_
              refine x_1 (p' := 91) hC rfl rfl rfl rfl ?_
              refine x_1 (p' := 92) hC rfl rfl rfl rfl ?_
              refine z_og2 (p' := 93) hO hC rfl rfl ?_
              refine x_1 (p' := 94) hC rfl rfl rfl rfl ?_
              refine x_add (p' := 95) hC rfl rfl rfl (⟨by omega, by omega⟩) ?_
              refine z_op2 (p' := 96) hO hC rfl rfl (fun hO => ?_)
              refine x_1 (p' := 97) hC rfl rfl rfl rfl ?_
              refine x_zret hC rfl rfl rfl (by first | omega | exact b2i_01 _) ⟨_, rfl, ?_⟩
              first
                | (refine K1 _ _ ⟨n, by omega, hI1.1, by omega, by omega, rfl, rfl⟩ _ ?_
                   subst hsg
                   exact hO)
                | (refine K0 (fun x nx ⟨D2, g1, g2, g3, g4, g5, g6⟩ => ?_) _ _ _ (by omega) hO
                   rcases Nat.lt_trichotomy n D2 with q | q | q
                   · have := g2 n q
                     omega
                   · subst q; omega
                   · have := hI1.1 D2 q
                     rw [g4] at this
                     omega)
            · have c81 := b2i_n0.mp c81
              refine x_1 (p' := 83) hC rfl rfl rfl rfl ?_
              refine x_1 (p' := 84) hC rfl rfl rfl rfl ?_
              refine x_cIV1 (p' := 85) (n := 163) hC rfl rfl rfl rfl rfl (hO.ty) ?_
              refine sp_O_isAt hO hL (by omega) ?_
              refine x_ifeq (p' := 86) hC rfl rfl (fun c85 => ?_) (fun c85 => ?_)
              · have c85 := b2i_0.mp c85
                refine x_1 (p' := 89) hC rfl rfl rfl rfl ?_
                refine x_stI6 (p' := 90) hC rfl rfl rfl ?_
                refine x_1 (p' := 91) hC rfl rfl rfl rfl ?_
                refine x_1 (p' := 92) hC rfl rfl rfl rfl ?_
                refine z_og2 (p' := 93) hO hC rfl rfl ?_
                refine x_1 (p' := 94) hC rfl rfl rfl rfl ?_
                refine x_add (p' := 95) hC rfl rfl rfl (⟨by omega, by omega⟩) ?_
                refine z_op2 (p' := 96) hO hC rfl rfl (fun hO => ?_)
                refine x_1 (p' := 97) hC rfl rfl rfl rfl ?_
                refine x_zret hC rfl rfl rfl (by first | omega | exact b2i_01 _) ⟨_, rfl, ?_⟩
                first
                  | (refine K1 _ _ ⟨n, by omega, hI1.1, by omega, by omega, rfl, rfl⟩ _ ?_
                     subst hsg
                     exact hO)
                  | (refine K0 (fun x nx ⟨D2, g1, g2, g3, g4, g5, g6⟩ => ?_) _ _ _ (by omega) hO
                     rcases Nat.lt_trichotomy n D2 with q | q | q
                     · have := g2 n q
                       omega
                     · subst q; omega
                     · have := hI1.1 D2 q
                       rw [g4] at this
                       omega)
              · have c85 := b2i_n0.mp c85
                refine x_1 (p' := 87) hC rfl rfl rfl rfl ?_
                refine x_1 (p' := 89) hC rfl rfl rfl rfl ?_
                refine x_stI6 (p' := 90) hC rfl rfl rfl ?_
                refine x_1 (p' := 91) hC rfl rfl rfl rfl ?_
                refine x_1 (p' := 92) hC rfl rfl rfl rfl ?_
                refine z_og2 (p' := 93) hO hC rfl rfl ?_
                refine x_1 (p' := 94) hC rfl rfl rfl rfl ?_
                refine x_add (p' := 95) hC rfl rfl rfl (⟨by omega, by omega⟩) ?_
                refine z_op2 (p' := 96) hO hC rfl rfl (fun hO => ?_)
                refine x_1 (p' := 97) hC rfl rfl rfl rfl ?_
                refine x_zret hC rfl rfl rfl (by first | omega | exact b2i_01 _) ⟨_, rfl, ?_⟩
                first
                  | (refine K1 _ _ ⟨n, by omega, hI1.1, by omega, by omega, rfl, rfl⟩ _ ?_
                     subst hsg
                     exact hO)
                  | (refine K0 (fun x nx ⟨D2, g1, g2, g3, g4, g5, g6⟩ => ?_) _ _ _ (by omega) hO
                     rcases Nat.lt_trichotomy n D2 with q | q | q
                     · have := g2 n q
                       omega
                     · subst q; omega
                     · have := hI1.1 D2 q
                       rw [g4] at this
                       omega)
          · refine x_1 (p' := 48) hC rfl rfl rfl rfl ?_
            refine x_1 (p' := 49) hC rfl rfl rfl rfl ?_
            refine x_mul (p' := 50) hC rfl rfl rfl (⟨by omega, by omega⟩) ?_
            refine x_1 (p' := 51) hC rfl rfl rfl rfl ?_
            refine z_or0 (p' := 52) hO hC rfl rfl ?_
            refine x_1 (p' := 53) hC rfl rfl rfl rfl ?_
            refine z_og2 (p' := 54) hO hC rfl rfl ?_
            refine z_ox (p' := 55) hO hC rfl rfl rfl (by omega) (by omega) ?_
            refine x_1 (p' := 56) hC rfl rfl rfl rfl ?_
            refine x_sub (p' := 57) hC rfl rfl rfl (⟨by omega, by omega⟩) ?_
            refine x_add (p' := 58) hC rfl rfl rfl (⟨by omega, by omega⟩) ?_
            rw [show 10 * dVal tx (A + sg) n + (tx (A + sg + n) - 48) = dVal tx (A + sg) (n + 1) from rfl]
            refine x_stI4 (p' := 59) hC rfl rfl rfl ?_
            refine x_inc5 (p' := 60) hC rfl rfl (⟨by omega, by omega⟩) ?_
            refine x_1 (p' := 61) hC rfl rfl rfl rfl ?_
            refine x_1 (p' := 62) hC rfl rfl rfl rfl ?_
            refine z_og2 (p' := 63) hO hC rfl rfl ?_
            refine x_1 (p' := 64) hC rfl rfl rfl rfl ?_
            refine x_add (p' := 65) hC rfl rfl rfl (⟨by omega, by omega⟩) ?_
            refine z_op2 (p' := 66) hO hC rfl rfl (fun hO => ?_)
            refine x_1 (p' := 25) hC rfl rfl rfl rfl ?_
            rw [show (n : Int) + 1 = ((n + 1 : Nat) : Int) by omega]
            rw [show A + sg + (n : Int) + 1 = A + sg + ((n + 1 : Nat) : Int) by omega] at *
            refine ih (n + 1) _ _ (by omega) (by omega) ⟨fun j hj => ?_, by omega⟩ hO
            by_cases hjn : j = n
            · rw [hjn]; exact ⟨by omega, by omega⟩
            · exact hI1.1 j (by omega)
set_option maxRecDepth 20000 in
theorem lp_O_num1 {d : Nat} {G : HP} {L A Cc D B E : Int} {tx nu : Int → Int} (hL : 0 ≤ L ∧ L ≤ 60) (hA : 0 ≤ A ∧ A ≤ 100) {ix e sg : Int} (hk : 0 ≤ ix ∧ ix ≤ 2) (he : e = 44 ∨ e = 59) (hsg : sg = 1) {Q : Int → HP → Prop} (K1 : ∀ x nx, NumIs tx L (A + sg) e x nx → ∀ h', OT G h' L nx Cc D B E tx (ups nu ix (if sg = 1 then -x else x)) → Q 1 h') (K0 : (∀ x nx, ¬ NumIs tx L (A + sg) e x nx) → ∀ h' A' nu', 0 ≤ A' → OT G h' L A' Cc D B E tx nu' → Q 0 h') (k : Nat) : ∀ (n : Nat) (h : HP) (z : Option AV), 7 - n < k → (n ≤ 7) → ((∀ j : Nat, j < n → isDig (tx (A + sg + j))) ∧ A + sg + n ≤ max L (A + sg)) → (OT G h L (A + sg + n) Cc D B E tx nu) → At (d + 1) 162 25 [some (.inr (some 5)), some (.inl ix), some (.inl e), some (.inl 1), some (.inl (dVal tx (A + sg) n)), some (.inl (n : Nat)), z] [] h (fun v h' => ∃ x, v = some (.inl x) ∧ Q x h') := by
  have hC : cod 162 = c_O_readNumber := rfl
  induction k with
  | zero =>
    intro n h z hk
    exact absurd hk (Nat.not_lt_zero _)
  | succ k ih =>
    intro n h z hk hI0 hI1 hI2
    have hO := hI2
    have hdv := dVal_rng (tx := tx) (a := A + sg) n hI1.1
    have hpb := pB_le ⟨n, by omega⟩
    dsimp only at hpb
    have hrg : inR (if (1 : Int) = 0 then dVal tx (A + sg) n else -dVal tx (A + sg) n) := ⟨by split <;> omega, by split <;> omega⟩
    refine x_1 (p' := 26) hC rfl rfl rfl rfl ?_
    refine x_1 (p' := 27) hC rfl rfl rfl rfl ?_
    refine x_icgt (p' := 28) hC rfl rfl (fun c27 => ?_) (fun c27 => ?_)
    · refine x_1 (p' := 68) hC rfl rfl rfl rfl ?_
      refine z_or4 (p' := 69) hO hC rfl rfl ?_
      refine x_1 (p' := 70) hC rfl rfl rfl rfl ?_
      refine x_1 (p' := 71) hC rfl rfl rfl rfl ?_
      refine x_ifeq (p' := 72) hC rfl rfl (fun c => absurd c (by decide)) (fun _ => ?_)
      refine x_1 (p' := 73) hC rfl rfl rfl rfl ?_
      refine x_1 (p' := 74) hC rfl rfl rfl rfl ?_
      rw [show (fun x => wr (-x)) (dVal tx (A + sg) n) = -dVal tx (A + sg) n from wr_id ⟨by omega, by omega⟩]
      refine x_1 (p' := 76) hC rfl rfl rfl rfl ?_
      refine z_os (p' := 77) hO hC rfl rfl rfl (by omega) (by omega) (fun hO => ?_)
      refine x_1 (p' := 78) hC rfl rfl rfl rfl ?_
      refine x_1 (p' := 79) hC rfl rfl rfl rfl ?_
      refine x_1 (p' := 80) hC rfl rfl rfl rfl ?_
      refine x_cIS3 (p' := 81) (n := 187) hC rfl rfl rfl rfl rfl ?_
      refine sp_P_isWithin ?_
      refine x_ifeq (p' := 82) hC rfl rfl (fun c81 => ?_) (fun c81 => ?_)
      · have c81 := b2i_0.mp c81
        refine x_1 (p' := 89) hC rfl rfl rfl rfl ?_
        refine x_stI6 (p' := 90) hC rfl rfl rfl ?_
        refine x_1 (p' := 91) hC rfl rfl rfl rfl ?_
        refine x_1 (p' := 92) hC rfl rfl rfl rfl ?_
        refine z_og2 (p' := 93) hO hC rfl rfl ?_
        refine x_1 (p' := 94) hC rfl rfl rfl rfl ?_
        refine x_add (p' := 95) hC rfl rfl rfl (⟨by omega, by omega⟩) ?_
        refine z_op2 (p' := 96) hO hC rfl rfl (fun hO => ?_)
        refine x_1 (p' := 97) hC rfl rfl rfl rfl ?_
        refine x_zret hC rfl rfl rfl (by first | omega | exact b2i_01 _) ⟨_, rfl, ?_⟩
        first
          | (refine K1 _ _ ⟨n, by omega, hI1.1, by omega, by omega, rfl, rfl⟩ _ ?_
             subst hsg
             exact hO)
          | (refine K0 (fun x nx ⟨D2, g1, g2, g3, g4, g5, g6⟩ => ?_) _ _ _ (by omega) hO
             rcases Nat.lt_trichotomy n D2 with q | q | q
             · have := g2 n q
               omega
             · subst q; omega
             · have := hI1.1 D2 q
               rw [g4] at this
               omega)
      · have c81 := b2i_n0.mp c81
        refine x_1 (p' := 83) hC rfl rfl rfl rfl ?_
        refine x_1 (p' := 84) hC rfl rfl rfl rfl ?_
        refine x_cIV1 (p' := 85) (n := 163) hC rfl rfl rfl rfl rfl (hO.ty) ?_
        refine sp_O_isAt hO hL (by omega) ?_
        refine x_ifeq (p' := 86) hC rfl rfl (fun c85 => ?_) (fun c85 => ?_)
        · have c85 := b2i_0.mp c85
          refine x_1 (p' := 89) hC rfl rfl rfl rfl ?_
          refine x_stI6 (p' := 90) hC rfl rfl rfl ?_
          refine x_1 (p' := 91) hC rfl rfl rfl rfl ?_
          refine x_1 (p' := 92) hC rfl rfl rfl rfl ?_
          refine z_og2 (p' := 93) hO hC rfl rfl ?_
          refine x_1 (p' := 94) hC rfl rfl rfl rfl ?_
          refine x_add (p' := 95) hC rfl rfl rfl (⟨by omega, by omega⟩) ?_
          refine z_op2 (p' := 96) hO hC rfl rfl (fun hO => ?_)
          refine x_1 (p' := 97) hC rfl rfl rfl rfl ?_
          refine x_zret hC rfl rfl rfl (by first | omega | exact b2i_01 _) ⟨_, rfl, ?_⟩
          first
            | (refine K1 _ _ ⟨n, by omega, hI1.1, by omega, by omega, rfl, rfl⟩ _ ?_
               subst hsg
               exact hO)
            | (refine K0 (fun x nx ⟨D2, g1, g2, g3, g4, g5, g6⟩ => ?_) _ _ _ (by omega) hO
               rcases Nat.lt_trichotomy n D2 with q | q | q
               · have := g2 n q
                 omega
               · subst q; omega
               · have := hI1.1 D2 q
                 rw [g4] at this
                 omega)
        · have c85 := b2i_n0.mp c85
          refine x_1 (p' := 87) hC rfl rfl rfl rfl ?_
          refine x_1 (p' := 89) hC rfl rfl rfl rfl ?_
          refine x_stI6 (p' := 90) hC rfl rfl rfl ?_
          refine x_1 (p' := 91) hC rfl rfl rfl rfl ?_
          refine x_1 (p' := 92) hC rfl rfl rfl rfl ?_
          refine z_og2 (p' := 93) hO hC rfl rfl ?_
          refine x_1 (p' := 94) hC rfl rfl rfl rfl ?_
          refine x_add (p' := 95) hC rfl rfl rfl (⟨by omega, by omega⟩) ?_
          refine z_op2 (p' := 96) hO hC rfl rfl (fun hO => ?_)
          refine x_1 (p' := 97) hC rfl rfl rfl rfl ?_
          refine x_zret hC rfl rfl rfl (by first | omega | exact b2i_01 _) ⟨_, rfl, ?_⟩
          first
            | (refine K1 _ _ ⟨n, by omega, hI1.1, by omega, by omega, rfl, rfl⟩ _ ?_
               subst hsg
               exact hO)
            | (refine K0 (fun x nx ⟨D2, g1, g2, g3, g4, g5, g6⟩ => ?_) _ _ _ (by omega) hO
               rcases Nat.lt_trichotomy n D2 with q | q | q
               · have := g2 n q
                 omega
               · subst q; omega
               · have := hI1.1 D2 q
                 rw [g4] at this
                 omega)
    · refine x_1 (p' := 29) hC rfl rfl rfl rfl ?_
      refine z_og2 (p' := 30) hO hC rfl rfl ?_
      refine x_1 (p' := 31) hC rfl rfl rfl rfl ?_
      refine z_og1 (p' := 32) hO hC rfl rfl ?_
      refine x_icge (p' := 33) hC rfl rfl (fun c32 => ?_) (fun c32 => ?_)
      · refine x_1 (p' := 68) hC rfl rfl rfl rfl ?_
        refine z_or4 (p' := 69) hO hC rfl rfl ?_
        refine x_1 (p' := 70) hC rfl rfl rfl rfl ?_
        refine x_1 (p' := 71) hC rfl rfl rfl rfl ?_
        refine x_ifeq (p' := 72) hC rfl rfl (fun c => absurd c (by decide)) (fun _ => ?_)
        refine x_1 (p' := 73) hC rfl rfl rfl rfl ?_
        refine x_1 (p' := 74) hC rfl rfl rfl rfl ?_
        rw [show (fun x => wr (-x)) (dVal tx (A + sg) n) = -dVal tx (A + sg) n from wr_id ⟨by omega, by omega⟩]
        refine x_1 (p' := 76) hC rfl rfl rfl rfl ?_
        refine z_os (p' := 77) hO hC rfl rfl rfl (by omega) (by omega) (fun hO => ?_)
        refine x_1 (p' := 78) hC rfl rfl rfl rfl ?_
        refine x_1 (p' := 79) hC rfl rfl rfl rfl ?_
        refine x_1 (p' := 80) hC rfl rfl rfl rfl ?_
        refine x_cIS3 (p' := 81) (n := 187) hC rfl rfl rfl rfl rfl ?_
        refine sp_P_isWithin ?_
        refine x_ifeq (p' := 82) hC rfl rfl (fun c81 => ?_) (fun c81 => ?_)
        · have c81 := b2i_0.mp c81
          refine x_1 (p' := 89) hC rfl rfl rfl rfl ?_
          refine x_stI6 (p' := 90) hC rfl rfl rfl ?_
          refine x_1 (p' := 91) hC rfl rfl rfl rfl ?_
          refine x_1 (p' := 92) hC rfl rfl rfl rfl ?_
          refine z_og2 (p' := 93) hO hC rfl rfl ?_
          refine x_1 (p' := 94) hC rfl rfl rfl rfl ?_
          refine x_add (p' := 95) hC rfl rfl rfl (⟨by omega, by omega⟩) ?_
          refine z_op2 (p' := 96) hO hC rfl rfl (fun hO => ?_)
          refine x_1 (p' := 97) hC rfl rfl rfl rfl ?_
          refine x_zret hC rfl rfl rfl (by first | omega | exact b2i_01 _) ⟨_, rfl, ?_⟩
          first
            | (refine K1 _ _ ⟨n, by omega, hI1.1, by omega, by omega, rfl, rfl⟩ _ ?_
               subst hsg
               exact hO)
            | (refine K0 (fun x nx ⟨D2, g1, g2, g3, g4, g5, g6⟩ => ?_) _ _ _ (by omega) hO
               rcases Nat.lt_trichotomy n D2 with q | q | q
               · have := g2 n q
                 omega
               · subst q; omega
               · have := hI1.1 D2 q
                 rw [g4] at this
                 omega)
        · have c81 := b2i_n0.mp c81
          refine x_1 (p' := 83) hC rfl rfl rfl rfl ?_
          refine x_1 (p' := 84) hC rfl rfl rfl rfl ?_
          refine x_cIV1 (p' := 85) (n := 163) hC rfl rfl rfl rfl rfl (hO.ty) ?_
          refine sp_O_isAt hO hL (by omega) ?_
          refine x_ifeq (p' := 86) hC rfl rfl (fun c85 => ?_) (fun c85 => ?_)
          · have c85 := b2i_0.mp c85
            refine x_1 (p' := 89) hC rfl rfl rfl rfl ?_
            refine x_stI6 (p' := 90) hC rfl rfl rfl ?_
            refine x_1 (p' := 91) hC rfl rfl rfl rfl ?_
            refine x_1 (p' := 92) hC rfl rfl rfl rfl ?_
            refine z_og2 (p' := 93) hO hC rfl rfl ?_
            refine x_1 (p' := 94) hC rfl rfl rfl rfl ?_
            refine x_add (p' := 95) hC rfl rfl rfl (⟨by omega, by omega⟩) ?_
            refine z_op2 (p' := 96) hO hC rfl rfl (fun hO => ?_)
            refine x_1 (p' := 97) hC rfl rfl rfl rfl ?_
            refine x_zret hC rfl rfl rfl (by first | omega | exact b2i_01 _) ⟨_, rfl, ?_⟩
            first
              | (refine K1 _ _ ⟨n, by omega, hI1.1, by omega, by omega, rfl, rfl⟩ _ ?_
                 subst hsg
                 exact hO)
              | (refine K0 (fun x nx ⟨D2, g1, g2, g3, g4, g5, g6⟩ => ?_) _ _ _ (by omega) hO
                 rcases Nat.lt_trichotomy n D2 with q | q | q
                 · have := g2 n q
                   omega
                 · subst q; omega
                 · have := hI1.1 D2 q
                   rw [g4] at this
                   omega)
          · have c85 := b2i_n0.mp c85
            refine x_1 (p' := 87) hC rfl rfl rfl rfl ?_
            refine x_1 (p' := 89) hC rfl rfl rfl rfl ?_
            refine x_stI6 (p' := 90) hC rfl rfl rfl ?_
            refine x_1 (p' := 91) hC rfl rfl rfl rfl ?_
            refine x_1 (p' := 92) hC rfl rfl rfl rfl ?_
            refine z_og2 (p' := 93) hO hC rfl rfl ?_
            refine x_1 (p' := 94) hC rfl rfl rfl rfl ?_
            refine x_add (p' := 95) hC rfl rfl rfl (⟨by omega, by omega⟩) ?_
            refine z_op2 (p' := 96) hO hC rfl rfl (fun hO => ?_)
            refine x_1 (p' := 97) hC rfl rfl rfl rfl ?_
            refine x_zret hC rfl rfl rfl (by first | omega | exact b2i_01 _) ⟨_, rfl, ?_⟩
            first
              | (refine K1 _ _ ⟨n, by omega, hI1.1, by omega, by omega, rfl, rfl⟩ _ ?_
                 subst hsg
                 exact hO)
              | (refine K0 (fun x nx ⟨D2, g1, g2, g3, g4, g5, g6⟩ => ?_) _ _ _ (by omega) hO
                 rcases Nat.lt_trichotomy n D2 with q | q | q
                 · have := g2 n q
                   omega
                 · subst q; omega
                 · have := hI1.1 D2 q
                   rw [g4] at this
                   omega)
      · refine x_1 (p' := 34) hC rfl rfl rfl rfl ?_
        refine z_or0 (p' := 35) hO hC rfl rfl ?_
        refine x_1 (p' := 36) hC rfl rfl rfl rfl ?_
        refine z_og2 (p' := 37) hO hC rfl rfl ?_
        refine z_ox (p' := 38) hO hC rfl rfl rfl (by omega) (by omega) ?_
        refine x_1 (p' := 39) hC rfl rfl rfl rfl ?_
        refine x_iclt (p' := 40) hC rfl rfl (fun c39 => ?_) (fun c39 => ?_)
        · refine x_1 (p' := 68) hC rfl rfl rfl rfl ?_
          refine z_or4 (p' := 69) hO hC rfl rfl ?_
          refine x_1 (p' := 70) hC rfl rfl rfl rfl ?_
          refine x_1 (p' := 71) hC rfl rfl rfl rfl ?_
          refine x_ifeq (p' := 72) hC rfl rfl (fun c => absurd c (by decide)) (fun _ => ?_)
          refine x_1 (p' := 73) hC rfl rfl rfl rfl ?_
          refine x_1 (p' := 74) hC rfl rfl rfl rfl ?_
          rw [show (fun x => wr (-x)) (dVal tx (A + sg) n) = -dVal tx (A + sg) n from wr_id ⟨by omega, by omega⟩]
          refine x_1 (p' := 76) hC rfl rfl rfl rfl ?_
          refine z_os (p' := 77) hO hC rfl rfl rfl (by omega) (by omega) (fun hO => ?_)
          refine x_1 (p' := 78) hC rfl rfl rfl rfl ?_
          refine x_1 (p' := 79) hC rfl rfl rfl rfl ?_
          refine x_1 (p' := 80) hC rfl rfl rfl rfl ?_
          refine x_cIS3 (p' := 81) (n := 187) hC rfl rfl rfl rfl rfl ?_
          refine sp_P_isWithin ?_
          refine x_ifeq (p' := 82) hC rfl rfl (fun c81 => ?_) (fun c81 => ?_)
          · have c81 := b2i_0.mp c81
            refine x_1 (p' := 89) hC rfl rfl rfl rfl ?_
            refine x_stI6 (p' := 90) hC rfl rfl rfl ?_
            refine x_1 (p' := 91) hC rfl rfl rfl rfl ?_
            refine x_1 (p' := 92) hC rfl rfl rfl rfl ?_
            refine z_og2 (p' := 93) hO hC rfl rfl ?_
            refine x_1 (p' := 94) hC rfl rfl rfl rfl ?_
            refine x_add (p' := 95) hC rfl rfl rfl (⟨by omega, by omega⟩) ?_
            refine z_op2 (p' := 96) hO hC rfl rfl (fun hO => ?_)
            refine x_1 (p' := 97) hC rfl rfl rfl rfl ?_
            refine x_zret hC rfl rfl rfl (by first | omega | exact b2i_01 _) ⟨_, rfl, ?_⟩
            first
              | (refine K1 _ _ ⟨n, by omega, hI1.1, by omega, by omega, rfl, rfl⟩ _ ?_
                 subst hsg
                 exact hO)
              | (refine K0 (fun x nx ⟨D2, g1, g2, g3, g4, g5, g6⟩ => ?_) _ _ _ (by omega) hO
                 rcases Nat.lt_trichotomy n D2 with q | q | q
                 · have := g2 n q
                   omega
                 · subst q; omega
                 · have := hI1.1 D2 q
                   rw [g4] at this
                   omega)
          · have c81 := b2i_n0.mp c81
            refine x_1 (p' := 83) hC rfl rfl rfl rfl ?_
            refine x_1 (p' := 84) hC rfl rfl rfl rfl ?_
            refine x_cIV1 (p' := 85) (n := 163) hC rfl rfl rfl rfl rfl (hO.ty) ?_
            refine sp_O_isAt hO hL (by omega) ?_
            refine x_ifeq (p' := 86) hC rfl rfl (fun c85 => ?_) (fun c85 => ?_)
            · have c85 := b2i_0.mp c85
              refine x_1 (p' := 89) hC rfl rfl rfl rfl ?_
              refine x_stI6 (p' := 90) hC rfl rfl rfl ?_
              refine x_1 (p' := 91) hC rfl rfl rfl rfl ?_
              refine x_1 (p' := 92) hC rfl rfl rfl rfl ?_
              refine z_og2 (p' := 93) hO hC rfl rfl ?_
              refine x_1 (p' := 94) hC rfl rfl rfl rfl ?_
              refine x_add (p' := 95) hC rfl rfl rfl (⟨by omega, by omega⟩) ?_
              refine z_op2 (p' := 96) hO hC rfl rfl (fun hO => ?_)
              refine x_1 (p' := 97) hC rfl rfl rfl rfl ?_
              refine x_zret hC rfl rfl rfl (by first | omega | exact b2i_01 _) ⟨_, rfl, ?_⟩
              first
                | (refine K1 _ _ ⟨n, by omega, hI1.1, by omega, by omega, rfl, rfl⟩ _ ?_
                   subst hsg
                   exact hO)
                | (refine K0 (fun x nx ⟨D2, g1, g2, g3, g4, g5, g6⟩ => ?_) _ _ _ (by omega) hO
                   rcases Nat.lt_trichotomy n D2 with q | q | q
                   · have := g2 n q
                     omega
                   · subst q; omega
                   · have := hI1.1 D2 q
                     rw [g4] at this
                     omega)
            · have c85 := b2i_n0.mp c85
              refine x_1 (p' := 87) hC rfl rfl rfl rfl ?_
              refine x_1 (p' := 89) hC rfl rfl rfl rfl ?_
              refine x_stI6 (p' := 90) hC rfl rfl rfl ?_
              refine x_1 (p' := 91) hC rfl rfl rfl rfl ?_
              refine x_1 (p' := 92) hC rfl rfl rfl rfl ?_
              refine z_og2 (p' := 93) hO hC rfl rfl ?_
              refine x_1 (p' := 94) hC rfl rfl rfl rfl ?_
              refine x_add (p' := 95) hC rfl rfl rfl (⟨by omega, by omega⟩) ?_
              refine z_op2 (p' := 96) hO hC rfl rfl (fun hO => ?_)
              refine x_1 (p' := 97) hC rfl rfl rfl rfl ?_
              refine x_zret hC rfl rfl rfl (by first | omega | exact b2i_01 _) ⟨_, rfl, ?_⟩
              first
                | (refine K1 _ _ ⟨n, by omega, hI1.1, by omega, by omega, rfl, rfl⟩ _ ?_
                   subst hsg
                   exact hO)
                | (refine K0 (fun x nx ⟨D2, g1, g2, g3, g4, g5, g6⟩ => ?_) _ _ _ (by omega) hO
                   rcases Nat.lt_trichotomy n D2 with q | q | q
                   · have := g2 n q
                     omega
                   · subst q; omega
                   · have := hI1.1 D2 q
                     rw [g4] at this
                     omega)
        · refine x_1 (p' := 41) hC rfl rfl rfl rfl ?_
          refine z_or0 (p' := 42) hO hC rfl rfl ?_
          refine x_1 (p' := 43) hC rfl rfl rfl rfl ?_
          refine z_og2 (p' := 44) hO hC rfl rfl ?_
          refine z_ox (p' := 45) hO hC rfl rfl rfl (by omega) (by omega) ?_
          refine x_1 (p' := 46) hC rfl rfl rfl rfl ?_
          refine x_icgt (p' := 47) hC rfl rfl (fun c46 => ?_) (fun c46 => ?_)
          · refine x_1 (p' := 68) hC rfl rfl rfl rfl ?_
            refine z_or4 (p' := 69) hO hC rfl rfl ?_
            refine x_1 (p' := 70) hC rfl rfl rfl rfl ?_
            refine x_1 (p' := 71) hC rfl rfl rfl rfl ?_
            refine x_ifeq (p' := 72) hC rfl rfl (fun c => absurd c (by decide)) (fun _ => ?_)
            refine x_1 (p' := 73) hC rfl rfl rfl rfl ?_
            refine x_1 (p' := 74) hC rfl rfl rfl rfl ?_
            rw [show (fun x => wr (-x)) (dVal tx (A + sg) n) = -dVal tx (A + sg) n from wr_id ⟨by omega, by omega⟩]
            refine x_1 (p' := 76) hC rfl rfl rfl rfl ?_
            refine z_os (p' := 77) hO hC rfl rfl rfl (by omega) (by omega) (fun hO => ?_)
            refine x_1 (p' := 78) hC rfl rfl rfl rfl ?_
            refine x_1 (p' := 79) hC rfl rfl rfl rfl ?_
            refine x_1 (p' := 80) hC rfl rfl rfl rfl ?_
            refine x_cIS3 (p' := 81) (n := 187) hC rfl rfl rfl rfl rfl ?_
            refine sp_P_isWithin ?_
            refine x_ifeq (p' := 82) hC rfl rfl (fun c81 => ?_) (fun c81 => ?_)
            · have c81 := b2i_0.mp c81
              refine x_1 (p' := 89) hC rfl rfl rfl rfl ?_
              refine x_stI6 (p' := 90) hC rfl rfl rfl ?_
              refine x_1 (p' := 91) hC rfl rfl rfl rfl ?_
              refine x_1 (p' := 92) hC rfl rfl rfl rfl ?_
              refine z_og2 (p' := 93) hO hC rfl rfl ?_
              refine x_1 (p' := 94) hC rfl rfl rfl rfl ?_
              refine x_add (p' := 95) hC rfl rfl rfl (⟨by omega, by omega⟩) ?_
              refine z_op2 (p' := 96) hO hC rfl rfl (fun hO => ?_)
              refine x_1 (p' := 97) hC rfl rfl rfl rfl ?_
              refine x_zret hC rfl rfl rfl (by first | omega | exact b2i_01 _) ⟨_, rfl, ?_⟩
              first
                | (refine K1 _ _ ⟨n, by omega, hI1.1, by omega, by omega, rfl, rfl⟩ _ ?_
                   subst hsg
                   exact hO)
                | (refine K0 (fun x nx ⟨D2, g1, g2, g3, g4, g5, g6⟩ => ?_) _ _ _ (by omega) hO
                   rcases Nat.lt_trichotomy n D2 with q | q | q
                   · have := g2 n q
                     omega
                   · subst q; omega
                   · have := hI1.1 D2 q
                     rw [g4] at this
                     omega)
            · have c81 := b2i_n0.mp c81
              refine x_1 (p' := 83) hC rfl rfl rfl rfl ?_
              refine x_1 (p' := 84) hC rfl rfl rfl rfl ?_
              refine x_cIV1 (p' := 85) (n := 163) hC rfl rfl rfl rfl rfl (hO.ty) ?_
              refine sp_O_isAt hO hL (by omega) ?_
              refine x_ifeq (p' := 86) hC rfl rfl (fun c85 => ?_) (fun c85 => ?_)
              · have c85 := b2i_0.mp c85
                refine x_1 (p' := 89) hC rfl rfl rfl rfl ?_
                refine x_stI6 (p' := 90) hC rfl rfl rfl ?_
                refine x_1 (p' := 91) hC rfl rfl rfl rfl ?_
                refine x_1 (p' := 92) hC rfl rfl rfl rfl ?_
                refine z_og2 (p' := 93) hO hC rfl rfl ?_
                refine x_1 (p' := 94) hC rfl rfl rfl rfl ?_
                refine x_add (p' := 95) hC rfl rfl rfl (⟨by omega, by omega⟩) ?_
                refine z_op2 (p' := 96) hO hC rfl rfl (fun hO => ?_)
                refine x_1 (p' := 97) hC rfl rfl rfl rfl ?_
                refine x_zret hC rfl rfl rfl (by first | omega | exact b2i_01 _) ⟨_, rfl, ?_⟩
                first
                  | (refine K1 _ _ ⟨n, by omega, hI1.1, by omega, by omega, rfl, rfl⟩ _ ?_
                     subst hsg
                     exact hO)
                  | (refine K0 (fun x nx ⟨D2, g1, g2, g3, g4, g5, g6⟩ => ?_) _ _ _ (by omega) hO
                     rcases Nat.lt_trichotomy n D2 with q | q | q
                     · have := g2 n q
                       omega
                     · subst q; omega
                     · have := hI1.1 D2 q
                       rw [g4] at this
                       omega)
              · have c85 := b2i_n0.mp c85
                refine x_1 (p' := 87) hC rfl rfl rfl rfl ?_
                refine x_1 (p' := 89) hC rfl rfl rfl rfl ?_
                refine x_stI6 (p' := 90) hC rfl rfl rfl ?_
                refine x_1 (p' := 91) hC rfl rfl rfl rfl ?_
                refine x_1 (p' := 92) hC rfl rfl rfl rfl ?_
                refine z_og2 (p' := 93) hO hC rfl rfl ?_
                refine x_1 (p' := 94) hC rfl rfl rfl rfl ?_
                refine x_add (p' := 95) hC rfl rfl rfl (⟨by omega, by omega⟩) ?_
                refine z_op2 (p' := 96) hO hC rfl rfl (fun hO => ?_)
                refine x_1 (p' := 97) hC rfl rfl rfl rfl ?_
                refine x_zret hC rfl rfl rfl (by first | omega | exact b2i_01 _) ⟨_, rfl, ?_⟩
                first
                  | (refine K1 _ _ ⟨n, by omega, hI1.1, by omega, by omega, rfl, rfl⟩ _ ?_
                     subst hsg
                     exact hO)
                  | (refine K0 (fun x nx ⟨D2, g1, g2, g3, g4, g5, g6⟩ => ?_) _ _ _ (by omega) hO
                     rcases Nat.lt_trichotomy n D2 with q | q | q
                     · have := g2 n q
                       omega
                     · subst q; omega
                     · have := hI1.1 D2 q
                       rw [g4] at this
                       omega)
          · refine x_1 (p' := 48) hC rfl rfl rfl rfl ?_
            refine x_1 (p' := 49) hC rfl rfl rfl rfl ?_
            refine x_mul (p' := 50) hC rfl rfl rfl (⟨by omega, by omega⟩) ?_
            refine x_1 (p' := 51) hC rfl rfl rfl rfl ?_
            refine z_or0 (p' := 52) hO hC rfl rfl ?_
            refine x_1 (p' := 53) hC rfl rfl rfl rfl ?_
            refine z_og2 (p' := 54) hO hC rfl rfl ?_
            refine z_ox (p' := 55) hO hC rfl rfl rfl (by omega) (by omega) ?_
            refine x_1 (p' := 56) hC rfl rfl rfl rfl ?_
            refine x_sub (p' := 57) hC rfl rfl rfl (⟨by omega, by omega⟩) ?_
            refine x_add (p' := 58) hC rfl rfl rfl (⟨by omega, by omega⟩) ?_
            rw [show 10 * dVal tx (A + sg) n + (tx (A + sg + n) - 48) = dVal tx (A + sg) (n + 1) from rfl]
            refine x_stI4 (p' := 59) hC rfl rfl rfl ?_
            refine x_inc5 (p' := 60) hC rfl rfl (⟨by omega, by omega⟩) ?_
            refine x_1 (p' := 61) hC rfl rfl rfl rfl ?_
            refine x_1 (p' := 62) hC rfl rfl rfl rfl ?_
            refine z_og2 (p' := 63) hO hC rfl rfl ?_
            refine x_1 (p' := 64) hC rfl rfl rfl rfl ?_
            refine x_add (p' := 65) hC rfl rfl rfl (⟨by omega, by omega⟩) ?_
            refine z_op2 (p' := 66) hO hC rfl rfl (fun hO => ?_)
            refine x_1 (p' := 25) hC rfl rfl rfl rfl ?_
            rw [show (n : Int) + 1 = ((n + 1 : Nat) : Int) by omega]
            rw [show A + sg + (n : Int) + 1 = A + sg + ((n + 1 : Nat) : Int) by omega] at *
            refine ih (n + 1) _ _ (by omega) (by omega) ⟨fun j hj => ?_, by omega⟩ hO
            by_cases hjn : j = n
            · rw [hjn]; exact ⟨by omega, by omega⟩
            · exact hI1.1 j (by omega)
set_option maxRecDepth 20000 in
set_option maxHeartbeats 2000000 in
theorem sp_O_readNumber {d : Nat} {G h : HP} {L A Cc D B E : Int} {tx nu : Int → Int} (hO : OT G h L A Cc D B E tx nu) (hL : 0 ≤ L ∧ L ≤ 60) (hA : 0 ≤ A) (hA2 : A ≤ 90) {ix e sg : Int} (hk : 0 ≤ ix ∧ ix ≤ 2) (he : e = 44 ∨ e = 59) (hsg : (sg = 1 ∧ ix = 2 ∧ A < L ∧ tx A = 45) ∨ (sg = 0 ∧ ¬ (ix = 2 ∧ A < L ∧ tx A = 45))) {Q : Int → HP → Prop} (K1 : ∀ x nx, NumIs tx L (A + sg) e x nx → ∀ h', OT G h' L nx Cc D B E tx (ups nu ix (if sg = 1 then -x else x)) → Q 1 h') (K0 : (∀ x nx, ¬ NumIs tx L (A + sg) e x nx) → ∀ h' A' nu', 0 ≤ A' → OT G h' L A' Cc D B E tx nu' → Q 0 h') : CaI (d + 1) 162 [.inr (some 5), .inl ix, .inl e] h Q := by
  have hC : cod 162 = c_O_readNumber := rfl
  refine CaI.start rfl ?_
  refine x_1 (p' := 1) hC rfl rfl rfl rfl ?_
  refine x_1 (p' := 2) hC rfl rfl rfl rfl ?_
  refine x_icne (p' := 3) hC rfl rfl (fun c2 => ?_) (fun c2 => ?_)
  · refine x_1 (p' := 10) hC rfl rfl rfl rfl ?_
    refine x_stI3 (p' := 11) hC rfl rfl rfl ?_
    refine x_1 (p' := 12) hC rfl rfl rfl rfl ?_
    refine x_1 (p' := 13) hC rfl rfl rfl rfl ?_
    refine z_og2 (p' := 14) hO hC rfl rfl ?_
    refine x_1 (p' := 15) hC rfl rfl rfl rfl ?_
    refine x_ifeq (p' := 16) hC rfl rfl (fun _ => ?_) (fun c => absurd c (by decide))
    refine x_1 (p' := 19) hC rfl rfl rfl rfl ?_
    refine x_add (p' := 20) hC rfl rfl rfl (⟨by omega, by omega⟩) ?_
    refine z_op2 (p' := 21) hO hC rfl rfl (fun hO => ?_)
    refine x_1 (p' := 22) hC rfl rfl rfl rfl ?_
    refine x_stI4 (p' := 23) hC rfl rfl rfl ?_
    refine x_1 (p' := 24) hC rfl rfl rfl rfl ?_
    refine x_stI5 (p' := 25) hC rfl rfl rfl ?_
    first
      | (have hs1 : sg = 1 := by omega
         subst hs1
         exact lp_O_num1 hL (by omega) hk he rfl K1 K0 _ 0 _ _ (Nat.lt_succ_self _) (by omega) ⟨fun j hj => absurd hj (by omega), by omega⟩ (by rw [show A + 1 + ((0 : Nat) : Int) = A + 1 by omega]; exact hO))
      | (have hs0 : sg = 0 := by omega
         subst hs0
         exact lp_O_num0 hL (by omega) hk he rfl K1 K0 _ 0 _ _ (Nat.lt_succ_self _) (by omega) ⟨fun j hj => absurd hj (by omega), by omega⟩ (by rw [show A + 0 + ((0 : Nat) : Int) = A + 0 by omega]; exact hO))
  · refine x_1 (p' := 4) hC rfl rfl rfl rfl ?_
    refine x_1 (p' := 5) hC rfl rfl rfl rfl ?_
    refine x_cIV1 (p' := 6) (n := 163) hC rfl rfl rfl rfl rfl (hO.ty) ?_
    refine sp_O_isAt hO hL (by omega) ?_
    refine x_ifeq (p' := 7) hC rfl rfl (fun c6 => ?_) (fun c6 => ?_)
    · have c6 := b2i_0.mp c6
      refine x_1 (p' := 10) hC rfl rfl rfl rfl ?_
      refine x_stI3 (p' := 11) hC rfl rfl rfl ?_
      refine x_1 (p' := 12) hC rfl rfl rfl rfl ?_
      refine x_1 (p' := 13) hC rfl rfl rfl rfl ?_
      refine z_og2 (p' := 14) hO hC rfl rfl ?_
      refine x_1 (p' := 15) hC rfl rfl rfl rfl ?_
      refine x_ifeq (p' := 16) hC rfl rfl (fun _ => ?_) (fun c => absurd c (by decide))
      refine x_1 (p' := 19) hC rfl rfl rfl rfl ?_
      refine x_add (p' := 20) hC rfl rfl rfl (⟨by omega, by omega⟩) ?_
      refine z_op2 (p' := 21) hO hC rfl rfl (fun hO => ?_)
      refine x_1 (p' := 22) hC rfl rfl rfl rfl ?_
      refine x_stI4 (p' := 23) hC rfl rfl rfl ?_
      refine x_1 (p' := 24) hC rfl rfl rfl rfl ?_
      refine x_stI5 (p' := 25) hC rfl rfl rfl ?_
      first
        | (have hs1 : sg = 1 := by omega
           subst hs1
           exact lp_O_num1 hL (by omega) hk he rfl K1 K0 _ 0 _ _ (Nat.lt_succ_self _) (by omega) ⟨fun j hj => absurd hj (by omega), by omega⟩ (by rw [show A + 1 + ((0 : Nat) : Int) = A + 1 by omega]; exact hO))
        | (have hs0 : sg = 0 := by omega
           subst hs0
           exact lp_O_num0 hL (by omega) hk he rfl K1 K0 _ 0 _ _ (Nat.lt_succ_self _) (by omega) ⟨fun j hj => absurd hj (by omega), by omega⟩ (by rw [show A + 0 + ((0 : Nat) : Int) = A + 0 by omega]; exact hO))
    · have c6 := b2i_n0.mp c6
      refine x_1 (p' := 8) hC rfl rfl rfl rfl ?_
      refine x_1 (p' := 10) hC rfl rfl rfl rfl ?_
      refine x_stI3 (p' := 11) hC rfl rfl rfl ?_
      refine x_1 (p' := 12) hC rfl rfl rfl rfl ?_
      refine x_1 (p' := 13) hC rfl rfl rfl rfl ?_
      refine z_og2 (p' := 14) hO hC rfl rfl ?_
      refine x_1 (p' := 15) hC rfl rfl rfl rfl ?_
      refine x_ifeq (p' := 16) hC rfl rfl (fun c => absurd c (by decide)) (fun _ => ?_)
      refine x_1 (p' := 17) hC rfl rfl rfl rfl ?_
      refine x_1 (p' := 19) hC rfl rfl rfl rfl ?_
      refine x_add (p' := 20) hC rfl rfl rfl (⟨by omega, by omega⟩) ?_
      refine z_op2 (p' := 21) hO hC rfl rfl (fun hO => ?_)
      refine x_1 (p' := 22) hC rfl rfl rfl rfl ?_
      refine x_stI4 (p' := 23) hC rfl rfl rfl ?_
      refine x_1 (p' := 24) hC rfl rfl rfl rfl ?_
      refine x_stI5 (p' := 25) hC rfl rfl rfl ?_
      first
        | (have hs1 : sg = 1 := by omega
           subst hs1
           exact lp_O_num1 hL (by omega) hk he rfl K1 K0 _ 0 _ _ (Nat.lt_succ_self _) (by omega) ⟨fun j hj => absurd hj (by omega), by omega⟩ (by rw [show A + 1 + ((0 : Nat) : Int) = A + 1 by omega]; exact hO))
        | (have hs0 : sg = 0 := by omega
           subst hs0
           exact lp_O_num0 hL (by omega) hk he rfl K1 K0 _ 0 _ _ (Nat.lt_succ_self _) (by omega) ⟨fun j hj => absurd hj (by omega), by omega⟩ (by rw [show A + 0 + ((0 : Nat) : Int) = A + 0 by omega]; exact hO))

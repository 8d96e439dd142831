/-! THE CLASS: texts, read -/
/-- only ints of the orders (5), their text (6) and their numbers (7) differ -/
def EO (h h' : HP) : Prop := hTy h' = hTy h ∧ hR h' = hR h ∧ hZ h' = hZ h ∧ hU h' = hU h ∧ ∀ b, b ≠ 5 → b ≠ 6 → b ≠ 7 → hI h' b = hI h b
theorem EO.refl {h : HP} : EO h h := ⟨rfl, rfl, rfl, rfl, fun _ _ _ _ => rfl⟩
theorem EO.trans {a b c : HP} (x : EO a b) (y : EO b c) : EO a c := ⟨y.1.trans x.1, y.2.1.trans x.2.1, y.2.2.1.trans x.2.2.1, y.2.2.2.1.trans x.2.2.2.1, fun q h1 h2 h3 => (y.2.2.2.2 q h1 h2 h3).trans (x.2.2.2.2 q h1 h2 h3)⟩
theorem EO.sI {h : HP} {a : Nat} {k v : Int} (ha : a = 5 ∨ a = 6 ∨ a = 7) : EO h (Jvm.Pilot.CPhasorTreeLaw_law_r4566_d5a5ba.sI h a k v) := ⟨rfl, rfl, rfl, rfl, fun _ _ _ _ => hI_sI_ne (by omega)⟩
/-- since G only the orders have changed; they hold: the text tx of length L, the place A, the kind C, D orders done, the start B, the reason E, the numbers nu -/
def OT (G h : HP) (L A C D B E : Int) (tx nu : Int → Int) : Prop := EO G h ∧ (hTy h 5 = (3, 0) ∧ hTy h 6 = (101, 60) ∧ hTy h 7 = (100, 3) ∧ hR h 5 0 = some 6 ∧ hR h 5 4 = some 7) ∧ (hI h 5 1 = L ∧ hI h 5 2 = A ∧ hI h 5 3 = C ∧ hI h 5 5 = D ∧ hI h 5 6 = B ∧ hI h 5 7 = E) ∧ hI h 6 = tx ∧ hI h 7 = nu
theorem OT.ty {G h : HP} {L A C D B E : Int} {tx nu : Int → Int} (O : OT G h L A C D B E tx nu) : (hTy h 5).1 = 2 + 1 := by rw [O.2.1.1]
section ZO
variable {d y pos p' : Nat} {ls : Ls} {h : HP} {Q : Option AV → HP → Prop} {C : List Ins} {st : List AV} {G : HP} {L A Cc D B E : Int} {tx nu : Int → Int}
theorem z_og1 (O : OT G h L A Cc D B E tx nu) (hC : cod y = C) {idx : Nat} {v : Int} {w : Nat} {sw : List Nat} (hi : C[pos]? = some (.getfield idx, v, 2, 1, w, sw)) (hp : pos + 1 = p') (kk : At d y p' ls (.inl L :: st) h Q) : At d y pos ls (.inr (some 5) :: st) h Q := by
  refine x_getI hC hi hp rfl O.ty ?_
  rw [show hI h 5 ((1 : Nat) : Int) = L from O.2.2.1.1]
  exact kk
theorem z_op1 (O : OT G h L A Cc D B E tx nu) (hC : cod y = C) {idx : Nat} {v : Int} {w : Nat} {sw : List Nat} {x : Int} (hi : C[pos]? = some (.putfield idx, v, 2, 1, w, sw)) (hp : pos + 1 = p') (kk : OT G (sI h 5 1 x) x A Cc D B E tx nu → At d y p' ls st (sI h 5 1 x) Q) : At d y pos ls (.inl x :: .inr (some 5) :: st) h Q := by
  refine x_putI hC hi hp rfl O.ty (by decide) (kk ⟨O.1.trans (EO.sI (Or.inl rfl)), O.2.1, ⟨?_, ?_, ?_, ?_, ?_, ?_⟩, ?_, ?_⟩)
  · rw [hI_sI, if_pos ⟨rfl, rfl⟩]
  · rw [hI_sI, if_neg (fun q => absurd q.2 (by decide))]; exact O.2.2.1.2.1
  · rw [hI_sI, if_neg (fun q => absurd q.2 (by decide))]; exact O.2.2.1.2.2.1
  · rw [hI_sI, if_neg (fun q => absurd q.2 (by decide))]; exact O.2.2.1.2.2.2.1
  · rw [hI_sI, if_neg (fun q => absurd q.2 (by decide))]; exact O.2.2.1.2.2.2.2.1
  · rw [hI_sI, if_neg (fun q => absurd q.2 (by decide))]; exact O.2.2.1.2.2.2.2.2
  · rw [hI_sI_ne (by decide)]; exact O.2.2.2.1
  · rw [hI_sI_ne (by decide)]; exact O.2.2.2.2
theorem z_og2 (O : OT G h L A Cc D B E tx nu) (hC : cod y = C) {idx : Nat} {v : Int} {w : Nat} {sw : List Nat} (hi : C[pos]? = some (.getfield idx, v, 2, 2, w, sw)) (hp : pos + 1 = p') (kk : At d y p' ls (.inl A :: st) h Q) : At d y pos ls (.inr (some 5) :: st) h Q := by
  refine x_getI hC hi hp rfl O.ty ?_
  rw [show hI h 5 ((2 : Nat) : Int) = A from O.2.2.1.2.1]
  exact kk
theorem z_op2 (O : OT G h L A Cc D B E tx nu) (hC : cod y = C) {idx : Nat} {v : Int} {w : Nat} {sw : List Nat} {x : Int} (hi : C[pos]? = some (.putfield idx, v, 2, 2, w, sw)) (hp : pos + 1 = p') (kk : OT G (sI h 5 2 x) L x Cc D B E tx nu → At d y p' ls st (sI h 5 2 x) Q) : At d y pos ls (.inl x :: .inr (some 5) :: st) h Q := by
  refine x_putI hC hi hp rfl O.ty (by decide) (kk ⟨O.1.trans (EO.sI (Or.inl rfl)), O.2.1, ⟨?_, ?_, ?_, ?_, ?_, ?_⟩, ?_, ?_⟩)
  · rw [hI_sI, if_neg (fun q => absurd q.2 (by decide))]; exact O.2.2.1.1
  · rw [hI_sI, if_pos ⟨rfl, rfl⟩]
  · rw [hI_sI, if_neg (fun q => absurd q.2 (by decide))]; exact O.2.2.1.2.2.1
  · rw [hI_sI, if_neg (fun q => absurd q.2 (by decide))]; exact O.2.2.1.2.2.2.1
  · rw [hI_sI, if_neg (fun q => absurd q.2 (by decide))]; exact O.2.2.1.2.2.2.2.1
  · rw [hI_sI, if_neg (fun q => absurd q.2 (by decide))]; exact O.2.2.1.2.2.2.2.2
  · rw [hI_sI_ne (by decide)]; exact O.2.2.2.1
  · rw [hI_sI_ne (by decide)]; exact O.2.2.2.2
theorem z_og3 (O : OT G h L A Cc D B E tx nu) (hC : cod y = C) {idx : Nat} {v : Int} {w : Nat} {sw : List Nat} (hi : C[pos]? = some (.getfield idx, v, 2, 3, w, sw)) (hp : pos + 1 = p') (kk : At d y p' ls (.inl Cc :: st) h Q) : At d y pos ls (.inr (some 5) :: st) h Q := by
  refine x_getI hC hi hp rfl O.ty ?_
  rw [show hI h 5 ((3 : Nat) : Int) = Cc from O.2.2.1.2.2.1]
  exact kk
theorem z_op3 (O : OT G h L A Cc D B E tx nu) (hC : cod y = C) {idx : Nat} {v : Int} {w : Nat} {sw : List Nat} {x : Int} (hi : C[pos]? = some (.putfield idx, v, 2, 3, w, sw)) (hp : pos + 1 = p') (hx : 0 ≤ x ∧ x ≤ 65535) (kk : OT G (sI h 5 3 x) L A x D B E tx nu → At d y p' ls st (sI h 5 3 x) Q) : At d y pos ls (.inl x :: .inr (some 5) :: st) h Q := by
  refine x_putB hC hi hp rfl O.ty (by decide) ⟨hx.1, fun q => absurd q (by decide), hx.2⟩ (kk ⟨O.1.trans (EO.sI (Or.inl rfl)), O.2.1, ⟨?_, ?_, ?_, ?_, ?_, ?_⟩, ?_, ?_⟩)
  · rw [hI_sI, if_neg (fun q => absurd q.2 (by decide))]; exact O.2.2.1.1
  · rw [hI_sI, if_neg (fun q => absurd q.2 (by decide))]; exact O.2.2.1.2.1
  · rw [hI_sI, if_pos ⟨rfl, rfl⟩]
  · rw [hI_sI, if_neg (fun q => absurd q.2 (by decide))]; exact O.2.2.1.2.2.2.1
  · rw [hI_sI, if_neg (fun q => absurd q.2 (by decide))]; exact O.2.2.1.2.2.2.2.1
  · rw [hI_sI, if_neg (fun q => absurd q.2 (by decide))]; exact O.2.2.1.2.2.2.2.2
  · rw [hI_sI_ne (by decide)]; exact O.2.2.2.1
  · rw [hI_sI_ne (by decide)]; exact O.2.2.2.2
theorem z_og5 (O : OT G h L A Cc D B E tx nu) (hC : cod y = C) {idx : Nat} {v : Int} {w : Nat} {sw : List Nat} (hi : C[pos]? = some (.getfield idx, v, 2, 5, w, sw)) (hp : pos + 1 = p') (kk : At d y p' ls (.inl D :: st) h Q) : At d y pos ls (.inr (some 5) :: st) h Q := by
  refine x_getI hC hi hp rfl O.ty ?_
  rw [show hI h 5 ((5 : Nat) : Int) = D from O.2.2.1.2.2.2.1]
  exact kk
theorem z_op5 (O : OT G h L A Cc D B E tx nu) (hC : cod y = C) {idx : Nat} {v : Int} {w : Nat} {sw : List Nat} {x : Int} (hi : C[pos]? = some (.putfield idx, v, 2, 5, w, sw)) (hp : pos + 1 = p') (kk : OT G (sI h 5 5 x) L A Cc x B E tx nu → At d y p' ls st (sI h 5 5 x) Q) : At d y pos ls (.inl x :: .inr (some 5) :: st) h Q := by
  refine x_putI hC hi hp rfl O.ty (by decide) (kk ⟨O.1.trans (EO.sI (Or.inl rfl)), O.2.1, ⟨?_, ?_, ?_, ?_, ?_, ?_⟩, ?_, ?_⟩)
  · rw [hI_sI, if_neg (fun q => absurd q.2 (by decide))]; exact O.2.2.1.1
  · rw [hI_sI, if_neg (fun q => absurd q.2 (by decide))]; exact O.2.2.1.2.1
  · rw [hI_sI, if_neg (fun q => absurd q.2 (by decide))]; exact O.2.2.1.2.2.1
  · rw [hI_sI, if_pos ⟨rfl, rfl⟩]
  · rw [hI_sI, if_neg (fun q => absurd q.2 (by decide))]; exact O.2.2.1.2.2.2.2.1
  · rw [hI_sI, if_neg (fun q => absurd q.2 (by decide))]; exact O.2.2.1.2.2.2.2.2
  · rw [hI_sI_ne (by decide)]; exact O.2.2.2.1
  · rw [hI_sI_ne (by decide)]; exact O.2.2.2.2
theorem z_og6 (O : OT G h L A Cc D B E tx nu) (hC : cod y = C) {idx : Nat} {v : Int} {w : Nat} {sw : List Nat} (hi : C[pos]? = some (.getfield idx, v, 2, 6, w, sw)) (hp : pos + 1 = p') (kk : At d y p' ls (.inl B :: st) h Q) : At d y pos ls (.inr (some 5) :: st) h Q := by
  refine x_getI hC hi hp rfl O.ty ?_
  rw [show hI h 5 ((6 : Nat) : Int) = B from O.2.2.1.2.2.2.2.1]
  exact kk
theorem z_op6 (O : OT G h L A Cc D B E tx nu) (hC : cod y = C) {idx : Nat} {v : Int} {w : Nat} {sw : List Nat} {x : Int} (hi : C[pos]? = some (.putfield idx, v, 2, 6, w, sw)) (hp : pos + 1 = p') (kk : OT G (sI h 5 6 x) L A Cc D x E tx nu → At d y p' ls st (sI h 5 6 x) Q) : At d y pos ls (.inl x :: .inr (some 5) :: st) h Q := by
  refine x_putI hC hi hp rfl O.ty (by decide) (kk ⟨O.1.trans (EO.sI (Or.inl rfl)), O.2.1, ⟨?_, ?_, ?_, ?_, ?_, ?_⟩, ?_, ?_⟩)
  · rw [hI_sI, if_neg (fun q => absurd q.2 (by decide))]; exact O.2.2.1.1
  · rw [hI_sI, if_neg (fun q => absurd q.2 (by decide))]; exact O.2.2.1.2.1
  · rw [hI_sI, if_neg (fun q => absurd q.2 (by decide))]; exact O.2.2.1.2.2.1
  · rw [hI_sI, if_neg (fun q => absurd q.2 (by decide))]; exact O.2.2.1.2.2.2.1
  · rw [hI_sI, if_pos ⟨rfl, rfl⟩]
  · rw [hI_sI, if_neg (fun q => absurd q.2 (by decide))]; exact O.2.2.1.2.2.2.2.2
  · rw [hI_sI_ne (by decide)]; exact O.2.2.2.1
  · rw [hI_sI_ne (by decide)]; exact O.2.2.2.2
theorem z_og7 (O : OT G h L A Cc D B E tx nu) (hC : cod y = C) {idx : Nat} {v : Int} {w : Nat} {sw : List Nat} (hi : C[pos]? = some (.getfield idx, v, 2, 7, w, sw)) (hp : pos + 1 = p') (kk : At d y p' ls (.inl E :: st) h Q) : At d y pos ls (.inr (some 5) :: st) h Q := by
  refine x_getI hC hi hp rfl O.ty ?_
  rw [show hI h 5 ((7 : Nat) : Int) = E from O.2.2.1.2.2.2.2.2]
  exact kk
theorem z_op7 (O : OT G h L A Cc D B E tx nu) (hC : cod y = C) {idx : Nat} {v : Int} {w : Nat} {sw : List Nat} {x : Int} (hi : C[pos]? = some (.putfield idx, v, 2, 7, w, sw)) (hp : pos + 1 = p') (kk : OT G (sI h 5 7 x) L A Cc D B x tx nu → At d y p' ls st (sI h 5 7 x) Q) : At d y pos ls (.inl x :: .inr (some 5) :: st) h Q := by
  refine x_putI hC hi hp rfl O.ty (by decide) (kk ⟨O.1.trans (EO.sI (Or.inl rfl)), O.2.1, ⟨?_, ?_, ?_, ?_, ?_, ?_⟩, ?_, ?_⟩)
  · rw [hI_sI, if_neg (fun q => absurd q.2 (by decide))]; exact O.2.2.1.1
  · rw [hI_sI, if_neg (fun q => absurd q.2 (by decide))]; exact O.2.2.1.2.1
  · rw [hI_sI, if_neg (fun q => absurd q.2 (by decide))]; exact O.2.2.1.2.2.1
  · rw [hI_sI, if_neg (fun q => absurd q.2 (by decide))]; exact O.2.2.1.2.2.2.1
  · rw [hI_sI, if_neg (fun q => absurd q.2 (by decide))]; exact O.2.2.1.2.2.2.2.1
  · rw [hI_sI, if_pos ⟨rfl, rfl⟩]
  · rw [hI_sI_ne (by decide)]; exact O.2.2.2.1
  · rw [hI_sI_ne (by decide)]; exact O.2.2.2.2
theorem z_or0 (O : OT G h L A Cc D B E tx nu) (hC : cod y = C) {idx : Nat} {v : Int} {w : Nat} {sw : List Nat} (hi : C[pos]? = some (.getfield idx, v, 2, 0, w, sw)) (hp : pos + 1 = p') (kk : At d y p' ls (.inr (some 6) :: st) h Q) : At d y pos ls (.inr (some 5) :: st) h Q :=
  x_getR hC hi hp rfl O.ty O.2.1.2.2.2.1 kk
theorem z_or4 (O : OT G h L A Cc D B E tx nu) (hC : cod y = C) {idx : Nat} {v : Int} {w : Nat} {sw : List Nat} (hi : C[pos]? = some (.getfield idx, v, 2, 4, w, sw)) (hp : pos + 1 = p') (kk : At d y p' ls (.inr (some 7) :: st) h Q) : At d y pos ls (.inr (some 5) :: st) h Q :=
  x_getR hC hi hp rfl O.ty O.2.1.2.2.2.2 kk
theorem z_ox (O : OT G h L A Cc D B E tx nu) (hC : cod y = C) {i : Ins} {j : Int} (hi : C[pos]? = some i) (hI0 : i.1 = .caload) (hp : pos + 1 = p') (h0 : 0 ≤ j) (h1 : j < 60) (kk : At d y p' ls (.inl (tx j) :: st) h Q) : At d y pos ls (.inl j :: .inr (some 6) :: st) h Q := by
  refine x_cald hC hi hI0 hp O.2.1.2.1 h0 h1 ?_
  rw [O.2.2.2.1]; exact kk
theorem z_on (O : OT G h L A Cc D B E tx nu) (hC : cod y = C) {i : Ins} {j : Int} (hi : C[pos]? = some i) (hI0 : i.1 = .iaload) (hp : pos + 1 = p') (h0 : 0 ≤ j) (h1 : j < 3) (kk : At d y p' ls (.inl (nu j) :: st) h Q) : At d y pos ls (.inl j :: .inr (some 7) :: st) h Q := by
  refine x_iald hC hi hI0 hp O.2.1.2.2.1 h0 h1 ?_
  rw [O.2.2.2.2]; exact kk
theorem z_os (O : OT G h L A Cc D B E tx nu) (hC : cod y = C) {i : Ins} {j x : Int} (hi : C[pos]? = some i) (hI0 : i.1 = .iastore) (hp : pos + 1 = p') (h0 : 0 ≤ j) (h1 : j < 3) (kk : OT G (sI h 7 j x) L A Cc D B E tx (ups nu j x) → At d y p' ls st (sI h 7 j x) Q) : At d y pos ls (.inl x :: .inl j :: .inr (some 7) :: st) h Q := by
  refine x_iast hC hi hI0 hp O.2.1.2.2.1 (by decide) h0 h1 (kk ⟨O.1.trans (EO.sI (Or.inr (Or.inr rfl))), O.2.1, ?_, ?_, ?_⟩)
  · rw [hI_sI_ne (by decide)]; exact O.2.2.1
  · rw [hI_sI_ne (by decide)]; exact O.2.2.2.1
  · funext q
    rw [hI_sI, O.2.2.2.2]
    unfold ups
    by_cases hq : q = j
    · rw [if_pos ⟨rfl, hq⟩, if_pos hq]
    · rw [if_neg (fun e => hq e.2), if_neg hq]
theorem z_oc (O : OT G h L A Cc D B E tx nu) (hC : cod y = C) {i : Ins} {j x : Int} (hi : C[pos]? = some i) (hI0 : i.1 = .castore) (hp : pos + 1 = p') (h0 : 0 ≤ j) (h1 : j < 60) (hx : 0 ≤ x ∧ x ≤ 65535) (kk : OT G (sI h 6 j x) L A Cc D B E (ups tx j x) nu → At d y p' ls st (sI h 6 j x) Q) : At d y pos ls (.inl x :: .inl j :: .inr (some 6) :: st) h Q := by
  refine x_cast hC hi hI0 hp O.2.1.2.1 (by decide) h0 h1 hx (kk ⟨O.1.trans (EO.sI (Or.inr (Or.inl rfl))), O.2.1, ?_, ?_, ?_⟩)
  · rw [hI_sI_ne (by decide)]; exact O.2.2.1
  · funext q
    rw [hI_sI, O.2.2.2.1]
    unfold ups
    by_cases hq : q = j
    · rw [if_pos ⟨rfl, hq⟩, if_pos hq]
    · rw [if_neg (fun e => hq e.2), if_neg hq]
  · rw [hI_sI_ne (by decide)]; exact O.2.2.2.2
end ZO

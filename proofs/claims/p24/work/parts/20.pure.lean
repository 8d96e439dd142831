/-! THE PURE LAYER: what the evaluator answers, as a judgement with rules; no machine behind this row -/
def At (d y pos : Nat) (ls : Ls) (st : List AV) (h : HP) (Q : Option AV → HP → Prop) : Prop := ∃ n v h', run n d y pos ls st h = some (v, h') ∧ Q v h'
def Ca (d y : Nat) (as : List AV) (h : HP) (Q : Option AV → HP → Prop) : Prop := At d y 0 (ini y as) [] h Q
def CaI (d y : Nat) (as : List AV) (h : HP) (Q : Int → HP → Prop) : Prop := Ca d y as h (fun v h' => ∃ x, v = some (.inl x) ∧ Q x h')
def CaR (d y : Nat) (as : List AV) (h : HP) (Q : Option Nat → HP → Prop) : Prop := Ca d y as h (fun v h' => ∃ x, v = some (.inr x) ∧ Q x h')
def CaV (d y : Nat) (as : List AV) (h : HP) (Q : HP → Prop) : Prop := Ca d y as h (fun v h' => v = none ∧ Q h')
theorem run_succ : ∀ (n d y pos : Nat) (ls : Ls) (st : List AV) (h : HP) (r : Option AV × HP), run n d y pos ls st h = some r → run (n + 1) d y pos ls st h = some r
  | 0, d, y, pos, ls, st, h, r, e => by simp [run] at e
  | n + 1, d, y, pos, ls, st, h, r, e => by
    rw [run] at e ⊢
    split at e
    · cases e
    · rename_i i hi
      split at e
      · rename_i h1
        rw [if_pos h1]; exact e
      · rename_i h1
        rw [if_neg h1]
        split at e
        · rename_i h2
          rw [if_pos h2]
          split at e
          · cases e
          · rename_i d'
            split at e
            · rename_i h3
              simp only [if_pos h3]
              split at e
              · cases e
              · rename_i q hq
                rw [run_succ n _ _ _ _ _ _ _ hq]
                exact run_succ n _ _ _ _ _ _ _ e
            · cases e
        · rename_i h2
          rw [if_neg h2]
          split at e
          · cases e
          · rename_i c hc
            exact run_succ n _ _ _ _ _ _ _ e
theorem run_le {n m d y pos : Nat} {ls : Ls} {st : List AV} {h : HP} {r : Option AV × HP} (hnm : n ≤ m) (e : run n d y pos ls st h = some r) : run m d y pos ls st h = some r := by
  induction hnm with
  | refl => exact e
  | step _ ih => exact run_succ _ _ _ _ _ _ _ _ ih
section PX
variable {d y pos p' : Nat} {ls : Ls} {st : List AV} {h : HP} {Q : Option AV → HP → Prop} {C : List Ins}
theorem At.mono {Q' : Option AV → HP → Prop} (hA : At d y pos ls st h Q) (hq : ∀ v h', Q v h' → Q' v h') : At d y pos ls st h Q' := by
  obtain ⟨n, v, h', e, q⟩ := hA
  exact ⟨n, v, h', e, hq v h' q⟩
theorem x_1 (hC : cod y = C) {i : Ins} {ls' : Ls} {st' : List AV} {h' : HP} (hi : C[pos]? = some i) (hr : isRet i = false) (hc : isCall i = false) (hex : ex1 d i pos ls st h = some (p', ls', st', h')) (k : At d y p' ls' st' h' Q) : At d y pos ls st h Q := by
  obtain ⟨n, v, h2, e, q⟩ := k
  refine ⟨n + 1, v, h2, ?_, q⟩
  rw [run, hC, hi]
  simp only [hr, hc, hex, Bool.false_eq_true, if_false]
  exact e
theorem x_ret (hC : cod y = C) {i : Ins} (hi : C[pos]? = some i) (hr : i.1 = .return_) (hk : hRk y = 0) (k : Q none h) : At d y pos ls [] h Q := by
  refine ⟨1, none, h, ?_, k⟩
  rw [run, hC, hi]
  simp [isRet, e_ret, hr, hk]
theorem x_iret (hC : cod y = C) {i : Ins} {x : Int} (hi : C[pos]? = some i) (hr : i.1 = .ireturn) (hk : hRk y = 1) (k : Q (some (.inl x)) h) : At d y pos ls [.inl x] h Q := by
  refine ⟨1, some (.inl x), h, ?_, k⟩
  rw [run, hC, hi]
  simp [isRet, e_ret, hr, hk]
theorem x_zret (hC : cod y = C) {i : Ins} {x : Int} (hi : C[pos]? = some i) (hr : i.1 = .ireturn) (hk : hRk y = 2) (hx : 0 ≤ x ∧ x ≤ 1) (k : Q (some (.inl x)) h) : At d y pos ls [.inl x] h Q := by
  refine ⟨1, some (.inl x), h, ?_, k⟩
  rw [run, hC, hi]
  simp [isRet, e_ret, hr, hk, hx.1, hx.2]
theorem x_aret (hC : cod y = C) {i : Ins} {x : Option Nat} (hi : C[pos]? = some i) (hr : i.1 = .areturn) (hk : hRk y = 3) (k : Q (some (.inr x)) h) : At d y pos ls [.inr x] h Q := by
  refine ⟨1, some (.inr x), h, ?_, k⟩
  rw [run, hC, hi]
  simp [isRet, e_ret, hr, hk]
theorem x_call0 (hC : cod y = C) {i : Ins} {as rs : List AV} (hi : C[pos]? = some i) (hr : isRet i = false) (hc : isCall i = true) (hA : (st.take (hAr i.2.2.1)).reverse = as) (hB : st.drop (hAr i.2.2.1) = rs) (hl : (Nat.ble (hAr i.2.2.1) st.length && Nat.ble rs.length 8) = true) (hv : rcv i.2.2.2.1 i.2.2.1 as h = true)
    (k : Ca d i.2.2.1 as h (fun v h' => At (d + 1) y (pos + 1) ls (v.toList ++ rs) h' Q)) : At (d + 1) y pos ls st h Q := by
  obtain ⟨n, v, h1, e, n2, v2, h2, e2, q⟩ := k
  simp only [Bool.and_eq_true] at hl
  have l1 := Nat.le_of_ble_eq_true hl.1
  have l2 := Nat.le_of_ble_eq_true hl.2
  refine ⟨max n n2 + 1, v2, h2, ?_, q⟩
  rw [run, hC, hi]
  simp only [hr, hc, Bool.false_eq_true, if_false, if_true]
  rw [hA, hB, if_pos ⟨l1, l2, hv⟩, run_le (Nat.le_max_left n n2) e]
  exact run_le (Nat.le_max_right n n2) e2
theorem rcv_v0 {y' a : Nat} {r : List AV} (ht : (hTy h a).1 = hCi y' + 1) : rcv 0 y' (.inr (some a) :: r) h = true := decide_eq_true ht
theorem rcv_v1 {y' a : Nat} {r : List AV} (ht : (hTy h a).1 = hCi y' + 1) : rcv 1 y' (.inr (some a) :: r) h = true := decide_eq_true ht
theorem CaI.of {as : List AV} {q : Int → HP → Prop} {n : Nat} (hn : n = y) (k : CaI d n as h q) {Q' : Option AV → HP → Prop} (hq : ∀ x h', q x h' → Q' (some (.inl x)) h') : Ca d y as h Q' := by
  subst hn
  exact At.mono k (fun v h' ⟨x, e, z⟩ => by rw [e]; exact hq x h' z)
theorem CaR.of {as : List AV} {q : Option Nat → HP → Prop} {n : Nat} (hn : n = y) (k : CaR d n as h q) {Q' : Option AV → HP → Prop} (hq : ∀ x h', q x h' → Q' (some (.inr x)) h') : Ca d y as h Q' := by
  subst hn
  exact At.mono k (fun v h' ⟨x, e, z⟩ => by rw [e]; exact hq x h' z)
theorem CaV.of {as : List AV} {q : HP → Prop} {n : Nat} (hn : n = y) (k : CaV d n as h q) {Q' : Option AV → HP → Prop} (hq : ∀ h', q h' → Q' none h') : Ca d y as h Q' := by
  subst hn
  exact At.mono k (fun v h' ⟨e, z⟩ => by rw [e]; exact hq h' z)
theorem x_iinc (hC : cod y = C) {k : Nat} {c v : Int} {a b w : Nat} {sw : List Nat} {x : Int} {ls' : Ls} (hi : C[pos]? = some (.iinc k c, v, a, b, w, sw)) (hp : pos + 1 = p') (hl : ls[k]? = some (some (.inl x))) (hz : inR (x + c)) (hs : ls.set k (some (.inl (x + c))) = ls') (kk : At d y p' ls' st h Q) : At d y pos ls st h Q := by
  subst hp; subst hs
  refine x_1 hC hi rfl rfl ?_ kk
  simp only [ex1, e_iinc, hl]
  rw [if_pos (List.getElem?_eq_some_iff.mp hl).1, wr_id hz]
def cV (i : Ins) (n : Nat) : Bool := !(isRet i) && isCall i && (i.2.2.1 == n) && Nat.ble i.2.2.2.1 1
def cS (i : Ins) (n : Nat) : Bool := !(isRet i) && isCall i && (i.2.2.1 == n) && (i.2.2.2.1 == 2 || i.2.2.2.1 == 3)
def cN (i : Ins) (n : Nat) : Bool := !(isRet i) && isCall i && (i.2.2.1 == n) && (i.2.2.2.1 == 4 || i.2.2.2.1 == 5)
theorem x_cIV0 (hC : cod y = C) {i : Ins} {n : Nat} {rs : List AV} {q : Nat} (hi : C[pos]? = some i) (hc : cV i n = true) (hp : pos + 1 = p') (ha : hAr n = 1) (hl : Nat.ble rs.length 8 = true) (ht : (hTy h q).1 = hCi n + 1) (k : CaI d n [.inr (some q)] h (fun x h' => At (d + 1) y p' ls (.inl x :: rs) h' Q)) : At (d + 1) y pos ls (.inr (some q) :: rs) h Q := by
  simp only [cV, Bool.and_eq_true, Bool.or_eq_true, Bool.not_eq_true', beq_iff_eq] at hc
  obtain ⟨⟨⟨h1, h2⟩, h3⟩, h4⟩ := hc
  subst h3; subst hp
  refine x_call0 (as := [.inr (some q)]) (rs := rs) hC hi h1 h2 (by rw [ha]; rfl) (by rw [ha]; rfl) (by rw [ha, hl]; rfl) ?_ (CaI.of rfl k (fun x h' z => z))
  rcases (show i.2.2.2.1 = 0 ∨ i.2.2.2.1 = 1 by have := Nat.le_of_ble_eq_true h4; omega) with e | e <;> rw [e]
  · exact rcv_v0 ht
  · exact rcv_v1 ht
theorem x_cIV1 (hC : cod y = C) {i : Ins} {n : Nat} {rs : List AV} {v1 : AV} {q : Nat} (hi : C[pos]? = some i) (hc : cV i n = true) (hp : pos + 1 = p') (ha : hAr n = 2) (hl : Nat.ble rs.length 8 = true) (ht : (hTy h q).1 = hCi n + 1) (k : CaI d n [.inr (some q), v1] h (fun x h' => At (d + 1) y p' ls (.inl x :: rs) h' Q)) : At (d + 1) y pos ls (v1 :: .inr (some q) :: rs) h Q := by
  simp only [cV, Bool.and_eq_true, Bool.or_eq_true, Bool.not_eq_true', beq_iff_eq] at hc
  obtain ⟨⟨⟨h1, h2⟩, h3⟩, h4⟩ := hc
  subst h3; subst hp
  refine x_call0 (as := [.inr (some q), v1]) (rs := rs) hC hi h1 h2 (by rw [ha]; rfl) (by rw [ha]; rfl) (by rw [ha, hl]; rfl) ?_ (CaI.of rfl k (fun x h' z => z))
  rcases (show i.2.2.2.1 = 0 ∨ i.2.2.2.1 = 1 by have := Nat.le_of_ble_eq_true h4; omega) with e | e <;> rw [e]
  · exact rcv_v0 ht
  · exact rcv_v1 ht
theorem x_cIV2 (hC : cod y = C) {i : Ins} {n : Nat} {rs : List AV} {v1 v2 : AV} {q : Nat} (hi : C[pos]? = some i) (hc : cV i n = true) (hp : pos + 1 = p') (ha : hAr n = 3) (hl : Nat.ble rs.length 8 = true) (ht : (hTy h q).1 = hCi n + 1) (k : CaI d n [.inr (some q), v1, v2] h (fun x h' => At (d + 1) y p' ls (.inl x :: rs) h' Q)) : At (d + 1) y pos ls (v2 :: v1 :: .inr (some q) :: rs) h Q := by
  simp only [cV, Bool.and_eq_true, Bool.or_eq_true, Bool.not_eq_true', beq_iff_eq] at hc
  obtain ⟨⟨⟨h1, h2⟩, h3⟩, h4⟩ := hc
  subst h3; subst hp
  refine x_call0 (as := [.inr (some q), v1, v2]) (rs := rs) hC hi h1 h2 (by rw [ha]; rfl) (by rw [ha]; rfl) (by rw [ha, hl]; rfl) ?_ (CaI.of rfl k (fun x h' z => z))
  rcases (show i.2.2.2.1 = 0 ∨ i.2.2.2.1 = 1 by have := Nat.le_of_ble_eq_true h4; omega) with e | e <;> rw [e]
  · exact rcv_v0 ht
  · exact rcv_v1 ht
theorem x_cIV3 (hC : cod y = C) {i : Ins} {n : Nat} {rs : List AV} {v1 v2 v3 : AV} {q : Nat} (hi : C[pos]? = some i) (hc : cV i n = true) (hp : pos + 1 = p') (ha : hAr n = 4) (hl : Nat.ble rs.length 8 = true) (ht : (hTy h q).1 = hCi n + 1) (k : CaI d n [.inr (some q), v1, v2, v3] h (fun x h' => At (d + 1) y p' ls (.inl x :: rs) h' Q)) : At (d + 1) y pos ls (v3 :: v2 :: v1 :: .inr (some q) :: rs) h Q := by
  simp only [cV, Bool.and_eq_true, Bool.or_eq_true, Bool.not_eq_true', beq_iff_eq] at hc
  obtain ⟨⟨⟨h1, h2⟩, h3⟩, h4⟩ := hc
  subst h3; subst hp
  refine x_call0 (as := [.inr (some q), v1, v2, v3]) (rs := rs) hC hi h1 h2 (by rw [ha]; rfl) (by rw [ha]; rfl) (by rw [ha, hl]; rfl) ?_ (CaI.of rfl k (fun x h' z => z))
  rcases (show i.2.2.2.1 = 0 ∨ i.2.2.2.1 = 1 by have := Nat.le_of_ble_eq_true h4; omega) with e | e <;> rw [e]
  · exact rcv_v0 ht
  · exact rcv_v1 ht
theorem x_cIV4 (hC : cod y = C) {i : Ins} {n : Nat} {rs : List AV} {v1 v2 v3 v4 : AV} {q : Nat} (hi : C[pos]? = some i) (hc : cV i n = true) (hp : pos + 1 = p') (ha : hAr n = 5) (hl : Nat.ble rs.length 8 = true) (ht : (hTy h q).1 = hCi n + 1) (k : CaI d n [.inr (some q), v1, v2, v3, v4] h (fun x h' => At (d + 1) y p' ls (.inl x :: rs) h' Q)) : At (d + 1) y pos ls (v4 :: v3 :: v2 :: v1 :: .inr (some q) :: rs) h Q := by
  simp only [cV, Bool.and_eq_true, Bool.or_eq_true, Bool.not_eq_true', beq_iff_eq] at hc
  obtain ⟨⟨⟨h1, h2⟩, h3⟩, h4⟩ := hc
  subst h3; subst hp
  refine x_call0 (as := [.inr (some q), v1, v2, v3, v4]) (rs := rs) hC hi h1 h2 (by rw [ha]; rfl) (by rw [ha]; rfl) (by rw [ha, hl]; rfl) ?_ (CaI.of rfl k (fun x h' z => z))
  rcases (show i.2.2.2.1 = 0 ∨ i.2.2.2.1 = 1 by have := Nat.le_of_ble_eq_true h4; omega) with e | e <;> rw [e]
  · exact rcv_v0 ht
  · exact rcv_v1 ht
theorem x_cIV5 (hC : cod y = C) {i : Ins} {n : Nat} {rs : List AV} {v1 v2 v3 v4 v5 : AV} {q : Nat} (hi : C[pos]? = some i) (hc : cV i n = true) (hp : pos + 1 = p') (ha : hAr n = 6) (hl : Nat.ble rs.length 8 = true) (ht : (hTy h q).1 = hCi n + 1) (k : CaI d n [.inr (some q), v1, v2, v3, v4, v5] h (fun x h' => At (d + 1) y p' ls (.inl x :: rs) h' Q)) : At (d + 1) y pos ls (v5 :: v4 :: v3 :: v2 :: v1 :: .inr (some q) :: rs) h Q := by
  simp only [cV, Bool.and_eq_true, Bool.or_eq_true, Bool.not_eq_true', beq_iff_eq] at hc
  obtain ⟨⟨⟨h1, h2⟩, h3⟩, h4⟩ := hc
  subst h3; subst hp
  refine x_call0 (as := [.inr (some q), v1, v2, v3, v4, v5]) (rs := rs) hC hi h1 h2 (by rw [ha]; rfl) (by rw [ha]; rfl) (by rw [ha, hl]; rfl) ?_ (CaI.of rfl k (fun x h' z => z))
  rcases (show i.2.2.2.1 = 0 ∨ i.2.2.2.1 = 1 by have := Nat.le_of_ble_eq_true h4; omega) with e | e <;> rw [e]
  · exact rcv_v0 ht
  · exact rcv_v1 ht
theorem x_cIS1 (hC : cod y = C) {i : Ins} {n : Nat} {rs : List AV} {v1 : AV} (hi : C[pos]? = some i) (hc : cS i n = true) (hp : pos + 1 = p') (ha : hAr n = 1) (hl : Nat.ble rs.length 8 = true) (k : CaI d n [v1] h (fun x h' => At (d + 1) y p' ls (.inl x :: rs) h' Q)) : At (d + 1) y pos ls (v1 :: rs) h Q := by
  simp only [cS, Bool.and_eq_true, Bool.or_eq_true, Bool.not_eq_true', beq_iff_eq] at hc
  obtain ⟨⟨⟨h1, h2⟩, h3⟩, h4⟩ := hc
  subst h3; subst hp
  refine x_call0 (as := [v1]) (rs := rs) hC hi h1 h2 (by rw [ha]; rfl) (by rw [ha]; rfl) (by rw [ha, hl]; rfl) ?_ (CaI.of rfl k (fun x h' z => z))
  rcases h4 with e | e <;> rw [e] <;> rfl
theorem x_cIS2 (hC : cod y = C) {i : Ins} {n : Nat} {rs : List AV} {v1 v2 : AV} (hi : C[pos]? = some i) (hc : cS i n = true) (hp : pos + 1 = p') (ha : hAr n = 2) (hl : Nat.ble rs.length 8 = true) (k : CaI d n [v1, v2] h (fun x h' => At (d + 1) y p' ls (.inl x :: rs) h' Q)) : At (d + 1) y pos ls (v2 :: v1 :: rs) h Q := by
  simp only [cS, Bool.and_eq_true, Bool.or_eq_true, Bool.not_eq_true', beq_iff_eq] at hc
  obtain ⟨⟨⟨h1, h2⟩, h3⟩, h4⟩ := hc
  subst h3; subst hp
  refine x_call0 (as := [v1, v2]) (rs := rs) hC hi h1 h2 (by rw [ha]; rfl) (by rw [ha]; rfl) (by rw [ha, hl]; rfl) ?_ (CaI.of rfl k (fun x h' z => z))
  rcases h4 with e | e <;> rw [e] <;> rfl
theorem x_cIS3 (hC : cod y = C) {i : Ins} {n : Nat} {rs : List AV} {v1 v2 v3 : AV} (hi : C[pos]? = some i) (hc : cS i n = true) (hp : pos + 1 = p') (ha : hAr n = 3) (hl : Nat.ble rs.length 8 = true) (k : CaI d n [v1, v2, v3] h (fun x h' => At (d + 1) y p' ls (.inl x :: rs) h' Q)) : At (d + 1) y pos ls (v3 :: v2 :: v1 :: rs) h Q := by
  simp only [cS, Bool.and_eq_true, Bool.or_eq_true, Bool.not_eq_true', beq_iff_eq] at hc
  obtain ⟨⟨⟨h1, h2⟩, h3⟩, h4⟩ := hc
  subst h3; subst hp
  refine x_call0 (as := [v1, v2, v3]) (rs := rs) hC hi h1 h2 (by rw [ha]; rfl) (by rw [ha]; rfl) (by rw [ha, hl]; rfl) ?_ (CaI.of rfl k (fun x h' z => z))
  rcases h4 with e | e <;> rw [e] <;> rfl
theorem x_cIS4 (hC : cod y = C) {i : Ins} {n : Nat} {rs : List AV} {v1 v2 v3 v4 : AV} (hi : C[pos]? = some i) (hc : cS i n = true) (hp : pos + 1 = p') (ha : hAr n = 4) (hl : Nat.ble rs.length 8 = true) (k : CaI d n [v1, v2, v3, v4] h (fun x h' => At (d + 1) y p' ls (.inl x :: rs) h' Q)) : At (d + 1) y pos ls (v4 :: v3 :: v2 :: v1 :: rs) h Q := by
  simp only [cS, Bool.and_eq_true, Bool.or_eq_true, Bool.not_eq_true', beq_iff_eq] at hc
  obtain ⟨⟨⟨h1, h2⟩, h3⟩, h4⟩ := hc
  subst h3; subst hp
  refine x_call0 (as := [v1, v2, v3, v4]) (rs := rs) hC hi h1 h2 (by rw [ha]; rfl) (by rw [ha]; rfl) (by rw [ha, hl]; rfl) ?_ (CaI.of rfl k (fun x h' z => z))
  rcases h4 with e | e <;> rw [e] <;> rfl
theorem x_cIS5 (hC : cod y = C) {i : Ins} {n : Nat} {rs : List AV} {v1 v2 v3 v4 v5 : AV} (hi : C[pos]? = some i) (hc : cS i n = true) (hp : pos + 1 = p') (ha : hAr n = 5) (hl : Nat.ble rs.length 8 = true) (k : CaI d n [v1, v2, v3, v4, v5] h (fun x h' => At (d + 1) y p' ls (.inl x :: rs) h' Q)) : At (d + 1) y pos ls (v5 :: v4 :: v3 :: v2 :: v1 :: rs) h Q := by
  simp only [cS, Bool.and_eq_true, Bool.or_eq_true, Bool.not_eq_true', beq_iff_eq] at hc
  obtain ⟨⟨⟨h1, h2⟩, h3⟩, h4⟩ := hc
  subst h3; subst hp
  refine x_call0 (as := [v1, v2, v3, v4, v5]) (rs := rs) hC hi h1 h2 (by rw [ha]; rfl) (by rw [ha]; rfl) (by rw [ha, hl]; rfl) ?_ (CaI.of rfl k (fun x h' z => z))
  rcases h4 with e | e <;> rw [e] <;> rfl
theorem x_cRV0 (hC : cod y = C) {i : Ins} {n : Nat} {rs : List AV} {q : Nat} (hi : C[pos]? = some i) (hc : cV i n = true) (hp : pos + 1 = p') (ha : hAr n = 1) (hl : Nat.ble rs.length 8 = true) (ht : (hTy h q).1 = hCi n + 1) (k : CaR d n [.inr (some q)] h (fun x h' => At (d + 1) y p' ls (.inr x :: rs) h' Q)) : At (d + 1) y pos ls (.inr (some q) :: rs) h Q := by
  simp only [cV, Bool.and_eq_true, Bool.or_eq_true, Bool.not_eq_true', beq_iff_eq] at hc
  obtain ⟨⟨⟨h1, h2⟩, h3⟩, h4⟩ := hc
  subst h3; subst hp
  refine x_call0 (as := [.inr (some q)]) (rs := rs) hC hi h1 h2 (by rw [ha]; rfl) (by rw [ha]; rfl) (by rw [ha, hl]; rfl) ?_ (CaR.of rfl k (fun x h' z => z))
  rcases (show i.2.2.2.1 = 0 ∨ i.2.2.2.1 = 1 by have := Nat.le_of_ble_eq_true h4; omega) with e | e <;> rw [e]
  · exact rcv_v0 ht
  · exact rcv_v1 ht
theorem x_cRV1 (hC : cod y = C) {i : Ins} {n : Nat} {rs : List AV} {v1 : AV} {q : Nat} (hi : C[pos]? = some i) (hc : cV i n = true) (hp : pos + 1 = p') (ha : hAr n = 2) (hl : Nat.ble rs.length 8 = true) (ht : (hTy h q).1 = hCi n + 1) (k : CaR d n [.inr (some q), v1] h (fun x h' => At (d + 1) y p' ls (.inr x :: rs) h' Q)) : At (d + 1) y pos ls (v1 :: .inr (some q) :: rs) h Q := by
  simp only [cV, Bool.and_eq_true, Bool.or_eq_true, Bool.not_eq_true', beq_iff_eq] at hc
  obtain ⟨⟨⟨h1, h2⟩, h3⟩, h4⟩ := hc
  subst h3; subst hp
  refine x_call0 (as := [.inr (some q), v1]) (rs := rs) hC hi h1 h2 (by rw [ha]; rfl) (by rw [ha]; rfl) (by rw [ha, hl]; rfl) ?_ (CaR.of rfl k (fun x h' z => z))
  rcases (show i.2.2.2.1 = 0 ∨ i.2.2.2.1 = 1 by have := Nat.le_of_ble_eq_true h4; omega) with e | e <;> rw [e]
  · exact rcv_v0 ht
  · exact rcv_v1 ht
theorem x_cRV2 (hC : cod y = C) {i : Ins} {n : Nat} {rs : List AV} {v1 v2 : AV} {q : Nat} (hi : C[pos]? = some i) (hc : cV i n = true) (hp : pos + 1 = p') (ha : hAr n = 3) (hl : Nat.ble rs.length 8 = true) (ht : (hTy h q).1 = hCi n + 1) (k : CaR d n [.inr (some q), v1, v2] h (fun x h' => At (d + 1) y p' ls (.inr x :: rs) h' Q)) : At (d + 1) y pos ls (v2 :: v1 :: .inr (some q) :: rs) h Q := by
  simp only [cV, Bool.and_eq_true, Bool.or_eq_true, Bool.not_eq_true', beq_iff_eq] at hc
  obtain ⟨⟨⟨h1, h2⟩, h3⟩, h4⟩ := hc
  subst h3; subst hp
  refine x_call0 (as := [.inr (some q), v1, v2]) (rs := rs) hC hi h1 h2 (by rw [ha]; rfl) (by rw [ha]; rfl) (by rw [ha, hl]; rfl) ?_ (CaR.of rfl k (fun x h' z => z))
  rcases (show i.2.2.2.1 = 0 ∨ i.2.2.2.1 = 1 by have := Nat.le_of_ble_eq_true h4; omega) with e | e <;> rw [e]
  · exact rcv_v0 ht
  · exact rcv_v1 ht
theorem x_cRV3 (hC : cod y = C) {i : Ins} {n : Nat} {rs : List AV} {v1 v2 v3 : AV} {q : Nat} (hi : C[pos]? = some i) (hc : cV i n = true) (hp : pos + 1 = p') (ha : hAr n = 4) (hl : Nat.ble rs.length 8 = true) (ht : (hTy h q).1 = hCi n + 1) (k : CaR d n [.inr (some q), v1, v2, v3] h (fun x h' => At (d + 1) y p' ls (.inr x :: rs) h' Q)) : At (d + 1) y pos ls (v3 :: v2 :: v1 :: .inr (some q) :: rs) h Q := by
  simp only [cV, Bool.and_eq_true, Bool.or_eq_true, Bool.not_eq_true', beq_iff_eq] at hc
  obtain ⟨⟨⟨h1, h2⟩, h3⟩, h4⟩ := hc
  subst h3; subst hp
  refine x_call0 (as := [.inr (some q), v1, v2, v3]) (rs := rs) hC hi h1 h2 (by rw [ha]; rfl) (by rw [ha]; rfl) (by rw [ha, hl]; rfl) ?_ (CaR.of rfl k (fun x h' z => z))
  rcases (show i.2.2.2.1 = 0 ∨ i.2.2.2.1 = 1 by have := Nat.le_of_ble_eq_true h4; omega) with e | e <;> rw [e]
  · exact rcv_v0 ht
  · exact rcv_v1 ht
theorem x_cRV4 (hC : cod y = C) {i : Ins} {n : Nat} {rs : List AV} {v1 v2 v3 v4 : AV} {q : Nat} (hi : C[pos]? = some i) (hc : cV i n = true) (hp : pos + 1 = p') (ha : hAr n = 5) (hl : Nat.ble rs.length 8 = true) (ht : (hTy h q).1 = hCi n + 1) (k : CaR d n [.inr (some q), v1, v2, v3, v4] h (fun x h' => At (d + 1) y p' ls (.inr x :: rs) h' Q)) : At (d + 1) y pos ls (v4 :: v3 :: v2 :: v1 :: .inr (some q) :: rs) h Q := by
  simp only [cV, Bool.and_eq_true, Bool.or_eq_true, Bool.not_eq_true', beq_iff_eq] at hc
  obtain ⟨⟨⟨h1, h2⟩, h3⟩, h4⟩ := hc
  subst h3; subst hp
  refine x_call0 (as := [.inr (some q), v1, v2, v3, v4]) (rs := rs) hC hi h1 h2 (by rw [ha]; rfl) (by rw [ha]; rfl) (by rw [ha, hl]; rfl) ?_ (CaR.of rfl k (fun x h' z => z))
  rcases (show i.2.2.2.1 = 0 ∨ i.2.2.2.1 = 1 by have := Nat.le_of_ble_eq_true h4; omega) with e | e <;> rw [e]
  · exact rcv_v0 ht
  · exact rcv_v1 ht
theorem x_cRV5 (hC : cod y = C) {i : Ins} {n : Nat} {rs : List AV} {v1 v2 v3 v4 v5 : AV} {q : Nat} (hi : C[pos]? = some i) (hc : cV i n = true) (hp : pos + 1 = p') (ha : hAr n = 6) (hl : Nat.ble rs.length 8 = true) (ht : (hTy h q).1 = hCi n + 1) (k : CaR d n [.inr (some q), v1, v2, v3, v4, v5] h (fun x h' => At (d + 1) y p' ls (.inr x :: rs) h' Q)) : At (d + 1) y pos ls (v5 :: v4 :: v3 :: v2 :: v1 :: .inr (some q) :: rs) h Q := by
  simp only [cV, Bool.and_eq_true, Bool.or_eq_true, Bool.not_eq_true', beq_iff_eq] at hc
  obtain ⟨⟨⟨h1, h2⟩, h3⟩, h4⟩ := hc
  subst h3; subst hp
  refine x_call0 (as := [.inr (some q), v1, v2, v3, v4, v5]) (rs := rs) hC hi h1 h2 (by rw [ha]; rfl) (by rw [ha]; rfl) (by rw [ha, hl]; rfl) ?_ (CaR.of rfl k (fun x h' z => z))
  rcases (show i.2.2.2.1 = 0 ∨ i.2.2.2.1 = 1 by have := Nat.le_of_ble_eq_true h4; omega) with e | e <;> rw [e]
  · exact rcv_v0 ht
  · exact rcv_v1 ht
theorem x_cRS1 (hC : cod y = C) {i : Ins} {n : Nat} {rs : List AV} {v1 : AV} (hi : C[pos]? = some i) (hc : cS i n = true) (hp : pos + 1 = p') (ha : hAr n = 1) (hl : Nat.ble rs.length 8 = true) (k : CaR d n [v1] h (fun x h' => At (d + 1) y p' ls (.inr x :: rs) h' Q)) : At (d + 1) y pos ls (v1 :: rs) h Q := by
  simp only [cS, Bool.and_eq_true, Bool.or_eq_true, Bool.not_eq_true', beq_iff_eq] at hc
  obtain ⟨⟨⟨h1, h2⟩, h3⟩, h4⟩ := hc
  subst h3; subst hp
  refine x_call0 (as := [v1]) (rs := rs) hC hi h1 h2 (by rw [ha]; rfl) (by rw [ha]; rfl) (by rw [ha, hl]; rfl) ?_ (CaR.of rfl k (fun x h' z => z))
  rcases h4 with e | e <;> rw [e] <;> rfl
theorem x_cRS2 (hC : cod y = C) {i : Ins} {n : Nat} {rs : List AV} {v1 v2 : AV} (hi : C[pos]? = some i) (hc : cS i n = true) (hp : pos + 1 = p') (ha : hAr n = 2) (hl : Nat.ble rs.length 8 = true) (k : CaR d n [v1, v2] h (fun x h' => At (d + 1) y p' ls (.inr x :: rs) h' Q)) : At (d + 1) y pos ls (v2 :: v1 :: rs) h Q := by
  simp only [cS, Bool.and_eq_true, Bool.or_eq_true, Bool.not_eq_true', beq_iff_eq] at hc
  obtain ⟨⟨⟨h1, h2⟩, h3⟩, h4⟩ := hc
  subst h3; subst hp
  refine x_call0 (as := [v1, v2]) (rs := rs) hC hi h1 h2 (by rw [ha]; rfl) (by rw [ha]; rfl) (by rw [ha, hl]; rfl) ?_ (CaR.of rfl k (fun x h' z => z))
  rcases h4 with e | e <;> rw [e] <;> rfl
theorem x_cRS3 (hC : cod y = C) {i : Ins} {n : Nat} {rs : List AV} {v1 v2 v3 : AV} (hi : C[pos]? = some i) (hc : cS i n = true) (hp : pos + 1 = p') (ha : hAr n = 3) (hl : Nat.ble rs.length 8 = true) (k : CaR d n [v1, v2, v3] h (fun x h' => At (d + 1) y p' ls (.inr x :: rs) h' Q)) : At (d + 1) y pos ls (v3 :: v2 :: v1 :: rs) h Q := by
  simp only [cS, Bool.and_eq_true, Bool.or_eq_true, Bool.not_eq_true', beq_iff_eq] at hc
  obtain ⟨⟨⟨h1, h2⟩, h3⟩, h4⟩ := hc
  subst h3; subst hp
  refine x_call0 (as := [v1, v2, v3]) (rs := rs) hC hi h1 h2 (by rw [ha]; rfl) (by rw [ha]; rfl) (by rw [ha, hl]; rfl) ?_ (CaR.of rfl k (fun x h' z => z))
  rcases h4 with e | e <;> rw [e] <;> rfl
theorem x_cRS4 (hC : cod y = C) {i : Ins} {n : Nat} {rs : List AV} {v1 v2 v3 v4 : AV} (hi : C[pos]? = some i) (hc : cS i n = true) (hp : pos + 1 = p') (ha : hAr n = 4) (hl : Nat.ble rs.length 8 = true) (k : CaR d n [v1, v2, v3, v4] h (fun x h' => At (d + 1) y p' ls (.inr x :: rs) h' Q)) : At (d + 1) y pos ls (v4 :: v3 :: v2 :: v1 :: rs) h Q := by
  simp only [cS, Bool.and_eq_true, Bool.or_eq_true, Bool.not_eq_true', beq_iff_eq] at hc
  obtain ⟨⟨⟨h1, h2⟩, h3⟩, h4⟩ := hc
  subst h3; subst hp
  refine x_call0 (as := [v1, v2, v3, v4]) (rs := rs) hC hi h1 h2 (by rw [ha]; rfl) (by rw [ha]; rfl) (by rw [ha, hl]; rfl) ?_ (CaR.of rfl k (fun x h' z => z))
  rcases h4 with e | e <;> rw [e] <;> rfl
theorem x_cRS5 (hC : cod y = C) {i : Ins} {n : Nat} {rs : List AV} {v1 v2 v3 v4 v5 : AV} (hi : C[pos]? = some i) (hc : cS i n = true) (hp : pos + 1 = p') (ha : hAr n = 5) (hl : Nat.ble rs.length 8 = true) (k : CaR d n [v1, v2, v3, v4, v5] h (fun x h' => At (d + 1) y p' ls (.inr x :: rs) h' Q)) : At (d + 1) y pos ls (v5 :: v4 :: v3 :: v2 :: v1 :: rs) h Q := by
  simp only [cS, Bool.and_eq_true, Bool.or_eq_true, Bool.not_eq_true', beq_iff_eq] at hc
  obtain ⟨⟨⟨h1, h2⟩, h3⟩, h4⟩ := hc
  subst h3; subst hp
  refine x_call0 (as := [v1, v2, v3, v4, v5]) (rs := rs) hC hi h1 h2 (by rw [ha]; rfl) (by rw [ha]; rfl) (by rw [ha, hl]; rfl) ?_ (CaR.of rfl k (fun x h' z => z))
  rcases h4 with e | e <;> rw [e] <;> rfl
theorem x_cVV0 (hC : cod y = C) {i : Ins} {n : Nat} {rs : List AV} {q : Nat} (hi : C[pos]? = some i) (hc : cV i n = true) (hp : pos + 1 = p') (ha : hAr n = 1) (hl : Nat.ble rs.length 8 = true) (ht : (hTy h q).1 = hCi n + 1) (k : CaV d n [.inr (some q)] h (fun h' => At (d + 1) y p' ls rs h' Q)) : At (d + 1) y pos ls (.inr (some q) :: rs) h Q := by
  simp only [cV, Bool.and_eq_true, Bool.or_eq_true, Bool.not_eq_true', beq_iff_eq] at hc
  obtain ⟨⟨⟨h1, h2⟩, h3⟩, h4⟩ := hc
  subst h3; subst hp
  refine x_call0 (as := [.inr (some q)]) (rs := rs) hC hi h1 h2 (by rw [ha]; rfl) (by rw [ha]; rfl) (by rw [ha, hl]; rfl) ?_ (CaV.of rfl k (fun h' z => z))
  rcases (show i.2.2.2.1 = 0 ∨ i.2.2.2.1 = 1 by have := Nat.le_of_ble_eq_true h4; omega) with e | e <;> rw [e]
  · exact rcv_v0 ht
  · exact rcv_v1 ht
theorem x_cVV1 (hC : cod y = C) {i : Ins} {n : Nat} {rs : List AV} {v1 : AV} {q : Nat} (hi : C[pos]? = some i) (hc : cV i n = true) (hp : pos + 1 = p') (ha : hAr n = 2) (hl : Nat.ble rs.length 8 = true) (ht : (hTy h q).1 = hCi n + 1) (k : CaV d n [.inr (some q), v1] h (fun h' => At (d + 1) y p' ls rs h' Q)) : At (d + 1) y pos ls (v1 :: .inr (some q) :: rs) h Q := by
  simp only [cV, Bool.and_eq_true, Bool.or_eq_true, Bool.not_eq_true', beq_iff_eq] at hc
  obtain ⟨⟨⟨h1, h2⟩, h3⟩, h4⟩ := hc
  subst h3; subst hp
  refine x_call0 (as := [.inr (some q), v1]) (rs := rs) hC hi h1 h2 (by rw [ha]; rfl) (by rw [ha]; rfl) (by rw [ha, hl]; rfl) ?_ (CaV.of rfl k (fun h' z => z))
  rcases (show i.2.2.2.1 = 0 ∨ i.2.2.2.1 = 1 by have := Nat.le_of_ble_eq_true h4; omega) with e | e <;> rw [e]
  · exact rcv_v0 ht
  · exact rcv_v1 ht
theorem x_cVV2 (hC : cod y = C) {i : Ins} {n : Nat} {rs : List AV} {v1 v2 : AV} {q : Nat} (hi : C[pos]? = some i) (hc : cV i n = true) (hp : pos + 1 = p') (ha : hAr n = 3) (hl : Nat.ble rs.length 8 = true) (ht : (hTy h q).1 = hCi n + 1) (k : CaV d n [.inr (some q), v1, v2] h (fun h' => At (d + 1) y p' ls rs h' Q)) : At (d + 1) y pos ls (v2 :: v1 :: .inr (some q) :: rs) h Q := by
  simp only [cV, Bool.and_eq_true, Bool.or_eq_true, Bool.not_eq_true', beq_iff_eq] at hc
  obtain ⟨⟨⟨h1, h2⟩, h3⟩, h4⟩ := hc
  subst h3; subst hp
  refine x_call0 (as := [.inr (some q), v1, v2]) (rs := rs) hC hi h1 h2 (by rw [ha]; rfl) (by rw [ha]; rfl) (by rw [ha, hl]; rfl) ?_ (CaV.of rfl k (fun h' z => z))
  rcases (show i.2.2.2.1 = 0 ∨ i.2.2.2.1 = 1 by have := Nat.le_of_ble_eq_true h4; omega) with e | e <;> rw [e]
  · exact rcv_v0 ht
  · exact rcv_v1 ht
theorem x_cVV3 (hC : cod y = C) {i : Ins} {n : Nat} {rs : List AV} {v1 v2 v3 : AV} {q : Nat} (hi : C[pos]? = some i) (hc : cV i n = true) (hp : pos + 1 = p') (ha : hAr n = 4) (hl : Nat.ble rs.length 8 = true) (ht : (hTy h q).1 = hCi n + 1) (k : CaV d n [.inr (some q), v1, v2, v3] h (fun h' => At (d + 1) y p' ls rs h' Q)) : At (d + 1) y pos ls (v3 :: v2 :: v1 :: .inr (some q) :: rs) h Q := by
  simp only [cV, Bool.and_eq_true, Bool.or_eq_true, Bool.not_eq_true', beq_iff_eq] at hc
  obtain ⟨⟨⟨h1, h2⟩, h3⟩, h4⟩ := hc
  subst h3; subst hp
  refine x_call0 (as := [.inr (some q), v1, v2, v3]) (rs := rs) hC hi h1 h2 (by rw [ha]; rfl) (by rw [ha]; rfl) (by rw [ha, hl]; rfl) ?_ (CaV.of rfl k (fun h' z => z))
  rcases (show i.2.2.2.1 = 0 ∨ i.2.2.2.1 = 1 by have := Nat.le_of_ble_eq_true h4; omega) with e | e <;> rw [e]
  · exact rcv_v0 ht
  · exact rcv_v1 ht
theorem x_cVV4 (hC : cod y = C) {i : Ins} {n : Nat} {rs : List AV} {v1 v2 v3 v4 : AV} {q : Nat} (hi : C[pos]? = some i) (hc : cV i n = true) (hp : pos + 1 = p') (ha : hAr n = 5) (hl : Nat.ble rs.length 8 = true) (ht : (hTy h q).1 = hCi n + 1) (k : CaV d n [.inr (some q), v1, v2, v3, v4] h (fun h' => At (d + 1) y p' ls rs h' Q)) : At (d + 1) y pos ls (v4 :: v3 :: v2 :: v1 :: .inr (some q) :: rs) h Q := by
  simp only [cV, Bool.and_eq_true, Bool.or_eq_true, Bool.not_eq_true', beq_iff_eq] at hc
  obtain ⟨⟨⟨h1, h2⟩, h3⟩, h4⟩ := hc
  subst h3; subst hp
  refine x_call0 (as := [.inr (some q), v1, v2, v3, v4]) (rs := rs) hC hi h1 h2 (by rw [ha]; rfl) (by rw [ha]; rfl) (by rw [ha, hl]; rfl) ?_ (CaV.of rfl k (fun h' z => z))
  rcases (show i.2.2.2.1 = 0 ∨ i.2.2.2.1 = 1 by have := Nat.le_of_ble_eq_true h4; omega) with e | e <;> rw [e]
  · exact rcv_v0 ht
  · exact rcv_v1 ht
theorem x_cVV5 (hC : cod y = C) {i : Ins} {n : Nat} {rs : List AV} {v1 v2 v3 v4 v5 : AV} {q : Nat} (hi : C[pos]? = some i) (hc : cV i n = true) (hp : pos + 1 = p') (ha : hAr n = 6) (hl : Nat.ble rs.length 8 = true) (ht : (hTy h q).1 = hCi n + 1) (k : CaV d n [.inr (some q), v1, v2, v3, v4, v5] h (fun h' => At (d + 1) y p' ls rs h' Q)) : At (d + 1) y pos ls (v5 :: v4 :: v3 :: v2 :: v1 :: .inr (some q) :: rs) h Q := by
  simp only [cV, Bool.and_eq_true, Bool.or_eq_true, Bool.not_eq_true', beq_iff_eq] at hc
  obtain ⟨⟨⟨h1, h2⟩, h3⟩, h4⟩ := hc
  subst h3; subst hp
  refine x_call0 (as := [.inr (some q), v1, v2, v3, v4, v5]) (rs := rs) hC hi h1 h2 (by rw [ha]; rfl) (by rw [ha]; rfl) (by rw [ha, hl]; rfl) ?_ (CaV.of rfl k (fun h' z => z))
  rcases (show i.2.2.2.1 = 0 ∨ i.2.2.2.1 = 1 by have := Nat.le_of_ble_eq_true h4; omega) with e | e <;> rw [e]
  · exact rcv_v0 ht
  · exact rcv_v1 ht
theorem x_cVS1 (hC : cod y = C) {i : Ins} {n : Nat} {rs : List AV} {v1 : AV} (hi : C[pos]? = some i) (hc : cS i n = true) (hp : pos + 1 = p') (ha : hAr n = 1) (hl : Nat.ble rs.length 8 = true) (k : CaV d n [v1] h (fun h' => At (d + 1) y p' ls rs h' Q)) : At (d + 1) y pos ls (v1 :: rs) h Q := by
  simp only [cS, Bool.and_eq_true, Bool.or_eq_true, Bool.not_eq_true', beq_iff_eq] at hc
  obtain ⟨⟨⟨h1, h2⟩, h3⟩, h4⟩ := hc
  subst h3; subst hp
  refine x_call0 (as := [v1]) (rs := rs) hC hi h1 h2 (by rw [ha]; rfl) (by rw [ha]; rfl) (by rw [ha, hl]; rfl) ?_ (CaV.of rfl k (fun h' z => z))
  rcases h4 with e | e <;> rw [e] <;> rfl
theorem x_cVS2 (hC : cod y = C) {i : Ins} {n : Nat} {rs : List AV} {v1 v2 : AV} (hi : C[pos]? = some i) (hc : cS i n = true) (hp : pos + 1 = p') (ha : hAr n = 2) (hl : Nat.ble rs.length 8 = true) (k : CaV d n [v1, v2] h (fun h' => At (d + 1) y p' ls rs h' Q)) : At (d + 1) y pos ls (v2 :: v1 :: rs) h Q := by
  simp only [cS, Bool.and_eq_true, Bool.or_eq_true, Bool.not_eq_true', beq_iff_eq] at hc
  obtain ⟨⟨⟨h1, h2⟩, h3⟩, h4⟩ := hc
  subst h3; subst hp
  refine x_call0 (as := [v1, v2]) (rs := rs) hC hi h1 h2 (by rw [ha]; rfl) (by rw [ha]; rfl) (by rw [ha, hl]; rfl) ?_ (CaV.of rfl k (fun h' z => z))
  rcases h4 with e | e <;> rw [e] <;> rfl
theorem x_cVS3 (hC : cod y = C) {i : Ins} {n : Nat} {rs : List AV} {v1 v2 v3 : AV} (hi : C[pos]? = some i) (hc : cS i n = true) (hp : pos + 1 = p') (ha : hAr n = 3) (hl : Nat.ble rs.length 8 = true) (k : CaV d n [v1, v2, v3] h (fun h' => At (d + 1) y p' ls rs h' Q)) : At (d + 1) y pos ls (v3 :: v2 :: v1 :: rs) h Q := by
  simp only [cS, Bool.and_eq_true, Bool.or_eq_true, Bool.not_eq_true', beq_iff_eq] at hc
  obtain ⟨⟨⟨h1, h2⟩, h3⟩, h4⟩ := hc
  subst h3; subst hp
  refine x_call0 (as := [v1, v2, v3]) (rs := rs) hC hi h1 h2 (by rw [ha]; rfl) (by rw [ha]; rfl) (by rw [ha, hl]; rfl) ?_ (CaV.of rfl k (fun h' z => z))
  rcases h4 with e | e <;> rw [e] <;> rfl
theorem x_cVS4 (hC : cod y = C) {i : Ins} {n : Nat} {rs : List AV} {v1 v2 v3 v4 : AV} (hi : C[pos]? = some i) (hc : cS i n = true) (hp : pos + 1 = p') (ha : hAr n = 4) (hl : Nat.ble rs.length 8 = true) (k : CaV d n [v1, v2, v3, v4] h (fun h' => At (d + 1) y p' ls rs h' Q)) : At (d + 1) y pos ls (v4 :: v3 :: v2 :: v1 :: rs) h Q := by
  simp only [cS, Bool.and_eq_true, Bool.or_eq_true, Bool.not_eq_true', beq_iff_eq] at hc
  obtain ⟨⟨⟨h1, h2⟩, h3⟩, h4⟩ := hc
  subst h3; subst hp
  refine x_call0 (as := [v1, v2, v3, v4]) (rs := rs) hC hi h1 h2 (by rw [ha]; rfl) (by rw [ha]; rfl) (by rw [ha, hl]; rfl) ?_ (CaV.of rfl k (fun h' z => z))
  rcases h4 with e | e <;> rw [e] <;> rfl
theorem x_cVS5 (hC : cod y = C) {i : Ins} {n : Nat} {rs : List AV} {v1 v2 v3 v4 v5 : AV} (hi : C[pos]? = some i) (hc : cS i n = true) (hp : pos + 1 = p') (ha : hAr n = 5) (hl : Nat.ble rs.length 8 = true) (k : CaV d n [v1, v2, v3, v4, v5] h (fun h' => At (d + 1) y p' ls rs h' Q)) : At (d + 1) y pos ls (v5 :: v4 :: v3 :: v2 :: v1 :: rs) h Q := by
  simp only [cS, Bool.and_eq_true, Bool.or_eq_true, Bool.not_eq_true', beq_iff_eq] at hc
  obtain ⟨⟨⟨h1, h2⟩, h3⟩, h4⟩ := hc
  subst h3; subst hp
  refine x_call0 (as := [v1, v2, v3, v4, v5]) (rs := rs) hC hi h1 h2 (by rw [ha]; rfl) (by rw [ha]; rfl) (by rw [ha, hl]; rfl) ?_ (CaV.of rfl k (fun h' z => z))
  rcases h4 with e | e <;> rw [e] <;> rfl
theorem x_cVN0 (hC : cod y = C) {i : Ins} {n : Nat} {rs : List AV} {q : Nat} (hi : C[pos]? = some i) (hc : cN i n = true) (hp : pos + 1 = p') (ha : hAr n = 1) (hl : Nat.ble rs.length 8 = true) (k : CaV d n [.inr (some q)] h (fun h' => At (d + 1) y p' ls rs h' Q)) : At (d + 1) y pos ls (.inr (some q) :: rs) h Q := by
  simp only [cN, Bool.and_eq_true, Bool.or_eq_true, Bool.not_eq_true', beq_iff_eq] at hc
  obtain ⟨⟨⟨h1, h2⟩, h3⟩, h4⟩ := hc
  subst h3; subst hp
  refine x_call0 (as := [.inr (some q)]) (rs := rs) hC hi h1 h2 (by rw [ha]; rfl) (by rw [ha]; rfl) (by rw [ha, hl]; rfl) ?_ (CaV.of rfl k (fun h' z => z))
  rcases h4 with e | e <;> rw [e] <;> rfl
def stI (i : Ins) : Nat := match i.1 with
  | .istore k => k + 1
  | .istore_n k => k + 1
  | _ => 0
def stA (i : Ins) : Nat := match i.1 with
  | .astore k => k + 1
  | .astore_n k => k + 1
  | _ => 0
theorem stI_spec {i : Ins} {k : Nat} (h0 : stI i = k + 1) {pos d : Nat} {ls : Ls} {x : Int} {r : List AV} {h : HP} (hl : k < ls.length) : isRet i = false ∧ isCall i = false ∧ ex1 d i pos ls (.inl x :: r) h = some (pos + 1, ls.set k (some (.inl x)), r, h) := by
  obtain ⟨raw, v, a, b, w, sw⟩ := i
  cases raw
  case istore j =>
    obtain rfl : j = k := Nat.succ.inj h0
    exact ⟨rfl, rfl, by simp only [ex1, e_store]; exact if_pos ⟨trivial, hl⟩⟩
  case istore_n j =>
    obtain rfl : (j : Nat) = k := Nat.succ.inj h0
    exact ⟨rfl, rfl, by simp only [ex1, e_store]; exact if_pos ⟨trivial, hl⟩⟩
  all_goals exact absurd h0 (Nat.succ_ne_zero k).symm
theorem stA_spec {i : Ins} {k : Nat} (h0 : stA i = k + 1) {pos d : Nat} {ls : Ls} {x : Option Nat} {r : List AV} {h : HP} (hl : k < ls.length) : isRet i = false ∧ isCall i = false ∧ ex1 d i pos ls (.inr x :: r) h = some (pos + 1, ls.set k (some (.inr x)), r, h) := by
  obtain ⟨raw, v, a, b, w, sw⟩ := i
  cases raw
  case astore j =>
    obtain rfl : j = k := Nat.succ.inj h0
    exact ⟨rfl, rfl, by simp only [ex1, e_store]; exact if_pos ⟨trivial, hl⟩⟩
  case astore_n j =>
    obtain rfl : (j : Nat) = k := Nat.succ.inj h0
    exact ⟨rfl, rfl, by simp only [ex1, e_store]; exact if_pos ⟨trivial, hl⟩⟩
  all_goals exact absurd h0 (Nat.succ_ne_zero k).symm
theorem x_stI0 (hC : cod y = C) {i : Ins} {a0 : Option AV} {l : Ls} {x : Int} {r : List AV} (hi : C[pos]? = some i) (hs : stI i = 0 + 1) (hp : pos + 1 = p') (k : At d y p' (some (.inl x) :: l) r h Q) : At d y pos (a0 :: l) (.inl x :: r) h Q := by
  subst hp
  obtain ⟨h1, h2, h3⟩ := stI_spec (pos := pos) (d := d) (ls := a0 :: l) (x := x) (r := r) (h := h) hs (by simp only [List.length_cons]; omega)
  exact x_1 hC hi h1 h2 h3 k
theorem x_stA0 (hC : cod y = C) {i : Ins} {a0 : Option AV} {l : Ls} {x : Option Nat} {r : List AV} (hi : C[pos]? = some i) (hs : stA i = 0 + 1) (hp : pos + 1 = p') (k : At d y p' (some (.inr x) :: l) r h Q) : At d y pos (a0 :: l) (.inr x :: r) h Q := by
  subst hp
  obtain ⟨h1, h2, h3⟩ := stA_spec (pos := pos) (d := d) (ls := a0 :: l) (x := x) (r := r) (h := h) hs (by simp only [List.length_cons]; omega)
  exact x_1 hC hi h1 h2 h3 k
theorem x_inc0 (hC : cod y = C) {c v : Int} {a b w : Nat} {sw : List Nat} {l : Ls} {x : Int} (hi : C[pos]? = some (.iinc 0 c, v, a, b, w, sw)) (hp : pos + 1 = p') (hz : inR (x + c)) (k : At d y p' (some (.inl (x + c)) :: l) st h Q) : At d y pos (some (.inl x) :: l) st h Q := x_iinc hC hi hp rfl hz rfl k
theorem x_stI1 (hC : cod y = C) {i : Ins} {a0 a1 : Option AV} {l : Ls} {x : Int} {r : List AV} (hi : C[pos]? = some i) (hs : stI i = 1 + 1) (hp : pos + 1 = p') (k : At d y p' (a0 :: some (.inl x) :: l) r h Q) : At d y pos (a0 :: a1 :: l) (.inl x :: r) h Q := by
  subst hp
  obtain ⟨h1, h2, h3⟩ := stI_spec (pos := pos) (d := d) (ls := a0 :: a1 :: l) (x := x) (r := r) (h := h) hs (by simp only [List.length_cons]; omega)
  exact x_1 hC hi h1 h2 h3 k
theorem x_stA1 (hC : cod y = C) {i : Ins} {a0 a1 : Option AV} {l : Ls} {x : Option Nat} {r : List AV} (hi : C[pos]? = some i) (hs : stA i = 1 + 1) (hp : pos + 1 = p') (k : At d y p' (a0 :: some (.inr x) :: l) r h Q) : At d y pos (a0 :: a1 :: l) (.inr x :: r) h Q := by
  subst hp
  obtain ⟨h1, h2, h3⟩ := stA_spec (pos := pos) (d := d) (ls := a0 :: a1 :: l) (x := x) (r := r) (h := h) hs (by simp only [List.length_cons]; omega)
  exact x_1 hC hi h1 h2 h3 k
theorem x_inc1 (hC : cod y = C) {c v : Int} {a b w : Nat} {sw : List Nat} {a0 : Option AV} {l : Ls} {x : Int} (hi : C[pos]? = some (.iinc 1 c, v, a, b, w, sw)) (hp : pos + 1 = p') (hz : inR (x + c)) (k : At d y p' (a0 :: some (.inl (x + c)) :: l) st h Q) : At d y pos (a0 :: some (.inl x) :: l) st h Q := x_iinc hC hi hp rfl hz rfl k
theorem x_stI2 (hC : cod y = C) {i : Ins} {a0 a1 a2 : Option AV} {l : Ls} {x : Int} {r : List AV} (hi : C[pos]? = some i) (hs : stI i = 2 + 1) (hp : pos + 1 = p') (k : At d y p' (a0 :: a1 :: some (.inl x) :: l) r h Q) : At d y pos (a0 :: a1 :: a2 :: l) (.inl x :: r) h Q := by
  subst hp
  obtain ⟨h1, h2, h3⟩ := stI_spec (pos := pos) (d := d) (ls := a0 :: a1 :: a2 :: l) (x := x) (r := r) (h := h) hs (by simp only [List.length_cons]; omega)
  exact x_1 hC hi h1 h2 h3 k
theorem x_stA2 (hC : cod y = C) {i : Ins} {a0 a1 a2 : Option AV} {l : Ls} {x : Option Nat} {r : List AV} (hi : C[pos]? = some i) (hs : stA i = 2 + 1) (hp : pos + 1 = p') (k : At d y p' (a0 :: a1 :: some (.inr x) :: l) r h Q) : At d y pos (a0 :: a1 :: a2 :: l) (.inr x :: r) h Q := by
  subst hp
  obtain ⟨h1, h2, h3⟩ := stA_spec (pos := pos) (d := d) (ls := a0 :: a1 :: a2 :: l) (x := x) (r := r) (h := h) hs (by simp only [List.length_cons]; omega)
  exact x_1 hC hi h1 h2 h3 k
theorem x_inc2 (hC : cod y = C) {c v : Int} {a b w : Nat} {sw : List Nat} {a0 a1 : Option AV} {l : Ls} {x : Int} (hi : C[pos]? = some (.iinc 2 c, v, a, b, w, sw)) (hp : pos + 1 = p') (hz : inR (x + c)) (k : At d y p' (a0 :: a1 :: some (.inl (x + c)) :: l) st h Q) : At d y pos (a0 :: a1 :: some (.inl x) :: l) st h Q := x_iinc hC hi hp rfl hz rfl k
theorem x_stI3 (hC : cod y = C) {i : Ins} {a0 a1 a2 a3 : Option AV} {l : Ls} {x : Int} {r : List AV} (hi : C[pos]? = some i) (hs : stI i = 3 + 1) (hp : pos + 1 = p') (k : At d y p' (a0 :: a1 :: a2 :: some (.inl x) :: l) r h Q) : At d y pos (a0 :: a1 :: a2 :: a3 :: l) (.inl x :: r) h Q := by
  subst hp
  obtain ⟨h1, h2, h3⟩ := stI_spec (pos := pos) (d := d) (ls := a0 :: a1 :: a2 :: a3 :: l) (x := x) (r := r) (h := h) hs (by simp only [List.length_cons]; omega)
  exact x_1 hC hi h1 h2 h3 k
theorem x_stA3 (hC : cod y = C) {i : Ins} {a0 a1 a2 a3 : Option AV} {l : Ls} {x : Option Nat} {r : List AV} (hi : C[pos]? = some i) (hs : stA i = 3 + 1) (hp : pos + 1 = p') (k : At d y p' (a0 :: a1 :: a2 :: some (.inr x) :: l) r h Q) : At d y pos (a0 :: a1 :: a2 :: a3 :: l) (.inr x :: r) h Q := by
  subst hp
  obtain ⟨h1, h2, h3⟩ := stA_spec (pos := pos) (d := d) (ls := a0 :: a1 :: a2 :: a3 :: l) (x := x) (r := r) (h := h) hs (by simp only [List.length_cons]; omega)
  exact x_1 hC hi h1 h2 h3 k
theorem x_inc3 (hC : cod y = C) {c v : Int} {a b w : Nat} {sw : List Nat} {a0 a1 a2 : Option AV} {l : Ls} {x : Int} (hi : C[pos]? = some (.iinc 3 c, v, a, b, w, sw)) (hp : pos + 1 = p') (hz : inR (x + c)) (k : At d y p' (a0 :: a1 :: a2 :: some (.inl (x + c)) :: l) st h Q) : At d y pos (a0 :: a1 :: a2 :: some (.inl x) :: l) st h Q := x_iinc hC hi hp rfl hz rfl k
theorem x_stI4 (hC : cod y = C) {i : Ins} {a0 a1 a2 a3 a4 : Option AV} {l : Ls} {x : Int} {r : List AV} (hi : C[pos]? = some i) (hs : stI i = 4 + 1) (hp : pos + 1 = p') (k : At d y p' (a0 :: a1 :: a2 :: a3 :: some (.inl x) :: l) r h Q) : At d y pos (a0 :: a1 :: a2 :: a3 :: a4 :: l) (.inl x :: r) h Q := by
  subst hp
  obtain ⟨h1, h2, h3⟩ := stI_spec (pos := pos) (d := d) (ls := a0 :: a1 :: a2 :: a3 :: a4 :: l) (x := x) (r := r) (h := h) hs (by simp only [List.length_cons]; omega)
  exact x_1 hC hi h1 h2 h3 k
theorem x_stA4 (hC : cod y = C) {i : Ins} {a0 a1 a2 a3 a4 : Option AV} {l : Ls} {x : Option Nat} {r : List AV} (hi : C[pos]? = some i) (hs : stA i = 4 + 1) (hp : pos + 1 = p') (k : At d y p' (a0 :: a1 :: a2 :: a3 :: some (.inr x) :: l) r h Q) : At d y pos (a0 :: a1 :: a2 :: a3 :: a4 :: l) (.inr x :: r) h Q := by
  subst hp
  obtain ⟨h1, h2, h3⟩ := stA_spec (pos := pos) (d := d) (ls := a0 :: a1 :: a2 :: a3 :: a4 :: l) (x := x) (r := r) (h := h) hs (by simp only [List.length_cons]; omega)
  exact x_1 hC hi h1 h2 h3 k
theorem x_inc4 (hC : cod y = C) {c v : Int} {a b w : Nat} {sw : List Nat} {a0 a1 a2 a3 : Option AV} {l : Ls} {x : Int} (hi : C[pos]? = some (.iinc 4 c, v, a, b, w, sw)) (hp : pos + 1 = p') (hz : inR (x + c)) (k : At d y p' (a0 :: a1 :: a2 :: a3 :: some (.inl (x + c)) :: l) st h Q) : At d y pos (a0 :: a1 :: a2 :: a3 :: some (.inl x) :: l) st h Q := x_iinc hC hi hp rfl hz rfl k
theorem x_stI5 (hC : cod y = C) {i : Ins} {a0 a1 a2 a3 a4 a5 : Option AV} {l : Ls} {x : Int} {r : List AV} (hi : C[pos]? = some i) (hs : stI i = 5 + 1) (hp : pos + 1 = p') (k : At d y p' (a0 :: a1 :: a2 :: a3 :: a4 :: some (.inl x) :: l) r h Q) : At d y pos (a0 :: a1 :: a2 :: a3 :: a4 :: a5 :: l) (.inl x :: r) h Q := by
  subst hp
  obtain ⟨h1, h2, h3⟩ := stI_spec (pos := pos) (d := d) (ls := a0 :: a1 :: a2 :: a3 :: a4 :: a5 :: l) (x := x) (r := r) (h := h) hs (by simp only [List.length_cons]; omega)
  exact x_1 hC hi h1 h2 h3 k
theorem x_stA5 (hC : cod y = C) {i : Ins} {a0 a1 a2 a3 a4 a5 : Option AV} {l : Ls} {x : Option Nat} {r : List AV} (hi : C[pos]? = some i) (hs : stA i = 5 + 1) (hp : pos + 1 = p') (k : At d y p' (a0 :: a1 :: a2 :: a3 :: a4 :: some (.inr x) :: l) r h Q) : At d y pos (a0 :: a1 :: a2 :: a3 :: a4 :: a5 :: l) (.inr x :: r) h Q := by
  subst hp
  obtain ⟨h1, h2, h3⟩ := stA_spec (pos := pos) (d := d) (ls := a0 :: a1 :: a2 :: a3 :: a4 :: a5 :: l) (x := x) (r := r) (h := h) hs (by simp only [List.length_cons]; omega)
  exact x_1 hC hi h1 h2 h3 k
theorem x_inc5 (hC : cod y = C) {c v : Int} {a b w : Nat} {sw : List Nat} {a0 a1 a2 a3 a4 : Option AV} {l : Ls} {x : Int} (hi : C[pos]? = some (.iinc 5 c, v, a, b, w, sw)) (hp : pos + 1 = p') (hz : inR (x + c)) (k : At d y p' (a0 :: a1 :: a2 :: a3 :: a4 :: some (.inl (x + c)) :: l) st h Q) : At d y pos (a0 :: a1 :: a2 :: a3 :: a4 :: some (.inl x) :: l) st h Q := x_iinc hC hi hp rfl hz rfl k
theorem x_stI6 (hC : cod y = C) {i : Ins} {a0 a1 a2 a3 a4 a5 a6 : Option AV} {l : Ls} {x : Int} {r : List AV} (hi : C[pos]? = some i) (hs : stI i = 6 + 1) (hp : pos + 1 = p') (k : At d y p' (a0 :: a1 :: a2 :: a3 :: a4 :: a5 :: some (.inl x) :: l) r h Q) : At d y pos (a0 :: a1 :: a2 :: a3 :: a4 :: a5 :: a6 :: l) (.inl x :: r) h Q := by
  subst hp
  obtain ⟨h1, h2, h3⟩ := stI_spec (pos := pos) (d := d) (ls := a0 :: a1 :: a2 :: a3 :: a4 :: a5 :: a6 :: l) (x := x) (r := r) (h := h) hs (by simp only [List.length_cons]; omega)
  exact x_1 hC hi h1 h2 h3 k
theorem x_stA6 (hC : cod y = C) {i : Ins} {a0 a1 a2 a3 a4 a5 a6 : Option AV} {l : Ls} {x : Option Nat} {r : List AV} (hi : C[pos]? = some i) (hs : stA i = 6 + 1) (hp : pos + 1 = p') (k : At d y p' (a0 :: a1 :: a2 :: a3 :: a4 :: a5 :: some (.inr x) :: l) r h Q) : At d y pos (a0 :: a1 :: a2 :: a3 :: a4 :: a5 :: a6 :: l) (.inr x :: r) h Q := by
  subst hp
  obtain ⟨h1, h2, h3⟩ := stA_spec (pos := pos) (d := d) (ls := a0 :: a1 :: a2 :: a3 :: a4 :: a5 :: a6 :: l) (x := x) (r := r) (h := h) hs (by simp only [List.length_cons]; omega)
  exact x_1 hC hi h1 h2 h3 k
theorem x_inc6 (hC : cod y = C) {c v : Int} {a b w : Nat} {sw : List Nat} {a0 a1 a2 a3 a4 a5 : Option AV} {l : Ls} {x : Int} (hi : C[pos]? = some (.iinc 6 c, v, a, b, w, sw)) (hp : pos + 1 = p') (hz : inR (x + c)) (k : At d y p' (a0 :: a1 :: a2 :: a3 :: a4 :: a5 :: some (.inl (x + c)) :: l) st h Q) : At d y pos (a0 :: a1 :: a2 :: a3 :: a4 :: a5 :: some (.inl x) :: l) st h Q := x_iinc hC hi hp rfl hz rfl k
theorem x_stI7 (hC : cod y = C) {i : Ins} {a0 a1 a2 a3 a4 a5 a6 a7 : Option AV} {l : Ls} {x : Int} {r : List AV} (hi : C[pos]? = some i) (hs : stI i = 7 + 1) (hp : pos + 1 = p') (k : At d y p' (a0 :: a1 :: a2 :: a3 :: a4 :: a5 :: a6 :: some (.inl x) :: l) r h Q) : At d y pos (a0 :: a1 :: a2 :: a3 :: a4 :: a5 :: a6 :: a7 :: l) (.inl x :: r) h Q := by
  subst hp
  obtain ⟨h1, h2, h3⟩ := stI_spec (pos := pos) (d := d) (ls := a0 :: a1 :: a2 :: a3 :: a4 :: a5 :: a6 :: a7 :: l) (x := x) (r := r) (h := h) hs (by simp only [List.length_cons]; omega)
  exact x_1 hC hi h1 h2 h3 k
theorem x_stA7 (hC : cod y = C) {i : Ins} {a0 a1 a2 a3 a4 a5 a6 a7 : Option AV} {l : Ls} {x : Option Nat} {r : List AV} (hi : C[pos]? = some i) (hs : stA i = 7 + 1) (hp : pos + 1 = p') (k : At d y p' (a0 :: a1 :: a2 :: a3 :: a4 :: a5 :: a6 :: some (.inr x) :: l) r h Q) : At d y pos (a0 :: a1 :: a2 :: a3 :: a4 :: a5 :: a6 :: a7 :: l) (.inr x :: r) h Q := by
  subst hp
  obtain ⟨h1, h2, h3⟩ := stA_spec (pos := pos) (d := d) (ls := a0 :: a1 :: a2 :: a3 :: a4 :: a5 :: a6 :: a7 :: l) (x := x) (r := r) (h := h) hs (by simp only [List.length_cons]; omega)
  exact x_1 hC hi h1 h2 h3 k
theorem x_inc7 (hC : cod y = C) {c v : Int} {a b w : Nat} {sw : List Nat} {a0 a1 a2 a3 a4 a5 a6 : Option AV} {l : Ls} {x : Int} (hi : C[pos]? = some (.iinc 7 c, v, a, b, w, sw)) (hp : pos + 1 = p') (hz : inR (x + c)) (k : At d y p' (a0 :: a1 :: a2 :: a3 :: a4 :: a5 :: a6 :: some (.inl (x + c)) :: l) st h Q) : At d y pos (a0 :: a1 :: a2 :: a3 :: a4 :: a5 :: a6 :: some (.inl x) :: l) st h Q := x_iinc hC hi hp rfl hz rfl k
theorem x_stI8 (hC : cod y = C) {i : Ins} {a0 a1 a2 a3 a4 a5 a6 a7 a8 : Option AV} {l : Ls} {x : Int} {r : List AV} (hi : C[pos]? = some i) (hs : stI i = 8 + 1) (hp : pos + 1 = p') (k : At d y p' (a0 :: a1 :: a2 :: a3 :: a4 :: a5 :: a6 :: a7 :: some (.inl x) :: l) r h Q) : At d y pos (a0 :: a1 :: a2 :: a3 :: a4 :: a5 :: a6 :: a7 :: a8 :: l) (.inl x :: r) h Q := by
  subst hp
  obtain ⟨h1, h2, h3⟩ := stI_spec (pos := pos) (d := d) (ls := a0 :: a1 :: a2 :: a3 :: a4 :: a5 :: a6 :: a7 :: a8 :: l) (x := x) (r := r) (h := h) hs (by simp only [List.length_cons]; omega)
  exact x_1 hC hi h1 h2 h3 k
theorem x_stA8 (hC : cod y = C) {i : Ins} {a0 a1 a2 a3 a4 a5 a6 a7 a8 : Option AV} {l : Ls} {x : Option Nat} {r : List AV} (hi : C[pos]? = some i) (hs : stA i = 8 + 1) (hp : pos + 1 = p') (k : At d y p' (a0 :: a1 :: a2 :: a3 :: a4 :: a5 :: a6 :: a7 :: some (.inr x) :: l) r h Q) : At d y pos (a0 :: a1 :: a2 :: a3 :: a4 :: a5 :: a6 :: a7 :: a8 :: l) (.inr x :: r) h Q := by
  subst hp
  obtain ⟨h1, h2, h3⟩ := stA_spec (pos := pos) (d := d) (ls := a0 :: a1 :: a2 :: a3 :: a4 :: a5 :: a6 :: a7 :: a8 :: l) (x := x) (r := r) (h := h) hs (by simp only [List.length_cons]; omega)
  exact x_1 hC hi h1 h2 h3 k
theorem x_inc8 (hC : cod y = C) {c v : Int} {a b w : Nat} {sw : List Nat} {a0 a1 a2 a3 a4 a5 a6 a7 : Option AV} {l : Ls} {x : Int} (hi : C[pos]? = some (.iinc 8 c, v, a, b, w, sw)) (hp : pos + 1 = p') (hz : inR (x + c)) (k : At d y p' (a0 :: a1 :: a2 :: a3 :: a4 :: a5 :: a6 :: a7 :: some (.inl (x + c)) :: l) st h Q) : At d y pos (a0 :: a1 :: a2 :: a3 :: a4 :: a5 :: a6 :: a7 :: some (.inl x) :: l) st h Q := x_iinc hC hi hp rfl hz rfl k
theorem x_stI9 (hC : cod y = C) {i : Ins} {a0 a1 a2 a3 a4 a5 a6 a7 a8 a9 : Option AV} {l : Ls} {x : Int} {r : List AV} (hi : C[pos]? = some i) (hs : stI i = 9 + 1) (hp : pos + 1 = p') (k : At d y p' (a0 :: a1 :: a2 :: a3 :: a4 :: a5 :: a6 :: a7 :: a8 :: some (.inl x) :: l) r h Q) : At d y pos (a0 :: a1 :: a2 :: a3 :: a4 :: a5 :: a6 :: a7 :: a8 :: a9 :: l) (.inl x :: r) h Q := by
  subst hp
  obtain ⟨h1, h2, h3⟩ := stI_spec (pos := pos) (d := d) (ls := a0 :: a1 :: a2 :: a3 :: a4 :: a5 :: a6 :: a7 :: a8 :: a9 :: l) (x := x) (r := r) (h := h) hs (by simp only [List.length_cons]; omega)
  exact x_1 hC hi h1 h2 h3 k
theorem x_stA9 (hC : cod y = C) {i : Ins} {a0 a1 a2 a3 a4 a5 a6 a7 a8 a9 : Option AV} {l : Ls} {x : Option Nat} {r : List AV} (hi : C[pos]? = some i) (hs : stA i = 9 + 1) (hp : pos + 1 = p') (k : At d y p' (a0 :: a1 :: a2 :: a3 :: a4 :: a5 :: a6 :: a7 :: a8 :: some (.inr x) :: l) r h Q) : At d y pos (a0 :: a1 :: a2 :: a3 :: a4 :: a5 :: a6 :: a7 :: a8 :: a9 :: l) (.inr x :: r) h Q := by
  subst hp
  obtain ⟨h1, h2, h3⟩ := stA_spec (pos := pos) (d := d) (ls := a0 :: a1 :: a2 :: a3 :: a4 :: a5 :: a6 :: a7 :: a8 :: a9 :: l) (x := x) (r := r) (h := h) hs (by simp only [List.length_cons]; omega)
  exact x_1 hC hi h1 h2 h3 k
theorem x_inc9 (hC : cod y = C) {c v : Int} {a b w : Nat} {sw : List Nat} {a0 a1 a2 a3 a4 a5 a6 a7 a8 : Option AV} {l : Ls} {x : Int} (hi : C[pos]? = some (.iinc 9 c, v, a, b, w, sw)) (hp : pos + 1 = p') (hz : inR (x + c)) (k : At d y p' (a0 :: a1 :: a2 :: a3 :: a4 :: a5 :: a6 :: a7 :: a8 :: some (.inl (x + c)) :: l) st h Q) : At d y pos (a0 :: a1 :: a2 :: a3 :: a4 :: a5 :: a6 :: a7 :: a8 :: some (.inl x) :: l) st h Q := x_iinc hC hi hp rfl hz rfl k
theorem x_stI10 (hC : cod y = C) {i : Ins} {a0 a1 a2 a3 a4 a5 a6 a7 a8 a9 a10 : Option AV} {l : Ls} {x : Int} {r : List AV} (hi : C[pos]? = some i) (hs : stI i = 10 + 1) (hp : pos + 1 = p') (k : At d y p' (a0 :: a1 :: a2 :: a3 :: a4 :: a5 :: a6 :: a7 :: a8 :: a9 :: some (.inl x) :: l) r h Q) : At d y pos (a0 :: a1 :: a2 :: a3 :: a4 :: a5 :: a6 :: a7 :: a8 :: a9 :: a10 :: l) (.inl x :: r) h Q := by
  subst hp
  obtain ⟨h1, h2, h3⟩ := stI_spec (pos := pos) (d := d) (ls := a0 :: a1 :: a2 :: a3 :: a4 :: a5 :: a6 :: a7 :: a8 :: a9 :: a10 :: l) (x := x) (r := r) (h := h) hs (by simp only [List.length_cons]; omega)
  exact x_1 hC hi h1 h2 h3 k
theorem x_stA10 (hC : cod y = C) {i : Ins} {a0 a1 a2 a3 a4 a5 a6 a7 a8 a9 a10 : Option AV} {l : Ls} {x : Option Nat} {r : List AV} (hi : C[pos]? = some i) (hs : stA i = 10 + 1) (hp : pos + 1 = p') (k : At d y p' (a0 :: a1 :: a2 :: a3 :: a4 :: a5 :: a6 :: a7 :: a8 :: a9 :: some (.inr x) :: l) r h Q) : At d y pos (a0 :: a1 :: a2 :: a3 :: a4 :: a5 :: a6 :: a7 :: a8 :: a9 :: a10 :: l) (.inr x :: r) h Q := by
  subst hp
  obtain ⟨h1, h2, h3⟩ := stA_spec (pos := pos) (d := d) (ls := a0 :: a1 :: a2 :: a3 :: a4 :: a5 :: a6 :: a7 :: a8 :: a9 :: a10 :: l) (x := x) (r := r) (h := h) hs (by simp only [List.length_cons]; omega)
  exact x_1 hC hi h1 h2 h3 k
theorem x_inc10 (hC : cod y = C) {c v : Int} {a b w : Nat} {sw : List Nat} {a0 a1 a2 a3 a4 a5 a6 a7 a8 a9 : Option AV} {l : Ls} {x : Int} (hi : C[pos]? = some (.iinc 10 c, v, a, b, w, sw)) (hp : pos + 1 = p') (hz : inR (x + c)) (k : At d y p' (a0 :: a1 :: a2 :: a3 :: a4 :: a5 :: a6 :: a7 :: a8 :: a9 :: some (.inl (x + c)) :: l) st h Q) : At d y pos (a0 :: a1 :: a2 :: a3 :: a4 :: a5 :: a6 :: a7 :: a8 :: a9 :: some (.inl x) :: l) st h Q := x_iinc hC hi hp rfl hz rfl k
theorem x_stI11 (hC : cod y = C) {i : Ins} {a0 a1 a2 a3 a4 a5 a6 a7 a8 a9 a10 a11 : Option AV} {l : Ls} {x : Int} {r : List AV} (hi : C[pos]? = some i) (hs : stI i = 11 + 1) (hp : pos + 1 = p') (k : At d y p' (a0 :: a1 :: a2 :: a3 :: a4 :: a5 :: a6 :: a7 :: a8 :: a9 :: a10 :: some (.inl x) :: l) r h Q) : At d y pos (a0 :: a1 :: a2 :: a3 :: a4 :: a5 :: a6 :: a7 :: a8 :: a9 :: a10 :: a11 :: l) (.inl x :: r) h Q := by
  subst hp
  obtain ⟨h1, h2, h3⟩ := stI_spec (pos := pos) (d := d) (ls := a0 :: a1 :: a2 :: a3 :: a4 :: a5 :: a6 :: a7 :: a8 :: a9 :: a10 :: a11 :: l) (x := x) (r := r) (h := h) hs (by simp only [List.length_cons]; omega)
  exact x_1 hC hi h1 h2 h3 k
theorem x_stA11 (hC : cod y = C) {i : Ins} {a0 a1 a2 a3 a4 a5 a6 a7 a8 a9 a10 a11 : Option AV} {l : Ls} {x : Option Nat} {r : List AV} (hi : C[pos]? = some i) (hs : stA i = 11 + 1) (hp : pos + 1 = p') (k : At d y p' (a0 :: a1 :: a2 :: a3 :: a4 :: a5 :: a6 :: a7 :: a8 :: a9 :: a10 :: some (.inr x) :: l) r h Q) : At d y pos (a0 :: a1 :: a2 :: a3 :: a4 :: a5 :: a6 :: a7 :: a8 :: a9 :: a10 :: a11 :: l) (.inr x :: r) h Q := by
  subst hp
  obtain ⟨h1, h2, h3⟩ := stA_spec (pos := pos) (d := d) (ls := a0 :: a1 :: a2 :: a3 :: a4 :: a5 :: a6 :: a7 :: a8 :: a9 :: a10 :: a11 :: l) (x := x) (r := r) (h := h) hs (by simp only [List.length_cons]; omega)
  exact x_1 hC hi h1 h2 h3 k
theorem x_inc11 (hC : cod y = C) {c v : Int} {a b w : Nat} {sw : List Nat} {a0 a1 a2 a3 a4 a5 a6 a7 a8 a9 a10 : Option AV} {l : Ls} {x : Int} (hi : C[pos]? = some (.iinc 11 c, v, a, b, w, sw)) (hp : pos + 1 = p') (hz : inR (x + c)) (k : At d y p' (a0 :: a1 :: a2 :: a3 :: a4 :: a5 :: a6 :: a7 :: a8 :: a9 :: a10 :: some (.inl (x + c)) :: l) st h Q) : At d y pos (a0 :: a1 :: a2 :: a3 :: a4 :: a5 :: a6 :: a7 :: a8 :: a9 :: a10 :: some (.inl x) :: l) st h Q := x_iinc hC hi hp rfl hz rfl k
theorem x_stI12 (hC : cod y = C) {i : Ins} {a0 a1 a2 a3 a4 a5 a6 a7 a8 a9 a10 a11 a12 : Option AV} {l : Ls} {x : Int} {r : List AV} (hi : C[pos]? = some i) (hs : stI i = 12 + 1) (hp : pos + 1 = p') (k : At d y p' (a0 :: a1 :: a2 :: a3 :: a4 :: a5 :: a6 :: a7 :: a8 :: a9 :: a10 :: a11 :: some (.inl x) :: l) r h Q) : At d y pos (a0 :: a1 :: a2 :: a3 :: a4 :: a5 :: a6 :: a7 :: a8 :: a9 :: a10 :: a11 :: a12 :: l) (.inl x :: r) h Q := by
  subst hp
  obtain ⟨h1, h2, h3⟩ := stI_spec (pos := pos) (d := d) (ls := a0 :: a1 :: a2 :: a3 :: a4 :: a5 :: a6 :: a7 :: a8 :: a9 :: a10 :: a11 :: a12 :: l) (x := x) (r := r) (h := h) hs (by simp only [List.length_cons]; omega)
  exact x_1 hC hi h1 h2 h3 k
theorem x_stA12 (hC : cod y = C) {i : Ins} {a0 a1 a2 a3 a4 a5 a6 a7 a8 a9 a10 a11 a12 : Option AV} {l : Ls} {x : Option Nat} {r : List AV} (hi : C[pos]? = some i) (hs : stA i = 12 + 1) (hp : pos + 1 = p') (k : At d y p' (a0 :: a1 :: a2 :: a3 :: a4 :: a5 :: a6 :: a7 :: a8 :: a9 :: a10 :: a11 :: some (.inr x) :: l) r h Q) : At d y pos (a0 :: a1 :: a2 :: a3 :: a4 :: a5 :: a6 :: a7 :: a8 :: a9 :: a10 :: a11 :: a12 :: l) (.inr x :: r) h Q := by
  subst hp
  obtain ⟨h1, h2, h3⟩ := stA_spec (pos := pos) (d := d) (ls := a0 :: a1 :: a2 :: a3 :: a4 :: a5 :: a6 :: a7 :: a8 :: a9 :: a10 :: a11 :: a12 :: l) (x := x) (r := r) (h := h) hs (by simp only [List.length_cons]; omega)
  exact x_1 hC hi h1 h2 h3 k
theorem x_inc12 (hC : cod y = C) {c v : Int} {a b w : Nat} {sw : List Nat} {a0 a1 a2 a3 a4 a5 a6 a7 a8 a9 a10 a11 : Option AV} {l : Ls} {x : Int} (hi : C[pos]? = some (.iinc 12 c, v, a, b, w, sw)) (hp : pos + 1 = p') (hz : inR (x + c)) (k : At d y p' (a0 :: a1 :: a2 :: a3 :: a4 :: a5 :: a6 :: a7 :: a8 :: a9 :: a10 :: a11 :: some (.inl (x + c)) :: l) st h Q) : At d y pos (a0 :: a1 :: a2 :: a3 :: a4 :: a5 :: a6 :: a7 :: a8 :: a9 :: a10 :: a11 :: some (.inl x) :: l) st h Q := x_iinc hC hi hp rfl hz rfl k
theorem x_stI13 (hC : cod y = C) {i : Ins} {a0 a1 a2 a3 a4 a5 a6 a7 a8 a9 a10 a11 a12 a13 : Option AV} {l : Ls} {x : Int} {r : List AV} (hi : C[pos]? = some i) (hs : stI i = 13 + 1) (hp : pos + 1 = p') (k : At d y p' (a0 :: a1 :: a2 :: a3 :: a4 :: a5 :: a6 :: a7 :: a8 :: a9 :: a10 :: a11 :: a12 :: some (.inl x) :: l) r h Q) : At d y pos (a0 :: a1 :: a2 :: a3 :: a4 :: a5 :: a6 :: a7 :: a8 :: a9 :: a10 :: a11 :: a12 :: a13 :: l) (.inl x :: r) h Q := by
  subst hp
  obtain ⟨h1, h2, h3⟩ := stI_spec (pos := pos) (d := d) (ls := a0 :: a1 :: a2 :: a3 :: a4 :: a5 :: a6 :: a7 :: a8 :: a9 :: a10 :: a11 :: a12 :: a13 :: l) (x := x) (r := r) (h := h) hs (by simp only [List.length_cons]; omega)
  exact x_1 hC hi h1 h2 h3 k
theorem x_stA13 (hC : cod y = C) {i : Ins} {a0 a1 a2 a3 a4 a5 a6 a7 a8 a9 a10 a11 a12 a13 : Option AV} {l : Ls} {x : Option Nat} {r : List AV} (hi : C[pos]? = some i) (hs : stA i = 13 + 1) (hp : pos + 1 = p') (k : At d y p' (a0 :: a1 :: a2 :: a3 :: a4 :: a5 :: a6 :: a7 :: a8 :: a9 :: a10 :: a11 :: a12 :: some (.inr x) :: l) r h Q) : At d y pos (a0 :: a1 :: a2 :: a3 :: a4 :: a5 :: a6 :: a7 :: a8 :: a9 :: a10 :: a11 :: a12 :: a13 :: l) (.inr x :: r) h Q := by
  subst hp
  obtain ⟨h1, h2, h3⟩ := stA_spec (pos := pos) (d := d) (ls := a0 :: a1 :: a2 :: a3 :: a4 :: a5 :: a6 :: a7 :: a8 :: a9 :: a10 :: a11 :: a12 :: a13 :: l) (x := x) (r := r) (h := h) hs (by simp only [List.length_cons]; omega)
  exact x_1 hC hi h1 h2 h3 k
theorem x_inc13 (hC : cod y = C) {c v : Int} {a b w : Nat} {sw : List Nat} {a0 a1 a2 a3 a4 a5 a6 a7 a8 a9 a10 a11 a12 : Option AV} {l : Ls} {x : Int} (hi : C[pos]? = some (.iinc 13 c, v, a, b, w, sw)) (hp : pos + 1 = p') (hz : inR (x + c)) (k : At d y p' (a0 :: a1 :: a2 :: a3 :: a4 :: a5 :: a6 :: a7 :: a8 :: a9 :: a10 :: a11 :: a12 :: some (.inl (x + c)) :: l) st h Q) : At d y pos (a0 :: a1 :: a2 :: a3 :: a4 :: a5 :: a6 :: a7 :: a8 :: a9 :: a10 :: a11 :: a12 :: some (.inl x) :: l) st h Q := x_iinc hC hi hp rfl hz rfl k
theorem x_stI14 (hC : cod y = C) {i : Ins} {a0 a1 a2 a3 a4 a5 a6 a7 a8 a9 a10 a11 a12 a13 a14 : Option AV} {l : Ls} {x : Int} {r : List AV} (hi : C[pos]? = some i) (hs : stI i = 14 + 1) (hp : pos + 1 = p') (k : At d y p' (a0 :: a1 :: a2 :: a3 :: a4 :: a5 :: a6 :: a7 :: a8 :: a9 :: a10 :: a11 :: a12 :: a13 :: some (.inl x) :: l) r h Q) : At d y pos (a0 :: a1 :: a2 :: a3 :: a4 :: a5 :: a6 :: a7 :: a8 :: a9 :: a10 :: a11 :: a12 :: a13 :: a14 :: l) (.inl x :: r) h Q := by
  subst hp
  obtain ⟨h1, h2, h3⟩ := stI_spec (pos := pos) (d := d) (ls := a0 :: a1 :: a2 :: a3 :: a4 :: a5 :: a6 :: a7 :: a8 :: a9 :: a10 :: a11 :: a12 :: a13 :: a14 :: l) (x := x) (r := r) (h := h) hs (by simp only [List.length_cons]; omega)
  exact x_1 hC hi h1 h2 h3 k
theorem x_stA14 (hC : cod y = C) {i : Ins} {a0 a1 a2 a3 a4 a5 a6 a7 a8 a9 a10 a11 a12 a13 a14 : Option AV} {l : Ls} {x : Option Nat} {r : List AV} (hi : C[pos]? = some i) (hs : stA i = 14 + 1) (hp : pos + 1 = p') (k : At d y p' (a0 :: a1 :: a2 :: a3 :: a4 :: a5 :: a6 :: a7 :: a8 :: a9 :: a10 :: a11 :: a12 :: a13 :: some (.inr x) :: l) r h Q) : At d y pos (a0 :: a1 :: a2 :: a3 :: a4 :: a5 :: a6 :: a7 :: a8 :: a9 :: a10 :: a11 :: a12 :: a13 :: a14 :: l) (.inr x :: r) h Q := by
  subst hp
  obtain ⟨h1, h2, h3⟩ := stA_spec (pos := pos) (d := d) (ls := a0 :: a1 :: a2 :: a3 :: a4 :: a5 :: a6 :: a7 :: a8 :: a9 :: a10 :: a11 :: a12 :: a13 :: a14 :: l) (x := x) (r := r) (h := h) hs (by simp only [List.length_cons]; omega)
  exact x_1 hC hi h1 h2 h3 k
theorem x_inc14 (hC : cod y = C) {c v : Int} {a b w : Nat} {sw : List Nat} {a0 a1 a2 a3 a4 a5 a6 a7 a8 a9 a10 a11 a12 a13 : Option AV} {l : Ls} {x : Int} (hi : C[pos]? = some (.iinc 14 c, v, a, b, w, sw)) (hp : pos + 1 = p') (hz : inR (x + c)) (k : At d y p' (a0 :: a1 :: a2 :: a3 :: a4 :: a5 :: a6 :: a7 :: a8 :: a9 :: a10 :: a11 :: a12 :: a13 :: some (.inl (x + c)) :: l) st h Q) : At d y pos (a0 :: a1 :: a2 :: a3 :: a4 :: a5 :: a6 :: a7 :: a8 :: a9 :: a10 :: a11 :: a12 :: a13 :: some (.inl x) :: l) st h Q := x_iinc hC hi hp rfl hz rfl k
theorem x_stI15 (hC : cod y = C) {i : Ins} {a0 a1 a2 a3 a4 a5 a6 a7 a8 a9 a10 a11 a12 a13 a14 a15 : Option AV} {l : Ls} {x : Int} {r : List AV} (hi : C[pos]? = some i) (hs : stI i = 15 + 1) (hp : pos + 1 = p') (k : At d y p' (a0 :: a1 :: a2 :: a3 :: a4 :: a5 :: a6 :: a7 :: a8 :: a9 :: a10 :: a11 :: a12 :: a13 :: a14 :: some (.inl x) :: l) r h Q) : At d y pos (a0 :: a1 :: a2 :: a3 :: a4 :: a5 :: a6 :: a7 :: a8 :: a9 :: a10 :: a11 :: a12 :: a13 :: a14 :: a15 :: l) (.inl x :: r) h Q := by
  subst hp
  obtain ⟨h1, h2, h3⟩ := stI_spec (pos := pos) (d := d) (ls := a0 :: a1 :: a2 :: a3 :: a4 :: a5 :: a6 :: a7 :: a8 :: a9 :: a10 :: a11 :: a12 :: a13 :: a14 :: a15 :: l) (x := x) (r := r) (h := h) hs (by simp only [List.length_cons]; omega)
  exact x_1 hC hi h1 h2 h3 k
theorem x_stA15 (hC : cod y = C) {i : Ins} {a0 a1 a2 a3 a4 a5 a6 a7 a8 a9 a10 a11 a12 a13 a14 a15 : Option AV} {l : Ls} {x : Option Nat} {r : List AV} (hi : C[pos]? = some i) (hs : stA i = 15 + 1) (hp : pos + 1 = p') (k : At d y p' (a0 :: a1 :: a2 :: a3 :: a4 :: a5 :: a6 :: a7 :: a8 :: a9 :: a10 :: a11 :: a12 :: a13 :: a14 :: some (.inr x) :: l) r h Q) : At d y pos (a0 :: a1 :: a2 :: a3 :: a4 :: a5 :: a6 :: a7 :: a8 :: a9 :: a10 :: a11 :: a12 :: a13 :: a14 :: a15 :: l) (.inr x :: r) h Q := by
  subst hp
  obtain ⟨h1, h2, h3⟩ := stA_spec (pos := pos) (d := d) (ls := a0 :: a1 :: a2 :: a3 :: a4 :: a5 :: a6 :: a7 :: a8 :: a9 :: a10 :: a11 :: a12 :: a13 :: a14 :: a15 :: l) (x := x) (r := r) (h := h) hs (by simp only [List.length_cons]; omega)
  exact x_1 hC hi h1 h2 h3 k
theorem x_inc15 (hC : cod y = C) {c v : Int} {a b w : Nat} {sw : List Nat} {a0 a1 a2 a3 a4 a5 a6 a7 a8 a9 a10 a11 a12 a13 a14 : Option AV} {l : Ls} {x : Int} (hi : C[pos]? = some (.iinc 15 c, v, a, b, w, sw)) (hp : pos + 1 = p') (hz : inR (x + c)) (k : At d y p' (a0 :: a1 :: a2 :: a3 :: a4 :: a5 :: a6 :: a7 :: a8 :: a9 :: a10 :: a11 :: a12 :: a13 :: a14 :: some (.inl (x + c)) :: l) st h Q) : At d y pos (a0 :: a1 :: a2 :: a3 :: a4 :: a5 :: a6 :: a7 :: a8 :: a9 :: a10 :: a11 :: a12 :: a13 :: a14 :: some (.inl x) :: l) st h Q := x_iinc hC hi hp rfl hz rfl k
theorem x_ifeq (hC : cod y = C) {off v : Int} {t b w : Nat} {sw : List Nat} {r : List AV} {x : Int} (hi : C[pos]? = some (.ifCond .eq off, v, t, b, w, sw)) (hp : pos + 1 = p') (kt : x = 0 → At d y t ls r h Q) (kf : ¬ x = 0 → At d y p' ls r h Q) : At d y pos ls (.inl x :: r) h Q := by
  subst hp
  by_cases hc : x = 0
  · have hn : cndZ .eq x 0 = true := decide_eq_true hc
    exact x_1 (p' := t) hC hi rfl rfl (by
      show some ((if cndZ .eq x 0 = true then t else pos + 1), ls, r, h) = _
      rw [if_pos hn]) (kt hc)
  · have hn : ¬ cndZ .eq x 0 = true := fun q => hc (of_decide_eq_true q)
    exact x_1 (p' := pos + 1) hC hi rfl rfl (by
      show some ((if cndZ .eq x 0 = true then t else pos + 1), ls, r, h) = _
      rw [if_neg hn]) (kf (by omega))
theorem x_iceq (hC : cod y = C) {off v : Int} {t b w : Nat} {sw : List Nat} {r : List AV} {x z : Int} (hi : C[pos]? = some (.if_icmp .eq off, v, t, b, w, sw)) (hp : pos + 1 = p') (kt : x = z → At d y t ls r h Q) (kf : ¬ x = z → At d y p' ls r h Q) : At d y pos ls (.inl z :: .inl x :: r) h Q := by
  subst hp
  by_cases hc : x = z
  · have hn : cndZ .eq x z = true := decide_eq_true hc
    exact x_1 (p' := t) hC hi rfl rfl (by
      show some ((if cndZ .eq x z = true then t else pos + 1), ls, r, h) = _
      rw [if_pos hn]) (kt hc)
  · have hn : ¬ cndZ .eq x z = true := fun q => hc (of_decide_eq_true q)
    exact x_1 (p' := pos + 1) hC hi rfl rfl (by
      show some ((if cndZ .eq x z = true then t else pos + 1), ls, r, h) = _
      rw [if_neg hn]) (kf (by omega))
theorem x_ifne (hC : cod y = C) {off v : Int} {t b w : Nat} {sw : List Nat} {r : List AV} {x : Int} (hi : C[pos]? = some (.ifCond .ne off, v, t, b, w, sw)) (hp : pos + 1 = p') (kt : ¬ x = 0 → At d y t ls r h Q) (kf : x = 0 → At d y p' ls r h Q) : At d y pos ls (.inl x :: r) h Q := by
  subst hp
  by_cases hc : ¬ x = 0
  · have hn : cndZ .ne x 0 = true := decide_eq_true hc
    exact x_1 (p' := t) hC hi rfl rfl (by
      show some ((if cndZ .ne x 0 = true then t else pos + 1), ls, r, h) = _
      rw [if_pos hn]) (kt hc)
  · have hn : ¬ cndZ .ne x 0 = true := fun q => hc (of_decide_eq_true q)
    exact x_1 (p' := pos + 1) hC hi rfl rfl (by
      show some ((if cndZ .ne x 0 = true then t else pos + 1), ls, r, h) = _
      rw [if_neg hn]) (kf (by omega))
theorem x_icne (hC : cod y = C) {off v : Int} {t b w : Nat} {sw : List Nat} {r : List AV} {x z : Int} (hi : C[pos]? = some (.if_icmp .ne off, v, t, b, w, sw)) (hp : pos + 1 = p') (kt : ¬ x = z → At d y t ls r h Q) (kf : x = z → At d y p' ls r h Q) : At d y pos ls (.inl z :: .inl x :: r) h Q := by
  subst hp
  by_cases hc : ¬ x = z
  · have hn : cndZ .ne x z = true := decide_eq_true hc
    exact x_1 (p' := t) hC hi rfl rfl (by
      show some ((if cndZ .ne x z = true then t else pos + 1), ls, r, h) = _
      rw [if_pos hn]) (kt hc)
  · have hn : ¬ cndZ .ne x z = true := fun q => hc (of_decide_eq_true q)
    exact x_1 (p' := pos + 1) hC hi rfl rfl (by
      show some ((if cndZ .ne x z = true then t else pos + 1), ls, r, h) = _
      rw [if_neg hn]) (kf (by omega))
theorem x_iflt (hC : cod y = C) {off v : Int} {t b w : Nat} {sw : List Nat} {r : List AV} {x : Int} (hi : C[pos]? = some (.ifCond .lt off, v, t, b, w, sw)) (hp : pos + 1 = p') (kt : x < 0 → At d y t ls r h Q) (kf : 0 ≤ x → At d y p' ls r h Q) : At d y pos ls (.inl x :: r) h Q := by
  subst hp
  by_cases hc : x < 0
  · have hn : cndZ .lt x 0 = true := decide_eq_true hc
    exact x_1 (p' := t) hC hi rfl rfl (by
      show some ((if cndZ .lt x 0 = true then t else pos + 1), ls, r, h) = _
      rw [if_pos hn]) (kt hc)
  · have hn : ¬ cndZ .lt x 0 = true := fun q => hc (of_decide_eq_true q)
    exact x_1 (p' := pos + 1) hC hi rfl rfl (by
      show some ((if cndZ .lt x 0 = true then t else pos + 1), ls, r, h) = _
      rw [if_neg hn]) (kf (by omega))
theorem x_iclt (hC : cod y = C) {off v : Int} {t b w : Nat} {sw : List Nat} {r : List AV} {x z : Int} (hi : C[pos]? = some (.if_icmp .lt off, v, t, b, w, sw)) (hp : pos + 1 = p') (kt : x < z → At d y t ls r h Q) (kf : z ≤ x → At d y p' ls r h Q) : At d y pos ls (.inl z :: .inl x :: r) h Q := by
  subst hp
  by_cases hc : x < z
  · have hn : cndZ .lt x z = true := decide_eq_true hc
    exact x_1 (p' := t) hC hi rfl rfl (by
      show some ((if cndZ .lt x z = true then t else pos + 1), ls, r, h) = _
      rw [if_pos hn]) (kt hc)
  · have hn : ¬ cndZ .lt x z = true := fun q => hc (of_decide_eq_true q)
    exact x_1 (p' := pos + 1) hC hi rfl rfl (by
      show some ((if cndZ .lt x z = true then t else pos + 1), ls, r, h) = _
      rw [if_neg hn]) (kf (by omega))
theorem x_ifge (hC : cod y = C) {off v : Int} {t b w : Nat} {sw : List Nat} {r : List AV} {x : Int} (hi : C[pos]? = some (.ifCond .ge off, v, t, b, w, sw)) (hp : pos + 1 = p') (kt : 0 ≤ x → At d y t ls r h Q) (kf : x < 0 → At d y p' ls r h Q) : At d y pos ls (.inl x :: r) h Q := by
  subst hp
  by_cases hc : 0 ≤ x
  · have hn : cndZ .ge x 0 = true := decide_eq_true hc
    exact x_1 (p' := t) hC hi rfl rfl (by
      show some ((if cndZ .ge x 0 = true then t else pos + 1), ls, r, h) = _
      rw [if_pos hn]) (kt hc)
  · have hn : ¬ cndZ .ge x 0 = true := fun q => hc (of_decide_eq_true q)
    exact x_1 (p' := pos + 1) hC hi rfl rfl (by
      show some ((if cndZ .ge x 0 = true then t else pos + 1), ls, r, h) = _
      rw [if_neg hn]) (kf (by omega))
theorem x_icge (hC : cod y = C) {off v : Int} {t b w : Nat} {sw : List Nat} {r : List AV} {x z : Int} (hi : C[pos]? = some (.if_icmp .ge off, v, t, b, w, sw)) (hp : pos + 1 = p') (kt : z ≤ x → At d y t ls r h Q) (kf : x < z → At d y p' ls r h Q) : At d y pos ls (.inl z :: .inl x :: r) h Q := by
  subst hp
  by_cases hc : z ≤ x
  · have hn : cndZ .ge x z = true := decide_eq_true hc
    exact x_1 (p' := t) hC hi rfl rfl (by
      show some ((if cndZ .ge x z = true then t else pos + 1), ls, r, h) = _
      rw [if_pos hn]) (kt hc)
  · have hn : ¬ cndZ .ge x z = true := fun q => hc (of_decide_eq_true q)
    exact x_1 (p' := pos + 1) hC hi rfl rfl (by
      show some ((if cndZ .ge x z = true then t else pos + 1), ls, r, h) = _
      rw [if_neg hn]) (kf (by omega))
theorem x_ifgt (hC : cod y = C) {off v : Int} {t b w : Nat} {sw : List Nat} {r : List AV} {x : Int} (hi : C[pos]? = some (.ifCond .gt off, v, t, b, w, sw)) (hp : pos + 1 = p') (kt : 0 < x → At d y t ls r h Q) (kf : x ≤ 0 → At d y p' ls r h Q) : At d y pos ls (.inl x :: r) h Q := by
  subst hp
  by_cases hc : 0 < x
  · have hn : cndZ .gt x 0 = true := decide_eq_true hc
    exact x_1 (p' := t) hC hi rfl rfl (by
      show some ((if cndZ .gt x 0 = true then t else pos + 1), ls, r, h) = _
      rw [if_pos hn]) (kt hc)
  · have hn : ¬ cndZ .gt x 0 = true := fun q => hc (of_decide_eq_true q)
    exact x_1 (p' := pos + 1) hC hi rfl rfl (by
      show some ((if cndZ .gt x 0 = true then t else pos + 1), ls, r, h) = _
      rw [if_neg hn]) (kf (by omega))
theorem x_icgt (hC : cod y = C) {off v : Int} {t b w : Nat} {sw : List Nat} {r : List AV} {x z : Int} (hi : C[pos]? = some (.if_icmp .gt off, v, t, b, w, sw)) (hp : pos + 1 = p') (kt : z < x → At d y t ls r h Q) (kf : x ≤ z → At d y p' ls r h Q) : At d y pos ls (.inl z :: .inl x :: r) h Q := by
  subst hp
  by_cases hc : z < x
  · have hn : cndZ .gt x z = true := decide_eq_true hc
    exact x_1 (p' := t) hC hi rfl rfl (by
      show some ((if cndZ .gt x z = true then t else pos + 1), ls, r, h) = _
      rw [if_pos hn]) (kt hc)
  · have hn : ¬ cndZ .gt x z = true := fun q => hc (of_decide_eq_true q)
    exact x_1 (p' := pos + 1) hC hi rfl rfl (by
      show some ((if cndZ .gt x z = true then t else pos + 1), ls, r, h) = _
      rw [if_neg hn]) (kf (by omega))
theorem x_ifle (hC : cod y = C) {off v : Int} {t b w : Nat} {sw : List Nat} {r : List AV} {x : Int} (hi : C[pos]? = some (.ifCond .le off, v, t, b, w, sw)) (hp : pos + 1 = p') (kt : x ≤ 0 → At d y t ls r h Q) (kf : 0 < x → At d y p' ls r h Q) : At d y pos ls (.inl x :: r) h Q := by
  subst hp
  by_cases hc : x ≤ 0
  · have hn : cndZ .le x 0 = true := decide_eq_true hc
    exact x_1 (p' := t) hC hi rfl rfl (by
      show some ((if cndZ .le x 0 = true then t else pos + 1), ls, r, h) = _
      rw [if_pos hn]) (kt hc)
  · have hn : ¬ cndZ .le x 0 = true := fun q => hc (of_decide_eq_true q)
    exact x_1 (p' := pos + 1) hC hi rfl rfl (by
      show some ((if cndZ .le x 0 = true then t else pos + 1), ls, r, h) = _
      rw [if_neg hn]) (kf (by omega))
theorem x_icle (hC : cod y = C) {off v : Int} {t b w : Nat} {sw : List Nat} {r : List AV} {x z : Int} (hi : C[pos]? = some (.if_icmp .le off, v, t, b, w, sw)) (hp : pos + 1 = p') (kt : x ≤ z → At d y t ls r h Q) (kf : z < x → At d y p' ls r h Q) : At d y pos ls (.inl z :: .inl x :: r) h Q := by
  subst hp
  by_cases hc : x ≤ z
  · have hn : cndZ .le x z = true := decide_eq_true hc
    exact x_1 (p' := t) hC hi rfl rfl (by
      show some ((if cndZ .le x z = true then t else pos + 1), ls, r, h) = _
      rw [if_pos hn]) (kt hc)
  · have hn : ¬ cndZ .le x z = true := fun q => hc (of_decide_eq_true q)
    exact x_1 (p' := pos + 1) hC hi rfl rfl (by
      show some ((if cndZ .le x z = true then t else pos + 1), ls, r, h) = _
      rw [if_neg hn]) (kf (by omega))
theorem x_nn (hC : cod y = C) {off v : Int} {t b w : Nat} {sw : List Nat} {r : List AV} {o : Option Nat} (hi : C[pos]? = some (.ifnonnull off, v, t, b, w, sw)) (hp : pos + 1 = p') (kt : ∀ q, o = some q → At d y t ls r h Q) (kf : o = none → At d y p' ls r h Q) : At d y pos ls (.inr o :: r) h Q := by
  subst hp
  cases o with
  | none => exact x_1 (p' := pos + 1) hC hi rfl rfl rfl (kf rfl)
  | some q => exact x_1 (p' := t) hC hi rfl rfl (by simp [ex1, e_nn]) (kt q rfl)
/-- a switch over a table: one goal a target -/
theorem x_tsw (hC : cod y = C) {df lo hi v : Int} {offs : Array Int} {a b w : Nat} {sw : List Nat} {r : List AV} {x : Int} (hI : C[pos]? = some (.tableswitch df lo hi offs, v, a, b, w, sw)) (k : ∀ t, sw[if x < lo ∨ hi < x then 0 else (x - lo).toNat + 1]? = some t → At d y t ls r h Q) (hs : ∃ t, sw[if x < lo ∨ hi < x then 0 else (x - lo).toNat + 1]? = some t) : At d y pos ls (.inl x :: r) h Q := by
  obtain ⟨t, ht⟩ := hs
  exact x_1 (p' := t) hC hI rfl rfl (by simp only [ex1, e_tsw, ht]) (k t ht)
theorem x_lsw (hC : cod y = C) {df v : Int} {ps : Array (Int × Int)} {a b w : Nat} {sw : List Nat} {r : List AV} {x : Int} (hI : C[pos]? = some (.lookupswitch df ps, v, a, b, w, sw)) (k : ∀ t, sw[e_key x ps.toList 1]? = some t → At d y t ls r h Q) (hs : ∃ t, sw[e_key x ps.toList 1]? = some t) : At d y pos ls (.inl x :: r) h Q := by
  obtain ⟨t, ht⟩ := hs
  exact x_1 (p' := t) hC hI rfl rfl (by simp only [ex1, e_lsw, ht]) (k t ht)
theorem x_getI (hC : cod y = C) {idx : Nat} {v : Int} {ci k w : Nat} {sw : List Nat} {r : List AV} {a : Nat} (hi : C[pos]? = some (.getfield idx, v, ci, k, w, sw)) (hp : pos + 1 = p') (hk : (Nat.blt k (fcn ci) && !(fkd ci k == 1)) = true) (ht : (hTy h a).1 = ci + 1) (kk : At d y p' ls (.inl (hI h a k) :: r) h Q) : At d y pos ls (.inr (some a) :: r) h Q := by
  subst hp
  simp only [Bool.and_eq_true, Bool.not_eq_true', beq_eq_false_iff_ne] at hk
  exact x_1 hC hi rfl rfl (by simp only [ex1, e_get]; rw [if_pos ⟨ht, Nat.le_of_ble_eq_true hk.1⟩, if_neg hk.2]) kk
theorem x_getR (hC : cod y = C) {idx : Nat} {v : Int} {ci k w : Nat} {sw : List Nat} {r : List AV} {a : Nat} {q : Option Nat} (hi : C[pos]? = some (.getfield idx, v, ci, k, w, sw)) (hp : pos + 1 = p') (hk : (Nat.blt k (fcn ci) && (fkd ci k == 1)) = true) (ht : (hTy h a).1 = ci + 1) (hq : hR h a k = q) (kk : At d y p' ls (.inr q :: r) h Q) : At d y pos ls (.inr (some a) :: r) h Q := by
  subst hp; subst hq
  simp only [Bool.and_eq_true, beq_iff_eq] at hk
  exact x_1 hC hi rfl rfl (by simp only [ex1, e_get]; rw [if_pos ⟨ht, Nat.le_of_ble_eq_true hk.1⟩, if_pos hk.2]) kk
theorem x_putI (hC : cod y = C) {idx : Nat} {v : Int} {ci k w : Nat} {sw : List Nat} {r : List AV} {a : Nat} {x : Int} (hi : C[pos]? = some (.putfield idx, v, ci, k, w, sw)) (hp : pos + 1 = p') (hk : (Nat.blt k (fcn ci) && (fkd ci k == 0)) = true) (ht : (hTy h a).1 = ci + 1) (h3 : 3 ≤ a) (kk : At d y p' ls r (sI h a k x) Q) : At d y pos ls (.inl x :: .inr (some a) :: r) h Q := by
  subst hp
  simp only [Bool.and_eq_true, beq_iff_eq] at hk
  exact x_1 hC hi rfl rfl (by simp only [ex1, e_put]; rw [if_pos ⟨ht, Nat.le_of_ble_eq_true hk.1, h3, by omega, by omega, by omega⟩]) kk
theorem x_putB (hC : cod y = C) {idx : Nat} {v : Int} {ci k w : Nat} {sw : List Nat} {r : List AV} {a : Nat} {x : Int} (hi : C[pos]? = some (.putfield idx, v, ci, k, w, sw)) (hp : pos + 1 = p') (hk : (Nat.blt k (fcn ci) && (fkd ci k == 3 || fkd ci k == 2)) = true) (ht : (hTy h a).1 = ci + 1) (h3 : 3 ≤ a) (hx : 0 ≤ x ∧ (fkd ci k = 3 → x ≤ 1) ∧ x ≤ 65535) (kk : At d y p' ls r (sI h a k x) Q) : At d y pos ls (.inl x :: .inr (some a) :: r) h Q := by
  subst hp
  simp only [Bool.and_eq_true, Bool.or_eq_true, beq_iff_eq] at hk
  exact x_1 hC hi rfl rfl (by simp only [ex1, e_put]; rw [if_pos ⟨ht, Nat.le_of_ble_eq_true hk.1, h3, by omega, fun _ => ⟨hx.1, hx.2.2⟩, fun q => ⟨hx.1, hx.2.1 q⟩⟩]) kk
theorem x_putR (hC : cod y = C) {idx : Nat} {v : Int} {ci k w : Nat} {sw : List Nat} {r : List AV} {a : Nat} {x : Option Nat} (hi : C[pos]? = some (.putfield idx, v, ci, k, w, sw)) (hp : pos + 1 = p') (hk : (Nat.blt k (fcn ci) && (fkd ci k == 1)) = true) (ht : (hTy h a).1 = ci + 1) (h3 : 3 ≤ a) (kk : At d y p' ls r (sR h a k x) Q) : At d y pos ls (.inr x :: .inr (some a) :: r) h Q := by
  subst hp
  simp only [Bool.and_eq_true, beq_iff_eq] at hk
  exact x_1 hC hi rfl rfl (by simp only [ex1, e_put]; rw [if_pos ⟨ht, Nat.le_of_ble_eq_true hk.1, h3, hk.2⟩]) kk
theorem x_iald (hC : cod y = C) {i : Ins} {r : List AV} {a n : Nat} {j : Int} (hi : C[pos]? = some i) (hI0 : i.1 = .iaload) (hp : pos + 1 = p') (ht : hTy h a = (100, n)) (h0 : 0 ≤ j) (h1 : j < n) (kk : At d y p' ls (.inl (hI h a j) :: r) h Q) : At d y pos ls (.inl j :: .inr (some a) :: r) h Q := by
  subst hp
  have hcnd : (hTy h a).1 = 100 ∧ 0 ≤ j ∧ j < ((hTy h a).2 : Int) := by rw [ht]; exact ⟨rfl, h0, h1⟩
  exact x_1 hC hi (by simp [isRet, hI0]) (by simp [isCall, hI0]) (by simp only [ex1, hI0, e_ald]; rw [if_pos hcnd]) kk
theorem x_cald (hC : cod y = C) {i : Ins} {r : List AV} {a n : Nat} {j : Int} (hi : C[pos]? = some i) (hI0 : i.1 = .caload) (hp : pos + 1 = p') (ht : hTy h a = (101, n)) (h0 : 0 ≤ j) (h1 : j < n) (kk : At d y p' ls (.inl (hI h a j) :: r) h Q) : At d y pos ls (.inl j :: .inr (some a) :: r) h Q := by
  subst hp
  have hcnd : (hTy h a).1 = 101 ∧ 0 ≤ j ∧ j < ((hTy h a).2 : Int) := by rw [ht]; exact ⟨rfl, h0, h1⟩
  exact x_1 hC hi (by simp [isRet, hI0]) (by simp [isCall, hI0]) (by simp only [ex1, hI0, e_ald]; rw [if_pos hcnd]) kk
theorem x_aald (hC : cod y = C) {i : Ins} {r : List AV} {a t n : Nat} {j : Int} {q : Option Nat} (hi : C[pos]? = some i) (hI0 : i.1 = .aaload) (hp : pos + 1 = p') (ht : hTy h a = (t, n)) (hrf : rfO t = true) (h0 : 0 ≤ j) (h1 : j < n) (hq : hR h a j = q) (kk : At d y p' ls (.inr q :: r) h Q) : At d y pos ls (.inl j :: .inr (some a) :: r) h Q := by
  subst hp; subst hq
  have hcnd : rfO (hTy h a).1 = true ∧ 0 ≤ j ∧ j < ((hTy h a).2 : Int) := by rw [ht]; exact ⟨hrf, h0, h1⟩
  exact x_1 hC hi (by simp [isRet, hI0]) (by simp [isCall, hI0]) (by simp only [ex1, hI0, e_aldq]; rw [if_pos hcnd]) kk
theorem x_iast (hC : cod y = C) {i : Ins} {r : List AV} {a n : Nat} {j x : Int} (hi : C[pos]? = some i) (hI0 : i.1 = .iastore) (hp : pos + 1 = p') (ht : hTy h a = (100, n)) (h3 : 3 ≤ a) (h0 : 0 ≤ j) (h1 : j < n) (kk : At d y p' ls r (sI h a j x) Q) : At d y pos ls (.inl x :: .inl j :: .inr (some a) :: r) h Q := by
  subst hp
  have hcnd : (hTy h a).1 = 100 ∧ 0 ≤ j ∧ j < ((hTy h a).2 : Int) ∧ 3 ≤ a ∧ ((0 : Int) = 0 ∨ 0 ≤ x ∧ x ≤ 0) := by rw [ht]; exact ⟨rfl, h0, h1, h3, Or.inl rfl⟩
  exact x_1 hC hi (by simp [isRet, hI0]) (by simp [isCall, hI0]) (by simp only [ex1, hI0]; unfold e_ast; exact if_pos hcnd) kk
theorem x_cast (hC : cod y = C) {i : Ins} {r : List AV} {a n : Nat} {j x : Int} (hi : C[pos]? = some i) (hI0 : i.1 = .castore) (hp : pos + 1 = p') (ht : hTy h a = (101, n)) (h3 : 3 ≤ a) (h0 : 0 ≤ j) (h1 : j < n) (hx : 0 ≤ x ∧ x ≤ 65535) (kk : At d y p' ls r (sI h a j x) Q) : At d y pos ls (.inl x :: .inl j :: .inr (some a) :: r) h Q := by
  subst hp
  have hcnd : (hTy h a).1 = 101 ∧ 0 ≤ j ∧ j < ((hTy h a).2 : Int) ∧ 3 ≤ a ∧ ((65535 : Int) = 0 ∨ 0 ≤ x ∧ x ≤ 65535) := by rw [ht]; exact ⟨rfl, h0, h1, h3, Or.inr hx⟩
  exact x_1 hC hi (by simp [isRet, hI0]) (by simp [isCall, hI0]) (by simp only [ex1, hI0]; unfold e_ast; exact if_pos hcnd) kk
theorem x_aast (hC : cod y = C) {i : Ins} {r : List AV} {a v t n : Nat} {j : Int} (hi : C[pos]? = some i) (hI0 : i.1 = .aastore) (hp : pos + 1 = p') (ht : hTy h a = (t, n)) (hrf : rfO t = true) (hv : (hTy h v).1 + 199 = t) (h3 : 3 ≤ a) (h0 : 0 ≤ j) (h1 : j < n) (kk : At d y p' ls r (sR h a j (some v)) Q) : At d y pos ls (.inr (some v) :: .inl j :: .inr (some a) :: r) h Q := by
  subst hp
  have hcnd : rfO (hTy h a).1 = true ∧ (hTy h v).1 + 199 = (hTy h a).1 ∧ 0 ≤ j ∧ j < ((hTy h a).2 : Int) ∧ 3 ≤ a := by rw [ht]; exact ⟨hrf, hv, h0, h1, h3⟩
  exact x_1 hC hi (by simp [isRet, hI0]) (by simp [isCall, hI0]) (by simp only [ex1, hI0, e_astq]; rw [if_pos hcnd]) kk
theorem x_len (hC : cod y = C) {i : Ins} {r : List AV} {a t n : Nat} (hi : C[pos]? = some i) (hI0 : i.1 = .arraylength) (hp : pos + 1 = p') (ht : hTy h a = (t, n)) (htt : (t == 100 || t == 101 || rfO t) = true) (hn : n < 2147483648) (kk : At d y p' ls (.inl (n : Int) :: r) h Q) : At d y pos ls (.inr (some a) :: r) h Q := by
  subst hp
  rw [show n = (hTy h a).2 by rw [ht]] at kk
  have hc : t = 100 ∨ t = 101 ∨ rfO t = true := by simpa [or_assoc] using htt
  have hcnd : ((hTy h a).1 = 100 ∨ (hTy h a).1 = 101 ∨ rfO (hTy h a).1 = true) ∧ (hTy h a).2 < 2147483648 := by rw [ht]; exact ⟨hc, hn⟩
  exact x_1 hC hi (by simp [isRet, hI0]) (by simp [isCall, hI0]) (by simp only [ex1, hI0, e_len]; rw [if_pos hcnd]) kk
theorem x_div (hC : cod y = C) {i : Ins} {r : List AV} {x z : Int} (hi : C[pos]? = some i) (hI0 : i.1 = .idiv) (hp : pos + 1 = p') (h0 : ¬ z = 0) (kk : At d y p' ls (.inl (wr (x.tdiv z)) :: r) h Q) : At d y pos ls (.inl z :: .inl x :: r) h Q := by
  subst hp
  exact x_1 hC hi (by simp [isRet, hI0]) (by simp [isCall, hI0]) (by simp only [ex1, hI0, e_div]; rw [if_neg h0]) kk
theorem x_rem (hC : cod y = C) {i : Ins} {r : List AV} {x z : Int} (hi : C[pos]? = some i) (hI0 : i.1 = .irem) (hp : pos + 1 = p') (h0 : ¬ z = 0) (kk : At d y p' ls (.inl (wr (x.tmod z)) :: r) h Q) : At d y pos ls (.inl z :: .inl x :: r) h Q := by
  subst hp
  exact x_1 hC hi (by simp [isRet, hI0]) (by simp [isCall, hI0]) (by simp only [ex1, hI0, e_div]; rw [if_neg h0]) kk
theorem x_add (hC : cod y = C) {i : Ins} {r : List AV} {x z : Int} (hi : C[pos]? = some i) (hI0 : i.1 = .iadd) (hp : pos + 1 = p') (hz : inR (x + z)) (kk : At d y p' ls (.inl (x + z) :: r) h Q) : At d y pos ls (.inl z :: .inl x :: r) h Q := by
  subst hp
  exact x_1 hC hi (by simp [isRet, hI0]) (by simp [isCall, hI0]) (by simp only [ex1, hI0, e_bin]; rw [wr_id hz]) kk
theorem x_sub (hC : cod y = C) {i : Ins} {r : List AV} {x z : Int} (hi : C[pos]? = some i) (hI0 : i.1 = .isub) (hp : pos + 1 = p') (hz : inR (x - z)) (kk : At d y p' ls (.inl (x - z) :: r) h Q) : At d y pos ls (.inl z :: .inl x :: r) h Q := by
  subst hp
  exact x_1 hC hi (by simp [isRet, hI0]) (by simp [isCall, hI0]) (by simp only [ex1, hI0, e_bin]; rw [wr_id hz]) kk
theorem x_mul (hC : cod y = C) {i : Ins} {r : List AV} {x z : Int} (hi : C[pos]? = some i) (hI0 : i.1 = .imul) (hp : pos + 1 = p') (hz : inR (x * z)) (kk : At d y p' ls (.inl (x * z) :: r) h Q) : At d y pos ls (.inl z :: .inl x :: r) h Q := by
  subst hp
  exact x_1 hC hi (by simp [isRet, hI0]) (by simp [isCall, hI0]) (by simp only [ex1, hI0, e_bin]; rw [wr_id hz]) kk
theorem x_ldc (hC : cod y = C) {n : Nat} {v : Int} {a b w : Nat} {sw : List Nat} (hi : C[pos]? = some (.ldc n, v, a, b, w, sw)) (hp : pos + 1 = p') (hv : -2147483648 ≤ v ∧ v ≤ 2147483647) (kk : At d y p' ls (.inl v :: st) h Q) : At d y pos ls st h Q := by
  subst hp
  exact x_1 hC hi rfl rfl (by simp only [ex1, e_psh]; exact if_pos hv) kk
theorem x_ldcw (hC : cod y = C) {n : Nat} {v : Int} {a b w : Nat} {sw : List Nat} (hi : C[pos]? = some (.ldc_w n, v, a, b, w, sw)) (hp : pos + 1 = p') (hv : -2147483648 ≤ v ∧ v ≤ 2147483647) (kk : At d y p' ls (.inl v :: st) h Q) : At d y pos ls st h Q := by
  subst hp
  exact x_1 hC hi rfl rfl (by simp only [ex1, e_psh]; exact if_pos hv) kk
theorem x_new (hC : cod y = C) {idx : Nat} {v : Int} {ci b w : Nat} {sw : List Nat} (hi : C[pos]? = some (.new idx, v, ci, b, w, sw)) (hp : pos + 1 = p') (hc : Nat.blt ci 8 = true) (kk : At d y p' ls (.inr (some (hZ h)) :: st) (sNew h (ci + 1, 0) (fcn ci)) Q) : At d y pos ls st h Q := by
  subst hp
  exact x_1 hC hi rfl rfl (by simp only [ex1]; exact if_pos (Nat.le_of_ble_eq_true hc)) kk
theorem x_newi (hC : cod y = C) {v : Int} {a b w : Nat} {sw : List Nat} {n : Int} {r : List AV} (hi : C[pos]? = some (.newarray .int, v, a, b, w, sw)) (hp : pos + 1 = p') (hn : 0 ≤ n ∧ n ≤ 100000) (kk : At d y p' ls (.inr (some (hZ h)) :: r) (sNew h (100, n.toNat) n.toNat) Q) : At d y pos ls (.inl n :: r) h Q := by
  subst hp
  exact x_1 hC hi rfl rfl (by simp only [ex1, e_newa]; rw [if_pos hn]) kk
theorem x_newc (hC : cod y = C) {v : Int} {a b w : Nat} {sw : List Nat} {n : Int} {r : List AV} (hi : C[pos]? = some (.newarray .char, v, a, b, w, sw)) (hp : pos + 1 = p') (hn : 0 ≤ n ∧ n ≤ 100000) (kk : At d y p' ls (.inr (some (hZ h)) :: r) (sNew h (101, n.toNat) n.toNat) Q) : At d y pos ls (.inl n :: r) h Q := by
  subst hp
  exact x_1 hC hi rfl rfl (by simp only [ex1, e_newa]; rw [if_pos hn]) kk
theorem x_newr (hC : cod y = C) {idx : Nat} {v : Int} {ci b w : Nat} {sw : List Nat} {n : Int} {r : List AV} (hi : C[pos]? = some (.anewarray idx, v, ci, b, w, sw)) (hp : pos + 1 = p') (hc : rfO (200 + ci) = true) (hn : 0 ≤ n ∧ n ≤ 100000) (kk : At d y p' ls (.inr (some (hZ h)) :: r) (sNew h (200 + ci, n.toNat) n.toNat) Q) : At d y pos ls (.inl n :: r) h Q := by
  subst hp
  exact x_1 hC hi rfl rfl (by simp only [ex1, e_newa]; rw [if_pos hc, if_pos hn]) kk
theorem x_obj (hC : cod y = C) {idx : Nat} {v : Int} {a w : Nat} {sw : List Nat} {q : Nat} {r : List AV} (hi : C[pos]? = some (.invokespecial idx, v, a, 6, w, sw)) (hp : pos + 1 = p') (hl : Nat.ble r.length 8 = true) (kk : At (d + 1) y p' ls r h Q) : At (d + 1) y pos ls (.inr (some q) :: r) h Q := by
  subst hp
  exact x_1 hC hi rfl rfl (by simp only [ex1, eq_self, if_true, e_obj]; rw [if_pos ⟨by omega, Nat.le_of_ble_eq_true hl⟩]) kk
theorem x_max (hC : cod y = C) {idx : Nat} {v : Int} {a w : Nat} {sw : List Nat} {x z : Int} {r : List AV} (hi : C[pos]? = some (.invokestatic idx, v, a, 8, w, sw)) (hp : pos + 1 = p') (hl : Nat.ble (r.length + 2) 8 = true) (kk : At (d + 1) y p' ls (.inl (e_mxF x z) :: r) h Q) : At (d + 1) y pos ls (.inl z :: .inl x :: r) h Q := by
  subst hp
  have := Nat.le_of_ble_eq_true hl
  exact x_1 hC hi rfl rfl (by simp only [ex1, e_mx, e_bin]; rw [if_neg (by decide), if_pos (by trivial), if_pos ⟨by omega, by simp only [List.length_cons]; omega⟩]) kk
theorem x_min (hC : cod y = C) {idx : Nat} {v : Int} {a w : Nat} {sw : List Nat} {x z : Int} {r : List AV} (hi : C[pos]? = some (.invokestatic idx, v, a, 9, w, sw)) (hp : pos + 1 = p') (hl : Nat.ble (r.length + 2) 8 = true) (kk : At (d + 1) y p' ls (.inl (e_mnF x z) :: r) h Q) : At (d + 1) y pos ls (.inl z :: .inl x :: r) h Q := by
  subst hp
  have := Nat.le_of_ble_eq_true hl
  exact x_1 hC hi rfl rfl (by simp only [ex1, e_mx, e_bin]; rw [if_neg (by decide), if_neg (by decide), if_pos (by trivial), if_pos ⟨by omega, by simp only [List.length_cons]; omega⟩]) kk
theorem x_cpy (hC : cod y = C) {idx : Nat} {v : Int} {a w : Nat} {sw : List Nat} {n dp sp : Int} {q0 q1 l0 l1 : Nat} {r : List AV} (hi : C[pos]? = some (.invokestatic idx, v, a, 7, w, sw)) (hp : pos + 1 = p') (hl : Nat.ble r.length 8 = true) (t0 : hTy h q0 = (100, l0)) (t1 : hTy h q1 = (100, l1)) (g0 : 3 ≤ q0) (g1 : 3 ≤ q1) (hb : 0 ≤ sp ∧ 0 ≤ dp ∧ 0 ≤ n ∧ sp + n ≤ l0 ∧ dp + n ≤ l1) (kk : At (d + 1) y p' ls r (sCp h q0 sp q1 dp n) Q) : At (d + 1) y pos ls (.inl n :: .inl dp :: .inr (some q1) :: .inl sp :: .inr (some q0) :: r) h Q := by
  subst hp
  have hcnd : 1 ≤ d + 1 ∧ r.length ≤ 8 ∧ (hTy h q0).1 = 100 ∧ (hTy h q1).1 = 100 ∧ 3 ≤ q1 ∧ 3 ≤ q0 ∧ 0 ≤ sp ∧ 0 ≤ dp ∧ 0 ≤ n ∧ sp + n ≤ ((hTy h q0).2 : Int) ∧ dp + n ≤ ((hTy h q1).2 : Int) := by
    rw [t0, t1]
    exact ⟨by omega, Nat.le_of_ble_eq_true hl, rfl, rfl, g1, g0, hb⟩
  exact x_1 hC hi rfl rfl (by simp only [ex1, eq_self, if_true, e_cpy]; rw [if_pos hcnd]) kk
theorem CaI.start {as : List AV} {ls0 : Ls} {q : Int → HP → Prop} (hl : ini y as = ls0) (k : At d y 0 ls0 [] h (fun v h' => ∃ x, v = some (.inl x) ∧ q x h')) : CaI d y as h q := by subst hl; exact k
theorem CaR.start {as : List AV} {ls0 : Ls} {q : Option Nat → HP → Prop} (hl : ini y as = ls0) (k : At d y 0 ls0 [] h (fun v h' => ∃ x, v = some (.inr x) ∧ q x h')) : CaR d y as h q := by subst hl; exact k
theorem CaV.start {as : List AV} {ls0 : Ls} {q : HP → Prop} (hl : ini y as = ls0) (k : At d y 0 ls0 [] h (fun v h' => v = none ∧ q h')) : CaV d y as h q := by subst hl; exact k
end PX
/-- a loop: the measure falls at every turn -/
theorem at_loop {σ : Type} (W I : σ → Prop) (μ : σ → Nat) (hs : ∀ x, I x → (∀ x', I x' → μ x' < μ x → W x') → W x) : ∀ x, I x → W x := by
  intro x
  generalize hn : μ x = n
  induction n using Nat.strongRecOn generalizing x with
  | ind n ih => exact fun hI => hs x hI (fun x' hI' hlt => ih (μ x') (by omega) x' rfl hI')

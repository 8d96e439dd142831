/-! THE CLASS: frames -/
abbrev FV : Type := Int → Int
/-- the ints of the frame at a in one row: 0..5 its fields, 6..15 its values, 16..25 its flags -/
def fV (h : HP) (a : Nat) : FV := fun k => if k < 0 then 0 else if k < 6 then hI h a k else if k < 16 then hI h (a + 1) (k - 6) else if k < 26 then hI h (a + 2) (k - 16) else 0
def nf (v : FV) : FV := fun k => if 0 ≤ k ∧ k < 26 then v k else 0
def FrP (h : HP) (a : Nat) : Prop := 3 ≤ a ∧ a + 2 < hZ h ∧ hTy h a = (1, 0) ∧ hTy h (a + 1) = (100, 10) ∧ hTy h (a + 2) = (100, 10) ∧ hR h a 6 = some (a + 1) ∧ hR h a 7 = some (a + 2)
theorem FrP.ty {h : HP} {a : Nat} (H : FrP h a) : (hTy h a).1 = 0 + 1 := by rw [H.2.2.1]
/-- the frame at a gets the ints v -/
def sF (h : HP) (a : Nat) (v : FV) : HP := (hTy h, fun b k => if b = a ∧ 0 ≤ k ∧ k < 6 then v k else if b = a + 1 ∧ 0 ≤ k ∧ k < 10 then v (6 + k) else if b = a + 2 ∧ 0 ≤ k ∧ k < 10 then v (16 + k) else hI h b k, hR h, hZ h, hU h)
theorem hI_sF {h : HP} {a b : Nat} {v : FV} {k : Int} : hI (sF h a v) b k = if b = a ∧ 0 ≤ k ∧ k < 6 then v k else if b = a + 1 ∧ 0 ≤ k ∧ k < 10 then v (6 + k) else if b = a + 2 ∧ 0 ≤ k ∧ k < 10 then v (16 + k) else hI h b k := rfl
theorem hI_sF_ne {h : HP} {a b : Nat} {v : FV} (h0 : b ≠ a) (h1 : b ≠ a + 1) (h2 : b ≠ a + 2) : hI (sF h a v) b = hI h b := by
  funext k
  rw [hI_sF, if_neg (by omega), if_neg (by omega), if_neg (by omega)]
theorem HP_ext {h : HP} {F : Nat → Int → Int} (e : F = hI h) : ((hTy h, F, hR h, hZ h, hU h) : HP) = h := by subst e; rfl
theorem sF_self {h : HP} {a : Nat} : sF h a (fV h a) = h := by
  refine HP_ext ?_
  funext b k
  unfold fV
  by_cases h0 : b = a ∧ 0 ≤ k ∧ k < 6
  · rw [if_pos h0, if_neg (by omega), if_pos (by omega), h0.1]
  · rw [if_neg h0]
    by_cases h1 : b = a + 1 ∧ 0 ≤ k ∧ k < 10
    · rw [if_pos h1, if_neg (by omega), if_neg (by omega), if_pos (by omega), h1.1, show 6 + k - 6 = k by omega]
    · rw [if_neg h1]
      by_cases h2 : b = a + 2 ∧ 0 ≤ k ∧ k < 10
      · rw [if_pos h2, if_neg (by omega), if_neg (by omega), if_neg (by omega), if_pos (by omega), h2.1, show 16 + k - 16 = k by omega]
      · rw [if_neg h2]
theorem fV_sF {h : HP} {a : Nat} {v : FV} : fV (sF h a v) a = nf v := by
  funext k
  unfold fV nf
  by_cases h0 : k < 0
  · rw [if_pos h0, if_neg (by omega)]
  · by_cases h1 : k < 6
    · rw [if_neg h0, if_pos h1, if_pos (by omega), hI_sF, if_pos ⟨rfl, by omega, h1⟩]
    · by_cases h2 : k < 16
      · rw [if_neg h0, if_neg h1, if_pos h2, if_pos (by omega), hI_sF, if_neg (by omega), if_pos ⟨rfl, by omega, by omega⟩, show 6 + (k - 6) = k by omega]
      · by_cases h3 : k < 26
        · rw [if_neg h0, if_neg h1, if_neg h2, if_pos h3, if_pos (by omega), hI_sF, if_neg (by omega), if_neg (by omega), if_pos ⟨rfl, by omega, by omega⟩, show 16 + (k - 16) = k by omega]
        · rw [if_neg h0, if_neg h1, if_neg h2, if_neg h3, if_neg (by omega)]
theorem nf_nf {v : FV} : nf (nf v) = nf v := by
  funext k
  unfold nf
  split <;> rfl
theorem nf_fV {h : HP} {a : Nat} : nf (fV h a) = fV h a := by
  funext k
  unfold nf fV
  repeat' split
  all_goals first | rfl | (exfalso; omega)
theorem nf_in {v : FV} {k : Int} (h0 : 0 ≤ k) (h1 : k < 26) : nf v k = v k := if_pos ⟨h0, h1⟩
theorem nf_ups {v : FV} {k x : Int} (h0 : 0 ≤ k) (h1 : k < 26) : nf (ups v k x) = ups (nf v) k x := by
  funext j
  unfold nf ups
  by_cases hj : j = k
  · subst hj
    rw [if_pos ⟨h0, h1⟩, if_pos rfl, if_pos rfl]
  · rw [if_neg hj, if_neg hj]
theorem sF_sF {h : HP} {a : Nat} {v w : FV} : sF (sF h a v) a w = sF h a w := by
  show ((hTy h, _, hR h, hZ h, hU h) : HP) = (hTy h, _, hR h, hZ h, hU h)
  congr 2
  funext b k
  simp only [hI_sF]
  repeat' split
  all_goals first | rfl | (exfalso; omega)
theorem sF_congr {h : HP} {a : Nat} {v w : FV} (e : ∀ k, 0 ≤ k → k < 26 → v k = w k) : sF h a v = sF h a w := by
  show ((hTy h, _, hR h, hZ h, hU h) : HP) = (hTy h, _, hR h, hZ h, hU h)
  congr 2
  funext b k
  repeat' split
  all_goals first | rfl | (exact e _ (by omega) (by omega))
theorem FrP.ne1 {h : HP} {a b : Nat} (ha : FrP h a) (hb : FrP h b) : b ≠ a + 1 ∧ b ≠ a + 2 := by
  constructor
  · rintro rfl
    have := ha.2.2.2.1
    rw [hb.2.2.1] at this
    exact absurd this (by decide)
  · rintro rfl
    have := ha.2.2.2.2.1
    rw [hb.2.2.1] at this
    exact absurd this (by decide)
theorem FrP.ne3 {h : HP} {a b : Nat} (ha : FrP h a) (hb : FrP h b) (n : a ≠ b) : b ≠ a ∧ b ≠ a + 1 ∧ b ≠ a + 2 ∧ b + 1 ≠ a ∧ b + 1 ≠ a + 1 ∧ b + 1 ≠ a + 2 ∧ b + 2 ≠ a ∧ b + 2 ≠ a + 1 ∧ b + 2 ≠ a + 2 := by
  have h1 := ha.ne1 hb
  have h2 := hb.ne1 ha
  omega
theorem fV_congr {h h' : HP} {a : Nat} (e0 : ∀ k, 0 ≤ k → k < 6 → hI h' a k = hI h a k) (e1 : ∀ k, 0 ≤ k → k < 10 → hI h' (a + 1) k = hI h (a + 1) k) (e2 : ∀ k, 0 ≤ k → k < 10 → hI h' (a + 2) k = hI h (a + 2) k) : fV h' a = fV h a := by
  funext k
  unfold fV
  repeat' split
  all_goals first | rfl | (exact e0 _ (by omega) (by omega)) | (exact e1 _ (by omega) (by omega)) | (exact e2 _ (by omega) (by omega))
theorem fV_same {h h' : HP} {a : Nat} (e0 : hI h' a = hI h a) (e1 : hI h' (a + 1) = hI h (a + 1)) (e2 : hI h' (a + 2) = hI h (a + 2)) : fV h' a = fV h a := by
  unfold fV; rw [e0, e1, e2]
theorem fV_sF_ne {h : HP} {a b : Nat} {v : FV} (ha : FrP h a) (hb : FrP h b) (n : a ≠ b) : fV (sF h a v) b = fV h b := by
  have := ha.ne3 hb n
  exact fV_same (hI_sF_ne (by omega) (by omega) (by omega)) (hI_sF_ne (by omega) (by omega) (by omega)) (hI_sF_ne (by omega) (by omega) (by omega))
theorem sI_sF0 {h : HP} {a : Nat} {v : FV} {k x : Int} (h0 : 0 ≤ k) (h1 : k < 6) : sI (sF h a v) a k x = sF h a (ups v k x) := by
  show ((hTy h, _, hR h, hZ h, hU h) : HP) = (hTy h, _, hR h, hZ h, hU h)
  congr 2
  funext b j
  simp only [hI_sF, ups]
  repeat' split
  all_goals first | rfl | (exfalso; omega)
theorem sI_sF1 {h : HP} {a : Nat} {v : FV} {k x : Int} (h0 : 0 ≤ k) (h1 : k < 10) : sI (sF h a v) (a + 1) k x = sF h a (ups v (6 + k) x) := by
  show ((hTy h, _, hR h, hZ h, hU h) : HP) = (hTy h, _, hR h, hZ h, hU h)
  congr 2
  funext b j
  simp only [hI_sF, ups]
  repeat' split
  all_goals first | rfl | (exfalso; omega)
theorem sI_sF2 {h : HP} {a : Nat} {v : FV} {k x : Int} (h0 : 0 ≤ k) (h1 : k < 10) : sI (sF h a v) (a + 2) k x = sF h a (ups v (16 + k) x) := by
  show ((hTy h, _, hR h, hZ h, hU h) : HP) = (hTy h, _, hR h, hZ h, hU h)
  congr 2
  funext b j
  simp only [hI_sF, ups]
  repeat' split
  all_goals first | rfl | (exfalso; omega)
theorem sI_sF {h : HP} {a : Nat} {k x : Int} (h0 : 0 ≤ k) (h1 : k < 6) : sI h a k x = sF h a (ups (fV h a) k x) := by
  have := sI_sF0 (h := h) (a := a) (v := fV h a) (x := x) h0 h1
  rwa [sF_self] at this
def cpF (v w : FV) (lo : Int) : FV := fun k => if lo ≤ k ∧ k < lo + 10 then w k else v k
theorem sCp_sF1 {h : HP} {a b : Nat} {v : FV} (ha : FrP h a) (hb : FrP h b) (n : a ≠ b) : sCp (sF h a v) (b + 1) 0 (a + 1) 0 10 = sF h a (cpF v (fV h b) 6) := by
  have hne := ha.ne3 hb n
  show ((hTy h, _, hR h, hZ h, hU h) : HP) = (hTy h, _, hR h, hZ h, hU h)
  congr 2
  funext c j
  rw [show hI (sF h a v) (b + 1) (0 + (j - 0)) = hI h (b + 1) j by rw [hI_sF_ne (by omega) (by omega) (by omega)]; congr 1; omega]
  simp only [hI_sF, cpF, fV]
  repeat' split
  all_goals first | rfl | (exfalso; omega) | (congr 1; omega)
theorem sCp_sF2 {h : HP} {a b : Nat} {v : FV} (ha : FrP h a) (hb : FrP h b) (n : a ≠ b) : sCp (sF h a v) (b + 2) 0 (a + 2) 0 10 = sF h a (cpF v (fV h b) 16) := by
  have hne := ha.ne3 hb n
  show ((hTy h, _, hR h, hZ h, hU h) : HP) = (hTy h, _, hR h, hZ h, hU h)
  congr 2
  funext c j
  rw [show hI (sF h a v) (b + 2) (0 + (j - 0)) = hI h (b + 2) j by rw [hI_sF_ne (by omega) (by omega) (by omega)]; congr 1; omega]
  simp only [hI_sF, cpF, fV]
  repeat' split
  all_goals first | rfl | (exfalso; omega) | (congr 1; omega)
section ZF
variable {d y pos p' : Nat} {ls : Ls} {h : HP} {Q : Option AV → HP → Prop} {C : List Ins} {a : Nat} {vv : FV}
theorem z_fg (hF : FrP h a) (hv : fV h a = vv) (hC : cod y = C) {idx : Nat} {v : Int} {k w : Nat} {sw : List Nat} {r : List AV} (hi : C[pos]? = some (.getfield idx, v, 0, k, w, sw)) (hp : pos + 1 = p') (hk : Nat.blt k 6 = true) {kz : Int} (hkz : ((k : Nat) : Int) = kz) (kk : At d y p' ls (.inl (vv kz) :: r) h Q) : At d y pos ls (.inr (some a) :: r) h Q := by
  subst hkz; subst hv
  have hk6 : k < 6 := Nat.le_of_ble_eq_true hk
  refine x_getI hC hi hp ((by decide : ∀ k : Fin 6, (Nat.blt k.val (fcn 0) && !(fkd 0 k.val == 1)) = true) ⟨k, hk6⟩) hF.ty ?_
  rw [show hI h a (k : Nat) = fV h a (k : Nat) by unfold fV; rw [if_neg (by omega), if_pos (by omega)]]
  exact kk
theorem z_fr1 (hF : FrP h a) (hC : cod y = C) {idx : Nat} {v : Int} {w : Nat} {sw : List Nat} {r : List AV} (hi : C[pos]? = some (.getfield idx, v, 0, 6, w, sw)) (hp : pos + 1 = p') (kk : At d y p' ls (.inr (some (a + 1)) :: r) h Q) : At d y pos ls (.inr (some a) :: r) h Q :=
  x_getR hC hi hp rfl hF.ty hF.2.2.2.2.2.1 kk
theorem z_fr2 (hF : FrP h a) (hC : cod y = C) {idx : Nat} {v : Int} {w : Nat} {sw : List Nat} {r : List AV} (hi : C[pos]? = some (.getfield idx, v, 0, 7, w, sw)) (hp : pos + 1 = p') (kk : At d y p' ls (.inr (some (a + 2)) :: r) h Q) : At d y pos ls (.inr (some a) :: r) h Q :=
  x_getR hC hi hp rfl hF.ty hF.2.2.2.2.2.2 kk
theorem z_fl1 (hF : FrP h a) (hv : fV h a = vv) (hC : cod y = C) {i : Ins} {r : List AV} {j : Int} (hi : C[pos]? = some i) (hI0 : i.1 = .iaload) (hp : pos + 1 = p') (h0 : 0 ≤ j) (h1 : j < 10) (kk : At d y p' ls (.inl (vv (6 + j)) :: r) h Q) : At d y pos ls (.inl j :: .inr (some (a + 1)) :: r) h Q := by
  subst hv
  refine x_iald hC hi hI0 hp hF.2.2.2.1 h0 h1 ?_
  rw [show hI h (a + 1) j = fV h a (6 + j) by unfold fV; rw [if_neg (by omega), if_neg (by omega), if_pos (by omega), show 6 + j - 6 = j by omega]]
  exact kk
theorem z_fl2 (hF : FrP h a) (hv : fV h a = vv) (hC : cod y = C) {i : Ins} {r : List AV} {j : Int} (hi : C[pos]? = some i) (hI0 : i.1 = .iaload) (hp : pos + 1 = p') (h0 : 0 ≤ j) (h1 : j < 10) (kk : At d y p' ls (.inl (vv (16 + j)) :: r) h Q) : At d y pos ls (.inl j :: .inr (some (a + 2)) :: r) h Q := by
  subst hv
  refine x_iald hC hi hI0 hp hF.2.2.2.2.1 h0 h1 ?_
  rw [show hI h (a + 2) j = fV h a (16 + j) by unfold fV; rw [if_neg (by omega), if_neg (by omega), if_neg (by omega), if_pos (by omega), show 16 + j - 16 = j by omega]]
  exact kk
theorem z_fgs (hF : FrP h a) (hC : cod y = C) {idx : Nat} {v : Int} {k w : Nat} {sw : List Nat} {r : List AV} (hi : C[pos]? = some (.getfield idx, v, 0, k, w, sw)) (hp : pos + 1 = p') (hk : Nat.blt k 6 = true) {kz : Int} (hkz : ((k : Nat) : Int) = kz) (kk : At d y p' ls (.inl (vv kz) :: r) (sF h a vv) Q) : At d y pos ls (.inr (some a) :: r) (sF h a vv) Q := by
  have hk6 : k < 6 := Nat.le_of_ble_eq_true hk
  refine z_fg (vv := nf vv) (show FrP (sF h a vv) a from hF) fV_sF hC hi hp hk hkz ?_
  rw [nf_in (by omega) (by omega)]
  exact kk
theorem z_fls1 (hF : FrP h a) (hC : cod y = C) {i : Ins} {r : List AV} {j : Int} (hi : C[pos]? = some i) (hI0 : i.1 = .iaload) (hp : pos + 1 = p') (h0 : 0 ≤ j) (h1 : j < 10) (kk : At d y p' ls (.inl (vv (6 + j)) :: r) (sF h a vv) Q) : At d y pos ls (.inl j :: .inr (some (a + 1)) :: r) (sF h a vv) Q := by
  refine z_fl1 (vv := nf vv) (show FrP (sF h a vv) a from hF) fV_sF hC hi hI0 hp h0 h1 ?_
  rw [nf_in (by omega) (by omega)]
  exact kk
theorem z_fls2 (hF : FrP h a) (hC : cod y = C) {i : Ins} {r : List AV} {j : Int} (hi : C[pos]? = some i) (hI0 : i.1 = .iaload) (hp : pos + 1 = p') (h0 : 0 ≤ j) (h1 : j < 10) (kk : At d y p' ls (.inl (vv (16 + j)) :: r) (sF h a vv) Q) : At d y pos ls (.inl j :: .inr (some (a + 2)) :: r) (sF h a vv) Q := by
  refine z_fl2 (vv := nf vv) (show FrP (sF h a vv) a from hF) fV_sF hC hi hI0 hp h0 h1 ?_
  rw [nf_in (by omega) (by omega)]
  exact kk
theorem z_fp (hF : FrP h a) (hC : cod y = C) {idx : Nat} {v : Int} {k w : Nat} {sw : List Nat} {r : List AV} {x : Int} (hi : C[pos]? = some (.putfield idx, v, 0, k, w, sw)) (hp : pos + 1 = p') (hk : Nat.blt k 6 = true) {kz : Int} (hkz : ((k : Nat) : Int) = kz) (kk : At d y p' ls r (sF h a (ups vv kz x)) Q) : At d y pos ls (.inl x :: .inr (some a) :: r) (sF h a vv) Q := by
  subst hkz
  have hk6 : k < 6 := Nat.le_of_ble_eq_true hk
  refine x_putI hC hi hp ((by decide : ∀ k : Fin 6, (Nat.blt k.val (fcn 0) && (fkd 0 k.val == 0)) = true) ⟨k, hk6⟩) (show (hTy h a).1 = 0 + 1 from hF.ty) hF.1 ?_
  rw [sI_sF0 (by omega) (by omega)]
  exact kk
theorem z_fs1 (hF : FrP h a) (hC : cod y = C) {i : Ins} {r : List AV} {j x : Int} (hi : C[pos]? = some i) (hI0 : i.1 = .iastore) (hp : pos + 1 = p') (h0 : 0 ≤ j) (h1 : j < 10) (kk : At d y p' ls r (sF h a (ups vv (6 + j) x)) Q) : At d y pos ls (.inl x :: .inl j :: .inr (some (a + 1)) :: r) (sF h a vv) Q := by
  refine x_iast (n := 10) hC hi hI0 hp (show hTy h (a + 1) = (100, 10) from hF.2.2.2.1) (by have := hF.1; omega) h0 h1 ?_
  rw [sI_sF1 h0 h1]
  exact kk
theorem z_fs2 (hF : FrP h a) (hC : cod y = C) {i : Ins} {r : List AV} {j x : Int} (hi : C[pos]? = some i) (hI0 : i.1 = .iastore) (hp : pos + 1 = p') (h0 : 0 ≤ j) (h1 : j < 10) (kk : At d y p' ls r (sF h a (ups vv (16 + j) x)) Q) : At d y pos ls (.inl x :: .inl j :: .inr (some (a + 2)) :: r) (sF h a vv) Q := by
  refine x_iast (n := 10) hC hi hI0 hp (show hTy h (a + 2) = (100, 10) from hF.2.2.2.2.1) (by have := hF.1; omega) h0 h1 ?_
  rw [sI_sF2 h0 h1]
  exact kk
theorem z_frs1 (hF : FrP h a) (hC : cod y = C) {idx : Nat} {v : Int} {w : Nat} {sw : List Nat} {r : List AV} (hi : C[pos]? = some (.getfield idx, v, 0, 6, w, sw)) (hp : pos + 1 = p') (kk : At d y p' ls (.inr (some (a + 1)) :: r) (sF h a vv) Q) : At d y pos ls (.inr (some a) :: r) (sF h a vv) Q :=
  z_fr1 (show FrP (sF h a vv) a from hF) hC hi hp kk
theorem z_frs2 (hF : FrP h a) (hC : cod y = C) {idx : Nat} {v : Int} {w : Nat} {sw : List Nat} {r : List AV} (hi : C[pos]? = some (.getfield idx, v, 0, 7, w, sw)) (hp : pos + 1 = p') (kk : At d y p' ls (.inr (some (a + 2)) :: r) (sF h a vv) Q) : At d y pos ls (.inr (some a) :: r) (sF h a vv) Q :=
  z_fr2 (show FrP (sF h a vv) a from hF) hC hi hp kk
theorem z_fgo {b : Nat} (hF : FrP h a) (hB : FrP h b) (hn : a ≠ b) (hC : cod y = C) {idx : Nat} {v : Int} {k w : Nat} {sw : List Nat} {r : List AV} (hi : C[pos]? = some (.getfield idx, v, 0, k, w, sw)) (hp : pos + 1 = p') (hk : Nat.blt k 6 = true) {kz : Int} (hkz : ((k : Nat) : Int) = kz) (kk : At d y p' ls (.inl (fV h b kz) :: r) (sF h a vv) Q) : At d y pos ls (.inr (some b) :: r) (sF h a vv) Q :=
  z_fg (show FrP (sF h a vv) b from hB) (fV_sF_ne hF hB hn) hC hi hp hk hkz kk
theorem z_fro1 {b : Nat} (hB : FrP h b) (hC : cod y = C) {idx : Nat} {v : Int} {w : Nat} {sw : List Nat} {r : List AV} (hi : C[pos]? = some (.getfield idx, v, 0, 6, w, sw)) (hp : pos + 1 = p') (kk : At d y p' ls (.inr (some (b + 1)) :: r) (sF h a vv) Q) : At d y pos ls (.inr (some b) :: r) (sF h a vv) Q :=
  z_fr1 (show FrP (sF h a vv) b from hB) hC hi hp kk
theorem z_fro2 {b : Nat} (hB : FrP h b) (hC : cod y = C) {idx : Nat} {v : Int} {w : Nat} {sw : List Nat} {r : List AV} (hi : C[pos]? = some (.getfield idx, v, 0, 7, w, sw)) (hp : pos + 1 = p') (kk : At d y p' ls (.inr (some (b + 2)) :: r) (sF h a vv) Q) : At d y pos ls (.inr (some b) :: r) (sF h a vv) Q :=
  z_fr2 (show FrP (sF h a vv) b from hB) hC hi hp kk
end ZF
theorem At.heap {d y pos : Nat} {ls : Ls} {st : List AV} {h h' : HP} {Q : Option AV → HP → Prop} (e : h = h') (k : At d y pos ls st h' Q) : At d y pos ls st h Q := e ▸ k
abbrev fHas (v : FV) (u : Int) : Prop := rBit (v 5) u
def fBeg (v : FV) (c s : Int) : FV := ups (ups (ups (ups v 0 c) 1 s) 4 0) 5 0
def fPut (v : FV) (u x f : Int) : FV := ups (ups (ups v 5 (oOr (v 5) (oShl 1 u))) (6 + u) x) (16 + u) f
def fFact (v : FV) (u w : Int) : Prop → Int := fun _ => if w = 0 then v (6 + u) else v (16 + u)
noncomputable def fRd (v : FV) (u w : Int) : Int := cif (fHas v u) (if w = 0 then v (6 + u) else v (16 + u)) (-1000004)
noncomputable def fFlg (v : FV) : Int := fI 10 (fun u x => oOr x (cif (fHas v u) (v (16 + u)) 0)) (if 0 < v 4 then 16 else 0)
set_option maxRecDepth 20000 in
set_option maxHeartbeats 2000000 in
theorem sp_P_isWithin {d : Nat} {h : HP} {v lo hi : Int} {Q : Int → HP → Prop} (K : Q (b2i (lo ≤ v ∧ v ≤ hi)) h) : CaI d 187 [.inl v, .inl lo, .inl hi] h Q := by
  have hC : cod 187 = c_P_isWithin := rfl
  refine CaI.start rfl ?_
  refine x_1 (p' := 1) hC rfl rfl rfl rfl ?_
  refine x_1 (p' := 2) hC rfl rfl rfl rfl ?_
  refine x_iclt (p' := 3) hC rfl rfl (fun c2 => ?_) (fun c2 => ?_)
  · refine x_1 (p' := 9) hC rfl rfl rfl rfl ?_
    refine x_zret hC rfl rfl rfl (by first | omega | exact b2i_01 _) ⟨_, rfl, ?_⟩
    refine eqK K ?_
    first | exact b2i_t (by omega) | exact b2i_f (by omega)
  · refine x_1 (p' := 4) hC rfl rfl rfl rfl ?_
    refine x_1 (p' := 5) hC rfl rfl rfl rfl ?_
    refine x_icgt (p' := 6) hC rfl rfl (fun c5 => ?_) (fun c5 => ?_)
    · refine x_1 (p' := 9) hC rfl rfl rfl rfl ?_
      refine x_zret hC rfl rfl rfl (by first | omega | exact b2i_01 _) ⟨_, rfl, ?_⟩
      refine eqK K ?_
      first | exact b2i_t (by omega) | exact b2i_f (by omega)
    · refine x_1 (p' := 7) hC rfl rfl rfl rfl ?_
      refine x_1 (p' := 9) hC rfl rfl rfl rfl ?_
      refine x_zret hC rfl rfl rfl (by first | omega | exact b2i_01 _) ⟨_, rfl, ?_⟩
      refine eqK K ?_
      first | exact b2i_t (by omega) | exact b2i_f (by omega)
set_option maxRecDepth 20000 in
set_option maxHeartbeats 2000000 in
theorem sp_P_isMultiple {d : Nat} {h : HP} {v z : Int} (hv : 0 ≤ v) (hz : z ≤ 2147483647) {Q : Int → HP → Prop} (K : Q (b2i (0 < z ∧ v % z = 0)) h) : CaI d 188 [.inl v, .inl z] h Q := by
  have hC : cod 188 = c_P_isMultiple := rfl
  refine CaI.start rfl ?_
  refine x_1 (p' := 1) hC rfl rfl rfl rfl ?_
  refine x_ifle (p' := 2) hC rfl rfl (fun c1 => ?_) (fun c1 => ?_)
  · refine x_1 (p' := 9) hC rfl rfl rfl rfl ?_
    refine x_zret hC rfl rfl rfl (by first | omega | exact b2i_01 _) ⟨_, rfl, ?_⟩
    refine eqK K ?_
    first | exact b2i_t (by omega) | exact b2i_f (by omega)
  · refine x_1 (p' := 3) hC rfl rfl rfl rfl ?_
    refine x_1 (p' := 4) hC rfl rfl rfl rfl ?_
    refine x_rem (p' := 5) hC rfl rfl rfl (by omega) ?_
    rw [wr_tmod hv (by omega) hz]
    refine x_ifne (p' := 6) hC rfl rfl (fun c5 => ?_) (fun c5 => ?_)
    · refine x_1 (p' := 9) hC rfl rfl rfl rfl ?_
      refine x_zret hC rfl rfl rfl (by first | omega | exact b2i_01 _) ⟨_, rfl, ?_⟩
      refine eqK K ?_
      first | exact b2i_t (by omega) | exact b2i_f (by omega)
    · refine x_1 (p' := 7) hC rfl rfl rfl rfl ?_
      refine x_1 (p' := 9) hC rfl rfl rfl rfl ?_
      refine x_zret hC rfl rfl rfl (by first | omega | exact b2i_01 _) ⟨_, rfl, ?_⟩
      refine eqK K ?_
      first | exact b2i_t (by omega) | exact b2i_f (by omega)
set_option maxRecDepth 20000 in
set_option maxHeartbeats 2000000 in
theorem sp_P_quotient {d : Nat} {h : HP} {v z : Int} {Q : Int → HP → Prop} (K : Q (if 0 < z then wr (v.tdiv z) else 0) h) : CaI d 189 [.inl v, .inl z] h Q := by
  have hC : cod 189 = c_P_quotient := rfl
  refine CaI.start rfl ?_
  refine x_1 (p' := 1) hC rfl rfl rfl rfl ?_
  refine x_ifle (p' := 2) hC rfl rfl (fun c1 => ?_) (fun c1 => ?_)
  · refine x_1 (p' := 7) hC rfl rfl rfl rfl ?_
    refine x_iret hC rfl rfl rfl ⟨_, rfl, ?_⟩
    refine eqK K ?_
    first | exact if_pos (by omega) | exact if_neg (by omega)
  · refine x_1 (p' := 3) hC rfl rfl rfl rfl ?_
    refine x_1 (p' := 4) hC rfl rfl rfl rfl ?_
    refine x_div (p' := 5) hC rfl rfl rfl (by omega) ?_
    refine x_1 (p' := 7) hC rfl rfl rfl rfl ?_
    refine x_iret hC rfl rfl rfl ⟨_, rfl, ?_⟩
    refine eqK K ?_
    first | exact if_pos (by omega) | exact if_neg (by omega)
set_option maxRecDepth 20000 in
set_option maxHeartbeats 2000000 in
theorem sp_P_goTogether {d : Nat} {h : HP} {a b : Int} (ha : 1 ≤ a ∧ a ≤ 20) (hb : 1 ≤ b ∧ b ≤ 20) {Q : Int → HP → Prop} (K : Q (b2i (rGo a b)) h) : CaI (d + 1) 190 [.inl a, .inl b] h Q := by
  have hC : cod 190 = c_P_goTogether := rfl
  refine CaI.start rfl ?_
  refine x_1 (p' := 1) hC rfl rfl rfl rfl ?_
  refine x_1 (p' := 2) hC rfl rfl rfl rfl ?_
  refine x_cIS2 (p' := 3) (n := 188) hC rfl rfl rfl rfl rfl ?_
  refine sp_P_isMultiple (by omega) (by omega) ?_
  refine x_ifne (p' := 4) hC rfl rfl (fun c3 => ?_) (fun c3 => ?_)
  · have c3 := b2i_n0.mp c3
    refine x_1 (p' := 9) hC rfl rfl rfl rfl ?_
    refine x_1 (p' := 11) hC rfl rfl rfl rfl ?_
    refine x_zret hC rfl rfl rfl (by first | omega | exact b2i_01 _) ⟨_, rfl, ?_⟩
    refine eqK K ?_
    first | exact b2i_t (by omega) | exact b2i_f (by omega)
  · have c3 := b2i_0.mp c3
    refine x_1 (p' := 5) hC rfl rfl rfl rfl ?_
    refine x_1 (p' := 6) hC rfl rfl rfl rfl ?_
    refine x_cIS2 (p' := 7) (n := 188) hC rfl rfl rfl rfl rfl ?_
    refine sp_P_isMultiple (by omega) (by omega) ?_
    refine x_ifeq (p' := 8) hC rfl rfl (fun c7 => ?_) (fun c7 => ?_)
    · have c7 := b2i_0.mp c7
      refine x_1 (p' := 11) hC rfl rfl rfl rfl ?_
      refine x_zret hC rfl rfl rfl (by first | omega | exact b2i_01 _) ⟨_, rfl, ?_⟩
      refine eqK K ?_
      first | exact b2i_t (by omega) | exact b2i_f (by omega)
    · have c7 := b2i_n0.mp c7
      refine x_1 (p' := 9) hC rfl rfl rfl rfl ?_
      refine x_1 (p' := 11) hC rfl rfl rfl rfl ?_
      refine x_zret hC rfl rfl rfl (by first | omega | exact b2i_01 _) ⟨_, rfl, ?_⟩
      refine eqK K ?_
      first | exact b2i_t (by omega) | exact b2i_f (by omega)
set_option maxRecDepth 20000 in
set_option maxHeartbeats 2000000 in
theorem sp_F_begin {d : Nat} {h : HP} {a : Nat} (hF : FrP h a) {c s : Int} {Q : HP → Prop} (K : Q (sF h a (fBeg (fV h a) c s))) : CaV d 83 [.inr (some a), .inl c, .inl s] h Q := by
  have hC : cod 83 = c_F_begin := rfl
  refine CaV.start rfl ?_
  refine At.heap (sF_self (h := h) (a := a)).symm ?_
  refine x_1 (p' := 1) hC rfl rfl rfl rfl ?_
  refine x_1 (p' := 2) hC rfl rfl rfl rfl ?_
  refine z_fp (p' := 3) (kz := 0) hF hC rfl rfl rfl rfl ?_
  refine x_1 (p' := 4) hC rfl rfl rfl rfl ?_
  refine x_1 (p' := 5) hC rfl rfl rfl rfl ?_
  refine z_fp (p' := 6) (kz := 1) hF hC rfl rfl rfl rfl ?_
  refine x_1 (p' := 7) hC rfl rfl rfl rfl ?_
  refine x_1 (p' := 8) hC rfl rfl rfl rfl ?_
  refine z_fp (p' := 9) (kz := 4) hF hC rfl rfl rfl rfl ?_
  refine x_1 (p' := 10) hC rfl rfl rfl rfl ?_
  refine x_1 (p' := 11) hC rfl rfl rfl rfl ?_
  refine z_fp (p' := 12) (kz := 5) hF hC rfl rfl rfl rfl ?_
  refine x_ret hC rfl rfl rfl ⟨rfl, ?_⟩
  exact K
set_option maxRecDepth 20000 in
set_option maxHeartbeats 2000000 in
theorem sp_F_has {d : Nat} {h : HP} {a : Nat} (hF : FrP h a) {vv : FV} (hv : fV h a = vv) {u : Int} (hu : 0 ≤ u ∧ u < 10) {Q : Int → HP → Prop} (K : Q (b2i (fHas vv u)) h) : CaI d 84 [.inr (some a), .inl u] h Q := by
  have hC : cod 84 = c_F_has := rfl
  refine CaI.start rfl ?_
  have hb := oAnd_1 (oShr (vv 5) u)
  refine x_1 (p' := 1) hC rfl rfl rfl rfl ?_
  refine x_iflt (p' := 2) hC rfl rfl (fun c1 => ?_) (fun c1 => ?_)
  · refine x_1 (p' := 15) hC rfl rfl rfl rfl ?_
    refine x_zret hC rfl rfl rfl (by first | omega | exact b2i_01 _) ⟨_, rfl, ?_⟩
    first
      | (exfalso; omega)
      | (refine eqK K ?_
         first
           | exact b2i_f (fun q => by have q2 : oAnd (oShr (vv 5) u) 1 = 1 := q; omega)
           | exact b2i_t (show oAnd (oShr (vv 5) u) 1 = 1 by omega))
  · refine x_1 (p' := 3) hC rfl rfl rfl rfl ?_
    refine x_1 (p' := 4) hC rfl rfl rfl rfl ?_
    refine x_icge (p' := 5) hC rfl rfl (fun c4 => ?_) (fun c4 => ?_)
    · refine x_1 (p' := 15) hC rfl rfl rfl rfl ?_
      refine x_zret hC rfl rfl rfl (by first | omega | exact b2i_01 _) ⟨_, rfl, ?_⟩
      first
        | (exfalso; omega)
        | (refine eqK K ?_
           first
             | exact b2i_f (fun q => by have q2 : oAnd (oShr (vv 5) u) 1 = 1 := q; omega)
             | exact b2i_t (show oAnd (oShr (vv 5) u) 1 = 1 by omega))
    · refine x_1 (p' := 6) hC rfl rfl rfl rfl ?_
      refine z_fg (p' := 7) (kz := 5) hF hv hC rfl rfl rfl rfl ?_
      refine x_1 (p' := 8) hC rfl rfl rfl rfl ?_
      refine x_1 (p' := 9) hC rfl rfl rfl rfl ?_
      refine x_1 (p' := 10) hC rfl rfl rfl rfl ?_
      refine x_1 (p' := 11) hC rfl rfl rfl rfl ?_
      refine x_ifeq (p' := 12) hC rfl rfl (fun c11 => ?_) (fun c11 => ?_)
      · refine x_1 (p' := 15) hC rfl rfl rfl rfl ?_
        refine x_zret hC rfl rfl rfl (by first | omega | exact b2i_01 _) ⟨_, rfl, ?_⟩
        first
          | (exfalso; omega)
          | (refine eqK K ?_
             first
               | exact b2i_f (fun q => by have q2 : oAnd (oShr (vv 5) u) 1 = 1 := q; omega)
               | exact b2i_t (show oAnd (oShr (vv 5) u) 1 = 1 by omega))
      · refine x_1 (p' := 13) hC rfl rfl rfl rfl ?_
        refine x_1 (p' := 15) hC rfl rfl rfl rfl ?_
        refine x_zret hC rfl rfl rfl (by first | omega | exact b2i_01 _) ⟨_, rfl, ?_⟩
        first
          | (exfalso; omega)
          | (refine eqK K ?_
             first
               | exact b2i_f (fun q => by have q2 : oAnd (oShr (vv 5) u) 1 = 1 := q; omega)
               | exact b2i_t (show oAnd (oShr (vv 5) u) 1 = 1 by omega))
set_option maxRecDepth 20000 in
set_option maxHeartbeats 2000000 in
theorem sp_F_put {d : Nat} {h : HP} {a : Nat} (hF : FrP h a) {u x f : Int} (hu : 0 ≤ u ∧ u < 10) {Q : HP → Prop} (K : Q (sF h a (fPut (fV h a) u x f))) : CaV (d + 1) 85 [.inr (some a), .inl u, .inl x, .inl f] h Q := by
  have hC : cod 85 = c_F_put := rfl
  refine CaV.start rfl ?_
  refine At.heap (sF_self (h := h) (a := a)).symm ?_
  refine x_1 (p' := 1) hC rfl rfl rfl rfl ?_
  refine x_1 (p' := 2) hC rfl rfl rfl rfl ?_
  refine x_1 (p' := 3) hC rfl rfl rfl rfl ?_
  refine x_cIS3 (p' := 4) (n := 187) hC rfl rfl rfl rfl rfl ?_
  refine sp_P_isWithin ?_
  refine x_ifeq (p' := 5) hC rfl rfl (fun c4 => ?_) (fun c4 => ?_)
  · have c4 := b2i_0.mp c4
    refine x_ret hC rfl rfl rfl ⟨rfl, ?_⟩
    first
      | exact K
      | (exfalso; omega)
  · have c4 := b2i_n0.mp c4
    refine x_1 (p' := 6) hC rfl rfl rfl rfl ?_
    refine x_1 (p' := 7) hC rfl rfl rfl rfl ?_
    refine z_fgs (p' := 8) (kz := 5) hF hC rfl rfl rfl rfl ?_
    refine x_1 (p' := 9) hC rfl rfl rfl rfl ?_
    refine x_1 (p' := 10) hC rfl rfl rfl rfl ?_
    refine x_1 (p' := 11) hC rfl rfl rfl rfl ?_
    refine x_1 (p' := 12) hC rfl rfl rfl rfl ?_
    refine z_fp (p' := 13) (kz := 5) hF hC rfl rfl rfl rfl ?_
    refine x_1 (p' := 14) hC rfl rfl rfl rfl ?_
    refine z_frs1 (p' := 15) hF hC rfl rfl ?_
    refine x_1 (p' := 16) hC rfl rfl rfl rfl ?_
    refine x_1 (p' := 17) hC rfl rfl rfl rfl ?_
    refine z_fs1 (p' := 18) hF hC rfl rfl rfl (by omega) (by omega) ?_
    refine x_1 (p' := 19) hC rfl rfl rfl rfl ?_
    refine z_frs2 (p' := 20) hF hC rfl rfl ?_
    refine x_1 (p' := 21) hC rfl rfl rfl rfl ?_
    refine x_1 (p' := 22) hC rfl rfl rfl rfl ?_
    refine z_fs2 (p' := 23) hF hC rfl rfl rfl (by omega) (by omega) ?_
    refine x_ret hC rfl rfl rfl ⟨rfl, ?_⟩
    first
      | exact K
      | (exfalso; omega)
set_option maxRecDepth 20000 in
set_option maxHeartbeats 2000000 in
theorem sp_F_readingFact {d : Nat} {h : HP} {a : Nat} (hF : FrP h a) {vv : FV} (hv : fV h a = vv) {u w : Int} (hu : 0 ≤ u ∧ u < 10) {Q : Int → HP → Prop} (K : Q (fRd vv u w) h) : CaI (d + 1) 86 [.inr (some a), .inl u, .inl w] h Q := by
  have hC : cod 86 = c_F_readingFact := rfl
  refine CaI.start rfl ?_
  refine x_1 (p' := 1) hC rfl rfl rfl rfl ?_
  refine x_1 (p' := 2) hC rfl rfl rfl rfl ?_
  refine x_cIV1 (p' := 3) (n := 84) hC rfl rfl rfl rfl rfl (hF.ty) ?_
  refine sp_F_has hF hv (by omega) ?_
  refine x_ifne (p' := 4) hC rfl rfl (fun c3 => ?_) (fun c3 => ?_)
  · have c3 := b2i_n0.mp c3
    refine x_1 (p' := 7) hC rfl rfl rfl rfl ?_
    refine x_ifne (p' := 8) hC rfl rfl (fun c7 => ?_) (fun c7 => ?_)
    · refine x_1 (p' := 14) hC rfl rfl rfl rfl ?_
      refine z_fr2 (p' := 15) hF hC rfl rfl ?_
      refine x_1 (p' := 16) hC rfl rfl rfl rfl ?_
      refine z_fl2 (p' := 17) hF hv hC rfl rfl rfl (by omega) (by omega) ?_
      refine x_iret hC rfl rfl rfl ⟨_, rfl, ?_⟩
      refine eqK K ?_
      unfold fRd
      first
        | exact cif_f c3
        | (rw [cif_t c3]
           first
             | exact if_pos (by omega)
             | exact if_neg (by omega))
    · refine x_1 (p' := 9) hC rfl rfl rfl rfl ?_
      refine z_fr1 (p' := 10) hF hC rfl rfl ?_
      refine x_1 (p' := 11) hC rfl rfl rfl rfl ?_
      refine z_fl1 (p' := 12) hF hv hC rfl rfl rfl (by omega) (by omega) ?_
      refine x_1 (p' := 17) hC rfl rfl rfl rfl ?_
      refine x_iret hC rfl rfl rfl ⟨_, rfl, ?_⟩
      refine eqK K ?_
      unfold fRd
      first
        | exact cif_f c3
        | (rw [cif_t c3]
           first
             | exact if_pos (by omega)
             | exact if_neg (by omega))
  · have c3 := b2i_0.mp c3
    refine x_ldc (p' := 5) (v := (-1000004)) hC rfl rfl (by decide) ?_
    refine x_iret hC rfl rfl rfl ⟨_, rfl, ?_⟩
    refine eqK K ?_
    unfold fRd
    first
      | exact cif_f c3
      | (rw [cif_t c3]
         first
           | exact if_pos (by omega)
           | exact if_neg (by omega))
set_option maxRecDepth 20000 in
theorem lp_F_flags {d : Nat} {h : HP} {a : Nat} (hF : FrP h a) {vv : FV} (hv : fV h a = vv) {Q : Int → HP → Prop} (K : Q (fFlg vv) h) (k : Nat) : ∀ (i : Int), (10 - i).toNat < k → (0 ≤ i ∧ i ≤ 10) → At (d + 1) 87 9 [some (.inr (some a)), some (.inl (fI i (fun u x => oOr x (cif (fHas vv u) (vv (16 + u)) 0)) (if 0 < vv 4 then 16 else 0))), some (.inl i)] [] h (fun v h' => ∃ x, v = some (.inl x) ∧ Q x h') := by
  have hC : cod 87 = c_F_flagsTogether := rfl
  induction k with
  | zero =>
    intro i hk
    exact absurd hk (Nat.not_lt_zero _)
  | succ k ih =>
    intro i hk hI0
    refine x_1 (p' := 10) hC rfl rfl rfl rfl ?_
    refine x_1 (p' := 11) hC rfl rfl rfl rfl ?_
    refine x_icge (p' := 12) hC rfl rfl (fun c11 => ?_) (fun c11 => ?_)
    · refine x_1 (p' := 28) hC rfl rfl rfl rfl ?_
      refine x_iret hC rfl rfl rfl ⟨_, rfl, ?_⟩
      refine eqK K ?_
      rw [show i = 10 by omega]
      rfl
    · refine x_1 (p' := 13) hC rfl rfl rfl rfl ?_
      refine x_1 (p' := 14) hC rfl rfl rfl rfl ?_
      refine x_1 (p' := 15) hC rfl rfl rfl rfl ?_
      refine x_cIV1 (p' := 16) (n := 84) hC rfl rfl rfl rfl rfl (hF.ty) ?_
      refine sp_F_has hF hv (by omega) ?_
      refine x_ifeq (p' := 17) hC rfl rfl (fun c16 => ?_) (fun c16 => ?_)
      · have c16 := b2i_0.mp c16
        have e := fI_succ (g := fun u x => oOr x (cif (fHas vv u) (vv (16 + u)) 0)) (a := if 0 < vv 4 then (16 : Int) else 0) hI0.1
        rw [cif_f c16] at e
        refine x_1 (p' := 23) hC rfl rfl rfl rfl ?_
        refine x_1 (p' := 24) hC rfl rfl rfl rfl ?_
        refine x_stI1 (p' := 25) hC rfl rfl rfl ?_
        refine x_inc2 (p' := 26) hC rfl rfl (⟨by omega, by omega⟩) ?_
        refine x_1 (p' := 9) hC rfl rfl rfl rfl ?_
        rw [← e]
        exact ih _ (by omega) (by omega)
      · have c16 := b2i_n0.mp c16
        have e := fI_succ (g := fun u x => oOr x (cif (fHas vv u) (vv (16 + u)) 0)) (a := if 0 < vv 4 then (16 : Int) else 0) hI0.1
        rw [cif_t c16] at e
        refine x_1 (p' := 18) hC rfl rfl rfl rfl ?_
        refine z_fr2 (p' := 19) hF hC rfl rfl ?_
        refine x_1 (p' := 20) hC rfl rfl rfl rfl ?_
        refine z_fl2 (p' := 21) hF hv hC rfl rfl rfl (by omega) (by omega) ?_
        refine x_1 (p' := 23) hC rfl rfl rfl rfl ?_
        refine x_1 (p' := 24) hC rfl rfl rfl rfl ?_
        refine x_stI1 (p' := 25) hC rfl rfl rfl ?_
        refine x_inc2 (p' := 26) hC rfl rfl (⟨by omega, by omega⟩) ?_
        refine x_1 (p' := 9) hC rfl rfl rfl rfl ?_
        rw [← e]
        exact ih _ (by omega) (by omega)
set_option maxRecDepth 20000 in
set_option maxHeartbeats 2000000 in
theorem sp_F_flagsTogether {d : Nat} {h : HP} {a : Nat} (hF : FrP h a) {vv : FV} (hv : fV h a = vv) {Q : Int → HP → Prop} (K : Q (fFlg vv) h) : CaI (d + 1) 87 [.inr (some a)] h Q := by
  have hC : cod 87 = c_F_flagsTogether := rfl
  refine CaI.start rfl ?_
  have e0 := fI_0 (g := fun u x => oOr x (cif (fHas vv u) (vv (16 + u)) 0)) (a := if 0 < vv 4 then (16 : Int) else 0)
  refine x_1 (p' := 1) hC rfl rfl rfl rfl ?_
  refine z_fg (p' := 2) (kz := 4) hF hv hC rfl rfl rfl rfl ?_
  refine x_ifle (p' := 3) hC rfl rfl (fun c2 => ?_) (fun c2 => ?_)
  · refine x_1 (p' := 6) hC rfl rfl rfl rfl ?_
    refine x_stI1 (p' := 7) hC rfl rfl rfl ?_
    refine x_1 (p' := 8) hC rfl rfl rfl rfl ?_
    refine x_stI2 (p' := 9) hC rfl rfl rfl ?_
    first
      | rw [if_pos (by omega)] at e0
      | rw [if_neg (by omega)] at e0
    have l := lp_F_flags (d := d) hF hv K 11 0 (by decide) (by omega)
    rw [fI_0] at l
    first
      | (rw [if_pos (by omega)] at l; exact l)
      | (rw [if_neg (by omega)] at l; exact l)
  · refine x_1 (p' := 4) hC rfl rfl rfl rfl ?_
    refine x_1 (p' := 6) hC rfl rfl rfl rfl ?_
    refine x_stI1 (p' := 7) hC rfl rfl rfl ?_
    refine x_1 (p' := 8) hC rfl rfl rfl rfl ?_
    refine x_stI2 (p' := 9) hC rfl rfl rfl ?_
    first
      | rw [if_pos (by omega)] at e0
      | rw [if_neg (by omega)] at e0
    have l := lp_F_flags (d := d) hF hv K 11 0 (by decide) (by omega)
    rw [fI_0] at l
    first
      | (rw [if_pos (by omega)] at l; exact l)
      | (rw [if_neg (by omega)] at l; exact l)
set_option maxRecDepth 20000 in
set_option maxHeartbeats 2000000 in
theorem sp_F_copyFrom {d : Nat} {h : HP} {a : Nat} (hF : FrP h a) {b : Nat} (hB : FrP h b) (hn : a ≠ b) {Q : HP → Prop} (K : Q (sF h a (fV h b))) : CaV (d + 1) 82 [.inr (some a), .inr (some b)] h Q := by
  have hC : cod 82 = c_F_copyFrom := rfl
  refine CaV.start rfl ?_
  refine At.heap (sF_self (h := h) (a := a)).symm ?_
  refine x_1 (p' := 1) hC rfl rfl rfl rfl ?_
  refine x_1 (p' := 2) hC rfl rfl rfl rfl ?_
  refine z_fgo (p' := 3) (kz := 0) hF hB hn hC rfl rfl rfl rfl ?_
  refine z_fp (p' := 4) (kz := 0) hF hC rfl rfl rfl rfl ?_
  refine x_1 (p' := 5) hC rfl rfl rfl rfl ?_
  refine x_1 (p' := 6) hC rfl rfl rfl rfl ?_
  refine z_fgo (p' := 7) (kz := 1) hF hB hn hC rfl rfl rfl rfl ?_
  refine z_fp (p' := 8) (kz := 1) hF hC rfl rfl rfl rfl ?_
  refine x_1 (p' := 9) hC rfl rfl rfl rfl ?_
  refine x_1 (p' := 10) hC rfl rfl rfl rfl ?_
  refine z_fgo (p' := 11) (kz := 2) hF hB hn hC rfl rfl rfl rfl ?_
  refine z_fp (p' := 12) (kz := 2) hF hC rfl rfl rfl rfl ?_
  refine x_1 (p' := 13) hC rfl rfl rfl rfl ?_
  refine x_1 (p' := 14) hC rfl rfl rfl rfl ?_
  refine z_fgo (p' := 15) (kz := 3) hF hB hn hC rfl rfl rfl rfl ?_
  refine z_fp (p' := 16) (kz := 3) hF hC rfl rfl rfl rfl ?_
  refine x_1 (p' := 17) hC rfl rfl rfl rfl ?_
  refine x_1 (p' := 18) hC rfl rfl rfl rfl ?_
  refine z_fgo (p' := 19) (kz := 4) hF hB hn hC rfl rfl rfl rfl ?_
  refine z_fp (p' := 20) (kz := 4) hF hC rfl rfl rfl rfl ?_
  refine x_1 (p' := 21) hC rfl rfl rfl rfl ?_
  refine x_1 (p' := 22) hC rfl rfl rfl rfl ?_
  refine z_fgo (p' := 23) (kz := 5) hF hB hn hC rfl rfl rfl rfl ?_
  refine z_fp (p' := 24) (kz := 5) hF hC rfl rfl rfl rfl ?_
  refine x_1 (p' := 25) hC rfl rfl rfl rfl ?_
  refine z_fro1 (p' := 26) hB hC rfl rfl ?_
  refine x_1 (p' := 27) hC rfl rfl rfl rfl ?_
  refine x_1 (p' := 28) hC rfl rfl rfl rfl ?_
  refine z_frs1 (p' := 29) hF hC rfl rfl ?_
  refine x_1 (p' := 30) hC rfl rfl rfl rfl ?_
  refine x_1 (p' := 31) hC rfl rfl rfl rfl ?_
  refine x_cpy (p' := 32) hC rfl rfl rfl (show hTy h (b + 1) = (100, 10) from hB.2.2.2.1) (show hTy h (a + 1) = (100, 10) from hF.2.2.2.1) (by have := hB.1; omega) (by have := hF.1; omega) (by omega) ?_
  rw [sCp_sF1 hF hB hn]
  refine x_1 (p' := 33) hC rfl rfl rfl rfl ?_
  refine z_fro2 (p' := 34) hB hC rfl rfl ?_
  refine x_1 (p' := 35) hC rfl rfl rfl rfl ?_
  refine x_1 (p' := 36) hC rfl rfl rfl rfl ?_
  refine z_frs2 (p' := 37) hF hC rfl rfl ?_
  refine x_1 (p' := 38) hC rfl rfl rfl rfl ?_
  refine x_1 (p' := 39) hC rfl rfl rfl rfl ?_
  refine x_cpy (p' := 40) hC rfl rfl rfl (show hTy h (b + 2) = (100, 10) from hB.2.2.2.2.1) (show hTy h (a + 2) = (100, 10) from hF.2.2.2.2.1) (by have := hB.1; omega) (by have := hF.1; omega) (by omega) ?_
  rw [sCp_sF2 hF hB hn]
  refine x_ret hC rfl rfl rfl ⟨rfl, ?_⟩
  refine (sF_congr (fun k h0 h1 => ?_) : sF h a _ = sF h a (fV h b)) ▸ K
  unfold cpF ups
  repeat' split
  all_goals first | rfl | (exfalso; omega) | (congr 1; omega)
theorem bits_10 : ∀ n : Fin 1024, (let x : Int := (n.val : Nat); let a := wr (x - oAnd (oUshr x 1) 1431655765); let b := wr (oAnd a 858993459 + oAnd (oUshr a 2) 858993459); let c := oAnd (wr (b + oUshr b 4)) 252645135; let e := wr (c + oUshr c 8); let f := wr (e + oUshr e 16); oAnd f 63) = rOnes ((n.val : Nat) : Int) := by decide +kernel
set_option maxRecDepth 20000 in
set_option maxHeartbeats 2000000 in
theorem sp_JI_bitCount {d : Nat} {h : HP} {x : Int} (hx : 0 ≤ x ∧ x < 1024) {Q : Int → HP → Prop} (K : Q (rOnes x) h) : CaI d 192 [.inl x] h Q := by
  have hC : cod 192 = c_JI_bitCount := rfl
  refine CaI.start rfl ?_
  refine x_1 (p' := 1) hC rfl rfl rfl rfl ?_
  refine x_1 (p' := 2) hC rfl rfl rfl rfl ?_
  refine x_1 (p' := 3) hC rfl rfl rfl rfl ?_
  refine x_1 (p' := 4) hC rfl rfl rfl rfl ?_
  refine x_ldcw (p' := 5) (v := 1431655765) hC rfl rfl (by decide) ?_
  refine x_1 (p' := 6) hC rfl rfl rfl rfl ?_
  refine x_1 (p' := 7) hC rfl rfl rfl rfl ?_
  refine x_stI0 (p' := 8) hC rfl rfl rfl ?_
  refine x_1 (p' := 9) hC rfl rfl rfl rfl ?_
  refine x_ldcw (p' := 10) (v := 858993459) hC rfl rfl (by decide) ?_
  refine x_1 (p' := 11) hC rfl rfl rfl rfl ?_
  refine x_1 (p' := 12) hC rfl rfl rfl rfl ?_
  refine x_1 (p' := 13) hC rfl rfl rfl rfl ?_
  refine x_1 (p' := 14) hC rfl rfl rfl rfl ?_
  refine x_ldcw (p' := 15) (v := 858993459) hC rfl rfl (by decide) ?_
  refine x_1 (p' := 16) hC rfl rfl rfl rfl ?_
  refine x_1 (p' := 17) hC rfl rfl rfl rfl ?_
  refine x_stI0 (p' := 18) hC rfl rfl rfl ?_
  refine x_1 (p' := 19) hC rfl rfl rfl rfl ?_
  refine x_1 (p' := 20) hC rfl rfl rfl rfl ?_
  refine x_1 (p' := 21) hC rfl rfl rfl rfl ?_
  refine x_1 (p' := 22) hC rfl rfl rfl rfl ?_
  refine x_1 (p' := 23) hC rfl rfl rfl rfl ?_
  refine x_ldcw (p' := 24) (v := 252645135) hC rfl rfl (by decide) ?_
  refine x_1 (p' := 25) hC rfl rfl rfl rfl ?_
  refine x_stI0 (p' := 26) hC rfl rfl rfl ?_
  refine x_1 (p' := 27) hC rfl rfl rfl rfl ?_
  refine x_1 (p' := 28) hC rfl rfl rfl rfl ?_
  refine x_1 (p' := 29) hC rfl rfl rfl rfl ?_
  refine x_1 (p' := 30) hC rfl rfl rfl rfl ?_
  refine x_1 (p' := 31) hC rfl rfl rfl rfl ?_
  refine x_stI0 (p' := 32) hC rfl rfl rfl ?_
  refine x_1 (p' := 33) hC rfl rfl rfl rfl ?_
  refine x_1 (p' := 34) hC rfl rfl rfl rfl ?_
  refine x_1 (p' := 35) hC rfl rfl rfl rfl ?_
  refine x_1 (p' := 36) hC rfl rfl rfl rfl ?_
  refine x_1 (p' := 37) hC rfl rfl rfl rfl ?_
  refine x_stI0 (p' := 38) hC rfl rfl rfl ?_
  refine x_1 (p' := 39) hC rfl rfl rfl rfl ?_
  refine x_1 (p' := 40) hC rfl rfl rfl rfl ?_
  refine x_1 (p' := 41) hC rfl rfl rfl rfl ?_
  refine x_iret hC rfl rfl rfl ⟨_, rfl, ?_⟩
  refine eqK K ?_
  have e := bits_10 ⟨x.toNat, by omega⟩
  simp only [Int.toNat_of_nonneg hx.1] at e
  exact e.symm

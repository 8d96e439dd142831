/-! the reference's release -/
theorem fI_congr {α : Type} {n : Int} {f g : Int → α → α} {a : α} (h : ∀ i, 0 ≤ i → i < n → ∀ x, f i x = g i x) : fI n f a = fI n g a := by
  unfold fI
  have key : ∀ k : Nat, (k : Int) ≤ n ∨ k = 0 → (List.range k).foldl (fun acc (i : Nat) => f (i : Int) acc) a = (List.range k).foldl (fun acc (i : Nat) => g (i : Int) acc) a := by
    intro k
    induction k with
    | zero => intro _; rfl
    | succ k ih =>
      intro hk
      rw [List.range_succ, List.foldl_append, List.foldl_append, ih (by omega)]
      exact h k (by omega) (by omega) _
  exact key n.toNat (by omega)
def SV (X Y : Nat → Int → Int) : Prop := (∀ a, a ≠ 7 → a ≠ 8 → a ≠ 9 → a ≠ 0 → Y a = X a) ∧ ∀ k, k ≠ 13 → Y 0 k = X 0 k
theorem SV.refl {X : Nat → Int → Int} : SV X X := ⟨fun _ _ _ _ _ => rfl, fun _ _ => rfl⟩
theorem SV.trans {X Y Z : Nat → Int → Int} (h : SV X Y) (g : SV Y Z) : SV X Z := ⟨fun a h1 h2 h3 h4 => (g.1 a h1 h2 h3 h4).trans (h.1 a h1 h2 h3 h4), fun k hk => (g.2 k hk).trans (h.2 k hk)⟩
theorem SU.sv {X Y : Nat → Int → Int} {u : Int} (h : SU X Y u) : SV X Y := ⟨h.1, h.2.1⟩
theorem SV.one {X Y : Nat → Int → Int} (h : SV X Y) : Y 1 = X 1 := h.1 1 (by decide) (by decide) (by decide) (by decide)
def vOf (r : Option (Int × Int)) : Int := match r with | some q => q.1 | none => 0
def fOf (r : Option (Int × Int)) : Int := match r with | some q => q.2 | none => 0
noncomputable def rMsk (s : Int → Int) (g : Int) (r : Int → Option (Int × Int)) (n : Int) : Int := fI n (fun u x => cif (rIsOf s g u) (oOr x (cif ((r u).isSome = true) (oShl 1 u) 0)) x) 0
noncomputable def rMis (s : Int → Int) (g : Int) (r : Int → Option (Int × Int)) (n : Int) : Int := fI n (fun u x => cif (rIsOf s g u) (x + cif ((r u).isSome = true) 0 1) x) 0
noncomputable def rFlg (s : Int → Int) (g : Int) (r : Int → Option (Int × Int)) (n : Int) : Int := fI n (fun u x => cif (rIsOf s g u) (oOr x (fOf (r u))) x) 0
/-- each unit below the hub has its reading, and it lies in the rows -/
def RAll (s : Int → Int) (Y : Nat → Int → Int) (g sl : Int) (r : Int → Option (Int × Int)) (n : Int) : Prop := ∀ u, 0 ≤ u → u < n → rIsOf s g u → RRead s g u sl (r u) ∧ ∀ v f, r u = some (v, f) → Y 7 u = v ∧ Y 8 u = f
def rPut (r : Int → Option (Int × Int)) (u : Int) (q : Option (Int × Int)) : Int → Option (Int × Int) := fun k => if k = u then q else r k
theorem rPut_eq {r : Int → Option (Int × Int)} {u : Int} {q : Option (Int × Int)} : rPut r u q u = q := if_pos rfl
theorem rPut_ne {r : Int → Option (Int × Int)} {u k : Int} {q : Option (Int × Int)} (h : k ≠ u) : rPut r u q k = r k := if_neg h
theorem rMsk_put {s : Int → Int} {g : Int} {r : Int → Option (Int × Int)} {n : Int} {q : Option (Int × Int)} (h0 : 0 ≤ n) : rMsk s g (rPut r n q) (n + 1) = cif (rIsOf s g n) (oOr (rMsk s g r n) (cif (q.isSome = true) (oShl 1 n) 0)) (rMsk s g r n) := by
  unfold rMsk
  rw [fI_succ h0, rPut_eq, fI_congr (g := fun u x => cif (rIsOf s g u) (oOr x (cif ((r u).isSome = true) (oShl 1 u) 0)) x) (fun i i0 i1 x => by rw [rPut_ne (by omega)])]
theorem rMis_put {s : Int → Int} {g : Int} {r : Int → Option (Int × Int)} {n : Int} {q : Option (Int × Int)} (h0 : 0 ≤ n) : rMis s g (rPut r n q) (n + 1) = cif (rIsOf s g n) (rMis s g r n + cif (q.isSome = true) 0 1) (rMis s g r n) := by
  unfold rMis
  rw [fI_succ h0, rPut_eq, fI_congr (g := fun u x => cif (rIsOf s g u) (x + cif ((r u).isSome = true) 0 1) x) (fun i i0 i1 x => by rw [rPut_ne (by omega)])]
theorem rFlg_put {s : Int → Int} {g : Int} {r : Int → Option (Int × Int)} {n : Int} {q : Option (Int × Int)} (h0 : 0 ≤ n) : rFlg s g (rPut r n q) (n + 1) = cif (rIsOf s g n) (oOr (rFlg s g r n) (fOf q)) (rFlg s g r n) := by
  unfold rFlg
  rw [fI_succ h0, rPut_eq, fI_congr (g := fun u x => cif (rIsOf s g u) (oOr x (fOf (r u))) x) (fun i i0 i1 x => by rw [rPut_ne (by omega)])]
noncomputable def rClr (s : Int → Int) (g sl n : Int) : Int → Int := fun k => cif (∃ f, 0 ≤ f ∧ f < n ∧ k = 448 + 27 * f ∧ rIn s f g sl) 0 (s k)
theorem rClr_0 {s : Int → Int} {g sl : Int} : rClr s g sl 0 = s := by funext k; exact cif_f (fun ⟨f, h0, h1, _⟩ => by omega)
theorem rClr_fr {s : Int → Int} {g sl n w : Int} (hw : 0 ≤ w ∧ w < 27) : rFr (rClr s g sl n) n w = rFr s n w := cif_f (fun ⟨f, h0, h1, h2, _⟩ => by omega)
theorem rClr_lo {s : Int → Int} {g sl n : Int} : Lo s (rClr s g sl n) := fun k hk => cif_f (fun ⟨f, h0, h1, h2, _⟩ => by omega)
theorem rClr_t {s : Int → Int} {g sl n : Int} (h0 : 0 ≤ n) (h : rIn s n g sl) : ups (rClr s g sl n) (448 + 27 * n + 0) 0 = rClr s g sl (n + 1) := by
  funext k
  unfold ups
  by_cases e : k = 448 + 27 * n + 0
  · rw [if_pos e]
    exact (cif_t ⟨n, h0, by omega, by omega, h⟩).symm
  · rw [if_neg e]
    refine cif_congr ⟨fun ⟨f, a, b, c, d⟩ => ⟨f, a, by omega, c, d⟩, fun ⟨f, a, b, c, d⟩ => ⟨f, a, ?_, c, d⟩⟩
    rcases (show f < n ∨ f = n by omega) with h1 | h1
    · exact h1
    · exfalso; omega
theorem rClr_f {s : Int → Int} {g sl n : Int} (h : ¬ rIn s n g sl) : rClr s g sl n = rClr s g sl (n + 1) := by
  funext k
  refine cif_congr ⟨fun ⟨f, a, b, c, d⟩ => ⟨f, a, by omega, c, d⟩, fun ⟨f, a, b, c, d⟩ => ⟨f, a, ?_, c, d⟩⟩
  rcases (show f < n ∨ f = n by omega) with h1 | h1
  · exact h1
  · rw [h1] at d; exact absurd d h
noncomputable def rHld (s : Int → Int) (g msk n : Int) (V F : Int → Int) : Int → Int := fun k => cif (98 + 30 * g ≤ k ∧ k < 98 + 30 * g + 3 * n ∧ rBit msk ((k - 98 - 30 * g) / 3)) (if (k - 98 - 30 * g) % 3 = 0 then 1 else if (k - 98 - 30 * g) % 3 = 1 then V ((k - 98 - 30 * g) / 3) else F ((k - 98 - 30 * g) / 3)) (s k)
theorem rHld_0 {s : Int → Int} {g msk : Int} {V F : Int → Int} : rHld s g msk 0 V F = s := by funext k; exact cif_f (fun ⟨h0, h1, _⟩ => by omega)
theorem rHld_out {s : Int → Int} {g msk n k : Int} {V F : Int → Int} (h : k < 98 + 30 * g ∨ 98 + 30 * g + 3 * n ≤ k) : rHld s g msk n V F k = s k := cif_f (fun ⟨h0, h1, _⟩ => by omega)
theorem rHld_t {s : Int → Int} {g msk n : Int} {V F : Int → Int} (h0 : 0 ≤ n) (h : rBit msk n) : ups (ups (ups (rHld s g msk n V F) (98 + 30 * g + 3 * n) 1) (98 + 30 * g + 3 * n + 1) (V n)) (98 + 30 * g + 3 * n + 2) (F n) = rHld s g msk (n + 1) V F := by
  funext k
  rcases (show k = 98 + 30 * g + 3 * n + 2 ∨ k = 98 + 30 * g + 3 * n + 1 ∨ k = 98 + 30 * g + 3 * n ∨ (k < 98 + 30 * g + 3 * n ∨ 98 + 30 * g + 3 * n + 2 < k) by omega) with e | e | e | e
  · rw [ups_eq e]
    unfold rHld
    rw [show (k - 98 - 30 * g) / 3 = n by omega, cif_t ⟨by omega, by omega, h⟩, if_neg (by omega), if_neg (by omega)]
  · rw [ups_ne (by omega), ups_eq e]
    unfold rHld
    rw [show (k - 98 - 30 * g) / 3 = n by omega, cif_t ⟨by omega, by omega, h⟩, if_neg (by omega), if_pos (by omega)]
  · rw [ups_ne (by omega), ups_ne (by omega), ups_eq e]
    unfold rHld
    rw [show (k - 98 - 30 * g) / 3 = n by omega, cif_t ⟨by omega, by omega, h⟩, if_pos (by omega)]
  · rw [ups_ne (by omega), ups_ne (by omega), ups_ne (by omega)]
    unfold rHld
    exact cif_congr ⟨fun ⟨a, b, c⟩ => ⟨a, by omega, c⟩, fun ⟨a, b, c⟩ => ⟨a, by omega, c⟩⟩
theorem rHld_f {s : Int → Int} {g msk n : Int} {V F : Int → Int} (h : ¬ rBit msk n) : rHld s g msk n V F = rHld s g msk (n + 1) V F := by
  funext k
  unfold rHld
  refine cif_congr ⟨fun ⟨a, b, c⟩ => ⟨a, by omega, c⟩, fun ⟨a, b, c⟩ => ⟨a, ?_, c⟩⟩
  rcases (show k < 98 + 30 * g + 3 * n ∨ (k - 98 - 30 * g) / 3 = n by omega) with h1 | h1
  · exact h1
  · rw [h1] at c; exact absurd c h
noncomputable def rRelT (c : Int → Int) (g sl msk mis flg : Int) (V F : Int → Int) : Int → Int :=
  cif (g = 0) (rOut (ups (ups (rHld c g msk 10 V F) (8 + 10 * g + 6) (wr (rOf c g 6 + 1))) (8 + 10 * g + 9) sl) sl msk mis flg V F) (rSends (ups (ups (rHld c g msk 10 V F) (8 + 10 * g + 6) (wr (rOf c g 6 + 1))) (8 + 10 * g + 9) sl) g sl msk V F)
noncomputable def rRel (s : Int → Int) (g sl : Int) (r : Int → Option (Int × Int)) (V F : Int → Int) : Int → Int := rRelT (rClr s g sl (s 7)) g sl (rMsk s g r (s 1)) (rMis s g r (s 1)) (rFlg s g r (s 1)) V F
set_option maxRecDepth 20000 in
set_option maxHeartbeats 2000000 in
theorem tl_m_releases3 {d : Nat} {m : Nat} {h : HP} (hO : RO m h) {X : Nat → Int → Int} {c : Int → Int} (hs : RI c) {g sl msk mis flg : Int} (hg : 0 ≤ g ∧ g < c 0) (ha : g ≠ 0 → 0 ≤ rOf c g 5) (hsl : 0 ≤ sl ∧ sl ≤ 100000) (hd : 0 ≤ c 2 ∧ c 2 ≤ 100000 ∧ 0 ≤ rOf c g 3 ∧ rOf c g 3 ≤ 20) {z6 z7 : Option AV} {Q : HP → Prop} (K : Q (wX m h (setS X (rRelT c g sl msk mis flg (X 7) (X 8))))) : At (d + 6) 52 140 [some (.inr (some m)), some (.inl g), some (.inl sl), some (.inl msk), some (.inl mis), some (.inl flg), z6, z7] [] (wX m h (setS X (rHld c g msk 10 (X 7) (X 8)))) (fun v h' => v = none ∧ Q h') := by
  have hC : cod 52 = c_m_releases := rfl
  have h0 := hs.1
  have h7 := hs.2.2.1
  have h5 := hs.2.2.2.1
  unfold rRelT at K
  have eh : ∀ k, k < 98 → rHld c g msk 10 (X 7) (X 8) k = c k := fun k hk => rHld_out (by omega)
  have eh2 : ∀ k, 448 ≤ k → rHld c g msk 10 (X 7) (X 8) k = c k := fun k hk => rHld_out (by omega)
  generalize rHld c g msk 10 (X 7) (X 8) = t at *
  refine x_1 (p' := 141) hC rfl rfl rfl rfl ?_
  refine y_gR (p' := 142) (n := 1) hO hC rfl rfl rfl rfl ?_
  refine x_1 (p' := 143) hC rfl rfl rfl rfl ?_
  refine x_1 (p' := 144) hC rfl rfl rfl rfl ?_
  refine x_1 (p' := 145) hC rfl rfl rfl rfl ?_
  refine x_mul (p' := 146) hC rfl rfl rfl (⟨by omega, by omega⟩) ?_
  refine x_add (p' := 147) hC rfl rfl rfl (⟨by omega, by omega⟩) ?_
  refine x_1 (p' := 148) hC rfl rfl rfl rfl ?_
  refine x_add (p' := 149) hC rfl rfl rfl (⟨by omega, by omega⟩) ?_
  refine x_1 (p' := 150) hC rfl rfl rfl rfl ?_
  refine y_ld (p' := 151) (L := 15568) hO hC rfl rfl rfl rfl (by omega) (by omega) ?_
  rw [setS_1, show t (8 + 10 * g + 6) = rOf c g 6 from eh _ (by omega)]
  refine x_1 (p' := 152) hC rfl rfl rfl rfl ?_
  refine x_1 (p' := 153) hC rfl rfl rfl rfl ?_
  refine y_st (p' := 154) (L := 15568) hO hC rfl rfl rfl rfl (by omega) (by omega) ?_
  simp only [upX_1, setS_setS, setS_1]
  refine x_1 (p' := 155) hC rfl rfl rfl rfl ?_
  refine y_gR (p' := 156) (n := 1) hO hC rfl rfl rfl rfl ?_
  refine x_1 (p' := 157) hC rfl rfl rfl rfl ?_
  refine x_1 (p' := 158) hC rfl rfl rfl rfl ?_
  refine x_1 (p' := 159) hC rfl rfl rfl rfl ?_
  refine x_mul (p' := 160) hC rfl rfl rfl (⟨by omega, by omega⟩) ?_
  refine x_add (p' := 161) hC rfl rfl rfl (⟨by omega, by omega⟩) ?_
  refine x_1 (p' := 162) hC rfl rfl rfl rfl ?_
  refine x_add (p' := 163) hC rfl rfl rfl (⟨by omega, by omega⟩) ?_
  refine x_1 (p' := 164) hC rfl rfl rfl rfl ?_
  refine y_st (p' := 165) (L := 15568) hO hC rfl rfl rfl rfl (by omega) (by omega) ?_
  simp only [upX_1, setS_setS, setS_1]
  generalize ht2 : ups (ups t (8 + 10 * g + 6) (wr (rOf c g 6 + 1))) (8 + 10 * g + 9) sl = t2 at *
  have e2 : ∀ k, k < 98 → k ≠ 8 + 10 * g + 6 → k ≠ 8 + 10 * g + 9 → t2 k = c k := fun k h1 h2 h3 => by rw [← ht2, ups_ne h3, ups_ne h2, eh k h1]
  have hR2 : RI t2 := hs.congr (e2 0 (by omega) (by omega) (by omega)) (e2 1 (by omega) (by omega) (by omega)) (by rw [e2 7 (by omega) (by omega) (by omega)]; exact h7) (by rw [e2 5 (by omega) (by omega) (by omega)]; exact h5) (fun a _ _ => ⟨e2 _ (by omega) (by omega) (by omega), e2 _ (by omega) (by omega) (by omega)⟩) (fun u _ _ => ⟨e2 _ (by omega) (by omega) (by omega), e2 _ (by omega) (by omega) (by omega)⟩)
  have e22 := e2 2 (by omega) (by omega) (by omega)
  have e20 := e2 0 (by omega) (by omega) (by omega)
  have e23 : rOf t2 g 3 = rOf c g 3 := e2 _ (by omega) (by omega) (by omega)
  have e25 : rOf t2 g 5 = rOf c g 5 := e2 _ (by omega) (by omega) (by omega)
  refine x_1 (p' := 166) hC rfl rfl rfl rfl ?_
  refine x_ifne (p' := 167) hC rfl rfl (fun c166 => ?_) (fun c166 => ?_)
  · refine x_1 (p' := 175) hC rfl rfl rfl rfl ?_
    refine x_1 (p' := 176) hC rfl rfl rfl rfl ?_
    refine x_1 (p' := 177) hC rfl rfl rfl rfl ?_
    refine x_1 (p' := 178) hC rfl rfl rfl rfl ?_
    refine x_cVV3 (p' := 179) (n := 51) hC rfl rfl rfl rfl rfl (hO.ty) ?_
    refine sp_m_sends hO (by rw [setS_1]; exact hR2) (by rw [setS_1, e20]; exact hg) (by rw [setS_1, e25]; exact ha (by omega)) hsl (by rw [setS_1, e22, e23]; exact hd) ?_
    rw [setS_1, setS_setS, setS_ne (by decide), setS_ne (by decide)]
    refine x_ret hC rfl rfl rfl ⟨rfl, ?_⟩
    first
      | (rw [cif_t (by omega)] at K; exact K)
      | (rw [cif_f (by omega)] at K; exact K)
  · refine x_1 (p' := 168) hC rfl rfl rfl rfl ?_
    refine x_1 (p' := 169) hC rfl rfl rfl rfl ?_
    refine x_1 (p' := 170) hC rfl rfl rfl rfl ?_
    refine x_1 (p' := 171) hC rfl rfl rfl rfl ?_
    refine x_1 (p' := 172) hC rfl rfl rfl rfl ?_
    refine x_cVV4 (p' := 173) (n := 50) hC rfl rfl rfl rfl rfl (hO.ty) ?_
    refine sp_m_outs hO (by rw [setS_1]; exact hR2) (by rw [setS_1, e22]; omega) hsl ?_
    rw [setS_1, setS_setS, setS_ne (by decide), setS_ne (by decide)]
    refine x_1 (p' := 179) hC rfl rfl rfl rfl ?_
    refine x_ret hC rfl rfl rfl ⟨rfl, ?_⟩
    first
      | (rw [cif_t (by omega)] at K; exact K)
      | (rw [cif_f (by omega)] at K; exact K)
set_option maxRecDepth 20000 in
theorem lp_m_releases3 {d : Nat} {m : Nat} {h : HP} (hO : RO m h) {X : Nat → Int → Int} {c : Int → Int} (hs : RI c) {g sl msk mis flg : Int} (hg : 0 ≤ g ∧ g < c 0) (ha : g ≠ 0 → 0 ≤ rOf c g 5) (hsl : 0 ≤ sl ∧ sl ≤ 100000) (hd : 0 ≤ c 2 ∧ c 2 ≤ 100000 ∧ 0 ≤ rOf c g 3 ∧ rOf c g 3 ≤ 20) {z7 : Option AV} {Q : HP → Prop} (K : Q (wX m h (setS X (rRelT c g sl msk mis flg (X 7) (X 8))))) (k : Nat) : ∀ (u : Int), (10 - u).toNat < k → (0 ≤ u ∧ u ≤ 10) → At (d + 6) 52 79 [some (.inr (some m)), some (.inl g), some (.inl sl), some (.inl msk), some (.inl mis), some (.inl flg), some (.inl u), z7] [] (wX m h (setS X (rHld c g msk u (X 7) (X 8)))) (fun v h' => v = none ∧ Q h') := by
  have hC : cod 52 = c_m_releases := rfl
  induction k with
  | zero =>
    intro u hk
    exact absurd hk (Nat.not_lt_zero _)
  | succ k ih =>
    intro u hk hI0
    have h0 := hs.1
    refine x_1 (p' := 80) hC rfl rfl rfl rfl ?_
    refine x_1 (p' := 81) hC rfl rfl rfl rfl ?_
    refine x_icge (p' := 82) hC rfl rfl (fun c81 => ?_) (fun c81 => ?_)
    · rw [show u = 10 by omega]
      exact tl_m_releases3 hO hs hg ha hsl hd K
    · refine x_1 (p' := 83) hC rfl rfl rfl rfl ?_
      refine x_1 (p' := 84) hC rfl rfl rfl rfl ?_
      refine x_1 (p' := 85) hC rfl rfl rfl rfl ?_
      refine x_1 (p' := 86) hC rfl rfl rfl rfl ?_
      refine x_1 (p' := 87) hC rfl rfl rfl rfl ?_
      refine x_1 (p' := 88) hC rfl rfl rfl rfl ?_
      refine x_icne (p' := 89) hC rfl rfl (fun c88 => ?_) (fun c88 => ?_)
      · refine x_inc6 (p' := 139) hC rfl rfl (⟨by omega, by omega⟩) ?_
        refine x_1 (p' := 79) hC rfl rfl rfl rfl ?_
        first
          | (rw [rHld_t (by omega) (by unfold rBit; omega)]; exact ih _ (by omega) (by omega))
          | (rw [rHld_f (by unfold rBit; omega)]; exact ih _ (by omega) (by omega))
      · refine x_1 (p' := 90) hC rfl rfl rfl rfl ?_
        refine y_gR (p' := 91) (n := 1) hO hC rfl rfl rfl rfl ?_
        refine x_1 (p' := 92) hC rfl rfl rfl rfl ?_
        refine x_1 (p' := 93) hC rfl rfl rfl rfl ?_
        refine x_1 (p' := 94) hC rfl rfl rfl rfl ?_
        refine x_mul (p' := 95) hC rfl rfl rfl (⟨by omega, by omega⟩) ?_
        refine x_add (p' := 96) hC rfl rfl rfl (⟨by omega, by omega⟩) ?_
        refine x_1 (p' := 97) hC rfl rfl rfl rfl ?_
        refine x_1 (p' := 98) hC rfl rfl rfl rfl ?_
        refine x_mul (p' := 99) hC rfl rfl rfl (⟨by omega, by omega⟩) ?_
        refine x_add (p' := 100) hC rfl rfl rfl (⟨by omega, by omega⟩) ?_
        refine x_1 (p' := 101) hC rfl rfl rfl rfl ?_
        refine y_st (p' := 102) (L := 15568) hO hC rfl rfl rfl rfl (by omega) (by omega) ?_
        simp only [upX_1, setS_setS, setS_1]
        refine x_1 (p' := 103) hC rfl rfl rfl rfl ?_
        refine y_gR (p' := 104) (n := 1) hO hC rfl rfl rfl rfl ?_
        refine x_1 (p' := 105) hC rfl rfl rfl rfl ?_
        refine x_1 (p' := 106) hC rfl rfl rfl rfl ?_
        refine x_1 (p' := 107) hC rfl rfl rfl rfl ?_
        refine x_mul (p' := 108) hC rfl rfl rfl (⟨by omega, by omega⟩) ?_
        refine x_add (p' := 109) hC rfl rfl rfl (⟨by omega, by omega⟩) ?_
        refine x_1 (p' := 110) hC rfl rfl rfl rfl ?_
        refine x_1 (p' := 111) hC rfl rfl rfl rfl ?_
        refine x_mul (p' := 112) hC rfl rfl rfl (⟨by omega, by omega⟩) ?_
        refine x_add (p' := 113) hC rfl rfl rfl (⟨by omega, by omega⟩) ?_
        refine x_1 (p' := 114) hC rfl rfl rfl rfl ?_
        refine x_add (p' := 115) hC rfl rfl rfl (⟨by omega, by omega⟩) ?_
        refine x_1 (p' := 116) hC rfl rfl rfl rfl ?_
        refine y_gR (p' := 117) (n := 7) hO hC rfl rfl rfl rfl ?_
        refine x_1 (p' := 118) hC rfl rfl rfl rfl ?_
        refine y_ld (p' := 119) (L := 10) hO hC rfl rfl rfl rfl (by omega) (by omega) ?_
        rw [setS_ne (by decide)]
        refine y_st (p' := 120) (L := 15568) hO hC rfl rfl rfl rfl (by omega) (by omega) ?_
        simp only [upX_1, setS_setS, setS_1]
        refine x_1 (p' := 121) hC rfl rfl rfl rfl ?_
        refine y_gR (p' := 122) (n := 1) hO hC rfl rfl rfl rfl ?_
        refine x_1 (p' := 123) hC rfl rfl rfl rfl ?_
        refine x_1 (p' := 124) hC rfl rfl rfl rfl ?_
        refine x_1 (p' := 125) hC rfl rfl rfl rfl ?_
        refine x_mul (p' := 126) hC rfl rfl rfl (⟨by omega, by omega⟩) ?_
        refine x_add (p' := 127) hC rfl rfl rfl (⟨by omega, by omega⟩) ?_
        refine x_1 (p' := 128) hC rfl rfl rfl rfl ?_
        refine x_1 (p' := 129) hC rfl rfl rfl rfl ?_
        refine x_mul (p' := 130) hC rfl rfl rfl (⟨by omega, by omega⟩) ?_
        refine x_add (p' := 131) hC rfl rfl rfl (⟨by omega, by omega⟩) ?_
        refine x_1 (p' := 132) hC rfl rfl rfl rfl ?_
        refine x_add (p' := 133) hC rfl rfl rfl (⟨by omega, by omega⟩) ?_
        refine x_1 (p' := 134) hC rfl rfl rfl rfl ?_
        refine y_gR (p' := 135) (n := 8) hO hC rfl rfl rfl rfl ?_
        refine x_1 (p' := 136) hC rfl rfl rfl rfl ?_
        refine y_ld (p' := 137) (L := 10) hO hC rfl rfl rfl rfl (by omega) (by omega) ?_
        rw [setS_ne (by decide)]
        refine y_st (p' := 138) (L := 15568) hO hC rfl rfl rfl rfl (by omega) (by omega) ?_
        simp only [upX_1, setS_setS, setS_1]
        refine x_inc6 (p' := 139) hC rfl rfl (⟨by omega, by omega⟩) ?_
        refine x_1 (p' := 79) hC rfl rfl rfl rfl ?_
        first
          | (rw [rHld_t (by omega) (by unfold rBit; omega)]; exact ih _ (by omega) (by omega))
          | (rw [rHld_f (by unfold rBit; omega)]; exact ih _ (by omega) (by omega))

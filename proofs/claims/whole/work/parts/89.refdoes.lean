/-! the reference's face: orders, done -/
/-- only the row and the scratch rows differ -/
def FrX (X Y : Nat → Int → Int) : Prop := ∀ i j, i ≠ 1 → i ≠ 7 → i ≠ 8 → i ≠ 9 → ¬ (i = 0 ∧ j = 13) → Y i j = X i j
theorem FrX.refl {X : Nat → Int → Int} : FrX X X := fun _ _ _ _ _ _ _ => rfl
theorem FrX.trans {X Y Z : Nat → Int → Int} (a : FrX X Y) (b : FrX Y Z) : FrX X Z := fun i j h1 h2 h3 h4 h5 => (b i j h1 h2 h3 h4 h5).trans (a i j h1 h2 h3 h4 h5)
theorem FrX.setS {X : Nat → Int → Int} {s : Int → Int} : FrX X (setS X s) := fun i j h1 _ _ _ _ => congrFun (setS_ne h1) j
/-- a tick, done from any row that is Gd, makes a row that Tk relates to it -/
def TKH (d m : Nat) (h : HP) (Tk : (Int → Int) → (Int → Int) → Prop) (Gd : (Int → Int) → Prop) : Prop := ∀ X : Nat → Int → Int, Gd (X 1) → X 1 2 < 30000 → ∀ {Q : HP → Prop}, (∀ X', FrX X X' → Tk (X 1) (X' 1) → X' 1 2 = X 1 2 + 1 → Gd (X' 1) → Q (wX m h X')) → CaV (d + 8) 55 [.inr (some m)] (wX m h X) Q
/-- n ticks -/
def TkN (Tk : (Int → Int) → (Int → Int) → Prop) : Nat → (Int → Int) → (Int → Int) → Prop
  | 0, s, s' => s' = s
  | n + 1, s, s' => ∃ t, TkN Tk n s t ∧ Tk t s'
def RSendS (s : Int → Int) (u st w fl del v : Int) (s' : Int → Int) : Prop := (¬ okSend s u st w fl del ∧ v = -1000001 ∧ s' = s) ∨ (okSend s u st w fl del ∧ ¬ poSend s u st ∧ v = -1000002 ∧ s' = s) ∨ (okSend s u st w fl del ∧ poSend s u st ∧ 40 ≤ rAllWay s ∧ v = -1000003 ∧ s' = s) ∨ (okSend s u st w fl del ∧ poSend s u st ∧ rAllWay s < 40 ∧ v = rAllWay s' ∧ s' = rOne (rFreed s) (rFree s) u st w fl del)
theorem RSend.s {X Y : Nat → Int → Int} {u st w fl del v : Int} (h : RSend X u st w fl del v Y) : FrX X Y ∧ RSendS (X 1) u st w fl del v (Y 1) := by
  rcases h with ⟨a, b, rfl⟩ | ⟨a, b, c, rfl⟩ | ⟨a, b, c, e, rfl⟩ | ⟨a, b, c, e, rfl⟩
  · exact ⟨FrX.refl, Or.inl ⟨a, b, rfl⟩⟩
  · exact ⟨FrX.refl, Or.inr (Or.inl ⟨a, b, c, rfl⟩)⟩
  · exact ⟨FrX.refl, Or.inr (Or.inr (Or.inl ⟨a, b, c, e, rfl⟩))⟩
  · refine ⟨FrX.setS, ?_⟩
    rw [setS_1]
    exact Or.inr (Or.inr (Or.inr ⟨a, b, c, e, rfl⟩))
def RTakeS (s : Int → Int) (u v : Int) (s' : Int → Int) : Prop := (¬ isU s u ∧ v = -1000001 ∧ s' = s) ∨ (isU s u ∧ ¬ rIts s u 2 = 0 ∧ v = -1000002 ∧ s' = s) ∨ (isU s u ∧ rIts s u 2 = 0 ∧ v = rOn s' ∧ s' = ups s (58 + 4 * u + 2) 1)
theorem RTake.s {X Y : Nat → Int → Int} {u v : Int} (h : RTake X u v Y) : FrX X Y ∧ RTakeS (X 1) u v (Y 1) := by
  rcases h with ⟨a, b, rfl⟩ | ⟨a, b, c, rfl⟩ | ⟨a, b, c, rfl⟩
  · exact ⟨FrX.refl, Or.inl ⟨a, b, rfl⟩⟩
  · exact ⟨FrX.refl, Or.inr (Or.inl ⟨a, b, c, rfl⟩)⟩
  · refine ⟨FrX.setS, ?_⟩
    rw [setS_1]
    exact Or.inr (Or.inr ⟨a, b, c, rfl⟩)
def RPassS (Tk : (Int → Int) → (Int → Int) → Prop) (s : Int → Int) (n v : Int) (s' : Int → Int) : Prop := (¬ (1 ≤ n ∧ n ≤ 100) ∧ v = -1000001 ∧ s' = s) ∨ ((1 ≤ n ∧ n ≤ 100) ∧ 20000 < s 2 + n ∧ v = -1000003 ∧ s' = s) ∨ ((1 ≤ n ∧ n ≤ 100) ∧ s 2 + n ≤ 20000 ∧ (∃ k : Nat, (k : Int) = n ∧ TkN Tk k s s') ∧ v = s' 2)
theorem sp_m_passes3 {d m : Nat} {h : HP} (hO : RO m h) {Tk : (Int → Int) → (Int → Int) → Prop} {Gd : (Int → Int) → Prop} (hT : TKH d m h Tk Gd) {X : Nat → Int → Int} (hG : Gd (X 1)) (ht : 0 ≤ X 1 2 ∧ X 1 2 ≤ 100000) {n : Int} {Q : Int → HP → Prop} (K : ∀ v Y, FrX X Y → RPassS Tk (X 1) n v (Y 1) → Q v (wX m h Y)) : CaI (d + 9) 59 [.inr (some m), .inl n] (wX m h X) Q := by
  refine sp_m_passes2 hO (PT := fun i Z => (X 1 2 + n ≤ 20000 ∧ Z 1 2 = X 1 2 + i) ∧ ∃ k : Nat, (k : Int) = i ∧ TkN Tk k (X 1) (Z 1) ∧ Gd (Z 1) ∧ FrX X Z) (fun i Z hp h0 h1 Q' K' => ?_) ht (fun _ q => ⟨⟨q, by omega⟩, 0, rfl, rfl, hG, FrX.refl⟩) (fun v Y hv => ?_)
  · obtain ⟨⟨q, q2⟩, k, hk, ht, hg, hf⟩ := hp
    exact hT Z hg (by omega) (fun X' f t t2 g => K' X' ⟨⟨q, by omega⟩, k + 1, by omega, ⟨_, ht, t⟩, g, hf.trans f⟩)
  · rcases hv with ⟨a, b, rfl⟩ | ⟨a, b, c, rfl⟩ | ⟨a, ⟨⟨b, _⟩, k, hk, ht, hg, hf⟩, c⟩
    · exact K _ _ FrX.refl (Or.inl ⟨a, b, rfl⟩)
    · exact K _ _ FrX.refl (Or.inr (Or.inl ⟨a, b, c, rfl⟩))
    · exact K _ _ hf (Or.inr (Or.inr ⟨a, b, ⟨k, hk, ht⟩, c⟩))
/-- an order, done -/
def DoesS (Tk : (Int → Int) → (Int → Int) → Prop) (s : Int → Int) (c n0 n1 n2 v : Int) (s' : Int → Int) : Prop := (c = 109 ∧ RSendS s n0 n1 n2 0 1 v s') ∨ (c = 112 ∧ RPassS Tk s n0 v s') ∨ (¬ c = 109 ∧ ¬ c = 112 ∧ RTakeS s n0 v s')
theorem DoesS.congr {Tk : (Int → Int) → (Int → Int) → Prop} {s s' : Int → Int} {c n0 n1 n2 a0 a1 a2 v : Int} (h : DoesS Tk s c a0 a1 a2 v s') (h0 : a0 = n0) (h1 : c = 109 → a1 = n1 ∧ a2 = n2) : DoesS Tk s c n0 n1 n2 v s' := by
  subst h0
  rcases h with ⟨a, b⟩ | b | b
  · obtain ⟨rfl, rfl⟩ := h1 a
    exact Or.inl ⟨a, b⟩
  · exact Or.inr (Or.inl b)
  · exact Or.inr (Or.inr b)
def RForm (B : Nat → Int → Int) (A c v : Int) (Y : Nat → Int → Int) : Prop := YK B Y ∧ ((v = 1 ∧ ∃ n0 n1 n2, OrdIs (B 5) (B 0 6) A c n0 n1 n2 (Y 0 7) ∧ Y 6 0 = n0 ∧ (c = 109 → Y 6 1 = n1 ∧ Y 6 2 = n2)) ∨ (v = 0 ∧ (∀ n0 n1 n2 nx, ¬ OrdIs (B 5) (B 0 6) A c n0 n1 n2 nx) ∧ 0 ≤ Y 0 7 ∧ Y 0 7 ≤ B 0 6))
theorem sp_m_readsForm2 {d : Nat} {m : Nat} {h : HP} (hO : RO m h)  {B : Nat → Int → Int} {A c : Int} (hc : B 5 A = c) (hA : 0 ≤ A ∧ A < B 0 6) (hB7 : B 0 7 = A + 1) (hLL : 0 ≤ B 0 6 ∧ B 0 6 ≤ 60) (hcr : -2147483648 ≤ c ∧ c ≤ 2147483647) {Q : Int → HP → Prop} (K : ∀ v Y, RForm B A c v Y → Q v (wX m h Y)) : CaI (d + 2) 75 [.inr (some m), .inl c] (wX m h B) Q :=
  sp_m_readsForm hO hc hA hB7 hLL hcr (fun n0 n1 n2 nx O Y k e7 e0 e1 => K _ _ ⟨k, Or.inl ⟨rfl, n0, n1, n2, e7 ▸ O, e0, e1⟩⟩) (fun O Y k r => K _ _ ⟨k, Or.inr ⟨rfl, O, r⟩⟩)
set_option maxRecDepth 20000 in
set_option maxHeartbeats 2000000 in
theorem sp_m_pass {d : Nat} {m : Nat} {h : HP} (hO : RO m h) {X : Nat → Int → Int} {Tk : (Int → Int) → (Int → Int) → Prop} {Gd : (Int → Int) → Prop} (hT : TKH d m h Tk Gd) (hGd : ∀ s, Gd s → RI s ∧ 0 ≤ s 2 ∧ s 2 ≤ 100000) (hG : Gd (X 1)) (hq : 0 ≤ X 0 4 ∧ X 0 4 ≤ 4) {n : Int} {Q : Int → HP → Prop} (K : ∀ v Y, FrX (bgX X) Y → RPassS Tk (X 1) n v (Y 1) → Q v (wX m h (aX v Y))) : CaI (d + 10) 60 [.inr (some m), .inl n] (wX m h X) Q := by
  have hC : cod 60 = c_m_pass := rfl
  refine CaI.start rfl ?_
  refine x_1 (p' := 1) hC rfl rfl rfl rfl ?_
  refine x_cVV0 (p' := 2) (n := 10) hC rfl rfl rfl rfl rfl (hO.ty) ?_
  refine sp_m_keeps hO ?_
  refine x_1 (p' := 3) hC rfl rfl rfl rfl ?_
  refine x_1 (p' := 4) hC rfl rfl rfl rfl ?_
  refine x_1 (p' := 5) hC rfl rfl rfl rfl ?_
  refine x_cIV1 (p' := 6) (n := 59) hC rfl rfl rfl rfl rfl (hO.ty) ?_
  refine sp_m_passes3 hO hT (X := bgX X) (by rw [bgX_1]; exact hG) (by rw [bgX_1]; exact (hGd _ hG).2) ?_
  intro v Y hf hv
  refine x_cIV1 (p' := 7) (n := 11) hC rfl rfl rfl rfl rfl (hO.ty) ?_
  refine sp_m_acted2 hO (by rw [hf 0 4 (by decide) (by decide) (by decide) (by decide) (by decide), bgX_0]; exact hq) ?_
  refine x_iret hC rfl rfl rfl ⟨_, rfl, ?_⟩
  exact K v Y hf (bgX_1 (X := X) ▸ hv)
set_option maxRecDepth 20000 in
set_option maxHeartbeats 2000000 in
theorem sp_m_does {d : Nat} {m : Nat} {h : HP} (hO : RO m h) {X : Nat → Int → Int} {Tk : (Int → Int) → (Int → Int) → Prop} {Gd : (Int → Int) → Prop} (hT : TKH d m h Tk Gd) (hGd : ∀ s, Gd s → RI s ∧ 0 ≤ s 2 ∧ s 2 ≤ 100000) (hG : Gd (X 1)) {c : Int} {Q : Int → HP → Prop} (K : ∀ v Y, FrX X Y → DoesS Tk (X 1) c (X 6 0) (X 6 1) (X 6 2) v (Y 1) → Q v (wX m h Y)) : CaI (d + 10) 76 [.inr (some m), .inl c] (wX m h X) Q := by
  have hC : cod 76 = c_m_does := rfl
  refine CaI.start rfl ?_
  obtain ⟨hs, ht⟩ := hGd _ hG
  refine x_1 (p' := 1) hC rfl rfl rfl rfl ?_
  refine x_1 (p' := 2) hC rfl rfl rfl rfl ?_
  refine x_icne (p' := 3) hC rfl rfl (fun c2 => ?_) (fun c2 => ?_)
  · refine x_1 (p' := 21) hC rfl rfl rfl rfl ?_
    refine x_1 (p' := 22) hC rfl rfl rfl rfl ?_
    refine x_icne (p' := 23) hC rfl rfl (fun c22 => ?_) (fun c22 => ?_)
    · refine x_1 (p' := 31) hC rfl rfl rfl rfl ?_
      refine x_1 (p' := 32) hC rfl rfl rfl rfl ?_
      refine y_gR (p' := 33) (n := 6) hO hC rfl rfl rfl rfl ?_
      refine x_1 (p' := 34) hC rfl rfl rfl rfl ?_
      refine y_ld (p' := 35) (L := 3) hO hC rfl rfl rfl rfl (by omega) (by omega) ?_
      refine x_cIV1 (p' := 36) (n := 23) hC rfl rfl rfl rfl rfl (hO.ty) ?_
      refine sp_m_takesOff2 hO hs (fun v Y hv => ?_)
      refine x_iret hC rfl rfl rfl ⟨_, rfl, ?_⟩
      first
        | exact K v Y hv.s.1 (Or.inl ⟨by omega, hv.s.2⟩)
        | exact K v Y hf (Or.inr (Or.inl ⟨by omega, hv⟩))
        | exact K v Y hv.s.1 (Or.inr (Or.inr ⟨by omega, by omega, hv.s.2⟩))
    · refine x_1 (p' := 24) hC rfl rfl rfl rfl ?_
      refine x_1 (p' := 25) hC rfl rfl rfl rfl ?_
      refine y_gR (p' := 26) (n := 6) hO hC rfl rfl rfl rfl ?_
      refine x_1 (p' := 27) hC rfl rfl rfl rfl ?_
      refine y_ld (p' := 28) (L := 3) hO hC rfl rfl rfl rfl (by omega) (by omega) ?_
      refine x_cIV1 (p' := 29) (n := 59) hC rfl rfl rfl rfl rfl (hO.ty) ?_
      refine sp_m_passes3 hO hT hG ht (fun v Y hf hv => ?_)
      refine x_1 (p' := 36) hC rfl rfl rfl rfl ?_
      refine x_iret hC rfl rfl rfl ⟨_, rfl, ?_⟩
      first
        | exact K v Y hv.s.1 (Or.inl ⟨by omega, hv.s.2⟩)
        | exact K v Y hf (Or.inr (Or.inl ⟨by omega, hv⟩))
        | exact K v Y hv.s.1 (Or.inr (Or.inr ⟨by omega, by omega, hv.s.2⟩))
  · refine x_1 (p' := 4) hC rfl rfl rfl rfl ?_
    refine x_1 (p' := 5) hC rfl rfl rfl rfl ?_
    refine y_gR (p' := 6) (n := 6) hO hC rfl rfl rfl rfl ?_
    refine x_1 (p' := 7) hC rfl rfl rfl rfl ?_
    refine y_ld (p' := 8) (L := 3) hO hC rfl rfl rfl rfl (by omega) (by omega) ?_
    refine x_1 (p' := 9) hC rfl rfl rfl rfl ?_
    refine y_gR (p' := 10) (n := 6) hO hC rfl rfl rfl rfl ?_
    refine x_1 (p' := 11) hC rfl rfl rfl rfl ?_
    refine y_ld (p' := 12) (L := 3) hO hC rfl rfl rfl rfl (by omega) (by omega) ?_
    refine x_1 (p' := 13) hC rfl rfl rfl rfl ?_
    refine y_gR (p' := 14) (n := 6) hO hC rfl rfl rfl rfl ?_
    refine x_1 (p' := 15) hC rfl rfl rfl rfl ?_
    refine y_ld (p' := 16) (L := 3) hO hC rfl rfl rfl rfl (by omega) (by omega) ?_
    refine x_1 (p' := 17) hC rfl rfl rfl rfl ?_
    refine x_1 (p' := 18) hC rfl rfl rfl rfl ?_
    refine x_cIV5 (p' := 19) (n := 57) hC rfl rfl rfl rfl rfl (hO.ty) ?_
    refine sp_m_sendsOne2 hO hs ht (fun v Y hv => ?_)
    refine x_1 (p' := 36) hC rfl rfl rfl rfl ?_
    refine x_iret hC rfl rfl rfl ⟨_, rfl, ?_⟩
    first
      | exact K v Y hv.s.1 (Or.inl ⟨by omega, hv.s.2⟩)
      | exact K v Y hf (Or.inr (Or.inl ⟨by omega, hv⟩))
      | exact K v Y hv.s.1 (Or.inr (Or.inr ⟨by omega, by omega, hv.s.2⟩))
/-- all but the row, the numbers, the scratch and the place stays -/
def KZ (X Z : Nat → Int → Int) : Prop := ∀ i j, i ≠ 1 → i ≠ 6 → i ≠ 7 → i ≠ 8 → i ≠ 9 → ¬ (i = 0 ∧ j = 7) → ¬ (i = 0 ∧ j = 13) → Z i j = X i j
def RNext (Tk : (Int → Int) → (Int → Int) → Prop) (X : Nat → Int → Int) (r : Int) (Z : Nat → Int → Int) : Prop := KZ X Z ∧ (0 ≤ Z 0 7 ∧ Z 0 7 ≤ X 0 6) ∧
  ((r = 1 ∧ (∀ n0 n1 n2 nx, ¬ OrdIs (X 5) (X 0 6) (X 0 7) (X 5 (X 0 7)) n0 n1 n2 nx) ∧ Z 1 = X 1) ∨
   ∃ n0 n1 n2, OrdIs (X 5) (X 0 6) (X 0 7) (X 5 (X 0 7)) n0 n1 n2 (Z 0 7) ∧
    ((r = 2 ∧ ¬ X 5 (X 0 7) = 112 ∧ ¬ (0 ≤ n0 ∧ n0 ≤ X 1 1 - 1) ∧ Z 1 = X 1) ∨
     ((X 5 (X 0 7) = 112 ∨ (0 ≤ n0 ∧ n0 ≤ X 1 1 - 1)) ∧ ∃ v, DoesS Tk (X 1) (X 5 (X 0 7)) n0 n1 n2 v (Z 1) ∧ ((r = 3 ∧ v ≤ -1000001) ∨ (r = 0 ∧ -1000001 < v)))))
set_option maxRecDepth 20000 in
set_option maxHeartbeats 2000000 in
theorem sp_m_doesNext {d : Nat} {m : Nat} {h : HP} (hO : RO m h) {X : Nat → Int → Int} {Tk : (Int → Int) → (Int → Int) → Prop} {Gd : (Int → Int) → Prop} (hT : TKH d m h Tk Gd) (hGd : ∀ s, Gd s → RI s ∧ 0 ≤ s 2 ∧ s 2 ≤ 100000) (hG : Gd (X 1)) (hL : 0 ≤ X 0 6 ∧ X 0 6 ≤ 60) (hA : 0 ≤ X 0 7 ∧ X 0 7 < X 0 6) (htx : -2147483648 ≤ X 5 (X 0 7) ∧ X 5 (X 0 7) ≤ 2147483647) {Q : Int → HP → Prop} (K : ∀ r Z, RNext Tk X r Z → Q r (wX m h Z)) : CaI (d + 11) 77 [.inr (some m)] (wX m h X) Q := by
  have hC : cod 77 = c_m_doesNext := rfl
  refine CaI.start rfl ?_
  obtain ⟨hs, ht⟩ := hGd _ hG
  have b5 : upX X 0 7 (X 0 7 + 1) 5 = X 5 := upX_ne (by decide)
  have b6 : upX X 0 7 (X 0 7 + 1) 0 6 = X 0 6 := by unfold upX; rw [if_neg (by decide)]
  have b7 : upX X 0 7 (X 0 7 + 1) 0 7 = X 0 7 + 1 := by unfold upX; rw [if_pos ⟨rfl, rfl⟩]
  have b1 : upX X 0 7 (X 0 7 + 1) 1 = X 1 := upX_ne (by decide)
  have bk : ∀ i j, ¬ (i = 0 ∧ j = 7) → upX X 0 7 (X 0 7 + 1) i j = X i j := fun i j q => by unfold upX; rw [if_neg q]
  refine x_1 (p' := 1) hC rfl rfl rfl rfl ?_
  refine y_gR (p' := 2) (n := 5) hO hC rfl rfl rfl rfl ?_
  refine x_1 (p' := 3) hC rfl rfl rfl rfl ?_
  refine y_gI (p' := 4) (kz := 7) hO hC rfl rfl rfl rfl ?_
  refine y_cld (p' := 5) hO hC rfl rfl rfl (by omega) (by omega) ?_
  refine x_stI1 (p' := 6) hC rfl rfl rfl ?_
  refine x_1 (p' := 7) hC rfl rfl rfl rfl ?_
  refine x_1 (p' := 8) hC rfl rfl rfl rfl ?_
  refine y_gI (p' := 9) (kz := 7) hO hC rfl rfl rfl rfl ?_
  refine x_1 (p' := 10) hC rfl rfl rfl rfl ?_
  refine x_add (p' := 11) hC rfl rfl rfl (⟨by omega, by omega⟩) ?_
  refine y_pI (p' := 12) (kz := 7) hO hC rfl rfl rfl rfl ?_
  refine x_1 (p' := 13) hC rfl rfl rfl rfl ?_
  refine x_1 (p' := 14) hC rfl rfl rfl rfl ?_
  refine x_cIV1 (p' := 15) (n := 75) hC rfl rfl rfl rfl rfl (hO.ty) ?_
  refine sp_m_readsForm2 hO (B := upX X 0 7 (X 0 7 + 1)) (A := X 0 7) (by rw [b5]) (by rw [b6]; exact hA) b7 (by rw [b6]; exact hL) htx (fun v1 Y hF => ?_)
  obtain ⟨hyk, hF⟩ := hF
  have y1 : Y 1 = X 1 := by
    rw [← b1]
    exact funext fun j => hyk 1 j (fun q => absurd q.1 (by decide)) (by decide)
  rw [b5, b6] at hF
  refine x_ifne (p' := 16) hC rfl rfl (fun c15 => ?_) (fun c15 => ?_)
  · obtain ⟨v0, n0, n1, n2, O, e0, e1⟩ := hF.resolve_right (fun q => by omega)
    have ol := O.lt
    refine x_1 (p' := 19) hC rfl rfl rfl rfl ?_
    refine x_1 (p' := 20) hC rfl rfl rfl rfl ?_
    refine x_iceq (p' := 21) hC rfl rfl (fun c20 => ?_) (fun c20 => ?_)
    · refine x_1 (p' := 31) hC rfl rfl rfl rfl ?_
      refine x_1 (p' := 32) hC rfl rfl rfl rfl ?_
      refine x_cIV1 (p' := 33) (n := 76) hC rfl rfl rfl rfl rfl (hO.ty) ?_
      refine sp_m_does hO hT hGd (by rw [y1]; exact hG) (fun v Z hf hv => ?_)
      rw [y1] at hv
      refine x_ldc (p' := 34) (v := (-1000001)) hC rfl rfl (by decide) ?_
      refine x_icgt (p' := 35) hC rfl rfl (fun c34 => ?_) (fun c34 => ?_)
      · refine x_1 (p' := 38) hC rfl rfl rfl rfl ?_
        refine x_iret hC rfl rfl rfl ⟨_, rfl, ?_⟩
        first
          | (refine K _ Y ⟨fun i j h1 h2 h3 h4 h5 h6 _ => (hyk i j h6 h2).trans (bk i j h6), y7, Or.inl ⟨rfl, O, y1⟩⟩)
          | (refine K _ Y ⟨fun i j h1 h2 h3 h4 h5 h6 _ => (hyk i j h6 h2).trans (bk i j h6), by omega, Or.inr ⟨n0, n1, n2, O, Or.inl ⟨rfl, by omega, by rw [← e0]; assumption, y1⟩⟩⟩)
          | (have z7 : Z 0 7 = Y 0 7 := hf 0 7 (by decide) (by decide) (by decide) (by decide) (by decide)
             rw [← z7] at O
             refine K _ Z ⟨fun i j h1 h2 h3 h4 h5 h6 h7 => (hf i j h1 h3 h4 h5 h7).trans ((hyk i j h6 h2).trans (bk i j h6)), by omega, Or.inr ⟨n0, n1, n2, O, Or.inr ⟨?_, v, hv.congr e0 e1, ?_⟩⟩⟩
             · first
               | exact Or.inl (by omega)
               | (refine Or.inr ?_
                  rw [← e0]
                  assumption)
             · first
               | exact Or.inl ⟨rfl, by omega⟩
               | exact Or.inr ⟨rfl, by omega⟩)
      · refine x_1 (p' := 36) hC rfl rfl rfl rfl ?_
        refine x_1 (p' := 38) hC rfl rfl rfl rfl ?_
        refine x_iret hC rfl rfl rfl ⟨_, rfl, ?_⟩
        first
          | (refine K _ Y ⟨fun i j h1 h2 h3 h4 h5 h6 _ => (hyk i j h6 h2).trans (bk i j h6), y7, Or.inl ⟨rfl, O, y1⟩⟩)
          | (refine K _ Y ⟨fun i j h1 h2 h3 h4 h5 h6 _ => (hyk i j h6 h2).trans (bk i j h6), by omega, Or.inr ⟨n0, n1, n2, O, Or.inl ⟨rfl, by omega, by rw [← e0]; assumption, y1⟩⟩⟩)
          | (have z7 : Z 0 7 = Y 0 7 := hf 0 7 (by decide) (by decide) (by decide) (by decide) (by decide)
             rw [← z7] at O
             refine K _ Z ⟨fun i j h1 h2 h3 h4 h5 h6 h7 => (hf i j h1 h3 h4 h5 h7).trans ((hyk i j h6 h2).trans (bk i j h6)), by omega, Or.inr ⟨n0, n1, n2, O, Or.inr ⟨?_, v, hv.congr e0 e1, ?_⟩⟩⟩
             · first
               | exact Or.inl (by omega)
               | (refine Or.inr ?_
                  rw [← e0]
                  assumption)
             · first
               | exact Or.inl ⟨rfl, by omega⟩
               | exact Or.inr ⟨rfl, by omega⟩)
    · refine x_1 (p' := 22) hC rfl rfl rfl rfl ?_
      refine x_1 (p' := 23) hC rfl rfl rfl rfl ?_
      refine y_gR (p' := 24) (n := 6) hO hC rfl rfl rfl rfl ?_
      refine x_1 (p' := 25) hC rfl rfl rfl rfl ?_
      refine y_ld (p' := 26) (L := 3) hO hC rfl rfl rfl rfl (by omega) (by omega) ?_
      refine x_cIV1 (p' := 27) (n := 8) hC rfl rfl rfl rfl rfl (hO.ty) ?_
      refine sp_m_isUnit hO (by rw [y1]; exact hs.2.1) ?_
      rw [y1]
      refine x_ifne (p' := 28) hC rfl rfl (fun c27 => ?_) (fun c27 => ?_)
      · have c27 := b2i_n0.mp c27
        refine x_1 (p' := 31) hC rfl rfl rfl rfl ?_
        refine x_1 (p' := 32) hC rfl rfl rfl rfl ?_
        refine x_cIV1 (p' := 33) (n := 76) hC rfl rfl rfl rfl rfl (hO.ty) ?_
        refine sp_m_does hO hT hGd (by rw [y1]; exact hG) (fun v Z hf hv => ?_)
        rw [y1] at hv
        refine x_ldc (p' := 34) (v := (-1000001)) hC rfl rfl (by decide) ?_
        refine x_icgt (p' := 35) hC rfl rfl (fun c34 => ?_) (fun c34 => ?_)
        · refine x_1 (p' := 38) hC rfl rfl rfl rfl ?_
          refine x_iret hC rfl rfl rfl ⟨_, rfl, ?_⟩
          first
            | (refine K _ Y ⟨fun i j h1 h2 h3 h4 h5 h6 _ => (hyk i j h6 h2).trans (bk i j h6), y7, Or.inl ⟨rfl, O, y1⟩⟩)
            | (refine K _ Y ⟨fun i j h1 h2 h3 h4 h5 h6 _ => (hyk i j h6 h2).trans (bk i j h6), by omega, Or.inr ⟨n0, n1, n2, O, Or.inl ⟨rfl, by omega, by rw [← e0]; assumption, y1⟩⟩⟩)
            | (have z7 : Z 0 7 = Y 0 7 := hf 0 7 (by decide) (by decide) (by decide) (by decide) (by decide)
               rw [← z7] at O
               refine K _ Z ⟨fun i j h1 h2 h3 h4 h5 h6 h7 => (hf i j h1 h3 h4 h5 h7).trans ((hyk i j h6 h2).trans (bk i j h6)), by omega, Or.inr ⟨n0, n1, n2, O, Or.inr ⟨?_, v, hv.congr e0 e1, ?_⟩⟩⟩
               · first
                 | exact Or.inl (by omega)
                 | (refine Or.inr ?_
                    rw [← e0]
                    assumption)
               · first
                 | exact Or.inl ⟨rfl, by omega⟩
                 | exact Or.inr ⟨rfl, by omega⟩)
        · refine x_1 (p' := 36) hC rfl rfl rfl rfl ?_
          refine x_1 (p' := 38) hC rfl rfl rfl rfl ?_
          refine x_iret hC rfl rfl rfl ⟨_, rfl, ?_⟩
          first
            | (refine K _ Y ⟨fun i j h1 h2 h3 h4 h5 h6 _ => (hyk i j h6 h2).trans (bk i j h6), y7, Or.inl ⟨rfl, O, y1⟩⟩)
            | (refine K _ Y ⟨fun i j h1 h2 h3 h4 h5 h6 _ => (hyk i j h6 h2).trans (bk i j h6), by omega, Or.inr ⟨n0, n1, n2, O, Or.inl ⟨rfl, by omega, by rw [← e0]; assumption, y1⟩⟩⟩)
            | (have z7 : Z 0 7 = Y 0 7 := hf 0 7 (by decide) (by decide) (by decide) (by decide) (by decide)
               rw [← z7] at O
               refine K _ Z ⟨fun i j h1 h2 h3 h4 h5 h6 h7 => (hf i j h1 h3 h4 h5 h7).trans ((hyk i j h6 h2).trans (bk i j h6)), by omega, Or.inr ⟨n0, n1, n2, O, Or.inr ⟨?_, v, hv.congr e0 e1, ?_⟩⟩⟩
               · first
                 | exact Or.inl (by omega)
                 | (refine Or.inr ?_
                    rw [← e0]
                    assumption)
               · first
                 | exact Or.inl ⟨rfl, by omega⟩
                 | exact Or.inr ⟨rfl, by omega⟩)
      · have c27 := b2i_0.mp c27
        refine x_1 (p' := 29) hC rfl rfl rfl rfl ?_
        refine x_1 (p' := 38) hC rfl rfl rfl rfl ?_
        refine x_iret hC rfl rfl rfl ⟨_, rfl, ?_⟩
        first
          | (refine K _ Y ⟨fun i j h1 h2 h3 h4 h5 h6 _ => (hyk i j h6 h2).trans (bk i j h6), y7, Or.inl ⟨rfl, O, y1⟩⟩)
          | (refine K _ Y ⟨fun i j h1 h2 h3 h4 h5 h6 _ => (hyk i j h6 h2).trans (bk i j h6), by omega, Or.inr ⟨n0, n1, n2, O, Or.inl ⟨rfl, by omega, by rw [← e0]; assumption, y1⟩⟩⟩)
          | (have z7 : Z 0 7 = Y 0 7 := hf 0 7 (by decide) (by decide) (by decide) (by decide) (by decide)
             rw [← z7] at O
             refine K _ Z ⟨fun i j h1 h2 h3 h4 h5 h6 h7 => (hf i j h1 h3 h4 h5 h7).trans ((hyk i j h6 h2).trans (bk i j h6)), by omega, Or.inr ⟨n0, n1, n2, O, Or.inr ⟨?_, v, hv.congr e0 e1, ?_⟩⟩⟩
             · first
               | exact Or.inl (by omega)
               | (refine Or.inr ?_
                  rw [← e0]
                  assumption)
             · first
               | exact Or.inl ⟨rfl, by omega⟩
               | exact Or.inr ⟨rfl, by omega⟩)
  · obtain ⟨v0, O, y7⟩ := hF.resolve_left (fun q => by omega)
    refine x_1 (p' := 17) hC rfl rfl rfl rfl ?_
    refine x_iret hC rfl rfl rfl ⟨_, rfl, ?_⟩
    first
      | (refine K _ Y ⟨fun i j h1 h2 h3 h4 h5 h6 _ => (hyk i j h6 h2).trans (bk i j h6), y7, Or.inl ⟨rfl, O, y1⟩⟩)
      | (refine K _ Y ⟨fun i j h1 h2 h3 h4 h5 h6 _ => (hyk i j h6 h2).trans (bk i j h6), by omega, Or.inr ⟨n0, n1, n2, O, Or.inl ⟨rfl, by omega, by rw [← e0]; assumption, y1⟩⟩⟩)
      | (have z7 : Z 0 7 = Y 0 7 := hf 0 7 (by decide) (by decide) (by decide) (by decide) (by decide)
         rw [← z7] at O
         refine K _ Z ⟨fun i j h1 h2 h3 h4 h5 h6 h7 => (hf i j h1 h3 h4 h5 h7).trans ((hyk i j h6 h2).trans (bk i j h6)), by omega, Or.inr ⟨n0, n1, n2, O, Or.inr ⟨?_, v, hv.congr e0 e1, ?_⟩⟩⟩
         · first
           | exact Or.inl (by omega)
           | (refine Or.inr ?_
              rw [← e0]
              assumption)
         · first
           | exact Or.inl ⟨rfl, by omega⟩
           | exact Or.inr ⟨rfl, by omega⟩)

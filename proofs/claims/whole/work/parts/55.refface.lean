/-! the reference's face -/
/-- the state with its row kept as begun -/
abbrev bgX (X : Nat → Int → Int) : Nat → Int → Int := cpX X 3 15568 (X 1)
theorem bgX_1 {X : Nat → Int → Int} : bgX X 1 = X 1 := cpX_ne (by decide)
theorem bgX_0 {X : Nat → Int → Int} : bgX X 0 = X 0 := cpX_ne (by decide)
noncomputable def aX (v : Int) (X : Nat → Int → Int) : Nat → Int → Int := cif (v ≤ -1000001) X (acX X)
theorem sp_m_acted2 {d : Nat} {m : Nat} {h : HP} (hO : RO m h) {X : Nat → Int → Int} {v : Int} (hq : 0 ≤ X 0 4 ∧ X 0 4 ≤ 4) {Q : Int → HP → Prop} (K : Q v (wX m h (aX v X))) : CaI d 11 [.inr (some m), .inl v] (wX m h X) Q := by
  unfold aX at K
  refine sp_m_acted hO hq (fun hv => ?_) (fun hv => ?_)
  · rw [cif_t hv] at K; exact K
  · rw [cif_f (by omega)] at K; exact K
def RTake (X : Nat → Int → Int) (u v : Int) (Y : Nat → Int → Int) : Prop := (¬ isU (X 1) u ∧ v = -1000001 ∧ Y = X) ∨ (isU (X 1) u ∧ ¬ rIts (X 1) u 2 = 0 ∧ v = -1000002 ∧ Y = X) ∨ (isU (X 1) u ∧ rIts (X 1) u 2 = 0 ∧ v = rOn (ups (X 1) (58 + 4 * u + 2) 1) ∧ Y = setS X (ups (X 1) (58 + 4 * u + 2) 1))
theorem RTake.zero {X Y : Nat → Int → Int} {u v : Int} (h : RTake X u v Y) : Y 0 = X 0 := by
  rcases h with ⟨_, _, rfl⟩ | ⟨_, _, _, rfl⟩ | ⟨_, _, _, rfl⟩
  · rfl
  · rfl
  · exact setS_ne (by decide)
theorem sp_m_takesOff2 {d : Nat} {m : Nat} {h : HP} (hO : RO m h) {X : Nat → Int → Int} (hs : RI (X 1)) {u : Int} {Q : Int → HP → Prop} (K : ∀ v Y, RTake X u v Y → Q v (wX m h Y)) : CaI (d + 3) 23 [.inr (some m), .inl u] (wX m h X) Q :=
  sp_m_takesOff hO hs (fun a => K _ _ (Or.inl ⟨a, rfl, rfl⟩)) (fun a b => K _ _ (Or.inr (Or.inl ⟨a, b, rfl, rfl⟩))) (fun a b => K _ _ (Or.inr (Or.inr ⟨a, b, rfl, rfl⟩)))
def RSend (X : Nat → Int → Int) (u st w fl del v : Int) (Y : Nat → Int → Int) : Prop := (¬ okSend (X 1) u st w fl del ∧ v = -1000001 ∧ Y = X) ∨ (okSend (X 1) u st w fl del ∧ ¬ poSend (X 1) u st ∧ v = -1000002 ∧ Y = X) ∨ (okSend (X 1) u st w fl del ∧ poSend (X 1) u st ∧ 40 ≤ rAllWay (X 1) ∧ v = -1000003 ∧ Y = X) ∨ (okSend (X 1) u st w fl del ∧ poSend (X 1) u st ∧ rAllWay (X 1) < 40 ∧ v = rAllWay (rOne (rFreed (X 1)) (rFree (X 1)) u st w fl del) ∧ Y = setS X (rOne (rFreed (X 1)) (rFree (X 1)) u st w fl del))
theorem RSend.zero {X Y : Nat → Int → Int} {u st w fl del v : Int} (h : RSend X u st w fl del v Y) : Y 0 = X 0 := by
  rcases h with ⟨_, _, rfl⟩ | ⟨_, _, _, rfl⟩ | ⟨_, _, _, _, rfl⟩ | ⟨_, _, _, _, rfl⟩
  · rfl
  · rfl
  · rfl
  · exact setS_ne (by decide)
theorem sp_m_sendsOne2 {d : Nat} {m : Nat} {h : HP} (hO : RO m h) {X : Nat → Int → Int} (hs : RI (X 1)) {u st w fl del : Int} (hd : 0 ≤ X 1 2 ∧ X 1 2 ≤ 100000) {Q : Int → HP → Prop} (K : ∀ v Y, RSend X u st w fl del v Y → Q v (wX m h Y)) : CaI (d + 2) 57 [.inr (some m), .inl u, .inl st, .inl w, .inl fl, .inl del] (wX m h X) Q :=
  sp_m_sendsOne hO hs hd (fun a => K _ _ (Or.inl ⟨a, rfl, rfl⟩)) (fun a b => K _ _ (Or.inr (Or.inl ⟨a, b, rfl, rfl⟩))) (fun a b c => K _ _ (Or.inr (Or.inr (Or.inl ⟨a, b, c, rfl, rfl⟩)))) (fun a b c => K _ _ (Or.inr (Or.inr (Or.inr ⟨a, b, c, rfl, rfl⟩))))
def RPass (PT : Int → (Nat → Int → Int) → Prop) (X : Nat → Int → Int) (n v : Int) (Y : Nat → Int → Int) : Prop := (¬ (1 ≤ n ∧ n ≤ 100) ∧ v = -1000001 ∧ Y = X) ∨ ((1 ≤ n ∧ n ≤ 100) ∧ 20000 < X 1 2 + n ∧ v = -1000003 ∧ Y = X) ∨ ((1 ≤ n ∧ n ≤ 100) ∧ PT n Y ∧ v = Y 1 2)
theorem sp_m_passes2 {d : Nat} {m : Nat} {h : HP} (hO : RO m h) {n : Int} {PT : Int → (Nat → Int → Int) → Prop} (hT : ∀ i X, PT i X → 0 ≤ i → i < n → ∀ {Q : HP → Prop}, (∀ X', PT (i + 1) X' → Q (wX m h X')) → CaV (d + 8) 55 [.inr (some m)] (wX m h X) Q) {Q : Int → HP → Prop} {X : Nat → Int → Int} (ht : 0 ≤ X 1 2 ∧ X 1 2 ≤ 100000) (hX : 1 ≤ n ∧ n ≤ 100 → X 1 2 + n ≤ 20000 → PT 0 X) (K : ∀ v Y, RPass PT X n v Y → Q v (wX m h Y)) : CaI (d + 9) 59 [.inr (some m), .inl n] (wX m h X) Q :=
  sp_m_passes hO hT (fun a Y b => K _ _ (Or.inr (Or.inr ⟨a, b, rfl⟩))) ht (fun a => K _ _ (Or.inl ⟨a, rfl, rfl⟩)) (fun a b => K _ _ (Or.inr (Or.inl ⟨a, b, rfl, rfl⟩))) hX
set_option maxRecDepth 20000 in
set_option maxHeartbeats 2000000 in
theorem sp_m_takeOff {d : Nat} {m : Nat} {h : HP} (hO : RO m h) {X : Nat → Int → Int} (hs : RI (X 1)) (hq : 0 ≤ X 0 4 ∧ X 0 4 ≤ 4) {u : Int} {Q : Int → HP → Prop} (K : ∀ v Y, RTake (bgX X) u v Y → Q v (wX m h (aX v Y))) : CaI (d + 4) 24 [.inr (some m), .inl u] (wX m h X) Q := by
  have hC : cod 24 = c_m_takeOff := rfl
  refine CaI.start rfl ?_
  refine x_1 (p' := 1) hC rfl rfl rfl rfl ?_
  refine x_cVV0 (p' := 2) (n := 10) hC rfl rfl rfl rfl rfl (hO.ty) ?_
  refine sp_m_keeps hO ?_
  refine x_1 (p' := 3) hC rfl rfl rfl rfl ?_
  refine x_1 (p' := 4) hC rfl rfl rfl rfl ?_
  refine x_1 (p' := 5) hC rfl rfl rfl rfl ?_
  refine x_cIV1 (p' := 6) (n := 23) hC rfl rfl rfl rfl rfl (hO.ty) ?_
  refine sp_m_takesOff2 hO (X := bgX X) (by rw [bgX_1]; exact hs) ?_
  intro v Y hv
  refine x_cIV1 (p' := 7) (n := 11) hC rfl rfl rfl rfl rfl (hO.ty) ?_
  refine sp_m_acted2 hO (by rw [hv.zero, bgX_0]; exact hq) ?_
  refine x_iret hC rfl rfl rfl ⟨_, rfl, ?_⟩
  exact K v Y hv
set_option maxRecDepth 20000 in
set_option maxHeartbeats 2000000 in
theorem sp_m_send {d : Nat} {m : Nat} {h : HP} (hO : RO m h) {X : Nat → Int → Int} (hs : RI (X 1)) (hq : 0 ≤ X 0 4 ∧ X 0 4 ≤ 4) (hd : 0 ≤ X 1 2 ∧ X 1 2 ≤ 100000) {u st w fl del : Int} {Q : Int → HP → Prop} (K : ∀ v Y, RSend (bgX X) u st w fl del v Y → Q v (wX m h (aX v Y))) : CaI (d + 3) 58 [.inr (some m), .inl u, .inl st, .inl w, .inl fl, .inl del] (wX m h X) Q := by
  have hC : cod 58 = c_m_send := rfl
  refine CaI.start rfl ?_
  refine x_1 (p' := 1) hC rfl rfl rfl rfl ?_
  refine x_cVV0 (p' := 2) (n := 10) hC rfl rfl rfl rfl rfl (hO.ty) ?_
  refine sp_m_keeps hO ?_
  refine x_1 (p' := 3) hC rfl rfl rfl rfl ?_
  refine x_1 (p' := 4) hC rfl rfl rfl rfl ?_
  refine x_1 (p' := 5) hC rfl rfl rfl rfl ?_
  refine x_1 (p' := 6) hC rfl rfl rfl rfl ?_
  refine x_1 (p' := 7) hC rfl rfl rfl rfl ?_
  refine x_1 (p' := 8) hC rfl rfl rfl rfl ?_
  refine x_1 (p' := 9) hC rfl rfl rfl rfl ?_
  refine x_cIV5 (p' := 10) (n := 57) hC rfl rfl rfl rfl rfl (hO.ty) ?_
  refine sp_m_sendsOne2 hO (X := bgX X) (by rw [bgX_1]; exact hs) (by rw [bgX_1]; exact hd) ?_
  intro v Y hv
  refine x_cIV1 (p' := 11) (n := 11) hC rfl rfl rfl rfl rfl (hO.ty) ?_
  refine sp_m_acted2 hO (by rw [hv.zero, bgX_0]; exact hq) ?_
  refine x_iret hC rfl rfl rfl ⟨_, rfl, ?_⟩
  exact K v Y hv
def rHeldBy (s : Int → Int) (g u w : Int) : Int := if ¬ (isH s g ∧ isU s u ∧ 0 ≤ w ∧ w ≤ 1) then -1000001 else if s (98 + 30 * g + 3 * u) = 1 then s (98 + 30 * g + 3 * u + 1 + w) else -1000004
def rOutAt (s : Int → Int) (i w : Int) : Int := if ¬ (0 ≤ i ∧ 0 ≤ w ∧ w ≤ 4) then -1000001 else if s 5 ≤ i then -1000004 else if w = 3 then rOnes (s (248 + 25 * (s 5 - 1 - i) + 3)) else s (248 + 25 * (s 5 - 1 - i) + w)
def rReadAt (s : Int → Int) (i u w : Int) : Int := if ¬ (0 ≤ i ∧ isU s u ∧ 0 ≤ w ∧ w ≤ 1) then -1000001 else if s 5 ≤ i then -1000004 else if oAnd (oShr (s (248 + 25 * (s 5 - 1 - i) + 3)) u) 1 = 1 then s (248 + 25 * (s 5 - 1 - i) + 5 + 10 * w + u) else -1000004
set_option maxRecDepth 20000 in
set_option maxHeartbeats 2000000 in
theorem sp_m_heldBy {d : Nat} {m : Nat} {h : HP} (hO : RO m h) {X : Nat → Int → Int} (hs : RI (X 1)) {g u w : Int} {Q : Int → HP → Prop} (K : Q (rHeldBy (X 1) g u w) (wX m h X)) : CaI (d + 2) 65 [.inr (some m), .inl g, .inl u, .inl w] (wX m h X) Q := by
  have hC : cod 65 = c_m_heldBy := rfl
  refine CaI.start rfl ?_
  have h0 := hs.1
  have h1 := hs.2.1
  refine x_1 (p' := 1) hC rfl rfl rfl rfl ?_
  refine x_1 (p' := 2) hC rfl rfl rfl rfl ?_
  refine x_cIV1 (p' := 3) (n := 7) hC rfl rfl rfl rfl rfl (hO.ty) ?_
  refine sp_m_isHub hO (by have := hs.1; omega) ?_
  refine x_ifeq (p' := 4) hC rfl rfl (fun c3 => ?_) (fun c3 => ?_)
  · have c3 := b2i_0.mp c3
    refine x_ldc (p' := 14) (v := (-1000001)) hC rfl rfl (by decide) ?_
    refine x_iret hC rfl rfl rfl ⟨_, rfl, ?_⟩
    refine eqK K ?_
    unfold rHeldBy
    repeat (first | rw [if_pos (by omega)] | rw [if_neg (by omega)])
  · have c3 := b2i_n0.mp c3
    refine x_1 (p' := 5) hC rfl rfl rfl rfl ?_
    refine x_1 (p' := 6) hC rfl rfl rfl rfl ?_
    refine x_cIV1 (p' := 7) (n := 8) hC rfl rfl rfl rfl rfl (hO.ty) ?_
    refine sp_m_isUnit hO hs.2.1 ?_
    refine x_ifeq (p' := 8) hC rfl rfl (fun c7 => ?_) (fun c7 => ?_)
    · have c7 := b2i_0.mp c7
      refine x_ldc (p' := 14) (v := (-1000001)) hC rfl rfl (by decide) ?_
      refine x_iret hC rfl rfl rfl ⟨_, rfl, ?_⟩
      refine eqK K ?_
      unfold rHeldBy
      repeat (first | rw [if_pos (by omega)] | rw [if_neg (by omega)])
    · have c7 := b2i_n0.mp c7
      refine x_1 (p' := 9) hC rfl rfl rfl rfl ?_
      refine x_1 (p' := 10) hC rfl rfl rfl rfl ?_
      refine x_1 (p' := 11) hC rfl rfl rfl rfl ?_
      refine x_cIS3 (p' := 12) (n := 2) hC rfl rfl rfl rfl rfl ?_
      refine sp_m_in ?_
      refine x_ifne (p' := 13) hC rfl rfl (fun c12 => ?_) (fun c12 => ?_)
      · have c12 := b2i_n0.mp c12
        refine x_1 (p' := 16) hC rfl rfl rfl rfl ?_
        refine x_1 (p' := 17) hC rfl rfl rfl rfl ?_
        refine x_1 (p' := 18) hC rfl rfl rfl rfl ?_
        refine x_mul (p' := 19) hC rfl rfl rfl (⟨by omega, by omega⟩) ?_
        refine x_add (p' := 20) hC rfl rfl rfl (⟨by omega, by omega⟩) ?_
        refine x_1 (p' := 21) hC rfl rfl rfl rfl ?_
        refine x_1 (p' := 22) hC rfl rfl rfl rfl ?_
        refine x_mul (p' := 23) hC rfl rfl rfl (⟨by omega, by omega⟩) ?_
        refine x_add (p' := 24) hC rfl rfl rfl (⟨by omega, by omega⟩) ?_
        refine x_stI4 (p' := 25) hC rfl rfl rfl ?_
        refine x_1 (p' := 26) hC rfl rfl rfl rfl ?_
        refine y_gR (p' := 27) (n := 1) hO hC rfl rfl rfl rfl ?_
        refine x_1 (p' := 28) hC rfl rfl rfl rfl ?_
        refine y_ld (p' := 29) (L := 15568) hO hC rfl rfl rfl rfl (by omega) (by omega) ?_
        refine x_1 (p' := 30) hC rfl rfl rfl rfl ?_
        refine x_icne (p' := 31) hC rfl rfl (fun c30 => ?_) (fun c30 => ?_)
        · refine x_ldc (p' := 41) (v := (-1000004)) hC rfl rfl (by decide) ?_
          refine x_iret hC rfl rfl rfl ⟨_, rfl, ?_⟩
          refine eqK K ?_
          unfold rHeldBy
          repeat (first | rw [if_pos (by omega)] | rw [if_neg (by omega)])
        · refine x_1 (p' := 32) hC rfl rfl rfl rfl ?_
          refine y_gR (p' := 33) (n := 1) hO hC rfl rfl rfl rfl ?_
          refine x_1 (p' := 34) hC rfl rfl rfl rfl ?_
          refine x_1 (p' := 35) hC rfl rfl rfl rfl ?_
          refine x_add (p' := 36) hC rfl rfl rfl (⟨by omega, by omega⟩) ?_
          refine x_1 (p' := 37) hC rfl rfl rfl rfl ?_
          refine x_add (p' := 38) hC rfl rfl rfl (⟨by omega, by omega⟩) ?_
          refine y_ld (p' := 39) (L := 15568) hO hC rfl rfl rfl rfl (by omega) (by omega) ?_
          refine x_1 (p' := 41) hC rfl rfl rfl rfl ?_
          refine x_iret hC rfl rfl rfl ⟨_, rfl, ?_⟩
          refine eqK K ?_
          unfold rHeldBy
          repeat (first | rw [if_pos (by omega)] | rw [if_neg (by omega)])
      · have c12 := b2i_0.mp c12
        refine x_ldc (p' := 14) (v := (-1000001)) hC rfl rfl (by decide) ?_
        refine x_iret hC rfl rfl rfl ⟨_, rfl, ?_⟩
        refine eqK K ?_
        unfold rHeldBy
        repeat (first | rw [if_pos (by omega)] | rw [if_neg (by omega)])
set_option maxRecDepth 20000 in
set_option maxHeartbeats 2000000 in
theorem sp_m_outAt {d : Nat} {m : Nat} {h : HP} (hO : RO m h) {X : Nat → Int → Int} (hs : RI (X 1)) {i w : Int} {Q : Int → HP → Prop} (K : Q (rOutAt (X 1) i w) (wX m h X)) : CaI (d + 2) 63 [.inr (some m), .inl i, .inl w] (wX m h X) Q := by
  have hC : cod 63 = c_m_outAt := rfl
  refine CaI.start rfl ?_
  have h5 := hs.2.2.2.1
  refine x_1 (p' := 1) hC rfl rfl rfl rfl ?_
  refine x_iflt (p' := 2) hC rfl rfl (fun c1 => ?_) (fun c1 => ?_)
  · refine x_ldc (p' := 8) (v := (-1000001)) hC rfl rfl (by decide) ?_
    refine x_iret hC rfl rfl rfl ⟨_, rfl, ?_⟩
    refine eqK K ?_
    unfold rOutAt
    repeat (first | rw [if_pos (by omega)] | rw [if_neg (by omega)])
  · refine x_1 (p' := 3) hC rfl rfl rfl rfl ?_
    refine x_1 (p' := 4) hC rfl rfl rfl rfl ?_
    refine x_1 (p' := 5) hC rfl rfl rfl rfl ?_
    refine x_cIS3 (p' := 6) (n := 2) hC rfl rfl rfl rfl rfl ?_
    refine sp_m_in ?_
    refine x_ifne (p' := 7) hC rfl rfl (fun c6 => ?_) (fun c6 => ?_)
    · have c6 := b2i_n0.mp c6
      refine x_1 (p' := 10) hC rfl rfl rfl rfl ?_
      refine x_1 (p' := 11) hC rfl rfl rfl rfl ?_
      refine y_gR (p' := 12) (n := 1) hO hC rfl rfl rfl rfl ?_
      refine x_1 (p' := 13) hC rfl rfl rfl rfl ?_
      refine y_ld (p' := 14) (L := 15568) hO hC rfl rfl rfl rfl (by omega) (by omega) ?_
      refine x_iclt (p' := 15) hC rfl rfl (fun c14 => ?_) (fun c14 => ?_)
      · refine x_1 (p' := 18) hC rfl rfl rfl rfl ?_
        refine x_1 (p' := 19) hC rfl rfl rfl rfl ?_
        refine x_1 (p' := 20) hC rfl rfl rfl rfl ?_
        refine y_gR (p' := 21) (n := 1) hO hC rfl rfl rfl rfl ?_
        refine x_1 (p' := 22) hC rfl rfl rfl rfl ?_
        refine y_ld (p' := 23) (L := 15568) hO hC rfl rfl rfl rfl (by omega) (by omega) ?_
        refine x_1 (p' := 24) hC rfl rfl rfl rfl ?_
        refine x_sub (p' := 25) hC rfl rfl rfl (⟨by omega, by omega⟩) ?_
        refine x_1 (p' := 26) hC rfl rfl rfl rfl ?_
        refine x_sub (p' := 27) hC rfl rfl rfl (⟨by omega, by omega⟩) ?_
        refine x_mul (p' := 28) hC rfl rfl rfl (⟨by omega, by omega⟩) ?_
        refine x_add (p' := 29) hC rfl rfl rfl (⟨by omega, by omega⟩) ?_
        refine x_stI3 (p' := 30) hC rfl rfl rfl ?_
        refine x_1 (p' := 31) hC rfl rfl rfl rfl ?_
        refine x_1 (p' := 32) hC rfl rfl rfl rfl ?_
        refine x_icne (p' := 33) hC rfl rfl (fun c32 => ?_) (fun c32 => ?_)
        · refine x_1 (p' := 42) hC rfl rfl rfl rfl ?_
          refine y_gR (p' := 43) (n := 1) hO hC rfl rfl rfl rfl ?_
          refine x_1 (p' := 44) hC rfl rfl rfl rfl ?_
          refine x_1 (p' := 45) hC rfl rfl rfl rfl ?_
          refine x_add (p' := 46) hC rfl rfl rfl (⟨by omega, by omega⟩) ?_
          refine y_ld (p' := 47) (L := 15568) hO hC rfl rfl rfl rfl (by omega) (by omega) ?_
          refine x_iret hC rfl rfl rfl ⟨_, rfl, ?_⟩
          refine eqK K ?_
          unfold rOutAt
          repeat (first | rw [if_pos (by omega)] | rw [if_neg (by omega)])
        · refine x_1 (p' := 34) hC rfl rfl rfl rfl ?_
          refine y_gR (p' := 35) (n := 1) hO hC rfl rfl rfl rfl ?_
          refine x_1 (p' := 36) hC rfl rfl rfl rfl ?_
          refine x_1 (p' := 37) hC rfl rfl rfl rfl ?_
          refine x_add (p' := 38) hC rfl rfl rfl (⟨by omega, by omega⟩) ?_
          refine y_ld (p' := 39) (L := 15568) hO hC rfl rfl rfl rfl (by omega) (by omega) ?_
          refine x_cIS1 (p' := 40) (n := 62) hC rfl rfl rfl rfl rfl ?_
          refine sp_m_ones ?_
          refine x_1 (p' := 47) hC rfl rfl rfl rfl ?_
          refine x_iret hC rfl rfl rfl ⟨_, rfl, ?_⟩
          refine eqK K ?_
          unfold rOutAt
          repeat (first | rw [if_pos (by omega)] | rw [if_neg (by omega)])
      · refine x_ldc (p' := 16) (v := (-1000004)) hC rfl rfl (by decide) ?_
        refine x_iret hC rfl rfl rfl ⟨_, rfl, ?_⟩
        refine eqK K ?_
        unfold rOutAt
        repeat (first | rw [if_pos (by omega)] | rw [if_neg (by omega)])
    · have c6 := b2i_0.mp c6
      refine x_ldc (p' := 8) (v := (-1000001)) hC rfl rfl (by decide) ?_
      refine x_iret hC rfl rfl rfl ⟨_, rfl, ?_⟩
      refine eqK K ?_
      unfold rOutAt
      repeat (first | rw [if_pos (by omega)] | rw [if_neg (by omega)])
set_option maxRecDepth 20000 in
set_option maxHeartbeats 2000000 in
theorem sp_m_readingAt {d : Nat} {m : Nat} {h : HP} (hO : RO m h) {X : Nat → Int → Int} (hs : RI (X 1)) {i u w : Int} {Q : Int → HP → Prop} (K : Q (rReadAt (X 1) i u w) (wX m h X)) : CaI (d + 2) 64 [.inr (some m), .inl i, .inl u, .inl w] (wX m h X) Q := by
  have hC : cod 64 = c_m_readingAt := rfl
  refine CaI.start rfl ?_
  have h5 := hs.2.2.2.1
  have h1 := hs.2.1
  refine x_1 (p' := 1) hC rfl rfl rfl rfl ?_
  refine x_iflt (p' := 2) hC rfl rfl (fun c1 => ?_) (fun c1 => ?_)
  · refine x_ldc (p' := 12) (v := (-1000001)) hC rfl rfl (by decide) ?_
    refine x_iret hC rfl rfl rfl ⟨_, rfl, ?_⟩
    refine eqK K ?_
    unfold rReadAt
    repeat (first | rw [if_pos (by omega)] | rw [if_neg (by omega)])
  · refine x_1 (p' := 3) hC rfl rfl rfl rfl ?_
    refine x_1 (p' := 4) hC rfl rfl rfl rfl ?_
    refine x_cIV1 (p' := 5) (n := 8) hC rfl rfl rfl rfl rfl (hO.ty) ?_
    refine sp_m_isUnit hO hs.2.1 ?_
    refine x_ifeq (p' := 6) hC rfl rfl (fun c5 => ?_) (fun c5 => ?_)
    · have c5 := b2i_0.mp c5
      refine x_ldc (p' := 12) (v := (-1000001)) hC rfl rfl (by decide) ?_
      refine x_iret hC rfl rfl rfl ⟨_, rfl, ?_⟩
      refine eqK K ?_
      unfold rReadAt
      repeat (first | rw [if_pos (by omega)] | rw [if_neg (by omega)])
    · have c5 := b2i_n0.mp c5
      refine x_1 (p' := 7) hC rfl rfl rfl rfl ?_
      refine x_1 (p' := 8) hC rfl rfl rfl rfl ?_
      refine x_1 (p' := 9) hC rfl rfl rfl rfl ?_
      refine x_cIS3 (p' := 10) (n := 2) hC rfl rfl rfl rfl rfl ?_
      refine sp_m_in ?_
      refine x_ifne (p' := 11) hC rfl rfl (fun c10 => ?_) (fun c10 => ?_)
      · have c10 := b2i_n0.mp c10
        refine x_1 (p' := 14) hC rfl rfl rfl rfl ?_
        refine x_1 (p' := 15) hC rfl rfl rfl rfl ?_
        refine y_gR (p' := 16) (n := 1) hO hC rfl rfl rfl rfl ?_
        refine x_1 (p' := 17) hC rfl rfl rfl rfl ?_
        refine y_ld (p' := 18) (L := 15568) hO hC rfl rfl rfl rfl (by omega) (by omega) ?_
        refine x_iclt (p' := 19) hC rfl rfl (fun c18 => ?_) (fun c18 => ?_)
        · refine x_1 (p' := 22) hC rfl rfl rfl rfl ?_
          refine x_1 (p' := 23) hC rfl rfl rfl rfl ?_
          refine x_1 (p' := 24) hC rfl rfl rfl rfl ?_
          refine y_gR (p' := 25) (n := 1) hO hC rfl rfl rfl rfl ?_
          refine x_1 (p' := 26) hC rfl rfl rfl rfl ?_
          refine y_ld (p' := 27) (L := 15568) hO hC rfl rfl rfl rfl (by omega) (by omega) ?_
          refine x_1 (p' := 28) hC rfl rfl rfl rfl ?_
          refine x_sub (p' := 29) hC rfl rfl rfl (⟨by omega, by omega⟩) ?_
          refine x_1 (p' := 30) hC rfl rfl rfl rfl ?_
          refine x_sub (p' := 31) hC rfl rfl rfl (⟨by omega, by omega⟩) ?_
          refine x_mul (p' := 32) hC rfl rfl rfl (⟨by omega, by omega⟩) ?_
          refine x_add (p' := 33) hC rfl rfl rfl (⟨by omega, by omega⟩) ?_
          refine x_stI4 (p' := 34) hC rfl rfl rfl ?_
          refine x_1 (p' := 35) hC rfl rfl rfl rfl ?_
          refine y_gR (p' := 36) (n := 1) hO hC rfl rfl rfl rfl ?_
          refine x_1 (p' := 37) hC rfl rfl rfl rfl ?_
          refine x_1 (p' := 38) hC rfl rfl rfl rfl ?_
          refine x_add (p' := 39) hC rfl rfl rfl (⟨by omega, by omega⟩) ?_
          refine y_ld (p' := 40) (L := 15568) hO hC rfl rfl rfl rfl (by omega) (by omega) ?_
          refine x_1 (p' := 41) hC rfl rfl rfl rfl ?_
          refine x_1 (p' := 42) hC rfl rfl rfl rfl ?_
          refine x_1 (p' := 43) hC rfl rfl rfl rfl ?_
          refine x_1 (p' := 44) hC rfl rfl rfl rfl ?_
          refine x_1 (p' := 45) hC rfl rfl rfl rfl ?_
          refine x_icne (p' := 46) hC rfl rfl (fun c45 => ?_) (fun c45 => ?_)
          · refine x_ldc (p' := 60) (v := (-1000004)) hC rfl rfl (by decide) ?_
            refine x_iret hC rfl rfl rfl ⟨_, rfl, ?_⟩
            refine eqK K ?_
            unfold rReadAt
            repeat (first | rw [if_pos (by omega)] | rw [if_neg (by omega)])
          · refine x_1 (p' := 47) hC rfl rfl rfl rfl ?_
            refine y_gR (p' := 48) (n := 1) hO hC rfl rfl rfl rfl ?_
            refine x_1 (p' := 49) hC rfl rfl rfl rfl ?_
            refine x_1 (p' := 50) hC rfl rfl rfl rfl ?_
            refine x_add (p' := 51) hC rfl rfl rfl (⟨by omega, by omega⟩) ?_
            refine x_1 (p' := 52) hC rfl rfl rfl rfl ?_
            refine x_1 (p' := 53) hC rfl rfl rfl rfl ?_
            refine x_mul (p' := 54) hC rfl rfl rfl (⟨by omega, by omega⟩) ?_
            refine x_add (p' := 55) hC rfl rfl rfl (⟨by omega, by omega⟩) ?_
            refine x_1 (p' := 56) hC rfl rfl rfl rfl ?_
            refine x_add (p' := 57) hC rfl rfl rfl (⟨by omega, by omega⟩) ?_
            refine y_ld (p' := 58) (L := 15568) hO hC rfl rfl rfl rfl (by omega) (by omega) ?_
            refine x_1 (p' := 60) hC rfl rfl rfl rfl ?_
            refine x_iret hC rfl rfl rfl ⟨_, rfl, ?_⟩
            refine eqK K ?_
            unfold rReadAt
            repeat (first | rw [if_pos (by omega)] | rw [if_neg (by omega)])
        · refine x_ldc (p' := 20) (v := (-1000004)) hC rfl rfl (by decide) ?_
          refine x_iret hC rfl rfl rfl ⟨_, rfl, ?_⟩
          refine eqK K ?_
          unfold rReadAt
          repeat (first | rw [if_pos (by omega)] | rw [if_neg (by omega)])
      · have c10 := b2i_0.mp c10
        refine x_ldc (p' := 12) (v := (-1000001)) hC rfl rfl (by decide) ?_
        refine x_iret hC rfl rfl rfl ⟨_, rfl, ?_⟩
        refine eqK K ?_
        unfold rReadAt
        repeat (first | rw [if_pos (by omega)] | rw [if_neg (by omega)])

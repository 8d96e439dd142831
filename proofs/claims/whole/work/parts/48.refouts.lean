/-! the reference's outputs and what it sends on -/
theorem RI.congr {s s' : Int → Int} (hs : RI s) (e0 : s' 0 = s 0) (e1 : s' 1 = s 1) (e7 : 0 ≤ s' 7 ∧ s' 7 ≤ 559) (e5 : 0 ≤ s' 5 ∧ s' 5 ≤ 8) (eh : ∀ h, 0 ≤ h → h < 5 → rOf s' h 4 = rOf s h 4 ∧ rOf s' h 5 = rOf s h 5) (eu : ∀ u, 0 ≤ u → u < 10 → rIts s' u 0 = rIts s u 0 ∧ rIts s' u 1 = rIts s u 1) : RI s' := by
  obtain ⟨a0, a1, a7, a5, ah, au⟩ := hs
  refine ⟨by rw [e0]; exact a0, by rw [e1]; exact a1, e7, e5, fun h h0 h1 => ?_, fun u h0 h1 => ?_⟩
  · rw [(eh h h0 (by omega)).1, (eh h h0 (by omega)).2]; exact ah h h0 (by omega)
  · rw [(eu u h0 (by omega)).1, (eu u h0 (by omega)).2, e0]; exact au u h0 (by omega)
/-- the rows are the same below the frames -/
def Lo (s s' : Int → Int) : Prop := ∀ k, k < 448 → s' k = s k
theorem Lo.refl {s : Int → Int} : Lo s s := fun _ _ => rfl
theorem Lo.up {s s' : Int → Int} (h : Lo s s') {j v : Int} (hj : 448 ≤ j) : Lo s (ups s' j v) := fun k hk => (ups_ne (by omega)).trans (h k hk)
theorem Lo.of {s s' : Int → Int} (h : Lo s s') {g w : Int} (hg : g < 5) (hw : w < 10) : rOf s' g w = rOf s g w := h _ (by omega)
theorem Lo.ri {s s' : Int → Int} (h : Lo s s') (hs : RI s) : RI s' := by
  have a7 := hs.2.2.1
  have a5 := hs.2.2.2.1
  exact hs.congr (h _ (by omega)) (h _ (by omega)) (by rw [h 7 (by omega)]; exact a7) (by rw [h 5 (by omega)]; exact a5) (fun g _ hg => ⟨h.of hg (by omega), h.of hg (by omega)⟩) (fun u _ hu => ⟨h _ (by omega), h _ (by omega)⟩)
def rLay (s : Int → Int) (o n : Int) (V F : Int → Int) : Int → Int := fun k => if o + 5 ≤ k ∧ k < o + 5 + n then V (k - o - 5) else if o + 15 ≤ k ∧ k < o + 15 + n then F (k - o - 15) else s k
theorem rLay_0 {s : Int → Int} {o : Int} {V F : Int → Int} : rLay s o 0 V F = s := by funext k; unfold rLay; rw [if_neg (by omega), if_neg (by omega)]
theorem rLay_succ {s : Int → Int} {o n : Int} {V F : Int → Int} (h0 : 0 ≤ n) (h1 : n < 10) : ups (ups (rLay s o n V F) (o + 5 + n) (V n)) (o + 15 + n) (F n) = rLay s o (n + 1) V F := by
  funext k
  unfold rLay ups
  by_cases e1 : k = o + 15 + n
  · subst e1
    rw [if_pos rfl, if_neg (by omega), if_pos (by omega), show o + 15 + n - o - 15 = n by omega]
  · rw [if_neg e1]
    by_cases e2 : k = o + 5 + n
    · subst e2
      rw [if_pos rfl, if_pos (by omega), show o + 5 + n - o - 5 = n by omega]
    · rw [if_neg e2]
      dsimp only
      by_cases e3 : o + 5 ≤ k ∧ k < o + 5 + n
      · rw [if_pos e3, if_pos (by omega)]
      · rw [if_neg e3]
        by_cases e4 : o + 15 ≤ k ∧ k < o + 15 + n
        · rw [if_pos e4, if_neg (by omega), if_pos (by omega)]
        · rw [if_neg e4, if_neg (by omega), if_neg (by omega)]
theorem rLay_ne {s : Int → Int} {o n k : Int} {V F : Int → Int} (h : k < o + 5) (hn : 0 ≤ n) : rLay s o n V F k = s k := by unfold rLay; rw [if_neg (by omega), if_neg (by omega)]
def rOut3 (s : Int → Int) (sl : Int) : Int → Int := ups (ups (ups s 6 (if s 4 = 0 ∨ s 6 < s 2 - sl then s 2 - sl else s 6)) 5 (s 5 + 1)) 4 (wr (s 4 + 1))
def rOutT (s : Int → Int) (sl msk miss fl : Int) (V F : Int → Int) : Int → Int := rOut3 (rLay (ups (ups (ups (ups (ups s (248 + 25 * s 5) sl) (248 + 25 * s 5 + 1) (s 2)) (248 + 25 * s 5 + 2) (oOr fl (if 0 < miss then 16 else 0))) (248 + 25 * s 5 + 3) msk) (248 + 25 * s 5 + 4) miss) (248 + 25 * s 5) 10 V F) sl
def rSh (s : Int → Int) (n : Int) : Int → Int := fun k => if 248 ≤ k ∧ k < 248 + n then s (k + 25) else s k
theorem rSh_0 {s : Int → Int} : rSh s 0 = s := by funext k; unfold rSh; rw [if_neg (by omega)]
theorem rSh_succ {s : Int → Int} {n : Int} (h0 : 0 ≤ n) : ups (rSh s n) (248 + n) (rSh s n (248 + n + 25)) = rSh s (n + 1) := by
  funext k
  unfold ups rSh
  by_cases e : k = 248 + n
  · subst e
    rw [if_pos rfl, if_neg (by omega), if_pos (by omega)]
  · rw [if_neg e]
    by_cases e2 : 248 ≤ k ∧ k < 248 + n
    · rw [if_pos e2, if_pos (by omega)]
    · rw [if_neg e2, if_neg (by omega)]
def rOut (s : Int → Int) (sl msk miss fl : Int) (V F : Int → Int) : Int → Int := rOutT (if s 5 = 8 then ups (rSh s 175) 5 7 else s) sl msk miss fl V F
set_option maxRecDepth 20000 in
set_option maxHeartbeats 2000000 in
theorem tl_m_outs3 {d : Nat} {m : Nat} {h : HP} (hO : RO m h) {X : Nat → Int → Int} {s : Int → Int} {sl msk miss fl o : Int} {z : Option AV} (ht : 0 ≤ s 2 ∧ s 2 ≤ 100000) (hsl : 0 ≤ sl ∧ sl ≤ 100000) (h5 : 0 ≤ s 5 ∧ s 5 ≤ 7) {Q : HP → Prop} (K : Q (wX m h (setS X (rOut3 s sl)))) : At d 50 114 [some (.inr (some m)), some (.inl sl), some (.inl msk), some (.inl miss), some (.inl fl), some (.inl o), z] [] (wX m h (setS X s)) (fun v h' => v = none ∧ Q h') := by
  have hC : cod 50 = c_m_outs := rfl
  refine x_1 (p' := 115) hC rfl rfl rfl rfl ?_
  refine y_gR (p' := 116) (n := 1) hO hC rfl rfl rfl rfl ?_
  refine x_1 (p' := 117) hC rfl rfl rfl rfl ?_
  refine y_ld (p' := 118) (L := 15568) hO hC rfl rfl rfl rfl (by omega) (by omega) ?_
  simp only [upX_1, setS_setS, setS_1]
  refine x_1 (p' := 119) hC rfl rfl rfl rfl ?_
  refine x_sub (p' := 120) hC rfl rfl rfl (⟨by omega, by omega⟩) ?_
  refine x_stI6 (p' := 121) hC rfl rfl rfl ?_
  refine x_1 (p' := 122) hC rfl rfl rfl rfl ?_
  refine y_gR (p' := 123) (n := 1) hO hC rfl rfl rfl rfl ?_
  refine x_1 (p' := 124) hC rfl rfl rfl rfl ?_
  refine x_1 (p' := 125) hC rfl rfl rfl rfl ?_
  refine y_gR (p' := 126) (n := 1) hO hC rfl rfl rfl rfl ?_
  refine x_1 (p' := 127) hC rfl rfl rfl rfl ?_
  refine y_ld (p' := 128) (L := 15568) hO hC rfl rfl rfl rfl (by omega) (by omega) ?_
  simp only [upX_1, setS_setS, setS_1]
  refine x_ifeq (p' := 129) hC rfl rfl (fun c128 => ?_) (fun c128 => ?_)
  · refine x_1 (p' := 136) hC rfl rfl rfl rfl ?_
    refine x_1 (p' := 141) hC rfl rfl rfl rfl ?_
    refine y_st (p' := 142) (L := 15568) hO hC rfl rfl rfl rfl (by omega) (by omega) ?_
    simp only [upX_1, setS_setS, setS_1]
    refine x_1 (p' := 143) hC rfl rfl rfl rfl ?_
    refine y_gR (p' := 144) (n := 1) hO hC rfl rfl rfl rfl ?_
    refine x_1 (p' := 145) hC rfl rfl rfl rfl ?_
    refine x_1 (p' := 146) hC rfl rfl rfl rfl ?_
    refine y_ld (p' := 147) (L := 15568) hO hC rfl rfl rfl rfl (by omega) (by omega) ?_
    rw [setS_1, ups_ne (by omega)]
    refine x_1 (p' := 148) hC rfl rfl rfl rfl ?_
    refine x_add (p' := 149) hC rfl rfl rfl (⟨by omega, by omega⟩) ?_
    refine y_st (p' := 150) (L := 15568) hO hC rfl rfl rfl rfl (by omega) (by omega) ?_
    simp only [upX_1, setS_setS, setS_1]
    refine x_1 (p' := 151) hC rfl rfl rfl rfl ?_
    refine y_gR (p' := 152) (n := 1) hO hC rfl rfl rfl rfl ?_
    refine x_1 (p' := 153) hC rfl rfl rfl rfl ?_
    refine x_1 (p' := 154) hC rfl rfl rfl rfl ?_
    refine y_ld (p' := 155) (L := 15568) hO hC rfl rfl rfl rfl (by omega) (by omega) ?_
    rw [setS_1, ups_ne (by omega), ups_ne (by omega)]
    refine x_1 (p' := 156) hC rfl rfl rfl rfl ?_
    refine x_1 (p' := 157) hC rfl rfl rfl rfl ?_
    refine y_st (p' := 158) (L := 15568) hO hC rfl rfl rfl rfl (by omega) (by omega) ?_
    simp only [upX_1, setS_setS, setS_1]
    refine x_ret hC rfl rfl rfl ⟨rfl, ?_⟩
    unfold rOut3 at K
    first
      | (rw [if_pos (by omega)] at K; exact K)
      | (rw [if_neg (by omega)] at K; exact K)
  · refine x_1 (p' := 130) hC rfl rfl rfl rfl ?_
    refine x_1 (p' := 131) hC rfl rfl rfl rfl ?_
    refine y_gR (p' := 132) (n := 1) hO hC rfl rfl rfl rfl ?_
    refine x_1 (p' := 133) hC rfl rfl rfl rfl ?_
    refine y_ld (p' := 134) (L := 15568) hO hC rfl rfl rfl rfl (by omega) (by omega) ?_
    simp only [upX_1, setS_setS, setS_1]
    refine x_icle (p' := 135) hC rfl rfl (fun c134 => ?_) (fun c134 => ?_)
    · refine x_1 (p' := 138) hC rfl rfl rfl rfl ?_
      refine y_gR (p' := 139) (n := 1) hO hC rfl rfl rfl rfl ?_
      refine x_1 (p' := 140) hC rfl rfl rfl rfl ?_
      refine y_ld (p' := 141) (L := 15568) hO hC rfl rfl rfl rfl (by omega) (by omega) ?_
      simp only [upX_1, setS_setS, setS_1]
      refine y_st (p' := 142) (L := 15568) hO hC rfl rfl rfl rfl (by omega) (by omega) ?_
      simp only [upX_1, setS_setS, setS_1]
      refine x_1 (p' := 143) hC rfl rfl rfl rfl ?_
      refine y_gR (p' := 144) (n := 1) hO hC rfl rfl rfl rfl ?_
      refine x_1 (p' := 145) hC rfl rfl rfl rfl ?_
      refine x_1 (p' := 146) hC rfl rfl rfl rfl ?_
      refine y_ld (p' := 147) (L := 15568) hO hC rfl rfl rfl rfl (by omega) (by omega) ?_
      rw [setS_1, ups_ne (by omega)]
      refine x_1 (p' := 148) hC rfl rfl rfl rfl ?_
      refine x_add (p' := 149) hC rfl rfl rfl (⟨by omega, by omega⟩) ?_
      refine y_st (p' := 150) (L := 15568) hO hC rfl rfl rfl rfl (by omega) (by omega) ?_
      simp only [upX_1, setS_setS, setS_1]
      refine x_1 (p' := 151) hC rfl rfl rfl rfl ?_
      refine y_gR (p' := 152) (n := 1) hO hC rfl rfl rfl rfl ?_
      refine x_1 (p' := 153) hC rfl rfl rfl rfl ?_
      refine x_1 (p' := 154) hC rfl rfl rfl rfl ?_
      refine y_ld (p' := 155) (L := 15568) hO hC rfl rfl rfl rfl (by omega) (by omega) ?_
      rw [setS_1, ups_ne (by omega), ups_ne (by omega)]
      refine x_1 (p' := 156) hC rfl rfl rfl rfl ?_
      refine x_1 (p' := 157) hC rfl rfl rfl rfl ?_
      refine y_st (p' := 158) (L := 15568) hO hC rfl rfl rfl rfl (by omega) (by omega) ?_
      simp only [upX_1, setS_setS, setS_1]
      refine x_ret hC rfl rfl rfl ⟨rfl, ?_⟩
      unfold rOut3 at K
      first
        | (rw [if_pos (by omega)] at K; exact K)
        | (rw [if_neg (by omega)] at K; exact K)
    · refine x_1 (p' := 136) hC rfl rfl rfl rfl ?_
      refine x_1 (p' := 141) hC rfl rfl rfl rfl ?_
      refine y_st (p' := 142) (L := 15568) hO hC rfl rfl rfl rfl (by omega) (by omega) ?_
      simp only [upX_1, setS_setS, setS_1]
      refine x_1 (p' := 143) hC rfl rfl rfl rfl ?_
      refine y_gR (p' := 144) (n := 1) hO hC rfl rfl rfl rfl ?_
      refine x_1 (p' := 145) hC rfl rfl rfl rfl ?_
      refine x_1 (p' := 146) hC rfl rfl rfl rfl ?_
      refine y_ld (p' := 147) (L := 15568) hO hC rfl rfl rfl rfl (by omega) (by omega) ?_
      rw [setS_1, ups_ne (by omega)]
      refine x_1 (p' := 148) hC rfl rfl rfl rfl ?_
      refine x_add (p' := 149) hC rfl rfl rfl (⟨by omega, by omega⟩) ?_
      refine y_st (p' := 150) (L := 15568) hO hC rfl rfl rfl rfl (by omega) (by omega) ?_
      simp only [upX_1, setS_setS, setS_1]
      refine x_1 (p' := 151) hC rfl rfl rfl rfl ?_
      refine y_gR (p' := 152) (n := 1) hO hC rfl rfl rfl rfl ?_
      refine x_1 (p' := 153) hC rfl rfl rfl rfl ?_
      refine x_1 (p' := 154) hC rfl rfl rfl rfl ?_
      refine y_ld (p' := 155) (L := 15568) hO hC rfl rfl rfl rfl (by omega) (by omega) ?_
      rw [setS_1, ups_ne (by omega), ups_ne (by omega)]
      refine x_1 (p' := 156) hC rfl rfl rfl rfl ?_
      refine x_1 (p' := 157) hC rfl rfl rfl rfl ?_
      refine y_st (p' := 158) (L := 15568) hO hC rfl rfl rfl rfl (by omega) (by omega) ?_
      simp only [upX_1, setS_setS, setS_1]
      refine x_ret hC rfl rfl rfl ⟨rfl, ?_⟩
      unfold rOut3 at K
      first
        | (rw [if_pos (by omega)] at K; exact K)
        | (rw [if_neg (by omega)] at K; exact K)
set_option maxRecDepth 20000 in
theorem lp_m_outs2 {d : Nat} {m : Nat} {h : HP} (hO : RO m h) {X : Nat → Int → Int} {s : Int → Int} {sl msk miss fl o : Int} (ho : 248 ≤ o ∧ o ≤ 423) (ht : 0 ≤ s 2 ∧ s 2 ≤ 100000) (hsl : 0 ≤ sl ∧ sl ≤ 100000) (h5 : 0 ≤ s 5 ∧ s 5 ≤ 7) {Q : HP → Prop} (K : Q (wX m h (setS X (rOut3 (rLay s o 10 (X 7) (X 8)) sl)))) (k : Nat) : ∀ (i : Int), (10 - i).toNat < k → (0 ≤ i ∧ i ≤ 10) → At (d) 50 85 [some (.inr (some m)), some (.inl sl), some (.inl msk), some (.inl miss), some (.inl fl), some (.inl o), some (.inl i)] [] (wX m h (setS X (rLay s o i (X 7) (X 8)))) (fun v h' => v = none ∧ Q h') := by
  have hC : cod 50 = c_m_outs := rfl
  induction k with
  | zero =>
    intro i hk
    exact absurd hk (Nat.not_lt_zero _)
  | succ k ih =>
    intro i hk hI0
    refine x_1 (p' := 86) hC rfl rfl rfl rfl ?_
    refine x_1 (p' := 87) hC rfl rfl rfl rfl ?_
    refine x_icge (p' := 88) hC rfl rfl (fun c87 => ?_) (fun c87 => ?_)
    · rw [show i = 10 by omega]
      exact tl_m_outs3 hO (by rw [rLay_ne (by omega) (by omega)]; exact ht) hsl (by rw [rLay_ne (by omega) (by omega)]; exact h5) K
    · refine x_1 (p' := 89) hC rfl rfl rfl rfl ?_
      refine y_gR (p' := 90) (n := 1) hO hC rfl rfl rfl rfl ?_
      refine x_1 (p' := 91) hC rfl rfl rfl rfl ?_
      refine x_1 (p' := 92) hC rfl rfl rfl rfl ?_
      refine x_add (p' := 93) hC rfl rfl rfl (⟨by omega, by omega⟩) ?_
      refine x_1 (p' := 94) hC rfl rfl rfl rfl ?_
      refine x_add (p' := 95) hC rfl rfl rfl (⟨by omega, by omega⟩) ?_
      refine x_1 (p' := 96) hC rfl rfl rfl rfl ?_
      refine y_gR (p' := 97) (n := 7) hO hC rfl rfl rfl rfl ?_
      refine x_1 (p' := 98) hC rfl rfl rfl rfl ?_
      refine y_ld (p' := 99) (L := 10) hO hC rfl rfl rfl rfl (by omega) (by omega) ?_
      rw [setS_ne (by decide)]
      refine y_st (p' := 100) (L := 15568) hO hC rfl rfl rfl rfl (by omega) (by omega) ?_
      simp only [upX_1, setS_setS, setS_1]
      refine x_1 (p' := 101) hC rfl rfl rfl rfl ?_
      refine y_gR (p' := 102) (n := 1) hO hC rfl rfl rfl rfl ?_
      refine x_1 (p' := 103) hC rfl rfl rfl rfl ?_
      refine x_1 (p' := 104) hC rfl rfl rfl rfl ?_
      refine x_add (p' := 105) hC rfl rfl rfl (⟨by omega, by omega⟩) ?_
      refine x_1 (p' := 106) hC rfl rfl rfl rfl ?_
      refine x_add (p' := 107) hC rfl rfl rfl (⟨by omega, by omega⟩) ?_
      refine x_1 (p' := 108) hC rfl rfl rfl rfl ?_
      refine y_gR (p' := 109) (n := 8) hO hC rfl rfl rfl rfl ?_
      refine x_1 (p' := 110) hC rfl rfl rfl rfl ?_
      refine y_ld (p' := 111) (L := 10) hO hC rfl rfl rfl rfl (by omega) (by omega) ?_
      rw [setS_ne (by decide)]
      refine y_st (p' := 112) (L := 15568) hO hC rfl rfl rfl rfl (by omega) (by omega) ?_
      simp only [upX_1, setS_setS, setS_1]
      refine x_inc6 (p' := 113) hC rfl rfl (⟨by omega, by omega⟩) ?_
      refine x_1 (p' := 85) hC rfl rfl rfl rfl ?_
      rw [rLay_succ (by omega) (by omega)]
      exact ih _ (by omega) (by omega)
set_option maxRecDepth 20000 in
set_option maxHeartbeats 2000000 in
theorem tl_m_outs1 {d : Nat} {m : Nat} {h : HP} (hO : RO m h) {X : Nat → Int → Int} {s : Int → Int} {sl msk miss fl : Int} {z5 z : Option AV} (ht : 0 ≤ s 2 ∧ s 2 ≤ 100000) (hsl : 0 ≤ sl ∧ sl ≤ 100000) (h5 : 0 ≤ s 5 ∧ s 5 ≤ 7) {Q : HP → Prop} (K : Q (wX m h (setS X (rOutT s sl msk miss fl (X 7) (X 8))))) : At d 50 32 [some (.inr (some m)), some (.inl sl), some (.inl msk), some (.inl miss), some (.inl fl), z5, z] [] (wX m h (setS X s)) (fun v h' => v = none ∧ Q h') := by
  have hC : cod 50 = c_m_outs := rfl
  refine x_1 (p' := 33) hC rfl rfl rfl rfl ?_
  refine x_1 (p' := 34) hC rfl rfl rfl rfl ?_
  refine x_1 (p' := 35) hC rfl rfl rfl rfl ?_
  refine y_gR (p' := 36) (n := 1) hO hC rfl rfl rfl rfl ?_
  refine x_1 (p' := 37) hC rfl rfl rfl rfl ?_
  refine y_ld (p' := 38) (L := 15568) hO hC rfl rfl rfl rfl (by omega) (by omega) ?_
  simp only [upX_1, setS_setS, setS_1]
  refine x_mul (p' := 39) hC rfl rfl rfl (⟨by omega, by omega⟩) ?_
  refine x_add (p' := 40) hC rfl rfl rfl (⟨by omega, by omega⟩) ?_
  refine x_stI5 (p' := 41) hC rfl rfl rfl ?_
  refine x_1 (p' := 42) hC rfl rfl rfl rfl ?_
  refine y_gR (p' := 43) (n := 1) hO hC rfl rfl rfl rfl ?_
  refine x_1 (p' := 44) hC rfl rfl rfl rfl ?_
  refine x_1 (p' := 45) hC rfl rfl rfl rfl ?_
  refine y_st (p' := 46) (L := 15568) hO hC rfl rfl rfl rfl (by omega) (by omega) ?_
  simp only [upX_1, setS_setS, setS_1]
  refine x_1 (p' := 47) hC rfl rfl rfl rfl ?_
  refine y_gR (p' := 48) (n := 1) hO hC rfl rfl rfl rfl ?_
  refine x_1 (p' := 49) hC rfl rfl rfl rfl ?_
  refine x_1 (p' := 50) hC rfl rfl rfl rfl ?_
  refine x_add (p' := 51) hC rfl rfl rfl (⟨by omega, by omega⟩) ?_
  refine x_1 (p' := 52) hC rfl rfl rfl rfl ?_
  refine y_gR (p' := 53) (n := 1) hO hC rfl rfl rfl rfl ?_
  refine x_1 (p' := 54) hC rfl rfl rfl rfl ?_
  refine y_ld (p' := 55) (L := 15568) hO hC rfl rfl rfl rfl (by omega) (by omega) ?_
  rw [setS_1, ups_ne (by omega)]
  refine y_st (p' := 56) (L := 15568) hO hC rfl rfl rfl rfl (by omega) (by omega) ?_
  simp only [upX_1, setS_setS, setS_1]
  refine x_1 (p' := 57) hC rfl rfl rfl rfl ?_
  refine y_gR (p' := 58) (n := 1) hO hC rfl rfl rfl rfl ?_
  refine x_1 (p' := 59) hC rfl rfl rfl rfl ?_
  refine x_1 (p' := 60) hC rfl rfl rfl rfl ?_
  refine x_add (p' := 61) hC rfl rfl rfl (⟨by omega, by omega⟩) ?_
  refine x_1 (p' := 62) hC rfl rfl rfl rfl ?_
  refine x_1 (p' := 63) hC rfl rfl rfl rfl ?_
  refine x_ifle (p' := 64) hC rfl rfl (fun c63 => ?_) (fun c63 => ?_)
  · refine x_1 (p' := 67) hC rfl rfl rfl rfl ?_
    refine x_1 (p' := 68) hC rfl rfl rfl rfl ?_
    refine y_st (p' := 69) (L := 15568) hO hC rfl rfl rfl rfl (by omega) (by omega) ?_
    simp only [upX_1, setS_setS, setS_1]
    refine x_1 (p' := 70) hC rfl rfl rfl rfl ?_
    refine y_gR (p' := 71) (n := 1) hO hC rfl rfl rfl rfl ?_
    refine x_1 (p' := 72) hC rfl rfl rfl rfl ?_
    refine x_1 (p' := 73) hC rfl rfl rfl rfl ?_
    refine x_add (p' := 74) hC rfl rfl rfl (⟨by omega, by omega⟩) ?_
    refine x_1 (p' := 75) hC rfl rfl rfl rfl ?_
    refine y_st (p' := 76) (L := 15568) hO hC rfl rfl rfl rfl (by omega) (by omega) ?_
    simp only [upX_1, setS_setS, setS_1]
    refine x_1 (p' := 77) hC rfl rfl rfl rfl ?_
    refine y_gR (p' := 78) (n := 1) hO hC rfl rfl rfl rfl ?_
    refine x_1 (p' := 79) hC rfl rfl rfl rfl ?_
    refine x_1 (p' := 80) hC rfl rfl rfl rfl ?_
    refine x_add (p' := 81) hC rfl rfl rfl (⟨by omega, by omega⟩) ?_
    refine x_1 (p' := 82) hC rfl rfl rfl rfl ?_
    refine y_st (p' := 83) (L := 15568) hO hC rfl rfl rfl rfl (by omega) (by omega) ?_
    simp only [upX_1, setS_setS, setS_1]
    refine x_1 (p' := 84) hC rfl rfl rfl rfl ?_
    refine x_stI6 (p' := 85) hC rfl rfl rfl ?_
    unfold rOutT at K
    first
      | rw [if_pos (by omega)] at K
      | rw [if_neg (by omega)] at K
    refine lp_m_outs2 hO (s := ups (ups (ups (ups (ups s (248 + 25 * s 5) sl) (248 + 25 * s 5 + 1) (s 2)) (248 + 25 * s 5 + 2) _) (248 + 25 * s 5 + 3) msk) (248 + 25 * s 5 + 4) miss) (by omega) ?_ hsl ?_ K _ 0 (Nat.lt_succ_self _) (by omega) |> fun q => (by rw [rLay_0] at q; exact q)
    all_goals ((iterate 5 (rw [ups_ne (by omega)])); assumption)
  · refine x_1 (p' := 65) hC rfl rfl rfl rfl ?_
    refine x_1 (p' := 67) hC rfl rfl rfl rfl ?_
    refine x_1 (p' := 68) hC rfl rfl rfl rfl ?_
    refine y_st (p' := 69) (L := 15568) hO hC rfl rfl rfl rfl (by omega) (by omega) ?_
    simp only [upX_1, setS_setS, setS_1]
    refine x_1 (p' := 70) hC rfl rfl rfl rfl ?_
    refine y_gR (p' := 71) (n := 1) hO hC rfl rfl rfl rfl ?_
    refine x_1 (p' := 72) hC rfl rfl rfl rfl ?_
    refine x_1 (p' := 73) hC rfl rfl rfl rfl ?_
    refine x_add (p' := 74) hC rfl rfl rfl (⟨by omega, by omega⟩) ?_
    refine x_1 (p' := 75) hC rfl rfl rfl rfl ?_
    refine y_st (p' := 76) (L := 15568) hO hC rfl rfl rfl rfl (by omega) (by omega) ?_
    simp only [upX_1, setS_setS, setS_1]
    refine x_1 (p' := 77) hC rfl rfl rfl rfl ?_
    refine y_gR (p' := 78) (n := 1) hO hC rfl rfl rfl rfl ?_
    refine x_1 (p' := 79) hC rfl rfl rfl rfl ?_
    refine x_1 (p' := 80) hC rfl rfl rfl rfl ?_
    refine x_add (p' := 81) hC rfl rfl rfl (⟨by omega, by omega⟩) ?_
    refine x_1 (p' := 82) hC rfl rfl rfl rfl ?_
    refine y_st (p' := 83) (L := 15568) hO hC rfl rfl rfl rfl (by omega) (by omega) ?_
    simp only [upX_1, setS_setS, setS_1]
    refine x_1 (p' := 84) hC rfl rfl rfl rfl ?_
    refine x_stI6 (p' := 85) hC rfl rfl rfl ?_
    unfold rOutT at K
    first
      | rw [if_pos (by omega)] at K
      | rw [if_neg (by omega)] at K
    refine lp_m_outs2 hO (s := ups (ups (ups (ups (ups s (248 + 25 * s 5) sl) (248 + 25 * s 5 + 1) (s 2)) (248 + 25 * s 5 + 2) _) (248 + 25 * s 5 + 3) msk) (248 + 25 * s 5 + 4) miss) (by omega) ?_ hsl ?_ K _ 0 (Nat.lt_succ_self _) (by omega) |> fun q => (by rw [rLay_0] at q; exact q)
    all_goals ((iterate 5 (rw [ups_ne (by omega)])); assumption)
set_option maxRecDepth 20000 in
theorem lp_m_outs {d : Nat} {m : Nat} {h : HP} (hO : RO m h) {X : Nat → Int → Int} {sl msk miss fl : Int} {z : Option AV} (ht : 0 ≤ X 1 2 ∧ X 1 2 ≤ 100000) (hsl : 0 ≤ sl ∧ sl ≤ 100000) {Q : HP → Prop} (K : Q (wX m h (setS X (rOutT (ups (rSh (X 1) 175) 5 7) sl msk miss fl (X 7) (X 8))))) (k : Nat) : ∀ (i : Int), (175 - i).toNat < k → (0 ≤ i ∧ i ≤ 175) → At (d) 50 8 [some (.inr (some m)), some (.inl sl), some (.inl msk), some (.inl miss), some (.inl fl), some (.inl i), z] [] (wX m h (setS X (rSh (X 1) i))) (fun v h' => v = none ∧ Q h') := by
  have hC : cod 50 = c_m_outs := rfl
  induction k with
  | zero =>
    intro i hk
    exact absurd hk (Nat.not_lt_zero _)
  | succ k ih =>
    intro i hk hI0
    refine x_1 (p' := 9) hC rfl rfl rfl rfl ?_
    refine x_1 (p' := 10) hC rfl rfl rfl rfl ?_
    refine x_icge (p' := 11) hC rfl rfl (fun c10 => ?_) (fun c10 => ?_)
    · refine x_1 (p' := 28) hC rfl rfl rfl rfl ?_
      refine y_gR (p' := 29) (n := 1) hO hC rfl rfl rfl rfl ?_
      refine x_1 (p' := 30) hC rfl rfl rfl rfl ?_
      refine x_1 (p' := 31) hC rfl rfl rfl rfl ?_
      refine y_st (p' := 32) (L := 15568) hO hC rfl rfl rfl rfl (by omega) (by omega) ?_
      simp only [upX_1, setS_setS, setS_1]
      rw [show i = 175 by omega]
      refine tl_m_outs1 hO ?_ hsl ?_ K
      · rw [ups_ne (by omega)]; unfold rSh; rw [if_neg (by omega)]; exact ht
      · rw [ups_eq rfl]; omega
    · refine x_1 (p' := 12) hC rfl rfl rfl rfl ?_
      refine y_gR (p' := 13) (n := 1) hO hC rfl rfl rfl rfl ?_
      refine x_1 (p' := 14) hC rfl rfl rfl rfl ?_
      refine x_1 (p' := 15) hC rfl rfl rfl rfl ?_
      refine x_add (p' := 16) hC rfl rfl rfl (⟨by omega, by omega⟩) ?_
      refine x_1 (p' := 17) hC rfl rfl rfl rfl ?_
      refine y_gR (p' := 18) (n := 1) hO hC rfl rfl rfl rfl ?_
      refine x_1 (p' := 19) hC rfl rfl rfl rfl ?_
      refine x_1 (p' := 20) hC rfl rfl rfl rfl ?_
      refine x_add (p' := 21) hC rfl rfl rfl (⟨by omega, by omega⟩) ?_
      refine x_1 (p' := 22) hC rfl rfl rfl rfl ?_
      refine x_add (p' := 23) hC rfl rfl rfl (⟨by omega, by omega⟩) ?_
      refine y_ld (p' := 24) (L := 15568) hO hC rfl rfl rfl rfl (by omega) (by omega) ?_
      simp only [upX_1, setS_setS, setS_1]
      refine y_st (p' := 25) (L := 15568) hO hC rfl rfl rfl rfl (by omega) (by omega) ?_
      simp only [upX_1, setS_setS, setS_1]
      refine x_inc5 (p' := 26) hC rfl rfl (⟨by omega, by omega⟩) ?_
      refine x_1 (p' := 8) hC rfl rfl rfl rfl ?_
      rw [rSh_succ (by omega)]
      exact ih _ (by omega) (by omega)
set_option maxRecDepth 20000 in
set_option maxHeartbeats 2000000 in
theorem sp_m_outs {d : Nat} {m : Nat} {h : HP} (hO : RO m h) {X : Nat → Int → Int} (hs : RI (X 1)) {sl msk miss fl : Int} (ht : 0 ≤ X 1 2 ∧ X 1 2 ≤ 100000) (hsl : 0 ≤ sl ∧ sl ≤ 100000) {Q : HP → Prop} (K : Q (wX m h (setS X (rOut (X 1) sl msk miss fl (X 7) (X 8))))) : CaV d 50 [.inr (some m), .inl sl, .inl msk, .inl miss, .inl fl] (wX m h X) Q := by
  have hC : cod 50 = c_m_outs := rfl
  refine CaV.start rfl ?_
  have hs2 := hs.2.2.2.1
  unfold rOut at K
  refine x_1 (p' := 1) hC rfl rfl rfl rfl ?_
  refine y_gR (p' := 2) (n := 1) hO hC rfl rfl rfl rfl ?_
  refine x_1 (p' := 3) hC rfl rfl rfl rfl ?_
  refine y_ld (p' := 4) (L := 15568) hO hC rfl rfl rfl rfl (by omega) (by omega) ?_
  refine x_1 (p' := 5) hC rfl rfl rfl rfl ?_
  refine x_icne (p' := 6) hC rfl rfl (fun c5 => ?_) (fun c5 => ?_)
  · rw [if_neg (by omega)] at K
    have q := tl_m_outs1 (d := d) hO (X := X) (s := X 1) (z5 := none) (z := none) ht hsl (by omega) K
    rw [setS_id] at q
    exact q
  · refine x_1 (p' := 7) hC rfl rfl rfl rfl ?_
    refine x_stI5 (p' := 8) hC rfl rfl rfl ?_
    rw [if_pos (by omega)] at K
    have q := lp_m_outs (d := d) hO ht hsl K _ 0 (z := none) (Nat.lt_succ_self _) (by omega)
    rw [rSh_0, setS_id] at q
    exact q

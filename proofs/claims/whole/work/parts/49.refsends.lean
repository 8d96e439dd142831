/-! the reference's frames that are sent on -/
/-- a frame's ints, laid in their order, then its readings -/
def rSent (s : Int → Int) (f a c sl due n msk : Int) (V F : Int → Int) : Int → Int := rLay (ups (ups (ups (ups (ups (ups (ups s (448 + 27 * f + 0) 1) (448 + 27 * f + 1) a) (448 + 27 * f + 2) c) (448 + 27 * f + 3) sl) (448 + 27 * f + 4) due) (448 + 27 * f + 5) n) (448 + 27 * f + 6) msk) (448 + 27 * f + 2) 10 V F
theorem Lo.lay {s s' : Int → Int} (h : Lo s s') {o n : Int} {V F : Int → Int} (ho : 448 ≤ o) (hn : 0 ≤ n) : Lo s (rLay s' o n V F) := fun k hk => (rLay_ne (by omega) hn).trans (h k hk)
theorem Lo.trans {s t r : Int → Int} (h : Lo s t) (g : Lo t r) : Lo s r := fun k hk => (g k hk).trans (h k hk)
theorem Lo.sent {s : Int → Int} {f a c sl due n msk : Int} {V F : Int → Int} (hf : 0 ≤ f) : Lo s (rSent s f a c sl due n msk V F) := by
  unfold rSent
  refine Lo.lay ?_ (by omega) (by omega)
  iterate 7 refine Lo.up ?_ (by omega)
  exact Lo.refl
theorem rSent_fr {s : Int → Int} {f a c sl due n msk : Int} {V F : Int → Int} : rFr (rSent s f a c sl due n msk V F) f 0 = 1 ∧ rFr (rSent s f a c sl due n msk V F) f 1 = a ∧ rFr (rSent s f a c sl due n msk V F) f 2 = c ∧ rFr (rSent s f a c sl due n msk V F) f 3 = sl ∧ rFr (rSent s f a c sl due n msk V F) f 4 = due ∧ rFr (rSent s f a c sl due n msk V F) f 5 = n ∧ rFr (rSent s f a c sl due n msk V F) f 6 = msk := by
  unfold rFr rSent
  refine ⟨?_, ?_, ?_, ?_, ?_, ?_, ?_⟩
  all_goals
    rw [rLay_ne (by omega) (by omega)]
    repeat (first | rw [ups_eq (by omega)] | rw [ups_ne (by omega)])
noncomputable def rSends (s : Int → Int) (g sl msk : Int) (V F : Int → Int) : Int → Int :=
  let t := ups (rSent (rFreed s) (rFree s) (rOf s g 5) (10 + g) sl (s 2 + rOf s g 3) (s 3) msk V F) 3 (wr (s 3 + 1))
  cif (rOf s g 3 = 0) (rComes t (rFree s)) t
theorem rFree_le {s : Int → Int} (hs : RI s) : 0 ≤ rFree s ∧ rFree s ≤ s 7 := rFree0_le s 560 0 (by have := hs.2.2.1; omega) (by have := hs.2.2.1; omega)
theorem RI.freed {s : Int → Int} (hs : RI s) : RI (rFreed s) := by
  have a7 := hs.2.2.1
  have a5 := hs.2.2.2.1
  have af := rFree_le hs
  unfold rFreed
  have b := b2i_01 (rFree s = s 7 ∧ rFree s < 559)
  refine hs.congr (ups_ne (by omega)) (ups_ne (by omega)) ?_ ?_ (fun g g0 hg => ⟨ups_ne (by omega), ups_ne (by omega)⟩) (fun u u0 hu => ⟨ups_ne (by omega), ups_ne (by omega)⟩)
  · rw [ups_eq rfl]
    rcases Classical.em (rFree s = s 7 ∧ rFree s < 559) with hp | hp
    · rw [b2i_t hp]; omega
    · rw [b2i_f hp]; omega
  · rw [ups_ne (by omega)]; exact a5
set_option maxRecDepth 20000 in
set_option maxHeartbeats 2000000 in
theorem tl_m_sends2 {d : Nat} {m : Nat} {h : HP} (hO : RO m h) {X : Nat → Int → Int} {s : Int → Int} (hs : RI s) {f g sl msk : Int} (hf : 0 ≤ f ∧ f < 560) (hg : 0 ≤ g ∧ g < 5) (ha : 0 ≤ rOf s g 5 ∧ rOf s g 5 < 5 ∧ 1 ≤ rOf s (rOf s g 5) 4 ∧ rOf s (rOf s g 5) 4 ≤ 20) (hsl : 0 ≤ sl ∧ sl ≤ 100000) (hd : 0 ≤ s 2 ∧ s 2 ≤ 100000 ∧ 0 ≤ rOf s g 3 ∧ rOf s g 3 ≤ 20) {z : Option AV} {Q : HP → Prop} (K : Q (wX m h (setS X (cif (rOf s g 3 = 0) (rComes (ups (rSent s f (rOf s g 5) (10 + g) sl (s 2 + rOf s g 3) (s 3) msk (X 7) (X 8)) 3 (wr (s 3 + 1))) f) (ups (rSent s f (rOf s g 5) (10 + g) sl (s 2 + rOf s g 3) (s 3) msk (X 7) (X 8)) 3 (wr (s 3 + 1))))))) : At (d + 4) 51 81 [some (.inr (some m)), some (.inl g), some (.inl sl), some (.inl msk), some (.inl f), z] [] (wX m h (setS X (rSent s f (rOf s g 5) (10 + g) sl (s 2 + rOf s g 3) (s 3) msk (X 7) (X 8)))) (fun v h' => v = none ∧ Q h') := by
  have hC : cod 51 = c_m_sends := rfl
  have hL : Lo s (rSent s f (rOf s g 5) (10 + g) sl (s 2 + rOf s g 3) (s 3) msk (X 7) (X 8)) := Lo.sent hf.1
  obtain ⟨f0, f1, f2, f3, f4, f5, f6⟩ := rSent_fr (s := s) (f := f) (a := rOf s g 5) (c := 10 + g) (sl := sl) (due := s 2 + rOf s g 3) (n := s 3) (msk := msk) (V := X 7) (F := X 8)
  generalize (rSent s f (rOf s g 5) (10 + g) sl (s 2 + rOf s g 3) (s 3) msk (X 7) (X 8)) = t at *
  have e3 : t 3 = s 3 := hL 3 (by omega)
  have h7 := hs.2.2.1
  have h5 := hs.2.2.2.1
  refine x_1 (p' := 82) hC rfl rfl rfl rfl ?_
  refine y_gR (p' := 83) (n := 1) hO hC rfl rfl rfl rfl ?_
  refine x_1 (p' := 84) hC rfl rfl rfl rfl ?_
  refine x_1 (p' := 85) hC rfl rfl rfl rfl ?_
  refine y_ld (p' := 86) (L := 15568) hO hC rfl rfl rfl rfl (by omega) (by omega) ?_
  rw [setS_1, e3]
  refine x_1 (p' := 87) hC rfl rfl rfl rfl ?_
  refine x_1 (p' := 88) hC rfl rfl rfl rfl ?_
  refine y_st (p' := 89) (L := 15568) hO hC rfl rfl rfl rfl (by omega) (by omega) ?_
  simp only [upX_1, setS_setS, setS_1]
  have hR : RI (ups t 3 (wr (s 3 + 1))) := (hL.ri hs).congr (ups_ne (by omega)) (ups_ne (by omega)) (by rw [ups_ne (by omega), hL 7 (by omega)]; exact h7) (by rw [ups_ne (by omega), hL 5 (by omega)]; exact h5) (fun g g0 hg => ⟨ups_ne (by omega), ups_ne (by omega)⟩) (fun u u0 hu => ⟨ups_ne (by omega), ups_ne (by omega)⟩)
  have gF : ∀ w, 0 ≤ w → rFr (ups t 3 (wr (s 3 + 1))) f w = rFr t f w := fun w hw => ups_ne (by omega)
  have gO : ∀ a w, 0 ≤ a → a < 5 → 0 ≤ w → w < 10 → rOf (ups t 3 (wr (s 3 + 1))) a w = rOf s a w := fun a w h0 h1 h2 h3 => (ups_ne (by omega)).trans (hL.of h1 h3)
  refine x_1 (p' := 90) hC rfl rfl rfl rfl ?_
  refine x_1 (p' := 91) hC rfl rfl rfl rfl ?_
  refine x_1 (p' := 92) hC rfl rfl rfl rfl ?_
  refine x_cIV2 (p' := 93) (n := 3) hC rfl rfl rfl rfl rfl (hO.ty) ?_
  refine sp_m_of hO (by omega) (by omega) ?_
  rw [setS_1, gO g 3 (by omega) (by omega) (by omega) (by omega)]
  refine x_ifne (p' := 94) hC rfl rfl (fun c93 => ?_) (fun c93 => ?_)
  · refine x_ret hC rfl rfl rfl ⟨rfl, ?_⟩
    first
      | (rw [cif_t (by omega)] at K; exact K)
      | (rw [cif_f (by omega)] at K; exact K)
  · refine x_1 (p' := 95) hC rfl rfl rfl rfl ?_
    refine x_1 (p' := 96) hC rfl rfl rfl rfl ?_
    refine x_cVV1 (p' := 97) (n := 44) hC rfl rfl rfl rfl rfl (hO.ty) ?_
    refine sp_m_comes hO (by rw [setS_1]; exact hR) hf ?_ ?_ ?_ ?_ ?_
    · rw [setS_1, gF 1 (by omega), f1]; omega
    · rw [setS_1, gF 2 (by omega), f2]; omega
    · rw [setS_1, gF 1 (by omega), f1, gO _ 4 (by omega) (by omega) (by omega) (by omega)]; exact ha.2.2
    · rw [setS_1, gF 3 (by omega), f3]; exact hsl
    rw [setS_1, setS_setS]
    refine x_ret hC rfl rfl rfl ⟨rfl, ?_⟩
    first
      | (rw [cif_t (by omega)] at K; exact K)
      | (rw [cif_f (by omega)] at K; exact K)
set_option maxRecDepth 20000 in
theorem lp_m_sends {d : Nat} {m : Nat} {h : HP} (hO : RO m h) {X : Nat → Int → Int} {s : Int → Int} (hs : RI s) {f g sl msk : Int} (hf : 0 ≤ f ∧ f < 560) (hg : 0 ≤ g ∧ g < 5) (ha : 0 ≤ rOf s g 5 ∧ rOf s g 5 < 5 ∧ 1 ≤ rOf s (rOf s g 5) 4 ∧ rOf s (rOf s g 5) 4 ≤ 20) (hsl : 0 ≤ sl ∧ sl ≤ 100000) (hd : 0 ≤ s 2 ∧ s 2 ≤ 100000 ∧ 0 ≤ rOf s g 3 ∧ rOf s g 3 ≤ 20) {Q : HP → Prop} (K : Q (wX m h (setS X (cif (rOf s g 3 = 0) (rComes (ups (rSent s f (rOf s g 5) (10 + g) sl (s 2 + rOf s g 3) (s 3) msk (X 7) (X 8)) 3 (wr (s 3 + 1))) f) (ups (rSent s f (rOf s g 5) (10 + g) sl (s 2 + rOf s g 3) (s 3) msk (X 7) (X 8)) 3 (wr (s 3 + 1))))))) (k : Nat) : ∀ (i : Int), (10 - i).toNat < k → (0 ≤ i ∧ i ≤ 10) → At (d + 4) 51 56 [some (.inr (some m)), some (.inl g), some (.inl sl), some (.inl msk), some (.inl f), some (.inl i)] [] (wX m h (setS X (rLay (ups (ups (ups (ups (ups (ups (ups s (448 + 27 * f + 0) 1) (448 + 27 * f + 1) (rOf s g 5)) (448 + 27 * f + 2) (10 + g)) (448 + 27 * f + 3) sl) (448 + 27 * f + 4) (s 2 + rOf s g 3)) (448 + 27 * f + 5) (s 3)) (448 + 27 * f + 6) msk) (448 + 27 * f + 2) i (X 7) (X 8)))) (fun v h' => v = none ∧ Q h') := by
  have hC : cod 51 = c_m_sends := rfl
  induction k with
  | zero =>
    intro i hk
    exact absurd hk (Nat.not_lt_zero _)
  | succ k ih =>
    intro i hk hI0
    refine x_1 (p' := 57) hC rfl rfl rfl rfl ?_
    refine x_1 (p' := 58) hC rfl rfl rfl rfl ?_
    refine x_icge (p' := 59) hC rfl rfl (fun c58 => ?_) (fun c58 => ?_)
    · rw [show i = 10 by omega]
      exact tl_m_sends2 hO hs hf hg ha hsl hd K
    · refine x_1 (p' := 60) hC rfl rfl rfl rfl ?_
      refine x_1 (p' := 61) hC rfl rfl rfl rfl ?_
      refine x_1 (p' := 62) hC rfl rfl rfl rfl ?_
      refine x_1 (p' := 63) hC rfl rfl rfl rfl ?_
      refine x_add (p' := 64) hC rfl rfl rfl (⟨by omega, by omega⟩) ?_
      refine x_1 (p' := 65) hC rfl rfl rfl rfl ?_
      refine y_gR (p' := 66) (n := 7) hO hC rfl rfl rfl rfl ?_
      refine x_1 (p' := 67) hC rfl rfl rfl rfl ?_
      refine y_ld (p' := 68) (L := 10) hO hC rfl rfl rfl rfl (by omega) (by omega) ?_
      rw [setS_ne (by decide)]
      refine x_cVV3 (p' := 69) (n := 6) hC rfl rfl rfl rfl rfl (hO.ty) ?_
      refine sp_m_lays hO (by omega) (by omega) ?_
      simp only [upX_1, setS_setS, setS_1]
      rw [show 448 + 27 * f + (7 + i) = 448 + 27 * f + 2 + 5 + i by omega]
      refine x_1 (p' := 70) hC rfl rfl rfl rfl ?_
      refine x_1 (p' := 71) hC rfl rfl rfl rfl ?_
      refine x_1 (p' := 72) hC rfl rfl rfl rfl ?_
      refine x_1 (p' := 73) hC rfl rfl rfl rfl ?_
      refine x_add (p' := 74) hC rfl rfl rfl (⟨by omega, by omega⟩) ?_
      refine x_1 (p' := 75) hC rfl rfl rfl rfl ?_
      refine y_gR (p' := 76) (n := 8) hO hC rfl rfl rfl rfl ?_
      refine x_1 (p' := 77) hC rfl rfl rfl rfl ?_
      refine y_ld (p' := 78) (L := 10) hO hC rfl rfl rfl rfl (by omega) (by omega) ?_
      rw [setS_ne (by decide)]
      refine x_cVV3 (p' := 79) (n := 6) hC rfl rfl rfl rfl rfl (hO.ty) ?_
      refine sp_m_lays hO (by omega) (by omega) ?_
      simp only [upX_1, setS_setS, setS_1]
      rw [show 448 + 27 * f + (17 + i) = 448 + 27 * f + 2 + 15 + i by omega]
      refine x_inc5 (p' := 80) hC rfl rfl (⟨by omega, by omega⟩) ?_
      refine x_1 (p' := 56) hC rfl rfl rfl rfl ?_
      rw [rLay_succ (by omega) (by omega)]
      exact ih _ (by omega) (by omega)
set_option maxRecDepth 20000 in
set_option maxHeartbeats 2000000 in
theorem tl_m_sends1 {d : Nat} {m : Nat} {h : HP} (hO : RO m h) {X : Nat → Int → Int} {s : Int → Int} (hs : RI s) {f g sl msk : Int} (hf : 0 ≤ f ∧ f < 560) (hg : 0 ≤ g ∧ g < 5) (ha : 0 ≤ rOf s g 5 ∧ rOf s g 5 < 5 ∧ 1 ≤ rOf s (rOf s g 5) 4 ∧ rOf s (rOf s g 5) 4 ≤ 20) (hsl : 0 ≤ sl ∧ sl ≤ 100000) (hd : 0 ≤ s 2 ∧ s 2 ≤ 100000 ∧ 0 ≤ rOf s g 3 ∧ rOf s g 3 ≤ 20) {z : Option AV} {Q : HP → Prop} (K : Q (wX m h (setS X (cif (rOf s g 3 = 0) (rComes (ups (rSent s f (rOf s g 5) (10 + g) sl (s 2 + rOf s g 3) (s 3) msk (X 7) (X 8)) 3 (wr (s 3 + 1))) f) (ups (rSent s f (rOf s g 5) (10 + g) sl (s 2 + rOf s g 3) (s 3) msk (X 7) (X 8)) 3 (wr (s 3 + 1))))))) : At (d + 4) 51 3 [some (.inr (some m)), some (.inl g), some (.inl sl), some (.inl msk), some (.inl f), z] [] (wX m h (setS X s)) (fun v h' => v = none ∧ Q h') := by
  have hC : cod 51 = c_m_sends := rfl
  refine x_1 (p' := 4) hC rfl rfl rfl rfl ?_
  refine x_1 (p' := 5) hC rfl rfl rfl rfl ?_
  refine x_1 (p' := 6) hC rfl rfl rfl rfl ?_
  refine x_1 (p' := 7) hC rfl rfl rfl rfl ?_
  refine x_cVV3 (p' := 8) (n := 6) hC rfl rfl rfl rfl rfl (hO.ty) ?_
  refine sp_m_lays hO (by omega) (by omega) ?_
  simp only [upX_1, setS_setS, setS_1]
  generalize e0 : ups _ (448 + 27 * f + 0) _ = t0
  have q0 : Lo s t0 := e0 ▸ Lo.up Lo.refl (by omega)
  refine x_1 (p' := 9) hC rfl rfl rfl rfl ?_
  refine x_1 (p' := 10) hC rfl rfl rfl rfl ?_
  refine x_1 (p' := 11) hC rfl rfl rfl rfl ?_
  refine x_1 (p' := 12) hC rfl rfl rfl rfl ?_
  refine x_1 (p' := 13) hC rfl rfl rfl rfl ?_
  refine x_1 (p' := 14) hC rfl rfl rfl rfl ?_
  refine x_cIV2 (p' := 15) (n := 3) hC rfl rfl rfl rfl rfl (hO.ty) ?_
  refine sp_m_of hO (by omega) (by omega) ?_
  rw [setS_1, q0.of (by omega) (by omega)]
  refine x_cVV3 (p' := 16) (n := 6) hC rfl rfl rfl rfl rfl (hO.ty) ?_
  refine sp_m_lays hO (by omega) (by omega) ?_
  simp only [upX_1, setS_setS, setS_1]
  generalize e1 : ups _ (448 + 27 * f + 1) _ = t1
  have q1 : Lo s t1 := e1 ▸ Lo.up q0 (by omega)
  refine x_1 (p' := 17) hC rfl rfl rfl rfl ?_
  refine x_1 (p' := 18) hC rfl rfl rfl rfl ?_
  refine x_1 (p' := 19) hC rfl rfl rfl rfl ?_
  refine x_1 (p' := 20) hC rfl rfl rfl rfl ?_
  refine x_1 (p' := 21) hC rfl rfl rfl rfl ?_
  refine x_add (p' := 22) hC rfl rfl rfl (⟨by omega, by omega⟩) ?_
  refine x_cVV3 (p' := 23) (n := 6) hC rfl rfl rfl rfl rfl (hO.ty) ?_
  refine sp_m_lays hO (by omega) (by omega) ?_
  simp only [upX_1, setS_setS, setS_1]
  generalize e2 : ups _ (448 + 27 * f + 2) _ = t2
  have q2 : Lo s t2 := e2 ▸ Lo.up q1 (by omega)
  refine x_1 (p' := 24) hC rfl rfl rfl rfl ?_
  refine x_1 (p' := 25) hC rfl rfl rfl rfl ?_
  refine x_1 (p' := 26) hC rfl rfl rfl rfl ?_
  refine x_1 (p' := 27) hC rfl rfl rfl rfl ?_
  refine x_cVV3 (p' := 28) (n := 6) hC rfl rfl rfl rfl rfl (hO.ty) ?_
  refine sp_m_lays hO (by omega) (by omega) ?_
  simp only [upX_1, setS_setS, setS_1]
  generalize e3 : ups _ (448 + 27 * f + 3) _ = t3
  have q3 : Lo s t3 := e3 ▸ Lo.up q2 (by omega)
  refine x_1 (p' := 29) hC rfl rfl rfl rfl ?_
  refine x_1 (p' := 30) hC rfl rfl rfl rfl ?_
  refine x_1 (p' := 31) hC rfl rfl rfl rfl ?_
  refine x_1 (p' := 32) hC rfl rfl rfl rfl ?_
  refine y_gR (p' := 33) (n := 1) hO hC rfl rfl rfl rfl ?_
  refine x_1 (p' := 34) hC rfl rfl rfl rfl ?_
  refine y_ld (p' := 35) (L := 15568) hO hC rfl rfl rfl rfl (by omega) (by omega) ?_
  rw [setS_1, q3 2 (by omega)]
  refine x_1 (p' := 36) hC rfl rfl rfl rfl ?_
  refine x_1 (p' := 37) hC rfl rfl rfl rfl ?_
  refine x_1 (p' := 38) hC rfl rfl rfl rfl ?_
  refine x_cIV2 (p' := 39) (n := 3) hC rfl rfl rfl rfl rfl (hO.ty) ?_
  refine sp_m_of hO (by omega) (by omega) ?_
  rw [setS_1, q3.of (by omega) (by omega)]
  refine x_add (p' := 40) hC rfl rfl rfl (⟨by omega, by omega⟩) ?_
  refine x_cVV3 (p' := 41) (n := 6) hC rfl rfl rfl rfl rfl (hO.ty) ?_
  refine sp_m_lays hO (by omega) (by omega) ?_
  simp only [upX_1, setS_setS, setS_1]
  generalize e4 : ups _ (448 + 27 * f + 4) _ = t4
  have q4 : Lo s t4 := e4 ▸ Lo.up q3 (by omega)
  refine x_1 (p' := 42) hC rfl rfl rfl rfl ?_
  refine x_1 (p' := 43) hC rfl rfl rfl rfl ?_
  refine x_1 (p' := 44) hC rfl rfl rfl rfl ?_
  refine x_1 (p' := 45) hC rfl rfl rfl rfl ?_
  refine y_gR (p' := 46) (n := 1) hO hC rfl rfl rfl rfl ?_
  refine x_1 (p' := 47) hC rfl rfl rfl rfl ?_
  refine y_ld (p' := 48) (L := 15568) hO hC rfl rfl rfl rfl (by omega) (by omega) ?_
  rw [setS_1, q4 3 (by omega)]
  refine x_cVV3 (p' := 49) (n := 6) hC rfl rfl rfl rfl rfl (hO.ty) ?_
  refine sp_m_lays hO (by omega) (by omega) ?_
  simp only [upX_1, setS_setS, setS_1]
  generalize e5 : ups _ (448 + 27 * f + 5) _ = t5
  have q5 : Lo s t5 := e5 ▸ Lo.up q4 (by omega)
  refine x_1 (p' := 50) hC rfl rfl rfl rfl ?_
  refine x_1 (p' := 51) hC rfl rfl rfl rfl ?_
  refine x_1 (p' := 52) hC rfl rfl rfl rfl ?_
  refine x_1 (p' := 53) hC rfl rfl rfl rfl ?_
  refine x_cVV3 (p' := 54) (n := 6) hC rfl rfl rfl rfl rfl (hO.ty) ?_
  refine sp_m_lays hO (by omega) (by omega) ?_
  simp only [upX_1, setS_setS, setS_1]
  generalize e6 : ups _ (448 + 27 * f + 6) _ = t6
  have q6 : Lo s t6 := e6 ▸ Lo.up q5 (by omega)
  refine x_1 (p' := 55) hC rfl rfl rfl rfl ?_
  refine x_stI5 (p' := 56) hC rfl rfl rfl ?_
  subst e6 e5 e4 e3 e2 e1 e0
  have q := lp_m_sends (d := d) hO hs hf hg ha hsl hd K _ 0 (Nat.lt_succ_self _) (by omega)
  rw [rLay_0] at q
  exact q
set_option maxRecDepth 20000 in
set_option maxHeartbeats 2000000 in
theorem sp_m_sends {d : Nat} {m : Nat} {h : HP} (hO : RO m h) {X : Nat → Int → Int} (hs : RI (X 1)) {g sl msk : Int} (hg : 0 ≤ g ∧ g < X 1 0) (ha : 0 ≤ rOf (X 1) g 5) (hsl : 0 ≤ sl ∧ sl ≤ 100000) (hd : 0 ≤ X 1 2 ∧ X 1 2 ≤ 100000 ∧ 0 ≤ rOf (X 1) g 3 ∧ rOf (X 1) g 3 ≤ 20) {Q : HP → Prop} (K : Q (wX m h (setS X (rSends (X 1) g sl msk (X 7) (X 8))))) : CaV (d + 4) 51 [.inr (some m), .inl g, .inl sl, .inl msk] (wX m h X) Q := by
  have hC : cod 51 = c_m_sends := rfl
  refine CaV.start rfl ?_
  have h0 := hs.1
  have hfl := rFree_le hs
  have h7 := hs.2.2.1
  have hg2 := hs.2.2.2.2.1 g hg.1 hg.2
  have ha2 := hs.2.2.2.2.1 (rOf (X 1) g 5) ha (by omega)
  have eO : ∀ a w, 0 ≤ a → a < 5 → 0 ≤ w → w < 10 → rOf (rFreed (X 1)) a w = rOf (X 1) a w := fun a w _ _ _ _ => ups_ne (by omega)
  have e2 : rFreed (X 1) 2 = X 1 2 := ups_ne (by omega)
  have e3 : rFreed (X 1) 3 = X 1 3 := ups_ne (by omega)
  have e5 := eO g 5 (by omega) (by omega) (by omega) (by omega)
  have e53 := eO g 3 (by omega) (by omega) (by omega) (by omega)
  have e54 := eO (rOf (X 1) g 5) 4 (by omega) (by omega) (by omega) (by omega)
  refine x_1 (p' := 1) hC rfl rfl rfl rfl ?_
  refine x_cIV0 (p' := 2) (n := 43) hC rfl rfl rfl rfl rfl (hO.ty) ?_
  refine sp_m_free hO hs ?_
  refine x_stI4 (p' := 3) hC rfl rfl rfl ?_
  refine tl_m_sends1 hO (RI.freed hs) (by omega) (by omega) ?_ hsl ?_ ?_
  · rw [e5, e54]; omega
  · rw [e2, e53]; exact hd
  · rw [e5, e2, e53, e3]; exact K

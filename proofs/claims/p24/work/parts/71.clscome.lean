/-! THE CLASS: frames sent, and come -/
def cTgt (S : Nat → Int → Int) (c : Int) : Int := if c < 5 then cH S c 3 else cU S (c - 5) 0
def cGone (S : Nat → Int → Int) (c : Int) : Prop := 5 ≤ c ∧ ¬ cU S (c - 5) 2 = 0
def cLate (S : Nat → Int → Int) (g c sl : Int) : Prop := cGone S c ∨ sl ≤ cH S g 8
theorem SR.upX1 {S : Nat → Int → Int} {n : Nat} {k v : Int} (h : n = 6 ∨ n = 7 ∨ n = 8 ∨ n = 9 ∨ n = 10 ∨ n = 3) : SR S (upX S n k v) := by
  refine ⟨?_, ?_, ?_, ?_⟩
  · funext j; exact congrFun (upX_ne (by omega)) j
  · funext q j; exact congrFun (upX_ne (by omega)) j
  · funext q j; exact congrFun (upX_ne (by omega)) j
  · funext q j; exact congrFun (upX_ne (by omega)) j
theorem SR.refl {S : Nat → Int → Int} : SR S S := ⟨rfl, rfl, rfl, rfl⟩
/-- what an arriving frame's child must keep to -/
def cFrom_ok (S : Nat → Int → Int) (c : Int) : Prop := (0 ≤ c ∧ c < 15) ∧ (c < 5 → c < cT S 4 ∧ 0 ≤ cH S c 3) ∧ (5 ≤ c → c - 5 < cT S 5)
theorem cTgt_rng {S : Nat → Int → Int} (hc : CI S) {c : Int} (h : cFrom_ok S c) : 0 ≤ cTgt S c ∧ cTgt S c < cT S 4 := by
  obtain ⟨h0, h1, h2⟩ := h
  unfold cTgt
  split
  · rename_i q
    have := hc.2.2.1 c h0.1 (h1 q).1
    have := h1 q
    omega
  · have := hc.2.2.2 (c - 5) (by omega) (h2 (by omega))
    omega
theorem cSlt_rng {S : Nat → Int → Int} {g s p : Int} (hP : 1 ≤ cSe S g 4 ∧ cSe S g 4 ≤ 20) (hs : 0 ≤ s) : s ≤ cSlt S g s p ∧ cSlt S g s p < s + cSe S g 4 := by
  unfold cSlt
  split
  · have h1 := Int.ediv_mul_le (s + cSe S g 4 - 1) (show cSe S g 4 ≠ 0 by omega)
    have h2 := Int.lt_ediv_add_one_mul_self (s + cSe S g 4 - 1) (show 0 < cSe S g 4 by omega)
    rw [Int.add_mul, Int.one_mul] at h2
    omega
  · omega
set_option maxRecDepth 20000 in
set_option maxHeartbeats 2000000 in
theorem sp_T_arrive {d : Nat} {h : HP} {t : Nat} {o : Nat → Nat} {w : Nat → Nat × Nat} {S : Nat → Int → Int} {R : Nat → List FV} (T : TR t h o w S R) (hc : CI S) {a : Nat} (hF : FrP h a) {vv : FV} (hv : fV h a = vv) {SW : FV → Nat → Int → Int} {RW : FV → Nat → List FV} (hW : ∀ v, ExtT h o w t (sF h a v) o w ∧ TR t (sF h a v) o w (SW v) (RW v)) (hR : ∀ v, SR S (SW v)) (hRk : ∀ (v : FV) (g : Int), 0 ≤ g → g < 5 → kR (RW v) g = kR R g) (hok : cFrom_ok S (vv 0)) (hst : 0 ≤ vv 1 ∧ vv 1 ≤ 50000) (hoa : ∀ g : Int, 0 ≤ g → g < 5 → o a ≠ t + (13 + 7 * g.toNat) ∧ o (a + 1) ≠ t + (13 + 7 * g.toNat) ∧ o (a + 2) ≠ t + (13 + 7 * g.toNat)) (hlen : ∀ g : Int, 0 ≤ g → g < 5 → (kR R g).length < 1024) {g sl : Int} (hg : g = cTgt S (vv 0)) (hsl : sl = cSlt S g (vv 1) (cPer S (vv 0))) {Q : HP → Prop} (K1 : cLate S g (vv 0) sl → ∀ H', ExtT h o w t H' o w → TR t H' o w (upX S (11 + 7 * g.toNat) 6 (wr (cH S g 6 + 1))) R → Q H') (K2 : ¬ cLate S g (vv 0) sl → cHas (kR R g) sl vv → ∀ H', ExtT h o w t H' o w → TR t H' o w (upX S (11 + 7 * g.toNat) 7 (wr (cH S g 7 + 1))) R → Q H') (K3 : ¬ cLate S g (vv 0) sl → ¬ cHas (kR R g) sl vv → ∀ H' o' w', ExtT h o w t H' o' w' → TR t H' o' w' (upX (SW (ups (ups vv 2 sl) 3 (cT S 6))) (13 + 7 * g.toNat) 1 (((kR R g).length : Nat) + 1)) (upR (RW (ups (ups vv 2 sl) 3 (cT S 6))) (13 + 7 * g.toNat) (insA (kR R g) (cPlace (kR R g) sl) (ups (ups vv 2 sl) 3 (cT S 6)))) → Q H') : CaV (d + 3) 136 [.inr (some t), .inr (some a)] h Q := by
  have hC : cod 136 = c_T_arrive := rfl
  refine CaV.start rfl ?_
  have hK := T.1
  have hS := T.2.2.1
  have h4 := hc.1
  have h5 := hc.2.1
  have hgr := cTgt_rng hc hok
  obtain ⟨hk0, hk1, hk2⟩ := hok
  have hg5 : 0 ≤ g ∧ g < 5 := by omega
  obtain ⟨p1, p2, arr, ad, W, p3, p4⟩ := T.hrow hg5.1 hg5.2
  have hgg := hc.2.2.1 g hg5.1 (by omega)
  have hsr := cSlt_rng (S := S) (g := g) (s := vv 1) (p := cPer S (vv 0)) (by omega) hst.1
  rw [← hsl] at hsr
  have hu := fun q => hc.2.2.2 (vv 0 - 5) q
  refine x_1 (p' := 1) hC rfl rfl rfl rfl ?_
  refine z_fg (p' := 2) (kz := 0) hF hv hC rfl rfl rfl rfl ?_
  refine x_stI2 (p' := 3) hC rfl rfl rfl ?_
  refine x_1 (p' := 4) hC rfl rfl rfl rfl ?_
  refine x_1 (p' := 5) hC rfl rfl rfl rfl ?_
  refine x_iclt (p' := 6) hC rfl rfl (fun c5 => ?_) (fun c5 => ?_)
  · have hk4 := hk1 (by omega)
    have hgA : g = cH S (vv 0) 3 := by rw [hg]; unfold cTgt; rw [if_pos (by omega)]
    refine x_1 (p' := 9) hC rfl rfl rfl rfl ?_
    refine x_stI3 (p' := 10) hC rfl rfl rfl ?_
    refine x_1 (p' := 11) hC rfl rfl rfl rfl ?_
    refine x_ifeq (p' := 12) hC rfl rfl (fun _ => ?_) (fun c => absurd c (by decide))
    refine x_1 (p' := 23) hC rfl rfl rfl rfl ?_
    refine x_stI4 (p' := 24) hC rfl rfl rfl ?_
    refine x_1 (p' := 25) hC rfl rfl rfl rfl ?_
    refine z_tr (p' := 26) (n := 1) hK hC rfl rfl rfl rfl ?_
    refine x_1 (p' := 27) hC rfl rfl rfl rfl ?_
    refine x_ifeq (p' := 28) hC rfl rfl (fun _ => ?_) (fun c => absurd c (by decide))
    refine x_1 (p' := 37) hC rfl rfl rfl rfl ?_
    refine z_tr (p' := 38) (n := 1) hK hC rfl rfl rfl rfl ?_
    refine x_1 (p' := 39) hC rfl rfl rfl rfl ?_
    refine z_hub (p' := 40) hK hC rfl rfl rfl (by omega) (by omega) ?_
    refine z_hg (p' := 41) (kz := 3) hK hS (by omega) (by omega) hC rfl rfl rfl rfl ?_
    refine z_hub (p' := 42) hK hC rfl rfl rfl (by omega) (by omega) ?_
    first
      | rw [← hgA]
      | rw [← hgB]
    refine x_stA5 (p' := 43) hC rfl rfl rfl ?_
    refine x_1 (p' := 44) hC rfl rfl rfl rfl ?_
    refine x_1 (p' := 45) hC rfl rfl rfl rfl ?_
    refine z_fg (p' := 46) (kz := 1) hF hv hC rfl rfl rfl rfl ?_
    refine x_1 (p' := 47) hC rfl rfl rfl rfl ?_
    refine x_1 (p' := 48) hC rfl rfl rfl rfl ?_
    refine x_cIV1 (p' := 49) (n := 122) hC rfl rfl rfl rfl rfl (hK.ty) ?_
    refine sp_T_periodOf hK hS (by omega) ?_
    refine x_cIV2 (p' := 50) (n := 107) hC rfl rfl rfl rfl rfl (hK.hty (by omega) (by omega)) ?_
    refine sp_H_slotFor hK hS hg5 (by omega) (by omega) ?_
    rw [← hsl]
    refine x_stI6 (p' := 51) hC rfl rfl rfl ?_
    refine x_1 (p' := 52) hC rfl rfl rfl rfl ?_
    refine x_ifne (p' := 53) hC rfl rfl (fun c => absurd c (by decide)) (fun _ => ?_)
    refine x_1 (p' := 54) hC rfl rfl rfl rfl ?_
    refine x_1 (p' := 55) hC rfl rfl rfl rfl ?_
    refine z_hg (p' := 56) (kz := 8) hK hS (by omega) (by omega) hC rfl rfl rfl rfl ?_
    refine x_icgt (p' := 57) hC rfl rfl (fun c56 => ?_) (fun c56 => ?_)
    · refine x_1 (p' := 65) hC rfl rfl rfl rfl ?_
      refine z_hr1 (p' := 66) hK (by omega) (by omega) hC rfl rfl ?_
      refine x_1 (p' := 67) hC rfl rfl rfl rfl ?_
      refine x_1 (p' := 68) hC rfl rfl rfl rfl ?_
      refine x_cIV2 (p' := 69) (n := 99) hC rfl rfl rfl rfl rfl (hK.hrty (by omega) (by omega)) ?_
      refine sp_R_hasIn W hF hv ?_
      refine x_ifeq (p' := 70) hC rfl rfl (fun c69 => ?_) (fun c69 => ?_)
      · have c69 := b2i_0.mp c69
        refine x_1 (p' := 78) hC rfl rfl rfl rfl ?_
        refine x_1 (p' := 79) hC rfl rfl rfl rfl ?_
        refine x_putI (p' := 80) hC rfl rfl rfl hF.ty hF.1 ?_
        rw [show (((2 : Nat) : Int)) = 2 from rfl, sI_sF (by omega) (by omega), hv]
        have T1 := hW (ups vv 2 sl)
        have hK0 := hK
        have hK := T1.2.1
        have hS := T1.2.2.2.1
        refine x_1 (p' := 81) hC rfl rfl rfl rfl ?_
        refine x_1 (p' := 82) hC rfl rfl rfl rfl ?_
        refine z_ti (p' := 83) (kz := 6) hK hS hC rfl rfl rfl rfl ?_
        rw [(hR _).1]
        refine z_fp (p' := 84) (kz := 3) hF hC rfl rfl rfl rfl ?_
        have T2 := hW (ups (ups vv 2 sl) 3 (cT S 6))
        have hK := T2.2.1
        have hS := T2.2.2.2.1
        obtain ⟨_, _, arr2, ad2, W2, _⟩ := T2.2.hrow hg5.1 hg5.2
        refine x_1 (p' := 85) hC rfl rfl rfl rfl ?_
        refine z_hr1 (p' := 86) hK (by omega) (by omega) hC rfl rfl ?_
        refine x_1 (p' := 87) hC rfl rfl rfl rfl ?_
        refine z_hr1 (p' := 88) hK (by omega) (by omega) hC rfl rfl ?_
        refine x_1 (p' := 89) hC rfl rfl rfl rfl ?_
        refine x_cIV1 (p' := 90) (n := 98) hC rfl rfl rfl rfl rfl (hK.hrty (by omega) (by omega)) ?_
        refine sp_R_placeFor W2 ?_
        rw [hRk _ _ hg5.1 hg5.2]
        have hpl := cPl_rng (L := kR R g) (sl := sl) (kR R g).length
        refine x_1 (p' := 91) hC rfl rfl rfl rfl ?_
        refine x_cVV2 (p' := 92) (n := 90) hC rfl rfl rfl rfl rfl (hK.hrty (by omega) (by omega)) ?_
        refine sp_R_insert (T2.2.hrow hg5.1 hg5.2) (by rw [hRk _ _ hg5.1 hg5.2]; exact hlen g hg5.1 hg5.2) (by rw [hRk _ _ hg5.1 hg5.2]; exact hpl) hF (hoa g hg5.1 hg5.2) (fun H3 o3 w3 E3 P3 => ?_)
        rw [hRk _ _ hg5.1 hg5.2, fV_sF, nf_ups (by decide) (by decide), nf_ups (by decide) (by decide), ← hv, nf_fV, hv] at P3
        have TF := T2.2.row (n := 13 + 7 * g.toNat) (by omega) (sk_r hg5.1 hg5.2) E3 P3
        rw [insA_len] at TF
        refine x_ret hC rfl rfl rfl ⟨rfl, ?_⟩
        first
          | exact K1 (Or.inl ⟨by omega, c19⟩) _ TI.1 TI.2
          | exact K1 (Or.inr (by omega)) _ TI.1 TI.2
          | (refine K2 (fun q => ?_) c69 _ TI.1 TI.2
             rcases q with q | q
             · first
                 | exact absurd q.1 (by omega)
                 | exact q.2 (by omega)
             · omega)
          | (refine K3 (fun q => ?_) c69 _ _ _ (T2.1.trans TF.1) TF.2
             rcases q with q | q
             · first
                 | exact absurd q.1 (by omega)
                 | exact q.2 (by omega)
             · omega)
      · have c69 := b2i_n0.mp c69
        refine x_1 (p' := 71) hC rfl rfl rfl rfl ?_
        refine x_1 (p' := 72) hC rfl rfl rfl rfl ?_
        refine z_hg (p' := 73) (kz := 7) hK hS (by omega) (by omega) hC rfl rfl rfl rfl ?_
        refine x_1 (p' := 74) hC rfl rfl rfl rfl ?_
        refine x_1 (p' := 75) hC rfl rfl rfl rfl ?_
        refine x_putI (p' := 76) hC rfl rfl rfl (hK.hty hg5.1 hg5.2) (by have := hK.1; omega) ?_
        have TI := T.int (n := 11 + 7 * g.toNat) (k := 7) (v := wr (cH S g 7 + 1)) (by omega) (by rw [(sk_h ⟨g.toNat, by omega⟩).1]; decide) (by rw [(sk_h ⟨g.toNat, by omega⟩).1]; decide)
        refine x_1 (p' := 92) hC rfl rfl rfl rfl ?_
        refine x_ret hC rfl rfl rfl ⟨rfl, ?_⟩
        first
          | exact K1 (Or.inl ⟨by omega, c19⟩) _ TI.1 TI.2
          | exact K1 (Or.inr (by omega)) _ TI.1 TI.2
          | (refine K2 (fun q => ?_) c69 _ TI.1 TI.2
             rcases q with q | q
             · first
                 | exact absurd q.1 (by omega)
                 | exact q.2 (by omega)
             · omega)
          | (refine K3 (fun q => ?_) c69 _ _ _ (T2.1.trans TF.1) TF.2
             rcases q with q | q
             · first
                 | exact absurd q.1 (by omega)
                 | exact q.2 (by omega)
             · omega)
    · refine x_1 (p' := 58) hC rfl rfl rfl rfl ?_
      refine x_1 (p' := 59) hC rfl rfl rfl rfl ?_
      refine z_hg (p' := 60) (kz := 6) hK hS (by omega) (by omega) hC rfl rfl rfl rfl ?_
      refine x_1 (p' := 61) hC rfl rfl rfl rfl ?_
      refine x_1 (p' := 62) hC rfl rfl rfl rfl ?_
      refine x_putI (p' := 63) hC rfl rfl rfl (hK.hty hg5.1 hg5.2) (by have := hK.1; omega) ?_
      have TI := T.int (n := 11 + 7 * g.toNat) (k := 6) (v := wr (cH S g 6 + 1)) (by omega) (by rw [(sk_h ⟨g.toNat, by omega⟩).1]; decide) (by rw [(sk_h ⟨g.toNat, by omega⟩).1]; decide)
      refine x_1 (p' := 92) hC rfl rfl rfl rfl ?_
      refine x_ret hC rfl rfl rfl ⟨rfl, ?_⟩
      first
        | exact K1 (Or.inl ⟨by omega, c19⟩) _ TI.1 TI.2
        | exact K1 (Or.inr (by omega)) _ TI.1 TI.2
        | (refine K2 (fun q => ?_) c69 _ TI.1 TI.2
           rcases q with q | q
           · first
               | exact absurd q.1 (by omega)
               | exact q.2 (by omega)
           · omega)
        | (refine K3 (fun q => ?_) c69 _ _ _ (T2.1.trans TF.1) TF.2
           rcases q with q | q
           · first
               | exact absurd q.1 (by omega)
               | exact q.2 (by omega)
           · omega)
  · have hu1 := hu (by omega) (hk2 (by omega))
    have hk3 := hk2 (by omega)
    have hgB : g = cU S (vv 0 - 5) 0 := by rw [hg]; unfold cTgt; rw [if_neg (by omega)]
    refine x_1 (p' := 7) hC rfl rfl rfl rfl ?_
    refine x_1 (p' := 9) hC rfl rfl rfl rfl ?_
    refine x_stI3 (p' := 10) hC rfl rfl rfl ?_
    refine x_1 (p' := 11) hC rfl rfl rfl rfl ?_
    refine x_ifeq (p' := 12) hC rfl rfl (fun c => absurd c (by decide)) (fun _ => ?_)
    refine x_1 (p' := 13) hC rfl rfl rfl rfl ?_
    refine z_tr (p' := 14) (n := 2) hK hC rfl rfl rfl rfl ?_
    refine x_1 (p' := 15) hC rfl rfl rfl rfl ?_
    refine x_1 (p' := 16) hC rfl rfl rfl rfl ?_
    refine x_sub (p' := 17) hC rfl rfl rfl (⟨by omega, by omega⟩) ?_
    refine z_unit (p' := 18) hK hC rfl rfl rfl (by omega) (by omega) ?_
    refine z_ug (p' := 19) (kz := 2) hK hS (by omega) (by omega) hC rfl rfl rfl rfl ?_
    refine x_ifeq (p' := 20) hC rfl rfl (fun c19 => ?_) (fun c19 => ?_)
    · refine x_1 (p' := 23) hC rfl rfl rfl rfl ?_
      refine x_stI4 (p' := 24) hC rfl rfl rfl ?_
      refine x_1 (p' := 25) hC rfl rfl rfl rfl ?_
      refine z_tr (p' := 26) (n := 1) hK hC rfl rfl rfl rfl ?_
      refine x_1 (p' := 27) hC rfl rfl rfl rfl ?_
      refine x_ifeq (p' := 28) hC rfl rfl (fun c => absurd c (by decide)) (fun _ => ?_)
      refine x_1 (p' := 29) hC rfl rfl rfl rfl ?_
      refine z_tr (p' := 30) (n := 2) hK hC rfl rfl rfl rfl ?_
      refine x_1 (p' := 31) hC rfl rfl rfl rfl ?_
      refine x_1 (p' := 32) hC rfl rfl rfl rfl ?_
      refine x_sub (p' := 33) hC rfl rfl rfl (⟨by omega, by omega⟩) ?_
      refine z_unit (p' := 34) hK hC rfl rfl rfl (by omega) (by omega) ?_
      refine z_ug (p' := 35) (kz := 0) hK hS (by omega) (by omega) hC rfl rfl rfl rfl ?_
      refine x_1 (p' := 41) hC rfl rfl rfl rfl ?_
      refine z_hub (p' := 42) hK hC rfl rfl rfl (by omega) (by omega) ?_
      first
        | rw [← hgA]
        | rw [← hgB]
      refine x_stA5 (p' := 43) hC rfl rfl rfl ?_
      refine x_1 (p' := 44) hC rfl rfl rfl rfl ?_
      refine x_1 (p' := 45) hC rfl rfl rfl rfl ?_
      refine z_fg (p' := 46) (kz := 1) hF hv hC rfl rfl rfl rfl ?_
      refine x_1 (p' := 47) hC rfl rfl rfl rfl ?_
      refine x_1 (p' := 48) hC rfl rfl rfl rfl ?_
      refine x_cIV1 (p' := 49) (n := 122) hC rfl rfl rfl rfl rfl (hK.ty) ?_
      refine sp_T_periodOf hK hS (by omega) ?_
      refine x_cIV2 (p' := 50) (n := 107) hC rfl rfl rfl rfl rfl (hK.hty (by omega) (by omega)) ?_
      refine sp_H_slotFor hK hS hg5 (by omega) (by omega) ?_
      rw [← hsl]
      refine x_stI6 (p' := 51) hC rfl rfl rfl ?_
      refine x_1 (p' := 52) hC rfl rfl rfl rfl ?_
      refine x_ifne (p' := 53) hC rfl rfl (fun c => absurd c (by decide)) (fun _ => ?_)
      refine x_1 (p' := 54) hC rfl rfl rfl rfl ?_
      refine x_1 (p' := 55) hC rfl rfl rfl rfl ?_
      refine z_hg (p' := 56) (kz := 8) hK hS (by omega) (by omega) hC rfl rfl rfl rfl ?_
      refine x_icgt (p' := 57) hC rfl rfl (fun c56 => ?_) (fun c56 => ?_)
      · refine x_1 (p' := 65) hC rfl rfl rfl rfl ?_
        refine z_hr1 (p' := 66) hK (by omega) (by omega) hC rfl rfl ?_
        refine x_1 (p' := 67) hC rfl rfl rfl rfl ?_
        refine x_1 (p' := 68) hC rfl rfl rfl rfl ?_
        refine x_cIV2 (p' := 69) (n := 99) hC rfl rfl rfl rfl rfl (hK.hrty (by omega) (by omega)) ?_
        refine sp_R_hasIn W hF hv ?_
        refine x_ifeq (p' := 70) hC rfl rfl (fun c69 => ?_) (fun c69 => ?_)
        · have c69 := b2i_0.mp c69
          refine x_1 (p' := 78) hC rfl rfl rfl rfl ?_
          refine x_1 (p' := 79) hC rfl rfl rfl rfl ?_
          refine x_putI (p' := 80) hC rfl rfl rfl hF.ty hF.1 ?_
          rw [show (((2 : Nat) : Int)) = 2 from rfl, sI_sF (by omega) (by omega), hv]
          have T1 := hW (ups vv 2 sl)
          have hK0 := hK
          have hK := T1.2.1
          have hS := T1.2.2.2.1
          refine x_1 (p' := 81) hC rfl rfl rfl rfl ?_
          refine x_1 (p' := 82) hC rfl rfl rfl rfl ?_
          refine z_ti (p' := 83) (kz := 6) hK hS hC rfl rfl rfl rfl ?_
          rw [(hR _).1]
          refine z_fp (p' := 84) (kz := 3) hF hC rfl rfl rfl rfl ?_
          have T2 := hW (ups (ups vv 2 sl) 3 (cT S 6))
          have hK := T2.2.1
          have hS := T2.2.2.2.1
          obtain ⟨_, _, arr2, ad2, W2, _⟩ := T2.2.hrow hg5.1 hg5.2
          refine x_1 (p' := 85) hC rfl rfl rfl rfl ?_
          refine z_hr1 (p' := 86) hK (by omega) (by omega) hC rfl rfl ?_
          refine x_1 (p' := 87) hC rfl rfl rfl rfl ?_
          refine z_hr1 (p' := 88) hK (by omega) (by omega) hC rfl rfl ?_
          refine x_1 (p' := 89) hC rfl rfl rfl rfl ?_
          refine x_cIV1 (p' := 90) (n := 98) hC rfl rfl rfl rfl rfl (hK.hrty (by omega) (by omega)) ?_
          refine sp_R_placeFor W2 ?_
          rw [hRk _ _ hg5.1 hg5.2]
          have hpl := cPl_rng (L := kR R g) (sl := sl) (kR R g).length
          refine x_1 (p' := 91) hC rfl rfl rfl rfl ?_
          refine x_cVV2 (p' := 92) (n := 90) hC rfl rfl rfl rfl rfl (hK.hrty (by omega) (by omega)) ?_
          refine sp_R_insert (T2.2.hrow hg5.1 hg5.2) (by rw [hRk _ _ hg5.1 hg5.2]; exact hlen g hg5.1 hg5.2) (by rw [hRk _ _ hg5.1 hg5.2]; exact hpl) hF (hoa g hg5.1 hg5.2) (fun H3 o3 w3 E3 P3 => ?_)
          rw [hRk _ _ hg5.1 hg5.2, fV_sF, nf_ups (by decide) (by decide), nf_ups (by decide) (by decide), ← hv, nf_fV, hv] at P3
          have TF := T2.2.row (n := 13 + 7 * g.toNat) (by omega) (sk_r hg5.1 hg5.2) E3 P3
          rw [insA_len] at TF
          refine x_ret hC rfl rfl rfl ⟨rfl, ?_⟩
          first
            | exact K1 (Or.inl ⟨by omega, c19⟩) _ TI.1 TI.2
            | exact K1 (Or.inr (by omega)) _ TI.1 TI.2
            | (refine K2 (fun q => ?_) c69 _ TI.1 TI.2
               rcases q with q | q
               · first
                   | exact absurd q.1 (by omega)
                   | exact q.2 (by omega)
               · omega)
            | (refine K3 (fun q => ?_) c69 _ _ _ (T2.1.trans TF.1) TF.2
               rcases q with q | q
               · first
                   | exact absurd q.1 (by omega)
                   | exact q.2 (by omega)
               · omega)
        · have c69 := b2i_n0.mp c69
          refine x_1 (p' := 71) hC rfl rfl rfl rfl ?_
          refine x_1 (p' := 72) hC rfl rfl rfl rfl ?_
          refine z_hg (p' := 73) (kz := 7) hK hS (by omega) (by omega) hC rfl rfl rfl rfl ?_
          refine x_1 (p' := 74) hC rfl rfl rfl rfl ?_
          refine x_1 (p' := 75) hC rfl rfl rfl rfl ?_
          refine x_putI (p' := 76) hC rfl rfl rfl (hK.hty hg5.1 hg5.2) (by have := hK.1; omega) ?_
          have TI := T.int (n := 11 + 7 * g.toNat) (k := 7) (v := wr (cH S g 7 + 1)) (by omega) (by rw [(sk_h ⟨g.toNat, by omega⟩).1]; decide) (by rw [(sk_h ⟨g.toNat, by omega⟩).1]; decide)
          refine x_1 (p' := 92) hC rfl rfl rfl rfl ?_
          refine x_ret hC rfl rfl rfl ⟨rfl, ?_⟩
          first
            | exact K1 (Or.inl ⟨by omega, c19⟩) _ TI.1 TI.2
            | exact K1 (Or.inr (by omega)) _ TI.1 TI.2
            | (refine K2 (fun q => ?_) c69 _ TI.1 TI.2
               rcases q with q | q
               · first
                   | exact absurd q.1 (by omega)
                   | exact q.2 (by omega)
               · omega)
            | (refine K3 (fun q => ?_) c69 _ _ _ (T2.1.trans TF.1) TF.2
               rcases q with q | q
               · first
                   | exact absurd q.1 (by omega)
                   | exact q.2 (by omega)
               · omega)
      · refine x_1 (p' := 58) hC rfl rfl rfl rfl ?_
        refine x_1 (p' := 59) hC rfl rfl rfl rfl ?_
        refine z_hg (p' := 60) (kz := 6) hK hS (by omega) (by omega) hC rfl rfl rfl rfl ?_
        refine x_1 (p' := 61) hC rfl rfl rfl rfl ?_
        refine x_1 (p' := 62) hC rfl rfl rfl rfl ?_
        refine x_putI (p' := 63) hC rfl rfl rfl (hK.hty hg5.1 hg5.2) (by have := hK.1; omega) ?_
        have TI := T.int (n := 11 + 7 * g.toNat) (k := 6) (v := wr (cH S g 6 + 1)) (by omega) (by rw [(sk_h ⟨g.toNat, by omega⟩).1]; decide) (by rw [(sk_h ⟨g.toNat, by omega⟩).1]; decide)
        refine x_1 (p' := 92) hC rfl rfl rfl rfl ?_
        refine x_ret hC rfl rfl rfl ⟨rfl, ?_⟩
        first
          | exact K1 (Or.inl ⟨by omega, c19⟩) _ TI.1 TI.2
          | exact K1 (Or.inr (by omega)) _ TI.1 TI.2
          | (refine K2 (fun q => ?_) c69 _ TI.1 TI.2
             rcases q with q | q
             · first
                 | exact absurd q.1 (by omega)
                 | exact q.2 (by omega)
             · omega)
          | (refine K3 (fun q => ?_) c69 _ _ _ (T2.1.trans TF.1) TF.2
             rcases q with q | q
             · first
                 | exact absurd q.1 (by omega)
                 | exact q.2 (by omega)
             · omega)
    · refine x_1 (p' := 21) hC rfl rfl rfl rfl ?_
      refine x_1 (p' := 23) hC rfl rfl rfl rfl ?_
      refine x_stI4 (p' := 24) hC rfl rfl rfl ?_
      refine x_1 (p' := 25) hC rfl rfl rfl rfl ?_
      refine z_tr (p' := 26) (n := 1) hK hC rfl rfl rfl rfl ?_
      refine x_1 (p' := 27) hC rfl rfl rfl rfl ?_
      refine x_ifeq (p' := 28) hC rfl rfl (fun c => absurd c (by decide)) (fun _ => ?_)
      refine x_1 (p' := 29) hC rfl rfl rfl rfl ?_
      refine z_tr (p' := 30) (n := 2) hK hC rfl rfl rfl rfl ?_
      refine x_1 (p' := 31) hC rfl rfl rfl rfl ?_
      refine x_1 (p' := 32) hC rfl rfl rfl rfl ?_
      refine x_sub (p' := 33) hC rfl rfl rfl (⟨by omega, by omega⟩) ?_
      refine z_unit (p' := 34) hK hC rfl rfl rfl (by omega) (by omega) ?_
      refine z_ug (p' := 35) (kz := 0) hK hS (by omega) (by omega) hC rfl rfl rfl rfl ?_
      refine x_1 (p' := 41) hC rfl rfl rfl rfl ?_
      refine z_hub (p' := 42) hK hC rfl rfl rfl (by omega) (by omega) ?_
      first
        | rw [← hgA]
        | rw [← hgB]
      refine x_stA5 (p' := 43) hC rfl rfl rfl ?_
      refine x_1 (p' := 44) hC rfl rfl rfl rfl ?_
      refine x_1 (p' := 45) hC rfl rfl rfl rfl ?_
      refine z_fg (p' := 46) (kz := 1) hF hv hC rfl rfl rfl rfl ?_
      refine x_1 (p' := 47) hC rfl rfl rfl rfl ?_
      refine x_1 (p' := 48) hC rfl rfl rfl rfl ?_
      refine x_cIV1 (p' := 49) (n := 122) hC rfl rfl rfl rfl rfl (hK.ty) ?_
      refine sp_T_periodOf hK hS (by omega) ?_
      refine x_cIV2 (p' := 50) (n := 107) hC rfl rfl rfl rfl rfl (hK.hty (by omega) (by omega)) ?_
      refine sp_H_slotFor hK hS hg5 (by omega) (by omega) ?_
      rw [← hsl]
      refine x_stI6 (p' := 51) hC rfl rfl rfl ?_
      refine x_1 (p' := 52) hC rfl rfl rfl rfl ?_
      refine x_ifne (p' := 53) hC rfl rfl (fun _ => ?_) (fun c => absurd c (by decide))
      refine x_1 (p' := 58) hC rfl rfl rfl rfl ?_
      refine x_1 (p' := 59) hC rfl rfl rfl rfl ?_
      refine z_hg (p' := 60) (kz := 6) hK hS (by omega) (by omega) hC rfl rfl rfl rfl ?_
      refine x_1 (p' := 61) hC rfl rfl rfl rfl ?_
      refine x_1 (p' := 62) hC rfl rfl rfl rfl ?_
      refine x_putI (p' := 63) hC rfl rfl rfl (hK.hty hg5.1 hg5.2) (by have := hK.1; omega) ?_
      have TI := T.int (n := 11 + 7 * g.toNat) (k := 6) (v := wr (cH S g 6 + 1)) (by omega) (by rw [(sk_h ⟨g.toNat, by omega⟩).1]; decide) (by rw [(sk_h ⟨g.toNat, by omega⟩).1]; decide)
      refine x_1 (p' := 92) hC rfl rfl rfl rfl ?_
      refine x_ret hC rfl rfl rfl ⟨rfl, ?_⟩
      first
        | exact K1 (Or.inl ⟨by omega, c19⟩) _ TI.1 TI.2
        | exact K1 (Or.inr (by omega)) _ TI.1 TI.2
        | (refine K2 (fun q => ?_) c69 _ TI.1 TI.2
           rcases q with q | q
           · first
               | exact absurd q.1 (by omega)
               | exact q.2 (by omega)
           · omega)
        | (refine K3 (fun q => ?_) c69 _ _ _ (T2.1.trans TF.1) TF.2
           rcases q with q | q
           · first
               | exact absurd q.1 (by omega)
               | exact q.2 (by omega)
           · omega)
def cDpV (S : Nat → Int → Int) (u st v fl tk : Int) : FV := ups (fPut (fBeg (SF S 6) (5 + u) st) u v fl) 3 (cT S 6 + tk)
theorem nf_cDpV {S : Nat → Int → Int} {u st v fl tk : Int} (hu : 0 ≤ u ∧ u < 10) : nf (cDpV S u st v fl tk) = cDpV S u st v fl tk := by
  unfold cDpV
  rw [nf_ups (by decide) (by decide), nf_fPut (nf_fBeg nf_SF) hu]
set_option maxRecDepth 20000 in
set_option maxHeartbeats 2000000 in
theorem sp_T_depart {d : Nat} {h : HP} {t : Nat} {o : Nat → Nat} {w : Nat → Nat × Nat} {S : Nat → Int → Int} {R : Nat → List FV} (T : TR t h o w S R) (hc : CI S) {u st v fl tk : Int} (hu : 0 ≤ u ∧ u < cT S 5) (htm : 0 ≤ cT S 6 ∧ cT S 6 ≤ 100000) (htk : 1 ≤ tk ∧ tk ≤ 100) (hlen : (R 3).length < 1024) {Q : HP → Prop} (K : ∀ H' o' w', ExtT h o w t H' o' w' → TR t H' o' w' (upX (upX (upF S 6 (cDpV S u st v fl tk)) 3 1 (((R 3).length : Nat) + 1)) (46 + u.toNat) 3 (wr (cU S u 3 + 1))) (upR R 3 (insA (R 3) ((R 3).length : Nat) (cDpV S u st v fl tk))) → Q H') : CaV (d + 3) 132 [.inr (some t), .inl u, .inl st, .inl v, .inl fl, .inl tk] h Q := by
  have hC : cod 132 = c_T_depart := rfl
  refine CaV.start rfl ?_
  have hK := T.1
  have hS := T.2.2.1
  have h5 := hc.2.1
  have hx := hc.2.2.2 u hu.1 hu.2
  have hB := hK.built
  have hV6 := SF_eq hS (n := 6) (by decide)
  have hSS := fun v => (T.frm (n := 6) (v := v) (by decide) (by decide)).2.2.2.1
  have h6 : ∀ v, cT (upF S 6 v) 6 = cT S 6 := fun v => congrFun (upF_ne (by decide) (by decide) (by decide)) 6
  refine x_1 (p' := 1) hC rfl rfl rfl rfl ?_
  refine z_tr (p' := 2) (n := 6) hK hC rfl rfl rfl rfl ?_
  refine x_1 (p' := 3) hC rfl rfl rfl rfl ?_
  refine x_1 (p' := 4) hC rfl rfl rfl rfl ?_
  refine x_add (p' := 5) hC rfl rfl rfl (⟨by omega, by omega⟩) ?_
  refine x_1 (p' := 6) hC rfl rfl rfl rfl ?_
  refine x_cVV2 (p' := 7) (n := 83) hC rfl rfl rfl rfl rfl (hB.ty) ?_
  refine sp_F_begin hB ?_
  rw [hV6]
  have hS := hSS (fBeg (SF S 6) (5 + u) st)
  refine x_1 (p' := 8) hC rfl rfl rfl rfl ?_
  refine z_tr (p' := 9) (n := 6) hK hC rfl rfl rfl rfl ?_
  refine x_1 (p' := 10) hC rfl rfl rfl rfl ?_
  refine x_1 (p' := 11) hC rfl rfl rfl rfl ?_
  refine x_1 (p' := 12) hC rfl rfl rfl rfl ?_
  refine x_cVV3 (p' := 13) (n := 85) hC rfl rfl rfl rfl rfl (hB.ty) ?_
  refine sp_F_put (h := sF h (t + 6) (fBeg (SF S 6) (5 + u) st)) hB (by omega) ?_
  rw [sF_sF, fV_sF, nf_fBeg nf_SF]
  have hS := hSS (fPut (fBeg (SF S 6) (5 + u) st) u v fl)
  refine x_1 (p' := 14) hC rfl rfl rfl rfl ?_
  refine z_tr (p' := 15) (n := 6) hK hC rfl rfl rfl rfl ?_
  refine x_1 (p' := 16) hC rfl rfl rfl rfl ?_
  refine z_ti (p' := 17) (kz := 6) hK hS hC rfl rfl rfl rfl ?_
  refine x_1 (p' := 18) hC rfl rfl rfl rfl ?_
  rw [h6]
  refine x_add (p' := 19) hC rfl rfl rfl ⟨by omega, by omega⟩ ?_
  refine z_fp (p' := 20) (kz := 3) hB hC rfl rfl rfl rfl ?_
  have T2 := T.frm (n := 6) (v := cDpV S u st v fl tk) (by decide) (by decide)
  have hS := T2.2.2.2.1
  obtain ⟨_, _, arr2, ad2, W2, _⟩ := T2.2.way
  show At _ _ _ _ _ (sF h (t + 6) (cDpV S u st v fl tk)) _
  refine x_1 (p' := 21) hC rfl rfl rfl rfl ?_
  refine z_tr (p' := 22) (n := 3) hK hC rfl rfl rfl rfl ?_
  refine x_1 (p' := 23) hC rfl rfl rfl rfl ?_
  refine z_tr (p' := 24) (n := 3) hK hC rfl rfl rfl rfl ?_
  refine z_rs (p' := 25) W2 hC rfl rfl ?_
  refine x_1 (p' := 26) hC rfl rfl rfl rfl ?_
  refine z_tr (p' := 27) (n := 6) hK hC rfl rfl rfl rfl ?_
  refine x_cVV2 (p' := 28) (n := 90) hC rfl rfl rfl rfl rfl (hK.wty) ?_
  refine sp_R_insert (T2.2.way) hlen (by omega) (h := sF h (t + 6) (cDpV S u st v fl tk)) hB ⟨by rw [T.2.1 6 (by decide)]; show t + 6 ≠ t + 3; omega, by rw [show t + 6 + 1 = t + 7 by omega, T.2.1 7 (by decide)]; show t + 7 ≠ t + 3; omega, by rw [show t + 6 + 2 = t + 8 by omega, T.2.1 8 (by decide)]; show t + 8 ≠ t + 3; omega⟩ (fun H3 o3 w3 E3 P3 => ?_)
  rw [fV_sF, nf_cDpV (by omega)] at P3
  have T3 := T2.2.row (n := 3) (by decide) (by decide) E3 P3
  rw [insA_len] at T3
  have hK := T3.2.1
  have hS := T3.2.2.2.1
  have hU3 : cU (upX (upF S 6 (cDpV S u st v fl tk)) 3 1 (((R 3).length + 1 : Nat) : Int)) u 3 = cU S u 3 := by
    unfold cU
    rw [upX_ne (by omega), upF_ne (by omega) (by omega) (by omega)]
  refine x_1 (p' := 29) hC rfl rfl rfl rfl ?_
  refine z_tr (p' := 30) (n := 2) hK hC rfl rfl rfl rfl ?_
  refine x_1 (p' := 31) hC rfl rfl rfl rfl ?_
  refine z_unit (p' := 32) hK hC rfl rfl rfl (by omega) (by omega) ?_
  refine x_1 (p' := 33) hC rfl rfl rfl rfl ?_
  refine z_ug (p' := 34) (kz := 3) hK hS (by omega) (by omega) hC rfl rfl rfl rfl ?_
  refine x_1 (p' := 35) hC rfl rfl rfl rfl ?_
  refine x_1 (p' := 36) hC rfl rfl rfl rfl ?_
  rw [hU3]
  refine x_putI (p' := 37) hC rfl rfl rfl (hK.uty (by omega) (by omega)) (by have := hK.1; omega) ?_
  have T4 := T3.2.int (n := 46 + u.toNat) (k := 3) (v := wr (cU S u 3 + 1)) (by omega) (by rw [sk_u ⟨u.toNat, by omega⟩]; decide) (by rw [sk_u ⟨u.toNat, by omega⟩]; decide)
  refine x_ret hC rfl rfl rfl ⟨rfl, ?_⟩
  exact K _ _ _ ((T2.1.trans T3.1).trans T4.1) T4.2

/-! the reference's readers of frames -/
abbrev rIn (s : Int → Int) (f h slot : Int) : Prop := rFr s f 0 = 2 ∧ rFr s f 1 = h ∧ rFr s f 4 = slot
noncomputable def rBehind (s : Int → Int) (h slot : Int) : Int := fI (s 7) (fun f found => cif (rFr s f 0 = 2 ∧ rFr s f 1 = h ∧ slot < rFr s f 4 ∧ (found < 0 ∨ rFr s f 4 < found)) (rFr s f 4) found) (-1)
noncomputable def rExp (s : Int → Int) (h c slot : Int) : Int := if rPer s c ≤ rOf s h 4 then rOf s h 4 / rPer s c else b2i (slot % rPer s c = 0)
noncomputable def rFrames (s : Int → Int) (h c slot : Int) : Int := fI (s 7) (fun f n => n + b2i (rIn s f h slot ∧ (c < 0 ∨ rFr s f 2 = c))) 0
noncomputable def rExpected (s : Int → Int) (h slot : Int) : Int := fI 15 (fun c n => n + cif (rChild s h c) (rExp s h c slot) 0) 0
def rComplN (s : Int → Int) (h slot n : Int) : Prop := ∀ c, 0 ≤ c → c < n → rChild s h c → rExp s h c slot ≤ rFrames s h c slot
abbrev rCompl (s : Int → Int) (h slot : Int) : Prop := rComplN s h slot 15
noncomputable def rFirst (s : Int → Int) (h slot : Int) : Int := fI (s 7) (fun f found => cif (rIn s f h slot ∧ (found < 0 ∨ rFr s f 5 < found)) (rFr s f 5) found) (-1)
noncomputable def rEnd (s : Int → Int) (h slot : Int) : Int := (if rOf s h 1 = 0 then slot else rFirst s h slot) + rOf s h 0
noncomputable def rLasts (s : Int → Int) (h slot : Int) : Int := if s 2 < rEnd s h slot then rEnd s h slot - s 2 else 0
noncomputable def rNext (s : Int → Int) : Int := fI (s 7) (fun f found => cif (rFr s f 0 = 1 ∧ rFr s f 4 ≤ s 2 ∧ (found < 0 ∨ rFr s f 4 < rFr s found 4 ∨ (rFr s f 4 = rFr s found 4 ∧ rFr s f 5 < rFr s found 5))) f found) (-1)
noncomputable def rAllWay (s : Int → Int) : Int := fI (s 7) (fun f n => n + b2i (rFr s f 0 = 1)) 0
def rSum (s : Int → Int) (w : Int) : Int := fI (s 0) (fun h n => wr (n + rOf s h w)) 0
def rOnes (x : Int) : Int := fI 10 (fun k n => n + oAnd (oShr x k) 1) 0
def rFree0 (s : Int → Int) : Nat → Int → Int
  | 0, f => f
  | n + 1, f => if f < s 7 ∧ ¬ rFr s f 0 = 0 then rFree0 s n (f + 1) else f
def rFree (s : Int → Int) : Int := rFree0 s 560 0
/-- a child's or hub's period is one -/
abbrev okPer (s : Int → Int) (c : Int) : Prop := 1 ≤ rPer s c ∧ rPer s c ≤ 20
theorem rComplN_succ {s : Int → Int} {h slot n : Int} (hn : 0 ≤ n) : rComplN s h slot (n + 1) ↔ rComplN s h slot n ∧ (rChild s h n → rExp s h n slot ≤ rFrames s h n slot) := by
  constructor
  · exact fun q => ⟨fun c h0 h1 => q c h0 (by omega), q n hn (by omega)⟩
  · intro q c h0 h1
    rcases (show c < n ∨ c = n by omega) with h2 | h2
    · exact q.1 c h0 h2
    · rw [h2]; exact q.2
theorem per_child {s : Int → Int} (hs : RI s) {h c : Int} (hc : rChild s h c) : okPer s c := by
  unfold okPer rPer
  rcases hc with ⟨h1, h2, h3, -⟩ | ⟨h1, h2, h3, -⟩
  · rw [if_pos h1]
    have := hs.2.2.2.2.2 c h2 (by omega)
    omega
  · rw [if_neg (by omega)]
    have := hs.2.2.2.2.1 (c - 10) h2 (by omega)
    omega
set_option maxRecDepth 20000 in
theorem sp_m_isIn {d : Nat} {m : Nat} {h : HP} (hO : RO m h) {X : Nat → Int → Int} {f g sl : Int} (hf : 0 ≤ f ∧ f < 560) {Q : Int → HP → Prop} (K : Q (b2i (rIn (X 1) f g sl)) (wX m h X)) : CaI (d + 1) 33 [.inr (some m), .inl f, .inl g, .inl sl] (wX m h X) Q := by
  have hC : cod 33 = c_m_isIn := rfl
  refine CaI.start rfl ?_
  refine x_1 (p' := 1) hC rfl rfl rfl rfl ?_
  refine x_1 (p' := 2) hC rfl rfl rfl rfl ?_
  refine x_1 (p' := 3) hC rfl rfl rfl rfl ?_
  refine x_cIV2 (p' := 4) (n := 5) hC rfl rfl rfl rfl rfl (hO.ty) ?_
  refine sp_m_fr hO (by omega) (by omega) ?_
  refine x_1 (p' := 5) hC rfl rfl rfl rfl ?_
  refine x_icne (p' := 6) hC rfl rfl (fun c5 => ?_) (fun c5 => ?_)
  · refine x_1 (p' := 21) hC rfl rfl rfl rfl ?_
    refine x_zret hC rfl rfl rfl (by first | omega | exact b2i_01 _) ⟨_, rfl, ?_⟩
    refine eqK K ?_
    first | exact b2i_t (by omega) | exact b2i_f (by omega)
  · refine x_1 (p' := 7) hC rfl rfl rfl rfl ?_
    refine x_1 (p' := 8) hC rfl rfl rfl rfl ?_
    refine x_1 (p' := 9) hC rfl rfl rfl rfl ?_
    refine x_cIV2 (p' := 10) (n := 5) hC rfl rfl rfl rfl rfl (hO.ty) ?_
    refine sp_m_fr hO (by omega) (by omega) ?_
    refine x_1 (p' := 11) hC rfl rfl rfl rfl ?_
    refine x_icne (p' := 12) hC rfl rfl (fun c11 => ?_) (fun c11 => ?_)
    · refine x_1 (p' := 21) hC rfl rfl rfl rfl ?_
      refine x_zret hC rfl rfl rfl (by first | omega | exact b2i_01 _) ⟨_, rfl, ?_⟩
      refine eqK K ?_
      first | exact b2i_t (by omega) | exact b2i_f (by omega)
    · refine x_1 (p' := 13) hC rfl rfl rfl rfl ?_
      refine x_1 (p' := 14) hC rfl rfl rfl rfl ?_
      refine x_1 (p' := 15) hC rfl rfl rfl rfl ?_
      refine x_cIV2 (p' := 16) (n := 5) hC rfl rfl rfl rfl rfl (hO.ty) ?_
      refine sp_m_fr hO (by omega) (by omega) ?_
      refine x_1 (p' := 17) hC rfl rfl rfl rfl ?_
      refine x_icne (p' := 18) hC rfl rfl (fun c17 => ?_) (fun c17 => ?_)
      · refine x_1 (p' := 21) hC rfl rfl rfl rfl ?_
        refine x_zret hC rfl rfl rfl (by first | omega | exact b2i_01 _) ⟨_, rfl, ?_⟩
        refine eqK K ?_
        first | exact b2i_t (by omega) | exact b2i_f (by omega)
      · refine x_1 (p' := 19) hC rfl rfl rfl rfl ?_
        refine x_1 (p' := 21) hC rfl rfl rfl rfl ?_
        refine x_zret hC rfl rfl rfl (by first | omega | exact b2i_01 _) ⟨_, rfl, ?_⟩
        refine eqK K ?_
        first | exact b2i_t (by omega) | exact b2i_f (by omega)
set_option maxRecDepth 20000 in
theorem lp_m_behind {d : Nat} {m : Nat} {h : HP} (hO : RO m h) {X : Nat → Int → Int} (hs : RI (X 1)) {g sl : Int} {Q : Int → HP → Prop} {st0 : Option AV} (K : Q (rBehind (X 1) g sl) (wX m h X)) (k : Nat) : ∀ (n : Int) (u : Int) (z : Option AV), (X 1 7 - u).toNat < k → (0 ≤ u ∧ u ≤ X 1 7) → (n = fI u (fun f found => cif (rFr (X 1) f 0 = 2 ∧ rFr (X 1) f 1 = g ∧ sl < rFr (X 1) f 4 ∧ (found < 0 ∨ rFr (X 1) f 4 < found)) (rFr (X 1) f 4) found) (-1)) → At (d + 1) 34 4 [some (.inr (some m)), some (.inl g), some (.inl sl), some (.inl n), some (.inl u), z] [] (wX m h X) (fun v h' => ∃ x, v = some (.inl x) ∧ Q x h') := by
  have hC : cod 34 = c_m_behind := rfl
  induction k with
  | zero =>
    intro n u z hk
    exact absurd hk (Nat.not_lt_zero _)
  | succ k ih =>
    intro n u z hk hI0 hI1
    have hs2 := hs.2.2.1
    refine x_1 (p' := 5) hC rfl rfl rfl rfl ?_
    refine x_1 (p' := 6) hC rfl rfl rfl rfl ?_
    refine y_gR (p' := 7) (n := 1) hO hC rfl rfl rfl rfl ?_
    refine x_1 (p' := 8) hC rfl rfl rfl rfl ?_
    refine y_ld (p' := 9) (L := 15568) hO hC rfl rfl rfl rfl (by omega) (by omega) ?_
    refine x_icge (p' := 10) hC rfl rfl (fun c9 => ?_) (fun c9 => ?_)
    · refine x_1 (p' := 52) hC rfl rfl rfl rfl ?_
      refine x_iret hC rfl rfl rfl ⟨_, rfl, ?_⟩
      refine eqK K ?_
      rw [hI1, show u = X 1 7 by omega]; rfl
    · refine x_1 (p' := 11) hC rfl rfl rfl rfl ?_
      refine x_1 (p' := 12) hC rfl rfl rfl rfl ?_
      refine x_1 (p' := 13) hC rfl rfl rfl rfl ?_
      refine x_cIV2 (p' := 14) (n := 5) hC rfl rfl rfl rfl rfl (hO.ty) ?_
      refine sp_m_fr hO (by omega) (by omega) ?_
      refine x_1 (p' := 15) hC rfl rfl rfl rfl ?_
      refine x_icne (p' := 16) hC rfl rfl (fun c15 => ?_) (fun c15 => ?_)
      · refine x_1 (p' := 39) hC rfl rfl rfl rfl ?_
        refine x_stI5 (p' := 40) hC rfl rfl rfl ?_
        refine x_1 (p' := 41) hC rfl rfl rfl rfl ?_
        refine x_ifeq (p' := 42) hC rfl rfl (fun _ => ?_) (fun c => absurd c (by decide))
        refine x_1 (p' := 48) hC rfl rfl rfl rfl ?_
        refine x_stI3 (p' := 49) hC rfl rfl rfl ?_
        refine x_inc4 (p' := 50) hC rfl rfl (⟨by omega, by omega⟩) ?_
        refine x_1 (p' := 4) hC rfl rfl rfl rfl ?_
        exact ih _ _ _ (by omega) (by omega) (by rw [fI_succ (by omega), ← hI1]; first | rw [cif_t (by omega)] | rw [cif_f (by omega)])
      · refine x_1 (p' := 17) hC rfl rfl rfl rfl ?_
        refine x_1 (p' := 18) hC rfl rfl rfl rfl ?_
        refine x_1 (p' := 19) hC rfl rfl rfl rfl ?_
        refine x_cIV2 (p' := 20) (n := 5) hC rfl rfl rfl rfl rfl (hO.ty) ?_
        refine sp_m_fr hO (by omega) (by omega) ?_
        refine x_1 (p' := 21) hC rfl rfl rfl rfl ?_
        refine x_icne (p' := 22) hC rfl rfl (fun c21 => ?_) (fun c21 => ?_)
        · refine x_1 (p' := 39) hC rfl rfl rfl rfl ?_
          refine x_stI5 (p' := 40) hC rfl rfl rfl ?_
          refine x_1 (p' := 41) hC rfl rfl rfl rfl ?_
          refine x_ifeq (p' := 42) hC rfl rfl (fun _ => ?_) (fun c => absurd c (by decide))
          refine x_1 (p' := 48) hC rfl rfl rfl rfl ?_
          refine x_stI3 (p' := 49) hC rfl rfl rfl ?_
          refine x_inc4 (p' := 50) hC rfl rfl (⟨by omega, by omega⟩) ?_
          refine x_1 (p' := 4) hC rfl rfl rfl rfl ?_
          exact ih _ _ _ (by omega) (by omega) (by rw [fI_succ (by omega), ← hI1]; first | rw [cif_t (by omega)] | rw [cif_f (by omega)])
        · refine x_1 (p' := 23) hC rfl rfl rfl rfl ?_
          refine x_1 (p' := 24) hC rfl rfl rfl rfl ?_
          refine x_1 (p' := 25) hC rfl rfl rfl rfl ?_
          refine x_cIV2 (p' := 26) (n := 5) hC rfl rfl rfl rfl rfl (hO.ty) ?_
          refine sp_m_fr hO (by omega) (by omega) ?_
          refine x_1 (p' := 27) hC rfl rfl rfl rfl ?_
          refine x_icle (p' := 28) hC rfl rfl (fun c27 => ?_) (fun c27 => ?_)
          · refine x_1 (p' := 39) hC rfl rfl rfl rfl ?_
            refine x_stI5 (p' := 40) hC rfl rfl rfl ?_
            refine x_1 (p' := 41) hC rfl rfl rfl rfl ?_
            refine x_ifeq (p' := 42) hC rfl rfl (fun _ => ?_) (fun c => absurd c (by decide))
            refine x_1 (p' := 48) hC rfl rfl rfl rfl ?_
            refine x_stI3 (p' := 49) hC rfl rfl rfl ?_
            refine x_inc4 (p' := 50) hC rfl rfl (⟨by omega, by omega⟩) ?_
            refine x_1 (p' := 4) hC rfl rfl rfl rfl ?_
            exact ih _ _ _ (by omega) (by omega) (by rw [fI_succ (by omega), ← hI1]; first | rw [cif_t (by omega)] | rw [cif_f (by omega)])
          · refine x_1 (p' := 29) hC rfl rfl rfl rfl ?_
            refine x_iflt (p' := 30) hC rfl rfl (fun c29 => ?_) (fun c29 => ?_)
            · refine x_1 (p' := 37) hC rfl rfl rfl rfl ?_
              refine x_1 (p' := 39) hC rfl rfl rfl rfl ?_
              refine x_stI5 (p' := 40) hC rfl rfl rfl ?_
              refine x_1 (p' := 41) hC rfl rfl rfl rfl ?_
              refine x_ifeq (p' := 42) hC rfl rfl (fun c => absurd c (by decide)) (fun _ => ?_)
              refine x_1 (p' := 43) hC rfl rfl rfl rfl ?_
              refine x_1 (p' := 44) hC rfl rfl rfl rfl ?_
              refine x_1 (p' := 45) hC rfl rfl rfl rfl ?_
              refine x_cIV2 (p' := 46) (n := 5) hC rfl rfl rfl rfl rfl (hO.ty) ?_
              refine sp_m_fr hO (by omega) (by omega) ?_
              refine x_1 (p' := 48) hC rfl rfl rfl rfl ?_
              refine x_stI3 (p' := 49) hC rfl rfl rfl ?_
              refine x_inc4 (p' := 50) hC rfl rfl (⟨by omega, by omega⟩) ?_
              refine x_1 (p' := 4) hC rfl rfl rfl rfl ?_
              exact ih _ _ _ (by omega) (by omega) (by rw [fI_succ (by omega), ← hI1]; first | rw [cif_t (by omega)] | rw [cif_f (by omega)])
            · refine x_1 (p' := 31) hC rfl rfl rfl rfl ?_
              refine x_1 (p' := 32) hC rfl rfl rfl rfl ?_
              refine x_1 (p' := 33) hC rfl rfl rfl rfl ?_
              refine x_cIV2 (p' := 34) (n := 5) hC rfl rfl rfl rfl rfl (hO.ty) ?_
              refine sp_m_fr hO (by omega) (by omega) ?_
              refine x_1 (p' := 35) hC rfl rfl rfl rfl ?_
              refine x_icge (p' := 36) hC rfl rfl (fun c35 => ?_) (fun c35 => ?_)
              · refine x_1 (p' := 39) hC rfl rfl rfl rfl ?_
                refine x_stI5 (p' := 40) hC rfl rfl rfl ?_
                refine x_1 (p' := 41) hC rfl rfl rfl rfl ?_
                refine x_ifeq (p' := 42) hC rfl rfl (fun _ => ?_) (fun c => absurd c (by decide))
                refine x_1 (p' := 48) hC rfl rfl rfl rfl ?_
                refine x_stI3 (p' := 49) hC rfl rfl rfl ?_
                refine x_inc4 (p' := 50) hC rfl rfl (⟨by omega, by omega⟩) ?_
                refine x_1 (p' := 4) hC rfl rfl rfl rfl ?_
                exact ih _ _ _ (by omega) (by omega) (by rw [fI_succ (by omega), ← hI1]; first | rw [cif_t (by omega)] | rw [cif_f (by omega)])
              · refine x_1 (p' := 37) hC rfl rfl rfl rfl ?_
                refine x_1 (p' := 39) hC rfl rfl rfl rfl ?_
                refine x_stI5 (p' := 40) hC rfl rfl rfl ?_
                refine x_1 (p' := 41) hC rfl rfl rfl rfl ?_
                refine x_ifeq (p' := 42) hC rfl rfl (fun c => absurd c (by decide)) (fun _ => ?_)
                refine x_1 (p' := 43) hC rfl rfl rfl rfl ?_
                refine x_1 (p' := 44) hC rfl rfl rfl rfl ?_
                refine x_1 (p' := 45) hC rfl rfl rfl rfl ?_
                refine x_cIV2 (p' := 46) (n := 5) hC rfl rfl rfl rfl rfl (hO.ty) ?_
                refine sp_m_fr hO (by omega) (by omega) ?_
                refine x_1 (p' := 48) hC rfl rfl rfl rfl ?_
                refine x_stI3 (p' := 49) hC rfl rfl rfl ?_
                refine x_inc4 (p' := 50) hC rfl rfl (⟨by omega, by omega⟩) ?_
                refine x_1 (p' := 4) hC rfl rfl rfl rfl ?_
                exact ih _ _ _ (by omega) (by omega) (by rw [fI_succ (by omega), ← hI1]; first | rw [cif_t (by omega)] | rw [cif_f (by omega)])
set_option maxRecDepth 20000 in
theorem sp_m_behind {d : Nat} {m : Nat} {h : HP} (hO : RO m h) {X : Nat → Int → Int} (hs : RI (X 1)) {g sl : Int} {Q : Int → HP → Prop} (K : Q (rBehind (X 1) g sl) (wX m h X)) : CaI (d + 1) 34 [.inr (some m), .inl g, .inl sl] (wX m h X) Q := by
  have hC : cod 34 = c_m_behind := rfl
  refine CaI.start rfl ?_
  have hs2 := hs.2.2.1
  refine x_1 (p' := 1) hC rfl rfl rfl rfl ?_
  refine x_stI3 (p' := 2) hC rfl rfl rfl ?_
  refine x_1 (p' := 3) hC rfl rfl rfl rfl ?_
  refine x_stI4 (p' := 4) hC rfl rfl rfl ?_
  exact lp_m_behind hO hs (st0 := none) K _ _ _ _ (Nat.lt_succ_self _) (by omega) rfl
set_option maxRecDepth 20000 in
theorem sp_m_isQuick {d : Nat} {m : Nat} {h : HP} (hO : RO m h) {X : Nat → Int → Int} {g c : Int} (hg : 0 ≤ g ∧ g < 5) (hc : 0 ≤ c ∧ c < 15) {Q : Int → HP → Prop} (K : Q (b2i (rPer (X 1) c ≤ rOf (X 1) g 4)) (wX m h X)) : CaI (d + 2) 36 [.inr (some m), .inl g, .inl c] (wX m h X) Q := by
  have hC : cod 36 = c_m_isQuick := rfl
  refine CaI.start rfl ?_
  refine x_1 (p' := 1) hC rfl rfl rfl rfl ?_
  refine x_1 (p' := 2) hC rfl rfl rfl rfl ?_
  refine x_cIV1 (p' := 3) (n := 16) hC rfl rfl rfl rfl rfl (hO.ty) ?_
  refine sp_m_periodOf hO (by omega) ?_
  refine x_1 (p' := 4) hC rfl rfl rfl rfl ?_
  refine x_1 (p' := 5) hC rfl rfl rfl rfl ?_
  refine x_1 (p' := 6) hC rfl rfl rfl rfl ?_
  refine x_cIV2 (p' := 7) (n := 3) hC rfl rfl rfl rfl rfl (hO.ty) ?_
  refine sp_m_of hO (by omega) (by omega) ?_
  refine x_icgt (p' := 8) hC rfl rfl (fun c7 => ?_) (fun c7 => ?_)
  · refine x_1 (p' := 11) hC rfl rfl rfl rfl ?_
    refine x_zret hC rfl rfl rfl (by first | omega | exact b2i_01 _) ⟨_, rfl, ?_⟩
    refine eqK K ?_
    first | exact b2i_t (by omega) | exact b2i_f (by omega)
  · refine x_1 (p' := 9) hC rfl rfl rfl rfl ?_
    refine x_1 (p' := 11) hC rfl rfl rfl rfl ?_
    refine x_zret hC rfl rfl rfl (by first | omega | exact b2i_01 _) ⟨_, rfl, ?_⟩
    refine eqK K ?_
    first | exact b2i_t (by omega) | exact b2i_f (by omega)
set_option maxRecDepth 20000 in
theorem sp_m_expects {d : Nat} {m : Nat} {h : HP} (hO : RO m h) {X : Nat → Int → Int} {g c sl : Int} (hg : 0 ≤ g ∧ g < 5) (hc : 0 ≤ c ∧ c < 15) (hp : okPer (X 1) c) (hpg : 1 ≤ rOf (X 1) g 4 ∧ rOf (X 1) g 4 ≤ 20) (hsl : 0 ≤ sl) {Q : Int → HP → Prop} (K : Q (rExp (X 1) g c sl) (wX m h X)) : CaI (d + 3) 37 [.inr (some m), .inl g, .inl c, .inl sl] (wX m h X) Q := by
  have hC : cod 37 = c_m_expects := rfl
  refine CaI.start rfl ?_
  refine x_1 (p' := 1) hC rfl rfl rfl rfl ?_
  refine x_1 (p' := 2) hC rfl rfl rfl rfl ?_
  refine x_1 (p' := 3) hC rfl rfl rfl rfl ?_
  refine x_cIV2 (p' := 4) (n := 36) hC rfl rfl rfl rfl rfl (hO.ty) ?_
  refine sp_m_isQuick hO (by omega) (by omega) ?_
  refine x_ifeq (p' := 5) hC rfl rfl (fun c4 => ?_) (fun c4 => ?_)
  · have c4 := b2i_0.mp c4
    refine x_1 (p' := 15) hC rfl rfl rfl rfl ?_
    refine x_1 (p' := 16) hC rfl rfl rfl rfl ?_
    refine x_1 (p' := 17) hC rfl rfl rfl rfl ?_
    refine x_cIV1 (p' := 18) (n := 16) hC rfl rfl rfl rfl rfl (hO.ty) ?_
    refine sp_m_periodOf hO (by omega) ?_
    refine x_rem (p' := 19) hC rfl rfl rfl (by omega) ?_
    refine x_ifne (p' := 20) hC rfl rfl (fun c19 => ?_) (fun c19 => ?_)
    · refine x_1 (p' := 23) hC rfl rfl rfl rfl ?_
      refine x_iret hC rfl rfl rfl ⟨_, rfl, ?_⟩
      refine eqK K ?_
      unfold rExp
      first | (rw [if_pos (by omega), wr_tdiv (by omega) (by omega) (by omega)]) | (rw [wr_tmod (by omega) (by omega) (by omega)] at c19; rw [if_neg (by omega)]; first | exact b2i_t c19 | exact b2i_f c19)
    · refine x_1 (p' := 21) hC rfl rfl rfl rfl ?_
      refine x_1 (p' := 23) hC rfl rfl rfl rfl ?_
      refine x_iret hC rfl rfl rfl ⟨_, rfl, ?_⟩
      refine eqK K ?_
      unfold rExp
      first | (rw [if_pos (by omega), wr_tdiv (by omega) (by omega) (by omega)]) | (rw [wr_tmod (by omega) (by omega) (by omega)] at c19; rw [if_neg (by omega)]; first | exact b2i_t c19 | exact b2i_f c19)
  · have c4 := b2i_n0.mp c4
    refine x_1 (p' := 6) hC rfl rfl rfl rfl ?_
    refine x_1 (p' := 7) hC rfl rfl rfl rfl ?_
    refine x_1 (p' := 8) hC rfl rfl rfl rfl ?_
    refine x_cIV2 (p' := 9) (n := 3) hC rfl rfl rfl rfl rfl (hO.ty) ?_
    refine sp_m_of hO (by omega) (by omega) ?_
    refine x_1 (p' := 10) hC rfl rfl rfl rfl ?_
    refine x_1 (p' := 11) hC rfl rfl rfl rfl ?_
    refine x_cIV1 (p' := 12) (n := 16) hC rfl rfl rfl rfl rfl (hO.ty) ?_
    refine sp_m_periodOf hO (by omega) ?_
    refine x_div (p' := 13) hC rfl rfl rfl (by omega) ?_
    refine x_1 (p' := 23) hC rfl rfl rfl rfl ?_
    refine x_iret hC rfl rfl rfl ⟨_, rfl, ?_⟩
    refine eqK K ?_
    unfold rExp
    first | (rw [if_pos (by omega), wr_tdiv (by omega) (by omega) (by omega)]) | (rw [wr_tmod (by omega) (by omega) (by omega)] at c19; rw [if_neg (by omega)]; first | exact b2i_t c19 | exact b2i_f c19)
set_option maxRecDepth 20000 in
theorem lp_m_frames {d : Nat} {m : Nat} {h : HP} (hO : RO m h) {X : Nat → Int → Int} (hs : RI (X 1)) {g c sl : Int} {Q : Int → HP → Prop} (K : Q (rFrames (X 1) g c sl) (wX m h X)) (k : Nat) : ∀ (n : Int) (u : Int), (X 1 7 - u).toNat < k → (0 ≤ u ∧ u ≤ X 1 7) → (0 ≤ n ∧ n ≤ u) → (n = fI u (fun f n => n + b2i (rIn (X 1) f g sl ∧ (c < 0 ∨ rFr (X 1) f 2 = c))) 0) → At (d + 2) 38 4 [some (.inr (some m)), some (.inl g), some (.inl c), some (.inl sl), some (.inl n), some (.inl u)] [] (wX m h X) (fun v h' => ∃ x, v = some (.inl x) ∧ Q x h') := by
  have hC : cod 38 = c_m_frames := rfl
  induction k with
  | zero =>
    intro n u hk
    exact absurd hk (Nat.not_lt_zero _)
  | succ k ih =>
    intro n u hk hI0 hI1 hI2
    have hs2 := hs.2.2.1
    refine x_1 (p' := 5) hC rfl rfl rfl rfl ?_
    refine x_1 (p' := 6) hC rfl rfl rfl rfl ?_
    refine y_gR (p' := 7) (n := 1) hO hC rfl rfl rfl rfl ?_
    refine x_1 (p' := 8) hC rfl rfl rfl rfl ?_
    refine y_ld (p' := 9) (L := 15568) hO hC rfl rfl rfl rfl (by omega) (by omega) ?_
    refine x_icge (p' := 10) hC rfl rfl (fun c9 => ?_) (fun c9 => ?_)
    · refine x_1 (p' := 33) hC rfl rfl rfl rfl ?_
      refine x_iret hC rfl rfl rfl ⟨_, rfl, ?_⟩
      refine eqK K ?_
      rw [hI2, show u = X 1 7 by omega]; rfl
    · refine x_1 (p' := 11) hC rfl rfl rfl rfl ?_
      refine x_1 (p' := 12) hC rfl rfl rfl rfl ?_
      refine x_1 (p' := 13) hC rfl rfl rfl rfl ?_
      refine x_1 (p' := 14) hC rfl rfl rfl rfl ?_
      refine x_1 (p' := 15) hC rfl rfl rfl rfl ?_
      refine x_cIV3 (p' := 16) (n := 33) hC rfl rfl rfl rfl rfl (hO.ty) ?_
      refine sp_m_isIn hO (by omega) ?_
      refine x_ifeq (p' := 17) hC rfl rfl (fun c16 => ?_) (fun c16 => ?_)
      · have c16 := b2i_0.mp c16
        refine x_1 (p' := 28) hC rfl rfl rfl rfl ?_
        refine x_add (p' := 29) hC rfl rfl rfl (⟨by omega, by omega⟩) ?_
        refine x_stI4 (p' := 30) hC rfl rfl rfl ?_
        refine x_inc5 (p' := 31) hC rfl rfl (⟨by omega, by omega⟩) ?_
        refine x_1 (p' := 4) hC rfl rfl rfl rfl ?_
        exact ih _ _ (by omega) (by omega) (by omega) (by rw [fI_succ (by omega), ← hI2]; first | (rw [b2i_t (by omega)]) | (rw [b2i_f (by omega)]))
      · have c16 := b2i_n0.mp c16
        refine x_1 (p' := 18) hC rfl rfl rfl rfl ?_
        refine x_iflt (p' := 19) hC rfl rfl (fun c18 => ?_) (fun c18 => ?_)
        · refine x_1 (p' := 26) hC rfl rfl rfl rfl ?_
          refine x_1 (p' := 28) hC rfl rfl rfl rfl ?_
          refine x_add (p' := 29) hC rfl rfl rfl (⟨by omega, by omega⟩) ?_
          refine x_stI4 (p' := 30) hC rfl rfl rfl ?_
          refine x_inc5 (p' := 31) hC rfl rfl (⟨by omega, by omega⟩) ?_
          refine x_1 (p' := 4) hC rfl rfl rfl rfl ?_
          exact ih _ _ (by omega) (by omega) (by omega) (by rw [fI_succ (by omega), ← hI2]; first | (rw [b2i_t (by omega)]) | (rw [b2i_f (by omega)]))
        · refine x_1 (p' := 20) hC rfl rfl rfl rfl ?_
          refine x_1 (p' := 21) hC rfl rfl rfl rfl ?_
          refine x_1 (p' := 22) hC rfl rfl rfl rfl ?_
          refine x_cIV2 (p' := 23) (n := 5) hC rfl rfl rfl rfl rfl (hO.ty) ?_
          refine sp_m_fr hO (by omega) (by omega) ?_
          refine x_1 (p' := 24) hC rfl rfl rfl rfl ?_
          refine x_icne (p' := 25) hC rfl rfl (fun c24 => ?_) (fun c24 => ?_)
          · refine x_1 (p' := 28) hC rfl rfl rfl rfl ?_
            refine x_add (p' := 29) hC rfl rfl rfl (⟨by omega, by omega⟩) ?_
            refine x_stI4 (p' := 30) hC rfl rfl rfl ?_
            refine x_inc5 (p' := 31) hC rfl rfl (⟨by omega, by omega⟩) ?_
            refine x_1 (p' := 4) hC rfl rfl rfl rfl ?_
            exact ih _ _ (by omega) (by omega) (by omega) (by rw [fI_succ (by omega), ← hI2]; first | (rw [b2i_t (by omega)]) | (rw [b2i_f (by omega)]))
          · refine x_1 (p' := 26) hC rfl rfl rfl rfl ?_
            refine x_1 (p' := 28) hC rfl rfl rfl rfl ?_
            refine x_add (p' := 29) hC rfl rfl rfl (⟨by omega, by omega⟩) ?_
            refine x_stI4 (p' := 30) hC rfl rfl rfl ?_
            refine x_inc5 (p' := 31) hC rfl rfl (⟨by omega, by omega⟩) ?_
            refine x_1 (p' := 4) hC rfl rfl rfl rfl ?_
            exact ih _ _ (by omega) (by omega) (by omega) (by rw [fI_succ (by omega), ← hI2]; first | (rw [b2i_t (by omega)]) | (rw [b2i_f (by omega)]))
set_option maxRecDepth 20000 in
theorem sp_m_frames {d : Nat} {m : Nat} {h : HP} (hO : RO m h) {X : Nat → Int → Int} (hs : RI (X 1)) {g c sl : Int} {Q : Int → HP → Prop} (K : Q (rFrames (X 1) g c sl) (wX m h X)) : CaI (d + 2) 38 [.inr (some m), .inl g, .inl c, .inl sl] (wX m h X) Q := by
  have hC : cod 38 = c_m_frames := rfl
  refine CaI.start rfl ?_
  have hs2 := hs.2.2.1
  refine x_1 (p' := 1) hC rfl rfl rfl rfl ?_
  refine x_stI4 (p' := 2) hC rfl rfl rfl ?_
  refine x_1 (p' := 3) hC rfl rfl rfl rfl ?_
  refine x_stI5 (p' := 4) hC rfl rfl rfl ?_
  exact lp_m_frames hO hs K _ _ _ (Nat.lt_succ_self _) (by omega) (by omega) rfl
theorem rExp_le {s : Int → Int} (hs : RI s) {h c slot : Int} (hp : okPer s c) (hg : 1 ≤ rOf s h 4 ∧ rOf s h 4 ≤ 20) : 0 ≤ rExp s h c slot ∧ rExp s h c slot ≤ 20 := by
  unfold rExp
  split
  · have h1 := Int.ediv_nonneg (show 0 ≤ rOf s h 4 by omega) (show 0 ≤ rPer s c by omega)
    have h2 := Int.ediv_le_self (rPer s c) (show 0 ≤ rOf s h 4 by omega)
    omega
  · have := b2i_01 (slot % rPer s c = 0)
    omega
set_option maxRecDepth 20000 in
theorem lp_m_expected {d : Nat} {m : Nat} {h : HP} (hO : RO m h) {X : Nat → Int → Int} (hs : RI (X 1)) {g sl : Int} (hg : 0 ≤ g ∧ g < X 1 0) (hsl : 0 ≤ sl) {Q : Int → HP → Prop} (K : Q (rExpected (X 1) g sl) (wX m h X)) (k : Nat) : ∀ (n : Int) (u : Int), (15 - u).toNat < k → (0 ≤ u ∧ u ≤ 15) → (0 ≤ n ∧ n ≤ 20 * u) → (n = fI u (fun c n => n + cif (rChild (X 1) g c) (rExp (X 1) g c sl) 0) 0) → At (d + 4) 39 4 [some (.inr (some m)), some (.inl g), some (.inl sl), some (.inl n), some (.inl u)] [] (wX m h X) (fun v h' => ∃ x, v = some (.inl x) ∧ Q x h') := by
  have hC : cod 39 = c_m_expected := rfl
  induction k with
  | zero =>
    intro n u hk
    exact absurd hk (Nat.not_lt_zero _)
  | succ k ih =>
    intro n u hk hI0 hI1 hI2
    have hg1 := hs.1
    have hpg : 1 ≤ rOf (X 1) g 4 ∧ rOf (X 1) g 4 ≤ 20 := by have := hs.2.2.2.2.1 g hg.1 hg.2; omega
    refine x_1 (p' := 5) hC rfl rfl rfl rfl ?_
    refine x_1 (p' := 6) hC rfl rfl rfl rfl ?_
    refine x_icge (p' := 7) hC rfl rfl (fun c6 => ?_) (fun c6 => ?_)
    · refine x_1 (p' := 25) hC rfl rfl rfl rfl ?_
      refine x_iret hC rfl rfl rfl ⟨_, rfl, ?_⟩
      refine eqK K ?_
      rw [hI2, show u = 15 by omega]; rfl
    · refine x_1 (p' := 8) hC rfl rfl rfl rfl ?_
      refine x_1 (p' := 9) hC rfl rfl rfl rfl ?_
      refine x_1 (p' := 10) hC rfl rfl rfl rfl ?_
      refine x_1 (p' := 11) hC rfl rfl rfl rfl ?_
      refine x_cIV2 (p' := 12) (n := 15) hC rfl rfl rfl rfl rfl (hO.ty) ?_
      refine sp_m_isChild hO hs (by omega) ?_
      refine x_ifeq (p' := 13) hC rfl rfl (fun c12 => ?_) (fun c12 => ?_)
      · have c12 := b2i_0.mp c12
        refine x_1 (p' := 20) hC rfl rfl rfl rfl ?_
        refine x_add (p' := 21) hC rfl rfl rfl (⟨by omega, by omega⟩) ?_
        refine x_stI3 (p' := 22) hC rfl rfl rfl ?_
        refine x_inc4 (p' := 23) hC rfl rfl (⟨by omega, by omega⟩) ?_
        refine x_1 (p' := 4) hC rfl rfl rfl rfl ?_
        exact ih _ _ (by omega) (by omega) (by omega) (by rw [fI_succ (by omega), ← hI2]; first | rw [cif_t c12] | rw [cif_f c12])
      · have c12 := b2i_n0.mp c12
        have hp := per_child hs c12
        have he := rExp_le hs (slot := sl) hp hpg
        refine x_1 (p' := 14) hC rfl rfl rfl rfl ?_
        refine x_1 (p' := 15) hC rfl rfl rfl rfl ?_
        refine x_1 (p' := 16) hC rfl rfl rfl rfl ?_
        refine x_1 (p' := 17) hC rfl rfl rfl rfl ?_
        refine x_cIV3 (p' := 18) (n := 37) hC rfl rfl rfl rfl rfl (hO.ty) ?_
        refine sp_m_expects hO (by omega) (by omega) (by assumption) (by assumption) (by omega) ?_
        refine x_1 (p' := 20) hC rfl rfl rfl rfl ?_
        refine x_add (p' := 21) hC rfl rfl rfl (⟨by omega, by omega⟩) ?_
        refine x_stI3 (p' := 22) hC rfl rfl rfl ?_
        refine x_inc4 (p' := 23) hC rfl rfl (⟨by omega, by omega⟩) ?_
        refine x_1 (p' := 4) hC rfl rfl rfl rfl ?_
        exact ih _ _ (by omega) (by omega) (by omega) (by rw [fI_succ (by omega), ← hI2]; first | rw [cif_t c12] | rw [cif_f c12])
set_option maxRecDepth 20000 in
theorem sp_m_expected {d : Nat} {m : Nat} {h : HP} (hO : RO m h) {X : Nat → Int → Int} (hs : RI (X 1)) {g sl : Int} (hg : 0 ≤ g ∧ g < X 1 0) (hsl : 0 ≤ sl) {Q : Int → HP → Prop} (K : Q (rExpected (X 1) g sl) (wX m h X)) : CaI (d + 4) 39 [.inr (some m), .inl g, .inl sl] (wX m h X) Q := by
  have hC : cod 39 = c_m_expected := rfl
  refine CaI.start rfl ?_
  refine x_1 (p' := 1) hC rfl rfl rfl rfl ?_
  refine x_stI3 (p' := 2) hC rfl rfl rfl ?_
  refine x_1 (p' := 3) hC rfl rfl rfl rfl ?_
  refine x_stI4 (p' := 4) hC rfl rfl rfl ?_
  exact lp_m_expected hO hs hg hsl K _ _ _ (Nat.lt_succ_self _) (by omega) (by omega) rfl
set_option maxRecDepth 20000 in
theorem lp_m_isComplete {d : Nat} {m : Nat} {h : HP} (hO : RO m h) {X : Nat → Int → Int} (hs : RI (X 1)) {g sl : Int} (hg : 0 ≤ g ∧ g < X 1 0) (hsl : 0 ≤ sl) {Q : Int → HP → Prop} (K : Q (b2i (rCompl (X 1) g sl)) (wX m h X)) (k : Nat) : ∀ (n : Int) (u : Int), (15 - u).toNat < k → (0 ≤ u ∧ u ≤ 15) → (n = b2i (rComplN (X 1) g sl u)) → At (d + 4) 40 4 [some (.inr (some m)), some (.inl g), some (.inl sl), some (.inl n), some (.inl u)] [] (wX m h X) (fun v h' => ∃ x, v = some (.inl x) ∧ Q x h') := by
  have hC : cod 40 = c_m_isComplete := rfl
  induction k with
  | zero =>
    intro n u hk
    exact absurd hk (Nat.not_lt_zero _)
  | succ k ih =>
    intro n u hk hI0 hI1
    have hg1 := hs.1
    have hpg : 1 ≤ rOf (X 1) g 4 ∧ rOf (X 1) g 4 ≤ 20 := by have := hs.2.2.2.2.1 g hg.1 hg.2; omega
    have hn01 : 0 ≤ n ∧ n ≤ 1 := by rw [hI1]; exact b2i_01 _
    refine x_1 (p' := 5) hC rfl rfl rfl rfl ?_
    refine x_1 (p' := 6) hC rfl rfl rfl rfl ?_
    refine x_icge (p' := 7) hC rfl rfl (fun c6 => ?_) (fun c6 => ?_)
    · refine x_1 (p' := 32) hC rfl rfl rfl rfl ?_
      refine x_zret hC rfl rfl rfl (by first | omega | exact b2i_01 _) ⟨_, rfl, ?_⟩
      refine eqK K ?_
      first
        | (rw [hI1, show u = 15 by omega])
        | (have c0 : n = 0 := by omega
           rw [c0]
           rw [c0] at hI1
           exact b2i_f (fun q => b2i_0.mp hI1.symm (fun c h0 h1 => q c h0 (by omega))))
    · refine x_1 (p' := 8) hC rfl rfl rfl rfl ?_
      refine x_ifeq (p' := 9) hC rfl rfl (fun c8 => ?_) (fun c8 => ?_)
      · refine x_1 (p' := 32) hC rfl rfl rfl rfl ?_
        refine x_zret hC rfl rfl rfl (by first | omega | exact b2i_01 _) ⟨_, rfl, ?_⟩
        refine eqK K ?_
        first
          | (rw [hI1, show u = 15 by omega])
          | (have c0 : n = 0 := by omega
             rw [c0]
             rw [c0] at hI1
             exact b2i_f (fun q => b2i_0.mp hI1.symm (fun c h0 h1 => q c h0 (by omega))))
      · refine x_1 (p' := 10) hC rfl rfl rfl rfl ?_
        refine x_1 (p' := 11) hC rfl rfl rfl rfl ?_
        refine x_1 (p' := 12) hC rfl rfl rfl rfl ?_
        refine x_cIV2 (p' := 13) (n := 15) hC rfl rfl rfl rfl rfl (hO.ty) ?_
        refine sp_m_isChild hO hs (by omega) ?_
        refine x_ifeq (p' := 14) hC rfl rfl (fun c13 => ?_) (fun c13 => ?_)
        · have c13 := b2i_0.mp c13
          refine x_1 (p' := 26) hC rfl rfl rfl rfl ?_
          refine x_1 (p' := 28) hC rfl rfl rfl rfl ?_
          refine x_stI3 (p' := 29) hC rfl rfl rfl ?_
          refine x_inc4 (p' := 30) hC rfl rfl (⟨by omega, by omega⟩) ?_
          refine x_1 (p' := 4) hC rfl rfl rfl rfl ?_
          refine ih _ _ (by omega) (by omega) ?_
          first
            | exact (b2i_t ((rComplN_succ (by omega)).mpr ⟨b2i_n0.mp (by rw [← hI1]; omega), fun q => absurd q c13⟩)).symm
            | exact (b2i_t ((rComplN_succ (by omega)).mpr ⟨b2i_n0.mp (by rw [← hI1]; omega), fun q => by omega⟩)).symm
            | exact (b2i_f (fun q => by have := ((rComplN_succ (by omega)).mp q).2 c13; omega)).symm
        · have c13 := b2i_n0.mp c13
          have hp := per_child hs c13
          refine x_1 (p' := 15) hC rfl rfl rfl rfl ?_
          refine x_1 (p' := 16) hC rfl rfl rfl rfl ?_
          refine x_1 (p' := 17) hC rfl rfl rfl rfl ?_
          refine x_1 (p' := 18) hC rfl rfl rfl rfl ?_
          refine x_cIV3 (p' := 19) (n := 38) hC rfl rfl rfl rfl rfl (hO.ty) ?_
          refine sp_m_frames hO hs ?_
          refine x_1 (p' := 20) hC rfl rfl rfl rfl ?_
          refine x_1 (p' := 21) hC rfl rfl rfl rfl ?_
          refine x_1 (p' := 22) hC rfl rfl rfl rfl ?_
          refine x_1 (p' := 23) hC rfl rfl rfl rfl ?_
          refine x_cIV3 (p' := 24) (n := 37) hC rfl rfl rfl rfl rfl (hO.ty) ?_
          refine sp_m_expects hO (by omega) (by omega) (by assumption) (by assumption) (by omega) ?_
          refine x_iclt (p' := 25) hC rfl rfl (fun c24 => ?_) (fun c24 => ?_)
          · refine x_1 (p' := 28) hC rfl rfl rfl rfl ?_
            refine x_stI3 (p' := 29) hC rfl rfl rfl ?_
            refine x_inc4 (p' := 30) hC rfl rfl (⟨by omega, by omega⟩) ?_
            refine x_1 (p' := 4) hC rfl rfl rfl rfl ?_
            refine ih _ _ (by omega) (by omega) ?_
            first
              | exact (b2i_t ((rComplN_succ (by omega)).mpr ⟨b2i_n0.mp (by rw [← hI1]; omega), fun q => absurd q c13⟩)).symm
              | exact (b2i_t ((rComplN_succ (by omega)).mpr ⟨b2i_n0.mp (by rw [← hI1]; omega), fun q => by omega⟩)).symm
              | exact (b2i_f (fun q => by have := ((rComplN_succ (by omega)).mp q).2 c13; omega)).symm
          · refine x_1 (p' := 26) hC rfl rfl rfl rfl ?_
            refine x_1 (p' := 28) hC rfl rfl rfl rfl ?_
            refine x_stI3 (p' := 29) hC rfl rfl rfl ?_
            refine x_inc4 (p' := 30) hC rfl rfl (⟨by omega, by omega⟩) ?_
            refine x_1 (p' := 4) hC rfl rfl rfl rfl ?_
            refine ih _ _ (by omega) (by omega) ?_
            first
              | exact (b2i_t ((rComplN_succ (by omega)).mpr ⟨b2i_n0.mp (by rw [← hI1]; omega), fun q => absurd q c13⟩)).symm
              | exact (b2i_t ((rComplN_succ (by omega)).mpr ⟨b2i_n0.mp (by rw [← hI1]; omega), fun q => by omega⟩)).symm
              | exact (b2i_f (fun q => by have := ((rComplN_succ (by omega)).mp q).2 c13; omega)).symm
set_option maxRecDepth 20000 in
theorem sp_m_isComplete {d : Nat} {m : Nat} {h : HP} (hO : RO m h) {X : Nat → Int → Int} (hs : RI (X 1)) {g sl : Int} (hg : 0 ≤ g ∧ g < X 1 0) (hsl : 0 ≤ sl) {Q : Int → HP → Prop} (K : Q (b2i (rCompl (X 1) g sl)) (wX m h X)) : CaI (d + 4) 40 [.inr (some m), .inl g, .inl sl] (wX m h X) Q := by
  have hC : cod 40 = c_m_isComplete := rfl
  refine CaI.start rfl ?_
  refine x_1 (p' := 1) hC rfl rfl rfl rfl ?_
  refine x_stI3 (p' := 2) hC rfl rfl rfl ?_
  refine x_1 (p' := 3) hC rfl rfl rfl rfl ?_
  refine x_stI4 (p' := 4) hC rfl rfl rfl ?_
  exact lp_m_isComplete hO hs hg hsl K _ _ _ (Nat.lt_succ_self _) (by omega) (b2i_t (fun c h0 h1 => by omega)).symm
set_option maxRecDepth 20000 in
theorem lp_m_firstCame {d : Nat} {m : Nat} {h : HP} (hO : RO m h) {X : Nat → Int → Int} (hs : RI (X 1)) {g sl : Int} {Q : Int → HP → Prop} (K : Q (rFirst (X 1) g sl) (wX m h X)) (k : Nat) : ∀ (n : Int) (u : Int), (X 1 7 - u).toNat < k → (0 ≤ u ∧ u ≤ X 1 7) → (n = fI u (fun f found => cif (rIn (X 1) f g sl ∧ (found < 0 ∨ rFr (X 1) f 5 < found)) (rFr (X 1) f 5) found) (-1)) → At (d + 2) 41 4 [some (.inr (some m)), some (.inl g), some (.inl sl), some (.inl n), some (.inl u)] [] (wX m h X) (fun v h' => ∃ x, v = some (.inl x) ∧ Q x h') := by
  have hC : cod 41 = c_m_firstCame := rfl
  induction k with
  | zero =>
    intro n u hk
    exact absurd hk (Nat.not_lt_zero _)
  | succ k ih =>
    intro n u hk hI0 hI1
    have hs2 := hs.2.2.1
    refine x_1 (p' := 5) hC rfl rfl rfl rfl ?_
    refine x_1 (p' := 6) hC rfl rfl rfl rfl ?_
    refine y_gR (p' := 7) (n := 1) hO hC rfl rfl rfl rfl ?_
    refine x_1 (p' := 8) hC rfl rfl rfl rfl ?_
    refine y_ld (p' := 9) (L := 15568) hO hC rfl rfl rfl rfl (by omega) (by omega) ?_
    refine x_icge (p' := 10) hC rfl rfl (fun c9 => ?_) (fun c9 => ?_)
    · refine x_1 (p' := 34) hC rfl rfl rfl rfl ?_
      refine x_iret hC rfl rfl rfl ⟨_, rfl, ?_⟩
      refine eqK K ?_
      rw [hI1, show u = X 1 7 by omega]; rfl
    · refine x_1 (p' := 11) hC rfl rfl rfl rfl ?_
      refine x_1 (p' := 12) hC rfl rfl rfl rfl ?_
      refine x_1 (p' := 13) hC rfl rfl rfl rfl ?_
      refine x_1 (p' := 14) hC rfl rfl rfl rfl ?_
      refine x_cIV3 (p' := 15) (n := 33) hC rfl rfl rfl rfl rfl (hO.ty) ?_
      refine sp_m_isIn hO (by omega) ?_
      refine x_ifeq (p' := 16) hC rfl rfl (fun c15 => ?_) (fun c15 => ?_)
      · have c15 := b2i_0.mp c15
        refine x_1 (p' := 30) hC rfl rfl rfl rfl ?_
        refine x_stI3 (p' := 31) hC rfl rfl rfl ?_
        refine x_inc4 (p' := 32) hC rfl rfl (⟨by omega, by omega⟩) ?_
        refine x_1 (p' := 4) hC rfl rfl rfl rfl ?_
        exact ih _ _ (by omega) (by omega) (by rw [fI_succ (by omega), ← hI1]; first | rw [cif_t (by omega)] | rw [cif_f (by omega)])
      · have c15 := b2i_n0.mp c15
        refine x_1 (p' := 17) hC rfl rfl rfl rfl ?_
        refine x_iflt (p' := 18) hC rfl rfl (fun c17 => ?_) (fun c17 => ?_)
        · refine x_1 (p' := 25) hC rfl rfl rfl rfl ?_
          refine x_1 (p' := 26) hC rfl rfl rfl rfl ?_
          refine x_1 (p' := 27) hC rfl rfl rfl rfl ?_
          refine x_cIV2 (p' := 28) (n := 5) hC rfl rfl rfl rfl rfl (hO.ty) ?_
          refine sp_m_fr hO (by omega) (by omega) ?_
          refine x_1 (p' := 30) hC rfl rfl rfl rfl ?_
          refine x_stI3 (p' := 31) hC rfl rfl rfl ?_
          refine x_inc4 (p' := 32) hC rfl rfl (⟨by omega, by omega⟩) ?_
          refine x_1 (p' := 4) hC rfl rfl rfl rfl ?_
          exact ih _ _ (by omega) (by omega) (by rw [fI_succ (by omega), ← hI1]; first | rw [cif_t (by omega)] | rw [cif_f (by omega)])
        · refine x_1 (p' := 19) hC rfl rfl rfl rfl ?_
          refine x_1 (p' := 20) hC rfl rfl rfl rfl ?_
          refine x_1 (p' := 21) hC rfl rfl rfl rfl ?_
          refine x_cIV2 (p' := 22) (n := 5) hC rfl rfl rfl rfl rfl (hO.ty) ?_
          refine sp_m_fr hO (by omega) (by omega) ?_
          refine x_1 (p' := 23) hC rfl rfl rfl rfl ?_
          refine x_icge (p' := 24) hC rfl rfl (fun c23 => ?_) (fun c23 => ?_)
          · refine x_1 (p' := 30) hC rfl rfl rfl rfl ?_
            refine x_stI3 (p' := 31) hC rfl rfl rfl ?_
            refine x_inc4 (p' := 32) hC rfl rfl (⟨by omega, by omega⟩) ?_
            refine x_1 (p' := 4) hC rfl rfl rfl rfl ?_
            exact ih _ _ (by omega) (by omega) (by rw [fI_succ (by omega), ← hI1]; first | rw [cif_t (by omega)] | rw [cif_f (by omega)])
          · refine x_1 (p' := 25) hC rfl rfl rfl rfl ?_
            refine x_1 (p' := 26) hC rfl rfl rfl rfl ?_
            refine x_1 (p' := 27) hC rfl rfl rfl rfl ?_
            refine x_cIV2 (p' := 28) (n := 5) hC rfl rfl rfl rfl rfl (hO.ty) ?_
            refine sp_m_fr hO (by omega) (by omega) ?_
            refine x_1 (p' := 30) hC rfl rfl rfl rfl ?_
            refine x_stI3 (p' := 31) hC rfl rfl rfl ?_
            refine x_inc4 (p' := 32) hC rfl rfl (⟨by omega, by omega⟩) ?_
            refine x_1 (p' := 4) hC rfl rfl rfl rfl ?_
            exact ih _ _ (by omega) (by omega) (by rw [fI_succ (by omega), ← hI1]; first | rw [cif_t (by omega)] | rw [cif_f (by omega)])
set_option maxRecDepth 20000 in
theorem sp_m_firstCame {d : Nat} {m : Nat} {h : HP} (hO : RO m h) {X : Nat → Int → Int} (hs : RI (X 1)) {g sl : Int} {Q : Int → HP → Prop} (K : Q (rFirst (X 1) g sl) (wX m h X)) : CaI (d + 2) 41 [.inr (some m), .inl g, .inl sl] (wX m h X) Q := by
  have hC : cod 41 = c_m_firstCame := rfl
  refine CaI.start rfl ?_
  have hs2 := hs.2.2.1
  refine x_1 (p' := 1) hC rfl rfl rfl rfl ?_
  refine x_stI3 (p' := 2) hC rfl rfl rfl ?_
  refine x_1 (p' := 3) hC rfl rfl rfl rfl ?_
  refine x_stI4 (p' := 4) hC rfl rfl rfl ?_
  exact lp_m_firstCame hO hs K _ _ _ (Nat.lt_succ_self _) (by omega) rfl
set_option maxRecDepth 20000 in
theorem sp_m_lasts {d : Nat} {m : Nat} {h : HP} (hO : RO m h) {X : Nat → Int → Int} (hs : RI (X 1)) {g sl : Int} (hg : 0 ≤ g ∧ g < 5) (hw : 0 ≤ rOf (X 1) g 0 ∧ rOf (X 1) g 0 ≤ 40) (hsl : -1 ≤ sl ∧ sl ≤ 100000) (hfc : -1 ≤ rFirst (X 1) g sl ∧ rFirst (X 1) g sl ≤ 100000) (ht : 0 ≤ X 1 2 ∧ X 1 2 ≤ 100000) {Q : Int → HP → Prop} (K : Q (rLasts (X 1) g sl) (wX m h X)) : CaI (d + 3) 42 [.inr (some m), .inl g, .inl sl] (wX m h X) Q := by
  have hC : cod 42 = c_m_lasts := rfl
  refine CaI.start rfl ?_
  refine x_1 (p' := 1) hC rfl rfl rfl rfl ?_
  refine x_1 (p' := 2) hC rfl rfl rfl rfl ?_
  refine x_1 (p' := 3) hC rfl rfl rfl rfl ?_
  refine x_cIV2 (p' := 4) (n := 3) hC rfl rfl rfl rfl rfl (hO.ty) ?_
  refine sp_m_of hO (by omega) (by omega) ?_
  refine x_ifne (p' := 5) hC rfl rfl (fun c4 => ?_) (fun c4 => ?_)
  · refine x_1 (p' := 8) hC rfl rfl rfl rfl ?_
    refine x_1 (p' := 9) hC rfl rfl rfl rfl ?_
    refine x_1 (p' := 10) hC rfl rfl rfl rfl ?_
    refine x_cIV2 (p' := 11) (n := 41) hC rfl rfl rfl rfl rfl (hO.ty) ?_
    refine sp_m_firstCame hO hs ?_
    refine x_1 (p' := 12) hC rfl rfl rfl rfl ?_
    refine x_1 (p' := 13) hC rfl rfl rfl rfl ?_
    refine x_1 (p' := 14) hC rfl rfl rfl rfl ?_
    refine x_cIV2 (p' := 15) (n := 3) hC rfl rfl rfl rfl rfl (hO.ty) ?_
    refine sp_m_of hO (by omega) (by omega) ?_
    refine x_add (p' := 16) hC rfl rfl rfl (⟨by omega, by omega⟩) ?_
    refine x_stI3 (p' := 17) hC rfl rfl rfl ?_
    refine x_1 (p' := 18) hC rfl rfl rfl rfl ?_
    refine x_1 (p' := 19) hC rfl rfl rfl rfl ?_
    refine y_gR (p' := 20) (n := 1) hO hC rfl rfl rfl rfl ?_
    refine x_1 (p' := 21) hC rfl rfl rfl rfl ?_
    refine y_ld (p' := 22) (L := 15568) hO hC rfl rfl rfl rfl (by omega) (by omega) ?_
    refine x_icle (p' := 23) hC rfl rfl (fun c22 => ?_) (fun c22 => ?_)
    · refine x_1 (p' := 31) hC rfl rfl rfl rfl ?_
      refine x_iret hC rfl rfl rfl ⟨_, rfl, ?_⟩
      refine eqK K ?_
      unfold rLasts rEnd
      first
        | rw [if_pos (show rOf (X 1) g 1 = 0 by omega)]
        | rw [if_neg (show ¬ rOf (X 1) g 1 = 0 by omega)]
      first | exact if_pos (by omega) | exact if_neg (by omega)
    · refine x_1 (p' := 24) hC rfl rfl rfl rfl ?_
      refine x_1 (p' := 25) hC rfl rfl rfl rfl ?_
      refine y_gR (p' := 26) (n := 1) hO hC rfl rfl rfl rfl ?_
      refine x_1 (p' := 27) hC rfl rfl rfl rfl ?_
      refine y_ld (p' := 28) (L := 15568) hO hC rfl rfl rfl rfl (by omega) (by omega) ?_
      refine x_sub (p' := 29) hC rfl rfl rfl (⟨by omega, by omega⟩) ?_
      refine x_1 (p' := 31) hC rfl rfl rfl rfl ?_
      refine x_iret hC rfl rfl rfl ⟨_, rfl, ?_⟩
      refine eqK K ?_
      unfold rLasts rEnd
      first
        | rw [if_pos (show rOf (X 1) g 1 = 0 by omega)]
        | rw [if_neg (show ¬ rOf (X 1) g 1 = 0 by omega)]
      first | exact if_pos (by omega) | exact if_neg (by omega)
  · refine x_1 (p' := 6) hC rfl rfl rfl rfl ?_
    refine x_1 (p' := 11) hC rfl rfl rfl rfl ?_
    refine x_1 (p' := 12) hC rfl rfl rfl rfl ?_
    refine x_1 (p' := 13) hC rfl rfl rfl rfl ?_
    refine x_1 (p' := 14) hC rfl rfl rfl rfl ?_
    refine x_cIV2 (p' := 15) (n := 3) hC rfl rfl rfl rfl rfl (hO.ty) ?_
    refine sp_m_of hO (by omega) (by omega) ?_
    refine x_add (p' := 16) hC rfl rfl rfl (⟨by omega, by omega⟩) ?_
    refine x_stI3 (p' := 17) hC rfl rfl rfl ?_
    refine x_1 (p' := 18) hC rfl rfl rfl rfl ?_
    refine x_1 (p' := 19) hC rfl rfl rfl rfl ?_
    refine y_gR (p' := 20) (n := 1) hO hC rfl rfl rfl rfl ?_
    refine x_1 (p' := 21) hC rfl rfl rfl rfl ?_
    refine y_ld (p' := 22) (L := 15568) hO hC rfl rfl rfl rfl (by omega) (by omega) ?_
    refine x_icle (p' := 23) hC rfl rfl (fun c22 => ?_) (fun c22 => ?_)
    · refine x_1 (p' := 31) hC rfl rfl rfl rfl ?_
      refine x_iret hC rfl rfl rfl ⟨_, rfl, ?_⟩
      refine eqK K ?_
      unfold rLasts rEnd
      first
        | rw [if_pos (show rOf (X 1) g 1 = 0 by omega)]
        | rw [if_neg (show ¬ rOf (X 1) g 1 = 0 by omega)]
      first | exact if_pos (by omega) | exact if_neg (by omega)
    · refine x_1 (p' := 24) hC rfl rfl rfl rfl ?_
      refine x_1 (p' := 25) hC rfl rfl rfl rfl ?_
      refine y_gR (p' := 26) (n := 1) hO hC rfl rfl rfl rfl ?_
      refine x_1 (p' := 27) hC rfl rfl rfl rfl ?_
      refine y_ld (p' := 28) (L := 15568) hO hC rfl rfl rfl rfl (by omega) (by omega) ?_
      refine x_sub (p' := 29) hC rfl rfl rfl (⟨by omega, by omega⟩) ?_
      refine x_1 (p' := 31) hC rfl rfl rfl rfl ?_
      refine x_iret hC rfl rfl rfl ⟨_, rfl, ?_⟩
      refine eqK K ?_
      unfold rLasts rEnd
      first
        | rw [if_pos (show rOf (X 1) g 1 = 0 by omega)]
        | rw [if_neg (show ¬ rOf (X 1) g 1 = 0 by omega)]
      first | exact if_pos (by omega) | exact if_neg (by omega)
set_option maxRecDepth 20000 in
theorem lp_m_nextFrame {d : Nat} {m : Nat} {h : HP} (hO : RO m h) {X : Nat → Int → Int} (hs : RI (X 1)) {Q : Int → HP → Prop} (K : Q (rNext (X 1)) (wX m h X)) (k : Nat) : ∀ (n : Int) (u : Int) (z1 : Option AV) (z2 : Option AV), (X 1 7 - u).toNat < k → (0 ≤ u ∧ u ≤ X 1 7) → (-1 ≤ n ∧ n < u) → (n = fI u (fun f found => cif (rFr (X 1) f 0 = 1 ∧ rFr (X 1) f 4 ≤ X 1 2 ∧ (found < 0 ∨ rFr (X 1) f 4 < rFr (X 1) found 4 ∨ (rFr (X 1) f 4 = rFr (X 1) found 4 ∧ rFr (X 1) f 5 < rFr (X 1) found 5))) f found) (-1)) → At (d + 1) 54 4 [some (.inr (some m)), some (.inl n), some (.inl u), z1, z2] [] (wX m h X) (fun v h' => ∃ x, v = some (.inl x) ∧ Q x h') := by
  have hC : cod 54 = c_m_nextFrame := rfl
  induction k with
  | zero =>
    intro n u z1 z2 hk
    exact absurd hk (Nat.not_lt_zero _)
  | succ k ih =>
    intro n u z1 z2 hk hI0 hI1 hI2
    have hs2 := hs.2.2.1
    refine x_1 (p' := 5) hC rfl rfl rfl rfl ?_
    refine x_1 (p' := 6) hC rfl rfl rfl rfl ?_
    refine y_gR (p' := 7) (n := 1) hO hC rfl rfl rfl rfl ?_
    refine x_1 (p' := 8) hC rfl rfl rfl rfl ?_
    refine y_ld (p' := 9) (L := 15568) hO hC rfl rfl rfl rfl (by omega) (by omega) ?_
    refine x_icge (p' := 10) hC rfl rfl (fun c9 => ?_) (fun c9 => ?_)
    · refine x_1 (p' := 73) hC rfl rfl rfl rfl ?_
      refine x_iret hC rfl rfl rfl ⟨_, rfl, ?_⟩
      refine eqK K ?_
      rw [hI2, show u = X 1 7 by omega]; rfl
    · refine x_1 (p' := 11) hC rfl rfl rfl rfl ?_
      refine x_1 (p' := 12) hC rfl rfl rfl rfl ?_
      refine x_1 (p' := 13) hC rfl rfl rfl rfl ?_
      refine x_cIV2 (p' := 14) (n := 5) hC rfl rfl rfl rfl rfl (hO.ty) ?_
      refine sp_m_fr hO (by omega) (by omega) ?_
      refine x_1 (p' := 15) hC rfl rfl rfl rfl ?_
      refine x_icne (p' := 16) hC rfl rfl (fun c15 => ?_) (fun c15 => ?_)
      · refine x_1 (p' := 28) hC rfl rfl rfl rfl ?_
        refine x_stI3 (p' := 29) hC rfl rfl rfl ?_
        refine x_1 (p' := 30) hC rfl rfl rfl rfl ?_
        refine x_iflt (p' := 31) hC rfl rfl (fun c30 => ?_) (fun c30 => ?_)
        · refine x_1 (p' := 59) hC rfl rfl rfl rfl ?_
          refine x_1 (p' := 61) hC rfl rfl rfl rfl ?_
          refine x_stI4 (p' := 62) hC rfl rfl rfl ?_
          refine x_1 (p' := 63) hC rfl rfl rfl rfl ?_
          refine x_ifeq (p' := 64) hC rfl rfl (fun _ => ?_) (fun c => absurd c (by decide))
          refine x_1 (p' := 69) hC rfl rfl rfl rfl ?_
          refine x_stI1 (p' := 70) hC rfl rfl rfl ?_
          refine x_inc2 (p' := 71) hC rfl rfl (⟨by omega, by omega⟩) ?_
          refine x_1 (p' := 4) hC rfl rfl rfl rfl ?_
          exact ih _ _ _ _ (by omega) (by omega) (by omega) (by rw [fI_succ (by omega), ← hI2]; first | rw [cif_t (by omega)] | rw [cif_f (by omega)])
        · refine x_1 (p' := 32) hC rfl rfl rfl rfl ?_
          refine x_1 (p' := 33) hC rfl rfl rfl rfl ?_
          refine x_1 (p' := 34) hC rfl rfl rfl rfl ?_
          refine x_cIV2 (p' := 35) (n := 5) hC rfl rfl rfl rfl rfl (hO.ty) ?_
          refine sp_m_fr hO (by omega) (by omega) ?_
          refine x_1 (p' := 36) hC rfl rfl rfl rfl ?_
          refine x_1 (p' := 37) hC rfl rfl rfl rfl ?_
          refine x_1 (p' := 38) hC rfl rfl rfl rfl ?_
          refine x_cIV2 (p' := 39) (n := 5) hC rfl rfl rfl rfl rfl (hO.ty) ?_
          refine sp_m_fr hO (by omega) (by omega) ?_
          refine x_iclt (p' := 40) hC rfl rfl (fun c39 => ?_) (fun c39 => ?_)
          · refine x_1 (p' := 59) hC rfl rfl rfl rfl ?_
            refine x_1 (p' := 61) hC rfl rfl rfl rfl ?_
            refine x_stI4 (p' := 62) hC rfl rfl rfl ?_
            refine x_1 (p' := 63) hC rfl rfl rfl rfl ?_
            refine x_ifeq (p' := 64) hC rfl rfl (fun _ => ?_) (fun c => absurd c (by decide))
            refine x_1 (p' := 69) hC rfl rfl rfl rfl ?_
            refine x_stI1 (p' := 70) hC rfl rfl rfl ?_
            refine x_inc2 (p' := 71) hC rfl rfl (⟨by omega, by omega⟩) ?_
            refine x_1 (p' := 4) hC rfl rfl rfl rfl ?_
            exact ih _ _ _ _ (by omega) (by omega) (by omega) (by rw [fI_succ (by omega), ← hI2]; first | rw [cif_t (by omega)] | rw [cif_f (by omega)])
          · refine x_1 (p' := 41) hC rfl rfl rfl rfl ?_
            refine x_1 (p' := 42) hC rfl rfl rfl rfl ?_
            refine x_1 (p' := 43) hC rfl rfl rfl rfl ?_
            refine x_cIV2 (p' := 44) (n := 5) hC rfl rfl rfl rfl rfl (hO.ty) ?_
            refine sp_m_fr hO (by omega) (by omega) ?_
            refine x_1 (p' := 45) hC rfl rfl rfl rfl ?_
            refine x_1 (p' := 46) hC rfl rfl rfl rfl ?_
            refine x_1 (p' := 47) hC rfl rfl rfl rfl ?_
            refine x_cIV2 (p' := 48) (n := 5) hC rfl rfl rfl rfl rfl (hO.ty) ?_
            refine sp_m_fr hO (by omega) (by omega) ?_
            refine x_icne (p' := 49) hC rfl rfl (fun c48 => ?_) (fun c48 => ?_)
            · refine x_1 (p' := 61) hC rfl rfl rfl rfl ?_
              refine x_stI4 (p' := 62) hC rfl rfl rfl ?_
              refine x_1 (p' := 63) hC rfl rfl rfl rfl ?_
              refine x_ifeq (p' := 64) hC rfl rfl (fun _ => ?_) (fun c => absurd c (by decide))
              refine x_1 (p' := 69) hC rfl rfl rfl rfl ?_
              refine x_stI1 (p' := 70) hC rfl rfl rfl ?_
              refine x_inc2 (p' := 71) hC rfl rfl (⟨by omega, by omega⟩) ?_
              refine x_1 (p' := 4) hC rfl rfl rfl rfl ?_
              exact ih _ _ _ _ (by omega) (by omega) (by omega) (by rw [fI_succ (by omega), ← hI2]; first | rw [cif_t (by omega)] | rw [cif_f (by omega)])
            · refine x_1 (p' := 50) hC rfl rfl rfl rfl ?_
              refine x_1 (p' := 51) hC rfl rfl rfl rfl ?_
              refine x_1 (p' := 52) hC rfl rfl rfl rfl ?_
              refine x_cIV2 (p' := 53) (n := 5) hC rfl rfl rfl rfl rfl (hO.ty) ?_
              refine sp_m_fr hO (by omega) (by omega) ?_
              refine x_1 (p' := 54) hC rfl rfl rfl rfl ?_
              refine x_1 (p' := 55) hC rfl rfl rfl rfl ?_
              refine x_1 (p' := 56) hC rfl rfl rfl rfl ?_
              refine x_cIV2 (p' := 57) (n := 5) hC rfl rfl rfl rfl rfl (hO.ty) ?_
              refine sp_m_fr hO (by omega) (by omega) ?_
              refine x_icge (p' := 58) hC rfl rfl (fun c57 => ?_) (fun c57 => ?_)
              · refine x_1 (p' := 61) hC rfl rfl rfl rfl ?_
                refine x_stI4 (p' := 62) hC rfl rfl rfl ?_
                refine x_1 (p' := 63) hC rfl rfl rfl rfl ?_
                refine x_ifeq (p' := 64) hC rfl rfl (fun _ => ?_) (fun c => absurd c (by decide))
                refine x_1 (p' := 69) hC rfl rfl rfl rfl ?_
                refine x_stI1 (p' := 70) hC rfl rfl rfl ?_
                refine x_inc2 (p' := 71) hC rfl rfl (⟨by omega, by omega⟩) ?_
                refine x_1 (p' := 4) hC rfl rfl rfl rfl ?_
                exact ih _ _ _ _ (by omega) (by omega) (by omega) (by rw [fI_succ (by omega), ← hI2]; first | rw [cif_t (by omega)] | rw [cif_f (by omega)])
              · refine x_1 (p' := 59) hC rfl rfl rfl rfl ?_
                refine x_1 (p' := 61) hC rfl rfl rfl rfl ?_
                refine x_stI4 (p' := 62) hC rfl rfl rfl ?_
                refine x_1 (p' := 63) hC rfl rfl rfl rfl ?_
                refine x_ifeq (p' := 64) hC rfl rfl (fun _ => ?_) (fun c => absurd c (by decide))
                refine x_1 (p' := 69) hC rfl rfl rfl rfl ?_
                refine x_stI1 (p' := 70) hC rfl rfl rfl ?_
                refine x_inc2 (p' := 71) hC rfl rfl (⟨by omega, by omega⟩) ?_
                refine x_1 (p' := 4) hC rfl rfl rfl rfl ?_
                exact ih _ _ _ _ (by omega) (by omega) (by omega) (by rw [fI_succ (by omega), ← hI2]; first | rw [cif_t (by omega)] | rw [cif_f (by omega)])
      · refine x_1 (p' := 17) hC rfl rfl rfl rfl ?_
        refine x_1 (p' := 18) hC rfl rfl rfl rfl ?_
        refine x_1 (p' := 19) hC rfl rfl rfl rfl ?_
        refine x_cIV2 (p' := 20) (n := 5) hC rfl rfl rfl rfl rfl (hO.ty) ?_
        refine sp_m_fr hO (by omega) (by omega) ?_
        refine x_1 (p' := 21) hC rfl rfl rfl rfl ?_
        refine y_gR (p' := 22) (n := 1) hO hC rfl rfl rfl rfl ?_
        refine x_1 (p' := 23) hC rfl rfl rfl rfl ?_
        refine y_ld (p' := 24) (L := 15568) hO hC rfl rfl rfl rfl (by omega) (by omega) ?_
        refine x_icgt (p' := 25) hC rfl rfl (fun c24 => ?_) (fun c24 => ?_)
        · refine x_1 (p' := 28) hC rfl rfl rfl rfl ?_
          refine x_stI3 (p' := 29) hC rfl rfl rfl ?_
          refine x_1 (p' := 30) hC rfl rfl rfl rfl ?_
          refine x_iflt (p' := 31) hC rfl rfl (fun c30 => ?_) (fun c30 => ?_)
          · refine x_1 (p' := 59) hC rfl rfl rfl rfl ?_
            refine x_1 (p' := 61) hC rfl rfl rfl rfl ?_
            refine x_stI4 (p' := 62) hC rfl rfl rfl ?_
            refine x_1 (p' := 63) hC rfl rfl rfl rfl ?_
            refine x_ifeq (p' := 64) hC rfl rfl (fun _ => ?_) (fun c => absurd c (by decide))
            refine x_1 (p' := 69) hC rfl rfl rfl rfl ?_
            refine x_stI1 (p' := 70) hC rfl rfl rfl ?_
            refine x_inc2 (p' := 71) hC rfl rfl (⟨by omega, by omega⟩) ?_
            refine x_1 (p' := 4) hC rfl rfl rfl rfl ?_
            exact ih _ _ _ _ (by omega) (by omega) (by omega) (by rw [fI_succ (by omega), ← hI2]; first | rw [cif_t (by omega)] | rw [cif_f (by omega)])
          · refine x_1 (p' := 32) hC rfl rfl rfl rfl ?_
            refine x_1 (p' := 33) hC rfl rfl rfl rfl ?_
            refine x_1 (p' := 34) hC rfl rfl rfl rfl ?_
            refine x_cIV2 (p' := 35) (n := 5) hC rfl rfl rfl rfl rfl (hO.ty) ?_
            refine sp_m_fr hO (by omega) (by omega) ?_
            refine x_1 (p' := 36) hC rfl rfl rfl rfl ?_
            refine x_1 (p' := 37) hC rfl rfl rfl rfl ?_
            refine x_1 (p' := 38) hC rfl rfl rfl rfl ?_
            refine x_cIV2 (p' := 39) (n := 5) hC rfl rfl rfl rfl rfl (hO.ty) ?_
            refine sp_m_fr hO (by omega) (by omega) ?_
            refine x_iclt (p' := 40) hC rfl rfl (fun c39 => ?_) (fun c39 => ?_)
            · refine x_1 (p' := 59) hC rfl rfl rfl rfl ?_
              refine x_1 (p' := 61) hC rfl rfl rfl rfl ?_
              refine x_stI4 (p' := 62) hC rfl rfl rfl ?_
              refine x_1 (p' := 63) hC rfl rfl rfl rfl ?_
              refine x_ifeq (p' := 64) hC rfl rfl (fun _ => ?_) (fun c => absurd c (by decide))
              refine x_1 (p' := 69) hC rfl rfl rfl rfl ?_
              refine x_stI1 (p' := 70) hC rfl rfl rfl ?_
              refine x_inc2 (p' := 71) hC rfl rfl (⟨by omega, by omega⟩) ?_
              refine x_1 (p' := 4) hC rfl rfl rfl rfl ?_
              exact ih _ _ _ _ (by omega) (by omega) (by omega) (by rw [fI_succ (by omega), ← hI2]; first | rw [cif_t (by omega)] | rw [cif_f (by omega)])
            · refine x_1 (p' := 41) hC rfl rfl rfl rfl ?_
              refine x_1 (p' := 42) hC rfl rfl rfl rfl ?_
              refine x_1 (p' := 43) hC rfl rfl rfl rfl ?_
              refine x_cIV2 (p' := 44) (n := 5) hC rfl rfl rfl rfl rfl (hO.ty) ?_
              refine sp_m_fr hO (by omega) (by omega) ?_
              refine x_1 (p' := 45) hC rfl rfl rfl rfl ?_
              refine x_1 (p' := 46) hC rfl rfl rfl rfl ?_
              refine x_1 (p' := 47) hC rfl rfl rfl rfl ?_
              refine x_cIV2 (p' := 48) (n := 5) hC rfl rfl rfl rfl rfl (hO.ty) ?_
              refine sp_m_fr hO (by omega) (by omega) ?_
              refine x_icne (p' := 49) hC rfl rfl (fun c48 => ?_) (fun c48 => ?_)
              · refine x_1 (p' := 61) hC rfl rfl rfl rfl ?_
                refine x_stI4 (p' := 62) hC rfl rfl rfl ?_
                refine x_1 (p' := 63) hC rfl rfl rfl rfl ?_
                refine x_ifeq (p' := 64) hC rfl rfl (fun _ => ?_) (fun c => absurd c (by decide))
                refine x_1 (p' := 69) hC rfl rfl rfl rfl ?_
                refine x_stI1 (p' := 70) hC rfl rfl rfl ?_
                refine x_inc2 (p' := 71) hC rfl rfl (⟨by omega, by omega⟩) ?_
                refine x_1 (p' := 4) hC rfl rfl rfl rfl ?_
                exact ih _ _ _ _ (by omega) (by omega) (by omega) (by rw [fI_succ (by omega), ← hI2]; first | rw [cif_t (by omega)] | rw [cif_f (by omega)])
              · refine x_1 (p' := 50) hC rfl rfl rfl rfl ?_
                refine x_1 (p' := 51) hC rfl rfl rfl rfl ?_
                refine x_1 (p' := 52) hC rfl rfl rfl rfl ?_
                refine x_cIV2 (p' := 53) (n := 5) hC rfl rfl rfl rfl rfl (hO.ty) ?_
                refine sp_m_fr hO (by omega) (by omega) ?_
                refine x_1 (p' := 54) hC rfl rfl rfl rfl ?_
                refine x_1 (p' := 55) hC rfl rfl rfl rfl ?_
                refine x_1 (p' := 56) hC rfl rfl rfl rfl ?_
                refine x_cIV2 (p' := 57) (n := 5) hC rfl rfl rfl rfl rfl (hO.ty) ?_
                refine sp_m_fr hO (by omega) (by omega) ?_
                refine x_icge (p' := 58) hC rfl rfl (fun c57 => ?_) (fun c57 => ?_)
                · refine x_1 (p' := 61) hC rfl rfl rfl rfl ?_
                  refine x_stI4 (p' := 62) hC rfl rfl rfl ?_
                  refine x_1 (p' := 63) hC rfl rfl rfl rfl ?_
                  refine x_ifeq (p' := 64) hC rfl rfl (fun _ => ?_) (fun c => absurd c (by decide))
                  refine x_1 (p' := 69) hC rfl rfl rfl rfl ?_
                  refine x_stI1 (p' := 70) hC rfl rfl rfl ?_
                  refine x_inc2 (p' := 71) hC rfl rfl (⟨by omega, by omega⟩) ?_
                  refine x_1 (p' := 4) hC rfl rfl rfl rfl ?_
                  exact ih _ _ _ _ (by omega) (by omega) (by omega) (by rw [fI_succ (by omega), ← hI2]; first | rw [cif_t (by omega)] | rw [cif_f (by omega)])
                · refine x_1 (p' := 59) hC rfl rfl rfl rfl ?_
                  refine x_1 (p' := 61) hC rfl rfl rfl rfl ?_
                  refine x_stI4 (p' := 62) hC rfl rfl rfl ?_
                  refine x_1 (p' := 63) hC rfl rfl rfl rfl ?_
                  refine x_ifeq (p' := 64) hC rfl rfl (fun _ => ?_) (fun c => absurd c (by decide))
                  refine x_1 (p' := 69) hC rfl rfl rfl rfl ?_
                  refine x_stI1 (p' := 70) hC rfl rfl rfl ?_
                  refine x_inc2 (p' := 71) hC rfl rfl (⟨by omega, by omega⟩) ?_
                  refine x_1 (p' := 4) hC rfl rfl rfl rfl ?_
                  exact ih _ _ _ _ (by omega) (by omega) (by omega) (by rw [fI_succ (by omega), ← hI2]; first | rw [cif_t (by omega)] | rw [cif_f (by omega)])
        · refine x_1 (p' := 26) hC rfl rfl rfl rfl ?_
          refine x_1 (p' := 28) hC rfl rfl rfl rfl ?_
          refine x_stI3 (p' := 29) hC rfl rfl rfl ?_
          refine x_1 (p' := 30) hC rfl rfl rfl rfl ?_
          refine x_iflt (p' := 31) hC rfl rfl (fun c30 => ?_) (fun c30 => ?_)
          · refine x_1 (p' := 59) hC rfl rfl rfl rfl ?_
            refine x_1 (p' := 61) hC rfl rfl rfl rfl ?_
            refine x_stI4 (p' := 62) hC rfl rfl rfl ?_
            refine x_1 (p' := 63) hC rfl rfl rfl rfl ?_
            refine x_ifeq (p' := 64) hC rfl rfl (fun c => absurd c (by decide)) (fun _ => ?_)
            refine x_1 (p' := 65) hC rfl rfl rfl rfl ?_
            refine x_ifeq (p' := 66) hC rfl rfl (fun c => absurd c (by decide)) (fun _ => ?_)
            refine x_1 (p' := 67) hC rfl rfl rfl rfl ?_
            refine x_1 (p' := 69) hC rfl rfl rfl rfl ?_
            refine x_stI1 (p' := 70) hC rfl rfl rfl ?_
            refine x_inc2 (p' := 71) hC rfl rfl (⟨by omega, by omega⟩) ?_
            refine x_1 (p' := 4) hC rfl rfl rfl rfl ?_
            exact ih _ _ _ _ (by omega) (by omega) (by omega) (by rw [fI_succ (by omega), ← hI2]; first | rw [cif_t (by omega)] | rw [cif_f (by omega)])
          · refine x_1 (p' := 32) hC rfl rfl rfl rfl ?_
            refine x_1 (p' := 33) hC rfl rfl rfl rfl ?_
            refine x_1 (p' := 34) hC rfl rfl rfl rfl ?_
            refine x_cIV2 (p' := 35) (n := 5) hC rfl rfl rfl rfl rfl (hO.ty) ?_
            refine sp_m_fr hO (by omega) (by omega) ?_
            refine x_1 (p' := 36) hC rfl rfl rfl rfl ?_
            refine x_1 (p' := 37) hC rfl rfl rfl rfl ?_
            refine x_1 (p' := 38) hC rfl rfl rfl rfl ?_
            refine x_cIV2 (p' := 39) (n := 5) hC rfl rfl rfl rfl rfl (hO.ty) ?_
            refine sp_m_fr hO (by omega) (by omega) ?_
            refine x_iclt (p' := 40) hC rfl rfl (fun c39 => ?_) (fun c39 => ?_)
            · refine x_1 (p' := 59) hC rfl rfl rfl rfl ?_
              refine x_1 (p' := 61) hC rfl rfl rfl rfl ?_
              refine x_stI4 (p' := 62) hC rfl rfl rfl ?_
              refine x_1 (p' := 63) hC rfl rfl rfl rfl ?_
              refine x_ifeq (p' := 64) hC rfl rfl (fun c => absurd c (by decide)) (fun _ => ?_)
              refine x_1 (p' := 65) hC rfl rfl rfl rfl ?_
              refine x_ifeq (p' := 66) hC rfl rfl (fun c => absurd c (by decide)) (fun _ => ?_)
              refine x_1 (p' := 67) hC rfl rfl rfl rfl ?_
              refine x_1 (p' := 69) hC rfl rfl rfl rfl ?_
              refine x_stI1 (p' := 70) hC rfl rfl rfl ?_
              refine x_inc2 (p' := 71) hC rfl rfl (⟨by omega, by omega⟩) ?_
              refine x_1 (p' := 4) hC rfl rfl rfl rfl ?_
              exact ih _ _ _ _ (by omega) (by omega) (by omega) (by rw [fI_succ (by omega), ← hI2]; first | rw [cif_t (by omega)] | rw [cif_f (by omega)])
            · refine x_1 (p' := 41) hC rfl rfl rfl rfl ?_
              refine x_1 (p' := 42) hC rfl rfl rfl rfl ?_
              refine x_1 (p' := 43) hC rfl rfl rfl rfl ?_
              refine x_cIV2 (p' := 44) (n := 5) hC rfl rfl rfl rfl rfl (hO.ty) ?_
              refine sp_m_fr hO (by omega) (by omega) ?_
              refine x_1 (p' := 45) hC rfl rfl rfl rfl ?_
              refine x_1 (p' := 46) hC rfl rfl rfl rfl ?_
              refine x_1 (p' := 47) hC rfl rfl rfl rfl ?_
              refine x_cIV2 (p' := 48) (n := 5) hC rfl rfl rfl rfl rfl (hO.ty) ?_
              refine sp_m_fr hO (by omega) (by omega) ?_
              refine x_icne (p' := 49) hC rfl rfl (fun c48 => ?_) (fun c48 => ?_)
              · refine x_1 (p' := 61) hC rfl rfl rfl rfl ?_
                refine x_stI4 (p' := 62) hC rfl rfl rfl ?_
                refine x_1 (p' := 63) hC rfl rfl rfl rfl ?_
                refine x_ifeq (p' := 64) hC rfl rfl (fun c => absurd c (by decide)) (fun _ => ?_)
                refine x_1 (p' := 65) hC rfl rfl rfl rfl ?_
                refine x_ifeq (p' := 66) hC rfl rfl (fun _ => ?_) (fun c => absurd c (by decide))
                refine x_1 (p' := 69) hC rfl rfl rfl rfl ?_
                refine x_stI1 (p' := 70) hC rfl rfl rfl ?_
                refine x_inc2 (p' := 71) hC rfl rfl (⟨by omega, by omega⟩) ?_
                refine x_1 (p' := 4) hC rfl rfl rfl rfl ?_
                exact ih _ _ _ _ (by omega) (by omega) (by omega) (by rw [fI_succ (by omega), ← hI2]; first | rw [cif_t (by omega)] | rw [cif_f (by omega)])
              · refine x_1 (p' := 50) hC rfl rfl rfl rfl ?_
                refine x_1 (p' := 51) hC rfl rfl rfl rfl ?_
                refine x_1 (p' := 52) hC rfl rfl rfl rfl ?_
                refine x_cIV2 (p' := 53) (n := 5) hC rfl rfl rfl rfl rfl (hO.ty) ?_
                refine sp_m_fr hO (by omega) (by omega) ?_
                refine x_1 (p' := 54) hC rfl rfl rfl rfl ?_
                refine x_1 (p' := 55) hC rfl rfl rfl rfl ?_
                refine x_1 (p' := 56) hC rfl rfl rfl rfl ?_
                refine x_cIV2 (p' := 57) (n := 5) hC rfl rfl rfl rfl rfl (hO.ty) ?_
                refine sp_m_fr hO (by omega) (by omega) ?_
                refine x_icge (p' := 58) hC rfl rfl (fun c57 => ?_) (fun c57 => ?_)
                · refine x_1 (p' := 61) hC rfl rfl rfl rfl ?_
                  refine x_stI4 (p' := 62) hC rfl rfl rfl ?_
                  refine x_1 (p' := 63) hC rfl rfl rfl rfl ?_
                  refine x_ifeq (p' := 64) hC rfl rfl (fun c => absurd c (by decide)) (fun _ => ?_)
                  refine x_1 (p' := 65) hC rfl rfl rfl rfl ?_
                  refine x_ifeq (p' := 66) hC rfl rfl (fun _ => ?_) (fun c => absurd c (by decide))
                  refine x_1 (p' := 69) hC rfl rfl rfl rfl ?_
                  refine x_stI1 (p' := 70) hC rfl rfl rfl ?_
                  refine x_inc2 (p' := 71) hC rfl rfl (⟨by omega, by omega⟩) ?_
                  refine x_1 (p' := 4) hC rfl rfl rfl rfl ?_
                  exact ih _ _ _ _ (by omega) (by omega) (by omega) (by rw [fI_succ (by omega), ← hI2]; first | rw [cif_t (by omega)] | rw [cif_f (by omega)])
                · refine x_1 (p' := 59) hC rfl rfl rfl rfl ?_
                  refine x_1 (p' := 61) hC rfl rfl rfl rfl ?_
                  refine x_stI4 (p' := 62) hC rfl rfl rfl ?_
                  refine x_1 (p' := 63) hC rfl rfl rfl rfl ?_
                  refine x_ifeq (p' := 64) hC rfl rfl (fun c => absurd c (by decide)) (fun _ => ?_)
                  refine x_1 (p' := 65) hC rfl rfl rfl rfl ?_
                  refine x_ifeq (p' := 66) hC rfl rfl (fun c => absurd c (by decide)) (fun _ => ?_)
                  refine x_1 (p' := 67) hC rfl rfl rfl rfl ?_
                  refine x_1 (p' := 69) hC rfl rfl rfl rfl ?_
                  refine x_stI1 (p' := 70) hC rfl rfl rfl ?_
                  refine x_inc2 (p' := 71) hC rfl rfl (⟨by omega, by omega⟩) ?_
                  refine x_1 (p' := 4) hC rfl rfl rfl rfl ?_
                  exact ih _ _ _ _ (by omega) (by omega) (by omega) (by rw [fI_succ (by omega), ← hI2]; first | rw [cif_t (by omega)] | rw [cif_f (by omega)])
set_option maxRecDepth 20000 in
theorem sp_m_nextFrame {d : Nat} {m : Nat} {h : HP} (hO : RO m h) {X : Nat → Int → Int} (hs : RI (X 1)) {Q : Int → HP → Prop} (K : Q (rNext (X 1)) (wX m h X)) : CaI (d + 1) 54 [.inr (some m)] (wX m h X) Q := by
  have hC : cod 54 = c_m_nextFrame := rfl
  refine CaI.start rfl ?_
  have hs2 := hs.2.2.1
  refine x_1 (p' := 1) hC rfl rfl rfl rfl ?_
  refine x_stI1 (p' := 2) hC rfl rfl rfl ?_
  refine x_1 (p' := 3) hC rfl rfl rfl rfl ?_
  refine x_stI2 (p' := 4) hC rfl rfl rfl ?_
  exact lp_m_nextFrame hO hs K _ _ _ _ _ (Nat.lt_succ_self _) (by omega) (by omega) rfl
set_option maxRecDepth 20000 in
theorem lp_m_allOnWay {d : Nat} {m : Nat} {h : HP} (hO : RO m h) {X : Nat → Int → Int} (hs : RI (X 1)) {Q : Int → HP → Prop} (K : Q (rAllWay (X 1)) (wX m h X)) (k : Nat) : ∀ (n : Int) (u : Int), (X 1 7 - u).toNat < k → (0 ≤ u ∧ u ≤ X 1 7) → (0 ≤ n ∧ n ≤ u) → (n = fI u (fun f n => n + b2i (rFr (X 1) f 0 = 1)) 0) → At (d + 1) 56 4 [some (.inr (some m)), some (.inl n), some (.inl u)] [] (wX m h X) (fun v h' => ∃ x, v = some (.inl x) ∧ Q x h') := by
  have hC : cod 56 = c_m_allOnWay := rfl
  induction k with
  | zero =>
    intro n u hk
    exact absurd hk (Nat.not_lt_zero _)
  | succ k ih =>
    intro n u hk hI0 hI1 hI2
    have hs2 := hs.2.2.1
    refine x_1 (p' := 5) hC rfl rfl rfl rfl ?_
    refine x_1 (p' := 6) hC rfl rfl rfl rfl ?_
    refine y_gR (p' := 7) (n := 1) hO hC rfl rfl rfl rfl ?_
    refine x_1 (p' := 8) hC rfl rfl rfl rfl ?_
    refine y_ld (p' := 9) (L := 15568) hO hC rfl rfl rfl rfl (by omega) (by omega) ?_
    refine x_icge (p' := 10) hC rfl rfl (fun c9 => ?_) (fun c9 => ?_)
    · refine x_1 (p' := 25) hC rfl rfl rfl rfl ?_
      refine x_iret hC rfl rfl rfl ⟨_, rfl, ?_⟩
      refine eqK K ?_
      rw [hI2, show u = X 1 7 by omega]; rfl
    · refine x_1 (p' := 11) hC rfl rfl rfl rfl ?_
      refine x_1 (p' := 12) hC rfl rfl rfl rfl ?_
      refine x_1 (p' := 13) hC rfl rfl rfl rfl ?_
      refine x_1 (p' := 14) hC rfl rfl rfl rfl ?_
      refine x_cIV2 (p' := 15) (n := 5) hC rfl rfl rfl rfl rfl (hO.ty) ?_
      refine sp_m_fr hO (by omega) (by omega) ?_
      refine x_1 (p' := 16) hC rfl rfl rfl rfl ?_
      refine x_icne (p' := 17) hC rfl rfl (fun c16 => ?_) (fun c16 => ?_)
      · refine x_1 (p' := 20) hC rfl rfl rfl rfl ?_
        refine x_add (p' := 21) hC rfl rfl rfl (⟨by omega, by omega⟩) ?_
        refine x_stI1 (p' := 22) hC rfl rfl rfl ?_
        refine x_inc2 (p' := 23) hC rfl rfl (⟨by omega, by omega⟩) ?_
        refine x_1 (p' := 4) hC rfl rfl rfl rfl ?_
        exact ih _ _ (by omega) (by omega) (by omega) (by rw [fI_succ (by omega), ← hI2]; first | (rw [b2i_t (by omega)]) | (rw [b2i_f (by omega)]))
      · refine x_1 (p' := 18) hC rfl rfl rfl rfl ?_
        refine x_1 (p' := 20) hC rfl rfl rfl rfl ?_
        refine x_add (p' := 21) hC rfl rfl rfl (⟨by omega, by omega⟩) ?_
        refine x_stI1 (p' := 22) hC rfl rfl rfl ?_
        refine x_inc2 (p' := 23) hC rfl rfl (⟨by omega, by omega⟩) ?_
        refine x_1 (p' := 4) hC rfl rfl rfl rfl ?_
        exact ih _ _ (by omega) (by omega) (by omega) (by rw [fI_succ (by omega), ← hI2]; first | (rw [b2i_t (by omega)]) | (rw [b2i_f (by omega)]))
set_option maxRecDepth 20000 in
theorem sp_m_allOnWay {d : Nat} {m : Nat} {h : HP} (hO : RO m h) {X : Nat → Int → Int} (hs : RI (X 1)) {Q : Int → HP → Prop} (K : Q (rAllWay (X 1)) (wX m h X)) : CaI (d + 1) 56 [.inr (some m)] (wX m h X) Q := by
  have hC : cod 56 = c_m_allOnWay := rfl
  refine CaI.start rfl ?_
  have hs2 := hs.2.2.1
  refine x_1 (p' := 1) hC rfl rfl rfl rfl ?_
  refine x_stI1 (p' := 2) hC rfl rfl rfl ?_
  refine x_1 (p' := 3) hC rfl rfl rfl rfl ?_
  refine x_stI2 (p' := 4) hC rfl rfl rfl ?_
  exact lp_m_allOnWay hO hs K _ _ _ (Nat.lt_succ_self _) (by omega) (by omega) rfl
set_option maxRecDepth 20000 in
theorem lp_m_sumOf {d : Nat} {m : Nat} {h : HP} (hO : RO m h) {X : Nat → Int → Int} (hs : RI (X 1)) {w : Int} (hw : 0 ≤ w ∧ w < 10) {Q : Int → HP → Prop} (K : Q (rSum (X 1) w) (wX m h X)) (k : Nat) : ∀ (n : Int) (u : Int), (X 1 0 - u).toNat < k → (0 ≤ u ∧ u ≤ X 1 0) → (n = fI u (fun h n => wr (n + rOf (X 1) h w)) 0) → At (d + 1) 68 4 [some (.inr (some m)), some (.inl w), some (.inl n), some (.inl u)] [] (wX m h X) (fun v h' => ∃ x, v = some (.inl x) ∧ Q x h') := by
  have hC : cod 68 = c_m_sumOf := rfl
  induction k with
  | zero =>
    intro n u hk
    exact absurd hk (Nat.not_lt_zero _)
  | succ k ih =>
    intro n u hk hI0 hI1
    have hs2 := hs.1
    refine x_1 (p' := 5) hC rfl rfl rfl rfl ?_
    refine x_1 (p' := 6) hC rfl rfl rfl rfl ?_
    refine y_gR (p' := 7) (n := 1) hO hC rfl rfl rfl rfl ?_
    refine x_1 (p' := 8) hC rfl rfl rfl rfl ?_
    refine y_ld (p' := 9) (L := 15568) hO hC rfl rfl rfl rfl (by omega) (by omega) ?_
    refine x_icge (p' := 10) hC rfl rfl (fun c9 => ?_) (fun c9 => ?_)
    · refine x_1 (p' := 20) hC rfl rfl rfl rfl ?_
      refine x_iret hC rfl rfl rfl ⟨_, rfl, ?_⟩
      refine eqK K ?_
      rw [hI1, show u = X 1 0 by omega]; rfl
    · refine x_1 (p' := 11) hC rfl rfl rfl rfl ?_
      refine x_1 (p' := 12) hC rfl rfl rfl rfl ?_
      refine x_1 (p' := 13) hC rfl rfl rfl rfl ?_
      refine x_1 (p' := 14) hC rfl rfl rfl rfl ?_
      refine x_cIV2 (p' := 15) (n := 3) hC rfl rfl rfl rfl rfl (hO.ty) ?_
      refine sp_m_of hO (by omega) (by omega) ?_
      refine x_1 (p' := 16) hC rfl rfl rfl rfl ?_
      refine x_stI2 (p' := 17) hC rfl rfl rfl ?_
      refine x_inc3 (p' := 18) hC rfl rfl (⟨by omega, by omega⟩) ?_
      refine x_1 (p' := 4) hC rfl rfl rfl rfl ?_
      exact ih _ _ (by omega) (by omega) (by rw [fI_succ (by omega), ← hI1])
set_option maxRecDepth 20000 in
theorem sp_m_sumOf {d : Nat} {m : Nat} {h : HP} (hO : RO m h) {X : Nat → Int → Int} (hs : RI (X 1)) {w : Int} (hw : 0 ≤ w ∧ w < 10) {Q : Int → HP → Prop} (K : Q (rSum (X 1) w) (wX m h X)) : CaI (d + 1) 68 [.inr (some m), .inl w] (wX m h X) Q := by
  have hC : cod 68 = c_m_sumOf := rfl
  refine CaI.start rfl ?_
  have hs2 := hs.1
  refine x_1 (p' := 1) hC rfl rfl rfl rfl ?_
  refine x_stI2 (p' := 2) hC rfl rfl rfl ?_
  refine x_1 (p' := 3) hC rfl rfl rfl rfl ?_
  refine x_stI3 (p' := 4) hC rfl rfl rfl ?_
  exact lp_m_sumOf hO hs hw K _ _ _ (Nat.lt_succ_self _) (by omega) rfl
set_option maxRecDepth 20000 in
theorem lp_m_ones {d : Nat} {h : HP} {v : Int} {Q : Int → HP → Prop} (K : Q (rOnes v) h) (k : Nat) : ∀ (n : Int) (u : Int), (10 - u).toNat < k → (0 ≤ u ∧ u ≤ 10) → (0 ≤ n ∧ n ≤ u) → (n = fI u (fun k n => n + oAnd (oShr v k) 1) 0) → At (d) 62 4 [some (.inl v), some (.inl n), some (.inl u)] [] h (fun v h' => ∃ x, v = some (.inl x) ∧ Q x h') := by
  have hC : cod 62 = c_m_ones := rfl
  induction k with
  | zero =>
    intro n u hk
    exact absurd hk (Nat.not_lt_zero _)
  | succ k ih =>
    intro n u hk hI0 hI1 hI2
    refine x_1 (p' := 5) hC rfl rfl rfl rfl ?_
    refine x_1 (p' := 6) hC rfl rfl rfl rfl ?_
    refine x_icge (p' := 7) hC rfl rfl (fun c6 => ?_) (fun c6 => ?_)
    · refine x_1 (p' := 18) hC rfl rfl rfl rfl ?_
      refine x_iret hC rfl rfl rfl ⟨_, rfl, ?_⟩
      refine eqK K ?_
      rw [hI2, show u = 10 by omega]; rfl
    · refine x_1 (p' := 8) hC rfl rfl rfl rfl ?_
      refine x_1 (p' := 9) hC rfl rfl rfl rfl ?_
      refine x_1 (p' := 10) hC rfl rfl rfl rfl ?_
      refine x_1 (p' := 11) hC rfl rfl rfl rfl ?_
      refine x_1 (p' := 12) hC rfl rfl rfl rfl ?_
      refine x_1 (p' := 13) hC rfl rfl rfl rfl ?_
      have h1 := oAnd_1 (oShr v u)
      refine x_add (p' := 14) hC rfl rfl rfl (⟨by omega, by omega⟩) ?_
      refine x_stI1 (p' := 15) hC rfl rfl rfl ?_
      refine x_inc2 (p' := 16) hC rfl rfl (⟨by omega, by omega⟩) ?_
      refine x_1 (p' := 4) hC rfl rfl rfl rfl ?_
      exact ih _ _ (by omega) (by omega) (by omega) (by rw [fI_succ (by omega), ← hI2])
set_option maxRecDepth 20000 in
theorem sp_m_ones {d : Nat} {h : HP} {v : Int} {Q : Int → HP → Prop} (K : Q (rOnes v) h) : CaI d 62 [.inl v] h Q := by
  have hC : cod 62 = c_m_ones := rfl
  refine CaI.start rfl ?_
  refine x_1 (p' := 1) hC rfl rfl rfl rfl ?_
  refine x_stI1 (p' := 2) hC rfl rfl rfl ?_
  refine x_1 (p' := 3) hC rfl rfl rfl rfl ?_
  refine x_stI2 (p' := 4) hC rfl rfl rfl ?_
  exact lp_m_ones K _ _ _ (Nat.lt_succ_self _) (by omega) (by omega) rfl

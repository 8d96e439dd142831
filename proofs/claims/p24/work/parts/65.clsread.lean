/-! THE CLASS: a tree, read -/
theorem sk_r {g : Int} (h0 : 0 ≤ g) (h1 : g < 5) : skTy (13 + 7 * g.toNat) = (4, 0) := (sk_h ⟨g.toNat, by omega⟩).2.2.1
theorem SkT.hrty {t : Nat} {h : HP} (K : SkT t h) {g : Int} (h0 : 0 ≤ g) (h1 : g < 5) : (hTy h (t + (13 + 7 * g.toNat))).1 = 3 + 1 := by rw [K.2.2.1 _ (by omega), sk_r h0 h1]
theorem SkT.wty {t : Nat} {h : HP} (K : SkT t h) : (hTy h (t + 3)).1 = 3 + 1 := by rw [K.2.2.1 3 (by decide)]; rfl
def cZ (S : Nat → Int → Int) (g : Int) : Int := S (13 + 7 * g.toNat) 1
def cW (S : Nat → Int → Int) : Int := S 3 1
section ZW
variable {d y pos p' : Nat} {ls : Ls} {h : HP} {Q : Option AV → HP → Prop} {C : List Ins} {t : Nat} {S : Nat → Int → Int} {st : List AV}
theorem z_rww (hK : SkT t h) (hS : ∀ n, n < 80 → hI h (t + n) = S n) (hC : cod y = C) {idx : Nat} {v : Int} {w : Nat} {sw : List Nat} (hi : C[pos]? = some (.getfield idx, v, 3, 1, w, sw)) (hp : pos + 1 = p') (kk : At d y p' ls (.inl (cW S) :: st) h Q) : At d y pos ls (.inr (some (t + 3)) :: st) h Q := by
  refine x_getI hC hi hp rfl hK.wty ?_
  rw [hS _ (by decide)]; exact kk
theorem z_rwh (hK : SkT t h) (hS : ∀ n, n < 80 → hI h (t + n) = S n) {g : Int} (h0 : 0 ≤ g) (h1 : g < 5) (hC : cod y = C) {idx : Nat} {v : Int} {w : Nat} {sw : List Nat} (hi : C[pos]? = some (.getfield idx, v, 3, 1, w, sw)) (hp : pos + 1 = p') (kk : At d y p' ls (.inl (cZ S g) :: st) h Q) : At d y pos ls (.inr (some (t + (13 + 7 * g.toNat))) :: st) h Q := by
  refine x_getI hC hi hp rfl (hK.hrty h0 h1) ?_
  rw [hS _ (by omega)]; exact kk
end ZW
/-- the class's ranges, as the readers need them -/
def CI (S : Nat → Int → Int) : Prop := (1 ≤ cT S 4 ∧ cT S 4 ≤ 5) ∧ (0 ≤ cT S 5 ∧ cT S 5 ≤ 10) ∧ (∀ g, 0 ≤ g → g < cT S 4 → -1 ≤ cH S g 3 ∧ cH S g 3 < g ∧ 1 ≤ cSe S g 4 ∧ cSe S g 4 ≤ 20 ∧ 0 ≤ cSe S g 3 ∧ cSe S g 3 ≤ 20) ∧ ∀ u, 0 ≤ u → u < cT S 5 → 0 ≤ cU S u 0 ∧ cU S u 0 < cT S 4 ∧ 1 ≤ cU S u 1 ∧ cU S u 1 ≤ 20
abbrev cHub (S : Nat → Int → Int) (g : Int) : Prop := 0 ≤ g ∧ g ≤ cT S 4 - 1
abbrev cUnit (S : Nat → Int → Int) (u : Int) : Prop := 0 ≤ u ∧ u ≤ cT S 5 - 1
def cJoin (S : Nat → Int → Int) (a p z : Int) : Int := if ¬ (cHub S a ∧ 1 ≤ p ∧ p ≤ 20) then -1000001 else if ¬ rGo p (cSe S a 4) then -1000002 else if z = 0 then -1000003 else 0
def cRet (S : Nat → Int → Int) (u : Int) : Int := if ¬ cUnit S u then -1000001 else if cU S u 2 = 0 then 0 else -1000002
abbrev cChild (S : Nat → Int → Int) (g c : Int) : Prop := (c < 5 ∧ c < cT S 4 ∧ cH S c 3 = g) ∨ (5 ≤ c ∧ c - 5 < cT S 5 ∧ cU S (c - 5) 0 = g ∧ cU S (c - 5) 2 = 0)
def cPer (S : Nat → Int → Int) (c : Int) : Int := if c < 5 then cSe S c 4 else cU S (c - 5) 1
def cTw (S : Nat → Int → Int) (g : Int) : Nat → Int → Int → Int
  | 0, c, x => if x = g then c else -1
  | n + 1, c, x => if g < x then cTw S g n x (cH S x 3) else if x = g then c else -1
/-- the child through which the frames of unit u come to hub g, -1 if it is no unit of it -/
def cTow (S : Nat → Int → Int) (u g : Int) : Int := if cU S u 2 = 0 then cTw S g 5 (5 + u) (cU S u 0) else -1
noncomputable def cChildren (S : Nat → Int → Int) (g : Int) : Int := fI 15 (fun c n => n + b2i (cChild S g c)) 0
noncomputable def cUnder (S : Nat → Int → Int) (g : Int) : Int := fI (cT S 5) (fun u n => n + b2i (¬ cTow S u g = -1)) 0
def cUA (S : Nat → Int → Int) (g x : Int) : Nat → Int → Int → Int
  | 0, _, _ => -1000004
  | n + 1, u, a => if cT S 5 ≤ u then -1000004 else if cTow S u g = -1 then cUA S g x n (u + 1) a else if a = x then u else cUA S g x n (u + 1) (a + 1)
def cDl (S : Nat → Int → Int) : Nat → Int → Int
  | 0, _ => 0
  | n + 1, x => if 0 < x then cSe S x 3 + cDl S n (cH S x 3) else 0
def cDep (S : Nat → Int → Int) (u st v fl tk : Int) : Int := if ¬ (cUnit S u ∧ (0 ≤ st ∧ st ≤ 20000) ∧ (-100000 ≤ v ∧ v ≤ 100000) ∧ (0 ≤ fl ∧ fl ≤ 15) ∧ 1 ≤ tk ∧ tk ≤ 60) then -1000001 else if ¬ (cU S u 2 = 0 ∧ st % cU S u 1 = 0 ∧ st ≤ cT S 6) then -1000002 else if cW S < 40 then 0 else -1000003
def cEla (S : Nat → Int → Int) (n : Int) : Int := if ¬ (1 ≤ n ∧ n ≤ 100) then -1000001 else if cT S 6 + n ≤ 20000 then 0 else -1000003
noncomputable def cExp (S : Nat → Int → Int) (g c sl : Int) : Int := if cPer S c ≤ cSe S g 4 then cSe S g 4 / cPer S c else b2i (sl % cPer S c = 0)
noncomputable def cExpA (S : Nat → Int → Int) (g sl : Int) : Int := fI 15 (fun c n => n + cif (cChild S g c) (cExp S g c sl) 0) 0
def cKept (S : Nat → Int → Int) : Int := e_mnF (cT S 7) 8
def cSum (S : Nat → Int → Int) (k : Int) : Int := fI (cT S 4) (fun g n => wr (n + cH S g k)) 0
theorem cPer_child {S : Nat → Int → Int} (hc : CI S) {g c : Int} (h0 : 0 ≤ c) (h : cChild S g c) : 1 ≤ cPer S c ∧ cPer S c ≤ 20 := by
  unfold cPer
  rcases h with ⟨a, b, _⟩ | ⟨a, b, _⟩
  · rw [if_pos a]
    have := hc.2.2.1 c h0 b
    omega
  · rw [if_neg (by omega)]
    have := hc.2.2.2 (c - 5) (by omega) b
    omega
theorem cExp_rng {S : Nat → Int → Int} {g c sl : Int} (hp : 1 ≤ cPer S c ∧ cPer S c ≤ 20) (hg : 1 ≤ cSe S g 4 ∧ cSe S g 4 ≤ 20) : 0 ≤ cExp S g c sl ∧ cExp S g c sl ≤ 20 := by
  unfold cExp
  split
  · exact ⟨Int.ediv_nonneg (by omega) (by omega), by have := Int.ediv_le_self (a := cSe S g 4) (cPer S c) (by omega); omega⟩
  · have := b2i_01 (sl % cPer S c = 0); omega
set_option maxRecDepth 20000 in
set_option maxHeartbeats 2000000 in
theorem sp_H_isUntouched {d : Nat} {h : HP} {t : Nat} (hK : SkT t h) {S : Nat → Int → Int} (hS : ∀ n, n < 80 → hI h (t + n) = S n) {g : Int} (hg : 0 ≤ g ∧ g < 5) {Q : Int → HP → Prop} (K : Q (b2i (cZ S g = 0 ∧ cH S g 5 = 0)) h) : CaI d 106 [.inr (some (t + (11 + 7 * g.toNat)))] h Q := by
  have hC : cod 106 = c_H_isUntouched := rfl
  refine CaI.start rfl ?_
  refine x_1 (p' := 1) hC rfl rfl rfl rfl ?_
  refine z_hr1 (p' := 2) hK (by omega) (by omega) hC rfl rfl ?_
  refine z_rwh (p' := 3) hK hS (by omega) (by omega) hC rfl rfl ?_
  refine x_ifne (p' := 4) hC rfl rfl (fun c3 => ?_) (fun c3 => ?_)
  · refine x_1 (p' := 10) hC rfl rfl rfl rfl ?_
    refine x_zret hC rfl rfl rfl (by first | omega | exact b2i_01 _) ⟨_, rfl, ?_⟩
    refine eqK K ?_
    first | exact b2i_t (by omega) | exact b2i_f (by omega)
  · refine x_1 (p' := 5) hC rfl rfl rfl rfl ?_
    refine z_hg (p' := 6) (kz := 5) hK hS (by omega) (by omega) hC rfl rfl rfl rfl ?_
    refine x_ifne (p' := 7) hC rfl rfl (fun c6 => ?_) (fun c6 => ?_)
    · refine x_1 (p' := 10) hC rfl rfl rfl rfl ?_
      refine x_zret hC rfl rfl rfl (by first | omega | exact b2i_01 _) ⟨_, rfl, ?_⟩
      refine eqK K ?_
      first | exact b2i_t (by omega) | exact b2i_f (by omega)
    · refine x_1 (p' := 8) hC rfl rfl rfl rfl ?_
      refine x_1 (p' := 10) hC rfl rfl rfl rfl ?_
      refine x_zret hC rfl rfl rfl (by first | omega | exact b2i_01 _) ⟨_, rfl, ?_⟩
      refine eqK K ?_
      first | exact b2i_t (by omega) | exact b2i_f (by omega)
set_option maxRecDepth 20000 in
set_option maxHeartbeats 2000000 in
theorem sp_T_hasHub {d : Nat} {h : HP} {t : Nat} (hK : SkT t h) {S : Nat → Int → Int} (hS : ∀ n, n < 80 → hI h (t + n) = S n) (hc : CI S) {x : Int} {Q : Int → HP → Prop} (K : Q (b2i (0 ≤ x ∧ x ≤ cT S 4 - 1)) h) : CaI (d + 1) 111 [.inr (some t), .inl x] h Q := by
  have hC : cod 111 = c_T_hasHub := rfl
  refine CaI.start rfl ?_
  have h4 := hc.1
  have h5 := hc.2.1
  refine x_1 (p' := 1) hC rfl rfl rfl rfl ?_
  refine x_1 (p' := 2) hC rfl rfl rfl rfl ?_
  refine x_1 (p' := 3) hC rfl rfl rfl rfl ?_
  refine z_ti (p' := 4) (kz := 4) hK hS hC rfl rfl rfl rfl ?_
  refine x_1 (p' := 5) hC rfl rfl rfl rfl ?_
  refine x_sub (p' := 6) hC rfl rfl rfl (⟨by omega, by omega⟩) ?_
  refine x_cIS3 (p' := 7) (n := 187) hC rfl rfl rfl rfl rfl ?_
  refine sp_P_isWithin ?_
  refine x_zret hC rfl rfl rfl (by first | omega | exact b2i_01 _) ⟨_, rfl, ?_⟩
  exact K
set_option maxRecDepth 20000 in
set_option maxHeartbeats 2000000 in
theorem sp_T_hasUnit {d : Nat} {h : HP} {t : Nat} (hK : SkT t h) {S : Nat → Int → Int} (hS : ∀ n, n < 80 → hI h (t + n) = S n) (hc : CI S) {x : Int} {Q : Int → HP → Prop} (K : Q (b2i (0 ≤ x ∧ x ≤ cT S 5 - 1)) h) : CaI (d + 1) 112 [.inr (some t), .inl x] h Q := by
  have hC : cod 112 = c_T_hasUnit := rfl
  refine CaI.start rfl ?_
  have h4 := hc.1
  have h5 := hc.2.1
  refine x_1 (p' := 1) hC rfl rfl rfl rfl ?_
  refine x_1 (p' := 2) hC rfl rfl rfl rfl ?_
  refine x_1 (p' := 3) hC rfl rfl rfl rfl ?_
  refine z_ti (p' := 4) (kz := 5) hK hS hC rfl rfl rfl rfl ?_
  refine x_1 (p' := 5) hC rfl rfl rfl rfl ?_
  refine x_sub (p' := 6) hC rfl rfl rfl (⟨by omega, by omega⟩) ?_
  refine x_cIS3 (p' := 7) (n := 187) hC rfl rfl rfl rfl rfl ?_
  refine sp_P_isWithin ?_
  refine x_zret hC rfl rfl rfl (by first | omega | exact b2i_01 _) ⟨_, rfl, ?_⟩
  exact K
set_option maxRecDepth 20000 in
set_option maxHeartbeats 2000000 in
theorem sp_T_joinError {d : Nat} {h : HP} {t : Nat} (hK : SkT t h) {S : Nat → Int → Int} (hS : ∀ n, n < 80 → hI h (t + n) = S n) (hc : CI S) {a p z : Int} {Q : Int → HP → Prop} (K : Q (cJoin S a p z) h) : CaI (d + 2) 113 [.inr (some t), .inl a, .inl p, .inl z] h Q := by
  have hC : cod 113 = c_T_joinError := rfl
  refine CaI.start rfl ?_
  have h4 := hc.1
  have h5 := hc.2.1
  refine x_1 (p' := 1) hC rfl rfl rfl rfl ?_
  refine x_1 (p' := 2) hC rfl rfl rfl rfl ?_
  refine x_cIV1 (p' := 3) (n := 111) hC rfl rfl rfl rfl rfl (hK.ty) ?_
  refine sp_T_hasHub hK hS hc ?_
  refine x_ifeq (p' := 4) hC rfl rfl (fun c3 => ?_) (fun c3 => ?_)
  · have c3 := b2i_0.mp c3
    refine x_ldc (p' := 10) (v := (-1000001)) hC rfl rfl (by decide) ?_
    refine x_iret hC rfl rfl rfl ⟨_, rfl, ?_⟩
    refine eqK K ?_
    unfold cJoin
    repeat (first | rw [if_pos (by omega)] | rw [if_neg (by omega)])
  · have c3 := b2i_n0.mp c3
    refine x_1 (p' := 5) hC rfl rfl rfl rfl ?_
    refine x_1 (p' := 6) hC rfl rfl rfl rfl ?_
    refine x_1 (p' := 7) hC rfl rfl rfl rfl ?_
    refine x_cIS3 (p' := 8) (n := 187) hC rfl rfl rfl rfl rfl ?_
    refine sp_P_isWithin ?_
    refine x_ifne (p' := 9) hC rfl rfl (fun c8 => ?_) (fun c8 => ?_)
    · have c8 := b2i_n0.mp c8
      refine x_1 (p' := 12) hC rfl rfl rfl rfl ?_
      refine x_1 (p' := 13) hC rfl rfl rfl rfl ?_
      refine z_tr (p' := 14) (n := 1) hK hC rfl rfl rfl rfl ?_
      refine x_1 (p' := 15) hC rfl rfl rfl rfl ?_
      refine z_hub (p' := 16) hK hC rfl rfl rfl (by omega) (by omega) ?_
      refine z_hr0 (p' := 17) hK (by omega) (by omega) hC rfl rfl ?_
      refine x_1 (p' := 18) hC rfl rfl rfl rfl ?_
      refine z_sl (p' := 19) hK hS (by omega) (by omega) hC rfl rfl rfl (by omega) (by omega) ?_
      have hx := hc.2.2.1 a (by omega) (by omega)
      refine x_cIS2 (p' := 20) (n := 190) hC rfl rfl rfl rfl rfl ?_
      refine sp_P_goTogether (by omega) (by omega) ?_
      refine x_ifne (p' := 21) hC rfl rfl (fun c20 => ?_) (fun c20 => ?_)
      · have c20 := b2i_n0.mp c20
        refine x_1 (p' := 24) hC rfl rfl rfl rfl ?_
        refine x_ifeq (p' := 25) hC rfl rfl (fun c24 => ?_) (fun c24 => ?_)
        · refine x_ldc (p' := 28) (v := (-1000003)) hC rfl rfl (by decide) ?_
          refine x_iret hC rfl rfl rfl ⟨_, rfl, ?_⟩
          refine eqK K ?_
          unfold cJoin
          repeat (first | rw [if_pos (by omega)] | rw [if_neg (by omega)])
        · refine x_1 (p' := 26) hC rfl rfl rfl rfl ?_
          refine x_1 (p' := 28) hC rfl rfl rfl rfl ?_
          refine x_iret hC rfl rfl rfl ⟨_, rfl, ?_⟩
          refine eqK K ?_
          unfold cJoin
          repeat (first | rw [if_pos (by omega)] | rw [if_neg (by omega)])
      · have c20 := b2i_0.mp c20
        refine x_ldc (p' := 22) (v := (-1000002)) hC rfl rfl (by decide) ?_
        refine x_iret hC rfl rfl rfl ⟨_, rfl, ?_⟩
        refine eqK K ?_
        unfold cJoin
        repeat (first | rw [if_pos (by omega)] | rw [if_neg (by omega)])
    · have c8 := b2i_0.mp c8
      refine x_ldc (p' := 10) (v := (-1000001)) hC rfl rfl (by decide) ?_
      refine x_iret hC rfl rfl rfl ⟨_, rfl, ?_⟩
      refine eqK K ?_
      unfold cJoin
      repeat (first | rw [if_pos (by omega)] | rw [if_neg (by omega)])
set_option maxRecDepth 20000 in
set_option maxHeartbeats 2000000 in
theorem sp_T_retireError {d : Nat} {h : HP} {t : Nat} (hK : SkT t h) {S : Nat → Int → Int} (hS : ∀ n, n < 80 → hI h (t + n) = S n) (hc : CI S) {u : Int} {Q : Int → HP → Prop} (K : Q (cRet S u) h) : CaI (d + 2) 116 [.inr (some t), .inl u] h Q := by
  have hC : cod 116 = c_T_retireError := rfl
  refine CaI.start rfl ?_
  have h4 := hc.1
  have h5 := hc.2.1
  refine x_1 (p' := 1) hC rfl rfl rfl rfl ?_
  refine x_1 (p' := 2) hC rfl rfl rfl rfl ?_
  refine x_cIV1 (p' := 3) (n := 112) hC rfl rfl rfl rfl rfl (hK.ty) ?_
  refine sp_T_hasUnit hK hS hc ?_
  refine x_ifne (p' := 4) hC rfl rfl (fun c3 => ?_) (fun c3 => ?_)
  · have c3 := b2i_n0.mp c3
    refine x_1 (p' := 7) hC rfl rfl rfl rfl ?_
    refine z_tr (p' := 8) (n := 2) hK hC rfl rfl rfl rfl ?_
    refine x_1 (p' := 9) hC rfl rfl rfl rfl ?_
    refine z_unit (p' := 10) hK hC rfl rfl rfl (by omega) (by omega) ?_
    refine z_ug (p' := 11) (kz := 2) hK hS (by omega) (by omega) hC rfl rfl rfl rfl ?_
    refine x_ifeq (p' := 12) hC rfl rfl (fun c11 => ?_) (fun c11 => ?_)
    · refine x_1 (p' := 15) hC rfl rfl rfl rfl ?_
      refine x_iret hC rfl rfl rfl ⟨_, rfl, ?_⟩
      refine eqK K ?_
      unfold cRet
      repeat (first | rw [if_pos (by omega)] | rw [if_neg (by omega)])
    · refine x_ldc (p' := 13) (v := (-1000002)) hC rfl rfl (by decide) ?_
      refine x_1 (p' := 15) hC rfl rfl rfl rfl ?_
      refine x_iret hC rfl rfl rfl ⟨_, rfl, ?_⟩
      refine eqK K ?_
      unfold cRet
      repeat (first | rw [if_pos (by omega)] | rw [if_neg (by omega)])
  · have c3 := b2i_0.mp c3
    refine x_ldc (p' := 5) (v := (-1000001)) hC rfl rfl (by decide) ?_
    refine x_iret hC rfl rfl rfl ⟨_, rfl, ?_⟩
    refine eqK K ?_
    unfold cRet
    repeat (first | rw [if_pos (by omega)] | rw [if_neg (by omega)])
set_option maxRecDepth 20000 in
set_option maxHeartbeats 2000000 in
theorem sp_T_isChild {d : Nat} {h : HP} {t : Nat} (hK : SkT t h) {S : Nat → Int → Int} (hS : ∀ n, n < 80 → hI h (t + n) = S n) (hc : CI S) {c g : Int} (hcc : 0 ≤ c ∧ c < 15) {Q : Int → HP → Prop} (K : Q (b2i (cChild S g c)) h) : CaI d 121 [.inr (some t), .inl c, .inl g] h Q := by
  have hC : cod 121 = c_T_isChild := rfl
  refine CaI.start rfl ?_
  have h4 := hc.1
  have h5 := hc.2.1
  refine x_1 (p' := 1) hC rfl rfl rfl rfl ?_
  refine x_1 (p' := 2) hC rfl rfl rfl rfl ?_
  refine x_icge (p' := 3) hC rfl rfl (fun c2 => ?_) (fun c2 => ?_)
  · refine x_1 (p' := 19) hC rfl rfl rfl rfl ?_
    refine x_1 (p' := 20) hC rfl rfl rfl rfl ?_
    refine x_sub (p' := 21) hC rfl rfl rfl (⟨by omega, by omega⟩) ?_
    refine x_stI3 (p' := 22) hC rfl rfl rfl ?_
    refine x_1 (p' := 23) hC rfl rfl rfl rfl ?_
    refine x_1 (p' := 24) hC rfl rfl rfl rfl ?_
    refine z_ti (p' := 25) (kz := 5) hK hS hC rfl rfl rfl rfl ?_
    refine x_icge (p' := 26) hC rfl rfl (fun c25 => ?_) (fun c25 => ?_)
    · refine x_1 (p' := 42) hC rfl rfl rfl rfl ?_
      refine x_zret hC rfl rfl rfl (by first | omega | exact b2i_01 _) ⟨_, rfl, ?_⟩
      refine eqK K ?_
      first | exact b2i_t (by omega) | exact b2i_f (by omega)
    · refine x_1 (p' := 27) hC rfl rfl rfl rfl ?_
      refine z_tr (p' := 28) (n := 2) hK hC rfl rfl rfl rfl ?_
      refine x_1 (p' := 29) hC rfl rfl rfl rfl ?_
      refine z_unit (p' := 30) hK hC rfl rfl rfl (by omega) (by omega) ?_
      refine z_ug (p' := 31) (kz := 0) hK hS (by omega) (by omega) hC rfl rfl rfl rfl ?_
      refine x_1 (p' := 32) hC rfl rfl rfl rfl ?_
      refine x_icne (p' := 33) hC rfl rfl (fun c32 => ?_) (fun c32 => ?_)
      · refine x_1 (p' := 42) hC rfl rfl rfl rfl ?_
        refine x_zret hC rfl rfl rfl (by first | omega | exact b2i_01 _) ⟨_, rfl, ?_⟩
        refine eqK K ?_
        first | exact b2i_t (by omega) | exact b2i_f (by omega)
      · refine x_1 (p' := 34) hC rfl rfl rfl rfl ?_
        refine z_tr (p' := 35) (n := 2) hK hC rfl rfl rfl rfl ?_
        refine x_1 (p' := 36) hC rfl rfl rfl rfl ?_
        refine z_unit (p' := 37) hK hC rfl rfl rfl (by omega) (by omega) ?_
        refine z_ug (p' := 38) (kz := 2) hK hS (by omega) (by omega) hC rfl rfl rfl rfl ?_
        refine x_ifne (p' := 39) hC rfl rfl (fun c38 => ?_) (fun c38 => ?_)
        · refine x_1 (p' := 42) hC rfl rfl rfl rfl ?_
          refine x_zret hC rfl rfl rfl (by first | omega | exact b2i_01 _) ⟨_, rfl, ?_⟩
          refine eqK K ?_
          first | exact b2i_t (by omega) | exact b2i_f (by omega)
        · refine x_1 (p' := 40) hC rfl rfl rfl rfl ?_
          refine x_1 (p' := 42) hC rfl rfl rfl rfl ?_
          refine x_zret hC rfl rfl rfl (by first | omega | exact b2i_01 _) ⟨_, rfl, ?_⟩
          refine eqK K ?_
          first | exact b2i_t (by omega) | exact b2i_f (by omega)
  · refine x_1 (p' := 4) hC rfl rfl rfl rfl ?_
    refine x_1 (p' := 5) hC rfl rfl rfl rfl ?_
    refine z_ti (p' := 6) (kz := 4) hK hS hC rfl rfl rfl rfl ?_
    refine x_icge (p' := 7) hC rfl rfl (fun c6 => ?_) (fun c6 => ?_)
    · refine x_1 (p' := 17) hC rfl rfl rfl rfl ?_
      refine x_zret hC rfl rfl rfl (by first | omega | exact b2i_01 _) ⟨_, rfl, ?_⟩
      refine eqK K ?_
      first | exact b2i_t (by omega) | exact b2i_f (by omega)
    · refine x_1 (p' := 8) hC rfl rfl rfl rfl ?_
      refine z_tr (p' := 9) (n := 1) hK hC rfl rfl rfl rfl ?_
      refine x_1 (p' := 10) hC rfl rfl rfl rfl ?_
      refine z_hub (p' := 11) hK hC rfl rfl rfl (by omega) (by omega) ?_
      refine z_hg (p' := 12) (kz := 3) hK hS (by omega) (by omega) hC rfl rfl rfl rfl ?_
      refine x_1 (p' := 13) hC rfl rfl rfl rfl ?_
      refine x_icne (p' := 14) hC rfl rfl (fun c13 => ?_) (fun c13 => ?_)
      · refine x_1 (p' := 17) hC rfl rfl rfl rfl ?_
        refine x_zret hC rfl rfl rfl (by first | omega | exact b2i_01 _) ⟨_, rfl, ?_⟩
        refine eqK K ?_
        first | exact b2i_t (by omega) | exact b2i_f (by omega)
      · refine x_1 (p' := 15) hC rfl rfl rfl rfl ?_
        refine x_1 (p' := 17) hC rfl rfl rfl rfl ?_
        refine x_zret hC rfl rfl rfl (by first | omega | exact b2i_01 _) ⟨_, rfl, ?_⟩
        refine eqK K ?_
        first | exact b2i_t (by omega) | exact b2i_f (by omega)
set_option maxRecDepth 20000 in
set_option maxHeartbeats 2000000 in
theorem sp_T_periodOf {d : Nat} {h : HP} {t : Nat} (hK : SkT t h) {S : Nat → Int → Int} (hS : ∀ n, n < 80 → hI h (t + n) = S n) {c : Int} (hcc : 0 ≤ c ∧ c < 15) {Q : Int → HP → Prop} (K : Q (cPer S c) h) : CaI d 122 [.inr (some t), .inl c] h Q := by
  have hC : cod 122 = c_T_periodOf := rfl
  refine CaI.start rfl ?_
  refine x_1 (p' := 1) hC rfl rfl rfl rfl ?_
  refine x_1 (p' := 2) hC rfl rfl rfl rfl ?_
  refine x_icge (p' := 3) hC rfl rfl (fun c2 => ?_) (fun c2 => ?_)
  · refine x_1 (p' := 12) hC rfl rfl rfl rfl ?_
    refine z_tr (p' := 13) (n := 2) hK hC rfl rfl rfl rfl ?_
    refine x_1 (p' := 14) hC rfl rfl rfl rfl ?_
    refine x_1 (p' := 15) hC rfl rfl rfl rfl ?_
    refine x_sub (p' := 16) hC rfl rfl rfl (⟨by omega, by omega⟩) ?_
    refine z_unit (p' := 17) hK hC rfl rfl rfl (by omega) (by omega) ?_
    refine z_ug (p' := 18) (kz := 1) hK hS (by omega) (by omega) hC rfl rfl rfl rfl ?_
    refine x_iret hC rfl rfl rfl ⟨_, rfl, ?_⟩
    refine eqK K ?_
    first | exact if_pos (by omega) | exact if_neg (by omega)
  · refine x_1 (p' := 4) hC rfl rfl rfl rfl ?_
    refine z_tr (p' := 5) (n := 1) hK hC rfl rfl rfl rfl ?_
    refine x_1 (p' := 6) hC rfl rfl rfl rfl ?_
    refine z_hub (p' := 7) hK hC rfl rfl rfl (by omega) (by omega) ?_
    refine z_hr0 (p' := 8) hK (by omega) (by omega) hC rfl rfl ?_
    refine x_1 (p' := 9) hC rfl rfl rfl rfl ?_
    refine z_sl (p' := 10) hK hS (by omega) (by omega) hC rfl rfl rfl (by omega) (by omega) ?_
    refine x_1 (p' := 18) hC rfl rfl rfl rfl ?_
    refine x_iret hC rfl rfl rfl ⟨_, rfl, ?_⟩
    refine eqK K ?_
    first | exact if_pos (by omega) | exact if_neg (by omega)
set_option maxRecDepth 20000 in
theorem lp_T_tow {d : Nat} {h : HP} {t : Nat} (hK : SkT t h) {S : Nat → Int → Int} (hS : ∀ n, n < 80 → hI h (t + n) = S n) (hc : CI S) {u g : Int} (hg : 0 ≤ g) {res : Int} {Q : Int → HP → Prop} (K : Q res h) (k : Nat) : ∀ (c : Int) (x : Int) (i : Int), (5 - i).toNat < k → (0 ≤ i ∧ i ≤ 5) → (x < cT S 4) → (cTw S g (5 - i).toNat c x = res) → At (d) 123 20 [some (.inr (some t)), some (.inl u), some (.inl g), some (.inl c), some (.inl x), some (.inl i)] [] h (fun v h' => ∃ x, v = some (.inl x) ∧ Q x h') := by
  have hC : cod 123 = c_T_childToward := rfl
  induction k with
  | zero =>
    intro c x i hk
    exact absurd hk (Nat.not_lt_zero _)
  | succ k ih =>
    intro c x i hk hI0 hI1 hI2
    have h4 := hc.1
    have hx := fun q => hc.2.2.1 x q hI1
    refine x_1 (p' := 21) hC rfl rfl rfl rfl ?_
    refine x_1 (p' := 22) hC rfl rfl rfl rfl ?_
    refine x_icge (p' := 23) hC rfl rfl (fun c22 => ?_) (fun c22 => ?_)
    · refine x_1 (p' := 37) hC rfl rfl rfl rfl ?_
      refine x_1 (p' := 38) hC rfl rfl rfl rfl ?_
      refine x_icne (p' := 39) hC rfl rfl (fun c38 => ?_) (fun c38 => ?_)
      · refine x_1 (p' := 42) hC rfl rfl rfl rfl ?_
        refine x_iret hC rfl rfl rfl ⟨_, rfl, ?_⟩
        refine eqK K ?_
        rw [← hI2]
        by_cases h5 : i < 5
        · rw [show (5 - i).toNat = (5 - (i + 1)).toNat + 1 by omega, cTw, if_neg (by omega)]
          first | exact if_pos (by omega) | exact if_neg (by omega)
        · rw [show (5 - i).toNat = 0 by omega, cTw]
          first | exact if_pos (by omega) | exact if_neg (by omega)
      · refine x_1 (p' := 40) hC rfl rfl rfl rfl ?_
        refine x_1 (p' := 42) hC rfl rfl rfl rfl ?_
        refine x_iret hC rfl rfl rfl ⟨_, rfl, ?_⟩
        refine eqK K ?_
        rw [← hI2]
        by_cases h5 : i < 5
        · rw [show (5 - i).toNat = (5 - (i + 1)).toNat + 1 by omega, cTw, if_neg (by omega)]
          first | exact if_pos (by omega) | exact if_neg (by omega)
        · rw [show (5 - i).toNat = 0 by omega, cTw]
          first | exact if_pos (by omega) | exact if_neg (by omega)
    · refine x_1 (p' := 24) hC rfl rfl rfl rfl ?_
      refine x_1 (p' := 25) hC rfl rfl rfl rfl ?_
      refine x_icle (p' := 26) hC rfl rfl (fun c25 => ?_) (fun c25 => ?_)
      · refine x_1 (p' := 37) hC rfl rfl rfl rfl ?_
        refine x_1 (p' := 38) hC rfl rfl rfl rfl ?_
        refine x_icne (p' := 39) hC rfl rfl (fun c38 => ?_) (fun c38 => ?_)
        · refine x_1 (p' := 42) hC rfl rfl rfl rfl ?_
          refine x_iret hC rfl rfl rfl ⟨_, rfl, ?_⟩
          refine eqK K ?_
          rw [← hI2]
          by_cases h5 : i < 5
          · rw [show (5 - i).toNat = (5 - (i + 1)).toNat + 1 by omega, cTw, if_neg (by omega)]
            first | exact if_pos (by omega) | exact if_neg (by omega)
          · rw [show (5 - i).toNat = 0 by omega, cTw]
            first | exact if_pos (by omega) | exact if_neg (by omega)
        · refine x_1 (p' := 40) hC rfl rfl rfl rfl ?_
          refine x_1 (p' := 42) hC rfl rfl rfl rfl ?_
          refine x_iret hC rfl rfl rfl ⟨_, rfl, ?_⟩
          refine eqK K ?_
          rw [← hI2]
          by_cases h5 : i < 5
          · rw [show (5 - i).toNat = (5 - (i + 1)).toNat + 1 by omega, cTw, if_neg (by omega)]
            first | exact if_pos (by omega) | exact if_neg (by omega)
          · rw [show (5 - i).toNat = 0 by omega, cTw]
            first | exact if_pos (by omega) | exact if_neg (by omega)
      · refine x_1 (p' := 27) hC rfl rfl rfl rfl ?_
        refine x_stI3 (p' := 28) hC rfl rfl rfl ?_
        refine x_1 (p' := 29) hC rfl rfl rfl rfl ?_
        refine z_tr (p' := 30) (n := 1) hK hC rfl rfl rfl rfl ?_
        refine x_1 (p' := 31) hC rfl rfl rfl rfl ?_
        refine z_hub (p' := 32) hK hC rfl rfl rfl (by omega) (by omega) ?_
        refine z_hg (p' := 33) (kz := 3) hK hS (by omega) (by omega) hC rfl rfl rfl rfl ?_
        refine x_stI4 (p' := 34) hC rfl rfl rfl ?_
        refine x_inc5 (p' := 35) hC rfl rfl (⟨by omega, by omega⟩) ?_
        refine x_1 (p' := 20) hC rfl rfl rfl rfl ?_
        have hx2 := hx (by omega)
        rw [show (5 - i).toNat = (5 - (i + 1)).toNat + 1 by omega, cTw, if_pos (by omega)] at hI2
        exact ih _ _ _ (by omega) (by omega) (by omega) hI2
set_option maxRecDepth 20000 in
set_option maxHeartbeats 2000000 in
theorem sp_T_childToward {d : Nat} {h : HP} {t : Nat} (hK : SkT t h) {S : Nat → Int → Int} (hS : ∀ n, n < 80 → hI h (t + n) = S n) (hc : CI S) {u g : Int} (hu : 0 ≤ u ∧ u < cT S 5) (hg : 0 ≤ g) {Q : Int → HP → Prop} (K : Q (cTow S u g) h) : CaI d 123 [.inr (some t), .inl u, .inl g] h Q := by
  have hC : cod 123 = c_T_childToward := rfl
  refine CaI.start rfl ?_
  have h4 := hc.1
  have h5 := hc.2.1
  have hx := hc.2.2.2 u hu.1 hu.2
  refine x_1 (p' := 1) hC rfl rfl rfl rfl ?_
  refine z_tr (p' := 2) (n := 2) hK hC rfl rfl rfl rfl ?_
  refine x_1 (p' := 3) hC rfl rfl rfl rfl ?_
  refine z_unit (p' := 4) hK hC rfl rfl rfl (by omega) (by omega) ?_
  refine z_ug (p' := 5) (kz := 2) hK hS (by omega) (by omega) hC rfl rfl rfl rfl ?_
  refine x_ifeq (p' := 6) hC rfl rfl (fun c5 => ?_) (fun c5 => ?_)
  · refine x_1 (p' := 9) hC rfl rfl rfl rfl ?_
    refine x_1 (p' := 10) hC rfl rfl rfl rfl ?_
    refine x_add (p' := 11) hC rfl rfl rfl (⟨by omega, by omega⟩) ?_
    refine x_stI3 (p' := 12) hC rfl rfl rfl ?_
    refine x_1 (p' := 13) hC rfl rfl rfl rfl ?_
    refine z_tr (p' := 14) (n := 2) hK hC rfl rfl rfl rfl ?_
    refine x_1 (p' := 15) hC rfl rfl rfl rfl ?_
    refine z_unit (p' := 16) hK hC rfl rfl rfl (by omega) (by omega) ?_
    refine z_ug (p' := 17) (kz := 0) hK hS (by omega) (by omega) hC rfl rfl rfl rfl ?_
    refine x_stI4 (p' := 18) hC rfl rfl rfl ?_
    refine x_1 (p' := 19) hC rfl rfl rfl rfl ?_
    refine x_stI5 (p' := 20) hC rfl rfl rfl ?_
    unfold cTow at K
    rw [if_pos (by omega)] at K
    exact lp_T_tow hK hS hc hg K _ _ _ 0 (Nat.lt_succ_self _) (by omega) (by omega) rfl
  · refine x_1 (p' := 7) hC rfl rfl rfl rfl ?_
    refine x_iret hC rfl rfl rfl ⟨_, rfl, ?_⟩
    refine eqK K ?_
    exact if_neg (by omega)
set_option maxRecDepth 20000 in
theorem lp_T_children {d : Nat} {h : HP} {t : Nat} (hK : SkT t h) {S : Nat → Int → Int} (hS : ∀ n, n < 80 → hI h (t + n) = S n) (hc : CI S) {g : Int} {Q : Int → HP → Prop} (K : Q (cChildren S g) h) (k : Nat) : ∀ (i : Int), (15 - i).toNat < k → (0 ≤ i ∧ i ≤ 15) → (0 ≤ fI i (fun c n => n + b2i (cChild S g c)) 0 ∧ fI i (fun c n => n + b2i (cChild S g c)) 0 ≤ i) → At (d + 1) 124 4 [some (.inr (some t)), some (.inl g), some (.inl (fI i (fun c n => n + b2i (cChild S g c)) 0)), some (.inl i)] [] h (fun v h' => ∃ x, v = some (.inl x) ∧ Q x h') := by
  have hC : cod 124 = c_T_childrenOf := rfl
  induction k with
  | zero =>
    intro i hk
    exact absurd hk (Nat.not_lt_zero _)
  | succ k ih =>
    intro i hk hI0 hI1
    have e := fI_succ (g := fun c n => n + b2i (cChild S g c)) (a := (0 : Int)) hI0.1
    refine x_1 (p' := 5) hC rfl rfl rfl rfl ?_
    refine x_1 (p' := 6) hC rfl rfl rfl rfl ?_
    refine x_icge (p' := 7) hC rfl rfl (fun c6 => ?_) (fun c6 => ?_)
    · refine x_1 (p' := 21) hC rfl rfl rfl rfl ?_
      refine x_iret hC rfl rfl rfl ⟨_, rfl, ?_⟩
      refine eqK K ?_
      unfold cChildren
      rw [show (15 : Int) = i by omega]
    · refine x_1 (p' := 8) hC rfl rfl rfl rfl ?_
      refine x_1 (p' := 9) hC rfl rfl rfl rfl ?_
      refine x_1 (p' := 10) hC rfl rfl rfl rfl ?_
      refine x_1 (p' := 11) hC rfl rfl rfl rfl ?_
      refine x_cIV2 (p' := 12) (n := 121) hC rfl rfl rfl rfl rfl (hK.ty) ?_
      refine sp_T_isChild hK hS hc (by omega) ?_
      refine x_ifeq (p' := 13) hC rfl rfl (fun c12 => ?_) (fun c12 => ?_)
      · have c12 := b2i_0.mp c12
        rw [b2i_f c12] at e
        refine x_1 (p' := 16) hC rfl rfl rfl rfl ?_
        refine x_add (p' := 17) hC rfl rfl rfl (⟨by omega, by omega⟩) ?_
        refine x_stI2 (p' := 18) hC rfl rfl rfl ?_
        refine x_inc3 (p' := 19) hC rfl rfl (⟨by omega, by omega⟩) ?_
        refine x_1 (p' := 4) hC rfl rfl rfl rfl ?_
        rw [← e]
        exact ih _ (by omega) (by omega) (by omega)
      · have c12 := b2i_n0.mp c12
        rw [b2i_t c12] at e
        refine x_1 (p' := 14) hC rfl rfl rfl rfl ?_
        refine x_1 (p' := 16) hC rfl rfl rfl rfl ?_
        refine x_add (p' := 17) hC rfl rfl rfl (⟨by omega, by omega⟩) ?_
        refine x_stI2 (p' := 18) hC rfl rfl rfl ?_
        refine x_inc3 (p' := 19) hC rfl rfl (⟨by omega, by omega⟩) ?_
        refine x_1 (p' := 4) hC rfl rfl rfl rfl ?_
        rw [← e]
        exact ih _ (by omega) (by omega) (by omega)
set_option maxRecDepth 20000 in
set_option maxHeartbeats 2000000 in
theorem sp_T_childrenOf {d : Nat} {h : HP} {t : Nat} (hK : SkT t h) {S : Nat → Int → Int} (hS : ∀ n, n < 80 → hI h (t + n) = S n) (hc : CI S) {g : Int} {Q : Int → HP → Prop} (K : Q (cChildren S g) h) : CaI (d + 1) 124 [.inr (some t), .inl g] h Q := by
  have hC : cod 124 = c_T_childrenOf := rfl
  refine CaI.start rfl ?_
  refine x_1 (p' := 1) hC rfl rfl rfl rfl ?_
  refine x_stI2 (p' := 2) hC rfl rfl rfl ?_
  refine x_1 (p' := 3) hC rfl rfl rfl rfl ?_
  refine x_stI3 (p' := 4) hC rfl rfl rfl ?_
  exact lp_T_children hK hS hc K _ 0 (Nat.lt_succ_self _) (by omega) (by rw [fI_0]; omega)
set_option maxRecDepth 20000 in
theorem lp_T_under {d : Nat} {h : HP} {t : Nat} (hK : SkT t h) {S : Nat → Int → Int} (hS : ∀ n, n < 80 → hI h (t + n) = S n) (hc : CI S) {g : Int} (hg : 0 ≤ g) {Q : Int → HP → Prop} (K : Q (cUnder S g) h) (k : Nat) : ∀ (i : Int), (cT S 5 - i).toNat < k → (0 ≤ i ∧ i ≤ cT S 5) → (0 ≤ fI i (fun u n => n + b2i (¬ cTow S u g = -1)) 0 ∧ fI i (fun u n => n + b2i (¬ cTow S u g = -1)) 0 ≤ i) → At (d + 1) 125 4 [some (.inr (some t)), some (.inl g), some (.inl (fI i (fun u n => n + b2i (¬ cTow S u g = -1)) 0)), some (.inl i)] [] h (fun v h' => ∃ x, v = some (.inl x) ∧ Q x h') := by
  have hC : cod 125 = c_T_unitsUnder := rfl
  induction k with
  | zero =>
    intro i hk
    exact absurd hk (Nat.not_lt_zero _)
  | succ k ih =>
    intro i hk hI0 hI1
    have h5 := hc.2.1
    have e := fI_succ (g := fun u n => n + b2i (¬ cTow S u g = -1)) (a := (0 : Int)) hI0.1
    refine x_1 (p' := 5) hC rfl rfl rfl rfl ?_
    refine x_1 (p' := 6) hC rfl rfl rfl rfl ?_
    refine z_ti (p' := 7) (kz := 5) hK hS hC rfl rfl rfl rfl ?_
    refine x_icge (p' := 8) hC rfl rfl (fun c7 => ?_) (fun c7 => ?_)
    · refine x_1 (p' := 23) hC rfl rfl rfl rfl ?_
      refine x_iret hC rfl rfl rfl ⟨_, rfl, ?_⟩
      refine eqK K ?_
      unfold cUnder
      rw [show cT S 5 = i by omega]
    · refine x_1 (p' := 9) hC rfl rfl rfl rfl ?_
      refine x_1 (p' := 10) hC rfl rfl rfl rfl ?_
      refine x_1 (p' := 11) hC rfl rfl rfl rfl ?_
      refine x_1 (p' := 12) hC rfl rfl rfl rfl ?_
      refine x_cIV2 (p' := 13) (n := 123) hC rfl rfl rfl rfl rfl (hK.ty) ?_
      refine sp_T_childToward hK hS hc (by omega) (by omega) ?_
      refine x_1 (p' := 14) hC rfl rfl rfl rfl ?_
      refine x_icne (p' := 15) hC rfl rfl (fun c14 => ?_) (fun c14 => ?_)
      · rw [b2i_t c14] at e
        refine x_1 (p' := 18) hC rfl rfl rfl rfl ?_
        refine x_add (p' := 19) hC rfl rfl rfl (⟨by omega, by omega⟩) ?_
        refine x_stI2 (p' := 20) hC rfl rfl rfl ?_
        refine x_inc3 (p' := 21) hC rfl rfl (⟨by omega, by omega⟩) ?_
        refine x_1 (p' := 4) hC rfl rfl rfl rfl ?_
        rw [← e]
        exact ih _ (by omega) (by omega) (by omega)
      · rw [b2i_f (fun q => q c14)] at e
        refine x_1 (p' := 16) hC rfl rfl rfl rfl ?_
        refine x_1 (p' := 18) hC rfl rfl rfl rfl ?_
        refine x_add (p' := 19) hC rfl rfl rfl (⟨by omega, by omega⟩) ?_
        refine x_stI2 (p' := 20) hC rfl rfl rfl ?_
        refine x_inc3 (p' := 21) hC rfl rfl (⟨by omega, by omega⟩) ?_
        refine x_1 (p' := 4) hC rfl rfl rfl rfl ?_
        rw [← e]
        exact ih _ (by omega) (by omega) (by omega)
set_option maxRecDepth 20000 in
set_option maxHeartbeats 2000000 in
theorem sp_T_unitsUnder {d : Nat} {h : HP} {t : Nat} (hK : SkT t h) {S : Nat → Int → Int} (hS : ∀ n, n < 80 → hI h (t + n) = S n) (hc : CI S) {g : Int} (hg : 0 ≤ g) {Q : Int → HP → Prop} (K : Q (cUnder S g) h) : CaI (d + 1) 125 [.inr (some t), .inl g] h Q := by
  have hC : cod 125 = c_T_unitsUnder := rfl
  refine CaI.start rfl ?_
  have h4 := hc.1
  have h5 := hc.2.1
  refine x_1 (p' := 1) hC rfl rfl rfl rfl ?_
  refine x_stI2 (p' := 2) hC rfl rfl rfl ?_
  refine x_1 (p' := 3) hC rfl rfl rfl rfl ?_
  refine x_stI3 (p' := 4) hC rfl rfl rfl ?_
  exact lp_T_under hK hS hc hg K _ 0 (Nat.lt_succ_self _) (by omega) (by rw [fI_0]; omega)
set_option maxRecDepth 20000 in
set_option maxHeartbeats 2000000 in
theorem sp_T_unitsLeft {d : Nat} {h : HP} {t : Nat} (hK : SkT t h) {S : Nat → Int → Int} (hS : ∀ n, n < 80 → hI h (t + n) = S n) (hc : CI S) {Q : Int → HP → Prop} (K : Q (cUnder S 0) h) : CaI (d + 2) 126 [.inr (some t)] h Q := by
  have hC : cod 126 = c_T_unitsLeft := rfl
  refine CaI.start rfl ?_
  refine x_1 (p' := 1) hC rfl rfl rfl rfl ?_
  refine x_1 (p' := 2) hC rfl rfl rfl rfl ?_
  refine x_cIV1 (p' := 3) (n := 125) hC rfl rfl rfl rfl rfl (hK.ty) ?_
  refine sp_T_unitsUnder hK hS hc (by omega) ?_
  refine x_iret hC rfl rfl rfl ⟨_, rfl, ?_⟩
  exact K
set_option maxRecDepth 20000 in
theorem lp_T_uoh {d : Nat} {h : HP} {t : Nat} (hK : SkT t h) {S : Nat → Int → Int} (hS : ∀ n, n < 80 → hI h (t + n) = S n) (hc : CI S) {g x : Int} (hg : 0 ≤ g) {res : Int} {Q : Int → HP → Prop} (K : Q res h) (k : Nat) : ∀ (a : Int) (u : Int), (cT S 5 - u).toNat < k → (0 ≤ u ∧ u ≤ cT S 5) → (0 ≤ a ∧ a ≤ u) → (∃ n : Nat, cT S 5 < n + u ∧ cUA S g x n u a = res) → At (d + 1) 127 4 [some (.inr (some t)), some (.inl g), some (.inl x), some (.inl a), some (.inl u)] [] h (fun v h' => ∃ x, v = some (.inl x) ∧ Q x h') := by
  have hC : cod 127 = c_T_unitOfHub := rfl
  induction k with
  | zero =>
    intro a u hk
    exact absurd hk (Nat.not_lt_zero _)
  | succ k ih =>
    intro a u hk hI0 hI1 hI2
    have h5 := hc.2.1
    obtain ⟨n, hn, hT⟩ := hI2
    obtain ⟨j, rfl⟩ : ∃ j, n = j + 1 := ⟨n - 1, by omega⟩
    rw [cUA] at hT
    refine x_1 (p' := 5) hC rfl rfl rfl rfl ?_
    refine x_1 (p' := 6) hC rfl rfl rfl rfl ?_
    refine z_ti (p' := 7) (kz := 5) hK hS hC rfl rfl rfl rfl ?_
    refine x_icge (p' := 8) hC rfl rfl (fun c7 => ?_) (fun c7 => ?_)
    · refine x_ldc (p' := 23) (v := (-1000004)) hC rfl rfl (by decide) ?_
      refine x_iret hC rfl rfl rfl ⟨_, rfl, ?_⟩
      refine eqK K ?_
      rw [← hT]
      first
        | (rw [if_pos (by omega)])
        | (rw [if_neg (by omega), if_neg c13, if_pos (by omega)])
    · refine x_1 (p' := 9) hC rfl rfl rfl rfl ?_
      refine x_1 (p' := 10) hC rfl rfl rfl rfl ?_
      refine x_1 (p' := 11) hC rfl rfl rfl rfl ?_
      refine x_cIV2 (p' := 12) (n := 123) hC rfl rfl rfl rfl rfl (hK.ty) ?_
      refine sp_T_childToward hK hS hc (by omega) (by omega) ?_
      refine x_1 (p' := 13) hC rfl rfl rfl rfl ?_
      refine x_iceq (p' := 14) hC rfl rfl (fun c13 => ?_) (fun c13 => ?_)
      · refine x_inc4 (p' := 21) hC rfl rfl (⟨by omega, by omega⟩) ?_
        refine x_1 (p' := 4) hC rfl rfl rfl rfl ?_
        first
          | (rw [if_neg (by omega), if_pos c13] at hT
             exact ih _ _ (by omega) (by omega) (by omega) ⟨j, by omega, hT⟩)
          | (rw [if_neg (by omega), if_neg c13, if_neg (by omega)] at hT
             exact ih _ _ (by omega) (by omega) (by omega) ⟨j, by omega, hT⟩)
      · refine x_1 (p' := 15) hC rfl rfl rfl rfl ?_
        refine x_inc3 (p' := 16) hC rfl rfl (⟨by omega, by omega⟩) ?_
        refine x_1 (p' := 17) hC rfl rfl rfl rfl ?_
        refine x_icne (p' := 18) hC rfl rfl (fun c17 => ?_) (fun c17 => ?_)
        · refine x_inc4 (p' := 21) hC rfl rfl (⟨by omega, by omega⟩) ?_
          refine x_1 (p' := 4) hC rfl rfl rfl rfl ?_
          first
            | (rw [if_neg (by omega), if_pos c13] at hT
               exact ih _ _ (by omega) (by omega) (by omega) ⟨j, by omega, hT⟩)
            | (rw [if_neg (by omega), if_neg c13, if_neg (by omega)] at hT
               exact ih _ _ (by omega) (by omega) (by omega) ⟨j, by omega, hT⟩)
        · refine x_1 (p' := 19) hC rfl rfl rfl rfl ?_
          refine x_iret hC rfl rfl rfl ⟨_, rfl, ?_⟩
          refine eqK K ?_
          rw [← hT]
          first
            | (rw [if_pos (by omega)])
            | (rw [if_neg (by omega), if_neg c13, if_pos (by omega)])
set_option maxRecDepth 20000 in
set_option maxHeartbeats 2000000 in
theorem sp_T_unitOfHub {d : Nat} {h : HP} {t : Nat} (hK : SkT t h) {S : Nat → Int → Int} (hS : ∀ n, n < 80 → hI h (t + n) = S n) (hc : CI S) {g x : Int} (hg : 0 ≤ g) {Q : Int → HP → Prop} (K : Q (cUA S g x 11 0 0) h) : CaI (d + 1) 127 [.inr (some t), .inl g, .inl x] h Q := by
  have hC : cod 127 = c_T_unitOfHub := rfl
  refine CaI.start rfl ?_
  have h4 := hc.1
  have h5 := hc.2.1
  refine x_1 (p' := 1) hC rfl rfl rfl rfl ?_
  refine x_stI3 (p' := 2) hC rfl rfl rfl ?_
  refine x_1 (p' := 3) hC rfl rfl rfl rfl ?_
  refine x_stI4 (p' := 4) hC rfl rfl rfl ?_
  exact lp_T_uoh hK hS hc hg K _ 0 0 (Nat.lt_succ_self _) (by omega) (by omega) ⟨11, by omega, rfl⟩
set_option maxRecDepth 20000 in
theorem lp_T_delay {d : Nat} {h : HP} {t : Nat} (hK : SkT t h) {S : Nat → Int → Int} (hS : ∀ n, n < 80 → hI h (t + n) = S n) (hc : CI S) {g : Int} {res : Int} {Q : Int → HP → Prop} (K : Q res h) (k : Nat) : ∀ (a : Int) (x : Int) (i : Int), (5 - i).toNat < k → (0 ≤ i ∧ i ≤ 5) → (x < cT S 4) → (0 ≤ a ∧ a ≤ 20 * i) → (a + cDl S (5 - i).toNat x = res) → At (d) 128 6 [some (.inr (some t)), some (.inl g), some (.inl a), some (.inl x), some (.inl i)] [] h (fun v h' => ∃ x, v = some (.inl x) ∧ Q x h') := by
  have hC : cod 128 = c_T_delayToRoot := rfl
  induction k with
  | zero =>
    intro a x i hk
    exact absurd hk (Nat.not_lt_zero _)
  | succ k ih =>
    intro a x i hk hI0 hI1 hI2 hI3
    have h4 := hc.1
    have hx := fun q => hc.2.2.1 x q hI1
    refine x_1 (p' := 7) hC rfl rfl rfl rfl ?_
    refine x_1 (p' := 8) hC rfl rfl rfl rfl ?_
    refine x_icge (p' := 9) hC rfl rfl (fun c8 => ?_) (fun c8 => ?_)
    · refine x_1 (p' := 30) hC rfl rfl rfl rfl ?_
      refine x_iret hC rfl rfl rfl ⟨_, rfl, ?_⟩
      refine eqK K ?_
      by_cases h5 : i < 5
      · rw [show (5 - i).toNat = (5 - (i + 1)).toNat + 1 by omega, cDl, if_neg (by omega)] at hI3
        omega
      · rw [show (5 - i).toNat = 0 by omega, cDl] at hI3
        omega
    · refine x_1 (p' := 10) hC rfl rfl rfl rfl ?_
      refine x_ifle (p' := 11) hC rfl rfl (fun c10 => ?_) (fun c10 => ?_)
      · refine x_1 (p' := 30) hC rfl rfl rfl rfl ?_
        refine x_iret hC rfl rfl rfl ⟨_, rfl, ?_⟩
        refine eqK K ?_
        by_cases h5 : i < 5
        · rw [show (5 - i).toNat = (5 - (i + 1)).toNat + 1 by omega, cDl, if_neg (by omega)] at hI3
          omega
        · rw [show (5 - i).toNat = 0 by omega, cDl] at hI3
          omega
      · refine x_1 (p' := 12) hC rfl rfl rfl rfl ?_
        refine x_1 (p' := 13) hC rfl rfl rfl rfl ?_
        refine z_tr (p' := 14) (n := 1) hK hC rfl rfl rfl rfl ?_
        refine x_1 (p' := 15) hC rfl rfl rfl rfl ?_
        refine z_hub (p' := 16) hK hC rfl rfl rfl (by omega) (by omega) ?_
        refine z_hr0 (p' := 17) hK (by omega) (by omega) hC rfl rfl ?_
        refine x_1 (p' := 18) hC rfl rfl rfl rfl ?_
        refine z_sl (p' := 19) hK hS (by omega) (by omega) hC rfl rfl rfl (by omega) (by omega) ?_
        have hx2 := hx (by omega)
        refine x_add (p' := 20) hC rfl rfl rfl (⟨by omega, by omega⟩) ?_
        refine x_stI2 (p' := 21) hC rfl rfl rfl ?_
        refine x_1 (p' := 22) hC rfl rfl rfl rfl ?_
        refine z_tr (p' := 23) (n := 1) hK hC rfl rfl rfl rfl ?_
        refine x_1 (p' := 24) hC rfl rfl rfl rfl ?_
        refine z_hub (p' := 25) hK hC rfl rfl rfl (by omega) (by omega) ?_
        refine z_hg (p' := 26) (kz := 3) hK hS (by omega) (by omega) hC rfl rfl rfl rfl ?_
        refine x_stI3 (p' := 27) hC rfl rfl rfl ?_
        refine x_inc4 (p' := 28) hC rfl rfl (⟨by omega, by omega⟩) ?_
        refine x_1 (p' := 6) hC rfl rfl rfl rfl ?_
        rw [show (5 - i).toNat = (5 - (i + 1)).toNat + 1 by omega, cDl, if_pos (by omega)] at hI3
        exact ih _ _ _ (by omega) (by omega) (by omega) (by omega) (by omega)
set_option maxRecDepth 20000 in
set_option maxHeartbeats 2000000 in
theorem sp_T_delayToRoot {d : Nat} {h : HP} {t : Nat} (hK : SkT t h) {S : Nat → Int → Int} (hS : ∀ n, n < 80 → hI h (t + n) = S n) (hc : CI S) {g : Int} (hg : g < cT S 4) {Q : Int → HP → Prop} (K : Q (cDl S 5 g) h) : CaI d 128 [.inr (some t), .inl g] h Q := by
  have hC : cod 128 = c_T_delayToRoot := rfl
  refine CaI.start rfl ?_
  refine x_1 (p' := 1) hC rfl rfl rfl rfl ?_
  refine x_stI2 (p' := 2) hC rfl rfl rfl ?_
  refine x_1 (p' := 3) hC rfl rfl rfl rfl ?_
  refine x_stI3 (p' := 4) hC rfl rfl rfl ?_
  refine x_1 (p' := 5) hC rfl rfl rfl rfl ?_
  refine x_stI4 (p' := 6) hC rfl rfl rfl ?_
  exact lp_T_delay hK hS hc K _ 0 g 0 (Nat.lt_succ_self _) (by omega) hg (by omega) (by rw [show (5 - (0 : Int)).toNat = 5 by decide]; omega)
set_option maxRecDepth 20000 in
set_option maxHeartbeats 2000000 in
theorem sp_T_elapseError {d : Nat} {h : HP} {t : Nat} (hK : SkT t h) {S : Nat → Int → Int} (hS : ∀ n, n < 80 → hI h (t + n) = S n) {n : Int} (ht : 0 ≤ cT S 6 ∧ cT S 6 ≤ 100000) {Q : Int → HP → Prop} (K : Q (cEla S n) h) : CaI (d + 1) 133 [.inr (some t), .inl n] h Q := by
  have hC : cod 133 = c_T_elapseError := rfl
  refine CaI.start rfl ?_
  refine x_1 (p' := 1) hC rfl rfl rfl rfl ?_
  refine x_1 (p' := 2) hC rfl rfl rfl rfl ?_
  refine x_1 (p' := 3) hC rfl rfl rfl rfl ?_
  refine x_cIS3 (p' := 4) (n := 187) hC rfl rfl rfl rfl rfl ?_
  refine sp_P_isWithin ?_
  refine x_ifne (p' := 5) hC rfl rfl (fun c4 => ?_) (fun c4 => ?_)
  · have c4 := b2i_n0.mp c4
    refine x_1 (p' := 8) hC rfl rfl rfl rfl ?_
    refine z_ti (p' := 9) (kz := 6) hK hS hC rfl rfl rfl rfl ?_
    refine x_1 (p' := 10) hC rfl rfl rfl rfl ?_
    refine x_add (p' := 11) hC rfl rfl rfl (⟨by omega, by omega⟩) ?_
    refine x_1 (p' := 12) hC rfl rfl rfl rfl ?_
    refine x_icgt (p' := 13) hC rfl rfl (fun c12 => ?_) (fun c12 => ?_)
    · refine x_ldc (p' := 16) (v := (-1000003)) hC rfl rfl (by decide) ?_
      refine x_iret hC rfl rfl rfl ⟨_, rfl, ?_⟩
      refine eqK K ?_
      unfold cEla
      repeat (first | rw [if_pos (by omega)] | rw [if_neg (by omega)])
    · refine x_1 (p' := 14) hC rfl rfl rfl rfl ?_
      refine x_1 (p' := 16) hC rfl rfl rfl rfl ?_
      refine x_iret hC rfl rfl rfl ⟨_, rfl, ?_⟩
      refine eqK K ?_
      unfold cEla
      repeat (first | rw [if_pos (by omega)] | rw [if_neg (by omega)])
  · have c4 := b2i_0.mp c4
    refine x_ldc (p' := 6) (v := (-1000001)) hC rfl rfl (by decide) ?_
    refine x_iret hC rfl rfl rfl ⟨_, rfl, ?_⟩
    refine eqK K ?_
    unfold cEla
    repeat (first | rw [if_pos (by omega)] | rw [if_neg (by omega)])
set_option maxRecDepth 20000 in
set_option maxHeartbeats 2000000 in
theorem sp_T_departError {d : Nat} {h : HP} {t : Nat} (hK : SkT t h) {S : Nat → Int → Int} (hS : ∀ n, n < 80 → hI h (t + n) = S n) (hc : CI S) {u s v f k : Int} {Q : Int → HP → Prop} (K : Q (cDep S u s v f k) h) : CaI (d + 2) 131 [.inr (some t), .inl u, .inl s, .inl v, .inl f, .inl k] h Q := by
  have hC : cod 131 = c_T_departError := rfl
  refine CaI.start rfl ?_
  have h4 := hc.1
  have h5 := hc.2.1
  have hper := fun q => hc.2.2.2 u q
  refine x_1 (p' := 1) hC rfl rfl rfl rfl ?_
  refine x_1 (p' := 2) hC rfl rfl rfl rfl ?_
  refine x_cIV1 (p' := 3) (n := 112) hC rfl rfl rfl rfl rfl (hK.ty) ?_
  refine sp_T_hasUnit hK hS hc ?_
  refine x_ifeq (p' := 4) hC rfl rfl (fun c3 => ?_) (fun c3 => ?_)
  · have c3 := b2i_0.mp c3
    refine x_ldc (p' := 25) (v := (-1000001)) hC rfl rfl (by decide) ?_
    refine x_iret hC rfl rfl rfl ⟨_, rfl, ?_⟩
    refine eqK K ?_
    unfold cDep
    repeat (first | rw [if_pos (by omega)] | rw [if_neg (by omega)])
  · have c3 := b2i_n0.mp c3
    refine x_1 (p' := 5) hC rfl rfl rfl rfl ?_
    refine x_1 (p' := 6) hC rfl rfl rfl rfl ?_
    refine x_1 (p' := 7) hC rfl rfl rfl rfl ?_
    refine x_cIS3 (p' := 8) (n := 187) hC rfl rfl rfl rfl rfl ?_
    refine sp_P_isWithin ?_
    refine x_ifeq (p' := 9) hC rfl rfl (fun c8 => ?_) (fun c8 => ?_)
    · have c8 := b2i_0.mp c8
      refine x_ldc (p' := 25) (v := (-1000001)) hC rfl rfl (by decide) ?_
      refine x_iret hC rfl rfl rfl ⟨_, rfl, ?_⟩
      refine eqK K ?_
      unfold cDep
      repeat (first | rw [if_pos (by omega)] | rw [if_neg (by omega)])
    · have c8 := b2i_n0.mp c8
      refine x_1 (p' := 10) hC rfl rfl rfl rfl ?_
      refine x_ldc (p' := 11) (v := (-100000)) hC rfl rfl (by decide) ?_
      refine x_ldc (p' := 12) (v := 100000) hC rfl rfl (by decide) ?_
      refine x_cIS3 (p' := 13) (n := 187) hC rfl rfl rfl rfl rfl ?_
      refine sp_P_isWithin ?_
      refine x_ifeq (p' := 14) hC rfl rfl (fun c13 => ?_) (fun c13 => ?_)
      · have c13 := b2i_0.mp c13
        refine x_ldc (p' := 25) (v := (-1000001)) hC rfl rfl (by decide) ?_
        refine x_iret hC rfl rfl rfl ⟨_, rfl, ?_⟩
        refine eqK K ?_
        unfold cDep
        repeat (first | rw [if_pos (by omega)] | rw [if_neg (by omega)])
      · have c13 := b2i_n0.mp c13
        refine x_1 (p' := 15) hC rfl rfl rfl rfl ?_
        refine x_1 (p' := 16) hC rfl rfl rfl rfl ?_
        refine x_1 (p' := 17) hC rfl rfl rfl rfl ?_
        refine x_cIS3 (p' := 18) (n := 187) hC rfl rfl rfl rfl rfl ?_
        refine sp_P_isWithin ?_
        refine x_ifeq (p' := 19) hC rfl rfl (fun c18 => ?_) (fun c18 => ?_)
        · have c18 := b2i_0.mp c18
          refine x_ldc (p' := 25) (v := (-1000001)) hC rfl rfl (by decide) ?_
          refine x_iret hC rfl rfl rfl ⟨_, rfl, ?_⟩
          refine eqK K ?_
          unfold cDep
          repeat (first | rw [if_pos (by omega)] | rw [if_neg (by omega)])
        · have c18 := b2i_n0.mp c18
          refine x_1 (p' := 20) hC rfl rfl rfl rfl ?_
          refine x_1 (p' := 21) hC rfl rfl rfl rfl ?_
          refine x_1 (p' := 22) hC rfl rfl rfl rfl ?_
          refine x_cIS3 (p' := 23) (n := 187) hC rfl rfl rfl rfl rfl ?_
          refine sp_P_isWithin ?_
          refine x_ifne (p' := 24) hC rfl rfl (fun c23 => ?_) (fun c23 => ?_)
          · have c23 := b2i_n0.mp c23
            refine x_1 (p' := 27) hC rfl rfl rfl rfl ?_
            refine z_tr (p' := 28) (n := 2) hK hC rfl rfl rfl rfl ?_
            refine x_1 (p' := 29) hC rfl rfl rfl rfl ?_
            refine z_unit (p' := 30) hK hC rfl rfl rfl (by omega) (by omega) ?_
            refine z_ug (p' := 31) (kz := 2) hK hS (by omega) (by omega) hC rfl rfl rfl rfl ?_
            refine x_ifne (p' := 32) hC rfl rfl (fun c31 => ?_) (fun c31 => ?_)
            · refine x_ldc (p' := 45) (v := (-1000002)) hC rfl rfl (by decide) ?_
              refine x_iret hC rfl rfl rfl ⟨_, rfl, ?_⟩
              refine eqK K ?_
              unfold cDep
              repeat (first | rw [if_pos (by omega)] | rw [if_neg (by omega)])
            · refine x_1 (p' := 33) hC rfl rfl rfl rfl ?_
              refine x_1 (p' := 34) hC rfl rfl rfl rfl ?_
              refine z_tr (p' := 35) (n := 2) hK hC rfl rfl rfl rfl ?_
              refine x_1 (p' := 36) hC rfl rfl rfl rfl ?_
              refine z_unit (p' := 37) hK hC rfl rfl rfl (by omega) (by omega) ?_
              refine z_ug (p' := 38) (kz := 1) hK hS (by omega) (by omega) hC rfl rfl rfl rfl ?_
              refine x_cIS2 (p' := 39) (n := 188) hC rfl rfl rfl rfl rfl ?_
              have hper2 := hper (by omega) (by omega)
              refine sp_P_isMultiple (by omega) (by omega) ?_
              refine x_ifeq (p' := 40) hC rfl rfl (fun c39 => ?_) (fun c39 => ?_)
              · have c39 := b2i_0.mp c39
                refine x_ldc (p' := 45) (v := (-1000002)) hC rfl rfl (by decide) ?_
                refine x_iret hC rfl rfl rfl ⟨_, rfl, ?_⟩
                refine eqK K ?_
                unfold cDep
                repeat (first | rw [if_pos (by omega)] | rw [if_neg (by omega)])
              · have c39 := b2i_n0.mp c39
                refine x_1 (p' := 41) hC rfl rfl rfl rfl ?_
                refine x_1 (p' := 42) hC rfl rfl rfl rfl ?_
                refine z_ti (p' := 43) (kz := 6) hK hS hC rfl rfl rfl rfl ?_
                refine x_icle (p' := 44) hC rfl rfl (fun c43 => ?_) (fun c43 => ?_)
                · refine x_1 (p' := 47) hC rfl rfl rfl rfl ?_
                  refine z_tr (p' := 48) (n := 3) hK hC rfl rfl rfl rfl ?_
                  refine z_rww (p' := 49) hK hS hC rfl rfl ?_
                  refine x_1 (p' := 50) hC rfl rfl rfl rfl ?_
                  refine x_icge (p' := 51) hC rfl rfl (fun c50 => ?_) (fun c50 => ?_)
                  · refine x_ldc (p' := 54) (v := (-1000003)) hC rfl rfl (by decide) ?_
                    refine x_iret hC rfl rfl rfl ⟨_, rfl, ?_⟩
                    refine eqK K ?_
                    unfold cDep
                    repeat (first | rw [if_pos (by omega)] | rw [if_neg (by omega)])
                  · refine x_1 (p' := 52) hC rfl rfl rfl rfl ?_
                    refine x_1 (p' := 54) hC rfl rfl rfl rfl ?_
                    refine x_iret hC rfl rfl rfl ⟨_, rfl, ?_⟩
                    refine eqK K ?_
                    unfold cDep
                    repeat (first | rw [if_pos (by omega)] | rw [if_neg (by omega)])
                · refine x_ldc (p' := 45) (v := (-1000002)) hC rfl rfl (by decide) ?_
                  refine x_iret hC rfl rfl rfl ⟨_, rfl, ?_⟩
                  refine eqK K ?_
                  unfold cDep
                  repeat (first | rw [if_pos (by omega)] | rw [if_neg (by omega)])
          · have c23 := b2i_0.mp c23
            refine x_ldc (p' := 25) (v := (-1000001)) hC rfl rfl (by decide) ?_
            refine x_iret hC rfl rfl rfl ⟨_, rfl, ?_⟩
            refine eqK K ?_
            unfold cDep
            repeat (first | rw [if_pos (by omega)] | rw [if_neg (by omega)])
set_option maxRecDepth 20000 in
set_option maxHeartbeats 2000000 in
theorem sp_T_expectedOf {d : Nat} {h : HP} {t : Nat} (hK : SkT t h) {S : Nat → Int → Int} (hS : ∀ n, n < 80 → hI h (t + n) = S n) {c g s : Int} (hcc : 0 ≤ c ∧ c < 15) (hg : 0 ≤ g ∧ g < 5) (hp : 1 ≤ cPer S c ∧ cPer S c ≤ 20) (hpg : 1 ≤ cSe S g 4 ∧ cSe S g 4 ≤ 20) (hs : 0 ≤ s) {Q : Int → HP → Prop} (K : Q (cExp S g c s) h) : CaI (d + 1) 137 [.inr (some t), .inl c, .inl g, .inl s] h Q := by
  have hC : cod 137 = c_T_expectedOf := rfl
  refine CaI.start rfl ?_
  refine x_1 (p' := 1) hC rfl rfl rfl rfl ?_
  refine z_tr (p' := 2) (n := 1) hK hC rfl rfl rfl rfl ?_
  refine x_1 (p' := 3) hC rfl rfl rfl rfl ?_
  refine z_hub (p' := 4) hK hC rfl rfl rfl (by omega) (by omega) ?_
  refine z_hr0 (p' := 5) hK (by omega) (by omega) hC rfl rfl ?_
  refine x_1 (p' := 6) hC rfl rfl rfl rfl ?_
  refine z_sl (p' := 7) hK hS (by omega) (by omega) hC rfl rfl rfl (by omega) (by omega) ?_
  refine x_stI4 (p' := 8) hC rfl rfl rfl ?_
  refine x_1 (p' := 9) hC rfl rfl rfl rfl ?_
  refine x_1 (p' := 10) hC rfl rfl rfl rfl ?_
  refine x_cIV1 (p' := 11) (n := 122) hC rfl rfl rfl rfl rfl (hK.ty) ?_
  refine sp_T_periodOf hK hS (by omega) ?_
  refine x_stI5 (p' := 12) hC rfl rfl rfl ?_
  refine x_1 (p' := 13) hC rfl rfl rfl rfl ?_
  refine x_1 (p' := 14) hC rfl rfl rfl rfl ?_
  refine x_icgt (p' := 15) hC rfl rfl (fun c14 => ?_) (fun c14 => ?_)
  · refine x_1 (p' := 20) hC rfl rfl rfl rfl ?_
    refine x_1 (p' := 21) hC rfl rfl rfl rfl ?_
    refine x_cIS2 (p' := 22) (n := 188) hC rfl rfl rfl rfl rfl ?_
    refine sp_P_isMultiple (by omega) (by omega) ?_
    refine x_ifeq (p' := 23) hC rfl rfl (fun c22 => ?_) (fun c22 => ?_)
    · have c22 := b2i_0.mp c22
      refine x_1 (p' := 26) hC rfl rfl rfl rfl ?_
      refine x_iret hC rfl rfl rfl ⟨_, rfl, ?_⟩
      refine eqK K ?_
      unfold cExp
      first
        | (rw [if_pos (by omega), if_pos (by omega)]
           exact (wr_tdiv (by omega) (by omega) (by omega)).symm)
        | (rw [if_neg (by omega)]
           first
             | exact b2i_t (by omega)
             | exact b2i_f (by omega))
    · have c22 := b2i_n0.mp c22
      refine x_1 (p' := 24) hC rfl rfl rfl rfl ?_
      refine x_1 (p' := 26) hC rfl rfl rfl rfl ?_
      refine x_iret hC rfl rfl rfl ⟨_, rfl, ?_⟩
      refine eqK K ?_
      unfold cExp
      first
        | (rw [if_pos (by omega), if_pos (by omega)]
           exact (wr_tdiv (by omega) (by omega) (by omega)).symm)
        | (rw [if_neg (by omega)]
           first
             | exact b2i_t (by omega)
             | exact b2i_f (by omega))
  · refine x_1 (p' := 16) hC rfl rfl rfl rfl ?_
    refine x_1 (p' := 17) hC rfl rfl rfl rfl ?_
    refine x_cIS2 (p' := 18) (n := 189) hC rfl rfl rfl rfl rfl ?_
    refine sp_P_quotient ?_
    refine x_iret hC rfl rfl rfl ⟨_, rfl, ?_⟩
    refine eqK K ?_
    unfold cExp
    first
      | (rw [if_pos (by omega), if_pos (by omega)]
         exact (wr_tdiv (by omega) (by omega) (by omega)).symm)
      | (rw [if_neg (by omega)]
         first
           | exact b2i_t (by omega)
           | exact b2i_f (by omega))
set_option maxRecDepth 20000 in
theorem lp_T_expA {d : Nat} {h : HP} {t : Nat} (hK : SkT t h) {S : Nat → Int → Int} (hS : ∀ n, n < 80 → hI h (t + n) = S n) (hc : CI S) {g s : Int} (hg : 0 ≤ g ∧ g < cT S 4) (hs : 0 ≤ s) {Q : Int → HP → Prop} (K : Q (cExpA S g s) h) (k : Nat) : ∀ (i : Int), (15 - i).toNat < k → (0 ≤ i ∧ i ≤ 15) → (0 ≤ fI i (fun c n => n + cif (cChild S g c) (cExp S g c s) 0) 0 ∧ fI i (fun c n => n + cif (cChild S g c) (cExp S g c s) 0) 0 ≤ 20 * i) → At (d + 2) 138 4 [some (.inr (some t)), some (.inl g), some (.inl s), some (.inl (fI i (fun c n => n + cif (cChild S g c) (cExp S g c s) 0) 0)), some (.inl i)] [] h (fun v h' => ∃ x, v = some (.inl x) ∧ Q x h') := by
  have hC : cod 138 = c_T_expectedOfAll := rfl
  induction k with
  | zero =>
    intro i hk
    exact absurd hk (Nat.not_lt_zero _)
  | succ k ih =>
    intro i hk hI0 hI1
    have h4 := hc.1
    have hgg := hc.2.2.1 g hg.1 hg.2
    have e := fI_succ (g := fun c n => n + cif (cChild S g c) (cExp S g c s) 0) (a := (0 : Int)) hI0.1
    refine x_1 (p' := 5) hC rfl rfl rfl rfl ?_
    refine x_1 (p' := 6) hC rfl rfl rfl rfl ?_
    refine x_icge (p' := 7) hC rfl rfl (fun c6 => ?_) (fun c6 => ?_)
    · refine x_1 (p' := 25) hC rfl rfl rfl rfl ?_
      refine x_iret hC rfl rfl rfl ⟨_, rfl, ?_⟩
      refine eqK K ?_
      unfold cExpA
      rw [show (15 : Int) = i by omega]
    · refine x_1 (p' := 8) hC rfl rfl rfl rfl ?_
      refine x_1 (p' := 9) hC rfl rfl rfl rfl ?_
      refine x_1 (p' := 10) hC rfl rfl rfl rfl ?_
      refine x_1 (p' := 11) hC rfl rfl rfl rfl ?_
      refine x_cIV2 (p' := 12) (n := 121) hC rfl rfl rfl rfl rfl (hK.ty) ?_
      refine sp_T_isChild hK hS hc (by omega) ?_
      refine x_ifeq (p' := 13) hC rfl rfl (fun c12 => ?_) (fun c12 => ?_)
      · have c12 := b2i_0.mp c12
        rw [cif_f c12] at e
        refine x_1 (p' := 20) hC rfl rfl rfl rfl ?_
        refine x_add (p' := 21) hC rfl rfl rfl (⟨by omega, by omega⟩) ?_
        refine x_stI3 (p' := 22) hC rfl rfl rfl ?_
        refine x_inc4 (p' := 23) hC rfl rfl (⟨by omega, by omega⟩) ?_
        refine x_1 (p' := 4) hC rfl rfl rfl rfl ?_
        rw [← e]
        exact ih _ (by omega) (by omega) (by omega)
      · have c12 := b2i_n0.mp c12
        rw [cif_t c12] at e
        have hpp := cPer_child hc hI0.1 c12
        have hee := cExp_rng (g := g) (sl := s) hpp (by omega)
        refine x_1 (p' := 14) hC rfl rfl rfl rfl ?_
        refine x_1 (p' := 15) hC rfl rfl rfl rfl ?_
        refine x_1 (p' := 16) hC rfl rfl rfl rfl ?_
        refine x_1 (p' := 17) hC rfl rfl rfl rfl ?_
        refine x_cIV3 (p' := 18) (n := 137) hC rfl rfl rfl rfl rfl (hK.ty) ?_
        refine sp_T_expectedOf hK hS (by omega) (by omega) hpp (by omega) hs ?_
        refine x_1 (p' := 20) hC rfl rfl rfl rfl ?_
        refine x_add (p' := 21) hC rfl rfl rfl (⟨by omega, by omega⟩) ?_
        refine x_stI3 (p' := 22) hC rfl rfl rfl ?_
        refine x_inc4 (p' := 23) hC rfl rfl (⟨by omega, by omega⟩) ?_
        refine x_1 (p' := 4) hC rfl rfl rfl rfl ?_
        rw [← e]
        exact ih _ (by omega) (by omega) (by omega)
set_option maxRecDepth 20000 in
set_option maxHeartbeats 2000000 in
theorem sp_T_expectedOfAll {d : Nat} {h : HP} {t : Nat} (hK : SkT t h) {S : Nat → Int → Int} (hS : ∀ n, n < 80 → hI h (t + n) = S n) (hc : CI S) {g s : Int} (hg : 0 ≤ g ∧ g < cT S 4) (hs : 0 ≤ s) {Q : Int → HP → Prop} (K : Q (cExpA S g s) h) : CaI (d + 2) 138 [.inr (some t), .inl g, .inl s] h Q := by
  have hC : cod 138 = c_T_expectedOfAll := rfl
  refine CaI.start rfl ?_
  refine x_1 (p' := 1) hC rfl rfl rfl rfl ?_
  refine x_stI3 (p' := 2) hC rfl rfl rfl ?_
  refine x_1 (p' := 3) hC rfl rfl rfl rfl ?_
  refine x_stI4 (p' := 4) hC rfl rfl rfl ?_
  exact lp_T_expA hK hS hc hg hs K _ 0 (Nat.lt_succ_self _) (by omega) (by rw [fI_0]; omega)
set_option maxRecDepth 20000 in
set_option maxHeartbeats 2000000 in
theorem sp_T_outputsKept {d : Nat} {h : HP} {t : Nat} (hK : SkT t h) {S : Nat → Int → Int} (hS : ∀ n, n < 80 → hI h (t + n) = S n) {Q : Int → HP → Prop} (K : Q (cKept S) h) : CaI (d + 1) 150 [.inr (some t)] h Q := by
  have hC : cod 150 = c_T_outputsKept := rfl
  refine CaI.start rfl ?_
  refine x_1 (p' := 1) hC rfl rfl rfl rfl ?_
  refine z_ti (p' := 2) (kz := 7) hK hS hC rfl rfl rfl rfl ?_
  refine x_1 (p' := 3) hC rfl rfl rfl rfl ?_
  refine x_min (p' := 4) hC rfl rfl rfl ?_
  refine x_iret hC rfl rfl rfl ⟨_, rfl, ?_⟩
  exact K
set_option maxRecDepth 20000 in
theorem lp_T_lateOfAll {d : Nat} {h : HP} {t : Nat} (hK : SkT t h) {S : Nat → Int → Int} (hS : ∀ n, n < 80 → hI h (t + n) = S n) (hc : CI S) {Q : Int → HP → Prop} (K : Q (cSum S 6) h) (k : Nat) : ∀ (i : Int), (cT S 4 - i).toNat < k → (0 ≤ i ∧ i ≤ cT S 4) → At (d) 154 4 [some (.inr (some t)), some (.inl (fI i (fun g n => wr (n + cH S g 6)) 0)), some (.inl i)] [] h (fun v h' => ∃ x, v = some (.inl x) ∧ Q x h') := by
  have hC : cod 154 = c_T_lateOfAll := rfl
  induction k with
  | zero =>
    intro i hk
    exact absurd hk (Nat.not_lt_zero _)
  | succ k ih =>
    intro i hk hI0
    have h4 := hc.1
    have e := fI_succ (g := fun g n => wr (n + cH S g 6)) (a := (0 : Int)) hI0.1
    refine x_1 (p' := 5) hC rfl rfl rfl rfl ?_
    refine x_1 (p' := 6) hC rfl rfl rfl rfl ?_
    refine z_ti (p' := 7) (kz := 4) hK hS hC rfl rfl rfl rfl ?_
    refine x_icge (p' := 8) hC rfl rfl (fun c7 => ?_) (fun c7 => ?_)
    · refine x_1 (p' := 19) hC rfl rfl rfl rfl ?_
      refine x_iret hC rfl rfl rfl ⟨_, rfl, ?_⟩
      refine eqK K ?_
      unfold cSum
      rw [show cT S 4 = i by omega]
    · refine x_1 (p' := 9) hC rfl rfl rfl rfl ?_
      refine x_1 (p' := 10) hC rfl rfl rfl rfl ?_
      refine z_tr (p' := 11) (n := 1) hK hC rfl rfl rfl rfl ?_
      refine x_1 (p' := 12) hC rfl rfl rfl rfl ?_
      refine z_hub (p' := 13) hK hC rfl rfl rfl (by omega) (by omega) ?_
      refine z_hg (p' := 14) (kz := 6) hK hS (by omega) (by omega) hC rfl rfl rfl rfl ?_
      refine x_1 (p' := 15) hC rfl rfl rfl rfl ?_
      refine x_stI1 (p' := 16) hC rfl rfl rfl ?_
      refine x_inc2 (p' := 17) hC rfl rfl (⟨by omega, by omega⟩) ?_
      refine x_1 (p' := 4) hC rfl rfl rfl rfl ?_
      have hh := ih (i + 1) (by omega) (by omega)
      rw [e] at hh
      exact hh
set_option maxRecDepth 20000 in
set_option maxHeartbeats 2000000 in
theorem sp_T_lateOfAll {d : Nat} {h : HP} {t : Nat} (hK : SkT t h) {S : Nat → Int → Int} (hS : ∀ n, n < 80 → hI h (t + n) = S n) (hc : CI S) {Q : Int → HP → Prop} (K : Q (cSum S 6) h) : CaI d 154 [.inr (some t)] h Q := by
  have hC : cod 154 = c_T_lateOfAll := rfl
  refine CaI.start rfl ?_
  have h4 := hc.1
  have h5 := hc.2.1
  refine x_1 (p' := 1) hC rfl rfl rfl rfl ?_
  refine x_stI1 (p' := 2) hC rfl rfl rfl ?_
  refine x_1 (p' := 3) hC rfl rfl rfl rfl ?_
  refine x_stI2 (p' := 4) hC rfl rfl rfl ?_
  exact lp_T_lateOfAll hK hS hc K _ 0 (Nat.lt_succ_self _) (by omega)
set_option maxRecDepth 20000 in
theorem lp_T_doublesOfAll {d : Nat} {h : HP} {t : Nat} (hK : SkT t h) {S : Nat → Int → Int} (hS : ∀ n, n < 80 → hI h (t + n) = S n) (hc : CI S) {Q : Int → HP → Prop} (K : Q (cSum S 7) h) (k : Nat) : ∀ (i : Int), (cT S 4 - i).toNat < k → (0 ≤ i ∧ i ≤ cT S 4) → At (d) 155 4 [some (.inr (some t)), some (.inl (fI i (fun g n => wr (n + cH S g 7)) 0)), some (.inl i)] [] h (fun v h' => ∃ x, v = some (.inl x) ∧ Q x h') := by
  have hC : cod 155 = c_T_doublesOfAll := rfl
  induction k with
  | zero =>
    intro i hk
    exact absurd hk (Nat.not_lt_zero _)
  | succ k ih =>
    intro i hk hI0
    have h4 := hc.1
    have e := fI_succ (g := fun g n => wr (n + cH S g 7)) (a := (0 : Int)) hI0.1
    refine x_1 (p' := 5) hC rfl rfl rfl rfl ?_
    refine x_1 (p' := 6) hC rfl rfl rfl rfl ?_
    refine z_ti (p' := 7) (kz := 4) hK hS hC rfl rfl rfl rfl ?_
    refine x_icge (p' := 8) hC rfl rfl (fun c7 => ?_) (fun c7 => ?_)
    · refine x_1 (p' := 19) hC rfl rfl rfl rfl ?_
      refine x_iret hC rfl rfl rfl ⟨_, rfl, ?_⟩
      refine eqK K ?_
      unfold cSum
      rw [show cT S 4 = i by omega]
    · refine x_1 (p' := 9) hC rfl rfl rfl rfl ?_
      refine x_1 (p' := 10) hC rfl rfl rfl rfl ?_
      refine z_tr (p' := 11) (n := 1) hK hC rfl rfl rfl rfl ?_
      refine x_1 (p' := 12) hC rfl rfl rfl rfl ?_
      refine z_hub (p' := 13) hK hC rfl rfl rfl (by omega) (by omega) ?_
      refine z_hg (p' := 14) (kz := 7) hK hS (by omega) (by omega) hC rfl rfl rfl rfl ?_
      refine x_1 (p' := 15) hC rfl rfl rfl rfl ?_
      refine x_stI1 (p' := 16) hC rfl rfl rfl ?_
      refine x_inc2 (p' := 17) hC rfl rfl (⟨by omega, by omega⟩) ?_
      refine x_1 (p' := 4) hC rfl rfl rfl rfl ?_
      have hh := ih (i + 1) (by omega) (by omega)
      rw [e] at hh
      exact hh
set_option maxRecDepth 20000 in
set_option maxHeartbeats 2000000 in
theorem sp_T_doublesOfAll {d : Nat} {h : HP} {t : Nat} (hK : SkT t h) {S : Nat → Int → Int} (hS : ∀ n, n < 80 → hI h (t + n) = S n) (hc : CI S) {Q : Int → HP → Prop} (K : Q (cSum S 7) h) : CaI d 155 [.inr (some t)] h Q := by
  have hC : cod 155 = c_T_doublesOfAll := rfl
  refine CaI.start rfl ?_
  have h4 := hc.1
  have h5 := hc.2.1
  refine x_1 (p' := 1) hC rfl rfl rfl rfl ?_
  refine x_stI1 (p' := 2) hC rfl rfl rfl ?_
  refine x_1 (p' := 3) hC rfl rfl rfl rfl ?_
  refine x_stI2 (p' := 4) hC rfl rfl rfl ?_
  exact lp_T_doublesOfAll hK hS hc K _ 0 (Nat.lt_succ_self _) (by omega)
noncomputable def cTot (S : Nat → Int → Int) (w : Int) : Int := if w = 0 then cT S 4 else if w = 1 then cUnder S 0 else if w = 2 then cT S 6 else if w = 3 then cW S else if w = 4 then cT S 7 else if w = 5 then cKept S else if w = 6 then cSum S 6 else if w = 7 then cSum S 7 else if cT S 7 = 0 then -1000004 else cT S 8
set_option maxRecDepth 20000 in
set_option maxHeartbeats 2000000 in
theorem sp_T_total {d : Nat} {h : HP} {t : Nat} (hK : SkT t h) {S : Nat → Int → Int} (hS : ∀ n, n < 80 → hI h (t + n) = S n) (hc : CI S) {w : Int} (hw : 0 ≤ w ∧ w ≤ 8) {Q : Int → HP → Prop} (K : Q (cTot S w) h) : CaI (d + 3) 153 [.inr (some t), .inl w] h Q := by
  have hC : cod 153 = c_T_total := rfl
  refine CaI.start rfl ?_
  refine x_1 (p' := 1) hC rfl rfl rfl rfl ?_
  rcases (show (w < 0 ∨ 7 < w) ∨ w = 0 ∨ w = 1 ∨ w = 2 ∨ w = 3 ∨ w = 4 ∨ w = 5 ∨ w = 6 ∨ w = 7 by omega) with htw | htw | htw | htw | htw | htw | htw | htw | htw
  · refine x_tswt (t := 27) rfl 0 (if_pos htw) rfl ?_
    refine x_1 (p' := 28) hC rfl rfl rfl rfl ?_
    refine z_ti (p' := 29) (kz := 7) hK hS hC rfl rfl rfl rfl ?_
    refine x_ifne (p' := 30) hC rfl rfl (fun c29 => ?_) (fun c29 => ?_)
    · refine x_1 (p' := 33) hC rfl rfl rfl rfl ?_
      refine z_ti (p' := 34) (kz := 8) hK hS hC rfl rfl rfl rfl ?_
      refine x_iret hC rfl rfl rfl ⟨_, rfl, ?_⟩
      refine eqK K ?_
      unfold cTot
      repeat (first | rw [if_pos (by omega)] | rw [if_neg (by omega)])
    · refine x_ldc (p' := 31) (v := (-1000004)) hC rfl rfl (by decide) ?_
      refine x_1 (p' := 34) hC rfl rfl rfl rfl ?_
      refine x_iret hC rfl rfl rfl ⟨_, rfl, ?_⟩
      refine eqK K ?_
      unfold cTot
      repeat (first | rw [if_pos (by omega)] | rw [if_neg (by omega)])
  · refine x_tswt (t := 2) rfl 1 ((if_neg (by omega)).trans (by omega)) rfl ?_
    refine x_1 (p' := 3) hC rfl rfl rfl rfl ?_
    refine z_ti (p' := 4) (kz := 4) hK hS hC rfl rfl rfl rfl ?_
    refine x_iret hC rfl rfl rfl ⟨_, rfl, ?_⟩
    refine eqK K ?_
    unfold cTot
    repeat (first | rw [if_pos (by omega)] | rw [if_neg (by omega)])
  · refine x_tswt (t := 5) rfl 2 ((if_neg (by omega)).trans (by omega)) rfl ?_
    refine x_1 (p' := 6) hC rfl rfl rfl rfl ?_
    refine x_cIV0 (p' := 7) (n := 126) hC rfl rfl rfl rfl rfl (hK.ty) ?_
    refine sp_T_unitsLeft hK hS hc ?_
    refine x_iret hC rfl rfl rfl ⟨_, rfl, ?_⟩
    refine eqK K ?_
    unfold cTot
    repeat (first | rw [if_pos (by omega)] | rw [if_neg (by omega)])
  · refine x_tswt (t := 8) rfl 3 ((if_neg (by omega)).trans (by omega)) rfl ?_
    refine x_1 (p' := 9) hC rfl rfl rfl rfl ?_
    refine z_ti (p' := 10) (kz := 6) hK hS hC rfl rfl rfl rfl ?_
    refine x_iret hC rfl rfl rfl ⟨_, rfl, ?_⟩
    refine eqK K ?_
    unfold cTot
    repeat (first | rw [if_pos (by omega)] | rw [if_neg (by omega)])
  · refine x_tswt (t := 11) rfl 4 ((if_neg (by omega)).trans (by omega)) rfl ?_
    refine x_1 (p' := 12) hC rfl rfl rfl rfl ?_
    refine z_tr (p' := 13) (n := 3) hK hC rfl rfl rfl rfl ?_
    refine z_rww (p' := 14) hK hS hC rfl rfl ?_
    refine x_iret hC rfl rfl rfl ⟨_, rfl, ?_⟩
    refine eqK K ?_
    unfold cTot
    repeat (first | rw [if_pos (by omega)] | rw [if_neg (by omega)])
  · refine x_tswt (t := 15) rfl 5 ((if_neg (by omega)).trans (by omega)) rfl ?_
    refine x_1 (p' := 16) hC rfl rfl rfl rfl ?_
    refine z_ti (p' := 17) (kz := 7) hK hS hC rfl rfl rfl rfl ?_
    refine x_iret hC rfl rfl rfl ⟨_, rfl, ?_⟩
    refine eqK K ?_
    unfold cTot
    repeat (first | rw [if_pos (by omega)] | rw [if_neg (by omega)])
  · refine x_tswt (t := 18) rfl 6 ((if_neg (by omega)).trans (by omega)) rfl ?_
    refine x_1 (p' := 19) hC rfl rfl rfl rfl ?_
    refine x_cIV0 (p' := 20) (n := 150) hC rfl rfl rfl rfl rfl (hK.ty) ?_
    refine sp_T_outputsKept hK hS ?_
    refine x_iret hC rfl rfl rfl ⟨_, rfl, ?_⟩
    refine eqK K ?_
    unfold cTot
    repeat (first | rw [if_pos (by omega)] | rw [if_neg (by omega)])
  · refine x_tswt (t := 21) rfl 7 ((if_neg (by omega)).trans (by omega)) rfl ?_
    refine x_1 (p' := 22) hC rfl rfl rfl rfl ?_
    refine x_cIV0 (p' := 23) (n := 154) hC rfl rfl rfl rfl rfl (hK.ty) ?_
    refine sp_T_lateOfAll hK hS hc ?_
    refine x_iret hC rfl rfl rfl ⟨_, rfl, ?_⟩
    refine eqK K ?_
    unfold cTot
    repeat (first | rw [if_pos (by omega)] | rw [if_neg (by omega)])
  · refine x_tswt (t := 24) rfl 8 ((if_neg (by omega)).trans (by omega)) rfl ?_
    refine x_1 (p' := 25) hC rfl rfl rfl rfl ?_
    refine x_cIV0 (p' := 26) (n := 155) hC rfl rfl rfl rfl rfl (hK.ty) ?_
    refine sp_T_doublesOfAll hK hS hc ?_
    refine x_iret hC rfl rfl rfl ⟨_, rfl, ?_⟩
    refine eqK K ?_
    unfold cTot
    repeat (first | rw [if_pos (by omega)] | rw [if_neg (by omega)])
set_option maxRecDepth 20000 in
set_option maxHeartbeats 2000000 in
theorem sp_T_output {d : Nat} {h : HP} {t : Nat} (hK : SkT t h) {S : Nat → Int → Int} (hS : ∀ n, n < 80 → hI h (t + n) = S n) {b : Int} (ho : 0 ≤ cT S 7 ∧ cT S 7 ≤ 2000000000) {Q : Option Nat → HP → Prop} (K1 : 0 ≤ b → b < cKept S → Q (some (t + (56 + 3 * ((cT S 7 - 1 - b) % 8).toNat))) h) (K2 : ¬ (0 ≤ b ∧ b < cKept S) → Q none h) : CaR (d + 2) 151 [.inr (some t), .inl b] h Q := by
  have hC : cod 151 = c_T_output := rfl
  refine CaR.start rfl ?_
  have hk : cKept S ≤ cT S 7 ∧ cKept S ≤ 8 ∧ 0 ≤ cKept S := by
    unfold cKept e_mnF
    split <;> omega
  refine x_1 (p' := 1) hC rfl rfl rfl rfl ?_
  refine x_1 (p' := 2) hC rfl rfl rfl rfl ?_
  refine x_1 (p' := 3) hC rfl rfl rfl rfl ?_
  refine x_cIV0 (p' := 4) (n := 150) hC rfl rfl rfl rfl rfl (hK.ty) ?_
  refine sp_T_outputsKept hK hS ?_
  refine x_1 (p' := 5) hC rfl rfl rfl rfl ?_
  refine x_sub (p' := 6) hC rfl rfl rfl (⟨by omega, by omega⟩) ?_
  refine x_cIS3 (p' := 7) (n := 187) hC rfl rfl rfl rfl rfl ?_
  refine sp_P_isWithin ?_
  refine x_ifeq (p' := 8) hC rfl rfl (fun c7 => ?_) (fun c7 => ?_)
  · have c7 := b2i_0.mp c7
    refine x_1 (p' := 21) hC rfl rfl rfl rfl ?_
    refine x_aret hC rfl rfl rfl ⟨_, rfl, ?_⟩
    first
      | exact K1 (by omega) (by omega)
      | exact K2 (by omega)
  · have c7 := b2i_n0.mp c7
    refine x_1 (p' := 9) hC rfl rfl rfl rfl ?_
    refine z_tr (p' := 10) (n := 5) hK hC rfl rfl rfl rfl ?_
    refine x_1 (p' := 11) hC rfl rfl rfl rfl ?_
    refine z_ti (p' := 12) (kz := 7) hK hS hC rfl rfl rfl rfl ?_
    refine x_1 (p' := 13) hC rfl rfl rfl rfl ?_
    refine x_sub (p' := 14) hC rfl rfl rfl (⟨by omega, by omega⟩) ?_
    refine x_1 (p' := 15) hC rfl rfl rfl rfl ?_
    refine x_sub (p' := 16) hC rfl rfl rfl (⟨by omega, by omega⟩) ?_
    refine x_1 (p' := 17) hC rfl rfl rfl rfl ?_
    refine x_rem (p' := 18) hC rfl rfl rfl (by decide) ?_
    rw [wr_tmod (by omega) (by omega) (by omega)]
    refine z_out (p' := 19) hK hC rfl rfl rfl (by omega) (by omega) ?_
    refine x_1 (p' := 21) hC rfl rfl rfl rfl ?_
    refine x_aret hC rfl rfl rfl ⟨_, rfl, ?_⟩
    first
      | exact K1 (by omega) (by omega)
      | exact K2 (by omega)
noncomputable def cOutF (S : Nat → Int → Int) (i w : Int) : Int := if ¬ (0 ≤ i ∧ i < cKept S) then -1000004 else if w = 0 then SF S (56 + 3 * ((cT S 7 - 1 - i) % 8).toNat) 1 else if w = 1 then SF S (56 + 3 * ((cT S 7 - 1 - i) % 8).toNat) 3 else if w = 2 then fFlg (SF S (56 + 3 * ((cT S 7 - 1 - i) % 8).toNat)) else if w = 3 then rOnes (SF S (56 + 3 * ((cT S 7 - 1 - i) % 8).toNat) 5) else SF S (56 + 3 * ((cT S 7 - 1 - i) % 8).toNat) 4
set_option maxRecDepth 20000 in
set_option maxHeartbeats 2000000 in
theorem tl_T_outputFact {d : Nat} {h : HP} {t : Nat} (hK : SkT t h) {S : Nat → Int → Int} (hS : ∀ n, n < 80 → hI h (t + n) = S n) {i w : Int} (hi : 0 ≤ i ∧ i < cKept S) (hw : 0 ≤ w ∧ w ≤ 4) (hm : 0 ≤ SF S (56 + 3 * ((cT S 7 - 1 - i) % 8).toNat) 5 ∧ SF S (56 + 3 * ((cT S 7 - 1 - i) % 8).toNat) 5 < 1024) {Q : Int → HP → Prop} (K : Q (cOutF S i w) h) : At (d + 3) 152 4 [some (.inr (some t)), some (.inl i), some (.inl w), some (.inr (some (t + (56 + 3 * ((cT S 7 - 1 - i) % 8).toNat))))] [] h (fun v h' => ∃ x, v = some (.inl x) ∧ Q x h') := by
  have hC : cod 152 = c_T_outputFact := rfl
  have hF := hK.outp (i := (cT S 7 - 1 - i) % 8) (Int.emod_nonneg _ (by decide)) (Int.emod_lt_of_pos _ (by decide))
  have hV := SF_eq hS (n := 56 + 3 * ((cT S 7 - 1 - i) % 8).toNat) (by have := Int.emod_lt_of_pos (cT S 7 - 1 - i) (show (0 : Int) < 8 by decide); omega)
  refine x_1 (p' := 5) hC rfl rfl rfl rfl ?_
  refine x_nn (p' := 6) hC rfl rfl (fun q5 c5 => ?_) (fun c5 => ?_)
  · refine x_1 (p' := 9) hC rfl rfl rfl rfl ?_
    rcases (show (w < 0 ∨ 3 < w) ∨ w = 0 ∨ w = 1 ∨ w = 2 ∨ w = 3 by omega) with htw | htw | htw | htw | htw
    · refine x_tswt (t := 23) rfl 0 (if_pos htw) rfl ?_
      refine x_1 (p' := 24) hC rfl rfl rfl rfl ?_
      refine z_fg (p' := 25) (kz := 4) hF hV hC rfl rfl rfl rfl ?_
      refine x_iret hC rfl rfl rfl ⟨_, rfl, ?_⟩
      refine eqK K ?_
      unfold cOutF
      repeat (first | rw [if_pos (by omega)] | rw [if_neg (by omega)])
    · refine x_tswt (t := 10) rfl 1 ((if_neg (by omega)).trans (by omega)) rfl ?_
      refine x_1 (p' := 11) hC rfl rfl rfl rfl ?_
      refine z_fg (p' := 12) (kz := 1) hF hV hC rfl rfl rfl rfl ?_
      refine x_iret hC rfl rfl rfl ⟨_, rfl, ?_⟩
      refine eqK K ?_
      unfold cOutF
      repeat (first | rw [if_pos (by omega)] | rw [if_neg (by omega)])
    · refine x_tswt (t := 13) rfl 2 ((if_neg (by omega)).trans (by omega)) rfl ?_
      refine x_1 (p' := 14) hC rfl rfl rfl rfl ?_
      refine z_fg (p' := 15) (kz := 3) hF hV hC rfl rfl rfl rfl ?_
      refine x_iret hC rfl rfl rfl ⟨_, rfl, ?_⟩
      refine eqK K ?_
      unfold cOutF
      repeat (first | rw [if_pos (by omega)] | rw [if_neg (by omega)])
    · refine x_tswt (t := 16) rfl 3 ((if_neg (by omega)).trans (by omega)) rfl ?_
      refine x_1 (p' := 17) hC rfl rfl rfl rfl ?_
      refine x_cIV0 (p' := 18) (n := 87) hC rfl rfl rfl rfl rfl (hF.ty) ?_
      refine sp_F_flagsTogether hF hV ?_
      refine x_iret hC rfl rfl rfl ⟨_, rfl, ?_⟩
      refine eqK K ?_
      unfold cOutF
      repeat (first | rw [if_pos (by omega)] | rw [if_neg (by omega)])
    · refine x_tswt (t := 19) rfl 4 ((if_neg (by omega)).trans (by omega)) rfl ?_
      refine x_1 (p' := 20) hC rfl rfl rfl rfl ?_
      refine z_fg (p' := 21) (kz := 5) hF hV hC rfl rfl rfl rfl ?_
      refine x_cIS1 (p' := 22) (n := 192) hC rfl rfl rfl rfl rfl ?_
      refine sp_JI_bitCount hm ?_
      refine x_iret hC rfl rfl rfl ⟨_, rfl, ?_⟩
      refine eqK K ?_
      unfold cOutF
      repeat (first | rw [if_pos (by omega)] | rw [if_neg (by omega)])
  · exact absurd c5 (fun q => by cases q)
set_option maxRecDepth 20000 in
set_option maxHeartbeats 2000000 in
theorem sp_T_outputFact {d : Nat} {h : HP} {t : Nat} (hK : SkT t h) {S : Nat → Int → Int} (hS : ∀ n, n < 80 → hI h (t + n) = S n) {i w : Int} (ho : 0 ≤ cT S 7 ∧ cT S 7 ≤ 2000000000) (hw : 0 ≤ w ∧ w ≤ 4) (hm : ∀ j, 0 ≤ j → j < cKept S → 0 ≤ SF S (56 + 3 * ((cT S 7 - 1 - j) % 8).toNat) 5 ∧ SF S (56 + 3 * ((cT S 7 - 1 - j) % 8).toNat) 5 < 1024) {Q : Int → HP → Prop} (K : Q (cOutF S i w) h) : CaI (d + 3) 152 [.inr (some t), .inl i, .inl w] h Q := by
  have hC : cod 152 = c_T_outputFact := rfl
  refine CaI.start rfl ?_
  refine x_1 (p' := 1) hC rfl rfl rfl rfl ?_
  refine x_1 (p' := 2) hC rfl rfl rfl rfl ?_
  refine x_cRV1 (p' := 3) (n := 151) hC rfl rfl rfl rfl rfl (hK.ty) ?_
  refine sp_T_output hK hS ho (fun h0 h1 => ?_) (fun hn => ?_)
  · exact x_stA3 (p' := 4) hC rfl rfl rfl (tl_T_outputFact hK hS ⟨h0, h1⟩ hw (hm i h0 h1) K)
  refine x_stA3 (p' := 4) hC rfl rfl rfl ?_
  refine x_1 (p' := 5) hC rfl rfl rfl rfl ?_
  refine x_nn (p' := 6) hC rfl rfl (fun q5 c5 => ?_) (fun c5 => ?_)
  · exact absurd c5 (fun q => by cases q)
  · refine x_ldc (p' := 7) (v := (-1000004)) hC rfl rfl (by decide) ?_
    refine x_iret hC rfl rfl rfl ⟨_, rfl, ?_⟩
    refine eqK K ?_
    unfold cOutF
    repeat (first | rw [if_pos (by omega)] | rw [if_neg (by omega)])

/-! the reference's asking and ticks -/
theorem fI_ind {α : Type} {n : Int} {g : Int → α → α} {a : α} (P : Int → α → Prop) (hn : 0 ≤ n) (h0 : P 0 a) (hs : ∀ i x, 0 ≤ i → i < n → P i x → P (i + 1) (g i x)) : P n (fI n g a) := by
  have key : ∀ k : Nat, (k : Int) ≤ n → P k (fI (k : Int) g a) := by
    intro k
    induction k with
    | zero => intro _; exact h0
    | succ k ih =>
      intro hk
      rw [show ((k + 1 : Nat) : Int) = (k : Int) + 1 by omega, fI_succ (by omega)]
      exact hs _ _ (by omega) (by omega) (ih (by omega))
  have := key n.toNat (by omega)
  rw [Int.toNat_of_nonneg hn] at this
  exact this
/-- the kept frames' ranges -/
def RF (s : Int → Int) : Prop := ∀ f, 0 ≤ f → f < s 7 → rFr s f 0 = 2 → (0 ≤ rFr s f 1 ∧ rFr s f 1 < 5) ∧ (0 ≤ rFr s f 4 ∧ rFr s f 4 ≤ 100000) ∧ 0 ≤ rFr s f 5 ∧ rFr s f 5 ≤ 100000
theorem rBehind_at {s : Int → Int} (hs : RI s) {g sl : Int} : rBehind s g sl = -1 ∨ ∃ f, 0 ≤ f ∧ f < s 7 ∧ rFr s f 0 = 2 ∧ rFr s f 1 = g ∧ sl < rFr s f 4 ∧ rBehind s g sl = rFr s f 4 := by
  unfold rBehind
  refine fI_ind (fun n b => b = -1 ∨ ∃ f, 0 ≤ f ∧ f < n ∧ rFr s f 0 = 2 ∧ rFr s f 1 = g ∧ sl < rFr s f 4 ∧ b = rFr s f 4) hs.2.2.1.1 (Or.inl rfl) (fun i x h0 h1 hx => ?_)
  rcases Classical.em (rFr s i 0 = 2 ∧ rFr s i 1 = g ∧ sl < rFr s i 4 ∧ (x < 0 ∨ rFr s i 4 < x)) with hp | hp
  · rw [cif_t hp]
    exact Or.inr ⟨i, h0, by omega, hp.1, hp.2.1, hp.2.2.1, rfl⟩
  · rw [cif_f hp]
    rcases hx with hx | ⟨f, a, b, c⟩
    · exact Or.inl hx
    · exact Or.inr ⟨f, a, by omega, c⟩
theorem rBehind_rng {s : Int → Int} (hs : RI s) (hf : RF s) {g sl : Int} : rBehind s g sl = -1 ∨ (sl < rBehind s g sl ∧ 0 ≤ rBehind s g sl ∧ rBehind s g sl ≤ 100000) := by
  rcases rBehind_at hs (g := g) (sl := sl) with h | ⟨f, a, b, c, d, e, k⟩
  · exact Or.inl h
  · have := hf f a b c
    exact Or.inr (by rw [k]; omega)
theorem rFirst_rng {s : Int → Int} (hs : RI s) (hf : RF s) {g sl : Int} : -1 ≤ rFirst s g sl ∧ rFirst s g sl ≤ 100000 := by
  unfold rFirst
  refine fI_ind (fun n b => -1 ≤ b ∧ b ≤ 100000) hs.2.2.1.1 (by omega) (fun i x h0 h1 hx => ?_)
  rcases Classical.em (rIn s i g sl ∧ (x < 0 ∨ rFr s i 5 < x)) with hp | hp
  · rw [cif_t hp]
    have := hf i h0 h1 hp.1.1
    omega
  · rw [cif_f hp]; exact hx
noncomputable def rSl (s : Int → Int) (g : Int) : Nat → Int → Int
  | 0, _ => 0
  | n + 1, sl => if rBehind s g sl < 0 then 0 else 1 + rSl s g n (rBehind s g sl)
theorem rSl_st {s : Int → Int} (hs : RI s) (hf : RF s) {g : Int} : ∀ (n k : Nat) (sl : Int), 100001 - sl ≤ n → 100001 - sl ≤ k → sl ≤ 100000 → rSl s g n sl = rSl s g k sl
  | 0, _, _, h, _, h2 => by exfalso; omega
  | _ + 1, 0, _, _, h, h2 => by exfalso; omega
  | n + 1, k + 1, sl, h1, h2, h3 => by
    unfold rSl
    rcases rBehind_rng hs hf (g := g) (sl := sl) with h | h
    · rw [if_pos (by omega), if_pos (by omega)]
    · rw [if_neg (by omega), if_neg (by omega), rSl_st hs hf n k _ (by omega) (by omega) (by omega)]
/-- how many slots of hub g lie behind sl -/
noncomputable def rSls (s : Int → Int) (g sl : Int) : Int := rSl s g (100001 - sl).toNat sl
theorem rSls_eq {s : Int → Int} (hs : RI s) (hf : RF s) {g sl : Int} (h : -1 ≤ sl ∧ sl ≤ 100000) : rSls s g sl = if rBehind s g sl < 0 then 0 else 1 + rSls s g (rBehind s g sl) := by
  unfold rSls
  rw [show (100001 - sl).toNat = (100000 - sl).toNat + 1 by omega, rSl]
  split
  · rfl
  · rename_i hb
    rcases rBehind_rng hs hf (g := g) (sl := sl) with h2 | h2
    · omega
    · rw [rSl_st hs hf _ ((100001 - rBehind s g sl).toNat) _ (by omega) (by omega) (by omega)]
set_option maxRecDepth 20000 in
theorem lp_m_slots {d : Nat} {m : Nat} {h : HP} (hO : RO m h) {X : Nat → Int → Int} (hs : RI (X 1)) (hf : RF (X 1)) {g : Int} {Q : Int → HP → Prop} (K : Q (rSls (X 1) g (-1)) (wX m h X)) (k : Nat) : ∀ (n : Int) (sl : Int), (100001 - sl).toNat < k → (-1 ≤ sl ∧ sl ≤ 100000) → (0 ≤ n ∧ n ≤ sl + 1) → (n + rSls (X 1) g sl = rSls (X 1) g (-1)) → At (d + 2) 35 7 [some (.inr (some m)), some (.inl g), some (.inl n), some (.inl (rBehind (X 1) g sl))] [] (wX m h X) (fun v h' => ∃ x, v = some (.inl x) ∧ Q x h') := by
  have hC : cod 35 = c_m_slots := rfl
  induction k with
  | zero =>
    intro n sl hk
    exact absurd hk (Nat.not_lt_zero _)
  | succ k ih =>
    intro n sl hk hI0 hI1 hI2
    have hb := rBehind_rng hs hf (g := g) (sl := sl)
    have hq := rSls_eq hs hf (g := g) hI0
    refine x_1 (p' := 8) hC rfl rfl rfl rfl ?_
    refine x_iflt (p' := 9) hC rfl rfl (fun c8 => ?_) (fun c8 => ?_)
    · refine x_1 (p' := 17) hC rfl rfl rfl rfl ?_
      refine x_iret hC rfl rfl rfl ⟨_, rfl, ?_⟩
      refine eqK K ?_
      rw [if_pos (by omega)] at hq
      omega
    · refine x_inc2 (p' := 10) hC rfl rfl (⟨by omega, by omega⟩) ?_
      refine x_1 (p' := 11) hC rfl rfl rfl rfl ?_
      refine x_1 (p' := 12) hC rfl rfl rfl rfl ?_
      refine x_1 (p' := 13) hC rfl rfl rfl rfl ?_
      refine x_cIV2 (p' := 14) (n := 34) hC rfl rfl rfl rfl rfl (hO.ty) ?_
      refine sp_m_behind hO hs ?_
      refine x_stI3 (p' := 15) hC rfl rfl rfl ?_
      refine x_1 (p' := 7) hC rfl rfl rfl rfl ?_
      refine ih _ _ (by omega) (by omega) (by omega) ?_
      rw [if_neg (by omega)] at hq
      omega
set_option maxRecDepth 20000 in
set_option maxHeartbeats 2000000 in
theorem sp_m_slots {d : Nat} {m : Nat} {h : HP} (hO : RO m h) {X : Nat → Int → Int} (hs : RI (X 1)) (hf : RF (X 1)) {g : Int} {Q : Int → HP → Prop} (K : Q (rSls (X 1) g (-1)) (wX m h X)) : CaI (d + 2) 35 [.inr (some m), .inl g] (wX m h X) Q := by
  have hC : cod 35 = c_m_slots := rfl
  refine CaI.start rfl ?_
  refine x_1 (p' := 1) hC rfl rfl rfl rfl ?_
  refine x_stI2 (p' := 2) hC rfl rfl rfl ?_
  refine x_1 (p' := 3) hC rfl rfl rfl rfl ?_
  refine x_1 (p' := 4) hC rfl rfl rfl rfl ?_
  refine x_1 (p' := 5) hC rfl rfl rfl rfl ?_
  refine x_cIV2 (p' := 6) (n := 34) hC rfl rfl rfl rfl rfl (hO.ty) ?_
  refine sp_m_behind hO hs ?_
  refine x_stI3 (p' := 7) hC rfl rfl rfl ?_
  exact lp_m_slots hO hs hf K _ 0 (-1) (Nat.lt_succ_self _) (by omega) (by omega) (by omega)
/-- what an asked hub's state must keep to -/
def RG (s : Int → Int) (g : Int) : Prop := RI s ∧ RF s ∧ (0 ≤ g ∧ g < s 0) ∧ (g ≠ 0 → 0 ≤ rOf s g 5) ∧ (0 ≤ s 2 ∧ s 2 ≤ 100000 ∧ 0 ≤ rOf s g 3 ∧ rOf s g 3 ≤ 20) ∧ 0 ≤ rOf s g 0 ∧ rOf s g 0 ≤ 40
/-- the first slot is to be released -/
def rDue (s : Int → Int) (g : Int) : Prop := 0 ≤ rBehind s g (-1) ∧ (rCompl s g (rBehind s g (-1)) ∨ rLasts s g (rBehind s g (-1)) = 0)
set_option maxRecDepth 20000 in
theorem lp_m_asks {d : Nat} {m : Nat} {h : HP} (hO : RO m h) {g : Int} {P : Nat → (Nat → Int → Int) → Prop} (hP : ∀ k X, P k X → RG (X 1) g) (hS : ∀ k X, P k X → rDue (X 1) g → ∀ Y r, SV X Y → RAll (X 1) Y g (rBehind (X 1) g (-1)) r (X 1 1) → ∃ j, j < k ∧ P j (setS Y (rRel (X 1) g (rBehind (X 1) g (-1)) r (Y 7) (Y 8)))) {Q : HP → Prop} (hK : ∀ k X, P k X → ¬ rDue (X 1) g → Q (wX m h X)) (k : Nat) : ∀ (n : Nat) (X : Nat → Int → Int), n < k → (P n X) → At (d + 7) 53 5 [some (.inr (some m)), some (.inl g), some (.inl (rBehind (X 1) g (-1)))] [] (wX m h X) (fun v h' => v = none ∧ Q h') := by
  have hC : cod 53 = c_m_asks := rfl
  induction k with
  | zero =>
    intro n X hk
    exact absurd hk (Nat.not_lt_zero _)
  | succ k ih =>
    intro n X hk hI0
    obtain ⟨hs, hf, hg, ha, hd, hw⟩ := hP n X hI0
    have h0 := hs.1
    have hb := rBehind_rng hs hf (g := g) (sl := -1)
    refine x_1 (p' := 6) hC rfl rfl rfl rfl ?_
    refine x_iflt (p' := 7) hC rfl rfl (fun c6 => ?_) (fun c6 => ?_)
    · refine x_ret hC rfl rfl rfl ⟨rfl, ?_⟩
      refine hK n X hI0 (fun q => ?_)
      obtain ⟨q1, q2⟩ := q
      first
        | omega
        | (rcases q2 with q2 | q2
           · exact c11 q2
           · omega)
    · refine x_1 (p' := 8) hC rfl rfl rfl rfl ?_
      refine x_1 (p' := 9) hC rfl rfl rfl rfl ?_
      refine x_1 (p' := 10) hC rfl rfl rfl rfl ?_
      refine x_cIV2 (p' := 11) (n := 40) hC rfl rfl rfl rfl rfl (hO.ty) ?_
      refine sp_m_isComplete hO hs (by omega) (by omega) ?_
      refine x_ifne (p' := 12) hC rfl rfl (fun c11 => ?_) (fun c11 => ?_)
      · have c11 := b2i_n0.mp c11
        refine x_1 (p' := 18) hC rfl rfl rfl rfl ?_
        refine x_1 (p' := 19) hC rfl rfl rfl rfl ?_
        refine x_1 (p' := 20) hC rfl rfl rfl rfl ?_
        refine x_cVV2 (p' := 21) (n := 52) hC rfl rfl rfl rfl rfl (hO.ty) ?_
        refine sp_m_releases hO hs hg ha (by omega) hd ?_
        intro Y r hV hA
        obtain ⟨j, hj, hPj⟩ := hS n X hI0 ⟨by omega, by first | exact Or.inl c11 | exact Or.inr (by omega)⟩ Y r hV hA
        have hRj := hP j _ hPj
        refine x_1 (p' := 22) hC rfl rfl rfl rfl ?_
        refine x_1 (p' := 23) hC rfl rfl rfl rfl ?_
        refine x_1 (p' := 24) hC rfl rfl rfl rfl ?_
        refine x_cIV2 (p' := 25) (n := 34) hC rfl rfl rfl rfl rfl (hO.ty) ?_
        refine sp_m_behind hO hRj.1 ?_
        refine x_stI2 (p' := 26) hC rfl rfl rfl ?_
        refine x_1 (p' := 5) hC rfl rfl rfl rfl ?_
        exact ih _ _ (by omega) hPj
      · have c11 := b2i_0.mp c11
        refine x_1 (p' := 13) hC rfl rfl rfl rfl ?_
        refine x_1 (p' := 14) hC rfl rfl rfl rfl ?_
        refine x_1 (p' := 15) hC rfl rfl rfl rfl ?_
        refine x_cIV2 (p' := 16) (n := 42) hC rfl rfl rfl rfl rfl (hO.ty) ?_
        refine sp_m_lasts hO hs (by omega) hw (by omega) (rFirst_rng hs hf) (by omega) ?_
        refine x_ifne (p' := 17) hC rfl rfl (fun c16 => ?_) (fun c16 => ?_)
        · refine x_ret hC rfl rfl rfl ⟨rfl, ?_⟩
          refine hK n X hI0 (fun q => ?_)
          obtain ⟨q1, q2⟩ := q
          first
            | omega
            | (rcases q2 with q2 | q2
               · exact c11 q2
               · omega)
        · refine x_1 (p' := 18) hC rfl rfl rfl rfl ?_
          refine x_1 (p' := 19) hC rfl rfl rfl rfl ?_
          refine x_1 (p' := 20) hC rfl rfl rfl rfl ?_
          refine x_cVV2 (p' := 21) (n := 52) hC rfl rfl rfl rfl rfl (hO.ty) ?_
          refine sp_m_releases hO hs hg ha (by omega) hd ?_
          intro Y r hV hA
          obtain ⟨j, hj, hPj⟩ := hS n X hI0 ⟨by omega, by first | exact Or.inl c11 | exact Or.inr (by omega)⟩ Y r hV hA
          have hRj := hP j _ hPj
          refine x_1 (p' := 22) hC rfl rfl rfl rfl ?_
          refine x_1 (p' := 23) hC rfl rfl rfl rfl ?_
          refine x_1 (p' := 24) hC rfl rfl rfl rfl ?_
          refine x_cIV2 (p' := 25) (n := 34) hC rfl rfl rfl rfl rfl (hO.ty) ?_
          refine sp_m_behind hO hRj.1 ?_
          refine x_stI2 (p' := 26) hC rfl rfl rfl ?_
          refine x_1 (p' := 5) hC rfl rfl rfl rfl ?_
          exact ih _ _ (by omega) hPj
set_option maxRecDepth 20000 in
set_option maxHeartbeats 2000000 in
theorem sp_m_asks {d : Nat} {m : Nat} {h : HP} (hO : RO m h) {g : Int} {P : Nat → (Nat → Int → Int) → Prop} (hP : ∀ k X, P k X → RG (X 1) g) (hS : ∀ k X, P k X → rDue (X 1) g → ∀ Y r, SV X Y → RAll (X 1) Y g (rBehind (X 1) g (-1)) r (X 1 1) → ∃ j, j < k ∧ P j (setS Y (rRel (X 1) g (rBehind (X 1) g (-1)) r (Y 7) (Y 8)))) {Q : HP → Prop} (hK : ∀ k X, P k X → ¬ rDue (X 1) g → Q (wX m h X)) {n : Nat} {X : Nat → Int → Int} (hX : P n X) : CaV (d + 7) 53 [.inr (some m), .inl g] (wX m h X) Q := by
  have hC : cod 53 = c_m_asks := rfl
  refine CaV.start rfl ?_
  have hs := (hP n X hX).1
  refine x_1 (p' := 1) hC rfl rfl rfl rfl ?_
  refine x_1 (p' := 2) hC rfl rfl rfl rfl ?_
  refine x_1 (p' := 3) hC rfl rfl rfl rfl ?_
  refine x_cIV2 (p' := 4) (n := 34) hC rfl rfl rfl rfl rfl (hO.ty) ?_
  refine sp_m_behind hO hs ?_
  refine x_stI2 (p' := 5) hC rfl rfl rfl ?_
  exact lp_m_asks hO hP hS hK _ n X (Nat.lt_succ_self _) hX

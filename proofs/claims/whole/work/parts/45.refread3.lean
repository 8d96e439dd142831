/-! the reference's readings -/
def setA (X : Nat → Int → Int) (i : Nat) (g : Int → Int) : Nat → Int → Int := fun a => if a = i then g else X a
theorem setA_eq {X : Nat → Int → Int} {i : Nat} {g : Int → Int} : setA X i g i = g := if_pos rfl
theorem setA_ne {X : Nat → Int → Int} {i a : Nat} {g : Int → Int} (h : a ≠ i) : setA X i g a = X a := if_neg h
theorem setA_setA {X : Nat → Int → Int} {i : Nat} {g g' : Int → Int} : setA (setA X i g) i g' = setA X i g' := by funext a; unfold setA; split <;> rfl
theorem setA_id {X : Nat → Int → Int} {i : Nat} : setA X i (X i) = X := by
  funext a
  unfold setA
  split
  · rename_i h; rw [h]
  · rfl
theorem upX_A {X : Nat → Int → Int} {i : Nat} {j v : Int} : upX X i j v = setA X i (ups (X i) j v) := by
  funext a b
  unfold upX setA ups
  by_cases h : a = i
  · subst h; simp
  · simp [h]
/-- only the reading of unit u, the row to sort and its count may differ -/
def SU (X X' : Nat → Int → Int) (u : Int) : Prop := (∀ a, a ≠ 7 → a ≠ 8 → a ≠ 9 → a ≠ 0 → X' a = X a) ∧ (∀ k, k ≠ 13 → X' 0 k = X 0 k) ∧ ∀ b, b ≠ u → X' 7 b = X 7 b ∧ X' 8 b = X 8 b
theorem SU.refl {X : Nat → Int → Int} {u : Int} : SU X X u := ⟨fun _ _ _ _ _ => rfl, fun _ _ => rfl, fun _ _ => ⟨rfl, rfl⟩⟩
theorem SU.trans {X Y Z : Nat → Int → Int} {u : Int} (h : SU X Y u) (g : SU Y Z u) : SU X Z u :=
  ⟨fun a h1 h2 h3 h4 => (g.1 a h1 h2 h3 h4).trans (h.1 a h1 h2 h3 h4), fun k hk => (g.2.1 k hk).trans (h.2.1 k hk), fun b hb => ⟨(g.2.2 b hb).1.trans (h.2.2 b hb).1, (g.2.2 b hb).2.trans (h.2.2 b hb).2⟩⟩
theorem SU.up78 {X : Nat → Int → Int} {u v : Int} {i : Nat} (hi : i = 7 ∨ i = 8) : SU X (upX X i u v) u := by
  refine ⟨fun a h1 h2 _ _ => upX_ne (by omega), fun k _ => ?_, fun b hb => ⟨?_, ?_⟩⟩
  · rw [upX_ne (by omega)]
  · unfold upX; rw [if_neg (fun q => hb q.2)]
  · unfold upX; rw [if_neg (fun q => hb q.2)]
def rBit (v u : Int) : Prop := oAnd (oShr v u) 1 = 1
def rPM (s : Int → Int) (h u c sl f : Int) : Prop := rIn s f h sl ∧ rFr s f 2 = c ∧ rFr s f 3 = sl ∧ rBit (rFr s f 6) u
set_option maxRecDepth 20000 in
theorem lp_m_plain {d : Nat} {m : Nat} {h : HP} (hO : RO m h) {X : Nat → Int → Int} (hs : RI (X 1)) {g u c sl : Int} (hu : 0 ≤ u ∧ u < 10) {Q : Int → HP → Prop} (KN : (∀ f, 0 ≤ f → f < X 1 7 → ¬ rPM (X 1) g u c sl f) → Q 0 (wX m h X)) (KS : ∀ f, 0 ≤ f → f < X 1 7 → rPM (X 1) g u c sl f → Q 1 (wX m h (upX (upX X 7 u (rFr (X 1) f (7 + u))) 8 u (rFr (X 1) f (17 + u))))) (k : Nat) : ∀ (f : Int), (X 1 7 - f).toNat < k → (0 ≤ f ∧ f ≤ X 1 7) → (∀ q, 0 ≤ q → q < f → ¬ rPM (X 1) g u c sl q) → At (d + 2) 45 2 [some (.inr (some m)), some (.inl g), some (.inl u), some (.inl c), some (.inl sl), some (.inl f)] [] (wX m h X) (fun v h' => ∃ x, v = some (.inl x) ∧ Q x h') := by
  have hC : cod 45 = c_m_plain := rfl
  induction k with
  | zero =>
    intro f hk
    exact absurd hk (Nat.not_lt_zero _)
  | succ k ih =>
    intro f hk hI0 hI1
    have hs2 := hs.2.2.1
    refine x_1 (p' := 3) hC rfl rfl rfl rfl ?_
    refine x_1 (p' := 4) hC rfl rfl rfl rfl ?_
    refine y_gR (p' := 5) (n := 1) hO hC rfl rfl rfl rfl ?_
    refine x_1 (p' := 6) hC rfl rfl rfl rfl ?_
    refine y_ld (p' := 7) (L := 15568) hO hC rfl rfl rfl rfl (by omega) (by omega) ?_
    refine x_icge (p' := 8) hC rfl rfl (fun c7 => ?_) (fun c7 => ?_)
    · refine x_1 (p' := 61) hC rfl rfl rfl rfl ?_
      refine x_zret hC rfl rfl rfl (by first | omega | exact b2i_01 _) ⟨_, rfl, ?_⟩
      exact KN (fun q h0 h1 => hI1 q h0 (by omega))
    · refine x_1 (p' := 9) hC rfl rfl rfl rfl ?_
      refine x_1 (p' := 10) hC rfl rfl rfl rfl ?_
      refine x_1 (p' := 11) hC rfl rfl rfl rfl ?_
      refine x_1 (p' := 12) hC rfl rfl rfl rfl ?_
      refine x_cIV3 (p' := 13) (n := 33) hC rfl rfl rfl rfl rfl (hO.ty) ?_
      refine sp_m_isIn hO (by omega) ?_
      refine x_ifeq (p' := 14) hC rfl rfl (fun c13 => ?_) (fun c13 => ?_)
      · have c13 := b2i_0.mp c13
        refine x_inc5 (p' := 59) hC rfl rfl (⟨by omega, by omega⟩) ?_
        refine x_1 (p' := 2) hC rfl rfl rfl rfl ?_
        refine ih _ (by omega) (by omega) (fun q h0 h1 => ?_)
        by_cases hq : q = f
        · subst hq
          unfold rPM rBit
          omega
        · exact hI1 q h0 (by omega)
      · have c13 := b2i_n0.mp c13
        refine x_1 (p' := 15) hC rfl rfl rfl rfl ?_
        refine x_1 (p' := 16) hC rfl rfl rfl rfl ?_
        refine x_1 (p' := 17) hC rfl rfl rfl rfl ?_
        refine x_cIV2 (p' := 18) (n := 5) hC rfl rfl rfl rfl rfl (hO.ty) ?_
        refine sp_m_fr hO (by omega) (by omega) ?_
        refine x_1 (p' := 19) hC rfl rfl rfl rfl ?_
        refine x_icne (p' := 20) hC rfl rfl (fun c19 => ?_) (fun c19 => ?_)
        · refine x_inc5 (p' := 59) hC rfl rfl (⟨by omega, by omega⟩) ?_
          refine x_1 (p' := 2) hC rfl rfl rfl rfl ?_
          refine ih _ (by omega) (by omega) (fun q h0 h1 => ?_)
          by_cases hq : q = f
          · subst hq
            unfold rPM rBit
            omega
          · exact hI1 q h0 (by omega)
        · refine x_1 (p' := 21) hC rfl rfl rfl rfl ?_
          refine x_1 (p' := 22) hC rfl rfl rfl rfl ?_
          refine x_1 (p' := 23) hC rfl rfl rfl rfl ?_
          refine x_cIV2 (p' := 24) (n := 5) hC rfl rfl rfl rfl rfl (hO.ty) ?_
          refine sp_m_fr hO (by omega) (by omega) ?_
          refine x_1 (p' := 25) hC rfl rfl rfl rfl ?_
          refine x_icne (p' := 26) hC rfl rfl (fun c25 => ?_) (fun c25 => ?_)
          · refine x_inc5 (p' := 59) hC rfl rfl (⟨by omega, by omega⟩) ?_
            refine x_1 (p' := 2) hC rfl rfl rfl rfl ?_
            refine ih _ (by omega) (by omega) (fun q h0 h1 => ?_)
            by_cases hq : q = f
            · subst hq
              unfold rPM rBit
              omega
            · exact hI1 q h0 (by omega)
          · refine x_1 (p' := 27) hC rfl rfl rfl rfl ?_
            refine x_1 (p' := 28) hC rfl rfl rfl rfl ?_
            refine x_1 (p' := 29) hC rfl rfl rfl rfl ?_
            refine x_cIV2 (p' := 30) (n := 5) hC rfl rfl rfl rfl rfl (hO.ty) ?_
            refine sp_m_fr hO (by omega) (by omega) ?_
            refine x_1 (p' := 31) hC rfl rfl rfl rfl ?_
            refine x_1 (p' := 32) hC rfl rfl rfl rfl ?_
            refine x_1 (p' := 33) hC rfl rfl rfl rfl ?_
            refine x_1 (p' := 34) hC rfl rfl rfl rfl ?_
            refine x_1 (p' := 35) hC rfl rfl rfl rfl ?_
            refine x_icne (p' := 36) hC rfl rfl (fun c35 => ?_) (fun c35 => ?_)
            · refine x_inc5 (p' := 59) hC rfl rfl (⟨by omega, by omega⟩) ?_
              refine x_1 (p' := 2) hC rfl rfl rfl rfl ?_
              refine ih _ (by omega) (by omega) (fun q h0 h1 => ?_)
              by_cases hq : q = f
              · subst hq
                unfold rPM rBit
                omega
              · exact hI1 q h0 (by omega)
            · refine x_1 (p' := 37) hC rfl rfl rfl rfl ?_
              refine y_gR (p' := 38) (n := 7) hO hC rfl rfl rfl rfl ?_
              refine x_1 (p' := 39) hC rfl rfl rfl rfl ?_
              refine x_1 (p' := 40) hC rfl rfl rfl rfl ?_
              refine x_1 (p' := 41) hC rfl rfl rfl rfl ?_
              refine x_1 (p' := 42) hC rfl rfl rfl rfl ?_
              refine x_1 (p' := 43) hC rfl rfl rfl rfl ?_
              refine x_add (p' := 44) hC rfl rfl rfl (⟨by omega, by omega⟩) ?_
              refine x_cIV2 (p' := 45) (n := 5) hC rfl rfl rfl rfl rfl (hO.ty) ?_
              refine sp_m_fr hO (by omega) (by omega) ?_
              
              refine y_st (p' := 46) (L := 10) hO hC rfl rfl rfl rfl (by omega) (by omega) ?_
              rw [show upX X 7 u (rFr (X 1) f (7 + u)) = setA X 7 (ups (X 7) u (rFr (X 1) f (7 + u))) from upX_A]
              refine x_1 (p' := 47) hC rfl rfl rfl rfl ?_
              refine y_gR (p' := 48) (n := 8) hO hC rfl rfl rfl rfl ?_
              refine x_1 (p' := 49) hC rfl rfl rfl rfl ?_
              refine x_1 (p' := 50) hC rfl rfl rfl rfl ?_
              refine x_1 (p' := 51) hC rfl rfl rfl rfl ?_
              refine x_1 (p' := 52) hC rfl rfl rfl rfl ?_
              refine x_1 (p' := 53) hC rfl rfl rfl rfl ?_
              refine x_add (p' := 54) hC rfl rfl rfl (⟨by omega, by omega⟩) ?_
              refine x_cIV2 (p' := 55) (n := 5) hC rfl rfl rfl rfl rfl (hO.ty) ?_
              refine sp_m_fr hO (by omega) (by omega) ?_
              rw [show setA X 7 (ups (X 7) u (rFr (X 1) f (7 + u))) 1 = X 1 from setA_ne (by decide), ← upX_A]
              refine y_st (p' := 56) (L := 10) hO hC rfl rfl rfl rfl (by omega) (by omega) ?_
              refine x_1 (p' := 57) hC rfl rfl rfl rfl ?_
              refine x_zret hC rfl rfl rfl (by first | omega | exact b2i_01 _) ⟨_, rfl, ?_⟩
              exact KS f (by omega) (by omega) (by unfold rPM rBit; omega)
set_option maxRecDepth 20000 in
set_option maxHeartbeats 2000000 in
theorem sp_m_plain {d : Nat} {m : Nat} {h : HP} (hO : RO m h) {X : Nat → Int → Int} (hs : RI (X 1)) {g u c sl : Int} (hu : 0 ≤ u ∧ u < 10) {Q : Int → HP → Prop} (KN : (∀ f, 0 ≤ f → f < X 1 7 → ¬ rPM (X 1) g u c sl f) → Q 0 (wX m h X)) (KS : ∀ f, 0 ≤ f → f < X 1 7 → rPM (X 1) g u c sl f → Q 1 (wX m h (upX (upX X 7 u (rFr (X 1) f (7 + u))) 8 u (rFr (X 1) f (17 + u))))) : CaI (d + 2) 45 [.inr (some m), .inl g, .inl u, .inl c, .inl sl] (wX m h X) Q := by
  have hC : cod 45 = c_m_plain := rfl
  refine CaI.start rfl ?_
  have hs2 := hs.2.2.1
  refine x_1 (p' := 1) hC rfl rfl rfl rfl ?_
  refine x_stI5 (p' := 2) hC rfl rfl rfl ?_
  exact lp_m_plain hO hs hu KN KS _ _ (Nat.lt_succ_self _) (by omega) (fun q h0 h1 => by omega)
theorem at_heap {d n p : Nat} {ls : List (Option AV)} {st : List AV} {h h2 : HP} {Q : Option AV → HP → Prop} (e : h = h2) (K : At d n p ls st h2 Q) : At d n p ls st h Q := e ▸ K
/-- the first n places of a row, as a list -/
def lOf (a : Int → Int) (n : Nat) : List Int := (List.range n).map (fun (i : Nat) => a (i : Int))
theorem lOf_succ {a : Int → Int} {n : Nat} : lOf a (n + 1) = lOf a n ++ [a (n : Int)] := by unfold lOf; rw [List.range_succ, List.map_append]; rfl
theorem lOf_congr {a b : Int → Int} {n : Nat} (h : ∀ i : Nat, i < n → a i = b i) : lOf a n = lOf b n := List.map_congr_left (fun i hi => h i (List.mem_range.mp hi))
theorem lOf_len {a : Int → Int} {n : Nat} : (lOf a n).length = n := by simp [lOf]
theorem lOf_get {a : Int → Int} {n i : Nat} (h : i < n) : (lOf a n)[i]? = some (a (i : Int)) := by unfold lOf; rw [List.getElem?_map, List.getElem?_range h]; rfl
theorem lOf_split {a : Int → Int} {n p : Nat} (hp : p ≤ n) : lOf a n = lOf a p ++ (List.range (n - p)).map (fun (i : Nat) => a ((p + i : Nat) : Int)) := by
  apply List.ext_getElem?
  intro i
  by_cases h1 : i < p
  · rw [List.getElem?_append_left (by rw [lOf_len]; exact h1), lOf_get h1, lOf_get (by omega)]
  · rw [List.getElem?_append_right (by rw [lOf_len]; omega), lOf_len]
    by_cases h2 : i < n
    · rw [lOf_get h2, List.getElem?_map, List.getElem?_range (by omega)]
      simp
      congr 1
      omega
    · rw [List.getElem?_eq_none (by rw [lOf_len]; omega), List.getElem?_eq_none (by simp; omega)]
/-- a value is laid into a sorted row at its place -/
theorem lOf_ins {a b : Int → Int} {n p : Nat} {v : Int} (hp : p ≤ n) (h0 : ∀ i : Nat, i < p → b i = a i) (h1 : b p = v) (h2 : ∀ i : Nat, p ≤ i → i < n → b ((i : Int) + 1) = a i) : lOf b (n + 1) = lOf a p ++ v :: (List.range (n - p)).map (fun (i : Nat) => a ((p + i : Nat) : Int)) := by
  apply List.ext_getElem?
  intro i
  rcases (show i < p ∨ i = p ∨ (p < i ∧ i < n + 1) ∨ n + 1 ≤ i by omega) with h | h | h | h
  · rw [lOf_get (by omega), List.getElem?_append_left (by rw [lOf_len]; exact h), lOf_get h, h0 i h]
  · subst h
    rw [lOf_get (by omega), List.getElem?_append_right (by rw [lOf_len]; omega), lOf_len, Nat.sub_self, h1]
    rfl
  · rw [lOf_get h.2, List.getElem?_append_right (by rw [lOf_len]; omega), lOf_len, show i - p = (i - p - 1) + 1 by omega, List.getElem?_cons_succ, List.getElem?_map, List.getElem?_range (by omega)]
    have := h2 (i - 1) (by omega) (by omega)
    rw [show (((i - 1 : Nat) : Int) + 1) = (i : Int) by omega] at this
    rw [this]
    simp
    congr 1
    omega
  · rw [List.getElem?_eq_none (by rw [lOf_len]; exact h), List.getElem?_eq_none (by simp [lOf_len]; omega)]
def Srt (l : List Int) : Prop := l.Pairwise (fun x y => x ≤ y)
theorem ins_srt {a b : Int → Int} {n p : Nat} {v : Int} {l : List Int} (hp : p ≤ n) (h0 : ∀ i : Nat, i < p → b i = a i) (h1 : b p = v) (h2 : ∀ i : Nat, p ≤ i → i < n → b ((i : Int) + 1) = a i) (hgt : ∀ i : Nat, p ≤ i → i < n → v < a i) (hle : p = 0 ∨ a ((p : Int) - 1) ≤ v) (hs : Srt (lOf a n)) (hl : (lOf a n).Perm l) : Srt (lOf b (n + 1)) ∧ (lOf b (n + 1)).Perm (l ++ [v]) := by
  have e := lOf_ins hp h0 h1 h2
  have es := lOf_split (a := a) hp
  rw [e]
  unfold Srt at hs ⊢
  rw [es] at hs
  rw [List.pairwise_append] at hs ⊢
  obtain ⟨s1, s2, s3⟩ := hs
  have hlast : ∀ x ∈ lOf a p, x ≤ v := by
    intro x hx
    rcases hle with h | h
    · subst h; simp [lOf] at hx
    · obtain ⟨i, hi, rfl⟩ := List.mem_map.mp hx
      have hi := List.mem_range.mp hi
      rcases (show i = p - 1 ∨ i < p - 1 by omega) with h3 | h3
      · subst h3
        rw [show ((p - 1 : Nat) : Int) = (p : Int) - 1 by omega]
        exact h
      · have hpw : (lOf a p).Pairwise (fun x y => x ≤ y) := s1
        have := List.pairwise_iff_getElem.mp hpw i (p - 1) (by rw [lOf_len]; exact hi) (by rw [lOf_len]; omega) h3
        simp only [lOf, List.getElem_map, List.getElem_range] at this
        rw [show ((p - 1 : Nat) : Int) = (p : Int) - 1 by omega] at this
        omega
  have hrest : ∀ x ∈ (List.range (n - p)).map (fun (i : Nat) => a ((p + i : Nat) : Int)), v < x := by
    intro x hx
    obtain ⟨i, hi, rfl⟩ := List.mem_map.mp hx
    have hi := List.mem_range.mp hi
    exact hgt (p + i) (by omega) (by omega)
  refine ⟨⟨s1, List.pairwise_cons.mpr ⟨fun x hx => Int.le_of_lt (hrest x hx), s2⟩, fun x hx y hy => ?_⟩, ?_⟩
  · rcases List.mem_cons.mp hy with rfl | hy
    · exact hlast x hx
    · exact s3 x hx y hy
  · refine (List.perm_middle).trans ?_
    refine List.Perm.trans (List.Perm.cons v ?_) (List.perm_append_singleton v l).symm
    rw [← es]
    exact hl
def rGM (s : Int → Int) (h u c sl f : Int) : Prop := rIn s f h sl ∧ rFr s f 2 = c ∧ rBit (rFr s f 6) u
def rGT (s : Int → Int) (h u c sl al f : Int) : Prop := rGM s h u c sl f ∧ (¬ al = 0 ∨ oAnd (rFr s f (17 + u)) 1 = 0)
noncomputable def rGath (s : Int → Int) (h u c sl al n : Int) : List (Int × Int) := fI n (fun f L => cif (rGT s h u c sl al f) (L ++ [(rFr s f (7 + u), rFr s f (17 + u))]) L) []
def orAll (l : List Int) : Int := l.foldl oOr 0
theorem rGath_le (s : Int → Int) (h u c sl al : Int) (n : Nat) : (rGath s h u c sl al n).length ≤ n := by
  induction n with
  | zero => exact Nat.le_refl _
  | succ n ih =>
    unfold rGath at ih ⊢
    rw [show ((n + 1 : Nat) : Int) = (n : Int) + 1 by omega, fI_succ (by omega)]
    rcases Classical.em (rGT s h u c sl al (n : Int)) with hp | hp
    · rw [cif_t hp, List.length_append]; simp; omega
    · rw [cif_f hp]; omega
/-- the state of the gathering: what is gathered lies sorted in the row -/
def GS (X Y : Nat → Int → Int) (L : List (Int × Int)) : Prop := (∀ a, a ≠ 0 → a ≠ 9 → Y a = X a) ∧ (∀ k, k ≠ 13 → Y 0 k = X 0 k) ∧ Y 0 13 = (L.length : Nat) ∧ Srt (lOf (Y 9) L.length) ∧ (lOf (Y 9) L.length).Perm (L.map (fun q => q.1))
set_option maxRecDepth 20000 in
theorem lp_m_gathers1 {d : Nat} {m : Nat} {h : HP} (hO : RO m h) {X : Nat → Int → Int} (hs : RI (X 1)) {g u c sl al w f : Int} {z1 : Option AV} (hu : 0 ≤ u ∧ u < 10) (hf : 0 ≤ f ∧ f < 560) {n : Nat} (hn : (n : Int) < 560) {Q : Option AV → HP → Prop} (K : ∀ (p : Int) (b : Int → Int), 0 ≤ p ∧ p ≤ n → (∀ i, 0 ≤ i → i < p → b i = X 9 i) → (∀ i, p ≤ i → i < n → b (i + 1) = X 9 i ∧ rFr (X 1) f (7 + u) < X 9 i) → (p = 0 ∨ X 9 (p - 1) ≤ rFr (X 1) f (7 + u)) → At (d + 1) 46 82 [some (.inr (some m)), some (.inl g), some (.inl u), some (.inl c), some (.inl sl), some (.inl al), some (.inl w), some (.inl f), z1, some (.inl p)] [] (wX m h (setA X 9 b)) Q) (k : Nat) : ∀ (p : Int) (b : Int → Int), p.toNat < k → (0 ≤ p ∧ p ≤ n) → (∀ i, 0 ≤ i → i < p → b i = X 9 i) → (∀ i, p ≤ i → i < n → b (i + 1) = X 9 i ∧ rFr (X 1) f (7 + u) < X 9 i) → At (d + 1) 46 55 [some (.inr (some m)), some (.inl g), some (.inl u), some (.inl c), some (.inl sl), some (.inl al), some (.inl w), some (.inl f), z1, some (.inl p)] [] (wX m h (setA X 9 b)) Q := by
  have hC : cod 46 = c_m_gathers := rfl
  induction k with
  | zero =>
    intro p b hk
    exact absurd hk (Nat.not_lt_zero _)
  | succ k ih =>
    intro p b hk hI0 hI1 hI2
    have e1 : setA X 9 b 1 = X 1 := setA_ne (by decide)
    have e9 : setA X 9 b 9 = b := setA_eq
    refine x_1 (p' := 56) hC rfl rfl rfl rfl ?_
    refine x_ifle (p' := 57) hC rfl rfl (fun c56 => ?_) (fun c56 => ?_)
    · first
        | exact K p b hI0 hI1 hI2 (Or.inl (by omega))
        | exact K p b hI0 hI1 hI2 (Or.inr (by rw [← hI1 (p - 1) (by omega) (by omega)]; omega))
    · refine x_1 (p' := 58) hC rfl rfl rfl rfl ?_
      refine y_gR (p' := 59) (n := 9) hO hC rfl rfl rfl rfl ?_
      refine x_1 (p' := 60) hC rfl rfl rfl rfl ?_
      refine x_1 (p' := 61) hC rfl rfl rfl rfl ?_
      refine x_sub (p' := 62) hC rfl rfl rfl (⟨by omega, by omega⟩) ?_
      refine y_ld (p' := 63) (L := 560) hO hC rfl rfl rfl rfl (by omega) (by omega) ?_
      rw [e9]
      refine x_1 (p' := 64) hC rfl rfl rfl rfl ?_
      refine x_1 (p' := 65) hC rfl rfl rfl rfl ?_
      refine x_1 (p' := 66) hC rfl rfl rfl rfl ?_
      refine x_1 (p' := 67) hC rfl rfl rfl rfl ?_
      refine x_add (p' := 68) hC rfl rfl rfl (⟨by omega, by omega⟩) ?_
      refine x_cIV2 (p' := 69) (n := 5) hC rfl rfl rfl rfl rfl (hO.ty) ?_
      refine sp_m_fr hO (by omega) (by omega) ?_
      rw [e1]
      refine x_icle (p' := 70) hC rfl rfl (fun c69 => ?_) (fun c69 => ?_)
      · first
          | exact K p b hI0 hI1 hI2 (Or.inl (by omega))
          | exact K p b hI0 hI1 hI2 (Or.inr (by rw [← hI1 (p - 1) (by omega) (by omega)]; omega))
      · refine x_1 (p' := 71) hC rfl rfl rfl rfl ?_
        refine y_gR (p' := 72) (n := 9) hO hC rfl rfl rfl rfl ?_
        refine x_1 (p' := 73) hC rfl rfl rfl rfl ?_
        refine x_1 (p' := 74) hC rfl rfl rfl rfl ?_
        refine y_gR (p' := 75) (n := 9) hO hC rfl rfl rfl rfl ?_
        refine x_1 (p' := 76) hC rfl rfl rfl rfl ?_
        refine x_1 (p' := 77) hC rfl rfl rfl rfl ?_
        refine x_sub (p' := 78) hC rfl rfl rfl (⟨by omega, by omega⟩) ?_
        refine y_ld (p' := 79) (L := 560) hO hC rfl rfl rfl rfl (by omega) (by omega) ?_
        rw [e9]
        refine y_st (p' := 80) (L := 560) hO hC rfl rfl rfl rfl (by omega) (by omega) ?_
        refine x_inc9 (p' := 81) hC rfl rfl (⟨by omega, by omega⟩) ?_
        refine x_1 (p' := 55) hC rfl rfl rfl rfl ?_
        rw [upX_A, e9, setA_setA]
        refine ih _ _ (by omega) (by omega) (fun i h0 h1 => ?_) (fun i h0 h1 => ?_)
        · rw [ups_ne (by omega)]
          exact hI1 i h0 (by omega)
        · by_cases hi : i = p + -1
          · subst hi
            rw [ups_eq (by omega), show p + -1 = p - 1 by omega, hI1 (p - 1) (by omega) (by omega)]
            refine ⟨rfl, ?_⟩
            rw [← hI1 (p - 1) (by omega) (by omega)]
            omega
          · rw [ups_ne (by omega)]
            exact hI2 i (by omega) h1
set_option maxRecDepth 20000 in
theorem lp_m_gathers {d : Nat} {m : Nat} {h : HP} (hO : RO m h) {X : Nat → Int → Int} (hs : RI (X 1)) {g u c sl al : Int} (hu : 0 ≤ u ∧ u < 10) (hal : al = 0 ∨ al = 1) {Q : Int → HP → Prop} (K : ∀ Y, GS X Y (rGath (X 1) g u c sl al (X 1 7)) → Q (orAll ((rGath (X 1) g u c sl al (X 1 7)).map (fun q => q.2))) (wX m h Y)) (k : Nat) : ∀ (w : Int) (f : Int) (z1 : Option AV) (z2 : Option AV) (Y : Nat → Int → Int), (X 1 7 - f).toNat < k → (0 ≤ f ∧ f ≤ X 1 7) → (GS X Y (rGath (X 1) g u c sl al f)) → (w = orAll ((rGath (X 1) g u c sl al f).map (fun q => q.2))) → At (d + 2) 46 7 [some (.inr (some m)), some (.inl g), some (.inl u), some (.inl c), some (.inl sl), some (.inl al), some (.inl w), some (.inl f), z1, z2] [] (wX m h Y) (fun v h' => ∃ x, v = some (.inl x) ∧ Q x h') := by
  have hC : cod 46 = c_m_gathers := rfl
  induction k with
  | zero =>
    intro w f z1 z2 Y hk
    exact absurd hk (Nat.not_lt_zero _)
  | succ k ih =>
    intro w f z1 z2 Y hk hI0 hI1 hI2
    have hs2 := hs.2.2.1
    have eY : Y 1 = X 1 := hI1.1 1 (by decide) (by decide)
    have hY : RI (Y 1) := by rw [eY]; exact hs
    have hlen := rGath_le (X 1) g u c sl al f.toNat
    rw [Int.toNat_of_nonneg hI0.1] at hlen
    have e130 := hI1.2.2.1
    have hf7 : f < X 1 7 → f < 560 := fun q => by omega
    refine x_1 (p' := 8) hC rfl rfl rfl rfl ?_
    refine x_1 (p' := 9) hC rfl rfl rfl rfl ?_
    refine y_gR (p' := 10) (n := 1) hO hC rfl rfl rfl rfl ?_
    refine x_1 (p' := 11) hC rfl rfl rfl rfl ?_
    refine y_ld (p' := 12) (L := 15568) hO hC rfl rfl rfl rfl (by omega) (by omega) ?_
    rw [eY]
    refine x_icge (p' := 13) hC rfl rfl (fun c12 => ?_) (fun c12 => ?_)
    · refine x_1 (p' := 110) hC rfl rfl rfl rfl ?_
      refine x_iret hC rfl rfl rfl ⟨_, rfl, ?_⟩
      rw [hI2, show f = X 1 7 by omega]
      refine K Y ?_
      rw [← show f = X 1 7 by omega]
      exact hI1
    · refine x_1 (p' := 14) hC rfl rfl rfl rfl ?_
      refine x_1 (p' := 15) hC rfl rfl rfl rfl ?_
      refine x_1 (p' := 16) hC rfl rfl rfl rfl ?_
      refine x_1 (p' := 17) hC rfl rfl rfl rfl ?_
      refine x_cIV3 (p' := 18) (n := 33) hC rfl rfl rfl rfl rfl (hO.ty) ?_
      refine sp_m_isIn hO (by omega) ?_
      rw [eY]
      refine x_ifeq (p' := 19) hC rfl rfl (fun c18 => ?_) (fun c18 => ?_)
      · have c18 := b2i_0.mp c18
        refine x_1 (p' := 38) hC rfl rfl rfl rfl ?_
        refine x_stI8 (p' := 39) hC rfl rfl rfl ?_
        refine x_1 (p' := 40) hC rfl rfl rfl rfl ?_
        refine x_ifeq (p' := 41) hC rfl rfl (fun _ => ?_) (fun c => absurd c (by decide))
        refine x_inc7 (p' := 108) hC rfl rfl (⟨by omega, by omega⟩) ?_
        refine x_1 (p' := 7) hC rfl rfl rfl rfl ?_
        have eL : rGath (X 1) g u c sl al (f + 1) = rGath (X 1) g u c sl al f := by
          unfold rGath
          rw [fI_succ (by omega), cif_f (by unfold rGT rGM rBit; omega)]
        exact ih _ _ _ _ _ (by omega) (by omega) (by rw [eL]; exact hI1) (by rw [eL]; exact hI2)
      · have c18 := b2i_n0.mp c18
        
        refine x_1 (p' := 20) hC rfl rfl rfl rfl ?_
        refine x_1 (p' := 21) hC rfl rfl rfl rfl ?_
        refine x_1 (p' := 22) hC rfl rfl rfl rfl ?_
        refine x_cIV2 (p' := 23) (n := 5) hC rfl rfl rfl rfl rfl (hO.ty) ?_
        refine sp_m_fr hO (by omega) (by omega) ?_
        rw [eY]
        refine x_1 (p' := 24) hC rfl rfl rfl rfl ?_
        refine x_icne (p' := 25) hC rfl rfl (fun c24 => ?_) (fun c24 => ?_)
        · refine x_1 (p' := 38) hC rfl rfl rfl rfl ?_
          refine x_stI8 (p' := 39) hC rfl rfl rfl ?_
          refine x_1 (p' := 40) hC rfl rfl rfl rfl ?_
          refine x_ifeq (p' := 41) hC rfl rfl (fun _ => ?_) (fun c => absurd c (by decide))
          refine x_inc7 (p' := 108) hC rfl rfl (⟨by omega, by omega⟩) ?_
          refine x_1 (p' := 7) hC rfl rfl rfl rfl ?_
          have eL : rGath (X 1) g u c sl al (f + 1) = rGath (X 1) g u c sl al f := by
            unfold rGath
            rw [fI_succ (by omega), cif_f (by unfold rGT rGM rBit; omega)]
          exact ih _ _ _ _ _ (by omega) (by omega) (by rw [eL]; exact hI1) (by rw [eL]; exact hI2)
        · refine x_1 (p' := 26) hC rfl rfl rfl rfl ?_
          refine x_1 (p' := 27) hC rfl rfl rfl rfl ?_
          refine x_1 (p' := 28) hC rfl rfl rfl rfl ?_
          refine x_cIV2 (p' := 29) (n := 5) hC rfl rfl rfl rfl rfl (hO.ty) ?_
          refine sp_m_fr hO (by omega) (by omega) ?_
          rw [eY]
          refine x_1 (p' := 30) hC rfl rfl rfl rfl ?_
          refine x_1 (p' := 31) hC rfl rfl rfl rfl ?_
          refine x_1 (p' := 32) hC rfl rfl rfl rfl ?_
          refine x_1 (p' := 33) hC rfl rfl rfl rfl ?_
          refine x_1 (p' := 34) hC rfl rfl rfl rfl ?_
          refine x_icne (p' := 35) hC rfl rfl (fun c34 => ?_) (fun c34 => ?_)
          · refine x_1 (p' := 38) hC rfl rfl rfl rfl ?_
            refine x_stI8 (p' := 39) hC rfl rfl rfl ?_
            refine x_1 (p' := 40) hC rfl rfl rfl rfl ?_
            refine x_ifeq (p' := 41) hC rfl rfl (fun _ => ?_) (fun c => absurd c (by decide))
            refine x_inc7 (p' := 108) hC rfl rfl (⟨by omega, by omega⟩) ?_
            refine x_1 (p' := 7) hC rfl rfl rfl rfl ?_
            have eL : rGath (X 1) g u c sl al (f + 1) = rGath (X 1) g u c sl al f := by
              unfold rGath
              rw [fI_succ (by omega), cif_f (by unfold rGT rGM rBit; omega)]
            exact ih _ _ _ _ _ (by omega) (by omega) (by rw [eL]; exact hI1) (by rw [eL]; exact hI2)
          · refine x_1 (p' := 36) hC rfl rfl rfl rfl ?_
            refine x_1 (p' := 38) hC rfl rfl rfl rfl ?_
            refine x_stI8 (p' := 39) hC rfl rfl rfl ?_
            refine x_1 (p' := 40) hC rfl rfl rfl rfl ?_
            refine x_ifeq (p' := 41) hC rfl rfl (fun c => absurd c (by decide)) (fun _ => ?_)
            refine x_1 (p' := 42) hC rfl rfl rfl rfl ?_
            refine x_ifne (p' := 43) hC rfl rfl (fun c42 => ?_) (fun c42 => ?_)
            · refine x_1 (p' := 53) hC rfl rfl rfl rfl ?_
              refine y_gI (p' := 54) (kz := 13) hO hC rfl rfl rfl rfl ?_
              refine x_stI9 (p' := 55) hC rfl rfl rfl ?_
              rw [hI1.2.2.1]
              have hq : ∀ (F : Nat → Int → Int), Y = F → F = Y := fun _ e => e.symm
              refine at_heap (congrArg (wX m h) (setA_id (X := Y) (i := 9)).symm) ?_
              refine lp_m_gathers1 hO (X := Y) hY (n := (rGath (X 1) g u c sl al f).length) hu (by omega) (by omega) ?_ _ _ (Y 9) (Nat.lt_succ_self _) (by omega) (fun _ _ _ => rfl) (fun i h0 h1 => by omega)
              rw [eY]
              intro p b hp hb0 hb1 hple
              refine x_1 (p' := 83) hC rfl rfl rfl rfl ?_
              refine y_gR (p' := 84) (n := 9) hO hC rfl rfl rfl rfl ?_
              refine x_1 (p' := 85) hC rfl rfl rfl rfl ?_
              refine x_1 (p' := 86) hC rfl rfl rfl rfl ?_
              refine x_1 (p' := 87) hC rfl rfl rfl rfl ?_
              refine x_1 (p' := 88) hC rfl rfl rfl rfl ?_
              refine x_1 (p' := 89) hC rfl rfl rfl rfl ?_
              refine x_add (p' := 90) hC rfl rfl rfl (⟨by omega, by omega⟩) ?_
              refine x_cIV2 (p' := 91) (n := 5) hC rfl rfl rfl rfl rfl (hO.ty) ?_
              refine sp_m_fr hO (by omega) (by omega) ?_
              rw [setA_ne (i := 9) (a := 1) (by decide), eY]
              refine y_st (p' := 92) (L := 560) hO hC rfl rfl rfl rfl (by omega) (by omega) ?_
              rw [upX_A, setA_eq, setA_setA]
              generalize hb2 : ups b p (rFr (X 1) f (7 + u)) = b2
              have e13 : setA Y 9 b2 0 13 = Y 0 13 := by rw [setA_ne (by decide)]
              refine x_1 (p' := 93) hC rfl rfl rfl rfl ?_
              refine x_1 (p' := 94) hC rfl rfl rfl rfl ?_
              refine x_1 (p' := 95) hC rfl rfl rfl rfl ?_
              refine x_1 (p' := 96) hC rfl rfl rfl rfl ?_
              refine x_1 (p' := 97) hC rfl rfl rfl rfl ?_
              refine x_add (p' := 98) hC rfl rfl rfl (⟨by omega, by omega⟩) ?_
              refine x_cIV2 (p' := 99) (n := 5) hC rfl rfl rfl rfl rfl (hO.ty) ?_
              refine sp_m_fr hO (by omega) (by omega) ?_
              rw [setA_ne (i := 9) (a := 1) (by decide), eY]
              refine x_1 (p' := 100) hC rfl rfl rfl rfl ?_
              refine x_stI6 (p' := 101) hC rfl rfl rfl ?_
              refine x_1 (p' := 102) hC rfl rfl rfl rfl ?_
              refine x_1 (p' := 103) hC rfl rfl rfl rfl ?_
              refine y_gI (p' := 104) (kz := 13) hO hC rfl rfl rfl rfl ?_
              rw [e13]
              refine x_1 (p' := 105) hC rfl rfl rfl rfl ?_
              refine x_add (p' := 106) hC rfl rfl rfl (⟨by omega, by omega⟩) ?_
              refine y_pI (p' := 107) (kz := 13) hO hC rfl rfl rfl rfl ?_
              refine x_inc7 (p' := 108) hC rfl rfl (⟨by omega, by omega⟩) ?_
              refine x_1 (p' := 7) hC rfl rfl rfl rfl ?_
              rw [upX_A, show setA Y 9 b2 0 = Y 0 from setA_ne (by decide)]
              have hGT : rGT (X 1) g u c sl al f := by unfold rGT rGM rBit; omega
              have eL : rGath (X 1) g u c sl al (f + 1) = rGath (X 1) g u c sl al f ++ [(rFr (X 1) f (7 + u), rFr (X 1) f (17 + u))] := by
                unfold rGath
                rw [fI_succ (by omega), cif_t hGT]
              refine ih _ _ _ _ _ (by omega) (by omega) (by
                rw [eL]
                obtain ⟨g1, g2, g3, g4, g5⟩ := hI1
                have hlen : (rGath (X 1) g u c sl al f ++ [(rFr (X 1) f (7 + u), rFr (X 1) f (17 + u))]).length = (rGath (X 1) g u c sl al f).length + 1 := by simp
                refine ⟨fun a h0 h9 => ?_, fun k hk => ?_, ?_, ?_⟩
                · rw [setA_ne h0, setA_ne h9]; exact g1 a h0 h9
                · rw [setA_eq, ups_ne hk]; exact g2 k hk
                · rw [setA_eq, ups_eq rfl, hlen, g3]; omega
                · rw [setA_ne (by decide), setA_eq, hlen, List.map_append]
                  subst hb2
                  refine ins_srt (a := Y 9) (p := p.toNat) (by omega) (fun i hi => ?_) (by rw [Int.toNat_of_nonneg hp.1]; exact ups_eq rfl) (fun i h0 h1 => ?_) (fun i h0 h1 => ?_) ?_ g4 g5
                  · rw [ups_ne (by omega)]; exact hb0 i (by omega) (by omega)
                  · rw [ups_ne (by omega)]; exact (hb1 i (by omega) (by omega)).1
                  · exact (hb1 i (by omega) (by omega)).2
                  · rcases hple with h | h
                    · exact Or.inl (by omega)
                    · exact Or.inr (by rw [Int.toNat_of_nonneg hp.1]; exact h)) (by rw [eL, hI2]; unfold orAll; rw [List.map_append, List.foldl_append]; rfl)
            · refine x_1 (p' := 44) hC rfl rfl rfl rfl ?_
              refine x_1 (p' := 45) hC rfl rfl rfl rfl ?_
              refine x_1 (p' := 46) hC rfl rfl rfl rfl ?_
              refine x_1 (p' := 47) hC rfl rfl rfl rfl ?_
              refine x_add (p' := 48) hC rfl rfl rfl (⟨by omega, by omega⟩) ?_
              refine x_cIV2 (p' := 49) (n := 5) hC rfl rfl rfl rfl rfl (hO.ty) ?_
              refine sp_m_fr hO (by omega) (by omega) ?_
              rw [eY]
              refine x_1 (p' := 50) hC rfl rfl rfl rfl ?_
              refine x_1 (p' := 51) hC rfl rfl rfl rfl ?_
              refine x_ifne (p' := 52) hC rfl rfl (fun c51 => ?_) (fun c51 => ?_)
              · refine x_inc7 (p' := 108) hC rfl rfl (⟨by omega, by omega⟩) ?_
                refine x_1 (p' := 7) hC rfl rfl rfl rfl ?_
                have eL : rGath (X 1) g u c sl al (f + 1) = rGath (X 1) g u c sl al f := by
                  unfold rGath
                  rw [fI_succ (by omega), cif_f (by unfold rGT rGM rBit; omega)]
                exact ih _ _ _ _ _ (by omega) (by omega) (by rw [eL]; exact hI1) (by rw [eL]; exact hI2)
              · refine x_1 (p' := 53) hC rfl rfl rfl rfl ?_
                refine y_gI (p' := 54) (kz := 13) hO hC rfl rfl rfl rfl ?_
                refine x_stI9 (p' := 55) hC rfl rfl rfl ?_
                rw [hI1.2.2.1]
                have hq : ∀ (F : Nat → Int → Int), Y = F → F = Y := fun _ e => e.symm
                refine at_heap (congrArg (wX m h) (setA_id (X := Y) (i := 9)).symm) ?_
                refine lp_m_gathers1 hO (X := Y) hY (n := (rGath (X 1) g u c sl al f).length) hu (by omega) (by omega) ?_ _ _ (Y 9) (Nat.lt_succ_self _) (by omega) (fun _ _ _ => rfl) (fun i h0 h1 => by omega)
                rw [eY]
                intro p b hp hb0 hb1 hple
                refine x_1 (p' := 83) hC rfl rfl rfl rfl ?_
                refine y_gR (p' := 84) (n := 9) hO hC rfl rfl rfl rfl ?_
                refine x_1 (p' := 85) hC rfl rfl rfl rfl ?_
                refine x_1 (p' := 86) hC rfl rfl rfl rfl ?_
                refine x_1 (p' := 87) hC rfl rfl rfl rfl ?_
                refine x_1 (p' := 88) hC rfl rfl rfl rfl ?_
                refine x_1 (p' := 89) hC rfl rfl rfl rfl ?_
                refine x_add (p' := 90) hC rfl rfl rfl (⟨by omega, by omega⟩) ?_
                refine x_cIV2 (p' := 91) (n := 5) hC rfl rfl rfl rfl rfl (hO.ty) ?_
                refine sp_m_fr hO (by omega) (by omega) ?_
                rw [setA_ne (i := 9) (a := 1) (by decide), eY]
                refine y_st (p' := 92) (L := 560) hO hC rfl rfl rfl rfl (by omega) (by omega) ?_
                rw [upX_A, setA_eq, setA_setA]
                generalize hb2 : ups b p (rFr (X 1) f (7 + u)) = b2
                have e13 : setA Y 9 b2 0 13 = Y 0 13 := by rw [setA_ne (by decide)]
                refine x_1 (p' := 93) hC rfl rfl rfl rfl ?_
                refine x_1 (p' := 94) hC rfl rfl rfl rfl ?_
                refine x_1 (p' := 95) hC rfl rfl rfl rfl ?_
                refine x_1 (p' := 96) hC rfl rfl rfl rfl ?_
                refine x_1 (p' := 97) hC rfl rfl rfl rfl ?_
                refine x_add (p' := 98) hC rfl rfl rfl (⟨by omega, by omega⟩) ?_
                refine x_cIV2 (p' := 99) (n := 5) hC rfl rfl rfl rfl rfl (hO.ty) ?_
                refine sp_m_fr hO (by omega) (by omega) ?_
                rw [setA_ne (i := 9) (a := 1) (by decide), eY]
                refine x_1 (p' := 100) hC rfl rfl rfl rfl ?_
                refine x_stI6 (p' := 101) hC rfl rfl rfl ?_
                refine x_1 (p' := 102) hC rfl rfl rfl rfl ?_
                refine x_1 (p' := 103) hC rfl rfl rfl rfl ?_
                refine y_gI (p' := 104) (kz := 13) hO hC rfl rfl rfl rfl ?_
                rw [e13]
                refine x_1 (p' := 105) hC rfl rfl rfl rfl ?_
                refine x_add (p' := 106) hC rfl rfl rfl (⟨by omega, by omega⟩) ?_
                refine y_pI (p' := 107) (kz := 13) hO hC rfl rfl rfl rfl ?_
                refine x_inc7 (p' := 108) hC rfl rfl (⟨by omega, by omega⟩) ?_
                refine x_1 (p' := 7) hC rfl rfl rfl rfl ?_
                rw [upX_A, show setA Y 9 b2 0 = Y 0 from setA_ne (by decide)]
                have hGT : rGT (X 1) g u c sl al f := by unfold rGT rGM rBit; omega
                have eL : rGath (X 1) g u c sl al (f + 1) = rGath (X 1) g u c sl al f ++ [(rFr (X 1) f (7 + u), rFr (X 1) f (17 + u))] := by
                  unfold rGath
                  rw [fI_succ (by omega), cif_t hGT]
                refine ih _ _ _ _ _ (by omega) (by omega) (by
                  rw [eL]
                  obtain ⟨g1, g2, g3, g4, g5⟩ := hI1
                  have hlen : (rGath (X 1) g u c sl al f ++ [(rFr (X 1) f (7 + u), rFr (X 1) f (17 + u))]).length = (rGath (X 1) g u c sl al f).length + 1 := by simp
                  refine ⟨fun a h0 h9 => ?_, fun k hk => ?_, ?_, ?_⟩
                  · rw [setA_ne h0, setA_ne h9]; exact g1 a h0 h9
                  · rw [setA_eq, ups_ne hk]; exact g2 k hk
                  · rw [setA_eq, ups_eq rfl, hlen, g3]; omega
                  · rw [setA_ne (by decide), setA_eq, hlen, List.map_append]
                    subst hb2
                    refine ins_srt (a := Y 9) (p := p.toNat) (by omega) (fun i hi => ?_) (by rw [Int.toNat_of_nonneg hp.1]; exact ups_eq rfl) (fun i h0 h1 => ?_) (fun i h0 h1 => ?_) ?_ g4 g5
                    · rw [ups_ne (by omega)]; exact hb0 i (by omega) (by omega)
                    · rw [ups_ne (by omega)]; exact (hb1 i (by omega) (by omega)).1
                    · exact (hb1 i (by omega) (by omega)).2
                    · rcases hple with h | h
                      · exact Or.inl (by omega)
                      · exact Or.inr (by rw [Int.toNat_of_nonneg hp.1]; exact h)) (by rw [eL, hI2]; unfold orAll; rw [List.map_append, List.foldl_append]; rfl)

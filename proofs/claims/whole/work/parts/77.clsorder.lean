/-! THE CLASS: orders read and done -/
theorem key0 {x : Int} {p : Int × Int} {ps : List (Int × Int)} {n : Nat} (h : x = p.1) : e_key x (p :: ps) n = n := if_pos h
theorem key1 {x : Int} {p : Int × Int} {ps : List (Int × Int)} {n : Nat} (h : ¬ x = p.1) : e_key x (p :: ps) n = e_key x ps (n + 1) := if_neg h
theorem x_lswt {d y pos : Nat} {ls : List (Option AV)} {h : HP} {Q : Option AV → HP → Prop} {df v : Int} {ps : Array (Int × Int)} {a b w : Nat} {sw : List Nat} {r : List AV} {x : Int} (hI : (cod y)[pos]? = some (.lookupswitch df ps, v, a, b, w, sw)) (k0 : Nat) {t : Nat} (hk : e_key x ps.toList 1 = k0) (ht : sw[k0]? = some t) (K : At d y t ls r h Q) : At d y pos ls (.inl x :: r) h Q :=
  x_lsw rfl hI (fun t' ht' => by rw [hk, ht] at ht'; cases ht'; exact K) ⟨t, by rw [hk]; exact ht⟩
/-- an order stands at a: its letter c, its numbers, the next place nx -/
def OrdIs (tx : Int → Int) (L a c n0 n1 n2 nx : Int) : Prop := a < L ∧ tx a = c ∧ ((c = 109 ∧ ∃ a1 a2, NumIs tx L (a + 1) 44 n0 a1 ∧ NumIs tx L a1 44 n1 a2 ∧ ((a2 < L ∧ tx a2 = 45 ∧ ∃ x, NumIs tx L (a2 + 1) 59 x nx ∧ n2 = -x) ∨ (¬ (a2 < L ∧ tx a2 = 45) ∧ NumIs tx L a2 59 n2 nx))) ∨ ((c = 112 ∨ c = 120) ∧ NumIs tx L (a + 1) 59 n0 nx ∧ n1 = 0 ∧ n2 = 0))
theorem NumIs.lt {tx : Int → Int} {L a e x nx : Int} (h : NumIs tx L a e x nx) : a + 2 ≤ nx ∧ nx ≤ L ∧ 0 ≤ x ∧ x ≤ 9999999 := by
  obtain ⟨D, h1, h2, h3, h4, h5, h6⟩ := h
  have := dVal_rng D h2
  have := pB_le ⟨D, by omega⟩
  dsimp only at this
  omega
theorem OrdIs.lt {tx : Int → Int} {L a c n0 n1 n2 nx : Int} (h : OrdIs tx L a c n0 n1 n2 nx) : a + 3 ≤ nx ∧ nx ≤ L ∧ (0 ≤ n0 ∧ n0 ≤ 9999999) ∧ (0 ≤ n1 ∧ n1 ≤ 9999999) ∧ -9999999 ≤ n2 ∧ n2 ≤ 9999999 := by
  obtain ⟨h0, h1, h2⟩ := h
  rcases h2 with ⟨_, a1, a2, b1, b2, b3⟩ | ⟨_, b1, b2, b3⟩
  · have c1 := b1.lt
    have c2 := b2.lt
    rcases b3 with ⟨d1, d2, x, d3, d4⟩ | ⟨d1, d2⟩
    · have := d3.lt; omega
    · have := d2.lt; omega
  · have := b1.lt; omega
theorem OrdIs.uniq {tx : Int → Int} {L a c n0 n1 n2 nx c' n0' n1' n2' nx' : Int} (h : OrdIs tx L a c n0 n1 n2 nx) (h' : OrdIs tx L a c' n0' n1' n2' nx') : c = c' ∧ n0 = n0' ∧ n1 = n1' ∧ n2 = n2' ∧ nx = nx' := by
  obtain ⟨_, h1, h2⟩ := h
  obtain ⟨_, g1, g2⟩ := h'
  have hc : c = c' := h1.symm.trans g1
  subst hc
  have n44 : ¬ isDig 44 := by omega
  have n59 : ¬ isDig 59 := by omega
  rcases h2 with ⟨e1, a1, a2, b1, b2, b3⟩ | ⟨e1, b1, b2, b3⟩
  · rcases g2 with ⟨_, a1', a2', b1', b2', b3'⟩ | ⟨e2, _⟩
    · obtain ⟨u1, u2, _⟩ := b1.uniq n44 n44 b1'
      subst u2
      obtain ⟨u3, u4, _⟩ := b2.uniq n44 n44 b2'
      subst u4
      rcases b3 with ⟨d1, d2, x, d3, d4⟩ | ⟨d1, d2⟩
      · rcases b3' with ⟨_, _, x', d3', d4'⟩ | ⟨d1', _⟩
        · obtain ⟨u5, u6, _⟩ := d3.uniq n59 n59 d3'
          exact ⟨rfl, u1, u3, by rw [d4, d4', u5], u6⟩
        · exact absurd ⟨d1, d2⟩ d1'
      · rcases b3' with ⟨e3, e4, _⟩ | ⟨_, d2'⟩
        · exact absurd ⟨e3, e4⟩ d1
        · obtain ⟨u5, u6, _⟩ := d2.uniq n59 n59 d2'
          exact ⟨rfl, u1, u3, u5, u6⟩
    · rcases e2 with q | q
      · exact absurd (e1.symm.trans q) (by decide)
      · exact absurd (e1.symm.trans q) (by decide)
  · rcases g2 with ⟨e2, _⟩ | ⟨_, b1', b2', b3'⟩
    · rcases e1 with q | q
      · exact absurd (e2.symm.trans q) (by decide)
      · exact absurd (e2.symm.trans q) (by decide)
    · obtain ⟨u1, u2, _⟩ := b1.uniq n59 n59 b1'
      exact ⟨rfl, u1, b2.trans b2'.symm, b3.trans b3'.symm, u2⟩
set_option maxRecDepth 20000 in
set_option maxHeartbeats 2000000 in
theorem sp_O_readOrder {d : Nat} {G h : HP} {L A Cc D B E : Int} {tx nu : Int → Int} (hO : OT G h L A Cc D B E tx nu) (hL : 0 ≤ L ∧ L ≤ 60) (hA : 0 ≤ A) (hAL : A < L) (htx : ∀ j, 0 ≤ j → j < L → 32 ≤ tx j ∧ tx j ≤ 126) {Q : Int → HP → Prop} (K1 : ∀ n0 n1 n2 nx, OrdIs tx L A (tx A) n0 n1 n2 nx → ∀ h' nu', OT G h' L nx (tx A) D B E tx nu' → nu' 0 = n0 → (tx A = 109 → nu' 1 = n1 ∧ nu' 2 = n2) → Q 1 h') (K0 : (∀ n0 n1 n2 nx, ¬ OrdIs tx L A (tx A) n0 n1 n2 nx) → ∀ h' A' nu', OT G h' L A' (tx A) D B E tx nu' → Q 0 h') : CaI (d + 2) 161 [.inr (some 5)] h Q := by
  have hC : cod 161 = c_O_readOrder := rfl
  refine CaI.start rfl ?_
  have htA := htx A hA hAL
  refine x_1 (p' := 1) hC rfl rfl rfl rfl ?_
  refine x_1 (p' := 2) hC rfl rfl rfl rfl ?_
  refine z_og2 (p' := 3) hO hC rfl rfl ?_
  refine x_1 (p' := 4) hC rfl rfl rfl rfl ?_
  refine z_og1 (p' := 5) hO hC rfl rfl ?_
  refine x_icge (p' := 6) hC rfl rfl (fun c5 => ?_) (fun c5 => ?_)
  · exact absurd c5 (by omega)
  · refine x_1 (p' := 7) hC rfl rfl rfl rfl ?_
    refine z_or0 (p' := 8) hO hC rfl rfl ?_
    refine x_1 (p' := 9) hC rfl rfl rfl rfl ?_
    refine z_og2 (p' := 10) hO hC rfl rfl ?_
    refine z_ox (p' := 11) hO hC rfl rfl rfl (by omega) (by omega) ?_
    refine x_1 (p' := 13) hC rfl rfl rfl rfl ?_
    refine z_op3 (p' := 14) hO hC rfl rfl (by omega) (fun hO => ?_)
    refine x_1 (p' := 15) hC rfl rfl rfl rfl ?_
    refine x_1 (p' := 16) hC rfl rfl rfl rfl ?_
    refine z_og2 (p' := 17) hO hC rfl rfl ?_
    refine x_1 (p' := 18) hC rfl rfl rfl rfl ?_
    refine x_add (p' := 19) hC rfl rfl rfl (⟨by omega, by omega⟩) ?_
    refine z_op2 (p' := 20) hO hC rfl rfl (fun hO => ?_)
    refine x_1 (p' := 21) hC rfl rfl rfl rfl ?_
    refine z_og3 (p' := 22) hO hC rfl rfl ?_
    rcases (show (tx A = 109) ∨ (tx A = 112) ∨ (tx A = 120) ∨ (¬ tx A = 109 ∧ ¬ tx A = 112 ∧ ¬ tx A = 120) by omega) with hlw | hlw | hlw | hlw
    · refine x_lswt (t := 23) rfl 1 (by show e_key _ [_, _, _] 1 = _; exact key0 hlw) rfl ?_
      refine x_1 (p' := 24) hC rfl rfl rfl rfl ?_
      refine x_1 (p' := 25) hC rfl rfl rfl rfl ?_
      refine x_1 (p' := 26) hC rfl rfl rfl rfl ?_
      refine x_cIV2 (p' := 27) (n := 162) hC rfl rfl rfl rfl rfl (hO.ty) ?_
      refine sp_O_readNumber (sg := 0) hO hL (by omega) (by omega) (by omega) (Or.inl rfl) (Or.inr ⟨rfl, fun q => absurd q.1 (by omega)⟩) (fun x0 a1 hN0 h1 hO => ?_) (fun hN h1 a1 nu1 _ hO => ?_)
      rotate_left
      · refine x_ifeq (p' := 28) hC rfl rfl (fun _ => ?_) (fun c => absurd rfl c)
        refine x_1 (p' := 41) hC rfl rfl rfl rfl ?_
        refine x_zret hC rfl rfl rfl (by decide) ⟨_, rfl, ?_⟩
        refine K0 (fun n0 n1 n2 nx hq => ?_) _ _ _ hO
        rcases hq.2.2 with ⟨_, b1, b2, b3, _⟩ | ⟨e1, _⟩
        · exact hN _ _ (by rw [show A + 1 + 0 = A + 1 by omega]; exact b3)
        · omega
      have hl0 := hN0.lt
      rw [show A + 1 + 0 = A + 1 by omega] at hN0
      refine x_ifeq (p' := 28) hC rfl rfl (fun c => absurd c (by decide)) (fun _ => ?_)
      refine x_1 (p' := 29) hC rfl rfl rfl rfl ?_
      refine x_1 (p' := 30) hC rfl rfl rfl rfl ?_
      refine x_1 (p' := 31) hC rfl rfl rfl rfl ?_
      refine x_cIV2 (p' := 32) (n := 162) hC rfl rfl rfl rfl rfl (hO.ty) ?_
      refine sp_O_readNumber (sg := 0) hO hL (by omega) (by omega) (by omega) (Or.inl rfl) (Or.inr ⟨rfl, fun q => absurd q.1 (by omega)⟩) (fun x1 a2 hN1 h2 hO => ?_) (fun hN h2 a2 nu2 _ hO => ?_)
      rotate_left
      · refine x_ifeq (p' := 33) hC rfl rfl (fun _ => ?_) (fun c => absurd rfl c)
        refine x_1 (p' := 41) hC rfl rfl rfl rfl ?_
        refine x_zret hC rfl rfl rfl (by decide) ⟨_, rfl, ?_⟩
        refine K0 (fun n0 n1 n2 nx hq => ?_) _ _ _ hO
        rcases hq.2.2 with ⟨_, b1, b2, b3, b4, _⟩ | ⟨e1, _⟩
        · obtain ⟨_, u2, _⟩ := b3.uniq (by omega) (by omega) hN0
          rw [u2] at b4
          exact hN _ _ (by rw [show a1 + 0 = a1 by omega]; exact b4)
        · omega
      have hl1 := hN1.lt
      rw [show a1 + 0 = a1 by omega] at hN1
      refine x_ifeq (p' := 33) hC rfl rfl (fun c => absurd c (by decide)) (fun _ => ?_)
      refine x_1 (p' := 34) hC rfl rfl rfl rfl ?_
      refine x_1 (p' := 35) hC rfl rfl rfl rfl ?_
      refine x_1 (p' := 36) hC rfl rfl rfl rfl ?_
      refine x_cIV2 (p' := 37) (n := 162) hC rfl rfl rfl rfl rfl (hO.ty) ?_
      obtain ⟨sg, hsg⟩ : ∃ sg : Int, (sg = 1 ∧ (2 : Int) = 2 ∧ a2 < L ∧ tx a2 = 45) ∨ (sg = 0 ∧ ¬ ((2 : Int) = 2 ∧ a2 < L ∧ tx a2 = 45)) := by
        by_cases hq : (2 : Int) = 2 ∧ a2 < L ∧ tx a2 = 45
        · exact ⟨1, Or.inl ⟨rfl, hq⟩⟩
        · exact ⟨0, Or.inr ⟨rfl, hq⟩⟩
      have hN2a : ∀ x nx, NumIs tx L (a2 + sg) 59 x nx → ((a2 < L ∧ tx a2 = 45 ∧ ∃ x', NumIs tx L (a2 + 1) 59 x' nx ∧ (if sg = 1 then -x else x) = -x') ∨ (¬ (a2 < L ∧ tx a2 = 45) ∧ NumIs tx L a2 59 (if sg = 1 then -x else x) nx)) := fun x nx hx => by
        rcases hsg with ⟨q1, _, q2, q3⟩ | ⟨q1, q2⟩
        · subst q1
          exact Or.inl ⟨q2, q3, x, hx, if_pos rfl⟩
        · subst q1
          rw [if_neg (by decide)]
          exact Or.inr ⟨fun q => q2 ⟨rfl, q⟩, by rw [show a2 + 0 = a2 by omega] at hx; exact hx⟩
      refine sp_O_readNumber (sg := sg) hO hL (by omega) (by omega) (by omega) (Or.inr rfl) hsg (fun x2 a3 hN2 h3 hO => ?_) (fun hN h3 a3 nu3 _ hO => ?_)
      rotate_left
      · refine x_ifeq (p' := 38) hC rfl rfl (fun _ => ?_) (fun c => absurd rfl c)
        refine x_1 (p' := 41) hC rfl rfl rfl rfl ?_
        refine x_zret hC rfl rfl rfl (by decide) ⟨_, rfl, ?_⟩
        refine K0 (fun n0 n1 n2 nx hq => ?_) _ _ _ hO
        rcases hq.2.2 with ⟨_, b1, b2, b3, b4, b5⟩ | ⟨e1, _⟩
        · obtain ⟨_, u2, _⟩ := b3.uniq (by omega) (by omega) hN0
          rw [u2] at b4
          obtain ⟨_, u4, _⟩ := b4.uniq (by omega) (by omega) hN1
          rw [u4] at b5
          rcases b5 with ⟨d1, d2, x, d3, _⟩ | ⟨d1, d2⟩
          · rcases hsg with ⟨q1, _, q2, q3⟩ | ⟨q1, q2⟩
            · rw [q1] at hN; exact hN _ _ d3
            · exact q2 ⟨rfl, d1, d2⟩
          · rcases hsg with ⟨q1, _, q2, q3⟩ | ⟨q1, q2⟩
            · exact d1 ⟨q2, q3⟩
            · rw [q1] at hN; exact hN _ _ (by rw [show a2 + 0 = a2 by omega]; exact d2)
        · omega
      refine x_ifeq (p' := 38) hC rfl rfl (fun c => absurd c (by decide)) (fun _ => ?_)
      refine x_1 (p' := 39) hC rfl rfl rfl rfl ?_
      refine x_1 (p' := 41) hC rfl rfl rfl rfl ?_
      refine x_zret hC rfl rfl rfl (by first | omega | exact b2i_01 _) ⟨_, rfl, ?_⟩
      refine K1 x0 x1 (if sg = 1 then -x2 else x2) a3 ⟨hAL, rfl, Or.inl ⟨hlw, a1, a2, hN0, hN1, hN2a x2 a3 hN2⟩⟩ _ _ hO ?_ (fun _ => ⟨?_, ?_⟩)
      · rw [ups_ne (by decide), ups_ne (by decide), ups_eq rfl]; rfl
      · rw [ups_ne (by decide), ups_eq rfl]; rfl
      · rw [ups_eq rfl]
    · refine x_lswt (t := 42) rfl 2 (by show e_key _ [_, _, _] 1 = _; exact (key1 (show ¬ tx A = 109 by omega)).trans (key0 hlw)) rfl ?_
      refine x_1 (p' := 43) hC rfl rfl rfl rfl ?_
      refine x_1 (p' := 44) hC rfl rfl rfl rfl ?_
      refine x_1 (p' := 45) hC rfl rfl rfl rfl ?_
      refine x_cIV2 (p' := 46) (n := 162) hC rfl rfl rfl rfl rfl (hO.ty) ?_
      refine sp_O_readNumber (sg := 0) hO hL (by omega) (by omega) (by omega) (Or.inr rfl) (Or.inr ⟨rfl, fun q => absurd q.1 (by omega)⟩) (fun x0 a1 hN0 h1 hO => ?_) (fun hN h1 a1 nu1 _ hO => ?_)
      rotate_left
      · refine x_zret hC rfl rfl rfl (by decide) ⟨_, rfl, ?_⟩
        refine K0 (fun n0 n1 n2 nx hq => ?_) _ _ _ hO
        rcases hq.2.2 with ⟨e1, _⟩ | ⟨_, b1, _⟩
        · omega
        · exact hN _ _ (by rw [show A + 1 + 0 = A + 1 by omega]; exact b1)
      rw [show A + 1 + 0 = A + 1 by omega] at hN0
      refine x_zret hC rfl rfl rfl (by first | omega | exact b2i_01 _) ⟨_, rfl, ?_⟩
      refine K1 x0 0 0 a1 ⟨hAL, rfl, Or.inr ⟨by omega, hN0, rfl, rfl⟩⟩ _ _ hO ?_ (fun q => absurd q (by omega))
      rw [ups_eq rfl]; rfl
    · refine x_lswt (t := 42) rfl 3 (by show e_key _ [_, _, _] 1 = _; exact (key1 (show ¬ tx A = 109 by omega)).trans ((key1 (show ¬ tx A = 112 by omega)).trans (key0 hlw))) rfl ?_
      refine x_1 (p' := 43) hC rfl rfl rfl rfl ?_
      refine x_1 (p' := 44) hC rfl rfl rfl rfl ?_
      refine x_1 (p' := 45) hC rfl rfl rfl rfl ?_
      refine x_cIV2 (p' := 46) (n := 162) hC rfl rfl rfl rfl rfl (hO.ty) ?_
      refine sp_O_readNumber (sg := 0) hO hL (by omega) (by omega) (by omega) (Or.inr rfl) (Or.inr ⟨rfl, fun q => absurd q.1 (by omega)⟩) (fun x0 a1 hN0 h1 hO => ?_) (fun hN h1 a1 nu1 _ hO => ?_)
      rotate_left
      · refine x_zret hC rfl rfl rfl (by decide) ⟨_, rfl, ?_⟩
        refine K0 (fun n0 n1 n2 nx hq => ?_) _ _ _ hO
        rcases hq.2.2 with ⟨e1, _⟩ | ⟨_, b1, _⟩
        · omega
        · exact hN _ _ (by rw [show A + 1 + 0 = A + 1 by omega]; exact b1)
      rw [show A + 1 + 0 = A + 1 by omega] at hN0
      refine x_zret hC rfl rfl rfl (by first | omega | exact b2i_01 _) ⟨_, rfl, ?_⟩
      refine K1 x0 0 0 a1 ⟨hAL, rfl, Or.inr ⟨by omega, hN0, rfl, rfl⟩⟩ _ _ hO ?_ (fun q => absurd q (by omega))
      rw [ups_eq rfl]; rfl
    · refine x_lswt (t := 47) rfl 0 (by show e_key _ [_, _, _] 1 = _; exact (key1 (show ¬ tx A = 109 by omega)).trans ((key1 (show ¬ tx A = 112 by omega)).trans ((key1 (show ¬ tx A = 120 by omega)).trans (rfl)))) rfl ?_
      refine x_1 (p' := 48) hC rfl rfl rfl rfl ?_
      refine x_zret hC rfl rfl rfl (by first | omega | exact b2i_01 _) ⟨_, rfl, ?_⟩
      refine K0 (fun n0 n1 n2 nx hq => ?_) _ _ _ hO
      rcases hq.2.2 with ⟨e1, _⟩ | ⟨e1, _⟩ <;> omega
noncomputable def cOE (S : Nat → Int → Int) (c n0 n1 n2 : Int) : Int := if c = 109 then cDep S n0 n1 n2 0 1 else if c = 112 then cEla S n0 else cRet S n0
set_option maxRecDepth 20000 in
set_option maxHeartbeats 2000000 in
theorem sp_O_orderError {d : Nat} {G h : HP} {L A Cc D B E : Int} {tx nu : Int → Int} (hO : OT G h L A Cc D B E tx nu) {t : Nat} (hK : SkT t h) {S : Nat → Int → Int} (hS : ∀ n, n < 80 → hI h (t + n) = S n) (hc : CI S) (htm : 0 ≤ cT S 6 ∧ cT S 6 ≤ 100000) (hn0 : 0 ≤ nu 0 ∧ nu 0 ≤ 9999999) {Q : Int → HP → Prop} (K : Q (cOE S Cc (nu 0) (nu 1) (nu 2)) h) : CaI (d + 3) 160 [.inr (some 5), .inr (some t)] h Q := by
  have hC : cod 160 = c_O_orderError := rfl
  refine CaI.start rfl ?_
  refine x_1 (p' := 1) hC rfl rfl rfl rfl ?_
  refine z_og3 (p' := 2) hO hC rfl rfl ?_
  rcases (show (Cc = 109) ∨ (Cc = 112) ∨ (¬ Cc = 109 ∧ ¬ Cc = 112) by omega) with hlw | hlw | hlw
  · refine x_lswt (t := 3) rfl 1 (by show e_key _ [_, _] 1 = _; exact key0 hlw) rfl ?_
    refine x_1 (p' := 4) hC rfl rfl rfl rfl ?_
    refine x_1 (p' := 5) hC rfl rfl rfl rfl ?_
    refine z_or4 (p' := 6) hO hC rfl rfl ?_
    refine x_1 (p' := 7) hC rfl rfl rfl rfl ?_
    refine z_on (p' := 8) hO hC rfl rfl rfl (by omega) (by omega) ?_
    refine x_1 (p' := 9) hC rfl rfl rfl rfl ?_
    refine z_or4 (p' := 10) hO hC rfl rfl ?_
    refine x_1 (p' := 11) hC rfl rfl rfl rfl ?_
    refine z_on (p' := 12) hO hC rfl rfl rfl (by omega) (by omega) ?_
    refine x_1 (p' := 13) hC rfl rfl rfl rfl ?_
    refine z_or4 (p' := 14) hO hC rfl rfl ?_
    refine x_1 (p' := 15) hC rfl rfl rfl rfl ?_
    refine z_on (p' := 16) hO hC rfl rfl rfl (by omega) (by omega) ?_
    refine x_1 (p' := 17) hC rfl rfl rfl rfl ?_
    refine x_1 (p' := 18) hC rfl rfl rfl rfl ?_
    refine x_cIV5 (p' := 19) (n := 131) hC rfl rfl rfl rfl rfl (hK.ty) ?_
    refine sp_T_departError hK hS hc ?_
    refine x_iret hC rfl rfl rfl ⟨_, rfl, ?_⟩
    refine eqK K ?_
    unfold cOE
    repeat (first | rw [if_pos (by omega)] | rw [if_neg (by omega)])
  · refine x_lswt (t := 20) rfl 2 (by show e_key _ [_, _] 1 = _; exact (key1 (show ¬ Cc = 109 by omega)).trans (key0 hlw)) rfl ?_
    refine x_1 (p' := 21) hC rfl rfl rfl rfl ?_
    refine x_1 (p' := 22) hC rfl rfl rfl rfl ?_
    refine z_or4 (p' := 23) hO hC rfl rfl ?_
    refine x_1 (p' := 24) hC rfl rfl rfl rfl ?_
    refine z_on (p' := 25) hO hC rfl rfl rfl (by omega) (by omega) ?_
    refine x_cIV1 (p' := 26) (n := 133) hC rfl rfl rfl rfl rfl (hK.ty) ?_
    refine sp_T_elapseError hK hS htm ?_
    refine x_iret hC rfl rfl rfl ⟨_, rfl, ?_⟩
    refine eqK K ?_
    unfold cOE
    repeat (first | rw [if_pos (by omega)] | rw [if_neg (by omega)])
  · refine x_lswt (t := 27) rfl 0 (by show e_key _ [_, _] 1 = _; exact (key1 (show ¬ Cc = 109 by omega)).trans ((key1 (show ¬ Cc = 112 by omega)).trans (rfl))) rfl ?_
    refine x_1 (p' := 28) hC rfl rfl rfl rfl ?_
    refine x_1 (p' := 29) hC rfl rfl rfl rfl ?_
    refine z_or4 (p' := 30) hO hC rfl rfl ?_
    refine x_1 (p' := 31) hC rfl rfl rfl rfl ?_
    refine z_on (p' := 32) hO hC rfl rfl rfl (by omega) (by omega) ?_
    refine x_cIV1 (p' := 33) (n := 116) hC rfl rfl rfl rfl rfl (hK.ty) ?_
    refine sp_T_retireError hK hS hc ?_
    refine x_iret hC rfl rfl rfl ⟨_, rfl, ?_⟩
    refine eqK K ?_
    unfold cOE
    repeat (first | rw [if_pos (by omega)] | rw [if_neg (by omega)])
theorem EO.sk {t : Nat} {G h : HP} (E : EO G h) (K : SkT t G) : SkT t h := K.keep (by rw [E.2.2.1]; exact Nat.le_refl _) (fun n _ => by rw [E.1]) (fun n _ _ _ => by rw [E.2.1])
theorem EO.ints {t : Nat} {G h : HP} {S : Nat → Int → Int} (E : EO G h) (ht : 8 ≤ t) (hS : ∀ n, n < 80 → hI G (t + n) = S n) : ∀ n, n < 80 → hI h (t + n) = S n := fun n hn => by rw [E.2.2.2.2 _ (by omega) (by omega) (by omega)]; exact hS n hn
theorem cOE_112 {S : Nat → Int → Int} {n0 n1 n2 n1' n2' c : Int} (h : ¬ c = 109) : cOE S c n0 n1 n2 = cOE S c n0 n1' n2' := by
  unfold cOE
  rw [if_neg h, if_neg h]
set_option maxRecDepth 20000 in
set_option maxHeartbeats 2000000 in
theorem sp_O_reasonAgainst {d : Nat} {h : HP} {L A Cc D B E : Int} {tx nu : Int → Int} (hO : OT h h L A Cc D B E tx nu) (hL : 0 ≤ L ∧ L ≤ 60) (hA : 0 ≤ A) (hAL : A < L) (htx : ∀ j, 0 ≤ j → j < L → 32 ≤ tx j ∧ tx j ≤ 126) {t : Nat} (ht8 : 8 ≤ t) (hK : SkT t h) {S : Nat → Int → Int} (hS : ∀ n, n < 80 → hI h (t + n) = S n) (hc : CI S) (htm : 0 ≤ cT S 6 ∧ cT S 6 ≤ 100000) {Q : Int → HP → Prop} (K1 : (∀ n0 n1 n2 nx, ¬ OrdIs tx L A (tx A) n0 n1 n2 nx) → ∀ h' A' nu', OT h h' L A' (tx A) D B E tx nu' → Q 1 h') (K2 : ∀ n0 n1 n2 nx, OrdIs tx L A (tx A) n0 n1 n2 nx → ¬ tx A = 112 → ¬ cUnit S n0 → ∀ h' A' nu', OT h h' L A' (tx A) D B E tx nu' → Q 2 h') (K3 : ∀ n0 n1 n2 nx, OrdIs tx L A (tx A) n0 n1 n2 nx → (¬ tx A = 112 → cUnit S n0) → ¬ cOE S (tx A) n0 n1 n2 = 0 → ∀ h' A' nu', OT h h' L A' (tx A) D B E tx nu' → Q 3 h') (K4 : ∀ n0 n1 n2 nx, OrdIs tx L A (tx A) n0 n1 n2 nx → (¬ tx A = 112 → cUnit S n0) → cOE S (tx A) n0 n1 n2 = 0 → ∀ h' nu', OT h h' L nx (tx A) D B E tx nu' → nu' 0 = n0 → (tx A = 109 → nu' 1 = n1 ∧ nu' 2 = n2) → Q 0 h') : CaI (d + 4) 159 [.inr (some 5), .inr (some t)] h Q := by
  have hC : cod 159 = c_O_reasonAgainst := rfl
  refine CaI.start rfl ?_
  refine x_1 (p' := 1) hC rfl rfl rfl rfl ?_
  refine x_cIV0 (p' := 2) (n := 161) hC rfl rfl rfl rfl rfl (hO.ty) ?_
  refine sp_O_readOrder hO hL hA hAL htx (fun n0 n1 n2 nx hor h1 nu1 hO e0 e12 => ?_) (fun hno h1 A1 nu1 hO => ?_)
  rotate_left
  · refine x_ifne (p' := 3) hC rfl rfl (fun c => absurd c (by decide)) (fun _ => ?_)
    refine x_1 (p' := 4) hC rfl rfl rfl rfl ?_
    refine x_iret hC rfl rfl rfl ⟨_, rfl, ?_⟩
    exact K1 hno _ _ _ hO
  have hK := hO.1.sk hK
  have hS := hO.1.ints ht8 hS
  have hol := hor.lt
  have hEE : cOE S (tx A) (nu1 0) (nu1 1) (nu1 2) = cOE S (tx A) n0 n1 n2 := by
    rw [e0]
    by_cases hm : tx A = 109
    · rw [(e12 hm).1, (e12 hm).2]
    · exact cOE_112 hm
  refine x_ifne (p' := 3) hC rfl rfl (fun _ => ?_) (fun c => absurd c (by decide))
  refine x_1 (p' := 6) hC rfl rfl rfl rfl ?_
  refine z_og3 (p' := 7) hO hC rfl rfl ?_
  refine x_1 (p' := 8) hC rfl rfl rfl rfl ?_
  refine x_iceq (p' := 9) hC rfl rfl (fun c8 => ?_) (fun c8 => ?_)
  · refine x_1 (p' := 19) hC rfl rfl rfl rfl ?_
    refine x_1 (p' := 20) hC rfl rfl rfl rfl ?_
    refine x_cIV1 (p' := 21) (n := 160) hC rfl rfl rfl rfl rfl (hO.ty) ?_
    refine sp_O_orderError hO hK hS hc htm (by omega) ?_
    rw [hEE]
    refine x_ifne (p' := 22) hC rfl rfl (fun c21 => ?_) (fun c21 => ?_)
    · refine x_1 (p' := 25) hC rfl rfl rfl rfl ?_
      refine x_iret hC rfl rfl rfl ⟨_, rfl, ?_⟩
      first
        | exact K4 _ _ _ _ hor (fun q => absurd c8 q) c21 _ _ hO e0 e12
        | exact K4 _ _ _ _ hor (fun q => c15) c21 _ _ hO e0 e12
        | exact K3 _ _ _ _ hor (fun q => absurd c8 q) c21 _ _ _ hO
        | exact K3 _ _ _ _ hor (fun q => c15) c21 _ _ _ hO
    · refine x_1 (p' := 23) hC rfl rfl rfl rfl ?_
      refine x_1 (p' := 25) hC rfl rfl rfl rfl ?_
      refine x_iret hC rfl rfl rfl ⟨_, rfl, ?_⟩
      first
        | exact K4 _ _ _ _ hor (fun q => absurd c8 q) c21 _ _ hO e0 e12
        | exact K4 _ _ _ _ hor (fun q => c15) c21 _ _ hO e0 e12
        | exact K3 _ _ _ _ hor (fun q => absurd c8 q) c21 _ _ _ hO
        | exact K3 _ _ _ _ hor (fun q => c15) c21 _ _ _ hO
  · refine x_1 (p' := 10) hC rfl rfl rfl rfl ?_
    refine x_1 (p' := 11) hC rfl rfl rfl rfl ?_
    refine z_or4 (p' := 12) hO hC rfl rfl ?_
    refine x_1 (p' := 13) hC rfl rfl rfl rfl ?_
    refine z_on (p' := 14) hO hC rfl rfl rfl (by omega) (by omega) ?_
    refine x_cIV1 (p' := 15) (n := 112) hC rfl rfl rfl rfl rfl (hK.ty) ?_
    refine sp_T_hasUnit hK hS hc ?_
    refine x_ifne (p' := 16) hC rfl rfl (fun c15 => ?_) (fun c15 => ?_)
    · have c15 := b2i_n0.mp c15
      rw [e0] at c15
      refine x_1 (p' := 19) hC rfl rfl rfl rfl ?_
      refine x_1 (p' := 20) hC rfl rfl rfl rfl ?_
      refine x_cIV1 (p' := 21) (n := 160) hC rfl rfl rfl rfl rfl (hO.ty) ?_
      refine sp_O_orderError hO hK hS hc htm (by omega) ?_
      rw [hEE]
      refine x_ifne (p' := 22) hC rfl rfl (fun c21 => ?_) (fun c21 => ?_)
      · refine x_1 (p' := 25) hC rfl rfl rfl rfl ?_
        refine x_iret hC rfl rfl rfl ⟨_, rfl, ?_⟩
        first
          | exact K4 _ _ _ _ hor (fun q => absurd c8 q) c21 _ _ hO e0 e12
          | exact K4 _ _ _ _ hor (fun q => c15) c21 _ _ hO e0 e12
          | exact K3 _ _ _ _ hor (fun q => absurd c8 q) c21 _ _ _ hO
          | exact K3 _ _ _ _ hor (fun q => c15) c21 _ _ _ hO
      · refine x_1 (p' := 23) hC rfl rfl rfl rfl ?_
        refine x_1 (p' := 25) hC rfl rfl rfl rfl ?_
        refine x_iret hC rfl rfl rfl ⟨_, rfl, ?_⟩
        first
          | exact K4 _ _ _ _ hor (fun q => absurd c8 q) c21 _ _ hO e0 e12
          | exact K4 _ _ _ _ hor (fun q => c15) c21 _ _ hO e0 e12
          | exact K3 _ _ _ _ hor (fun q => absurd c8 q) c21 _ _ _ hO
          | exact K3 _ _ _ _ hor (fun q => c15) c21 _ _ _ hO
    · have c15 := b2i_0.mp c15
      rw [e0] at c15
      refine x_1 (p' := 17) hC rfl rfl rfl rfl ?_
      refine x_iret hC rfl rfl rfl ⟨_, rfl, ?_⟩
      exact K2 _ _ _ _ hor (by omega) c15 _ _ _ hO

/-! THE SIMULATION: a tick, of the reference and of the class -/
def cf (c0 dd hh : Int) : Int := if dd < 0 then c0 + 14000 else c0 + 2800 * (4 - dd) + 560 * hh
theorem GSm.rg {T n0 : Int} {O : List (Int × Int)} {C : Int} {s : Int → Int} {S : Nat → Int → Int} {R : Nat → List FV} (h : GSm T n0 O C s S R) {g : Int} (hg : 0 ≤ g ∧ g < n0) : RG s g := by
  have hd := h.1.2.1
  have hg' : 0 ≤ g ∧ g < s 0 := by rw [h.2.2.2]; exact hg
  have c := hd.2.2.2.2.1
  have u := hd.2.2.1 g hg'.1 hg'.2
  exact ⟨hd.1, h.1.2.2.1.RF hd.1 c.2.1, hg', fun z => hd.2.1.2 g (by omega) hg'.2, ⟨c.1, by omega, u.2.2.2.1⟩, u.1⟩
theorem FrX.sv {X Y : Nat → Int → Int} (sv : SV X Y) : FrX X Y := fun i j _ h7 h8 h9 h13 => by
  by_cases q : i = 0
  · subst q
    exact sv.2 j (fun z => h13 ⟨rfl, z⟩)
  · exact congrFun (sv.1 i h7 h8 h9 q) j
theorem tkh {d m : Nat} {h : HP} (hO : RO m h) : TKH d m h Tk Gd := by
  intro X hG ht Q K
  obtain ⟨O, S, R, B, hO5, hB, hS, hL, h3⟩ := hG
  have hT := hS.tick (by omega)
  have hT2 : Sim (ups (X 1) 2 (X 1 2 + 1)) (ups (X 1) 2 (X 1 2 + 1) 2) O (B + 14000 * X 1 2) (upX S 0 6 (cT S 6 + 1)) R := by
    rw [show ups (X 1) 2 (X 1 2 + 1) 2 = X 1 2 + 1 from ups_eq rfl]
    exact hT
  obtain ⟨N, i1, i2, i3, ⟨j2, j0, jq⟩, i4⟩ := hT2.arrived
  have e2 : ups (X 1) 2 (X 1 2 + 1) 2 = X 1 2 + 1 := ups_eq rfl
  have e0 : ups (X 1) 2 (X 1 2 + 1) 0 = X 1 0 := ups_ne (by decide)
  rw [e2] at j2
  rw [e0] at j0
  have hc := hS.2.1.2.2.2.2.1
  have hn := hS.2.1.1.1
  have gN : GSm (X 1 2 + 1) (X 1 0) O (B + 14000 * X 1 2) (sq (ups (X 1) 2 (X 1 2 + 1)) N) (cBr (upX S 0 6 (cT S 6 + 1)) R).1 (cBr (upX S 0 6 (cT S 6 + 1)) R).2 := by
    refine ⟨?_, fun q x y => ?_, j2, j0⟩
    · rw [j2]; rw [e2] at i4; exact i4
    · rw [j0] at x
      rw [jq q (by rw [e0]; exact x) y]
      exact hL q x y
  refine sp_m_tick hO
    (PB := fun dd hh X' => FrX X X' ∧ InT dd hh (X 1) (X' 1) ∧ (0 ≤ hh ∧ hh ≤ X' 1 0 ∧ dd ≤ 4) ∧ ∃ S' R', GSm (X 1 2 + 1) (X 1 0) O (cf (B + 14000 * X 1 2) dd hh) (X' 1) S' R')
    (PA := fun n X' => FrX X X' ∧ ∃ k, X' 1 = sq (ups (X 1) 2 (X 1 2 + 1)) k ∧ k ≤ N ∧ n = N - k)
    ?_ ?_ ?_ ?_ ?_ ?_ ?_ ?_ (n := N) ⟨hc.1, by omega⟩ ⟨FrX.setS, 0, setS_1, Nat.zero_le _, rfl⟩
  · rintro dd hh X' ⟨f, it, hb, S', R', g⟩
    exact ⟨g.1.2.1.1, hb.1, hb.2.1⟩
  · rintro dd hh X' ⟨f, it, hb, S', R', g⟩ h0 h1 hdp Q' K'
    have hg : 0 ≤ hh ∧ hh < X 1 0 := ⟨hb.1, by have := g.2.2.2; omega⟩
    have len0 := (g.1.len hO5).1 hh hb.1 h1
    have cfv : cf (B + 14000 * X 1 2) dd hh = B + 14000 * X 1 2 + 2800 * (4 - dd) + 560 * hh := by unfold cf; rw [if_neg (by omega)]
    have cfn : cf (B + 14000 * X 1 2) dd (hh + 1) = B + 14000 * X 1 2 + 2800 * (4 - dd) + 560 * (hh + 1) := by unfold cf; rw [if_neg (by omega)]
    refine sp_m_asks hO (P := fun k X'' => FrX X X'' ∧ ∃ (j : Nat) (S'' : Nat → Int → Int) (R'' : Nat → List FV), AskN hh j (X' 1) (X'' 1) ∧ GSm (X 1 2 + 1) (X 1 0) O (cf (B + 14000 * X 1 2) dd hh + (j : Int)) (X'' 1) S'' R'' ∧ k = (kR R'' hh).length ∧ j + k ≤ 552) ?_ ?_ ?_ (n := (kR R' hh).length) ⟨f, 0, S', R', rfl, by rw [show cf (B + 14000 * X 1 2) dd hh + ((0 : Nat) : Int) = cf (B + 14000 * X 1 2) dd hh by omega]; exact g, rfl, by omega⟩
    · rintro k X'' ⟨_, j, S'', R'', _, g', _, _⟩
      exact g'.rg hg
    · rintro k X'' ⟨f', j, S'', R'', an, g', hk, hjk⟩ hdu Y r sv ra
      have st : RlS hh (X'' 1) (rRel (X'' 1) hh (rBehind (X'' 1) hh (-1)) r (Y 7) (Y 8)) := ⟨hdu, Y 7, Y 8, r, ra, rfl⟩
      obtain ⟨g2, l2⟩ := g'.rl hO5 hg (by rw [cfv]; omega) st
      refine ⟨_, by rw [hk]; exact l2, (f'.trans (FrX.sv sv)).trans FrX.setS, j + 1, (cRl S'' R'' hh).1, (cRl S'' R'' hh).2, ?_, ?_, rfl, by omega⟩
      · rw [setS_1]; exact ⟨_, an, st⟩
      · rw [setS_1, show cf (B + 14000 * X 1 2) dd hh + ((j + 1 : Nat) : Int) = cf (B + 14000 * X 1 2) dd hh + (j : Int) + 1 by omega]
        exact g2
    · rintro k X'' ⟨f', j, S'', R'', an, g', hk, hjk⟩ hnd
      refine K' X'' ⟨f', (InT.step h0 hb.1).mpr ⟨X' 1, it, Or.inl ⟨hdp, j, an, hnd⟩⟩, ⟨by omega, ?_, hb.2.2⟩, S'', R'', g'.mono ?_ ?_⟩
      · have := g'.2.2.2; omega
      · rw [cfv, cfn]; omega
      · rw [cfn]; omega
  · rintro dd hh X' ⟨f, it, hb, S', R', g⟩ h1 hdp
    have n0 := g.2.2.2
    by_cases h0 : 0 ≤ dd
    · refine ⟨f, (InT.step h0 hb.1).mpr ⟨X' 1, it, Or.inr ⟨hdp, rfl⟩⟩, ⟨by omega, by omega, hb.2.2⟩, S', R', g.mono ?_ ?_⟩
      · unfold cf; rw [if_neg (by omega), if_neg (by omega)]; omega
      · unfold cf; rw [if_neg (by omega)]; omega
    · refine ⟨f, it.low (by omega) (by omega), ⟨by omega, by omega, hb.2.2⟩, S', R', g.mono ?_ ?_⟩
      · unfold cf; rw [if_pos (by omega), if_pos (by omega)]; exact Int.le_refl _
      · unfold cf; rw [if_pos (by omega)]; omega
  · rintro dd X' ⟨f, it, hb, S', R', g⟩
    have n0 := g.2.2.2
    by_cases h0 : 0 ≤ dd
    · refine ⟨f, ((InT.turn h0 n0 (by omega)).mpr it).1, ⟨by omega, by omega, by omega⟩, S', R', g.mono ?_ ?_⟩
      · unfold cf
        rw [if_neg (by omega)]
        split <;> omega
      · unfold cf
        split <;> omega
    · refine ⟨f, it.low (by omega) (by omega), ⟨by omega, by omega, by omega⟩, S', R', g.mono ?_ ?_⟩
      · unfold cf; rw [if_pos (by omega), if_pos (by omega)]; exact Int.le_refl _
      · unfold cf; rw [if_pos (by omega)]; omega
  · rintro n X' ⟨f, k, hk, hkN, hn'⟩
    obtain ⟨S1, R1, h1⟩ := i1 k hkN
    rw [hk]
    refine ⟨h1.2.1.1, fun z => ?_⟩
    rcases rNext_is (s := sq (ups (X 1) 2 (X 1 2 + 1)) k) h1.2.1.1.2.2.1.1 with ⟨a, _⟩ | ⟨⟨a, _⟩, _⟩
    · omega
    · exact h1.2.2.1.RC h1.2.1.1 a
  · rintro n X' ⟨f, k, hk, hkN, hn'⟩ z
    have kN : k ≠ N := fun q => by rw [hk, q] at z; omega
    refine ⟨N - (k + 1), by omega, f.trans FrX.setS, k + 1, ?_, by omega, rfl⟩
    rw [setS_1, hk]
    rfl
  · rintro n X' ⟨f, k, hk, hkN, hn'⟩ z
    have kN : k = N := by
      by_cases q : k < N
      · have := i2 k q
        rw [← hk] at this
        omega
      · omega
    rw [kN] at hk
    rw [← hk] at gN i3
    refine ⟨f, ⟨X' 1, ⟨N, hk, i2, i3⟩, Or.inl ⟨by decide, by decide, X' 1, rfl, rfl⟩⟩, ⟨by decide, ?_, by decide⟩, _, _, gN.mono ?_ ?_⟩
    · have := gN.2.2.2; omega
    · unfold cf; rw [if_neg (by decide)]; omega
    · unfold cf; rw [if_neg (by decide)]; omega
  · rintro X' ⟨f, it, hb, S', R', g⟩
    have t2 := g.2.2.1
    refine K X' f it t2 ⟨O, S', R', B, hO5, hB, ?_, g.2.1, by omega⟩
    have e : B + 14000 * X' 1 2 = cf (B + 14000 * X 1 2) (-1) 0 := by unfold cf; rw [if_pos (by decide), t2]; omega
    rw [e]
    exact g.1

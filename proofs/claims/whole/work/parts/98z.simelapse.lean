/-! THE SIMULATION: time passes in the class's tree -/
theorem sp_elapse {d : Nat} {t : Nat} {n : Int} {A : (Int → Int) → Prop} {T n0 : Int} {O : List (Int × Int)} {B : Int} (hO : O.length ≤ 512) (hB : 0 ≤ B ∧ B ≤ 20000) (hn : 0 ≤ n) (hT : 0 ≤ T ∧ T + n ≤ 30000) {h : HP} {o : Nat → Nat} {w : Nat → Nat × Nat} {S : Nat → Int → Int} {R : Nat → List FV} (hA : SRA A T n0 O (B + 14000 * T) S R) (TT : TR t h o w S R) {Q : HP → Prop} (K : ∀ H' o' w' S' R', ExtT h o w t H' o' w' → TR t H' o' w' S' R' → SRA (fun s => ∃ a, A a ∧ TkN Tk n.toNat a s) (T + n) n0 O (B + 14000 * (T + n)) S' R' → Q H') : CaV (d + 5) 134 [.inr (some t), .inl n] h Q := by
  refine sp_T_elapse (n := n)
    (PT := fun i S R => (0 ≤ i ∧ i ≤ n) ∧ SRA (fun s => ∃ a, A a ∧ TkN Tk i.toNat a s) (T + i) n0 O (B + 14000 * (T + i)) S R)
    (PB := fun i dd hh S R => (0 ≤ i ∧ i < n) ∧ (0 ≤ hh ∧ hh ≤ n0 ∧ dd ≤ 4) ∧ (∀ a, (∃ b, A b ∧ TkN Tk i.toNat b a) → a 0 = n0) ∧ SRA (fun s => ∃ a, (∃ b, A b ∧ TkN Tk i.toNat b a) ∧ InT dd hh a s) (T + i + 1) n0 O (cf (B + 14000 * (T + i)) dd hh) S R)
    ?_ ?_ ?_ ?_ ?_ ?_ (by omega) hn TT ⟨⟨Int.le_refl _, hn⟩, ?_⟩ (fun H' o' w' S' R' e T' hp => K H' o' w' S' R' e T' hp.2)
  · rintro i S R ⟨hi, hs⟩ h0 h1
    obtain ⟨s, hs1⟩ := hs.1
    have g := hs.2 s hs1
    have gn := g.n0
    obtain ⟨b1, b2⟩ := hs.begin hO (by omega)
    refine ⟨by omega, b1, ⟨h0, h1⟩, ⟨Int.le_refl _, by omega, by decide⟩, fun a ha => (hs.2 a ha).2.2.2, b2.mono ?_ ?_⟩
    · unfold cf; rw [if_neg (by decide)]; omega
    · unfold cf; rw [if_neg (by decide)]; omega
  · rintro i dd hh S R ⟨hi, hb, _, hs⟩
    obtain ⟨s, hs1⟩ := hs.1
    have gn := (hs.2 s hs1).n0
    exact ⟨by omega, hb.1, by omega⟩
  · rintro i dd hh S R ⟨hi, hb, ha0, hs⟩ h0 h1 hdp h o w Q T1 K1
    obtain ⟨s, hs1⟩ := hs.1
    have g := hs.2 s hs1
    have gn := g.n0
    have hg : 0 ≤ hh ∧ hh < n0 := ⟨hb.1, by omega⟩
    have len0 := (g.1.len hO).1 hh hb.1 (by have := g.2.2.2; omega)
    have cfv : cf (B + 14000 * (T + i)) dd hh = B + 14000 * (T + i) + 2800 * (4 - dd) + 560 * hh := by unfold cf; rw [if_neg (by omega)]
    have cfn : cf (B + 14000 * (T + i)) dd (hh + 1) = B + 14000 * (T + i) + 2800 * (4 - dd) + 560 * (hh + 1) := by unfold cf; rw [if_neg (by omega)]
    refine sp_T_releaseReadySlots (g := hh) (P := fun k S' R' => (kR R' hh).length ≤ k ∧ ∃ j : Nat, j + (kR R' hh).length ≤ 552 ∧ SRA (fun s => ∃ a, (∃ a', (∃ b, A b ∧ TkN Tk i.toNat b a') ∧ InT dd hh a' a) ∧ AskN hh j a s) (T + i + 1) n0 O (cf (B + 14000 * (T + i)) dd hh + (j : Int)) S' R' ∧ ∀ j', j' < j → ∀ s, (∃ a, (∃ a', (∃ b, A b ∧ TkN Tk i.toNat b a') ∧ InT dd hh a' a) ∧ AskN hh j' a s) → rDue s hh) ?_ ?_ ?_ ?_ T1 (k := (kR R hh).length) ⟨Nat.le_refl _, 0, by omega, ?_, fun j' q => absurd q (Nat.not_lt_zero _)⟩ rfl
    · rintro k S' R' ⟨hk, j, hj, hsr, _⟩
      obtain ⟨s', hs'⟩ := hsr.1
      have g' := hsr.2 s' hs'
      exact ⟨g'.1.RlOK hO g'.2.1 (by rw [g'.2.2.2]; exact hg), hk⟩
    · rintro k S1 S2 R' ⟨hk, j, hj, hsr, hd⟩ sy
      exact ⟨hk, j, hj, hsr.sx (fun m hm => sy.1 m (by omega) (by omega) (by omega) (by omega) (by omega)), hd⟩
    · rintro k S' R' ⟨hk, j, hj, hsr, hd⟩ hrd
      obtain ⟨r1, r2, r3⟩ := hsr.rl hO hg (by rw [cfv]; omega) hrd
      refine ⟨by omega, j + 1, by omega, ?_, fun j' q => ?_⟩
      · rw [show cf (B + 14000 * (T + i)) dd hh + ((j + 1 : Nat) : Int) = cf (B + 14000 * (T + i)) dd hh + (j : Int) + 1 by omega]
        exact r1
      · by_cases z : j' = j
        · rw [z]; exact r3
        · exact hd j' (by omega)
    · rintro H' o' w' k S' R' e T' ⟨hk, j, hj, hsr, hd⟩ hnr
      refine K1 H' o' w' S' R' e T' ⟨hi, ⟨by omega, by omega, hb.2.2⟩, ha0, ?_⟩
      refine ((hsr.askEnd hg hd hnr).iff (fun s => ?_)).mono ?_ ?_
      · constructor
        · rintro ⟨a, ⟨a', ha', it⟩, as⟩
          exact ⟨a', ha', (InT.step h0 hb.1).mpr ⟨a, it, Or.inl ⟨((hs.2 a ⟨a', ha', it⟩).dep hg).trans hdp, as⟩⟩⟩
        · rintro ⟨a', ha', it⟩
          obtain ⟨a, it, hr⟩ := (InT.step h0 hb.1).mp it
          rcases hr with ⟨_, as⟩ | ⟨nd, _⟩
          · exact ⟨a, ⟨a', ha', it⟩, as⟩
          · exact absurd (((hs.2 a ⟨a', ha', it⟩).dep hg).trans hdp) nd
      · rw [cfv, cfn]; omega
      · rw [cfn]; omega
    · rw [show cf (B + 14000 * (T + i)) dd hh + ((0 : Nat) : Int) = cf (B + 14000 * (T + i)) dd hh by omega]
      refine hs.iff (fun s => ⟨fun z => ⟨s, z, rfl⟩, ?_⟩)
      rintro ⟨a, z, e⟩
      have e : s = a := e
      rw [e]
      exact z
  · rintro i dd hh S R ⟨hi, hb, ha0, hs⟩ h1 hdp
    obtain ⟨s, hs1⟩ := hs.1
    have gn := (hs.2 s hs1).n0
    have hg : 0 ≤ hh ∧ hh < n0 := ⟨hb.1, by omega⟩
    refine ⟨hi, ⟨by omega, by omega, hb.2.2⟩, ha0, (hs.iff (fun s => ?_)).mono ?_ ?_⟩
    · by_cases h0 : 0 ≤ dd
      · constructor
        · rintro ⟨a, ha, it⟩
          exact ⟨a, ha, (InT.step h0 hb.1).mpr ⟨s, it, Or.inr ⟨fun q => hdp ((((hs.2 s ⟨a, ha, it⟩).dep hg).symm).trans q), rfl⟩⟩⟩
        · rintro ⟨a, ha, it⟩
          obtain ⟨w', it, hr⟩ := (InT.step h0 hb.1).mp it
          rcases hr with ⟨q, _⟩ | ⟨_, e⟩
          · exact absurd ((((hs.2 w' ⟨a, ha, it⟩).dep hg).symm).trans q) hdp
          · rw [e]; exact ⟨a, ha, it⟩
      · exact ⟨fun ⟨a, ha, it⟩ => ⟨a, ha, it.low (by omega) (by omega)⟩, fun ⟨a, ha, it⟩ => ⟨a, ha, it.low (by omega) (by omega)⟩⟩
    · unfold cf; split <;> omega
    · unfold cf; split <;> omega
  · rintro i dd S R ⟨hi, hb, ha0, hs⟩
    obtain ⟨s, hs1⟩ := hs.1
    have gn := (hs.2 s hs1).n0
    rw [gn.1] at hs
    refine ⟨hi, ⟨by omega, by omega, by omega⟩, ha0, (hs.iff (fun s => ?_)).mono ?_ ?_⟩
    · by_cases h0 : 0 ≤ dd
      · constructor
        · rintro ⟨a, ha, it⟩
          exact ⟨a, ha, ((InT.turn h0 (ha0 a ha).symm (by omega)).mpr it).1⟩
        · rintro ⟨a, ha, it⟩
          exact ⟨a, ha, (InT.turn h0 (ha0 a ha).symm (by omega)).mp ⟨it, hb.2.2⟩⟩
      · exact ⟨fun ⟨a, ha, it⟩ => ⟨a, ha, it.low (by omega) (by omega)⟩, fun ⟨a, ha, it⟩ => ⟨a, ha, it.low (by omega) (by omega)⟩⟩
    · unfold cf
      split
      · rw [if_pos (by omega)]; omega
      · split <;> omega
    · unfold cf
      split <;> omega
  · rintro i S R ⟨hi, hb, ha0, hs⟩
    refine ⟨by omega, ?_⟩
    rw [show T + (i + 1) = T + i + 1 by omega]
    refine (hs.iff (fun s => ?_)).mono ?_ ?_
    · rw [show (i + 1).toNat = i.toNat + 1 by omega]
      constructor
      · rintro ⟨a, ⟨b, hb, tk⟩, it⟩
        exact ⟨b, hb, a, tk, it⟩
      · rintro ⟨b, hb, a, tk, it⟩
        exact ⟨a, ⟨b, hb, tk⟩, it⟩
    · unfold cf; rw [if_pos (by decide)]; omega
    · omega
  · rw [Int.add_zero]
    refine hA.iff (fun s => ⟨fun z => ⟨s, z, rfl⟩, ?_⟩)
    rintro ⟨a, z, e⟩
    have e : s = a := e
    rw [e]
    exact z

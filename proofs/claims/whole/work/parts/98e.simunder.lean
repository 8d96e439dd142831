/-! THE SIMULATION: units under a hub, delays, frames on their way -/
theorem kid_nn {c : Int} (h : 0 ≤ c) : 0 ≤ kid c := by
  unfold kid
  split <;> omega
theorem Rel.under {s : Int → Int} {S : Nat → Int → Int} {R : Nat → List FV} (h : Rel s S R) (hC : CI S) {g : Int} (hg : 0 ≤ g) : rUnitsOf s g = cUnder S g := by
  unfold rUnitsOf cUnder
  rw [← h.1.2.1]
  refine fI_congr (fun u a b n => ?_)
  rw [b2i_congr (show rIsOf s g u ↔ ¬ cTow S u g = -1 from ?_)]
  rcases h.tow hC hg ⟨a, b⟩ with ⟨p, q⟩ | ⟨p, q⟩
  · have := kid_nn p.2
    exact ⟨fun _ => by omega, fun _ => p⟩
  · exact ⟨fun e => absurd e p, fun e => absurd q e⟩
theorem Rel.dl {s : Int → Int} {S : Nat → Int → Int} {R : Nat → List FV} (h : Rel s S R) (hC : CI S) : ∀ (n j : Nat) (x : Int), x < s 0 → x ≤ (n : Nat) → x ≤ (j : Nat) → rDl s n x = cDl S j x
  | 0, 0, x, _, _, _ => rfl
  | 0, j + 1, x, _, hn, _ => by rw [rDl, cDl, if_neg (by omega)]
  | n + 1, 0, x, _, _, hj => by rw [rDl, cDl, if_neg (by omega)]
  | n + 1, j + 1, x, h0, hn, hj => by
    rw [rDl, cDl]
    by_cases q : 0 < x
    · have hh := hC.2.2.1 x (by omega) (by have := h.1.1; omega)
      rw [if_pos q, if_pos q, h.cs ⟨by omega, h0⟩ (by decide), h.up ⟨by omega, h0⟩, Rel.dl h hC n j _ (by omega) (by omega) (by omega)]
    · rw [if_neg q, if_neg q]
theorem Rel.onWay {s : Int → Int} {S : Nat → Int → Int} {R : Nat → List FV} (h : Rel s S R) (hn : 0 ≤ s 7) (hW : ∀ f, 0 ≤ f → f < s 7 → isW s f → 0 ≤ rFr s f 2 ∧ rFr s f 2 < 15) {c : Int} (hc : 0 ≤ c ∧ c < 15) : rOnWay s c = cFrom (R 3) (kid c) := by
  obtain ⟨_, W, hp, _, hl⟩ := h.2.2.2.2
  unfold rOnWay cFrom
  rw [fI_count (p := isW s) (q := fun f => rFr s f 0 = 1 ∧ rFr s f 2 = c) hp hn (fun i _ _ k => k.1), gtC (q := fun v => v 0 = kid c)]
  refine congrArg (fun n : Nat => (n : Int)) (hl.count (fun f hf v hv hr => ?_))
  have hf := irP_mem.mp (hp.mem_iff.mp hf)
  have r := hW f hf.1.1 hf.1.2 hf.2
  unfold pd
  refine (@decide_eq_decide _ _ (Classical.propDecidable _) (Classical.propDecidable _)).mpr ⟨fun e => ?_, fun e => ⟨hf.2, ?_⟩⟩
  · show v 0 = kid c
    rw [hr.1, e.2]
  · have e : v 0 = kid c := e
    rw [hr.1] at e
    exact kid_in r hc e

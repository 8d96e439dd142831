/-! THE CLASS: rows of frames, written -/
def kap (q : Nat × Nat) : Nat := 28 * q.1 + 2 * q.2
def okCap (n : Nat) : Prop := n = 8 ∨ n = 16 ∨ n = 32 ∨ n = 64 ∨ n = 128 ∨ n = 256 ∨ n = 512 ∨ n = 1024
/-- from G to H only what row r owns has changed; o says whose a cell is, w how many frames a row has made and how long its array is -/
def ExtR (G : HP) (g : Nat → Nat) (w0 : Nat → Nat × Nat) (r : Nat) (H : HP) (o : Nat → Nat) (w : Nat → Nat × Nat) : Prop :=
  hZ G ≤ hZ H ∧ (∀ b, b < hZ G → hTy H b = hTy G b ∧ o b = g b) ∧ (∀ b, b < hZ G → g b ≠ r → hI H b = hI G b ∧ hR H b = hR G b) ∧ (∀ b, b < hZ G → (hTy G b).1 = 200 → hI H b = hI G b) ∧ (∀ k, k ≠ 1 → hI H r k = hI G r k) ∧ (∀ b, hZ G ≤ b → b < hZ H → o b = r) ∧ (∀ b, FrP G b → FrP H b) ∧ (∀ q, q ≠ r → w q = w0 q) ∧ hU H + kap (w0 r) = hU G + kap (w r) ∧ 9 * hZ H + hU G ≤ 9 * hZ G + hU H
theorem ExtR.refl {G : HP} {g : Nat → Nat} {w0 : Nat → Nat × Nat} {r : Nat} : ExtR G g w0 r G g w0 :=
  ⟨Nat.le_refl _, fun _ _ => ⟨rfl, rfl⟩, fun _ _ _ => ⟨rfl, rfl⟩, fun _ _ _ => rfl, fun _ _ => rfl, fun b h1 h2 => absurd h2 (by omega), fun _ h => h, fun _ _ => rfl, rfl, Nat.le_refl _⟩
theorem ExtR.trans {G H H' : HP} {g o o' : Nat → Nat} {w0 w w' : Nat → Nat × Nat} {r : Nat} (a : ExtR G g w0 r H o w) (b : ExtR H o w r H' o' w') : ExtR G g w0 r H' o' w' := by
  obtain ⟨a1, a2, a3, a4, a5, a6, a7, a8, a9, a10⟩ := a
  obtain ⟨b1, b2, b3, b4, b5, b6, b7, b8, b9, b10⟩ := b
  refine ⟨by omega, fun c hc => ?_, fun c hc hg => ?_, fun c hc ht => ?_, fun k hk => ?_, fun c h1 h2 => ?_, fun c hc => b7 c (a7 c hc), fun q hq => ?_, by omega, by omega⟩
  · have := a2 c hc
    have := b2 c (by omega)
    exact ⟨by rw [(b2 c (by omega)).1, (a2 c hc).1], by rw [(b2 c (by omega)).2, (a2 c hc).2]⟩
  · have h1 := a3 c hc hg
    have h2 := b3 c (by omega) (by rw [(a2 c hc).2]; exact hg)
    exact ⟨by rw [h2.1, h1.1], by rw [h2.2, h1.2]⟩
  · rw [b4 c (by omega) (by rw [(a2 c hc).1]; exact ht), a4 c hc ht]
  · rw [b5 k hk, a5 k hk]
  · rcases Nat.lt_or_ge c (hZ H) with h | h
    · rw [(b2 c h).2]; exact a6 c h1 h
    · exact b6 c h h2
  · rw [b8 q hq, a8 q hq]
def RowP (H : HP) (o : Nat → Nat) (w : Nat → Nat × Nat) (r : Nat) (L : List FV) : Prop :=
  o r = r ∧ okCap (w r).2 ∧ ∃ arr ad, RowQ H r arr ad (w r).1 (w r).2 L ∧ o arr = r ∧ ∀ i, i < (w r).1 → o (ad i) = r ∧ o (ad i + 1) = r ∧ o (ad i + 2) = r
theorem FrP.congr {h h' : HP} {a : Nat} (F : FrP h a) (hz : hZ h ≤ hZ h') (ht : ∀ b, b < hZ h → hTy h' b = hTy h b) (hr : hR h' a = hR h a) : FrP h' a := by
  obtain ⟨a1, a2, a3, a4, a5, a6, a7⟩ := F
  exact ⟨a1, by omega, by rw [ht _ (by omega)]; exact a3, by rw [ht _ (by omega)]; exact a4, by rw [ht _ (by omega)]; exact a5, by rw [hr]; exact a6, by rw [hr]; exact a7⟩
/-- a row whose own cells stay as they are stays the same -/
theorem RowP.keep {H H' : HP} {o o' : Nat → Nat} {w w' : Nat → Nat × Nat} {r : Nat} {L : List FV} (P : RowP H o w r L) (hz : hZ H ≤ hZ H') (ht : ∀ b, b < hZ H → hTy H' b = hTy H b ∧ o' b = o b) (hs : ∀ b, b < hZ H → o b = r → hI H' b = hI H b ∧ hR H' b = hR H b) (hw : w' r = w r) : RowP H' o' w' r L := by
  obtain ⟨p1, p2, arr, ad, ⟨⟨q1, q2, q3⟩, q4, ⟨q5, q6, q7, q8⟩, q9, q10, q11, q12, q13, q14⟩, p3, p4⟩ := P
  have hfr : ∀ i, i < (w r).1 → FrP H' (ad i) ∧ fV H' (ad i) = fV H (ad i) := fun i hi => by
    have hF := (q11 i hi).2
    have ho := p4 i hi
    refine ⟨hF.congr hz (fun b hb => (ht b hb).1) (hs _ (by have := hF.2.1; omega) ho.1).2, ?_⟩
    exact fV_same (hs _ (by have := hF.2.1; omega) ho.1).1 (hs _ (by have := hF.2.1; omega) ho.2.1).1 (hs _ (by have := hF.2.1; omega) ho.2.2).1
  unfold RowP
  rw [hw]
  refine ⟨by rw [(ht r q2).2]; exact p1, p2, arr, ad, ⟨⟨q1, by omega, by rw [(ht r q2).1]; exact q3⟩, by rw [(hs r q2 p1).2]; exact q4, ⟨q5, by omega, by rw [(ht arr q6).1]; exact q7, q8⟩, by rw [(hs r q2 p1).1]; exact q9, q10, fun i hi => ⟨by rw [(hs arr q6 p3).2]; exact (q11 i hi).1, (hfr i hi).1⟩, fun i h1 h2 => by rw [(hs arr q6 p3).2]; exact q12 i h1 h2, q13, fun i hi => by rw [(hfr i (by omega)).2]; exact q14 i hi⟩, by rw [(ht arr q6).2]; exact p3, fun i hi => ?_⟩
  have hF := (q11 i hi).2
  have hb := hF.2.1
  exact ⟨by rw [(ht _ (by omega)).2]; exact (p4 i hi).1, by rw [(ht _ (by omega)).2]; exact (p4 i hi).2.1, by rw [(ht _ (by omega)).2]; exact (p4 i hi).2.2⟩
theorem hI_sI_ne {h : HP} {a b : Nat} {k v : Int} (n : b ≠ a) : hI (sI h a k v) b = hI h b := by
  funext j
  show (if b = a ∧ j = k then v else hI h b j) = _
  rw [if_neg (fun q => n q.1)]
theorem hI_sI {h : HP} {a b : Nat} {k v j : Int} : hI (sI h a k v) b j = if b = a ∧ j = k then v else hI h b j := rfl
theorem hR_sR_ne {h : HP} {a b : Nat} {k : Int} {v : Option Nat} (n : b ≠ a) : hR (sR h a k v) b = hR h b := by
  funext j
  show (if b = a ∧ j = k then v else hR h b j) = _
  rw [if_neg (fun q => n q.1)]
theorem hR_sR {h : HP} {a b : Nat} {k j : Int} {v : Option Nat} : hR (sR h a k v) b j = if b = a ∧ j = k then v else hR h b j := rfl
theorem hR_sR_eq {h : HP} {a : Nat} {k : Int} {v : Option Nat} : hR (sR h a k v) a k = v := if_pos ⟨rfl, rfl⟩
theorem hTy_new {h : HP} {t : Nat × Nat} {n b : Nat} (hb : b < hZ h) : hTy (sNew h t n) b = hTy h b := if_neg (by omega)
theorem hTy_at {h : HP} {t : Nat × Nat} {n : Nat} : hTy (sNew h t n) (hZ h) = t := if_pos rfl
theorem hI_new {h : HP} {t : Nat × Nat} {n b : Nat} (hb : b < hZ h) : hI (sNew h t n) b = hI h b := by
  funext j
  show (if b = hZ h then 0 else hI h b j) = _
  rw [if_neg (by omega)]
theorem hR_new {h : HP} {t : Nat × Nat} {n b : Nat} (hb : b < hZ h) : hR (sNew h t n) b = hR h b := by
  funext j
  show (if b = hZ h then none else hR h b j) = _
  rw [if_neg (by omega)]
theorem hR_at {h : HP} {t : Nat × Nat} {n : Nat} {j : Int} : hR (sNew h t n) (hZ h) j = none := if_pos rfl
/-- the references of arr become f -/
def sRA (h : HP) (arr : Nat) (f : Int → Option Nat) : HP := (hTy h, hI h, fun b j => if b = arr then f j else hR h b j, hZ h, hU h)
theorem hR_sRA {h : HP} {arr : Nat} {f : Int → Option Nat} {j : Int} : hR (sRA h arr f) arr j = f j := if_pos rfl
theorem hR_sRA_ne {h : HP} {arr b : Nat} {f : Int → Option Nat} (n : b ≠ arr) : hR (sRA h arr f) b = hR h b := by
  funext j
  show (if b = arr then f j else hR h b j) = _
  rw [if_neg n]
theorem sRA_self {h : HP} {arr : Nat} {f : Int → Option Nat} (e : ∀ j, f j = hR h arr j) : sRA h arr f = h := by
  have : (fun (b : Nat) (j : Int) => if b = arr then f j else hR h b j) = hR h := by
    funext b j
    split
    · rename_i hb; rw [e, hb]
    · rfl
  unfold sRA
  rw [this]; rfl
theorem sR_sRA {h : HP} {arr : Nat} {f : Int → Option Nat} {k : Int} {v : Option Nat} : sR (sRA h arr f) arr k v = sRA h arr (fun j => if j = k then v else f j) := by
  have : (fun (b : Nat) (j : Int) => if b = arr ∧ j = k then v else if b = arr then f j else hR h b j) = fun (b : Nat) (j : Int) => if b = arr then (if j = k then v else f j) else hR h b j := by
    funext b j
    by_cases hb : b = arr
    · by_cases hj : j = k
      · rw [if_pos ⟨hb, hj⟩, if_pos hb, if_pos hj]
      · rw [if_neg (fun q => hj q.2), if_pos hb, if_pos hb, if_neg hj]
    · rw [if_neg (fun q => hb q.1), if_neg hb, if_neg hb]
  show ((hTy h, hI h, _, hZ h, hU h) : HP) = _
  rw [show (fun (b : Nat) (j : Int) => if b = arr ∧ j = k then v else hR (sRA h arr f) b j) = _ from this]
  rfl
theorem sRA_congr {h : HP} {arr : Nat} {f f' : Int → Option Nat} (e : ∀ j, f j = f' j) : sRA h arr f = sRA h arr f' := by rw [show f = f' from funext e]
theorem FrP.sRA {h : HP} {a arr : Nat} {f : Int → Option Nat} (F : FrP h a) (ht : (hTy h arr).1 = 200) : FrP (sRA h arr f) a := by
  refine F.congr (Nat.le_refl _) (fun _ _ => rfl) (hR_sRA_ne ?_)
  rintro rfl
  rw [F.2.2.1] at ht
  exact absurd ht (by decide)
theorem list_ext_gt {L M : List FV} (hl : L.length = M.length) (h : ∀ i : Nat, i < L.length → gt L i = gt M i) : L = M := by
  refine List.ext_getElem hl (fun i h1 h2 => ?_)
  have := h i h1
  rwa [gt_nat h1, gt_nat h2] at this
def swp (L : List FV) (i j : Int) : List FV := (List.range L.length).map (fun (k : Nat) => if (k : Int) = j then gt L i else if (k : Int) = i then gt L j else gt L k)
theorem swp_len {L : List FV} {i j : Int} : (swp L i j).length = L.length := by unfold swp; rw [List.length_map, List.length_range]
theorem gt_swp {L : List FV} {i j k : Int} (h0 : 0 ≤ k) (h1 : k < (L.length : Nat)) : gt (swp L i j) k = if k = j then gt L i else if k = i then gt L j else gt L k := by
  obtain ⟨n, rfl⟩ := Int.eq_ofNat_of_zero_le h0
  have hn : n < L.length := by omega
  rw [gt_nat (by rw [swp_len]; exact hn)]
  unfold swp
  rw [List.getElem_map, List.getElem_range]
def insA (L : List FV) (x : Int) (v : FV) : List FV := L.take x.toNat ++ v :: L.drop x.toNat
theorem insA_len {L : List FV} {x : Int} {v : FV} : (insA L x v).length = L.length + 1 := by
  unfold insA
  rw [List.length_append, List.length_cons, List.length_take, List.length_drop]
  omega
theorem gt_insA {L : List FV} {x k : Int} {v : FV} (hx : 0 ≤ x) (hx2 : x ≤ (L.length : Nat)) (h0 : 0 ≤ k) (h1 : k ≤ (L.length : Nat)) : gt (insA L x v) k = if k < x then gt L k else if k = x then v else gt L (k - 1) := by
  obtain ⟨n, rfl⟩ := Int.eq_ofNat_of_zero_le h0
  obtain ⟨m, rfl⟩ := Int.eq_ofNat_of_zero_le hx
  rw [gt_nat (by rw [insA_len]; omega)]
  unfold insA
  have htl : (L.take m).length = m := by rw [List.length_take]; omega
  by_cases c1 : n < m
  · rw [if_pos (by omega), gt_nat (by omega)]
    simp only [Int.toNat_natCast]
    rw [List.getElem_append_left (by rw [htl]; exact c1), List.getElem_take]
  · rw [if_neg (by omega)]
    simp only [Int.toNat_natCast]
    rw [List.getElem_append_right (by rw [htl]; omega)]
    by_cases c2 : n = m
    · subst c2
      rw [if_pos rfl]
      simp only [htl, Nat.sub_self, List.getElem_cons_zero]
    · rw [if_neg (by omega), show ((n : Int) - 1) = ((n - 1 : Nat) : Int) by omega, gt_nat (by omega)]
      obtain ⟨q, hq⟩ : ∃ q, n - (L.take m).length = q + 1 := ⟨n - m - 1, by rw [htl]; omega⟩
      simp only [hq, List.getElem_cons_succ, List.getElem_drop]
      congr 1
      rw [htl] at hq
      omega
theorem gt_drop {L : List FV} {m k : Nat} : gt (L.drop m) (k : Int) = gt L ((k + m : Nat) : Int) := by
  unfold gt
  simp only [Int.toNat_natCast, List.getD_eq_getElem?_getD, List.getElem?_drop, Nat.add_comm]
theorem gt_take {L : List FV} {m k : Nat} (h : k < m) : gt (L.take m) (k : Int) = gt L (k : Int) := by
  unfold gt
  simp only [Int.toNat_natCast, List.getD_eq_getElem?_getD, List.getElem?_take, if_pos h]
/-- the row's array and places change alone -/
theorem RowQ.re {h : HP} {r arr : Nat} {ad ad' : Nat → Nat} {al al' cap : Nat} {L L' : List FV} (W : RowQ h r arr ad al cap L) {f : Int → Option Nat} (hf : ∀ i : Nat, i < al' → f i = some (ad' i) ∧ FrP h (ad' i)) (hn : ∀ i : Nat, al' ≤ i → i < cap → f i = none) (hj : ∀ i j : Nat, i < al' → j < al' → ad' i = ad' j → i = j) (hl : L'.length = L.length) (ha : al ≤ al' ∧ al' ≤ cap) (hv : ∀ i : Nat, i < L'.length → fV h (ad' i) = gt L' i) : RowQ (sRA h arr f) r arr ad' al' cap L' := by
  obtain ⟨q1, q2, ⟨q5, q6, q7, q8⟩, q9, q10, q11, q12, q13, q14⟩ := W
  have hra : r ≠ arr := by
    rintro rfl
    rw [q1.2.2] at q7
    cases q7
  refine ⟨q1, by rw [hR_sRA_ne hra]; exact q2, ⟨q5, q6, q7, q8⟩, by rw [hl]; exact q9, by omega, fun i hi => ⟨by rw [hR_sRA]; exact (hf i hi).1, (hf i hi).2.sRA (by rw [q7])⟩, fun i h1 h2 => by rw [hR_sRA]; exact hn i h1 h2, hj, hv⟩
theorem sRA_two {h : HP} {arr : Nat} {i j : Int} {a b : Option Nat} : sR (sR h arr i a) arr j b = sRA h arr (fun k => if k = j then b else if k = i then a else hR h arr k) := by
  rw [show sR h arr i a = sRA h arr (fun k => if k = i then a else hR h arr k) by
    conv => lhs; rw [← sRA_self (h := h) (arr := arr) (f := fun k => hR h arr k) (fun _ => rfl)]
    exact sR_sRA]
  exact sR_sRA
theorem RowP.swap {H : HP} {o : Nat → Nat} {w : Nat → Nat × Nat} {r arr : Nat} {ad : Nat → Nat} {L : List FV} (p1 : o r = r) (p2 : okCap (w r).2) (W : RowQ H r arr ad (w r).1 (w r).2 L) (p3 : o arr = r) (p4 : ∀ i, i < (w r).1 → o (ad i) = r ∧ o (ad i + 1) = r ∧ o (ad i + 2) = r) {i j : Int} (hi : 0 ≤ i ∧ i < (L.length : Nat)) (hj : 0 ≤ j ∧ j < (L.length : Nat)) :
    ExtR H o w r (sR (sR H arr i (some (ad j.toNat))) arr j (some (ad i.toNat))) o w ∧ RowP (sR (sR H arr i (some (ad j.toNat))) arr j (some (ad i.toNat))) o w r (swp L i j) := by
  rw [sRA_two]
  have hl := W.2.2.2.2.1
  have h7 := W.2.2.1.2.2.1
  refine ⟨⟨Nat.le_refl _, fun _ _ => ⟨rfl, rfl⟩, fun b hb hg => ⟨rfl, hR_sRA_ne (fun e => hg (by rw [e]; exact p3))⟩, fun _ _ _ => rfl, fun _ _ => rfl, fun b h1 h2 => absurd h2 (Nat.not_lt.mpr h1), fun b hb => hb.sRA (by rw [h7]), fun _ _ => rfl, rfl, Nat.le_refl _⟩, p1, p2, arr, fun k => if (k : Int) = j then ad i.toNat else if (k : Int) = i then ad j.toNat else ad k, ?_, p3, fun k hk => ?_⟩
  · refine W.re (fun k hk => ?_) (fun k h1 h2 => ?_) (fun k l hk hl2 => ?_) swp_len ⟨Nat.le_refl _, hl.2⟩ (fun k hk => ?_)
    · try dsimp only
      split
      · exact ⟨rfl, (W.2.2.2.2.2.1 _ (by omega)).2⟩
      · split
        · exact ⟨rfl, (W.2.2.2.2.2.1 _ (by omega)).2⟩
        · exact W.2.2.2.2.2.1 k hk
    · rw [if_neg (by omega), if_neg (by omega)]
      exact W.2.2.2.2.2.2.1 k h1 h2
    · intro e
      have hinj := W.2.2.2.2.2.2.2.1
      have a1 := hinj i.toNat j.toNat (by omega) (by omega)
      have a2 := hinj i.toNat l (by omega) (by omega)
      have a3 := hinj k i.toNat (by omega) (by omega)
      have a4 := hinj j.toNat l (by omega) (by omega)
      have a5 := hinj k j.toNat (by omega) (by omega)
      have a6 := hinj k l (by omega) (by omega)
      have a7 := hinj j.toNat i.toNat (by omega) (by omega)
      split at e
      · split at e
        · omega
        · split at e
          · have := a1 e; omega
          · have := a2 e; omega
      · split at e
        · split at e
          · have := a7 e; omega
          · split at e
            · omega
            · have := a4 e; omega
        · split at e
          · have := a3 e; omega
          · split at e
            · have := a5 e; omega
            · exact a6 e
    · rw [swp_len] at hk
      rw [gt_swp (by omega) (by omega)]
      have hvv := W.2.2.2.2.2.2.2.2
      split
      · rw [hvv _ (by omega), Int.toNat_of_nonneg hi.1]
      · split
        · rw [hvv _ (by omega), Int.toNat_of_nonneg hj.1]
        · exact hvv k hk
  · dsimp only
    split
    · exact p4 _ (by omega)
    · split
      · exact p4 _ (by omega)
      · exact p4 k hk
theorem RowP.cut {H : HP} {o : Nat → Nat} {w : Nat → Nat × Nat} {r : Nat} {L : List FV} (P : RowP H o w r L) {k : Nat} (hk : k ≤ L.length) : ExtR H o w r (sI H r 1 (k : Nat)) o w ∧ RowP (sI H r 1 (k : Nat)) o w r (L.take k) := by
  obtain ⟨p1, p2, arr, ad, ⟨⟨q1, q2, q3⟩, q4, ⟨q5, q6, q7, q8⟩, q9, q10, q11, q12, q13, q14⟩, p3, p4⟩ := P
  have hne : ∀ b, (hTy H b).1 ≠ 4 → hI (sI H r 1 (k : Nat)) b = hI H b := fun b hb => hI_sI_ne (fun e => hb (by rw [e, q3]))
  refine ⟨⟨Nat.le_refl _, fun _ _ => ⟨rfl, rfl⟩, fun b hb hg => ⟨hI_sI_ne (fun e => hg (by rw [e]; exact p1)), rfl⟩, fun b _ ht => hne b (by rw [ht]; decide), fun j hj => by rw [hI_sI, if_neg (fun q => hj q.2)], fun b h1 h2 => absurd h2 (Nat.not_lt.mpr h1), fun b hb => hb, fun _ _ => rfl, rfl, Nat.le_refl _⟩, p1, p2, arr, ad, ⟨⟨q1, q2, q3⟩, q4, ⟨q5, q6, q7, q8⟩, ?_, ?_, q11, q12, q13, fun i hi => ?_⟩, p3, p4⟩
  · rw [hI_sI, if_pos ⟨rfl, rfl⟩, List.length_take]; congr 1; omega
  · rw [List.length_take]; omega
  · rw [List.length_take] at hi
    rw [gt_take (by omega)]
    have hF := (q11 i (by omega)).2
    rw [← q14 i (by omega)]
    exact fV_same (hne _ (by rw [hF.2.2.1]; decide)) (hne _ (by rw [hF.2.2.2.1]; decide)) (hne _ (by rw [hF.2.2.2.2.1]; decide))
set_option maxRecDepth 20000 in
set_option maxHeartbeats 2000000 in
theorem sp_R_swap {d : Nat} {h : HP} {o : Nat → Nat} {w : Nat → Nat × Nat} {r : Nat} {L : List FV} (hP : RowP h o w r L) {i j : Int} (hi : 0 ≤ i ∧ i < (L.length : Nat)) (hj : 0 ≤ j ∧ j < (L.length : Nat)) {Q : HP → Prop} (K : ∀ H', ExtR h o w r H' o w → RowP H' o w r (swp L i j) → Q H') : CaV d 92 [.inr (some r), .inl i, .inl j] h Q := by
  have hC : cod 92 = c_R_swap := rfl
  refine CaV.start rfl ?_
  obtain ⟨p1, p2, arr, ad, W, p3, p4⟩ := hP
  have hl := W.2.2.2.2.1
  have h7 := W.2.2.1
  have hra : r ≠ arr := by
    rintro rfl
    have := W.1.2.2
    rw [h7.2.2.1] at this
    cases this
  have hsw := RowP.swap p1 p2 W p3 p4 hi hj
  refine x_1 (p' := 1) hC rfl rfl rfl rfl ?_
  refine z_rf (p' := 2) W hC rfl rfl ?_
  refine x_1 (p' := 3) hC rfl rfl rfl rfl ?_
  refine z_ra (p' := 4) W hC rfl rfl rfl (by omega) (by omega) (fun hF3 hV3 => ?_)
  refine x_stA3 (p' := 5) hC rfl rfl rfl ?_
  refine x_1 (p' := 6) hC rfl rfl rfl rfl ?_
  refine z_rf (p' := 7) W hC rfl rfl ?_
  refine x_1 (p' := 8) hC rfl rfl rfl rfl ?_
  refine x_1 (p' := 9) hC rfl rfl rfl rfl ?_
  refine z_rf (p' := 10) W hC rfl rfl ?_
  refine x_1 (p' := 11) hC rfl rfl rfl rfl ?_
  refine z_ra (p' := 12) W hC rfl rfl rfl (by omega) (by omega) (fun hF11 hV11 => ?_)
  refine x_aast (p' := 13) hC rfl rfl rfl h7.2.2.1 rfl (by rw [hF11.2.2.1]) h7.1 (by omega) (by omega) ?_
  refine x_1 (p' := 14) hC rfl rfl rfl rfl ?_
  refine x_getR (p' := 15) (q := some arr) hC rfl rfl rfl W.ty (by rw [hR_sR_ne hra]; exact W.2.1) ?_
  refine x_1 (p' := 16) hC rfl rfl rfl rfl ?_
  refine x_1 (p' := 17) hC rfl rfl rfl rfl ?_
  refine x_aast (p' := 18) hC rfl rfl rfl (show hTy h arr = _ from h7.2.2.1) rfl (show (hTy h _).1 + 199 = 200 by rw [hF3.2.2.1]) h7.1 (by omega) (by omega) ?_
  refine x_ret hC rfl rfl rfl ⟨rfl, ?_⟩
  exact K _ hsw.1 hsw.2
theorem swp_same {L : List FV} {i : Int} : swp L i i = L := by
  refine list_ext_gt swp_len (fun k hk => ?_)
  rw [swp_len] at hk
  rw [gt_swp (by omega) (by omega)]
  split
  · rename_i e; rw [e]
  · rfl
set_option maxRecDepth 20000 in
theorem lp_R_remove {d : Nat} {h : HP} {o : Nat → Nat} {w : Nat → Nat × Nat} {r : Nat} {L : List FV} {m : Int} (hm : 0 ≤ m ∧ m ≤ (L.length : Nat)) {Q : HP → Prop} (K : ∀ H', ExtR h o w r H' o w → RowP H' o w r (L.drop m.toNat) → Q H') (k : Nat) : ∀ (i : Int) (H : HP), ((L.length : Nat) - i).toNat < k → (m ≤ i ∧ i ≤ (L.length : Nat)) → (∃ Lc, Lc.length = L.length ∧ (∀ j, 0 ≤ j → j < i - m → gt Lc j = gt L (j + m)) ∧ (∀ j, i ≤ j → j < (L.length : Nat) → gt Lc j = gt L j) ∧ ExtR h o w r H o w ∧ RowP H o w r Lc) → At (d + 1) 93 2 [some (.inr (some r)), some (.inl m), some (.inl i)] [] H (fun v h' => v = none ∧ Q h') := by
  have hC : cod 93 = c_R_removeFirst := rfl
  induction k with
  | zero =>
    intro i H hk
    exact absurd hk (Nat.not_lt_zero _)
  | succ k ih =>
    intro i H hk hI0 hI1
    obtain ⟨Lc, hlen, hA, hB, hE, hP⟩ := hI1
    have hP2 := hP
    obtain ⟨p1, p2, arr, ad, W, p3, p4⟩ := hP
    have hl := W.2.2.2.2.1
    have h7 := W.2.2.1
    have hra : r ≠ arr := by
      rintro rfl
      have := W.1.2.2
      rw [h7.2.2.1] at this
      cases this
    refine x_1 (p' := 3) hC rfl rfl rfl rfl ?_
    refine x_1 (p' := 4) hC rfl rfl rfl rfl ?_
    refine z_rs (p' := 5) W hC rfl rfl ?_
    refine x_icge (p' := 6) hC rfl rfl (fun c5 => ?_) (fun c5 => ?_)
    · refine x_1 (p' := 15) hC rfl rfl rfl rfl ?_
      refine x_1 (p' := 16) hC rfl rfl rfl rfl ?_
      refine z_rs (p' := 17) W hC rfl rfl ?_
      refine x_1 (p' := 18) hC rfl rfl rfl rfl ?_
      refine x_sub (p' := 19) hC rfl rfl rfl (⟨by omega, by omega⟩) ?_
      refine x_putI (p' := 20) hC rfl rfl rfl W.ty W.1.1 ?_
      refine x_ret hC rfl rfl rfl ⟨rfl, ?_⟩
      rw [show (((1 : Nat) : Int)) = 1 by rfl, show (((Lc.length : Nat) : Int) - m) = ((Lc.length - m.toNat : Nat) : Int) by omega]
      have hc := hP2.cut (k := Lc.length - m.toNat) (by omega)
      have hLL : Lc.take (Lc.length - m.toNat) = L.drop m.toNat := by
        refine list_ext_gt (by rw [List.length_take, List.length_drop]; omega) (fun j hj => ?_)
        rw [List.length_take] at hj
        rw [gt_take (by omega), gt_drop, hA j (by omega) (by omega)]
        congr 1
        omega
      rw [hLL] at hc
      exact K _ (hE.trans hc.1) hc.2
    · refine x_1 (p' := 7) hC rfl rfl rfl rfl ?_
      refine x_1 (p' := 8) hC rfl rfl rfl rfl ?_
      refine x_1 (p' := 9) hC rfl rfl rfl rfl ?_
      refine x_sub (p' := 10) hC rfl rfl rfl (⟨by omega, by omega⟩) ?_
      refine x_1 (p' := 11) hC rfl rfl rfl rfl ?_
      refine x_cVV2 (p' := 12) (n := 92) hC rfl rfl rfl rfl rfl (W.ty) ?_
      refine sp_R_swap hP2 (by omega) (by omega) (fun H2 hE2 hP3 => ?_)
      refine x_inc2 (p' := 13) hC rfl rfl (⟨by omega, by omega⟩) ?_
      refine x_1 (p' := 2) hC rfl rfl rfl rfl ?_
      refine ih _ _ (by omega) (by omega) ⟨swp Lc (i - m) i, by rw [swp_len]; exact hlen, fun j h0 h1 => ?_, fun j h0 h1 => ?_, hE.trans hE2, hP3⟩
      · rw [gt_swp (by omega) (by omega)]
        by_cases hj : j = i - m
        · rw [hj]
          by_cases hz : i - m = i
          · rw [if_pos hz, hB _ (by omega) (by omega)]; congr 1; omega
          · rw [if_neg hz, if_pos rfl, hB _ (by omega) (by omega)]; congr 1; omega
        · rw [if_neg (by omega), if_neg hj]; exact hA j h0 (by omega)
      · rw [gt_swp (by omega) (by omega), if_neg (by omega), if_neg (by omega)]; exact hB j (by omega) h1
set_option maxRecDepth 20000 in
set_option maxHeartbeats 2000000 in
theorem sp_R_removeFirst {d : Nat} {h : HP} {o : Nat → Nat} {w : Nat → Nat × Nat} {r : Nat} {L : List FV} (hP : RowP h o w r L) {m : Int} (hm : 0 ≤ m ∧ m ≤ (L.length : Nat)) {Q : HP → Prop} (K : ∀ H', ExtR h o w r H' o w → RowP H' o w r (L.drop m.toNat) → Q H') : CaV (d + 1) 93 [.inr (some r), .inl m] h Q := by
  have hC : cod 93 = c_R_removeFirst := rfl
  refine CaV.start rfl ?_
  refine x_1 (p' := 1) hC rfl rfl rfl rfl ?_
  refine x_stI2 (p' := 2) hC rfl rfl rfl ?_
  exact lp_R_remove (h := h) hm K _ m h (Nat.lt_succ_self _) (by omega) ⟨L, rfl, fun j h0 h1 => absurd h1 (by omega), fun _ _ _ => rfl, ExtR.refl, hP⟩

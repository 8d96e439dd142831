/-! THE LAW'S WORLD: the script at 2, the object at 3; now it is S with the rows R; if b, the latest state of the history has the time tm and ou outputs -/
def RW (L : Nat) (xs : Nat → Int32) (b : Prop) (tm ou : Int) (h : HP) (S : Nat → Int → Int) (R : Nat → List FV) : Prop :=
  ∃ U0 o w tr Sx Rx st, GP U0 h o w tr Sx Rx st ∧ (Sx 4 = S ∧ Rx 4 = R) ∧ (hTy h 2 = (100, L) ∧ ∀ j : Int, hI h 2 j = (xs j.toNat).toInt) ∧ hI h 5 1 = 0 ∧ U0 ≤ 10000 ∧ (b → ∃ n : Nat, n < 4 ∧ st = n + 1 ∧ cT (Sx n) 6 = tm ∧ cT (Sx n) 7 = ou ∧ CI (Sx n))
theorem RW.weak {L : Nat} {xs : Nat → Int32} {b : Prop} {tm ou tm' ou' : Int} {h : HP} {S : Nat → Int → Int} {R : Nat → List FV} (W : RW L xs b tm ou h S R) : RW L xs False tm' ou' h S R := by
  obtain ⟨U0, o, w, tr, Sx, Rx, st, G, e, sc, t5, u, _⟩ := W
  exact ⟨U0, o, w, tr, Sx, Rx, st, G, e, sc, t5, u, fun q => q.elim⟩
theorem RW.ty {L : Nat} {xs : Nat → Int32} {b : Prop} {tm ou : Int} {h : HP} {S : Nat → Int → Int} {R : Nat → List FV} (W : RW L xs b tm ou h S R) : (hTy h 3).1 = 6 + 1 := by
  obtain ⟨U0, o, w, tr, Sx, Rx, st, G, _⟩ := W
  exact G.face.1
theorem RW.scr {L : Nat} {xs : Nat → Int32} {b : Prop} {tm ou : Int} {h : HP} {S : Nat → Int → Int} {R : Nat → List FV} (W : RW L xs b tm ou h S R) : hTy h 2 = (100, L) ∧ ∀ j : Int, hI h 2 j = (xs j.toNat).toInt := by
  obtain ⟨U0, o, w, tr, Sx, Rx, st, G, _, sc, _⟩ := W
  exact sc
theorem RW.room {L : Nat} {xs : Nat → Int32} {b : Prop} {tm ou : Int} {h : HP} {S : Nat → Int → Int} {R : Nat → List FV} (W : RW L xs b tm ou h S R) : hZ h ≤ 600003 ∧ hU h ≤ 7302250 := by
  obtain ⟨U0, o, w, tr, Sx, Rx, st, G, _, _, _, u, _⟩ := W
  have := G.room
  omega
theorem RW.cnt {L : Nat} {xs : Nat → Int32} {b : Prop} {tm ou : Int} {h : HP} {S : Nat → Int → Int} {R : Nat → List FV} (W : RW L xs b tm ou h S R) : CntR S R := by
  obtain ⟨U0, o, w, tr, Sx, Rx, st, G, ⟨rfl, rfl⟩, _⟩ := W
  exact (G.T (show 4 < 6 by decide)).cnt
theorem ck_scr {L : Nat} {xs : Nat → Int32} {h H : HP} (c : CK h H) (s : hTy h 2 = (100, L) ∧ ∀ j : Int, hI h 2 j = (xs j.toNat).toInt) (t : hI h 5 1 = 0) : (hTy H 2 = (100, L) ∧ ∀ j : Int, hI H 2 j = (xs j.toNat).toInt) ∧ hI H 5 1 = 0 := by
  have c2 := c 2 (Or.inl (by decide))
  have c5 := c 5 (Or.inl (by decide))
  exact ⟨⟨by rw [c2.1]; exact s.1, fun j => by rw [c2.2.1]; exact s.2 j⟩, by rw [c5.2.1]; exact t⟩
section RWR
variable {L : Nat} {xs : Nat → Int32} {b : Prop} {tm ou n : Int} {d : Nat} {h : HP} {S : Nat → Int → Int} {R : Nat → List FV} {Q : Int → HP → Prop}
theorem rw_hubOf (W : RW L xs b tm ou h S R) (hc : CI S) {g v : Int} (K : Q (qHubOf S R g v) h) : CaI (d + 7) 169 [.inr (some 3), .inl g, .inl v] h Q := by
  obtain ⟨U0, o, w, tr, Sx, Rx, st, G, ⟨rfl, rfl⟩, _⟩ := W
  exact sp_P_hubOf G hc K
theorem rw_unitOf (W : RW L xs b tm ou h S R) (hc : CfgS S) {u v : Int} (K : Q (qUnitOf S R u v) h) : CaI (d + 7) 170 [.inr (some 3), .inl u, .inl v] h Q := by
  obtain ⟨U0, o, w, tr, Sx, Rx, st, G, ⟨rfl, rfl⟩, _⟩ := W
  exact sp_P_unitOf G hc.ci (fun g a q => by have := hc.dp a (by have := hc.1.1; omega); omega) K
theorem rw_unitAt (W : RW L xs b tm ou h S R) (hc : CI S) {g x : Int} (K : Q (qUnitAt S g x) h) : CaI (d + 7) 171 [.inr (some 3), .inl g, .inl x] h Q := by
  obtain ⟨U0, o, w, tr, Sx, Rx, st, G, ⟨rfl, rfl⟩, _⟩ := W
  exact sp_P_unitAt G hc K
theorem rw_slotAt (W : RW L xs b tm ou h S R) (hI : IvvN n S R) {g x v : Int} (hx : x ≤ 2147483647) (K : ∀ H S', RW L xs b tm ou H S' R → SX S S' → Q (qSlotAt S R g x v) H) : CaI (d + 7) 174 [.inr (some 3), .inl g, .inl x, .inl v] h Q := by
  obtain ⟨U0, o, w, tr, Sx, Rx, st, G, ⟨rfl, rfl⟩, sc, t5, u, hb⟩ := W
  have c4 := hI.1.1.1.1
  have t6 := hI.1.2.1
  refine sp_P_slotAt G hI.1.1.ci (fun g a q => hI.rowok ⟨a, by omega⟩) (fun g a q => (hI.1.1.2.2.2.1 g a (by omega)).2.1) (by omega) hx (fun H S' G' ck e => K H S' ?_ (fun m _ _ _ h9 _ => e m h9))
  have c := ck_scr ck sc t5
  refine ⟨U0, o, w, tr, upG Sx 4 S', Rx, st, G', ⟨upG_eq, rfl⟩, c.1, c.2, u, fun q => ?_⟩
  obtain ⟨k, k1, k2, k3, k4, k5⟩ := hb q
  refine ⟨k, k1, k2, ?_⟩
  rw [upG_ne (by omega)]
  exact ⟨k3, k4, k5⟩
theorem rw_outAt (W : RW L xs b tm ou h S R) (hI : IvvN n S R) {i v : Int} (K : Q (qOutAt S i v) h) : CaI (d + 7) 175 [.inr (some 3), .inl i, .inl v] h Q := by
  obtain ⟨U0, o, w, tr, Sx, Rx, st, G, ⟨rfl, rfl⟩, _⟩ := W
  obtain ⟨⟨hc, h6, hh, ho, h7, hl⟩, _⟩ := hI
  have s0 := slB_le hc (g := 0) ⟨by decide, by decide⟩
  refine sp_P_outAt G ?_ (fun j a q => ?_) K
  · rw [h7]
    rcases (hh 0 (by decide) (by decide)).2.2.2.2 with z | z <;> omega
  · have := (ho j a q).1.1
    unfold OFS at this
    omega
theorem rw_readingAt (W : RW L xs b tm ou h S R) (hI : IvvN n S R) {i u v : Int} (K : Q (qReadAt S i u v) h) : CaI (d + 7) 176 [.inr (some 3), .inl i, .inl u, .inl v] h Q := by
  obtain ⟨U0, o, w, tr, Sx, Rx, st, G, ⟨rfl, rfl⟩, _⟩ := W
  obtain ⟨⟨hc, h6, hh, ho, h7, hl⟩, _⟩ := hI
  have s0 := slB_le hc (g := 0) ⟨by decide, by decide⟩
  refine sp_P_readingAt G hc.ci ?_ K
  rw [h7]
  rcases (hh 0 (by decide) (by decide)).2.2.2.2 with z | z <;> omega
theorem rw_count (W : RW L xs b tm ou h S R) (hc : CI S) {v : Int} (hv : 0 ≤ v ∧ v ≤ 8) (K : Q (cTot S v) h) : CaI (d + 7) 180 [.inr (some 3), .inl v] h Q := by
  obtain ⟨U0, o, w, tr, Sx, Rx, st, G, ⟨rfl, rfl⟩, sc, t5, _⟩ := W
  have hO : OT h h 0 (hI h 5 2) (hI h 5 3) (hI h 5 5) (hI h 5 6) (hI h 5 7) (hI h 6) (hI h 7) := ⟨EO.refl, G.2.2.2.2.2.1, ⟨t5, rfl, rfl, rfl, rfl, rfl⟩, rfl, rfl⟩
  exact sp_P_count G hc hO (by decide) (fun q => by omega) (fun q => by omega) (fun _ => K) (fun q => absurd ⟨hv.1, by omega⟩ q)
theorem CQ.ci {S0 R2 R' : Nat → List FV} {S2 S' : Nat → Int → Int} (h : CQ S0 S2 R2 S' R') (c : CI S2) : CI S' := by
  obtain ⟨q1, _, q3, q4, _⟩ := h
  obtain ⟨a, b', e, f⟩ := c
  refine ⟨by rw [q1 4 (by decide) (by decide)]; exact a, by rw [q1 5 (by decide) (by decide)]; exact b', fun g x y => ?_, fun u x y => ?_⟩
  · rw [q1 4 (by decide) (by decide)] at y
    have z := q3 g x y
    rw [z.1 3 (by decide) (by decide), z.2.1 4 (by decide) (by decide), z.2.1 3 (by decide) (by decide)]
    exact e g x y
  · rw [q1 5 (by decide) (by decide)] at y
    have z := q4 u x y
    rw [q1 4 (by decide) (by decide), z 0 (by decide) (by decide), z 1 (by decide) (by decide)]
    exact f u x y
theorem rem_hist {st st' : Int} {Sx S' : Nat → Nat → Int → Int} {Rx R' : Nat → Nat → List FV} (h : RemP st Sx Rx S' R' st') (c : CI (Sx 4)) {S2 : Nat → Int → Int} : ∃ n : Nat, n < 4 ∧ st' = n + 1 ∧ cT (upG S' 4 S2 n) 6 = cT (Sx 4) 6 ∧ cT (upG S' 4 S2 n) 7 = cT (Sx 4) 7 ∧ CI (upG S' 4 S2 n) := by
  obtain ⟨n, n4, _, e, _, _, ⟨q, _, cq⟩, _⟩ := h
  refine ⟨n, n4, e, ?_⟩
  rw [upG_ne (by omega)]
  exact ⟨cq.1 6 (by decide) (by decide), cq.1 7 (by decide) (by decide), CQ.ci cq c⟩
theorem rw_pass (W : RW L xs b tm ou h S R) (hI : IvvN n S R) (hn : n ≤ 100) {m : Int} (hm : 1 ≤ m ∧ m ≤ 100) (ht : cT S 6 + m ≤ 1000) (K : ∀ H S' R', RW L xs True (cT S 6) (cT S 7) H S' R' → PTk n (cT S 6) (cT S 7) m S' R' → Q (cT S 6 + m) H) : CaI (d + 7) 173 [.inr (some 3), .inl m] h Q := by
  obtain ⟨U0, o, w, tr, Sx, Rx, st, G, ⟨rfl, rfl⟩, sc, t5, u, hb⟩ := W
  have hC := hI.1
  have t6 := hC.2.1
  have e0 : cEla (Sx 4) m = 0 := by
    unfold cEla
    rw [if_neg (by omega), if_pos (by omega)]
  have h7 : 0 ≤ cT (Sx 4) 7 := by
    rw [hC.2.2.2.2.1]
    rcases (hC.2.2.1 0 (by decide) (by decide)).2.2.2.2 with z | z <;> omega
  refine sp_P_pass G hC.1.ci h7 (fun u a q => (hC.1.2.2.2.2.1 u a (by have := hC.1.1.2; omega)).2.2) (by omega) (PT := PTk n (cT (Sx 4) 6) (cT (Sx 4) 7) m) (fun _ {h} {o} {w} {t} {Q} TT KK => sp_el hn hI ⟨by omega, ht⟩ TT KK) (fun q => absurd e0 q) (fun _ H o' w' tr' S' R' st' S2 R2 G' ck rp pt => ?_)
  rw [pt.2.1]
  have c := ck_scr ck sc t5
  exact K H S2 R2 ⟨U0, o', w', tr', upG S' 4 S2, upG R' 4 R2, st', G', ⟨upG_eq, upG_eq⟩, c.1, c.2, u, fun _ => rem_hist rp hC.1.ci⟩ pt
theorem rw_send (W : RW L xs b tm ou h S R) (hc : CI S) (h7 : 0 ≤ cT S 7) (hb : ∀ u : Int, 0 ≤ u → u < cT S 5 → 0 ≤ cU S u 2 ∧ cU S u 2 ≤ 1) (htm : 0 ≤ cT S 6 ∧ cT S 6 ≤ 100000) {u s1 v fl tk : Int} (K1 : ¬ cDep S u s1 v fl tk = 0 → Q (cDep S u s1 v fl tk) h) (K2 : cDep S u s1 v fl tk = 0 → ∀ H, RW L xs False 0 0 H (upX (upX (upF S 6 (cDpV S u s1 v fl tk)) 3 1 (((R 3).length : Nat) + 1)) (46 + u.toNat) 3 (wr (cU S u 3 + 1))) (upR R 3 (insA (R 3) ((R 3).length : Nat) (cDpV S u s1 v fl tk))) → Q ((((R 3).length : Nat) : Int) + 1) H) : CaI (d + 7) 172 [.inr (some 3), .inl u, .inl s1, .inl v, .inl fl, .inl tk] h Q := by
  obtain ⟨U0, o, w, tr, Sx, Rx, st, G, ⟨rfl, rfl⟩, sc, t5, uu, _⟩ := W
  refine sp_P_send G hc h7 hb htm K1 (fun q H o' w' tr' S' R' st' G' ck rp => K2 q H ?_)
  have c := ck_scr ck sc t5
  exact ⟨U0, o', w', tr', _, _, st', G', ⟨upG_eq, upG_eq⟩, c.1, c.2, uu, fun z => z.elim⟩
theorem rw_takeOff (W : RW L xs b tm ou h S R) (hc : CI S) (h7 : 0 ≤ cT S 7) (hb : ∀ u : Int, 0 ≤ u → u < cT S 5 → 0 ≤ cU S u 2 ∧ cU S u 2 ≤ 1) {u : Int} (K1 : ¬ cRet S u = 0 → Q (cRet S u) h) (K2 : cRet S u = 0 → ∀ H, RW L xs False 0 0 H (upX S (46 + u.toNat) 2 1) R → Q (cUnder (upX S (46 + u.toNat) 2 1) 0) H) : CaI (d + 7) 167 [.inr (some 3), .inl u] h Q := by
  obtain ⟨U0, o, w, tr, Sx, Rx, st, G, ⟨rfl, rfl⟩, sc, t5, uu, _⟩ := W
  refine sp_P_takeOff G hc h7 hb K1 (fun q H o' w' tr' S' R' st' G' ck rp => K2 q H ?_)
  have c := ck_scr ck sc t5
  exact ⟨U0, o', w', tr', _, _, st', G', ⟨upG_eq, upG_eq⟩, c.1, c.2, uu, fun z => z.elim⟩
theorem rw_set (W : RW L xs b tm ou h S R) (hc : CI S) (h7 : 0 ≤ cT S 7) (hb : ∀ u : Int, 0 ≤ u → u < cT S 5 → 0 ≤ cU S u 2 ∧ cU S u 2 ≤ 1) {g k v : Int} (h0 : cSetE S g k v = 0) (K2 : ∀ H, RW L xs False 0 0 H (upX S (12 + 7 * g.toNat) k v) R → Q (cSe S g k) H) : CaI (d + 7) 168 [.inr (some 3), .inl g, .inl k, .inl v] h Q := by
  obtain ⟨U0, o, w, tr, Sx, Rx, st, G, ⟨rfl, rfl⟩, sc, t5, uu, _⟩ := W
  refine sp_P_set G hc h7 hb (fun q => absurd h0 q) (fun q H o' w' tr' S' R' st' G' ck rp => K2 H ?_)
  have c := ck_scr ck sc t5
  exact ⟨U0, o', w', tr', _, _, st', G', ⟨upG_eq, upG_eq⟩, c.1, c.2, uu, fun z => z.elim⟩
theorem rw_hub (W : RW L xs b tm ou h S R) (hc : CI S) (h7 : 0 ≤ cT S 7) (hb : ∀ u : Int, 0 ≤ u → u < cT S 5 → 0 ≤ cU S u 2 ∧ cU S u 2 ≤ 1) (hd : ∀ g : Int, 0 ≤ g → g < cT S 4 → 0 ≤ cH S g 4 ∧ cH S g 4 ≤ 100) {a p : Int} (h0 : cJoin S a p (if cT S 4 < 5 then 1 else 0) = 0) (K2 : ∀ H, RW L xs False 0 0 H (upX (cHb S (cT S 4) a (cH S a 4 + 1) p) 0 4 (cT S 4 + 1)) (upR R (13 + 7 * (cT S 4).toNat) []) → Q (cT S 4) H) : CaI (d + 7) 165 [.inr (some 3), .inl a, .inl p] h Q := by
  obtain ⟨U0, o, w, tr, Sx, Rx, st, G, ⟨rfl, rfl⟩, sc, t5, uu, _⟩ := W
  refine sp_P_hub G hc h7 hb hd (fun q => absurd h0 q) (fun q H o' w' tr' S' R' st' G' ck rp => K2 H ?_)
  have c := ck_scr ck sc t5
  exact ⟨U0, o', w', tr', _, _, st', G', ⟨upG_eq, upG_eq⟩, c.1, c.2, uu, fun z => z.elim⟩
theorem rw_unit (W : RW L xs b tm ou h S R) (hc : CI S) (h7 : 0 ≤ cT S 7) (hb : ∀ u : Int, 0 ≤ u → u < cT S 5 → 0 ≤ cU S u 2 ∧ cU S u 2 ≤ 1) (hd : ∀ g : Int, 0 ≤ g → g < cT S 4 → 0 ≤ cH S g 4 ∧ cH S g 4 ≤ 100) {a p : Int} (h0 : cJoin S a p (if cT S 5 < 10 then 1 else 0) = 0) (K2 : ∀ H, RW L xs False 0 0 H (upX (cUb S (cT S 5) a p) 0 5 (cT S 5 + 1)) R → Q (cT S 5) H) : CaI (d + 7) 166 [.inr (some 3), .inl a, .inl p] h Q := by
  obtain ⟨U0, o, w, tr, Sx, Rx, st, G, ⟨rfl, rfl⟩, sc, t5, uu, _⟩ := W
  refine sp_P_unit G hc h7 hb hd (fun q => absurd h0 q) (fun q H o' w' tr' S' R' st' G' ck rp => K2 H ?_)
  have c := ck_scr ck sc t5
  exact ⟨U0, o', w', tr', _, _, st', G', ⟨upG_eq, upG_eq⟩, c.1, c.2, uu, fun z => z.elim⟩
theorem rw_undo (W : RW L xs True tm ou h S R) (K : ∀ x H S' R', 0 ≤ x → RW L xs False 0 0 H S' R' → cT S' 6 = tm → cT S' 7 = ou → CI S' → Q x H) : CaI (d + 7) 181 [.inr (some 3)] h Q := by
  obtain ⟨U0, o, w, tr, Sx, Rx, st, G, _, sc, t5, uu, hb⟩ := W
  obtain ⟨k, k1, k2, k3, k4, k5⟩ := hb trivial
  refine sp_P_undo G (fun q => by omega) (fun m m4 e H G' ck => ?_)
  have c := ck_scr ck sc t5
  have em : m = k := by omega
  subst em
  have es : swr m 4 = m := if_pos rfl
  exact K _ H _ _ (by omega) ⟨U0, o, w, _, _, _, _, G', ⟨rfl, rfl⟩, c.1, c.2, uu, fun z => z.elim⟩ (by show cT (Sx (swr m 4)) 6 = tm; rw [es]; exact k3) (by show cT (Sx (swr m 4)) 7 = ou; rw [es]; exact k4) (by show CI (Sx (swr m 4)); rw [es]; exact k5)
end RWR

section AD2
variable {G : GG} {p : Program} {l : Launch} {e : Env} {R : Room} {s : State} {m : MethodId} {args : Array Value} {below : List Frame} {meth : Method} {c : Code} {H : Heap} {locs : List Loc} {cells slots : Nat} {Q : State → Prop}
variable {y d pos : Nat} {lsM : Array Slot} {ls : Ls} {st : List AV} {h : HP}
def Kn (G : GG) (p : Program) (l : Launch) (e : Env) (R : Room) (s : State) (m : MethodId) (args : Array Value) (below : List Frame) (meth : Method) (c : Code) (cells slots : Nat) (Q : State → Prop) (y : Nat) (h : HP) (c1 : Cf) : Prop :=
  ∀ (H : Heap) (locs : List Loc) (lsM : Array Slot), Cg G s y H locs lsM c1.2.1 c1.2.2.1 c1.2.2.2 → W p l e R s m args below meth c H locs (cells + (hZ c1.2.2.2 - hZ h)) (slots + (hU c1.2.2.2 - hU h)) Q (F0 m (pcO y c1.1) lsM (c1.2.2.1.map (mv G.2.2)))
theorem Kn_h {t : Nat} {ls' : Ls} {st' : List AV} {h' : HP} (hz : hZ h' = hZ h) (hu : hU h' = hU h) (K : Kn G p l e R s m args below meth c cells slots Q y h (t, ls', st', h')) (hC : Cg G s y H locs lsM ls' st' h') : W p l e R s m args below meth c H locs cells slots Q (F0 m (pcO y t) lsM (st'.map (mv G.2.2))) := by
  have h1 := K H locs lsM hC
  dsimp only at h1
  rw [hz, hu, Nat.sub_self, Nat.sub_self, Nat.add_zero, Nat.add_zero] at h1
  exact h1
theorem Kn_s {t : Nat} {ls' : Ls} {st' : List AV} (K : Kn G p l e R s m args below meth c cells slots Q y h (t, ls', st', h)) (hC : Cg G s y H locs lsM ls' st' h) : W p l e R s m args below meth c H locs cells slots Q (F0 m (pcO y t) lsM (st'.map (mv G.2.2))) := Kn_h rfl rfl K hC
theorem a_if {cd : ClassFile.Cond} {off : Int} {t : Nat} {x : Int} {r : List Value} (hx : p.tables.exec = Jvm.exec) (hb : c.code = hBy y) (hdg : decode (hBy y) (pcO y pos) = .ok (.ifCond cd off, 3)) (hnx : pcO y (pos + 1) = pcO y pos + 3) (ht : (pcO y pos : Int) + off = (pcO y t : Int)) (hxr : inR x)
    (K : W p l e R s m args below meth c H locs cells slots Q (F0 m (pcO y (if cndZ cd x 0 = true then t else pos + 1)) lsM r)) : W p l e R s m args below meth c H locs cells slots Q (F0 m (pcO y pos) lsM (.int (iS x) :: r)) := by
  have e0 : iS x = 0 ↔ x = 0 := iS_eq hxr inR_0
  have l0 : iS x < 0 ↔ x < 0 := iS_lt hxr inR_0
  have g0 : 0 < iS x ↔ 0 < x := iS_lt inR_0 hxr
  have le0 : iS x ≤ 0 ↔ x ≤ 0 := iS_le hxr inR_0
  have ge0 : 0 ≤ iS x ↔ 0 ≤ x := iS_le inR_0 hxr
  cases cd <;> simp only [cndZ, decide_eq_true_eq] at K
  · exact lv_if_eq hx hb hdg ht (fun q => by rw [if_pos (e0.mp q)] at K; exact K) (fun q => by rw [if_neg (fun z => q (e0.mpr z)), hnx] at K; exact K)
  · exact lv_if_ne hx hb hdg ht (fun q => by rw [if_pos (fun z => q (e0.mpr z))] at K; exact K) (fun q => by rw [if_neg (fun z => z (e0.mp q)), hnx] at K; exact K)
  · exact lv_if_lt hx hb hdg ht (fun q => by rw [if_pos (l0.mp q)] at K; exact K) (fun q => by rw [if_neg (fun z => q (l0.mpr z)), hnx] at K; exact K)
  · refine lv_if_ge hx hb hdg ht (fun q => ?_) (fun q => ?_)
    · rw [if_pos (by first | exact ge0.mp q | exact Int.not_lt.mp (fun z => q (l0.mpr z)))] at K; exact K
    · rw [if_neg (by first | exact fun z => q (ge0.mpr z) | exact fun z => absurd (l0.mp q) (Int.not_lt.mpr z) | (intro z; exact q (fun w => absurd (l0.mp w) (Int.not_lt.mpr z)))), hnx] at K; exact K
  · refine lv_if_gt hx hb hdg ht (fun q => ?_) (fun q => ?_)
    · rw [if_pos (by first | exact g0.mp q | exact Int.not_le.mp (fun z => q (le0.mpr z)))] at K; exact K
    · rw [if_neg (by first | exact fun z => q (g0.mpr z) | exact fun z => absurd (le0.mp q) (Int.not_le.mpr z)), hnx] at K; exact K
  · exact lv_if_le hx hb hdg ht (fun q => by rw [if_pos (le0.mp q)] at K; exact K) (fun q => by rw [if_neg (fun z => q (le0.mpr z)), hnx] at K; exact K)
theorem a_icmp {cd : ClassFile.Cond} {off : Int} {t : Nat} {x z : Int} {r : List Value} (hx : p.tables.exec = Jvm.exec) (hb : c.code = hBy y) (hdg : decode (hBy y) (pcO y pos) = .ok (.if_icmp cd off, 3)) (hnx : pcO y (pos + 1) = pcO y pos + 3) (ht : (pcO y pos : Int) + off = (pcO y t : Int)) (hxr : inR x) (hzr : inR z)
    (K : W p l e R s m args below meth c H locs cells slots Q (F0 m (pcO y (if cndZ cd x z = true then t else pos + 1)) lsM r)) : W p l e R s m args below meth c H locs cells slots Q (F0 m (pcO y pos) lsM (.int (iS z) :: .int (iS x) :: r)) := by
  have e0 : iS x = iS z ↔ x = z := iS_eq hxr hzr
  have l0 : iS x < iS z ↔ x < z := iS_lt hxr hzr
  have g0 : iS z < iS x ↔ z < x := iS_lt hzr hxr
  have le0 : iS x ≤ iS z ↔ x ≤ z := iS_le hxr hzr
  have ge0 : iS z ≤ iS x ↔ z ≤ x := iS_le hzr hxr
  cases cd <;> simp only [cndZ, decide_eq_true_eq] at K
  · exact lv_icmp_eq hx hb hdg ht (fun q => by rw [if_pos (e0.mp q)] at K; exact K) (fun q => by rw [if_neg (fun z => q (e0.mpr z)), hnx] at K; exact K)
  · exact lv_icmp_ne hx hb hdg ht (fun q => by rw [if_pos (fun z => q (e0.mpr z))] at K; exact K) (fun q => by rw [if_neg (fun z => z (e0.mp q)), hnx] at K; exact K)
  · exact lv_icmp_lt hx hb hdg ht (fun q => by rw [if_pos (l0.mp q)] at K; exact K) (fun q => by rw [if_neg (fun z => q (l0.mpr z)), hnx] at K; exact K)
  · refine lv_icmp_ge hx hb hdg ht (fun q => ?_) (fun q => ?_)
    · rw [if_pos (by first | exact ge0.mp q | exact Int.not_lt.mp (fun z => q (l0.mpr z)))] at K; exact K
    · rw [if_neg (by first | exact fun z => q (ge0.mpr z) | exact fun z => absurd (l0.mp q) (Int.not_lt.mpr z)), hnx] at K; exact K
  · refine lv_icmp_gt hx hb hdg ht (fun q => ?_) (fun q => ?_)
    · rw [if_pos (by first | exact g0.mp q | exact Int.not_le.mp (fun z => q (le0.mpr z)))] at K; exact K
    · rw [if_neg (by first | exact fun z => q (g0.mpr z) | exact fun z => absurd (le0.mp q) (Int.not_le.mpr z)), hnx] at K; exact K
  · exact lv_icmp_le hx hb hdg ht (fun q => by rw [if_pos (le0.mp q)] at K; exact K) (fun q => by rw [if_neg (fun z => q (le0.mpr z)), hnx] at K; exact K)
theorem tgtsO_at : ∀ (os : List Int) (ts : List Nat) (y pos : Nat), tgtsO y pos os ts = true → ∀ (j t : Nat), ts[j]? = some t → ∃ o, os[j]? = some o ∧ (pcO y pos : Int) + o = (pcO y t : Int)
  | [], [], _, _, _, j, t, ht => by simp at ht
  | [], a :: ts, _, _, h, _, _, _ => by simp [tgtsO] at h
  | o :: os, [], _, _, h, _, _, _ => by simp [tgtsO] at h
  | o :: os, a :: ts, y, pos, h, j, t, ht => by
    simp only [tgtsO, Bool.and_eq_true] at h
    match j, ht with
    | 0, ht =>
      simp only [List.getElem?_cons_zero, Option.some.injEq] at ht
      subst ht
      exact ⟨o, rfl, of_decide_eq_true h.1⟩
    | j + 1, ht =>
      rw [List.getElem?_cons_succ] at ht
      obtain ⟨o', h1, h2⟩ := tgtsO_at os ts y pos h.2 j t ht
      exact ⟨o', by rw [List.getElem?_cons_succ]; exact h1, h2⟩
theorem e_key_off : ∀ (ps : List (Int × Int)) (n : Nat) (d x : Int) (os : List Int), (e_key x ps (n + 1) = 0 ∧ Op.lookupswitch.offset ps d x = d) ∨ ∃ j q, e_key x ps (n + 1) = n + 1 + j ∧ ps[j]? = some q ∧ Op.lookupswitch.offset ps d x = q.2
  | [], n, d, x, _ => Or.inl ⟨rfl, rfl⟩
  | (a, o) :: ps, n, d, x, os => by
    by_cases hx : x = a
    · exact Or.inr ⟨0, (a, o), by simp [e_key, hx], rfl, by rw [Op.lookupswitch.offset_cons, if_pos hx.symm]⟩
    · have e1 : e_key x ((a, o) :: ps) (n + 1) = e_key x ps (n + 1 + 1) := by simp [e_key, hx]
      have e2 : Op.lookupswitch.offset ((a, o) :: ps) d x = Op.lookupswitch.offset ps d x := by rw [Op.lookupswitch.offset_cons, if_neg (fun z => hx z.symm)]
      rw [e1, e2]
      rcases e_key_off ps (n + 1) d x os with h | ⟨j, q, h1, h2, h3⟩
      · exact Or.inl h
      · exact Or.inr ⟨j + 1, q, by rw [h1]; omega, by rw [List.getElem?_cons_succ]; exact h2, h3⟩
theorem hZ_new {h : HP} {t : Nat × Nat} {n : Nat} : hZ (sNew h t n) - hZ h = 1 := Nat.add_sub_cancel_left (n := hZ h) (m := 1)
theorem hU_new {h : HP} {t : Nat × Nat} {n : Nat} : hU (sNew h t n) - hU h = n := Nat.add_sub_cancel_left (n := hU h) (m := n)
theorem va_S_new {A : Nat → Prop} {H0 H1 : Heap} (hS : va_S A H0 H locs) (hz : H1.size = H.size + 1) (o1 : ∀ q, q < H.size → H1[q]? = H[q]?) : va_S A H0 H1 locs :=
  ⟨Nat.le_trans hS.1 (by omega), fun x h1 h2 => (o1 x (Nat.lt_of_lt_of_le h1 hS.1)).trans (hS.2.1 x h1 h2), hS.2.2⟩
theorem Kn_new {t : Nat × Nat} {n : Nat} {H1 : Heap} {r : List AV} (K : Kn G p l e R s m args below meth c cells slots Q y h (pos + 1, ls, .inr (some (hZ h)) :: r, sNew h t n)) (hC : Cg G s y H locs lsM ls st h) (hr : okSt r) (hRp : Rep G (sNew h t n) H1) (hz : H1.size = H.size + 1) (o1 : ∀ q, q < H.size → H1[q]? = H[q]?) :
    W p l e R s m args below meth c H1 locs (cells + 1) (slots + n) Q (F0 m (pcO y (pos + 1)) lsM (.ref (adr G.2.2 (hZ h)) :: r.map (mv G.2.2))) := by
  have h1 := K H1 locs lsM ⟨hC.1, hC.2.1, okSt_cons.mpr ⟨trivial, hr⟩, okH_sNew hC.2.2.2.1, hRp, va_S_new hC.2.2.2.2.2 hz o1⟩
  dsimp only at h1
  rw [hZ_new, hU_new] at h1
  exact h1
theorem a_newp {t : Nat} {ty : ArrayType} {n : Int} {r : List AV} (hx : p.tables.exec = Jvm.exec) (hb : c.code = hBy y) (hts : ∀ w ∈ evT, w.before args s = true) (hWK : WK G s) (ht : (t = 0 ∧ ty = .int) ∨ (t = 1 ∧ ty = .char)) (hn0 : 0 ≤ n) (hn1 : n ≤ 100000) (hC : Cg G s y H locs lsM ls (.inl n :: r) h)
    (hdg : decode (hBy y) (pcO y pos) = .ok (.newarray ty, 2)) (hnx : pcO y (pos + 1) = pcO y pos + 2) (hroom : cells + 1 ≤ R.cells ∧ slots + n.toNat ≤ R.slots)
    (K : Kn G p l e R s m args below meth c cells slots Q y h (pos + 1, ls, .inr (some (hZ h)) :: r, sNew h (100 + t, n.toNat) n.toNat)) : W p l e R s m args below meth c H locs cells slots Q (F0 m (pcO y pos) lsM (.int (iS n) :: r.map (mv G.2.2))) := by
  have hRp := hC.2.2.2.2.1
  have hnr : inR n := ⟨by omega, by omega⟩
  have hok : okK t = true := by rcases ht with ⟨rfl, -⟩ | ⟨rfl, -⟩ <;> rfl
  have hty : newarray.typeOf ty = arT t := by rcases ht with ⟨rfl, rfl⟩ | ⟨rfl, rfl⟩ <;> rfl
  have hcl : (Jvm.Cond.arrayClass (newarray.typeOf ty)).before args s = true := by
    rcases ht with ⟨-, rfl⟩ | ⟨-, rfl⟩
    · exact hts _ clP.1
    · exact hts _ clP.2.1
  have hcb : componentBytes (newarray.typeOf ty) ≤ 4 := by rcases ht with ⟨-, rfl⟩ | ⟨-, rfl⟩ <;> decide
  have hdv : defaultValue (newarray.typeOf ty) = .int 0 := by rcases ht with ⟨-, rfl⟩ | ⟨-, rfl⟩ <;> rfl
  refine va_newaK hx hb hcl rfl hdg rfl (n := iS n) (N := n.toNat) (fun q => by have := (iS_lt hnr inR_0).mp q; omega) (iS_nat hn0 hnr.2) (by
    have := Nat.mul_le_mul_left n.toNat hcb
    omega) hroom.1 hroom.2 rfl fun H1 cA e1 z1 o1 hAr hNm => ?_
  have hcA : cA = G.2.1 t := by
    have h2 := (hWK.2.1 t hok).2
    rw [hty] at hNm
    rcases ht with ⟨rfl, -⟩ | ⟨rfl, -⟩ <;> exact Option.some.inj (hNm.symm.trans h2)
  subst hcA
  have hty1 : (hTy (sNew h (100 + t, n.toNat) n.toNat) (hZ h)) = (100 + t, n.toNat) := if_pos rfl
  have hent := ent_ip (G := G) (h := sNew h (100 + t, n.toNat) n.toNat) (a := hZ h) (t := 100 + t) (by rw [hty1]) (by rcases ht with ⟨rfl, -⟩ | ⟨rfl, -⟩ <;> simp)
  rw [hty1, show 100 + t - 100 = t by omega] at hent
  obtain ⟨hRp', hsz⟩ := rep_new hRp rfl z1 hent (by
    show H1[H.size]? = some (vp_cell _ _)
    rw [e1, vp_cell_i]
    congr 2
    funext j
    rw [hdv]
    have : hI (sNew h (100 + t, n.toNat) n.toNat) (hZ h) (j : Int) = 0 := if_pos rfl
    rw [this]
    rfl) (fun b hb' => ent_sNew hb') o1
  have K1 := Kn_new K hC (okSt_cons.mp hC.2.2.1).2 hRp' z1 o1
  rw [← hsz, hnx] at K1
  exact K1
theorem a_newr {ci idx : Nat} {n : Int} {r : List AV} (hx : p.tables.exec = Jvm.exec) (hb : c.code = hBy y) (hts : ∀ w ∈ evT, w.before args s = true) (hown : s.vm.findClass (hNm y).cls = some m.cls) (hWK : WK G s) (hci : ci = 0 ∨ ci = 1 ∨ ci = 4 ∨ ci = 5) (hlk : Jvm.Cond.classLink (hNm y).cls idx (fldC ci) ∈ evT) (hn0 : 0 ≤ n) (hn1 : n ≤ 100000) (hC : Cg G s y H locs lsM ls (.inl n :: r) h)
    (hdg : decode (hBy y) (pcO y pos) = .ok (.anewarray idx, 3)) (hnx : pcO y (pos + 1) = pcO y pos + 3) (hroom : cells + 1 ≤ R.cells ∧ slots + n.toNat ≤ R.slots)
    (K : Kn G p l e R s m args below meth c cells slots Q y h (pos + 1, ls, .inr (some (hZ h)) :: r, sNew h (200 + ci, n.toNat) n.toNat)) : W p l e R s m args below meth c H locs cells slots Q (F0 m (pcO y pos) lsM (.int (iS n) :: r.map (mv G.2.2))) := by
  have hRp := hC.2.2.2.2.1
  have hnr : inR n := ⟨by omega, by omega⟩
  have hok : okK (ci + 2) = true := by rcases hci with rfl | rfl | rfl | rfl <;> rfl
  have hrf : rfO (200 + ci) = true := by rcases hci with rfl | rfl | rfl | rfl <;> rfl
  have hN : (iS n).toNatClampNeg = n.toNat := iS_nat hn0 hnr.2
  refine W.anew hx hb hown (hts _ hlk) (hts _ (clA ci hci (by omega))) rfl hdg rfl (n := iS n) (fun q => by have := (iS_lt hnr inR_0).mp q; omega) (by rw [hN]; omega) hroom.1 (by rw [hN]; exact hroom.2) fun cA kA comp f1 f2 f3 f4 => ?_
  rw [hN]
  generalize hH1 : H.push ({ cls := cA, slots := Array.replicate n.toNat .null, vm := .none } : Cell) = H1
  have z1 : H1.size = H.size + 1 := by rw [← hH1, Array.size_push]
  have e1 : H1[H.size]? = some (arrV cA n.toNat (fun _ => .null)) := by rw [← hH1, Array.getElem?_push_size, ← arrV_new]
  have o1 : ∀ q : Nat, q < H.size → H1[q]? = H[q]? := fun q hq => by rw [← hH1, Array.getElem?_push, if_neg (Nat.ne_of_lt hq)]
  have hcA : cA = G.2.1 (ci + 2) := by
    obtain ⟨kA', comp', -, -, -, h4⟩ := (hWK.2.1 (ci + 2) hok).2
    exact Option.some.inj (f1.symm.trans h4)
  subst hcA
  have hty1 : (hTy (sNew h (200 + ci, n.toNat) n.toNat) (hZ h)) = (200 + ci, n.toNat) := if_pos rfl
  have hent := ent_rf (G := G) (h := sNew h (200 + ci, n.toNat) n.toNat) (a := hZ h) (t := 200 + ci) (by rw [hty1]) hrf
  rw [hty1, show 200 + ci - 198 = ci + 2 by omega] at hent
  obtain ⟨hRp', hsz⟩ := rep_new hRp rfl z1 hent (by
    show H1[H.size]? = some (vp_cell _ _)
    rw [e1, vp_cell_q]
    congr 2
    funext j
    have : hR (sNew h (200 + ci, n.toNat) n.toNat) (hZ h) (j : Int) = none := if_pos rfl
    rw [this]
    rfl) (fun b hb' => ent_sNew hb') o1
  have K1 := Kn_new K hC (okSt_cons.mp hC.2.2.1).2 hRp' z1 o1
  rw [← hsz, hnx] at K1
  exact K1
theorem a_new {ci idx : Nat} (hx : p.tables.exec = Jvm.exec) (hb : c.code = hBy y) (hts : ∀ w ∈ evT, w.before args s = true) (hown : s.vm.findClass (hNm y).cls = some m.cls) (hWK : WK G s) (hc8 : ci < 8) (hlk : Jvm.Cond.classLink (hNm y).cls idx (fldC ci) ∈ evT) (hC : Cg G s y H locs lsM ls st h)
    (hdg : decode (hBy y) (pcO y pos) = .ok (.new idx, 3)) (hnx : pcO y (pos + 1) = pcO y pos + 3) (hroom : cells + 1 ≤ R.cells ∧ slots + fcn ci ≤ R.slots)
    (K : Kn G p l e R s m args below meth c cells slots Q y h (pos + 1, ls, .inr (some (hZ h)) :: st, sNew h (ci + 1, 0) (fcn ci))) : W p l e R s m args below meth c H locs cells slots Q (F0 m (pcO y pos) lsM (st.map (mv G.2.2))) := by
  have hRp := hC.2.2.2.2.1
  obtain ⟨hc, hin, hty, hnm, hkd, hdecl⟩ := clF ci hc8
  have hKn := hWK.1.1 ci _ hc
  refine W.newcK hx hb hown (hts _ hlk) (hts _ (clI ci hc8).1) (hts _ (clI ci hc8).2) rfl hdg hroom.1 hroom.2 hKn.2.1 rfl fun H1 kC hkC e1 z1 o1 => ?_
  have hty1 : (hTy (sNew h (ci + 1, 0) (fcn ci)) (hZ h)) = (ci + 1, 0) := if_pos rfl
  have hent := ent_obj (G := G) (h := sNew h (ci + 1, 0) (fcn ci)) (a := hZ h) (ci := ci) (by rw [hty1]) hc8
  obtain ⟨hRp', hsz⟩ := rep_new hRp rfl z1 hent (by
    refine ⟨_, hc, (u_born (fldY ci) hts hin hKn hkC e1 hty).to (fun j hj => ?_)⟩
    have hkj := hkd j hj
    show _ = (fsV G.2.2 ci (sNew h (ci + 1, 0) (fcn ci)) (hZ h)).getD j .null
    rw [List.getD_eq_getElem?_getD, fsV_at hj]
    have h1 : hI (sNew h (ci + 1, 0) (fcn ci)) (hZ h) (j : Int) = 0 := if_pos rfl
    have h2 : hR (sNew h (ci + 1, 0) (fcn ci)) (hZ h) (j : Int) = none := if_pos rfl
    rw [h1, h2]
    unfold kindO at hkj
    split at hkj
    · rename_i g1 g2; rw [g1, g2]; rfl
    · rename_i g1; rw [g1]
      cases hf : fldY ci j <;> rw [hf] at hkj <;> first | rfl | (simp [FieldType.isReference] at hkj)
    · rename_i g1 g2; rw [g1, g2]; rfl
    · rename_i g1 g2; rw [g1, g2]; rfl
    · cases hkj) (fun b hb' => ent_sNew hb') o1
  have K1 := Kn_new K hC hC.2.2.1 hRp' z1 o1
  rw [← hsz, hnx] at K1
  exact K1
set_option maxHeartbeats 4000000 in
theorem ad1 {i : Ins} {c1 : Cf} (hF : Fx G p s m args meth c y) (hok : okI y pos i = true) (hex : ex1 d i pos ls st h = some c1) (hC : Cg G s y H locs lsM ls st h) (hRm : d ≤ R.frames ∧ 40 * d ≤ R.locals) (hroom : cells + (hZ c1.2.2.2 - hZ h) ≤ R.cells ∧ slots + (hU c1.2.2.2 - hU h) ≤ R.slots)
    (K : Kn G p l e R s m args below meth c cells slots Q y h c1) : W p l e R s m args below meth c H locs cells slots Q (F0 m (pcO y pos) lsM (st.map (mv G.2.2))) := by
  obtain ⟨raw, v, a, b, w, sw⟩ := i
  obtain ⟨hx, hb, hml, hown, hts, hWK, hini⟩ := hF
  obtain ⟨hdg, hnx, hln⟩ := okI_spec hok
  obtain ⟨hLR, hLs, hSt, hHk, hRp, hVS⟩ := id hC
  have hA : ∀ q : Nat, s.heap.size ≤ q → frA G.2.2 q ∨ True := fun q _ => Or.inr trivial
  cases raw
  case iconst n =>
    obtain ⟨hc, rfl⟩ := e_psh_some hex
    refine lv_iconst hx hb hdg rfl ?_
    rw [← show pcO y (pos + 1) = pcO y pos + 1 from hnx rfl]
    exact Kn_s K (Cg_st hC (okSt_cons.mpr ⟨⟨by omega, by omega⟩, hSt⟩))
  case bipush n =>
    obtain ⟨hc, rfl⟩ := e_psh_some hex
    refine lv_bipush hx hb hdg (iS_bip hc.1 hc.2) ?_
    rw [← show pcO y (pos + 1) = pcO y pos + 2 from hnx rfl]
    exact Kn_s K (Cg_st hC (okSt_cons.mpr ⟨⟨by omega, by omega⟩, hSt⟩))
  case sipush n =>
    obtain ⟨hc, rfl⟩ := e_psh_some hex
    refine lv_sipush hx hb hdg (iS_sip hc.1 hc.2) ?_
    rw [← show pcO y (pos + 1) = pcO y pos + 3 from hnx rfl]
    exact Kn_s K (Cg_st hC (okSt_cons.mpr ⟨⟨by omega, by omega⟩, hSt⟩))
  case ldc n =>
    obtain ⟨hc, rfl⟩ := e_psh_some hex
    refine lv_ldc hx hb hown (hts _ (wd_in hln)) hdg ?_
    rw [← show pcO y (pos + 1) = pcO y pos + 2 from hnx rfl]
    exact Kn_s K (Cg_st hC (okSt_cons.mpr ⟨hc, hSt⟩))
  case ldc_w n =>
    obtain ⟨hc, rfl⟩ := e_psh_some hex
    refine lv_ldcw hx hb hown (hts _ (wd_in hln)) hdg ?_
    rw [← show pcO y (pos + 1) = pcO y pos + 3 from hnx rfl]
    exact Kn_s K (Cg_st hC (okSt_cons.mpr ⟨hc, hSt⟩))
  case aconst_null =>
    cases hex
    refine lv_null hx hb hdg ?_
    rw [← show pcO y (pos + 1) = pcO y pos + 1 from hnx rfl]
    exact Kn_s K (Cg_st hC (okSt_cons.mpr ⟨trivial, hSt⟩))
  case iload k =>
    obtain ⟨x, hk, rfl⟩ := e_load_i hex
    refine lv_iload hx hb hdg (hLR.2.2.2 _ _ hk) ?_
    rw [← show pcO y (pos + 1) = pcO y pos + 2 from hnx rfl]
    exact Kn_s K (Cg_st hC (okSt_cons.mpr ⟨hLs _ _ hk, hSt⟩))
  case iload_n k =>
    obtain ⟨x, hk, rfl⟩ := e_load_i hex
    refine lv_iload_n hx hb hdg rfl (hLR.2.2.2 _ _ hk) ?_
    rw [← show pcO y (pos + 1) = pcO y pos + 1 from hnx rfl]
    exact Kn_s K (Cg_st hC (okSt_cons.mpr ⟨hLs _ _ hk, hSt⟩))
  case aload k =>
    obtain ⟨x, hk, rfl⟩ := e_load_a hex
    have K1 := Kn_s K (Cg_st hC (okSt_cons.mpr ⟨trivial, hSt⟩))
    rw [show pcO y (pos + 1) = pcO y pos + 2 from hnx rfl] at K1
    cases x with
    | none => exact lv_aloadN hx hb hdg (hLR.2.2.2 _ _ hk) K1
    | some x => exact lv_aload hx hb hdg (hLR.2.2.2 _ _ hk) K1
  case aload_n k =>
    obtain ⟨x, hk, rfl⟩ := e_load_a hex
    have K1 := Kn_s K (Cg_st hC (okSt_cons.mpr ⟨trivial, hSt⟩))
    rw [show pcO y (pos + 1) = pcO y pos + 1 from hnx rfl] at K1
    cases x with
    | none => exact lv_aload_nN hx hb hdg rfl (hLR.2.2.2 _ _ hk) K1
    | some x => exact lv_aload_n hx hb hdg rfl (hLR.2.2.2 _ _ hk) K1
  case istore k =>
    obtain ⟨x, r, rfl, hk, rfl⟩ := e_store_i hex
    have hk' : k < hMx y := by rw [← hLR.2.2.1]; exact hk
    refine lv_istore hx hb hdg (LR_has hLR) hk' rfl fun ls' h' => ?_
    rw [← show pcO y (pos + 1) = pcO y pos + 2 from hnx rfl]
    exact Kn_s K ⟨LR_set (v := .inl x) hLR hk' h' rfl, okLs_set hLs (okSt_cons.mp hSt).1, (okSt_cons.mp hSt).2, hHk, hRp, hVS⟩
  case istore_n k =>
    obtain ⟨x, r, rfl, hk, rfl⟩ := e_store_i hex
    have hk' : (k : Nat) < hMx y := by rw [← hLR.2.2.1]; exact hk
    refine lv_istore_n hx hb hdg rfl (LR_has hLR) hk' rfl fun ls' h' => ?_
    rw [← show pcO y (pos + 1) = pcO y pos + 1 from hnx rfl]
    exact Kn_s K ⟨LR_set (v := .inl x) hLR hk' h' rfl, okLs_set hLs (okSt_cons.mp hSt).1, (okSt_cons.mp hSt).2, hHk, hRp, hVS⟩
  case astore k =>
    obtain ⟨x, r, rfl, hk, rfl⟩ := e_store_a hex
    have hk' : k < hMx y := by rw [← hLR.2.2.1]; exact hk
    cases x with
    | none =>
      refine lv_astoreN hx hb hdg (LR_has hLR) hk' rfl fun ls' h' => ?_
      rw [← show pcO y (pos + 1) = pcO y pos + 2 from hnx rfl]
      exact Kn_s K ⟨LR_set (v := .inr none) hLR hk' h' rfl, okLs_set hLs trivial, (okSt_cons.mp hSt).2, hHk, hRp, hVS⟩
    | some x =>
      refine lv_astore hx hb hdg (LR_has hLR) hk' rfl fun ls' h' => ?_
      rw [← show pcO y (pos + 1) = pcO y pos + 2 from hnx rfl]
      exact Kn_s K ⟨LR_set (v := .inr (some x)) hLR hk' h' rfl, okLs_set hLs trivial, (okSt_cons.mp hSt).2, hHk, hRp, hVS⟩
  case astore_n k =>
    obtain ⟨x, r, rfl, hk, rfl⟩ := e_store_a hex
    have hk' : (k : Nat) < hMx y := by rw [← hLR.2.2.1]; exact hk
    cases x with
    | none =>
      refine lv_astore_nN hx hb hdg rfl (LR_has hLR) hk' rfl fun ls' h' => ?_
      rw [← show pcO y (pos + 1) = pcO y pos + 1 from hnx rfl]
      exact Kn_s K ⟨LR_set (v := .inr none) hLR hk' h' rfl, okLs_set hLs trivial, (okSt_cons.mp hSt).2, hHk, hRp, hVS⟩
    | some x =>
      refine lv_astore_n hx hb hdg rfl (LR_has hLR) hk' rfl fun ls' h' => ?_
      rw [← show pcO y (pos + 1) = pcO y pos + 1 from hnx rfl]
      exact Kn_s K ⟨LR_set (v := .inr (some x)) hLR hk' h' rfl, okLs_set hLs trivial, (okSt_cons.mp hSt).2, hHk, hRp, hVS⟩
  case iinc k n =>
    obtain ⟨x, hk, hk2, rfl⟩ := e_iinc_some hex
    have hk' : k < hMx y := by rw [← hLR.2.2.1]; exact hk2
    have hmem : (k, mv G.2.2 (.inl x)) ∈ lvO G.2.2 ls := List.mem_filterMap.mpr ⟨(some (.inl x), k), List.mem_iff_getElem?.mpr ⟨k, by rw [List.getElem?_zipIdx, hk]; simp⟩, rfl⟩
    obtain ⟨j, hj⟩ := List.mem_iff_getElem?.mp hmem
    refine lv_iinc hx hb hdg (LR_has hLR) hj (v := iS (wr (x + n))) (iS_add x n) hk' rfl fun ls' h' => ?_
    rw [← show pcO y (pos + 1) = pcO y pos + 3 from hnx rfl]
    exact Kn_s K ⟨LR_set (v := .inl (wr (x + n))) hLR hk' h' rfl, okLs_set hLs (inR_wr _), hSt, hHk, hRp, hVS⟩
  case dup =>
    obtain ⟨x, r, rfl, rfl⟩ := e_dup_some hex
    refine lv_dup hx hb hdg (mv_cat x) ?_
    rw [← show pcO y (pos + 1) = pcO y pos + 1 from hnx rfl]
    exact Kn_s K (Cg_st hC (okSt_cons.mpr ⟨(okSt_cons.mp hSt).1, hSt⟩))
  case dup2 =>
    obtain ⟨x, z, r, rfl, rfl⟩ := e_dup2_some hex
    refine lv_dup2_11 hx hb hdg (mv_cat x) (mv_cat z) ?_
    rw [← show pcO y (pos + 1) = pcO y pos + 1 from hnx rfl]
    exact Kn_s K (Cg_st hC (okSt_cons.mpr ⟨(okSt_cons.mp hSt).1, okSt_cons.mpr ⟨(okSt_cons.mp (okSt_cons.mp hSt).2).1, hSt⟩⟩))
  case dup_x1 =>
    obtain ⟨x, z, r, rfl, rfl⟩ := e_dupx1_some hex
    refine lv_dup_x1 hx hb hdg (mv_cat x) (mv_cat z) ?_
    rw [← show pcO y (pos + 1) = pcO y pos + 1 from hnx rfl]
    exact Kn_s K (Cg_st hC (okSt_cons.mpr ⟨(okSt_cons.mp hSt).1, okSt_cons.mpr ⟨(okSt_cons.mp (okSt_cons.mp hSt).2).1, okSt_cons.mpr ⟨(okSt_cons.mp hSt).1, (okSt_cons.mp (okSt_cons.mp hSt).2).2⟩⟩⟩))
  case iadd =>
    obtain ⟨x, z, r, rfl, rfl⟩ := e_bin_some hex
    refine lv_iadd hx hb hdg ?_
    rw [← show pcO y (pos + 1) = pcO y pos + 1 from hnx rfl, iS_add]
    exact Kn_s K (Cg_st hC (okSt_cons.mpr ⟨inR_wr _, (okSt_cons.mp (okSt_cons.mp hSt).2).2⟩))
  case isub =>
    obtain ⟨x, z, r, rfl, rfl⟩ := e_bin_some hex
    refine lv_isub hx hb hdg ?_
    rw [← show pcO y (pos + 1) = pcO y pos + 1 from hnx rfl, iS_sub]
    exact Kn_s K (Cg_st hC (okSt_cons.mpr ⟨inR_wr _, (okSt_cons.mp (okSt_cons.mp hSt).2).2⟩))
  case imul =>
    obtain ⟨x, z, r, rfl, rfl⟩ := e_bin_some hex
    refine lv_imul hx hb hdg ?_
    rw [← show pcO y (pos + 1) = pcO y pos + 1 from hnx rfl, iS_mul]
    exact Kn_s K (Cg_st hC (okSt_cons.mpr ⟨inR_wr _, (okSt_cons.mp (okSt_cons.mp hSt).2).2⟩))
  case idiv =>
    obtain ⟨x, z, r, rfl, h0, rfl⟩ := e_div_some hex
    have hz : inR z := (okSt_cons.mp hSt).1
    have hxx : inR x := (okSt_cons.mp (okSt_cons.mp hSt).2).1
    refine lv_idiv hx hb hdg (fun q => h0 ((iS_eq hz inR_0).mp q)) ?_
    rw [← show pcO y (pos + 1) = pcO y pos + 1 from hnx rfl, iS_div hxx hz]
    exact Kn_s K (Cg_st hC (okSt_cons.mpr ⟨inR_wr _, (okSt_cons.mp (okSt_cons.mp hSt).2).2⟩))
  case irem =>
    obtain ⟨x, z, r, rfl, h0, rfl⟩ := e_div_some hex
    have hz : inR z := (okSt_cons.mp hSt).1
    have hxx : inR x := (okSt_cons.mp (okSt_cons.mp hSt).2).1
    refine lv_irem hx hb hdg (fun q => h0 ((iS_eq hz inR_0).mp q)) ?_
    rw [← show pcO y (pos + 1) = pcO y pos + 1 from hnx rfl, iS_rem hxx hz]
    exact Kn_s K (Cg_st hC (okSt_cons.mpr ⟨inR_wr _, (okSt_cons.mp (okSt_cons.mp hSt).2).2⟩))
  case ineg =>
    obtain ⟨x, r, rfl, rfl⟩ := e_un_some hex
    refine lv_ineg hx hb hdg ?_
    rw [← show pcO y (pos + 1) = pcO y pos + 1 from hnx rfl, iS_neg]
    exact Kn_s K (Cg_st hC (okSt_cons.mpr ⟨inR_wr _, (okSt_cons.mp hSt).2⟩))
  case ishl =>
    obtain ⟨x, z, r, rfl, rfl⟩ := e_bin_some hex
    refine lv_ishl hx hb hdg ?_
    rw [← show pcO y (pos + 1) = pcO y pos + 1 from hnx rfl, ← iS_of (iS x <<< (iS z &&& 31))]
    exact Kn_s K (Cg_st hC (okSt_cons.mpr ⟨inR_shl _ _, (okSt_cons.mp (okSt_cons.mp hSt).2).2⟩))
  case ishr =>
    obtain ⟨x, z, r, rfl, rfl⟩ := e_bin_some hex
    refine lv_ishr hx hb hdg ?_
    rw [← show pcO y (pos + 1) = pcO y pos + 1 from hnx rfl, ← iS_of (iS x >>> (iS z &&& 31))]
    exact Kn_s K (Cg_st hC (okSt_cons.mpr ⟨inR_shr _ _, (okSt_cons.mp (okSt_cons.mp hSt).2).2⟩))
  case iushr =>
    obtain ⟨x, z, r, rfl, rfl⟩ := e_bin_some hex
    refine lv_iushr hx hb hdg (iS_of _).symm ?_
    rw [← show pcO y (pos + 1) = pcO y pos + 1 from hnx rfl]
    exact Kn_s K (Cg_st hC (okSt_cons.mpr ⟨inR_ushr _ _, (okSt_cons.mp (okSt_cons.mp hSt).2).2⟩))
  case iand =>
    obtain ⟨x, z, r, rfl, rfl⟩ := e_bin_some hex
    refine lv_iand hx hb hdg ?_
    rw [← show pcO y (pos + 1) = pcO y pos + 1 from hnx rfl, ← iS_of (iS x &&& iS z)]
    exact Kn_s K (Cg_st hC (okSt_cons.mpr ⟨inR_and _ _, (okSt_cons.mp (okSt_cons.mp hSt).2).2⟩))
  case ior =>
    obtain ⟨x, z, r, rfl, rfl⟩ := e_bin_some hex
    refine lv_ior hx hb hdg ?_
    rw [← show pcO y (pos + 1) = pcO y pos + 1 from hnx rfl, ← iS_of (iS x ||| iS z)]
    exact Kn_s K (Cg_st hC (okSt_cons.mpr ⟨inR_or _ _, (okSt_cons.mp (okSt_cons.mp hSt).2).2⟩))
  case i2c =>
    obtain ⟨x, r, rfl, rfl⟩ := e_un_some hex
    refine lv_i2c hx hb hdg (iS_of _).symm ?_
    rw [← show pcO y (pos + 1) = pcO y pos + 1 from hnx rfl]
    exact Kn_s K (Cg_st hC (okSt_cons.mpr ⟨inR_i2c _, (okSt_cons.mp hSt).2⟩))
  case ifCond cd off =>
    obtain ⟨x, r, rfl, rfl⟩ := e_if_some hex
    exact a_if hx hb hdg (hnx rfl) (of_decide_eq_true hln) (okSt_cons.mp hSt).1 (Kn_s K (Cg_st hC (okSt_cons.mp hSt).2))
  case if_icmp cd off =>
    obtain ⟨x, z, r, rfl, rfl⟩ := e_icmp_some hex
    exact a_icmp hx hb hdg (hnx rfl) (of_decide_eq_true hln) (okSt_cons.mp (okSt_cons.mp hSt).2).1 (okSt_cons.mp hSt).1 (Kn_s K (Cg_st hC (okSt_cons.mp (okSt_cons.mp hSt).2).2))
  case goto off =>
    cases hex
    exact lv_goto hx hb hdg (of_decide_eq_true hln) (Kn_s K hC)
  case ifnonnull off =>
    obtain ⟨o, r, rfl, rfl⟩ := e_nn_some hex
    have K1 := Kn_s K (Cg_st hC (okSt_cons.mp hSt).2)
    cases o with
    | none =>
      rw [if_pos rfl, show pcO y (pos + 1) = pcO y pos + 3 from hnx rfl] at K1
      exact lv_ifnonnullN hx hb hdg K1
    | some o =>
      rw [if_neg (by simp)] at K1
      exact lv_ifnonnull hx hb hdg (of_decide_eq_true hln) K1
  case tableswitch df lo hi offs =>
    obtain ⟨x, r, t, rfl, ht, rfl⟩ := e_tsw_some hex
    have hxr : inR x := (okSt_cons.mp hSt).1
    simp only [lnkO, Bool.and_eq_true, decide_eq_true_eq] at hln
    obtain ⟨o, ho, hto⟩ := tgtsO_at _ _ y pos hln.1 _ t ht
    have K1 := Kn_s K (Cg_st hC (okSt_cons.mp hSt).2)
    by_cases hc : x < lo ∨ hi < x
    · rw [if_pos hc] at ho
      cases ho
      exact lv_tableOut hx hb hdg (by rw [iS_toInt hxr]; exact hc) hto K1
    · rw [if_neg hc, List.getElem?_cons_succ, Array.getElem?_toList] at ho
      exact lv_tableIn hx hb hdg (by rw [iS_toInt hxr]; omega) (by rw [iS_toInt hxr]; omega) (by rw [iS_toInt hxr]; exact ho) hto K1
  case lookupswitch df ps =>
    obtain ⟨x, r, t, rfl, ht, rfl⟩ := e_lsw_some hex
    have hxr : inR x := (okSt_cons.mp hSt).1
    simp only [lnkO, Bool.and_eq_true] at hln
    obtain ⟨o, ho, hto⟩ := tgtsO_at _ _ y pos hln.1 _ t ht
    refine lv_lookup hx hb hdg hln.2 rfl ?_ (Kn_s K (Cg_st hC (okSt_cons.mp hSt).2))
    rw [iS_toInt hxr]
    rcases e_key_off ps.toList 0 df x [] with ⟨h1, h2⟩ | ⟨j, q, h1, h2, h3⟩
    · rw [h1] at ho
      cases ho
      rw [h2]
      exact hto
    · rw [h1, show 0 + 1 + j = j + 1 by omega, List.getElem?_cons_succ, List.getElem?_map, h2] at ho
      cases ho
      rw [h3]
      exact hto
  case getfield idx =>
    obtain ⟨x, r, rfl, ⟨ht, hk⟩, rfl⟩ := e_get_some hex
    simp only [lnkO, Bool.and_eq_true, Bool.or_eq_true, decide_eq_true_eq] at hln
    refine a_get hx hb hts hown hWK.1 (rep_obj hRp ht hln.1).2 hk (hln.2.imp (fun q => wd_in q) (fun q => wd_in q)) (fsV_at hk) hdg ?_
    have hokv : okV (if fkd a b = 1 then .inr (hR h x b) else .inl (hI h x b)) := by
      by_cases h1 : fkd a b = 1
      · rw [if_pos h1]; trivial
      · rw [if_neg h1]; exact hHk _ _
    have K1 := Kn_s K (Cg_st hC (okSt_cons.mpr ⟨hokv, (okSt_cons.mp hSt).2⟩))
    rw [show pcO y (pos + 1) = pcO y pos + 3 from hnx rfl] at K1
    exact K1
  case putfield idx =>
    obtain ⟨v', x, r, rfl, ht, hk, hx3, hcase⟩ := e_put_some hex
    have hk : b < fcn a := hk
    have ht : (hTy h x).1 = a + 1 := ht
    simp only [lnkO, Bool.and_eq_true, decide_eq_true_eq] at hln
    obtain ⟨hc8, hlk⟩ := hln
    obtain ⟨hxZ, hat⟩ := rep_obj hRp ht hc8
    have hkd := (clF a hc8).2.2.2.2.1 b hk
    have hlk' : if (fldT a b).2.2.2 = true then Jvm.Cond.fieldLink (hNm y).cls idx (fldC a) (fldT a b).2.1 (fldT a b).2.2.1 ∈ evT ∧ meth.name = "<init>" ∧ (hNm y).cls = fldC a
      else (Jvm.Cond.fieldLink (hNm y).cls idx (fldC a) (fldT a b).2.1 (fldT a b).2.2.1 ∈ evT ∨ Jvm.Cond.fieldLinkNest (hNm y).cls idx (fldC a) (fldT a b).2.1 (fldT a b).2.2.1 "PhasorTree" ∈ evT) := by
      by_cases hf : (fldT a b).2.2.2 = true
      · rw [if_pos hf] at hlk ⊢
        simp only [Bool.and_eq_true, decide_eq_true_eq] at hlk
        exact ⟨wd_in hlk.1.1, hini hlk.1.2, hlk.2⟩
      · rw [if_neg hf] at hlk ⊢
        simp only [Bool.or_eq_true] at hlk
        exact hlk.imp (fun q => wd_in q) (fun q => wd_in q)
    have hlen : (fsV G.2.2 a h x).length = fcn a := fsV_len
    have fin : ∀ (h' : HP), (∀ j, j < fcn a → (mv G.2.2 (if fkd a j = 1 then .inr (hR h' x j) else .inl (hI h' x j))) = if j = b then mv G.2.2 v' else mv G.2.2 (if fkd a j = 1 then .inr (hR h x j) else .inl (hI h x j))) → fsV G.2.2 a h' x = (fsV G.2.2 a h x).set b (mv G.2.2 v') := by
      intro h' hh
      apply List.ext_getElem?
      intro j
      rw [List.getElem?_set]
      by_cases hj : j < fcn a
      · rw [fsV_at hj, fsV_at hj, hh j hj]
        by_cases hjb : b = j
        · rw [if_pos hjb, if_pos hjb.symm, if_pos (by rw [hlen]; exact hk)]
        · rw [if_neg hjb, if_neg (fun z => hjb z.symm)]
      · rw [List.getElem?_eq_none (by rw [fsV_len]; omega), List.getElem?_eq_none (by rw [fsV_len]; omega), if_neg (by omega)]
    rcases hcase with ⟨z, rfl, h1, h2, h3, rfl⟩ | ⟨z, rfl, h1, rfl⟩
    · have hzr : inR z := (okSt_cons.mp hSt).1
      have hnf : narrow (fldY a b) (.int (iS z)) = .int (iS z) ∧ fits (fldY a b) (.int (iS z)) = true := by
        unfold kindO at hkd
        split at hkd
        · rename_i e1 e2; rw [e2]; exact ⟨rfl, rfl⟩
        · rename_i e1; exact absurd e1 h1
        · rename_i e1 e2; rw [e2]; exact iS_char (h2 e1).1 (h2 e1).2
        · rename_i e1 e2; rw [e2]; exact iS_bool (h3 e1).1 (h3 e1).2
        · cases hkd
      refine a_put hx hb hts hown hWK.1 hat hVS (adr_frA hx3) hk hlen hlk' hnf.1 hnf.2 hdg fun H1 locs1 g1 g2 g3 g4 => ?_
      rw [← show pcO y (pos + 1) = pcO y pos + 3 from hnx rfl]
      have e1 : fsV G.2.2 a (sI h x b z) x = (fsV G.2.2 a h x).set b (mv G.2.2 (.inl z)) := fin _ (fun j hj => by
        by_cases hjb : j = b
        · subst hjb
          rw [if_pos rfl, if_neg h1]
          simp [sI, hI, mv]
        · rw [if_neg hjb]
          have : ¬ ((j : Int) = (b : Int)) := by omega
          simp [sI, hI, hR, this])
      have hRp' : Rep G (sI h x b z) H1 := rep_upd hRp hx3 hxZ rfl g2 (ent_obj (ci := a) ht hc8) (by rw [e1]; exact g1) (fun b' hb' => ent_sI hb') g3
      exact Kn_h rfl rfl K ⟨hLR, hLs, (okSt_cons.mp (okSt_cons.mp hSt).2).2, okH_sI hHk hzr, hRp', g4⟩
    · have hnf : narrow (fldY a b) (va_rf (z.map (adr G.2.2))) = va_rf (z.map (adr G.2.2)) ∧ fits (fldY a b) (va_rf (z.map (adr G.2.2))) = true := by
        rw [h1] at hkd
        exact rf_nar _ hkd _
      refine a_put hx hb hts hown hWK.1 hat hVS (adr_frA hx3) hk hlen hlk' hnf.1 hnf.2 hdg fun H1 locs1 g1 g2 g3 g4 => ?_
      rw [← show pcO y (pos + 1) = pcO y pos + 3 from hnx rfl]
      have e1 : fsV G.2.2 a (sR h x b z) x = (fsV G.2.2 a h x).set b (mv G.2.2 (.inr z)) := fin _ (fun j hj => by
        by_cases hjb : j = b
        · subst hjb
          rw [if_pos rfl, if_pos h1]
          simp [sR, hR, mv]
        · rw [if_neg hjb]
          have : ¬ ((j : Int) = (b : Int)) := by omega
          simp [sR, hI, hR, this])
      have hRp' : Rep G (sR h x b z) H1 := rep_upd hRp hx3 hxZ rfl g2 (ent_obj (ci := a) ht hc8) (by rw [e1]; exact g1) (fun b' hb' => ent_sR hb') g3
      exact Kn_h rfl rfl K ⟨hLR, hLs, (okSt_cons.mp (okSt_cons.mp hSt).2).2, hHk, hRp', g4⟩
  case getstatic idx =>
    simp only [ex1] at hex
    by_cases ha : a < 2
    · rw [if_pos ha] at hex
      cases hex
      have K1 := Kn_s K (Cg_st hC (okSt_cons.mpr ⟨trivial, hSt⟩))
      rw [show pcO y (pos + 1) = pcO y pos + 3 from hnx rfl] at K1
      simp only [lnkO, Bool.and_eq_true, decide_eq_true_eq] at hln
      rcases (show a = 0 ∨ a = 1 by omega) with rfl | rfl
      · exact va_getsN hx hb hWK.2.2.1 hVS hown (hts _ (wd_in hln.2)) (fun _ h9 => h9) hdg K1
      · exact va_getsN hx hb hWK.2.2.2.1 hVS hown (hts _ (wd_in hln.2)) (fun _ h9 => h9) hdg K1
    · rw [if_neg ha] at hex
      cases hex
  case iaload =>
    obtain ⟨j, x, r, rfl, ⟨ht, hj0, hj1⟩, rfl⟩ := e_ald_some hex
    have hjr : inR j := (okSt_cons.mp hSt).1
    have K1 := Kn_s K (Cg_st hC (okSt_cons.mpr ⟨hHk _ _, (okSt_cons.mp (okSt_cons.mp hSt).2).2⟩))
    rw [show pcO y (pos + 1) = pcO y pos + 1 from hnx rfl] at K1
    by_cases hx3 : x < 3
    · obtain ⟨g1, g2⟩ := hRp.2.2.2.2 x hx3
      refine va_ti hx hb (hWK.2.2.2.2 x hx3) hVS (iS_vin hj0 hjr (by rw [g1] at hj1; exact hj1)) rfl hdg ?_
      rw [iS_nat hj0 hjr.2, Int.toNat_of_nonneg hj0, ← g2 j]
      exact K1
    have hat := (rep_ip hRp (by omega) ht (Or.inl rfl)).2
    refine va_iald hx hb (WK_K hWK 0 rfl) (va_P1 hat) 0 0 rfl rfl (iS_vin hj0 hjr hj1) hdg ?_
    rw [iS_nat hj0 hjr.2, Int.toNat_of_nonneg hj0]
    exact K1
  case caload =>
    obtain ⟨j, x, r, rfl, ⟨ht, hj0, hj1⟩, rfl⟩ := e_ald_some hex
    have hjr : inR j := (okSt_cons.mp hSt).1
    have hat := (rep_ip hRp (rep_ge3 hRp (by rw [ht]; decide)) ht (Or.inr rfl)).2
    have K1 := Kn_s K (Cg_st hC (okSt_cons.mpr ⟨hHk _ _, (okSt_cons.mp (okSt_cons.mp hSt).2).2⟩))
    rw [show pcO y (pos + 1) = pcO y pos + 1 from hnx rfl] at K1
    refine va_cald hx hb (WK_K hWK 1 rfl) (va_P1 hat) 0 0 rfl rfl (iS_vin hj0 hjr hj1) hdg ?_
    rw [iS_nat hj0 hjr.2, Int.toNat_of_nonneg hj0]
    exact K1
  case aaload =>
    obtain ⟨j, x, r, rfl, ⟨ht, hj0, hj1⟩, rfl⟩ := e_aldq_some hex
    have hjr : inR j := (okSt_cons.mp hSt).1
    have hat := (rep_rf hRp ht).2
    have K1 := Kn_s K (Cg_st hC (okSt_cons.mpr ⟨trivial, (okSt_cons.mp (okSt_cons.mp hSt).2).2⟩))
    rw [show pcO y (pos + 1) = pcO y pos + 1 from hnx rfl] at K1
    have fin : ∀ k C, okK k = true → arT k = .object C → (hTy h x).1 - 198 = k → W p l e R s m args below meth c H locs cells slots Q (F0 m (pcO y pos) lsM (.int (iS j) :: .ref (adr G.2.2 x) :: r.map (mv G.2.2))) := by
      intro k C hk hC' he
      rw [he] at hat
      have hKK := WK_K hWK k hk
      rw [hC'] at hKK
      refine va_aldq hx hb hKK (va_P1 hat) 0 0 rfl rfl (iS_vin hj0 hjr hj1) hdg ?_
      rw [iS_nat hj0 hjr.2, Int.toNat_of_nonneg hj0]
      exact K1
    rcases rfO_iff ht with h1 | h1 | h1 | h1
    · exact fin 2 _ rfl rfl (by omega)
    · exact fin 3 _ rfl rfl (by omega)
    · exact fin 6 _ rfl rfl (by omega)
    · exact fin 7 _ rfl rfl (by omega)
  case iastore =>
    obtain ⟨z, j, x, r, rfl, ⟨ht, hj0, hj1, hx3, -⟩, rfl⟩ := e_ast_some hex
    have hzr : inR z := (okSt_cons.mp hSt).1
    have hjr : inR j := (okSt_cons.mp (okSt_cons.mp hSt).2).1
    obtain ⟨hxZ, hat⟩ := rep_ip hRp hx3 ht (Or.inl rfl)
    refine a_ast (t := 0) hx hb (Or.inl rfl) (hWK.2.1 0 rfl).1 hat hVS (adr_frA hx3) (iS_vin hj0 hjr hj1) (fun z => by cases z) hdg fun H1 locs1 g1 g2 g3 g4 => ?_
    rw [← show pcO y (pos + 1) = pcO y pos + 1 from hnx rfl]
    have e1 : (fun q : Nat => iS (hI (sI h x j z) x (q : Int))) = upd (fun q : Nat => iS (hI h x (q : Int))) (iS j).toNatClampNeg (iS z) := by
      funext q
      rw [iS_nat hj0 hjr.2]
      by_cases hq : q = j.toNat
      · subst hq
        simp [sI, hI, upd, Int.toNat_of_nonneg hj0]
      · have : ¬ ((q : Int) = j) := by omega
        simp [sI, hI, upd, hq, this]
    have hRp' : Rep G (sI h x j z) H1 := rep_upd hRp hx3 hxZ rfl g2 (ent_ip (h := sI h x j z) ht (Or.inl rfl)) (by rw [e1]; exact g1) (fun b' hb' => ent_sI hb') g3
    exact Kn_h rfl rfl K ⟨hLR, hLs, (okSt_cons.mp (okSt_cons.mp (okSt_cons.mp hSt).2).2).2, okH_sI hHk hzr, hRp', g4⟩
  case castore =>
    obtain ⟨z, j, x, r, rfl, ⟨ht, hj0, hj1, hx3, hz⟩, rfl⟩ := e_ast_some hex
    have hzr : inR z := (okSt_cons.mp hSt).1
    have hjr : inR j := (okSt_cons.mp (okSt_cons.mp hSt).2).1
    obtain ⟨hxZ, hat⟩ := rep_ip hRp hx3 ht (Or.inr rfl)
    have hzc : vp_nar .char (iS z) = iS z := by
      rcases hz with hz | hz
      · cases hz
      · unfold vp_nar
        rw [(iS_char hz.1 hz.2).1]
    refine a_ast (t := 1) hx hb (Or.inr rfl) (hWK.2.1 1 rfl).1 hat hVS (adr_frA hx3) (iS_vin hj0 hjr hj1) (fun _ => hzc) hdg fun H1 locs1 g1 g2 g3 g4 => ?_
    rw [← show pcO y (pos + 1) = pcO y pos + 1 from hnx rfl]
    have e1 : (fun q : Nat => iS (hI (sI h x j z) x (q : Int))) = upd (fun q : Nat => iS (hI h x (q : Int))) (iS j).toNatClampNeg (iS z) := by
      funext q
      rw [iS_nat hj0 hjr.2]
      by_cases hq : q = j.toNat
      · subst hq
        simp [sI, hI, upd, Int.toNat_of_nonneg hj0]
      · have : ¬ ((q : Int) = j) := by omega
        simp [sI, hI, upd, hq, this]
    have hRp' : Rep G (sI h x j z) H1 := rep_upd hRp hx3 hxZ rfl g2 (ent_ip (h := sI h x j z) ht (Or.inr rfl)) (by rw [e1]; exact g1) (fun b' hb' => ent_sI hb') g3
    exact Kn_h rfl rfl K ⟨hLR, hLs, (okSt_cons.mp (okSt_cons.mp (okSt_cons.mp hSt).2).2).2, okH_sI hHk hzr, hRp', g4⟩
  case aastore =>
    obtain ⟨z, j, x, r, rfl, ⟨ht, hvt, hj0, hj1, hx3⟩, rfl⟩ := e_astq_some hex
    have hjr : inR j := (okSt_cons.mp (okSt_cons.mp hSt).2).1
    obtain ⟨hxZ, hat⟩ := rep_rf hRp ht
    have fin : ∀ ci, ci < 8 → okK (ci + 2) = true → (hTy h x).1 = 200 + ci → W p l e R s m args below meth c H locs cells slots Q (F0 m (pcO y pos) lsM (.ref (adr G.2.2 z) :: .int (iS j) :: .ref (adr G.2.2 x) :: r.map (mv G.2.2))) := by
      intro ci hc8 hok' he
      have hzt : (hTy h z).1 = ci + 1 := by omega
      have hatz := (rep_obj hRp hzt hc8).2
      have hidx : (hTy h x).1 - 198 = ci + 2 := by omega
      rw [hidx] at hat
      refine a_astq hx hb hc8 hWK.1 (hWK.2.1 (ci + 2) hok').2 hat hatz hVS (adr_frA hx3) (iS_vin hj0 hjr hj1) hdg fun H1 locs1 g1 g2 g3 g4 => ?_
      rw [← show pcO y (pos + 1) = pcO y pos + 1 from hnx rfl]
      have e1 : (fun q : Nat => (hR (sR h x j (some z)) x (q : Int)).map (adr G.2.2)) = va_up (fun q : Nat => (hR h x (q : Int)).map (adr G.2.2)) (iS j).toNatClampNeg (some (adr G.2.2 z)) := by
        funext q
        rw [iS_nat hj0 hjr.2]
        by_cases hq : q = j.toNat
        · subst hq
          simp [sR, hR, va_up, Int.toNat_of_nonneg hj0]
        · have : ¬ ((q : Int) = j) := by omega
          simp [sR, hR, va_up, hq, this]
      have hent : entO G (sR h x j (some z)) x = some (.inl (G.2.1 (ci + 2), (hTy h x).2, .inr (.inr (.inr (.inr (fun q : Nat => (hR (sR h x j (some z)) x (q : Int)).map (adr G.2.2))))))) := by
        have := ent_rf (G := G) (h := sR h x j (some z)) (a := x) (t := 200 + ci) he (by rw [← he]; exact ht)
        rw [this, show 200 + ci - 198 = ci + 2 by omega]
        rfl
      have hRp' : Rep G (sR h x j (some z)) H1 := rep_upd hRp hx3 hxZ rfl g2 hent (by rw [e1]; exact g1) (fun b' hb' => ent_sR hb') g3
      exact Kn_h rfl rfl K ⟨hLR, hLs, (okSt_cons.mp (okSt_cons.mp (okSt_cons.mp hSt).2).2).2, hHk, hRp', g4⟩
    rcases rfO_iff ht with h1 | h1 | h1 | h1
    · exact fin 0 (by omega) rfl (by omega)
    · exact fin 1 (by omega) rfl (by omega)
    · exact fin 4 (by omega) rfl (by omega)
    · exact fin 5 (by omega) rfl (by omega)
  case arraylength =>
    obtain ⟨x, r, rfl, ⟨ht, hl⟩, rfl⟩ := e_len_some hex
    have K1 := Kn_s K (Cg_st hC (okSt_cons.mpr ⟨⟨by omega, by omega⟩, (okSt_cons.mp hSt).2⟩))
    rw [show pcO y (pos + 1) = pcO y pos + 1 from hnx rfl] at K1
    have hnI : Int32.ofNat (hTy h x).2 = iS ((hTy h x).2 : Int) := (iS_nI _).symm
    have hrf : ∀ k, okK k = true → rfO (hTy h x).1 = true → (hTy h x).1 - 198 = k → W p l e R s m args below meth c H locs cells slots Q (F0 m (pcO y pos) lsM (.ref (adr G.2.2 x) :: r.map (mv G.2.2))) := by
      intro k hk ht' he
      have hat := (rep_rf hRp ht').2
      rw [he] at hat
      exact va_alen hx hb (WK_K hWK k hk) (va_P1 hat) 0 0 rfl rfl hnI hdg K1
    rcases ht with ht | ht | ht
    · by_cases hx3 : x < 3
      · obtain ⟨g1, g2⟩ := hRp.2.2.2.2 x hx3
        rw [g1] at hnI K1
        exact va_tlen hx hb (hWK.2.2.2.2 x hx3) hVS hnI hdg K1
      · exact va_alen hx hb (WK_K hWK 0 rfl) (va_P1 (rep_ip hRp (by omega) ht (Or.inl rfl)).2) 0 0 rfl rfl hnI hdg K1
    · exact va_alen hx hb (WK_K hWK 1 rfl) (va_P1 (rep_ip hRp (rep_ge3 hRp (by rw [ht]; decide)) ht (Or.inr rfl)).2) 0 0 rfl rfl hnI hdg K1
    · rcases rfO_iff ht with h1 | h1 | h1 | h1
      · exact hrf 2 rfl ht (by omega)
      · exact hrf 3 rfl ht (by omega)
      · exact hrf 6 rfl ht (by omega)
      · exact hrf 7 rfl ht (by omega)
  case newarray ty =>
    cases ty
    case int =>
      obtain ⟨n, r, rfl, ⟨h0, h1⟩, rfl⟩ := e_newa_some (t := 100) hex
      exact a_newp (t := 0) hx hb hts hWK (Or.inl ⟨rfl, rfl⟩) h0 h1 hC hdg (hnx rfl) (by
        dsimp only at hroom
        rw [hZ_new, hU_new] at hroom
        exact hroom) K
    case char =>
      obtain ⟨n, r, rfl, ⟨h0, h1⟩, rfl⟩ := e_newa_some (t := 101) hex
      exact a_newp (t := 1) hx hb hts hWK (Or.inr ⟨rfl, rfl⟩) h0 h1 hC hdg (hnx rfl) (by
        dsimp only at hroom
        rw [hZ_new, hU_new] at hroom
        exact hroom) K
    all_goals exact absurd (show (none : Option Cf) = some c1 from hex) (by simp)
  case anewarray idx =>
    simp only [ex1] at hex
    by_cases hr : rfO (200 + a) = true
    · rw [if_pos hr] at hex
      obtain ⟨n, r, rfl, ⟨h0, h1⟩, rfl⟩ := e_newa_some hex
      simp only [lnkO, Bool.and_eq_true, decide_eq_true_eq] at hln
      exact a_newr hx hb hts hown hWK hln.2 (wd_in hln.1.2) h0 h1 hC hdg (hnx rfl) (by
        dsimp only at hroom
        rw [hZ_new, hU_new] at hroom
        exact hroom) K
    · rw [if_neg hr] at hex
      cases hex
  case new idx =>
    simp only [ex1] at hex
    by_cases hr : a < 8
    · rw [if_pos hr] at hex
      cases hex
      simp only [lnkO, Bool.and_eq_true, decide_eq_true_eq] at hln
      exact a_new hx hb hts hown hWK hr (wd_in hln.2) hC hdg (hnx rfl) (by
        dsimp only at hroom
        rw [hZ_new, hU_new] at hroom
        exact hroom) K
    · rw [if_neg hr] at hex
      cases hex
  case invokespecial idx =>
    simp only [ex1] at hex
    by_cases hr : b = 6
    · rw [if_pos hr] at hex
      obtain ⟨x, r, rfl, ⟨hd, hrl⟩, rfl⟩ := e_obj_some hex
      simp only [lnkO] at hln
      rw [if_pos hr] at hln
      have K1 := Kn_s K (Cg_st hC (okSt_cons.mp hSt).2)
      rw [show pcO y (pos + 1) = pcO y pos + 3 from hnx rfl] at K1
      refine W.objInit hx hb hown (hts _ (wd_in hln)) (hts _ clP.2.2.2.2.2.1) (hts _ clP.2.2.2.2.2.2) (g := F0 m (pcO y pos) lsM (.ref (adr G.2.2 x) :: r.map (mv G.2.2))) rfl (by rw [hml]; exact hLR.1) (rest := r.map (mv G.2.2)) rfl hdg (by omega) (by
        show 2 * 0 + _ + 12 ≤ _
        rw [cat_sum]
        omega) K1
    · rw [if_neg hr] at hex
      cases hex
  case invokestatic idx =>
    simp only [ex1] at hex
    simp only [lnkO] at hln
    by_cases h7 : b = 7
    · rw [if_pos h7] at hex hln
      obtain ⟨n, dp, x, sp, x0, r, rfl, ⟨hd, hrl, ht0, ht1, hx3, hx03, g1, g2, g3, g4, g5⟩, rfl⟩ := e_cpy_some hex
      have i1 := okSt_cons.mp hSt
      have i2 := okSt_cons.mp i1.2
      have i3 := okSt_cons.mp i2.2
      have i4 := okSt_cons.mp i3.2
      have i5 := okSt_cons.mp i4.2
      have hn : inR n := i1.1
      have hdp : inR dp := i2.1
      have hsp : inR sp := i4.1
      obtain ⟨-, hat0⟩ := rep_ip hRp hx03 ht0 (Or.inl rfl)
      obtain ⟨hxZ, hat1⟩ := rep_ip hRp hx3 ht1 (Or.inl rfl)
      have neg : ∀ z : Int, 0 ≤ z → inR z → ¬ iS z < 0 := fun z hz hz' q => by have := (iS_lt hz' inR_0).mp q; omega
      refine a_cpy hx hb (by rw [hml]; exact hLR.1.symm) hts hown (wd_in hln) (hWK.2.1 0 rfl).1 hat0 hat1 hVS (adr_frA hx3) (neg sp g1 hsp) (neg dp g2 hdp) (neg n g3 hn) (by rw [iS_nat g1 hsp.2, iS_nat g3 hn.2]; omega) (by rw [iS_nat g2 hdp.2, iS_nat g3 hn.2]; omega) (by omega) (by
        have e1 : nativeFrameWords "java/lang/System" "arraycopy" 5 + 11 ≤ 30 := by decide +kernel
        rw [cat_sum]
        omega) hdg fun H1 locs1 k1 k2 k3 k4 => ?_
      rw [← show pcO y (pos + 1) = pcO y pos + 3 from hnx rfl]
      have e1 : (fun q : Nat => iS (hI (sCp h x0 sp x dp n) x (q : Int))) = va_cpy (fun q : Nat => iS (hI h x0 (q : Int))) (fun q : Nat => iS (hI h x (q : Int))) (iS sp).toNatClampNeg (iS dp).toNatClampNeg (iS n).toNatClampNeg := by
        funext q
        rw [iS_nat g1 hsp.2, iS_nat g2 hdp.2, iS_nat g3 hn.2]
        show iS (if x = x ∧ dp ≤ (q : Int) ∧ (q : Int) < dp + n then hI h x0 (sp + ((q : Int) - dp)) else hI h x (q : Int)) = _
        unfold va_cpy
        by_cases hq : dp ≤ (q : Int) ∧ (q : Int) < dp + n
        · rw [if_pos ⟨rfl, hq⟩, if_pos (by omega)]
          congr 2
          omega
        · rw [if_neg (fun z => hq z.2), if_neg (by omega)]
      have hRp' : Rep G (sCp h x0 sp x dp n) H1 := rep_upd hRp hx3 hxZ rfl k2 (ent_ip (h := sCp h x0 sp x dp n) ht1 (Or.inl rfl)) (by rw [e1]; exact k1) (fun b' hb' => ent_sCp hb') k3
      exact Kn_h rfl rfl K ⟨hLR, hLs, i5.2, okH_sCp hHk, hRp', k4⟩
    · rw [if_neg h7] at hex hln
      have mm : ∀ f, f = e_mxF ∨ f = e_mnF → e_mx f d pos ls st h = some c1 → ∃ x z r, st = .inl z :: .inl x :: r ∧ c1 = (pos + 1, ls, .inl (f x z) :: r, h) ∧ 1 ≤ d ∧ r.length ≤ 8 ∧ inR x ∧ inR z ∧ inR (f x z) := by
        intro f hf he
        unfold e_mx at he
        split at he
        · rename_i hd
          obtain ⟨x, z, r, rfl, rfl⟩ := e_bin_some he
          have i1 := okSt_cons.mp hSt
          have i2 := okSt_cons.mp i1.2
          refine ⟨x, z, r, rfl, rfl, hd.1, by have := hd.2; simp only [List.length_cons] at this; omega, i2.1, i1.1, ?_⟩
          rcases hf with rfl | rfl
          · unfold e_mxF; split
            · exact i2.1
            · exact i1.1
          · unfold e_mnF; split
            · exact i2.1
            · exact i1.1
        · cases he
      by_cases h8 : b = 8
      · rw [if_pos h8] at hex hln
        obtain ⟨x, z, r, rfl, rfl, hd, hrl, hxr, hzr, hvr⟩ := mm e_mxF (Or.inl rfl) hex
        have K1 := Kn_s K (Cg_st hC (okSt_cons.mpr ⟨hvr, (okSt_cons.mp (okSt_cons.mp hSt).2).2⟩))
        rw [show pcO y (pos + 1) = pcO y pos + 3 from hnx rfl] at K1
        have ev : (if iS x < iS z then iS z else iS x) = iS (e_mxF x z) := by
          unfold e_mxF
          by_cases hc : z ≤ x
          · rw [if_pos hc, if_neg (fun q => by have := (iS_lt hxr hzr).mp q; omega)]
          · rw [if_neg hc, if_pos ((iS_lt hxr hzr).mpr (by omega))]
        refine va_mmax hx hb (by rw [hml]; exact hLR.1.symm) hown (hts _ (wd_in hln)) (hts _ clM.1) (hts _ clM.2.1) (hts _ clM.2.2.1) (by omega) (by rw [cat_sum]; omega) (by omega) (by omega) hdg ?_
        rw [ev]
        exact K1
      · rw [if_neg h8] at hex hln
        by_cases h9 : b = 9
        · rw [if_pos h9] at hex hln
          obtain ⟨x, z, r, rfl, rfl, hd, hrl, hxr, hzr, hvr⟩ := mm e_mnF (Or.inr rfl) hex
          have K1 := Kn_s K (Cg_st hC (okSt_cons.mpr ⟨hvr, (okSt_cons.mp (okSt_cons.mp hSt).2).2⟩))
          rw [show pcO y (pos + 1) = pcO y pos + 3 from hnx rfl] at K1
          have ev : (if iS z < iS x then iS z else iS x) = iS (e_mnF x z) := by
            unfold e_mnF
            by_cases hc : x ≤ z
            · rw [if_pos hc, if_neg (fun q => by have := (iS_lt hzr hxr).mp q; omega)]
            · rw [if_neg hc, if_pos ((iS_lt hzr hxr).mpr (by omega))]
          refine va_mmin hx hb (by rw [hml]; exact hLR.1.symm) hown (hts _ (wd_in hln)) (hts _ clM.2.2.2.1) (hts _ clM.2.1) (hts _ clM.2.2.2.2) (by omega) (by rw [cat_sum]; omega) (by omega) (by omega) hdg ?_
          rw [ev]
          exact K1
        · rw [if_neg h9] at hex
          cases hex
  all_goals exact absurd (show (none : Option Cf) = some c1 from hex) (by simp)
end AD2

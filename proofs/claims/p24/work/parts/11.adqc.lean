section AD
variable {G : GG} {p : Program} {l : Launch} {e : Env} {R : Room} {s : State} {m : MethodId} {args : Array Value} {below : List Frame} {meth : Method} {c : Code} {H : Heap} {locs : List Loc} {cells slots : Nat} {Q : State → Prop}
variable {cc : ByteArray} {pc : Nat} {lsM : Array Slot} {rest : List Value} {own : String}
/-- a field is written: all other cells stay -/
theorem a_put {ci k index : Nat} {a : Nat} {fs : List Value} {v : Value} {A : Nat → Prop} {H0 : Heap} (hx : p.tables.exec = Jvm.exec) (hb : c.code = cc) (hts : ∀ w ∈ evT, w.before args s = true) (hown : s.vm.findClass own = some m.cls) (hK : va_K G.1 ev_cl [] s)
    (hat : va_at G.1 ev_cl (a, .inr (ci, fs)) H) (hS : va_S A H0 H locs) (hA : A a) (hk : k < fcn ci) (hlen : fs.length = fcn ci)
    (hlk : if (fldT ci k).2.2.2 = true then Jvm.Cond.fieldLink own index (fldC ci) (fldT ci k).2.1 (fldT ci k).2.2.1 ∈ evT ∧ meth.name = "<init>" ∧ own = fldC ci
      else (Jvm.Cond.fieldLink own index (fldC ci) (fldT ci k).2.1 (fldT ci k).2.2.1 ∈ evT ∨ Jvm.Cond.fieldLinkNest own index (fldC ci) (fldT ci k).2.1 (fldT ci k).2.2.1 "PhasorTree" ∈ evT))
    (hn : narrow (fldY ci k) v = v) (hfit : fits (fldY ci k) v = true) (hdg : decode cc pc = .ok (.putfield index, 3))
    (kk : ∀ (H1 : Heap) (locs1 : List Loc), va_at G.1 ev_cl (a, .inr (ci, fs.set k v)) H1 → H1.size = H.size → (∀ q, q ≠ a → H1[q]? = H[q]?) → va_S A H0 H1 locs1 → W p l e R s m args below meth c H1 locs1 cells slots Q (F0 m (pc + 3) lsM rest)) :
    W p l e R s m args below meth c H locs cells slots Q (F0 m pc lsM (v :: .ref a :: rest)) := by
  obtain ⟨hc, hin, hty, hnm, -, hdecl⟩ := clF ci (fcn_le hk)
  have hap := va_apart (own := own) hts hin (fldY ci) hty hnm hK hc
  obtain ⟨r, h1, cell, q1, q2, q3, q4⟩ := hat
  have hr : r = (fldC ci, fldT ci, fcn ci) := Option.some.inj (h1.symm.trans hc)
  subst hr
  obtain ⟨hSl, hfc, kC, hkC, hkind⟩ := hK.1 ci _ hc
  obtain ⟨cf, kf, fi, f, hi, hsl⟩ := hSl k hk
  have hi' : s.fieldFound? (fldC ci) (fldT ci k).2.1 (fldT ci k).2.2.1 = some (cf, kf, fi, f) := by
    have h9 := hi
    dsimp only at h9
    rw [hdecl k hk] at h9
    exact h9
  have hlay := hts _ (hin _ (u_in_lay hk))
  have hst := (u_facts hfc hkC (u_lays hts hin hk) hi).1
  have fin : ∀ (H' : Heap) (locs1 : List Loc), locs1 = locs ++ [⟨a, f.slot⟩] → H'[a]? = some (cell.setSlot f.slot v) → H'.size = H.size → (∀ q, q ≠ a → H'[q]? = H[q]?) → W p l e R s m args below meth c H' locs1 cells slots Q (F0 m (pc + 3) lsM rest) := by
    intro H' locs1 hl e1 e2 e3
    subst hl
    rw [hsl] at e1
    refine kk H' _ ⟨_, hc, t_OB.to (V := updV (vp_V fs) k v) ⟨_, e1, q2, q3, t_set q4 hap hk v⟩ (fun j _ => vp_updV_set (by rw [hlen]; exact hk) v j)⟩ e2 e3 (hS.put e2 e3 hA)
  by_cases hf : (fldT ci k).2.2.2 = true
  · rw [if_pos hf] at hlk
    obtain ⟨hl1, hl2, hl3⟩ := hlk
    unfold u_lay at hlay
    rw [if_pos hf] at hlay
    have hcf : m.cls = cf := by
      obtain ⟨_, _, c', _, _, _, -, -, hf', -, -, -, hown2, -⟩ := Cond.laysFinal_spec hlay
      have e1 : c' = cf := by have := hi.symm.trans hf'; simp at this; exact this.1.symm
      rw [hdecl k hk, ← hl3] at hown2
      rw [← e1]; exact Option.some.inj (hown.symm.trans hown2)
    have h6 := u_fits hfc hkC hkind (Or.inr hlay) hi (hty k hk) hn hfit
    exact W.putFinK hx hb hown (hts _ hl1) hi' hst hcf hl2 (by rw [q2]; exact h6) q1 q3 (by rw [hsl]; exact k2_hasslot (q4 k hk)) rfl rfl hdg fun H' e1 e2 e3 => fin H' _ rfl e1 e2 e3
  · rw [if_neg hf] at hlk
    unfold u_lay at hlay
    rw [if_neg hf] at hlay
    have h6 := u_store hfc hkC hkind hlay hi (hty k hk) hn hfit
    rcases hlk with hl | hl
    · exact W.putK hx hb (f := f) ⟨hown, hts _ hl, ⟨_, _, _, hi'⟩, hst⟩ (by rw [q2]; exact h6) q1 q3 (by rw [hsl]; exact k2_hasslot (q4 k hk)) rfl rfl hdg fun H' e1 e2 e3 => fin H' _ rfl e1 e2 e3
    · exact va_WputK hx hb (f := f) hown (hts _ hl) hi' hst (by rw [q2]; exact h6) q1 q3 (by rw [hsl]; exact k2_hasslot (q4 k hk)) rfl rfl hdg fun H' e1 e2 e3 => fin H' _ rfl e1 e2 e3
theorem a_get {ci k index : Nat} {a : Nat} {fs : List Value} {v : Value} (hx : p.tables.exec = Jvm.exec) (hb : c.code = cc) (hts : ∀ w ∈ evT, w.before args s = true) (hown : s.vm.findClass own = some m.cls) (hK : va_K G.1 ev_cl [] s)
    (hat : va_at G.1 ev_cl (a, .inr (ci, fs)) H) (hk : k < fcn ci)
    (hlk : Jvm.Cond.fieldLink own index (fldC ci) (fldT ci k).2.1 (fldT ci k).2.2.1 ∈ evT ∨ Jvm.Cond.fieldLinkNest own index (fldC ci) (fldT ci k).2.1 (fldT ci k).2.2.1 "PhasorTree" ∈ evT)
    (hv : fs[k]? = some v) (hdg : decode cc pc = .ok (.getfield index, 3))
    (kk : W p l e R s m args below meth c H locs cells slots Q (F0 m (pc + 3) lsM (v :: rest))) :
    W p l e R s m args below meth c H locs cells slots Q (F0 m pc lsM (.ref a :: rest)) := by
  obtain ⟨hc, hin, hty, hnm, -, hdecl⟩ := clF ci (fcn_le hk)
  have hsame : ∀ x, s.fieldFound? (fldT ci k).1 (fldT ci k).2.1 (fldT ci k).2.2.1 = some x → s.fieldFound? (fldC ci) (fldT ci k).2.1 (fldT ci k).2.2.1 = some x := fun x hq => by
    rw [hdecl k hk] at hq
    exact hq
  rcases hlk with hl | hl
  · exact va_get hx hb hts hin hown hK (va_P1 hat) 0 rfl hc k hk (hts _ hl) hsame hv hdg kk
  · exact va_getN hx hb hts hin hown hK (va_P1 hat) 0 rfl hc k hk (hts _ hl) hsame hv hdg kk
/-- a place of an array of ints (or chars) is written -/
theorem a_ast {t : Nat} {a n : Nat} {f : Nat → Int32} {i x : Int32} {A : Nat → Prop} {H0 : Heap} (hx : p.tables.exec = Jvm.exec) (hb : c.code = cc) (ht : t = 0 ∨ t = 1) (hAr : ArrOfT s (G.2.1 t) (arT t))
    (hat : va_at G.1 ev_cl (a, .inl (G.2.1 t, n, .inl f)) H) (hS : va_S A H0 H locs) (hA : A a) (hin : vp_in i n) (hch : t = 1 → vp_nar .char x = x)
    (hdg : decode cc pc = .ok (if t = 0 then .iastore else .castore, 1))
    (kk : ∀ (H1 : Heap) (locs1 : List Loc), va_at G.1 ev_cl (a, .inl (G.2.1 t, n, .inl (upd f i.toNatClampNeg x))) H1 → H1.size = H.size → (∀ q, q ≠ a → H1[q]? = H[q]?) → va_S A H0 H1 locs1 → W p l e R s m args below meth c H1 locs1 cells slots Q (F0 m (pc + 1) lsM rest)) :
    W p l e R s m args below meth c H locs cells slots Q (F0 m pc lsM (.int x :: .int i :: .ref a :: rest)) := by
  have hin2 : ¬ (i < 0 ∨ (arrV (G.2.1 t) n (fun j => .int (f j))).slots.size ≤ i.toNatClampNeg) := by rw [arrV_size]; exact hin
  have fin : ∀ (H' : Heap) (y : Int32), y = x → H'[a]? = some ((arrV (G.2.1 t) n (fun j => .int (f j))).setSlot i.toNatClampNeg (.int y)) → H'.size = H.size → (∀ q, q ≠ a → H'[q]? = H[q]?) → W p l e R s m args below meth c H' (locs ++ [⟨a, i.toNatClampNeg⟩]) cells slots Q (F0 m (pc + 1) lsM rest) := by
    intro H' y hy e1 e2 e3
    subst hy
    refine kk H' _ ?_ e2 e3 (hS.put e2 e3 hA)
    show H'[a]? = some (vp_cell _ _)
    rw [e1, vp_cell_i, arrV_store]
    congr 2
    funext q
    by_cases hq : q = i.toNatClampNeg
    · subst hq
      simp [updV, upd]
    · simp [updV, upd, hq]
  rcases ht with rfl | rfl
  · exact W.iast hx hb hat (hAr n (fun j => .int (f j))) (fun q => by cases q) hin2 rfl rfl hdg fun H1 e1 z oq => fin H1 x rfl e1 z oq
  · refine W.cast hx hb hat (hAr n (fun j => .int (f j))) (fun q => by cases q) hin2 rfl rfl hdg fun H1 e1 z oq => ?_
    exact fin H1 _ (hch rfl) e1 z oq
theorem a_astq {ci : Nat} {a n v : Nat} {vs : List Value} {f : Nat → Option Nat} {i : Int32} {A : Nat → Prop} {H0 : Heap} (hx : p.tables.exec = Jvm.exec) (hb : c.code = cc) (hc8 : ci < 8) (hK : va_K G.1 ev_cl [] s) (hRA : va_RA s (G.2.1 (ci + 2)) (.object (fldC ci)))
    (hat : va_at G.1 ev_cl (a, .inl (G.2.1 (ci + 2), n, .inr (.inr (.inr (.inr f))))) H) (hv : va_at G.1 ev_cl (v, .inr (ci, vs)) H) (hS : va_S A H0 H locs) (hA : A a) (hin : vp_in i n)
    (hdg : decode cc pc = .ok (.aastore, 1))
    (kk : ∀ (H1 : Heap) (locs1 : List Loc), va_at G.1 ev_cl (a, .inl (G.2.1 (ci + 2), n, .inr (.inr (.inr (.inr (va_up f i.toNatClampNeg (some v))))))) H1 → H1.size = H.size → (∀ q, q ≠ a → H1[q]? = H[q]?) → va_S A H0 H1 locs1 → W p l e R s m args below meth c H1 locs1 cells slots Q (F0 m (pc + 1) lsM rest)) :
    W p l e R s m args below meth c H locs cells slots Q (F0 m pc lsM (.ref v :: .int i :: .ref a :: rest)) := by
  have hlt : i.toNatClampNeg < n := Nat.not_le.mp fun q => hin (Or.inr q)
  have h0 : ¬ i < 0 := fun q => hin (Or.inl q)
  obtain ⟨hc, -⟩ := clF ci hc8
  obtain ⟨r', hr', cellV, g1, g2, g3, -⟩ := hv
  have hcls := (hK.1 ci _ hc).2
  obtain ⟨kA, comp, k1, k2, k3, -⟩ := hRA
  have hcomp : comp = G.1.1 ci := Option.some.inj (k3.symm.trans hcls.1)
  subst hcomp
  obtain ⟨kC, hkC, -⟩ := hcls.2
  refine W.aast hx hb hat (fun q h => by cases h) (fun h => by cases h) k1 k2 rfl hkC ⟨h0, by show _ < (arrV _ _ _).slots.size; rw [arrV_size]; exact hlt⟩ g1 (fun q h => by rw [g3] at h; cases h) (by rw [g2]; exact hkC) (by rw [g2]; exact va_assign hcls) rfl rfl hdg fun H1 e1 z oq => ?_
  refine kk H1 _ ?_ z oq (hS.put z oq hA)
  show H1[a]? = some (vp_cell _ _)
  rw [e1]
  rw [vp_cell_q, vp_cell_q, arrV_store]
  congr 2
  funext q
  by_cases hq : q = i.toNatClampNeg
  · subst hq
    simp [updV, va_up, va_rf]
  · simp [updV, va_up, hq]
theorem a_cpy {a0 a n0 n1 index : Nat} {f g : Nat → Int32} {sp dp n : Int32} {A : Nat → Prop} {H0 : Heap} (hx : p.tables.exec = Jvm.exec) (hb : c.code = cc) (hml : c.maxLocals = lsM.size) (hts : ∀ w ∈ evT, w.before args s = true) (hown : s.vm.findClass own = some m.cls) (hlink : Jvm.Cond.methodLink own index arraycopyName ∈ evT)
    (hAr : ArrOfT s (G.2.1 0) .int) (ha0 : va_at G.1 ev_cl (a0, .inl (G.2.1 0, n0, .inl f)) H) (ha1 : va_at G.1 ev_cl (a, .inl (G.2.1 0, n1, .inl g)) H) (hS : va_S A H0 H locs) (hA : A a)
    (h1 : ¬ sp < 0) (h2 : ¬ dp < 0) (h3 : ¬ n < 0) (h4 : sp.toNatClampNeg + n.toNatClampNeg ≤ n0) (h5 : dp.toNatClampNeg + n.toNatClampNeg ≤ n1)
    (hframes : 1 ≤ R.frames) (hlocals : (rest.map fun v => v.category).sum + (nativeFrameWords "java/lang/System" "arraycopy" 5 + 11) ≤ R.locals) (hdg : decode cc pc = .ok (.invokestatic index, 3))
    (kk : ∀ (H1 : Heap) (locs1 : List Loc), va_at G.1 ev_cl (a, .inl (G.2.1 0, n1, .inl (va_cpy f g sp.toNatClampNeg dp.toNatClampNeg n.toNatClampNeg))) H1 → H1.size = H.size → (∀ q, q ≠ a → H1[q]? = H[q]?) → va_S A H0 H1 locs1 → W p l e R s m args below meth c H1 locs1 cells slots Q (F0 m (pc + 3) lsM rest)) :
    W p l e R s m args below meth c H locs cells slots Q (F0 m pc lsM (.int n :: .int dp :: .ref a :: .int sp :: .ref a0 :: rest)) := by
  have nn : ∀ z : Int32, ¬ z < 0 → z.toInt = (z.toNatClampNeg : Int) := by
    intro z hz
    have hz0 : (0 : Int) ≤ z.toInt := by
      have := Int32.not_lt.mp hz
      simpa using Int32.le_iff_toInt_le.mp this
    show z.toInt = ((z.toInt.toNat : Nat) : Int)
    omega
  intro T hT X
  have hc0 : H[a0]? = some (vp_cell (G.2.1 0) (n0, .inl f)) := ha0
  have hc1 : H[a]? = some (vp_cell (G.2.1 0) (n1, .inl g)) := ha1
  obtain ⟨-, k0, hk0, cm0, hkk0⟩ := hAr n0 (fun j => .int (f j))
  obtain ⟨-, k1, hk1, cm1, hkk1⟩ := hAr n1 (fun j => .int (g j))
  obtain ⟨vm', X', step⟩ := X.arraycopy hx hown (hts _ hlink) (hts _ clP.2.2.1) (hts _ clP.2.2.2.1) (hts _ clP.2.2.2.2.1) (src := a0) (dst := a) (cs := vp_cell (G.2.1 0) (n0, .inl f)) (cd := vp_cell (G.2.1 0) (n1, .inl g)) (srcPos := sp) (destPos := dp) (n := n) (by rw [hT]; exact hc0) (by rw [hT]; exact hc1)
    (fun _ h => by cases h) (fun _ h => by cases h) (fun h => by cases h) (fun h => by cases h) hk0 hk1 hkk0 hkk1 (by simp [refKind]) h1 h2 h3
    (by rw [nn sp h1, nn n h3]; show ¬ _ > ((arrV (G.2.1 0) n0 (fun j => .int (f j))).slots.size : Int); rw [arrV_size]; omega)
    (by rw [nn dp h2, nn n h3]; show ¬ _ > ((arrV (G.2.1 0) n1 (fun j => .int (g j))).slots.size : Int); rw [arrV_size]; omega)
    (fun vm₁ _ i hi => by
      have e1 : (vp_cell (G.2.1 0) (n0, .inl f)).slots.getD (sp.toNatClampNeg + i) .null = .int (f (sp.toNatClampNeg + i)) := by
        show (arrV (G.2.1 0) n0 (fun j => .int (f j))).slots.getD _ _ = _
        rw [Array.getD_eq_getD_getElem?, arrV_read _ _ (by omega)]
        rfl
      refine ⟨?_, ?_⟩
      · rw [e1]
        rfl
      · rw [e1]
        exact trivial)
    (g := F0 m pc lsM (.int n :: .int dp :: .ref a :: .int sp :: .ref a0 :: rest)) rfl (by rw [hml]) (rest := rest) rfl (by rw [hb]; exact hdg) hframes (by show 2 * 0 + _ + _ ≤ _; omega)
  have e1 : copied (vp_cell (G.2.1 0) (n0, .inl f)) (vp_cell (G.2.1 0) (n1, .inl g)) sp dp n = vp_cell (G.2.1 0) (n1, .inl (va_cpy f g sp.toNatClampNeg dp.toNatClampNeg n.toNatClampNeg)) := va_copied (fun z => .int z) (G.2.1 0) (G.2.1 0) f g h4
  rw [e1] at X' step
  have hl : a < H.size := (Array.getElem?_eq_some_iff.mp hc1).1
  have hheap : ((T.setVm vm').setCell a (vp_cell (G.2.1 0) (n1, .inl (va_cpy f g sp.toNatClampNeg dp.toNatClampNeg n.toNatClampNeg)))).heap = H.setIfInBounds a (vp_cell (G.2.1 0) (n1, .inl (va_cpy f g sp.toNatClampNeg dp.toNatClampNeg n.toNatClampNeg))) := by rw [← hT]; rfl
  have oq : ∀ q : Nat, q ≠ a → (H.setIfInBounds a (vp_cell (G.2.1 0) (n1, .inl (va_cpy f g sp.toNatClampNeg dp.toNatClampNeg n.toNatClampNeg))))[q]? = H[q]? := fun q hq => by simp [Array.getElem?_setIfInBounds, Ne.symm hq]
  obtain ⟨t, a1, b1⟩ := kk _ _ (show (H.setIfInBounds a _)[a]? = some _ by simp [Array.getElem?_setIfInBounds, hl]) (by simp) oq ⟨by simp; exact hS.1, fun q g1 g2 => by
      rw [oq q (fun e => g2 (by rw [e]; exact hA))]
      exact hS.2.1 q g1 g2, fun q hq => by
      rcases List.mem_append.mp hq with h | h
      · exact hS.2.2 q h
      · obtain ⟨z, -, hz⟩ := List.mem_map.mp h
        rw [← hz]
        exact hA⟩ _ hheap X'
  exact ⟨t, step t a1, b1⟩
end AD

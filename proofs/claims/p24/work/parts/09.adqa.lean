/-! the abstract heap over the machine's -/
abbrev PP : Type := Nat × Nat × Nat × Nat × (Nat → Nat × (Int → Int))
abbrev GG : Type := va_G × (Nat → ClassId) × PP
def gB (G : GG) : Nat := G.2.2.2.2.2.1
def gRo (G : GG) (a : Nat) : Nat × (Int → Int) := G.2.2.2.2.2.2 a
def adr (P : PP) (a : Nat) : Nat := if a = 0 then P.1 else if a = 1 then P.2.1 else if a = 2 then P.2.2.1 else P.2.2.2.1 + (a - 3)
def frA (P : PP) : Nat → Prop := fun q => P.2.2.2.1 ≤ q
def mv (P : PP) : AV → Value
  | .inl x => .int (iS x)
  | .inr r => va_rf (r.map (adr P))
def fsV (P : PP) (ci : Nat) (h : HP) (a : Nat) : List Value := (List.range (fcn ci)).map (fun (k : Nat) => if fkd ci k = 1 then va_rf ((hR h a (k : Int)).map (adr P)) else .int (iS (hI h a (k : Int))))
def arT : Nat → FieldType
  | 0 => .int
  | 1 => .char
  | n + 2 => .object (fldC n)
def entO (G : GG) (h : HP) (a : Nat) : Option va_E :=
  if (hTy h a).1 = 0 then none
  else if (hTy h a).1 ≤ 8 then some (.inr ((hTy h a).1 - 1, fsV G.2.2 ((hTy h a).1 - 1) h a))
  else if (hTy h a).1 = 100 ∨ (hTy h a).1 = 101 then some (.inl (G.2.1 ((hTy h a).1 - 100), (hTy h a).2, .inl (fun j => iS (hI h a (j : Int)))))
  else if rfO (hTy h a).1 = true then some (.inl (G.2.1 ((hTy h a).1 - 198), (hTy h a).2, .inr (.inr (.inr (.inr (fun j => (hR h a (j : Int)).map (adr G.2.2)))))))
  else none
def Rep (G : GG) (h : HP) (H : Heap) : Prop := 3 ≤ hZ h ∧ H.size + 3 = gB G + hZ h ∧ (G.2.2.1 < gB G ∧ G.2.2.2.1 < gB G ∧ G.2.2.2.2.1 < gB G) ∧ (∀ a e, 3 ≤ a → entO G h a = some e → a < hZ h ∧ va_at G.1 ev_cl (adr G.2.2 a, e) H) ∧ ∀ a, a < 3 → hTy h a = (100, (gRo G a).1) ∧ ∀ j, hI h a j = (gRo G a).2 j
def okK (k : Nat) : Bool := k == 0 || k == 1 || k == 2 || k == 3 || k == 6 || k == 7
def WK (G : GG) (U : State) : Prop := va_K G.1 ev_cl [] U ∧ (∀ k, okK k = true → ArrOfT U (G.2.1 k) (arT k) ∧ va_RA U (G.2.1 k) (arT k)) ∧ va_Z "PhasorTree" "LEAST_SETTING" "[I" (.ref G.2.2.1) (frA G.2.2) U U.heap ∧ va_Z "PhasorTree" "MOST_SETTING" "[I" (.ref G.2.2.2.1) (frA G.2.2) U U.heap ∧ ∀ a, a < 3 → va_T .int (adr G.2.2 a) (gRo G a).1 (fun j => .int (iS ((gRo G a).2 (j : Int)))) (frA G.2.2) U U.heap
def LR (P : PP) (lsM : Array Slot) (nL : Nat) (ls : Ls) : Prop := lsM.size = nL ∧ lv_wf lsM ∧ ls.length = nL ∧ ∀ (i : Nat) (v : AV), ls[i]? = some (some v) → lsM[i]? = some (.val (mv P v))
def okV : AV → Prop
  | .inl x => inR x
  | .inr _ => True
def okH (h : HP) : Prop := ∀ a k, inR (hI h a k)
def okLs (ls : Ls) : Prop := ∀ (i : Nat) (v : AV), ls[i]? = some (some v) → okV v
def okSt (st : List AV) : Prop := ∀ v ∈ st, okV v
def fldY : Nat → Nat → FieldType
  | 0 => tyX0
  | 1 => tyX1
  | 2 => tyX2
  | 3 => tyX3
  | 4 => tyX4
  | 5 => tyX5
  | 6 => tyX6
  | _ => tyX6
def kindO (k : Nat) (t : FieldType) : Bool := match k, t with
  | 0, .int => true
  | 1, t => t.isReference
  | 2, .char => true
  | 3, .boolean => true
  | _, _ => false
def evG (w : Jvm.Cond) : Bool := match w with
  | .arrayOver (.object _) => true
  | .fieldLinkNest _ _ _ _ _ _ => true
  | .methodLinkNest _ _ _ _ => true
  | w => goodWord w
def evT : List Jvm.Cond := lw_tbl.filter evG
theorem evT_of {w : Jvm.Cond} (h : w ∈ lw_tbl) (g : evG w = true := by rfl) : w ∈ evT := List.mem_filter.mpr ⟨h, g⟩
theorem evT_lay {C : String} {T : u_T} {N : Nat} (h : ∀ w ∈ u_ws C T N, w ∈ lw_tbl) : ∀ w ∈ u_ws C T N, w ∈ evT := by
  intro w hw
  refine evT_of (h w hw) ?_
  obtain ⟨k, -, rfl⟩ := List.mem_map.mp hw
  unfold u_lay
  split <;> rfl
theorem clF (ci : Nat) (h : ci < 8) : ev_cl[ci]? = some (fldC ci, fldT ci, fcn ci) ∧ (∀ w ∈ u_ws (fldC ci) (fldT ci) (fcn ci), w ∈ evT) ∧ (∀ k, k < fcn ci → parseFieldDescriptor (fldT ci k).2.2.1 = some (fldY ci k)) ∧ (∀ a, a < fcn ci → ∀ b, b < fcn ci → a ≠ b → (fldT ci a).2.1 ≠ (fldT ci b).2.1) ∧ (∀ k, k < fcn ci → kindO (fkd ci k) (fldY ci k) = true) ∧ ∀ k, k < fcn ci → (fldT ci k).1 = fldC ci := by
  match ci, h with
  | 0, _ => exact ⟨rfl, evT_lay inX0, tyX0_ok, nmX0, by decide +kernel, by decide +kernel⟩
  | 1, _ => exact ⟨rfl, evT_lay inX1, tyX1_ok, nmX1, by decide +kernel, by decide +kernel⟩
  | 2, _ => exact ⟨rfl, evT_lay inX2, tyX2_ok, nmX2, by decide +kernel, by decide +kernel⟩
  | 3, _ => exact ⟨rfl, evT_lay inX3, tyX3_ok, nmX3, by decide +kernel, by decide +kernel⟩
  | 4, _ => exact ⟨rfl, evT_lay inX4, tyX4_ok, nmX4, by decide +kernel, by decide +kernel⟩
  | 5, _ => exact ⟨rfl, evT_lay inX5, tyX5_ok, nmX5, by decide +kernel, by decide +kernel⟩
  | 6, _ => exact ⟨rfl, evT_lay inX6, tyX6_ok, nmX6, by decide +kernel, by decide +kernel⟩
  | 7, _ => exact ⟨rfl, evT_lay inX6, tyX6_ok, nmX6, by decide +kernel, by decide +kernel⟩
  | n + 8, h => exact absurd h (by omega)
theorem clI0 : ∀ ci, ci < 8 → Jvm.Cond.instantiable (fldC ci) (fcn ci) ∈ lw_tbl ∧ Jvm.Cond.initialized (fldC ci) ∈ lw_tbl := by decide +kernel
theorem clI (ci : Nat) (h : ci < 8) : Jvm.Cond.instantiable (fldC ci) (fcn ci) ∈ evT ∧ Jvm.Cond.initialized (fldC ci) ∈ evT := ⟨evT_of (clI0 ci h).1, evT_of (clI0 ci h).2⟩
theorem clA : (∀ ci, ci = 0 ∨ ci = 1 ∨ ci = 4 ∨ ci = 5 → ci < 8 → Jvm.Cond.arrayOver (.object (fldC ci)) ∈ evT) := by
  intro ci h _
  refine evT_of ?_
  rcases h with rfl | rfl | rfl | rfl <;> decide +kernel
theorem clP0 : Jvm.Cond.arrayClass .int ∈ lw_tbl ∧ Jvm.Cond.arrayClass .char ∈ lw_tbl ∧ Jvm.Cond.native arraycopyName ∈ lw_tbl ∧ Jvm.Cond.static arraycopyName ∈ lw_tbl ∧ Jvm.Cond.initialized "java/lang/System" ∈ lw_tbl ∧ Jvm.Cond.instanceMethod objectInit ∈ lw_tbl ∧ Jvm.Cond.code objectInit ⟨#[0xb1]⟩ 1 none ∈ lw_tbl := by decide +kernel
theorem clP : Jvm.Cond.arrayClass .int ∈ evT ∧ Jvm.Cond.arrayClass .char ∈ evT ∧ Jvm.Cond.native arraycopyName ∈ evT ∧ Jvm.Cond.static arraycopyName ∈ evT ∧ Jvm.Cond.initialized "java/lang/System" ∈ evT ∧ Jvm.Cond.instanceMethod objectInit ∈ evT ∧ Jvm.Cond.code objectInit ⟨#[0xb1]⟩ 1 none ∈ evT := ⟨evT_of clP0.1, evT_of clP0.2.1, evT_of clP0.2.2.1, evT_of clP0.2.2.2.1, evT_of clP0.2.2.2.2.1, evT_of clP0.2.2.2.2.2.1, evT_of clP0.2.2.2.2.2.2⟩
theorem clM0 : Jvm.Cond.static Lib.Math.max.name ∈ lw_tbl ∧ Jvm.Cond.initialized "java/lang/Math" ∈ lw_tbl ∧ Jvm.Cond.code Lib.Math.max.name Lib.Math.max.code 2 (some .int) ∈ lw_tbl ∧ Jvm.Cond.static Lib.Math.min.name ∈ lw_tbl ∧ Jvm.Cond.code Lib.Math.min.name Lib.Math.min.code 2 (some .int) ∈ lw_tbl := by decide +kernel
theorem clM : Jvm.Cond.static Lib.Math.max.name ∈ evT ∧ Jvm.Cond.initialized "java/lang/Math" ∈ evT ∧ Jvm.Cond.code Lib.Math.max.name Lib.Math.max.code 2 (some .int) ∈ evT ∧ Jvm.Cond.static Lib.Math.min.name ∈ evT ∧ Jvm.Cond.code Lib.Math.min.name Lib.Math.min.code 2 (some .int) ∈ evT := ⟨evT_of clM0.1, evT_of clM0.2.1, evT_of clM0.2.2.1, evT_of clM0.2.2.2.1, evT_of clM0.2.2.2.2⟩
theorem wd_in {w : Nat} {c : Jvm.Cond} (h : wd w c = true) (g : evG c = true := by rfl) : c ∈ evT := evT_of (List.mem_of_getElem? (of_decide_eq_true h)) g
theorem fcn_le {ci k : Nat} (h : k < fcn ci) : ci < 8 := by
  by_cases h8 : ci < 8
  · exact h8
  · exfalso
    have : fcn ci = 0 := by
      unfold fcn ev_fk
      rw [List.getD_eq_getElem?_getD, List.getElem?_eq_none (by simp; omega)]
      rfl
    omega
theorem ent_obj {G : GG} {h : HP} {a ci : Nat} (ht : (hTy h a).1 = ci + 1) (hc : ci < 8) : entO G h a = some (.inr (ci, fsV G.2.2 ci h a)) := by
  unfold entO
  rw [if_neg (by omega), if_pos (by omega), ht]
  rfl
theorem ent_ip {G : GG} {h : HP} {a t : Nat} (ht : (hTy h a).1 = t) (hc : t = 100 ∨ t = 101) : entO G h a = some (.inl (G.2.1 (t - 100), (hTy h a).2, .inl (fun j => iS (hI h a (j : Int))))) := by
  unfold entO
  rw [if_neg (by omega), if_neg (by omega), if_pos (by omega), ht]
theorem rfO_iff {t : Nat} (h : rfO t = true) : t = 200 ∨ t = 201 ∨ t = 204 ∨ t = 205 := by
  simpa [rfO, or_assoc] using h
theorem ent_rf {G : GG} {h : HP} {a t : Nat} (ht : (hTy h a).1 = t) (hc : rfO t = true) : entO G h a = some (.inl (G.2.1 (t - 198), (hTy h a).2, .inr (.inr (.inr (.inr (fun j => (hR h a (j : Int)).map (adr G.2.2))))))) := by
  have := rfO_iff hc
  unfold entO
  rw [if_neg (by omega), if_neg (by omega), if_neg (by omega), ht, if_pos hc]
theorem fsV_len {P : PP} {ci : Nat} {h : HP} {a : Nat} : (fsV P ci h a).length = fcn ci := by simp [fsV]
theorem fsV_at {P : PP} {ci : Nat} {h : HP} {a k : Nat} (hk : k < fcn ci) : (fsV P ci h a)[k]? = some (mv P (if fkd ci k = 1 then .inr (hR h a (k : Int)) else .inl (hI h a (k : Int)))) := by
  unfold fsV
  rw [List.getElem?_map, List.getElem?_range hk]
  by_cases h1 : fkd ci k = 1 <;> simp [h1, mv]
theorem adr_ge {P : PP} {a : Nat} (h : 3 ≤ a) : adr P a = P.2.2.2.1 + (a - 3) := by
  unfold adr
  rw [if_neg (by omega), if_neg (by omega), if_neg (by omega)]
theorem adr_frA {P : PP} {a : Nat} (h : 3 ≤ a) : frA P (adr P a) := by
  rw [adr_ge h]
  exact Nat.le_add_right _ _
theorem adr_ne {G : GG} (hb : G.2.2.1 < gB G ∧ G.2.2.2.1 < gB G ∧ G.2.2.2.2.1 < gB G) {a b : Nat} (ha : 3 ≤ a) (hn : b ≠ a) : adr G.2.2 b ≠ adr G.2.2 a := by
  rw [adr_ge ha]
  unfold adr
  unfold gB at hb
  by_cases h0 : b = 0
  · rw [if_pos h0]; omega
  by_cases h1 : b = 1
  · rw [if_neg h0, if_pos h1]; omega
  by_cases h2 : b = 2
  · rw [if_neg h0, if_neg h1, if_pos h2]; omega
  rw [if_neg h0, if_neg h1, if_neg h2]
  omega
theorem va_P1 {D : va_G} {cl : List vw_C} {q : Nat × va_E} {H : Heap} (h : va_at D cl q H) : va_P D cl [q] H := by
  intro k x hx
  have hk : k < 1 := (List.getElem?_eq_some_iff.mp hx).1
  obtain rfl : k = 0 := by omega
  cases hx
  exact h
theorem ent_congr {G : GG} {h h' : HP} {b : Nat} (h1 : hTy h' b = hTy h b) (h2 : ∀ j, hI h' b j = hI h b j) (h3 : ∀ j, hR h' b j = hR h b j) : entO G h' b = entO G h b := by
  unfold entO fsV
  simp only [h1, h2, h3]
/-- what cell b is, is the same in both -/
def same1 (h h' : HP) (b : Nat) : Prop := hTy h' b = hTy h b ∧ (∀ j, hI h' b j = hI h b j) ∧ ∀ j, hR h' b j = hR h b j
theorem same1.ent {G : GG} {h h' : HP} {b : Nat} (s : same1 h h' b) : entO G h' b = entO G h b := ent_congr s.1 s.2.1 s.2.2
theorem rep_upd {G : GG} {h h' : HP} {H H1 : Heap} {a : Nat} {e' : va_E} (hRep : Rep G h H) (ha3 : 3 ≤ a) (haZ : a < hZ h) (hz : hZ h' = hZ h) (hs : H1.size = H.size) (he : entO G h' a = some e') (hat : va_at G.1 ev_cl (adr G.2.2 a, e') H1) (ho : ∀ b, b ≠ a → same1 h h' b) (oq : ∀ q, q ≠ adr G.2.2 a → H1[q]? = H[q]?) : Rep G h' H1 := by
  obtain ⟨h1, h2, h3, h4, h5⟩ := hRep
  refine ⟨by rw [hz]; exact h1, by rw [hz, hs]; exact h2, h3, fun b e hb3 hb => ?_, fun b hb => ?_⟩
  · by_cases hn : b = a
    · subst hn
      rw [he] at hb
      cases hb
      exact ⟨by rw [hz]; exact haZ, hat⟩
    · rw [(ho b hn).ent] at hb
      obtain ⟨g1, g2⟩ := h4 b e hb3 hb
      exact ⟨by rw [hz]; exact g1, g2.kept (oq _ (adr_ne h3 ha3 hn))⟩
  · obtain ⟨g1, g2, -⟩ := ho b (by omega)
    exact ⟨by rw [g1]; exact (h5 b hb).1, fun j => by rw [g2 j]; exact (h5 b hb).2 j⟩
theorem rep_new {G : GG} {h h' : HP} {H H1 : Heap} {e' : va_E} (hRep : Rep G h H) (hz : hZ h' = hZ h + 1) (hs : H1.size = H.size + 1) (he : entO G h' (hZ h) = some e') (hat : va_at G.1 ev_cl (H.size, e') H1) (ho : ∀ b, b ≠ hZ h → same1 h h' b) (oq : ∀ q, q < H.size → H1[q]? = H[q]?) : Rep G h' H1 ∧ H.size = adr G.2.2 (hZ h) := by
  obtain ⟨h1, h2, h3, h4, h5⟩ := hRep
  have hA : H.size = adr G.2.2 (hZ h) := by
    rw [adr_ge h1]
    unfold gB at h2
    omega
  refine ⟨⟨by omega, by omega, h3, fun b e hb3 hb => ?_, fun b hb => ?_⟩, hA⟩
  · by_cases hn : b = hZ h
    · subst hn
      rw [he] at hb
      cases hb
      rw [← hA]
      exact ⟨by omega, hat⟩
    · rw [(ho b hn).ent] at hb
      obtain ⟨g1, g2⟩ := h4 b e hb3 hb
      exact ⟨by omega, g2.kept (oq _ g2.lt)⟩
  · obtain ⟨g1, g2, -⟩ := ho b (by omega)
    exact ⟨by rw [g1]; exact (h5 b hb).1, fun j => by rw [g2 j]; exact (h5 b hb).2 j⟩
theorem ent_sI {h : HP} {a b : Nat} {k v : Int} (hn : b ≠ a) : same1 h (sI h a k v) b := ⟨rfl, fun j => by show (if b = a ∧ j = k then v else hI h b j) = _; rw [if_neg (fun z => hn z.1)], fun j => rfl⟩
theorem ent_sR {h : HP} {a b : Nat} {k : Int} {v : Option Nat} (hn : b ≠ a) : same1 h (sR h a k v) b := ⟨rfl, fun j => rfl, fun j => by show (if b = a ∧ j = k then v else hR h b j) = _; rw [if_neg (fun z => hn z.1)]⟩
theorem ent_sCp {h : HP} {c a b : Nat} {sp dp n : Int} (hn : b ≠ a) : same1 h (sCp h c sp a dp n) b := ⟨rfl, fun j => by show (if b = a ∧ dp ≤ j ∧ j < dp + n then hI h c (sp + (j - dp)) else hI h b j) = _; rw [if_neg (fun z => hn z.1)], fun j => rfl⟩
theorem ent_sNew {h : HP} {t : Nat × Nat} {n b : Nat} (hn : b ≠ hZ h) : same1 h (sNew h t n) b := ⟨by show (if b = hZ h then t else hTy h b) = _; rw [if_neg hn], fun j => by show (if b = hZ h then 0 else hI h b j) = _; rw [if_neg hn], fun j => by show (if b = hZ h then none else hR h b j) = _; rw [if_neg hn]⟩
/-- an address whose kind isn't an int array's is none of the three given arrays -/
theorem rep_ge3 {G : GG} {h : HP} {H : Heap} {a : Nat} (hRep : Rep G h H) (ht : (hTy h a).1 ≠ 100) : 3 ≤ a := by
  by_cases h3 : 3 ≤ a
  · exact h3
  · exfalso
    have := (hRep.2.2.2.2 a (by omega)).1
    rw [this] at ht
    exact ht rfl
theorem rep_obj {G : GG} {h : HP} {H : Heap} {a ci : Nat} (hRep : Rep G h H) (ht : (hTy h a).1 = ci + 1) (hc : ci < 8) : a < hZ h ∧ va_at G.1 ev_cl (adr G.2.2 a, .inr (ci, fsV G.2.2 ci h a)) H := hRep.2.2.2.1 _ _ (rep_ge3 hRep (by omega)) (ent_obj ht hc)
theorem rep_rf {G : GG} {h : HP} {H : Heap} {a : Nat} (hRep : Rep G h H) (hc : rfO (hTy h a).1 = true) : a < hZ h ∧ va_at G.1 ev_cl (adr G.2.2 a, .inl (G.2.1 ((hTy h a).1 - 198), (hTy h a).2, .inr (.inr (.inr (.inr (fun j => (hR h a (j : Int)).map (adr G.2.2))))))) H := hRep.2.2.2.1 _ _ (rep_ge3 hRep (by have := rfO_iff hc; omega)) (ent_rf rfl hc)
theorem rep_ip {G : GG} {h : HP} {H : Heap} {a t : Nat} (hRep : Rep G h H) (ha : 3 ≤ a) (ht : (hTy h a).1 = t) (hc : t = 100 ∨ t = 101) : a < hZ h ∧ va_at G.1 ev_cl (adr G.2.2 a, .inl (G.2.1 (t - 100), (hTy h a).2, .inl (fun j => iS (hI h a (j : Int))))) H := hRep.2.2.2.1 _ _ ha (ent_ip ht hc)
theorem LR_set {P : PP} {lsM lsM' : Array Slot} {nL k : Nat} {ls : Ls} {v : AV} {lv' : List (Nat × Value)} (h : LR P lsM nL ls) (hk : k < nL) (h' : lv_has lsM' nL lv')
    (hl : (k, mv P v) :: (ls.zipIdx.filterMap (fun (q : Option AV × Nat) => q.1.map (fun w => (q.2, mv P w)))).filter (fun q => !(q.1 == k) && !(q.1 + 1 == k && q.2.category == 2)) = lv') : LR P lsM' nL (ls.set k (some v)) := by
  obtain ⟨h1, h2, h3, h4⟩ := h
  obtain ⟨g1, g2, g3⟩ := h'
  refine ⟨g1, g2, by rw [List.length_set]; exact h3, fun i w hw => ?_⟩
  subst hl
  by_cases hik : i = k
  · subst hik
    rw [List.getElem?_set_self (by omega)] at hw
    cases hw
    exact g3 (i, mv P v) List.mem_cons_self
  · rw [List.getElem?_set_ne (fun e => hik e.symm)] at hw
    refine g3 (i, mv P w) (List.mem_cons_of_mem _ (List.mem_filter.mpr ⟨List.mem_filterMap.mpr ⟨(some w, i), ?_, rfl⟩, ?_⟩))
    · exact List.mem_iff_getElem?.mpr ⟨i, by rw [List.getElem?_zipIdx, hw]; simp⟩
    · have hc : (mv P w).category = 1 := by
        cases w with
        | inl x => rfl
        | inr r => cases r <;> rfl
      simp [hik, hc]
def lvO (P : PP) (ls : Ls) : List (Nat × Value) := ls.zipIdx.filterMap (fun (q : Option AV × Nat) => q.1.map (fun w => (q.2, mv P w)))
theorem LR_has {P : PP} {lsM : Array Slot} {nL : Nat} {ls : Ls} (h : LR P lsM nL ls) : lv_has lsM nL (lvO P ls) := by
  obtain ⟨h1, h2, h3, h4⟩ := h
  refine ⟨h1, h2, fun q hq => ?_⟩
  obtain ⟨⟨o, i⟩, hz, hm⟩ := List.mem_filterMap.mp hq
  obtain ⟨j, hj⟩ := List.mem_iff_getElem?.mp hz
  rw [List.getElem?_zipIdx] at hj
  simp only [Nat.zero_add, Option.map_eq_some_iff, Prod.mk.injEq] at hj
  obtain ⟨o', ho, rfl, rfl⟩ := hj
  cases o' with
  | none => simp at hm
  | some w =>
    simp only [Option.map_some, Option.some.injEq] at hm
    subst hm
    exact h4 _ w ho
theorem okLs_set {ls : Ls} {k : Nat} {v : AV} (h : okLs ls) (hv : okV v) : okLs (ls.set k (some v)) := by
  intro i w hw
  rw [List.getElem?_set] at hw
  by_cases hki : k = i
  · rw [if_pos hki] at hw
    by_cases hl : k < ls.length
    · rw [if_pos hl] at hw
      cases hw
      exact hv
    · rw [if_neg hl] at hw
      cases hw
  · rw [if_neg hki] at hw
    exact h i w hw
theorem okH_sI {h : HP} {a : Nat} {k v : Int} (hh : okH h) (hv : inR v) : okH (sI h a k v) := by
  intro b j
  show inR (if b = a ∧ j = k then v else hI h b j)
  by_cases hc : b = a ∧ j = k
  · rw [if_pos hc]; exact hv
  · rw [if_neg hc]; exact hh b j
theorem okH_sCp {h : HP} {a b : Nat} {sp dp n : Int} (hh : okH h) : okH (sCp h a sp b dp n) := by
  intro c j
  show inR (if c = b ∧ dp ≤ j ∧ j < dp + n then hI h a (sp + (j - dp)) else hI h c j)
  by_cases hc : c = b ∧ dp ≤ j ∧ j < dp + n
  · rw [if_pos hc]; exact hh _ _
  · rw [if_neg hc]; exact hh _ _
theorem okH_sNew {h : HP} {t : Nat × Nat} {n : Nat} (hh : okH h) : okH (sNew h t n) := by
  intro b j
  show inR (if b = hZ h then 0 else hI h b j)
  by_cases hc : b = hZ h
  · rw [if_pos hc]; exact inR_0
  · rw [if_neg hc]; exact hh _ _

theorem pc0 : ∀ y, y < 193 → pcO y 0 = 0 := by decide +kernel
theorem hCi_ok : ∀ y, y < 193 → hCi y < 8 → fldC (hCi y) = (hNm y).cls := by decide +kernel
theorem e_ok {c1 : Cf} {h : HP} (e : c1.2.2.2 = h) : hZ h ≤ hZ c1.2.2.2 ∧ hU h ≤ hU c1.2.2.2 := by rw [e]; exact ⟨Nat.le_refl _, Nat.le_refl _⟩
set_option maxHeartbeats 4000000 in
theorem ex1_mono {d pos : Nat} {i : Ins} {ls : Ls} {st : List AV} {h : HP} {c1 : Cf} (hex : ex1 d i pos ls st h = some c1) : hZ h ≤ hZ c1.2.2.2 ∧ hU h ≤ hU c1.2.2.2 := by
  have nw : ∀ (t : Nat × Nat) (n : Nat), hZ h ≤ hZ (sNew h t n) ∧ hU h ≤ hU (sNew h t n) := fun t n => ⟨Nat.le_add_right _ _, Nat.le_add_right _ _⟩
  have mx : ∀ f, e_mx f d pos ls st h = some c1 → hZ h ≤ hZ c1.2.2.2 ∧ hU h ≤ hU c1.2.2.2 := by
    intro f he
    unfold e_mx at he
    split at he
    · obtain ⟨x, z, r, rfl, rfl⟩ := e_bin_some he; exact e_ok rfl
    · cases he
  obtain ⟨raw, v, a, b, w, sw⟩ := i
  cases raw
  case iconst n => obtain ⟨hc, rfl⟩ := e_psh_some hex; exact e_ok rfl
  case bipush n => obtain ⟨hc, rfl⟩ := e_psh_some hex; exact e_ok rfl
  case sipush n => obtain ⟨hc, rfl⟩ := e_psh_some hex; exact e_ok rfl
  case ldc n => obtain ⟨hc, rfl⟩ := e_psh_some hex; exact e_ok rfl
  case ldc_w n => obtain ⟨hc, rfl⟩ := e_psh_some hex; exact e_ok rfl
  case aconst_null => cases hex; exact e_ok rfl
  case iload k => obtain ⟨x, hk, rfl⟩ := e_load_i hex; exact e_ok rfl
  case iload_n k => obtain ⟨x, hk, rfl⟩ := e_load_i hex; exact e_ok rfl
  case aload k => obtain ⟨x, hk, rfl⟩ := e_load_a hex; exact e_ok rfl
  case aload_n k => obtain ⟨x, hk, rfl⟩ := e_load_a hex; exact e_ok rfl
  case istore k => obtain ⟨x, r, rfl, hk, rfl⟩ := e_store_i hex; exact e_ok rfl
  case istore_n k => obtain ⟨x, r, rfl, hk, rfl⟩ := e_store_i hex; exact e_ok rfl
  case astore k => obtain ⟨x, r, rfl, hk, rfl⟩ := e_store_a hex; exact e_ok rfl
  case astore_n k => obtain ⟨x, r, rfl, hk, rfl⟩ := e_store_a hex; exact e_ok rfl
  case iinc k n => obtain ⟨x, hk, hk2, rfl⟩ := e_iinc_some hex; exact e_ok rfl
  case dup => obtain ⟨x, r, rfl, rfl⟩ := e_dup_some hex; exact e_ok rfl
  case dup2 => obtain ⟨x, z, r, rfl, rfl⟩ := e_dup2_some hex; exact e_ok rfl
  case dup_x1 => obtain ⟨x, z, r, rfl, rfl⟩ := e_dupx1_some hex; exact e_ok rfl
  case iadd => obtain ⟨x, z, r, rfl, rfl⟩ := e_bin_some hex; exact e_ok rfl
  case isub => obtain ⟨x, z, r, rfl, rfl⟩ := e_bin_some hex; exact e_ok rfl
  case imul => obtain ⟨x, z, r, rfl, rfl⟩ := e_bin_some hex; exact e_ok rfl
  case idiv => obtain ⟨x, z, r, rfl, h0, rfl⟩ := e_div_some hex; exact e_ok rfl
  case irem => obtain ⟨x, z, r, rfl, h0, rfl⟩ := e_div_some hex; exact e_ok rfl
  case ineg => obtain ⟨x, r, rfl, rfl⟩ := e_un_some hex; exact e_ok rfl
  case ishl => obtain ⟨x, z, r, rfl, rfl⟩ := e_bin_some hex; exact e_ok rfl
  case ishr => obtain ⟨x, z, r, rfl, rfl⟩ := e_bin_some hex; exact e_ok rfl
  case iushr => obtain ⟨x, z, r, rfl, rfl⟩ := e_bin_some hex; exact e_ok rfl
  case iand => obtain ⟨x, z, r, rfl, rfl⟩ := e_bin_some hex; exact e_ok rfl
  case ior => obtain ⟨x, z, r, rfl, rfl⟩ := e_bin_some hex; exact e_ok rfl
  case i2c => obtain ⟨x, r, rfl, rfl⟩ := e_un_some hex; exact e_ok rfl
  case ifCond cd off => obtain ⟨x, r, rfl, rfl⟩ := e_if_some hex; exact e_ok rfl
  case if_icmp cd off => obtain ⟨x, z, r, rfl, rfl⟩ := e_icmp_some hex; exact e_ok rfl
  case goto off => cases hex; exact e_ok rfl
  case ifnonnull off => obtain ⟨o, r, rfl, rfl⟩ := e_nn_some hex; exact e_ok rfl
  case tableswitch df lo hi offs => obtain ⟨x, r, t, rfl, ht, rfl⟩ := e_tsw_some hex; exact e_ok rfl
  case lookupswitch df ps => obtain ⟨x, r, t, rfl, ht, rfl⟩ := e_lsw_some hex; exact e_ok rfl
  case getfield idx => obtain ⟨x, r, rfl, ht, rfl⟩ := e_get_some hex; exact e_ok rfl
  case putfield idx =>
    obtain ⟨v', x, r, rfl, ht, hk, hx3, hcase⟩ := e_put_some hex
    rcases hcase with ⟨z, rfl, h1, h2, h3, rfl⟩ | ⟨z, rfl, h1, rfl⟩
    · exact ⟨Nat.le_refl _, Nat.le_refl _⟩
    · exact ⟨Nat.le_refl _, Nat.le_refl _⟩
  case getstatic idx =>
    simp only [ex1] at hex
    split at hex
    · cases hex; exact e_ok rfl
    · cases hex
  case iaload => obtain ⟨j, x, r, rfl, ht, rfl⟩ := e_ald_some hex; exact e_ok rfl
  case caload => obtain ⟨j, x, r, rfl, ht, rfl⟩ := e_ald_some hex; exact e_ok rfl
  case aaload => obtain ⟨j, x, r, rfl, ht, rfl⟩ := e_aldq_some hex; exact e_ok rfl
  case iastore => obtain ⟨z, j, x, r, rfl, ht, rfl⟩ := e_ast_some hex; exact ⟨Nat.le_refl _, Nat.le_refl _⟩
  case castore => obtain ⟨z, j, x, r, rfl, ht, rfl⟩ := e_ast_some hex; exact ⟨Nat.le_refl _, Nat.le_refl _⟩
  case aastore => obtain ⟨z, j, x, r, rfl, ht, rfl⟩ := e_astq_some hex; exact ⟨Nat.le_refl _, Nat.le_refl _⟩
  case arraylength => obtain ⟨x, r, rfl, ht, rfl⟩ := e_len_some hex; exact e_ok rfl
  case newarray ty =>
    cases ty
    case int => obtain ⟨n, r, rfl, ht, rfl⟩ := e_newa_some (t := 100) hex; exact nw _ _
    case char => obtain ⟨n, r, rfl, ht, rfl⟩ := e_newa_some (t := 101) hex; exact nw _ _
    all_goals exact absurd (show (none : Option Cf) = some c1 from hex) (by simp)
  case anewarray idx =>
    simp only [ex1] at hex
    split at hex
    · obtain ⟨n, r, rfl, ht, rfl⟩ := e_newa_some hex; exact nw _ _
    · cases hex
  case new idx =>
    simp only [ex1] at hex
    split at hex
    · cases hex; exact nw _ _
    · cases hex
  case invokespecial idx =>
    simp only [ex1] at hex
    split at hex
    · obtain ⟨x, r, rfl, ht, rfl⟩ := e_obj_some hex; exact e_ok rfl
    · cases hex
  case invokestatic idx =>
    simp only [ex1] at hex
    split at hex
    · obtain ⟨n, dp, x, sp, x0, r, rfl, ht, rfl⟩ := e_cpy_some hex; exact ⟨Nat.le_refl _, Nat.le_refl _⟩
    · split at hex
      · exact mx _ hex
      · split at hex
        · exact mx _ hex
        · cases hex
  all_goals exact absurd (show (none : Option Cf) = some c1 from hex) (by simp)
theorem e_ret_some {y : Nat} {i : Ins} {st : List AV} {h h' : HP} {v : Option AV} (e : e_ret y i st h = some (v, h')) : h' = h ∧ st = v.toList ∧
    ((v = none ∧ i.1 = .return_ ∧ hRk y = 0) ∨ (∃ x, v = some (.inl x) ∧ i.1 = .ireturn ∧ (hRk y = 1 ∨ hRk y = 2 ∧ 0 ≤ x ∧ x ≤ 1)) ∨ ∃ r, v = some (.inr r) ∧ i.1 = .areturn ∧ hRk y = 3) := by
  unfold e_ret at e
  split at e
  · rename_i hr
    split at e
    · split at e
      · rename_i hk; cases e; exact ⟨rfl, rfl, Or.inl ⟨rfl, hr, hk⟩⟩
      · cases e
    · cases e
  · rename_i hr
    split at e
    · split at e
      · rename_i hk; cases e; exact ⟨rfl, rfl, Or.inr (Or.inl ⟨_, rfl, hr, hk⟩)⟩
      · cases e
    · cases e
  · rename_i hr
    split at e
    · split at e
      · rename_i hk; cases e; exact ⟨rfl, rfl, Or.inr (Or.inr ⟨_, rfl, hr, hk⟩)⟩
      · cases e
    · cases e
  · cases e
theorem run_mono : ∀ (n d y pos : Nat) (ls : Ls) (st : List AV) (h : HP) (v : Option AV) (h' : HP), run n d y pos ls st h = some (v, h') → hZ h ≤ hZ h' ∧ hU h ≤ hU h'
  | 0, d, y, pos, ls, st, h, v, h', e => by simp [run] at e
  | n + 1, d, y, pos, ls, st, h, v, h', e => by
    unfold run at e
    split at e
    · cases e
    · rename_i i hi
      split at e
      · obtain ⟨rfl, -⟩ := e_ret_some e
        exact ⟨Nat.le_refl _, Nat.le_refl _⟩
      · split at e
        · split at e
          · cases e
          · split at e
            · split at e
              · cases e
              · rename_i r hr
                have h1 := run_mono n _ _ _ _ _ _ r.1 r.2 hr
                have h2 := run_mono n _ _ _ _ _ _ _ _ e
                exact ⟨Nat.le_trans h1.1 h2.1, Nat.le_trans h1.2 h2.2⟩
            · cases e
        · split at e
          · cases e
          · rename_i c1 hc
            have h1 := ex1_mono hc
            have h2 := run_mono n _ _ _ _ _ _ _ _ e
            exact ⟨Nat.le_trans h1.1 h2.1, Nat.le_trans h1.2 h2.2⟩
theorem WK_moved {G : GG} {U V : State} (hvm : U.vm.Alike V.vm) (hh : ∀ q : Nat, q < U.heap.size → ¬ frA G.2.2 q → V.heap[q]? = U.heap[q]?) (h : WK G U) : WK G V :=
  ⟨va_K.moved hvm h.1, fun k hk => ⟨arrOfT_moved hvm (h.2.1 k hk).1, (h.2.1 k hk).2.moved hvm⟩, (h.2.2.1.kept hh).moved hvm, (h.2.2.2.1.kept hh).moved hvm, fun a ha => ((h.2.2.2.2 a ha).kept hh).moved hvm⟩
theorem warm_all {args : Array Value} {s : State} (hts : ∀ w ∈ evT, w.before args s = true) : ∀ w ∈ evT, ∀ (a' : Array Value) (U : State), s.WarmedH U.vm → w.before a' U = true := by
  intro w hw a' U hW
  have hb := hts w hw
  have hg := (List.mem_filter.mp hw).2
  unfold evG at hg
  split at hg
  · exact va_AO.use (va_AO.moved hW.alike (va_AO.of hb))
  · exact va_Nw.use rfl (va_Nw.warmF hW (va_Nw.of rfl hb))
  · exact va_Nw.use rfl (va_Nw.warmM hW (va_Nw.of rfl hb))
  · exact word_at hW (good_of_word hg) hb
def wsY (y : Nat) : List Jvm.Cond := Jvm.Cond.code (hNm y) (hBy y) (hMx y) (hRt y) :: evT
theorem okHd_spec {y : Nat} (h : okHd y = true) : Jvm.Cond.code (hNm y) (hBy y) (hMx y) (hRt y) ∈ evT ∧ Jvm.Cond.initialized (hNm y).cls ∈ evT ∧ rkO (hRk y) (hRt y) = true ∧ hAr y ≤ hMx y ∧ hMx y ≤ 20 ∧ Jvm.plainName (hNm y).cls = true ∧ ((hNm y).cls ≠ "java/lang/invoke/MethodHandle" ∧ (hNm y).cls ≠ "java/lang/invoke/VarHandle") := by
  unfold okHd at h
  simp only [Bool.and_eq_true, decide_eq_true_eq] at h
  obtain ⟨⟨⟨⟨⟨⟨⟨h1, h2⟩, h3⟩, h4⟩, h5⟩, h6⟩, h7⟩, -⟩ := h
  exact ⟨wd_in h1, wd_in h2, h3, h4, h5, h6, h7⟩
theorem lv_args_at {P : PP} : ∀ (as : List AV) (n i : Nat) (v : AV), as[i]? = some v → (n + i, mv P v) ∈ lv_args n (as.map (mv P))
  | [], n, i, v, h => by simp at h
  | a :: as, n, i, v, h => by
    simp only [List.map_cons, lv_args, mv_cat]
    match i, h with
    | 0, h =>
      simp only [List.getElem?_cons_zero, Option.some.injEq] at h
      subst h
      exact List.mem_cons_self
    | i + 1, h =>
      rw [List.getElem?_cons_succ] at h
      have := lv_args_at (P := P) as (n + 1) i v h
      rw [show n + (i + 1) = n + 1 + i by omega]
      exact List.mem_cons_of_mem _ this
theorem lg_sl_len {P : PP} : ∀ (as : List AV), (lg_sl (as.map (mv P))).length = as.length
  | [] => rfl
  | a :: as => by
    have := lg_sl_len (P := P) as
    unfold lg_sl at this ⊢
    simp only [List.map_cons, List.flatMap_cons, mv_cat, List.length_append, this]
    simp; omega
theorem ini_at {y : Nat} {as : List AV} {i : Nat} {v : AV} (h : (ini y as)[i]? = some (some v)) : as[i]? = some v := by
  unfold ini at h
  by_cases hi : i < as.length
  · rw [List.getElem?_append_left (by simpa using hi), List.getElem?_map] at h
    obtain ⟨w, hw, he⟩ := Option.map_eq_some_iff.mp h
    cases he
    exact hw
  · rw [List.getElem?_append_right (by simpa using hi), List.getElem?_replicate] at h
    split at h <;> simp at h
def RetO (y : Nat) (v : Option AV) (raw : Instr) : Prop := (v = none ∧ raw = .return_ ∧ hRk y = 0) ∨ (∃ x, v = some (.inl x) ∧ raw = .ireturn ∧ (hRk y = 1 ∨ hRk y = 2 ∧ 0 ≤ x ∧ x ≤ 1)) ∨ ∃ r, v = some (.inr r) ∧ raw = .areturn ∧ hRk y = 3
def AdN (l : Launch) (n : Nat) : Prop := ∀ (G : GG) (d y pos : Nat) (ls : Ls) (st : List AV) (h : HP) (v : Option AV) (h' : HP), y < 193 → run n d y pos ls st h = some (v, h') →
  ∀ (p : Program) (e : Env) (R : Room) (s : State) (m : MethodId) (args : Array Value) (below : List Frame) (meth : Method) (c : Code) (H : Heap) (locs : List Loc) (cells slots : Nat) (Q : State → Prop) (lsM : Array Slot),
    Fx G p s m args meth c y → Cg G s y H locs lsM ls st h → d ≤ R.frames ∧ 40 * d ≤ R.locals → cells + (hZ h' - hZ h) ≤ R.cells ∧ slots + (hU h' - hU h) ≤ R.slots →
    (∀ (pcR : Nat) (raw : Instr) (lsR : Array Slot) (H' : Heap) (locs' : List Loc), decode (hBy y) pcR = .ok (raw, 1) → RetO y v raw → (∀ a, v = some a → okV a) → okH h' → Rep G h' H' → va_S (frA G.2.2) s.heap H' locs' →
      W p l e R s m args below meth c H' locs' (cells + (hZ h' - hZ h)) (slots + (hU h' - hU h)) Q (F0 m pcR lsR (v.toList.map (mv G.2.2)))) →
    W p l e R s m args below meth c H locs cells slots Q (F0 m (pcO y pos) lsM (st.map (mv G.2.2)))
/-- the contract of a method at one heap, by what the evaluator answers there -/
def Cnt (l : Launch) (G : GG) (y d : Nat) (as : List AV) (h : HP) (v : Option AV) (h' : HP) : Prop :=
  Met l (hNm y) (wsY y) ({ frames := d, cells := hZ h' - hZ h, slots := hU h' - hU h, locals := 40 * d } : Room) (va_Pc (as.map (mv G.2.2)) (fun U => Rep G h U.heap ∧ WK G U))
    (fun _ st oc t => (oc = .returned (v.map (mv G.2.2)) ∧ Rep G h' t.heap) ∧ va_F (frA G.2.2) st t) (hZ h' - hZ h) (hU h' - hU h) (frA G.2.2)
theorem entry_LR {P : PP} {y : Nat} {as : List AV} {lsM : Array Slot} (hle : as.length ≤ hMx y) (hl : lv_has lsM (hMx y) (lv_args 0 (as.map (mv P)))) : LR P lsM (hMx y) (ini y as) := by
  obtain ⟨h1, h2, h3⟩ := hl
  refine ⟨h1, h2, by simp [ini]; omega, fun i v hv => ?_⟩
  have := lv_args_at (P := P) as 0 i v (ini_at hv)
  rw [Nat.zero_add] at this
  exact h3 _ this
theorem cnt_of {l : Launch} {n : Nat} (hn : AdN l n) {G : GG} {y d : Nat} {as : List AV} {h h' : HP} {v : Option AV} (hy : y < 193) (hy0 : y ≠ 0) (hrun : run n d y 0 (ini y as) [] h = some (v, h')) (hkh : okH h) (has : okSt as) (hlen : as.length ≤ hMx y) : Cnt l G y d as h v h' := by
  obtain ⟨k1, k2, k3, k4, k5, k6, k7⟩ := okHd_spec (ev_hd y hy0 hy)
  refine Met.ofW (cc := hBy y) (maxL := hMx y) (ret := hRt y) k6 rfl ?_
  intro p e s m args below meth c s₁ B hml hv
  obtain ⟨rfl, hRep, hWK⟩ := hv
  have hts := atoms_spec (ws := wsY y) B.pre
  have hS : va_S (frA G.2.2) s.heap s.heap [] := va_S.rf
  have hl := lv_entry (as.map (mv G.2.2)) (n := hMx y) (by rw [lg_sl_len]; exact hlen)
  rw [lg_entry_eq]
  generalize (lg_sl (as.map (mv G.2.2)) ++ List.replicate (hMx y - (lg_sl (as.map (mv G.2.2))).length) Slot.unset).toArray = lsM at hl ⊢
  have hrn := run_mono _ _ _ _ _ _ _ _ _ hrun
  have key := hn G d y 0 (ini y as) [] h v h' hy hrun p e (headSpec (wsY y) { frames := d, cells := hZ h' - hZ h, slots := hU h' - hU h, locals := 40 * d }).room s m ((as.map (mv G.2.2)).toArray) below meth c s.heap [] 0 0
    (MQ below (fun _ st oc t => (oc = .returned (v.map (mv G.2.2)) ∧ Rep G h' t.heap) ∧ va_F (frA G.2.2) st t) ((as.map (mv G.2.2)).toArray) s (hZ h' - hZ h) (hU h' - hU h) (frA G.2.2)) lsM
    ⟨B.exec, B.bytes, hml, findClass_of_methodNamed B.named, fun w hw => hts w (List.mem_cons_of_mem _ hw), hWK, fun hi => by rw [(name_of_methodNamed B.named B.method).1]; exact hi⟩
    ⟨entry_LR hlen hl, fun i v hv => has v (List.mem_of_getElem? (ini_at hv)), fun v hv => absurd hv List.not_mem_nil, hkh, hRep, hS⟩
    ⟨Nat.le_refl _, Nat.le_refl _⟩ ⟨by simp [headSpec], by simp [headSpec]⟩ ?_
  · rw [pc0 y hy] at key
    exact key
  · intro pcR raw lsR H' locs' hdg hret hok hkh' hRep' hS'
    rw [Nat.zero_add, Nat.zero_add]
    have hlk := B.notSynchronized
    have hq : ∀ t : State, t.heap = H' → s.WarmedH t.vm → ((Outcome.returned (v.map (mv G.2.2)) = .returned (v.map (mv G.2.2)) ∧ Rep G h' t.heap) ∧ va_F (frA G.2.2) s t) := fun t ht hW => ⟨⟨rfl, by rw [ht]; exact hRep'⟩, by rw [ht]; exact hS'.1, fun q h1 h2 => by rw [ht]; exact hS'.2.1 q h1 h2⟩
    have hr := B.returns
    rcases hret with ⟨rfl, rfl, hk⟩ | ⟨x, rfl, rfl, hk⟩ | ⟨r, rfl, rfl, hk⟩
    · rw [hk] at k3
      have hr0 : hRt y = none := by cases hq' : hRt y <;> rw [hq'] at k3 <;> first | rfl | simp [rkO] at k3
      exact W.vret B.exec B.bytes (by rw [hr, hr0]) hq hS'.2.2 hdg
    · rcases hk with hk | ⟨hk, hx0, hx1⟩
      · rw [hk] at k3
        have hr0 : hRt y = some .int := by
          unfold rkO at k3
          split at k3 <;> simp_all
        exact W.iret B.exec B.bytes (by rw [hr, hr0]) hq hS'.2.2 hdg
      · rw [hk] at k3
        have hr0 : hRt y = some .boolean := by
          unfold rkO at k3
          split at k3 <;> simp_all
        exact W.zret (ty := .boolean) B.exec B.bytes (by rw [hr, hr0]) (iS_bool hx0 hx1).1 hq hS'.2.2 hdg
    · rw [hk] at k3
      have hr0 : ∃ C, hRt y = some (.object C) := by
        unfold rkO at k3
        split at k3 <;> simp_all
      obtain ⟨C, hC⟩ := hr0
      refine W.aret (rt := .object C) B.exec B.bytes (by rw [hr, hC]) (Or.inl ⟨C, rfl⟩) ?_ hq hS'.2.2 hdg
      cases r with
      | none => exact Or.inl rfl
      | some a => exact Or.inr ⟨_, rfl⟩

/-! THE CLAIM OUT OF ONE WALK OF THE LAW'S BODY. Your part is whole_start (and what it stands on); all else here is the same for every law, but numbers. -/
def R_law : String := "PhasorTreeLaw"
def lw_P (b : Addr) (xs : List Int32) (args : Array Value) (s : State) : Prop := args = #[.ref b] ∧ s.IntsAt b xs ∧ xs.length ≤ 260 ∧ (Jvm.Cond.and given_1 narrow_1).before args s = true
def lw_Q (_ : Array Value) (s : State) (o : Outcome) (t : State) : Prop := o = .returned (some (.int 1)) ∧ Framed s o t [] 600000 7302250
def lw_Z (below : List Frame) (a : Array Value) (s : State) : State → Prop := fun t => ∃ o, t.status = .running ∧ Ended t below o ∧ lw_Q a s o t
/-- the law's own end, with 1 on the stack, nothing written that was there before, its room as the claim has it -/
theorem lw_ret {p : Program} {l : Launch} {e : Env} {s : State} {m : MethodId} {below : List Frame} {meth : Method} {c : Code} {b : Nat} (hx : p.tables.exec = Jvm.exec) (hb : c.code = code) (hr : meth.sig.returnType = ret) (hlocks : meth.locks = false) {pc : Nat} {H : Heap} {ls : Array Slot} (hdg : decode code pc = .ok (.ireturn, 1)) : W p l e room_1 s m #[Value.ref b] below meth c H [] 600000 7302250 (lw_Z below #[Value.ref b] s) (F0 m pc ls [.int 1]) := by
  intro T hT X
  obtain ⟨fs, hret, hrun, hended, hW, hframe⟩ := X.leave (v := some (.int 1)) (hlocks := hlocks) (fun h => by rw [hr] at h; cases h)
  have hmeth' : T.vm.method? m = some meth := X.method'
  refine ⟨T.setFrames fs, ?_, .returned (some (.int 1)), hrun, hended, rfl, ⟨_, rfl⟩, hW, hframe⟩
  jvm_step X.here [X.here.top, hx, hb, hdg, hmeth', hr, ret, narrow_b1]
  (try refine ⟨rfl, ?_⟩); (try refine ⟨rfl, ?_⟩)
  first | (intro acts; rw [hret _ acts rfl rfl rfl]) | rw [hret _ _ rfl rfl rfl]
  exact Steps.refl _
/-- what holds at the law's entry: the machine, the code, the tables' words (any of lw_tbl by 'hts w (by decide +kernel)'), the script of L ints xs at the cell b, what the Statement gives of the start (any of its parts by flat_of_before) -/
def lw_At (p : Program) (s : State) (m : MethodId) (meth : Method) (c : Code) (b L : Nat) (xs : Nat → Int32) : Prop :=
  p.tables.exec = Jvm.exec ∧ c.code = code ∧ meth.sig.returnType = ret ∧ c.maxLocals = 9 ∧ s.vm.findClass R_law = some m.cls ∧ (∀ w ∈ lw_tbl, w.before #[Value.ref b] s = true) ∧ va_X b L xs s s.heap ∧ b < s.heap.size ∧ meth.locks = false ∧ (Jvm.Cond.and given_1 narrow_1).before #[Value.ref b] s = true
def pureRo (L : Nat) (xs : Nat → Int32) (a : Nat) : Nat × (Int → Int) :=
  if a = 0 then (5, fun j => if j = 4 then 1 else 0)
  else if a = 1 then (5, fun j => if j = 0 then 40 else if j = 1 then 1 else if j = 2 then 2 else 20)
  else (L, fun j => (xs j.toNat).toInt)
/-- the heap that the law begins with: the two tables of the class, the script -/
def hp0 (L : Nat) (xs : Nat → Int32) : HP := (fun a => if a < 3 then (100, (pureRo L xs a).1) else (0, 0), fun a j => if a < 3 then (pureRo L xs a).2 j else 0, fun _ _ => none, 3, 0)
/-- the claim, of the evaluator alone -/
def PureClaim : Prop := ∀ (L : Nat) (xs : Nat → Int32), L ≤ 260 → At 10 0 0 (ini 0 [.inr (some 2)]) [] (hp0 L xs) (fun v h' => v = some (.inl 1) ∧ hZ h' ≤ 600003 ∧ hU h' ≤ 7302250)
theorem hp0_ok (L : Nat) (xs : Nat → Int32) : okH (hp0 L xs) := by
  intro a k
  show inR (if a < 3 then (pureRo L xs a).2 k else 0)
  split
  · unfold pureRo
    split
    · dsimp only; split <;> exact ⟨by omega, by omega⟩
    · split
      · dsimp only; split
        · exact ⟨by omega, by omega⟩
        · split
          · exact ⟨by omega, by omega⟩
          · split <;> exact ⟨by omega, by omega⟩
      · exact inR_toInt _
  · exact inR_0
set_option maxHeartbeats 4000000 in
theorem whole_start_of (hpure : PureClaim) {p : Program} {e : Env} {s : State} {m : MethodId} {below : List Frame} {meth : Method} {c : Code} (l : Launch) (hflags : l.flags = flags0) {b L : Nat} {xs : Nat → Int32} (hL : L ≤ 260) (C0 : lw_At p s m meth c b L xs) : W p l e room_1 s m #[Value.ref b] below meth c s.heap [] 0 0 (lw_Z below #[Value.ref b] s) (entryFrame m ([Value.ref b] : List Value).toArray 9) := by
  obtain ⟨hx, hb, hr, hml, hown, hts, hX, hbl, hlocks, hgv⟩ := id C0
  have htE : ∀ w ∈ evT, w.before #[Value.ref b] s = true := fun w hw => hts w (List.mem_filter.mp hw).1
  have hs := flat_of_before _ hgv
  have hk : ∀ k : Nat, ∃ q : ClassId × (Nat → Nat), k < 8 → u_Kn s (fldC k) (fldT k) (fcn k) q.1 q.2 := by
    intro k
    by_cases h8 : k < 8
    · obtain ⟨c1, i1, h1⟩ := u_known (C := fldC k) (T := fldT k) (N := fcn k) (n := fcn k) htE (clF k h8).2.1 (htE _ (clI k h8).1)
      exact ⟨(c1, i1), fun _ => h1⟩
    · exact ⟨(0, fun _ => 0), fun h => absurd h h8⟩
  obtain ⟨f, hf⟩ := Classical.axiomOfChoice hk
  have ha : ∀ k : Nat, ∃ cA : ClassId, okK k = true → ArrOfT s cA (arT k) ∧ va_RA s cA (arT k) := by
    intro k
    by_cases hok : okK k = true
    · match k, hok with
      | 0, _ =>
        obtain ⟨c1, k1, comp, h1, h2, h3⟩ := Cond.arrayClass_spec (hts _ clP0.1)
        exact ⟨c1, fun _ => ⟨fun n z => ⟨fun k h => (by cases h), k1, h2, comp, h3⟩, h1⟩⟩
      | 1, _ =>
        obtain ⟨c1, k1, comp, h1, h2, h3⟩ := Cond.arrayClass_spec (hts _ clP0.2.1)
        exact ⟨c1, fun _ => ⟨fun n z => ⟨fun k h => (by cases h), k1, h2, comp, h3⟩, h1⟩⟩
      | n + 2, hok =>
        have hn : n = 0 ∨ n = 1 ∨ n = 4 ∨ n = 5 := by
          simp only [okK, Bool.or_eq_true, beq_iff_eq] at hok
          omega
        obtain ⟨comp, c1, k1, h1, h2, h3, h4, h5⟩ := Cond.arrayOver_spec (htE _ (clA n hn (by omega)))
        exact ⟨c1, fun _ => ⟨fun n z => ⟨fun k h => (by cases h), k1, h3, comp, h4⟩, k1, comp, h3, h4, h1, h5⟩⟩
    · exact ⟨0, fun h => absurd h hok⟩
  obtain ⟨fa, hfa⟩ := Classical.axiomOfChoice ha
  have hAq : ∀ a : Nat, a < s.heap.size → ¬ (fun q : Nat => s.heap.size ≤ q) a := fun a h1 h2 => absurd h1 (Nat.not_lt.mpr h2)
  have hinit : (Jvm.Cond.initialized "PhasorTree").before #[Value.ref b] s = true := hts _ (by decide +kernel)
  obtain ⟨t1, ht1, hT1⟩ := va_Tof (tm := .static "PhasorTree" "LEAST_SETTING" "[I") (ty := .int) (N := 5) (f := fun j => .int (iS ((pureRo L xs 0).2 (j : Int)))) (A := fun q : Nat => s.heap.size ≤ q) (by decide) (hs _ (by decide +kernel)) (va_eqt (hs _ (by decide +kernel))) (fun j hj => by
    match j, hj with
    | 0, _ =>
      show _ = some (Value.int 0)
      exact va_eqt (hs _ (by decide +kernel))
    | 1, _ =>
      show _ = some (Value.int 0)
      exact va_eqt (hs _ (by decide +kernel))
    | 2, _ =>
      show _ = some (Value.int 0)
      exact va_eqt (hs _ (by decide +kernel))
    | 3, _ =>
      show _ = some (Value.int 0)
      exact va_eqt (hs _ (by decide +kernel))
    | 4, _ =>
      show _ = some (Value.int 1)
      exact va_eqt (hs _ (by decide +kernel))
    | n + 5, h => exact absurd h (by omega)) hAq
  obtain ⟨t2, ht2, hT2⟩ := va_Tof (tm := .static "PhasorTree" "MOST_SETTING" "[I") (ty := .int) (N := 5) (f := fun j => .int (iS ((pureRo L xs 1).2 (j : Int)))) (A := fun q : Nat => s.heap.size ≤ q) (by decide) (hs _ (by decide +kernel)) (va_eqt (hs _ (by decide +kernel))) (fun j hj => by
    match j, hj with
    | 0, _ =>
      show _ = some (Value.int 40)
      exact va_eqt (hs _ (by decide +kernel))
    | 1, _ =>
      show _ = some (Value.int 1)
      exact va_eqt (hs _ (by decide +kernel))
    | 2, _ =>
      show _ = some (Value.int 2)
      exact va_eqt (hs _ (by decide +kernel))
    | 3, _ =>
      show _ = some (Value.int 20)
      exact va_eqt (hs _ (by decide +kernel))
    | 4, _ =>
      show _ = some (Value.int 20)
      exact va_eqt (hs _ (by decide +kernel))
    | n + 5, h => exact absurd h (by omega)) hAq
  have hZ1 := va_Zof (hts (.laysStatic "PhasorTree" "LEAST_SETTING" "[I") (by decide +kernel)) hinit ht1 hAq
  have hZ2 := va_Zof (hts (.laysStatic "PhasorTree" "MOST_SETTING" "[I") (by decide +kernel)) hinit ht2 hAq
  have lt1 : t1 < s.heap.size := by obtain ⟨cell, g1, -⟩ := hT1; exact (Array.getElem?_eq_some_iff.mp g1).1
  have lt2 : t2 < s.heap.size := by obtain ⟨cell, g1, -⟩ := hT2; exact (Array.getElem?_eq_some_iff.mp g1).1
  have hT3 : va_T .int b L (fun j => .int (iS ((pureRo L xs 2).2 (j : Int)))) (fun q : Nat => s.heap.size ≤ q) s s.heap := by
    obtain ⟨scr, g1, g2, g3, g4, g5⟩ := hX
    refine ⟨scr, g1, g2, g3, by omega, by rw [g4], fun j hj => ?_, hAq b hbl⟩
    rw [g5 j hj]
    have : (pureRo L xs 2).2 (j : Int) = (xs j).toInt := by simp [pureRo]
    dsimp only
    rw [this, iS_of]
  generalize hG : ((fun k => (f k).1, fun k => (f k).2), fa, t1, t2, b, s.heap.size, pureRo L xs) = G
  have hWK : WK G s := by
    subst hG
    refine ⟨⟨fun c1 q hq => ?_, fun k q hq => by simp at hq⟩, hfa, hZ1, hZ2, fun a ha => ?_⟩
    · have h8 : c1 < 8 := (List.getElem?_eq_some_iff.mp hq).1
      have := (clF c1 h8).1.symm.trans hq
      cases this
      exact hf c1 h8
    · match a, ha with
      | 0, _ => exact hT1
      | 1, _ => exact hT2
      | 2, _ => exact hT3
      | n + 3, h => exact absurd h (by omega)
  have hRp : Rep G (hp0 L xs) s.heap := by
    subst hG
    refine ⟨Nat.le_refl _, rfl, ⟨lt1, lt2, hbl⟩, fun a e1 h3 he => ?_, fun a h3 => ⟨?_, fun j => ?_⟩⟩
    · exfalso
      unfold entO at he
      have : (hTy (hp0 L xs) a).1 = 0 := by
        show (if a < 3 then (100, (pureRo L xs a).1) else (0, 0)).1 = 0
        rw [if_neg (by omega)]
      rw [if_pos this] at he
      cases he
    · show (if a < 3 then (100, (pureRo L xs a).1) else (0, 0)) = _
      rw [if_pos h3]; rfl
    · show (if a < 3 then (pureRo L xs a).2 j else 0) = _
      rw [if_pos h3]; rfl
  obtain ⟨n, v, h', hrun, hv, hz, hu⟩ := hpure L xs hL
  subst hv
  have hmono := run_mono _ _ _ _ _ _ _ _ _ hrun
  have hl := lv_entry ([.ref b]) (n := 9) (Nat.le_of_ble_eq_true rfl)
  rw [lg_entry_eq]
  generalize (lg_sl ([.ref b]) ++ List.replicate (9 - (lg_sl ([.ref b])).length) Slot.unset).toArray = lsM at hl ⊢
  have hl : lv_has lsM (hMx 0) (lv_args 0 ((([.inr (some 2)] : List AV)).map (mv G.2.2))) := by
    subst hG
    exact hl
  have key := adN l n G 10 0 0 (ini 0 [.inr (some 2)]) [] (hp0 L xs) (some (.inl 1)) h' (by omega) hrun p e room_1 s m #[Value.ref b] below meth c s.heap [] 0 0 (lw_Z below #[Value.ref b] s) lsM
    ⟨hx, hb, hml, hown, htE, hWK, fun hi => absurd hi (by decide +kernel)⟩
    ⟨entry_LR (by decide +kernel) hl, okLs_ini (okSt_cons.mpr ⟨trivial, fun v hv => absurd hv List.not_mem_nil⟩), fun v hv => absurd hv List.not_mem_nil, hp0_ok L xs, hRp, va_S.rf⟩
    ⟨Nat.le_of_ble_eq_true rfl, Nat.le_of_ble_eq_true rfl⟩ ⟨by
      show 0 + (hZ h' - 3) ≤ 600000
      omega, by
      show 0 + (hU h' - 0) ≤ 7302250
      omega⟩ ?_
  · exact key
  · intro pcR raw lsR H' locs' hdg hret hok hkh' hRep' hS'
    rcases hret with ⟨e1, -, -⟩ | ⟨x, e1, rfl, -⟩ | ⟨r, e1, -, -⟩
    · cases e1
    · refine va_forget (fun q hq => by have := hS'.2.2 q hq; subst hG; exact this) ?_
      refine W.widen (k := 600000) (n := 7302250) (by
        show 0 + (hZ h' - 3) ≤ 600000
        omega) (by
        show 0 + (hU h' - 0) ≤ 7302250
        omega) ?_
      exact lw_ret hx hb hr hlocks hdg
    · cases e1

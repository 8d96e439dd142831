def Fx (G : GG) (p : Program) (s : State) (m : MethodId) (args : Array Value) (meth : Method) (c : Code) (y : Nat) : Prop :=
  p.tables.exec = Jvm.exec ∧ c.code = hBy y ∧ c.maxLocals = hMx y ∧ s.vm.findClass (hNm y).cls = some m.cls ∧ (∀ w ∈ evT, w.before args s = true) ∧ WK G s ∧ ((hNm y).name = "<init>" → meth.name = "<init>")
def Cg (G : GG) (s : State) (y : Nat) (H : Heap) (locs : List Loc) (lsM : Array Slot) (ls : Ls) (st : List AV) (h : HP) : Prop :=
  LR G.2.2 lsM (hMx y) ls ∧ okLs ls ∧ okSt st ∧ okH h ∧ Rep G h H ∧ va_S (frA G.2.2) s.heap H locs
theorem okSt_cons {v : AV} {r : List AV} : okSt (v :: r) ↔ okV v ∧ okSt r := List.forall_mem_cons
theorem Cg_st {G : GG} {s : State} {y : Nat} {H : Heap} {locs : List Loc} {lsM : Array Slot} {ls : Ls} {st st' : List AV} {h : HP} (hC : Cg G s y H locs lsM ls st h) (h' : okSt st') : Cg G s y H locs lsM ls st' h := ⟨hC.1, hC.2.1, h', hC.2.2.2⟩
theorem okI_spec {y pos : Nat} {i : Ins} (h : okI y pos i = true) : decode (hBy y) (pcO y pos) = .ok (i.1, iLen i) ∧ (flows i = true → pcO y (pos + 1) = pcO y pos + iLen i) ∧ lnkO y pos i = true := by
  unfold okI at h
  simp only [Bool.and_eq_true, decide_eq_true_eq] at h
  refine ⟨h.1.1, fun hf => ?_, h.2⟩
  have := h.1.2
  rw [if_pos hf] at this
  exact of_decide_eq_true this
theorem e_psh_some {lo hi n : Int} {pos : Nat} {ls : Ls} {st : List AV} {h : HP} {c1 : Cf} (e : e_psh lo hi n pos ls st h = some c1) : (lo ≤ n ∧ n ≤ hi) ∧ c1 = (pos + 1, ls, .inl n :: st, h) := by
  unfold e_psh at e
  split at e
  · rename_i hc; cases e; exact ⟨hc, rfl⟩
  · cases e
theorem e_bin_some {f : Int → Int → Int} {pos : Nat} {ls : Ls} {st : List AV} {h : HP} {c1 : Cf} (e : e_bin f pos ls st h = some c1) : ∃ x y r, st = .inl y :: .inl x :: r ∧ c1 = (pos + 1, ls, .inl (f x y) :: r, h) := by
  unfold e_bin at e
  split at e
  · cases e; exact ⟨_, _, _, rfl, rfl⟩
  · cases e
theorem e_div_some {f : Int → Int → Int} {pos : Nat} {ls : Ls} {st : List AV} {h : HP} {c1 : Cf} (e : e_div f pos ls st h = some c1) : ∃ x y r, st = .inl y :: .inl x :: r ∧ ¬ y = 0 ∧ c1 = (pos + 1, ls, .inl (f x y) :: r, h) := by
  unfold e_div at e
  split at e
  · split at e
    · cases e
    · rename_i h0; cases e; exact ⟨_, _, _, rfl, h0, rfl⟩
  · cases e
theorem e_un_some {f : Int → Int} {pos : Nat} {ls : Ls} {st : List AV} {h : HP} {c1 : Cf} (e : e_un f pos ls st h = some c1) : ∃ x r, st = .inl x :: r ∧ c1 = (pos + 1, ls, .inl (f x) :: r, h) := by
  unfold e_un at e
  split at e
  · cases e; exact ⟨_, _, rfl, rfl⟩
  · cases e
theorem e_if_some {cd : ClassFile.Cond} {t pos : Nat} {ls : Ls} {st : List AV} {h : HP} {c1 : Cf} (e : e_if cd t pos ls st h = some c1) : ∃ x r, st = .inl x :: r ∧ c1 = (if cndZ cd x 0 = true then t else pos + 1, ls, r, h) := by
  unfold e_if at e
  split at e
  · cases e; exact ⟨_, _, rfl, rfl⟩
  · cases e
theorem e_icmp_some {cd : ClassFile.Cond} {t pos : Nat} {ls : Ls} {st : List AV} {h : HP} {c1 : Cf} (e : e_icmp cd t pos ls st h = some c1) : ∃ x y r, st = .inl y :: .inl x :: r ∧ c1 = (if cndZ cd x y = true then t else pos + 1, ls, r, h) := by
  unfold e_icmp at e
  split at e
  · cases e; exact ⟨_, _, _, rfl, rfl⟩
  · cases e
theorem e_nn_some {t pos : Nat} {ls : Ls} {st : List AV} {h : HP} {c1 : Cf} (e : e_nn t pos ls st h = some c1) : ∃ o r, st = .inr o :: r ∧ c1 = (if o = none then pos + 1 else t, ls, r, h) := by
  unfold e_nn at e
  split at e
  · cases e; exact ⟨_, _, rfl, rfl⟩
  · cases e
theorem e_tsw_some {lo hi : Int} {sw : List Nat} {ls : Ls} {st : List AV} {h : HP} {c1 : Cf} (e : e_tsw lo hi sw ls st h = some c1) : ∃ x r t, st = .inl x :: r ∧ sw[if x < lo ∨ hi < x then 0 else (x - lo).toNat + 1]? = some t ∧ c1 = (t, ls, r, h) := by
  unfold e_tsw at e
  split at e
  · split at e
    · rename_i ht; cases e; exact ⟨_, _, _, rfl, ht, rfl⟩
    · cases e
  · cases e
theorem e_lsw_some {ps : List (Int × Int)} {sw : List Nat} {ls : Ls} {st : List AV} {h : HP} {c1 : Cf} (e : e_lsw ps sw ls st h = some c1) : ∃ x r t, st = .inl x :: r ∧ sw[e_key x ps 1]? = some t ∧ c1 = (t, ls, r, h) := by
  unfold e_lsw at e
  split at e
  · split at e
    · rename_i ht; cases e; exact ⟨_, _, _, rfl, ht, rfl⟩
    · cases e
  · cases e
theorem e_load_i {k pos : Nat} {ls : Ls} {st : List AV} {h : HP} {c1 : Cf} (e : e_load k pos ls st h true = some c1) : ∃ x, ls[k]? = some (some (.inl x)) ∧ c1 = (pos + 1, ls, .inl x :: st, h) := by
  unfold e_load at e
  split at e
  · rename_i ht; simp only [if_true] at e; cases e; exact ⟨_, ht, rfl⟩
  · simp at e
  · cases e
theorem e_load_a {k pos : Nat} {ls : Ls} {st : List AV} {h : HP} {c1 : Cf} (e : e_load k pos ls st h false = some c1) : ∃ x, ls[k]? = some (some (.inr x)) ∧ c1 = (pos + 1, ls, .inr x :: st, h) := by
  unfold e_load at e
  split at e
  · simp at e
  · rename_i ht; simp at e; cases e; exact ⟨_, ht, rfl⟩
  · cases e
theorem e_store_i {k pos : Nat} {ls : Ls} {st : List AV} {h : HP} {c1 : Cf} (e : e_store k pos ls st h true = some c1) : ∃ x r, st = .inl x :: r ∧ k < ls.length ∧ c1 = (pos + 1, ls.set k (some (.inl x)), r, h) := by
  unfold e_store at e
  split at e
  · split at e
    · rename_i ht; cases e; exact ⟨_, _, rfl, ht.2, rfl⟩
    · cases e
  · simp at e
  · cases e
theorem e_store_a {k pos : Nat} {ls : Ls} {st : List AV} {h : HP} {c1 : Cf} (e : e_store k pos ls st h false = some c1) : ∃ x r, st = .inr x :: r ∧ k < ls.length ∧ c1 = (pos + 1, ls.set k (some (.inr x)), r, h) := by
  unfold e_store at e
  split at e
  · simp at e
  · split at e
    · rename_i ht; cases e; exact ⟨_, _, rfl, ht.2, rfl⟩
    · cases e
  · cases e
theorem e_iinc_some {k : Nat} {n : Int} {pos : Nat} {ls : Ls} {st : List AV} {h : HP} {c1 : Cf} (e : e_iinc k n pos ls st h = some c1) : ∃ x, ls[k]? = some (some (.inl x)) ∧ k < ls.length ∧ c1 = (pos + 1, ls.set k (some (.inl (wr (x + n)))), st, h) := by
  unfold e_iinc at e
  split at e
  · rename_i ht
    split at e
    · rename_i hl; cases e; exact ⟨_, ht, hl, rfl⟩
    · cases e
  · cases e
theorem e_get_some {ci k pos : Nat} {ls : Ls} {st : List AV} {h : HP} {c1 : Cf} (e : e_get ci k pos ls st h = some c1) : ∃ a r, st = .inr (some a) :: r ∧ ((hTy h a).1 = ci + 1 ∧ k < fcn ci) ∧ c1 = (pos + 1, ls, (if fkd ci k = 1 then .inr (hR h a k) else .inl (hI h a k)) :: r, h) := by
  unfold e_get at e
  split at e
  · split at e
    · rename_i ht; cases e; exact ⟨_, _, rfl, ht, rfl⟩
    · cases e
  · cases e
theorem e_put_some {ci k pos : Nat} {ls : Ls} {st : List AV} {h : HP} {c1 : Cf} (e : e_put ci k pos ls st h = some c1) : ∃ v a r, st = v :: .inr (some a) :: r ∧ (hTy h a).1 = ci + 1 ∧ k < fcn ci ∧ 3 ≤ a ∧
    ((∃ x, v = .inl x ∧ fkd ci k ≠ 1 ∧ (fkd ci k = 2 → 0 ≤ x ∧ x ≤ 65535) ∧ (fkd ci k = 3 → 0 ≤ x ∧ x ≤ 1) ∧ c1 = (pos + 1, ls, r, sI h a k x)) ∨ ∃ x, v = .inr x ∧ fkd ci k = 1 ∧ c1 = (pos + 1, ls, r, sR h a k x)) := by
  unfold e_put at e
  split at e
  · split at e
    · rename_i ht; cases e; exact ⟨_, _, _, rfl, ht.1, ht.2.1, ht.2.2.1, Or.inl ⟨_, rfl, ht.2.2.2.1, ht.2.2.2.2.1, ht.2.2.2.2.2, rfl⟩⟩
    · cases e
  · split at e
    · rename_i ht; cases e; exact ⟨_, _, _, rfl, ht.1, ht.2.1, ht.2.2.1, Or.inr ⟨_, rfl, ht.2.2.2, rfl⟩⟩
    · cases e
  · cases e
theorem e_ald_some {t pos : Nat} {ls : Ls} {st : List AV} {h : HP} {c1 : Cf} (e : e_ald t pos ls st h = some c1) : ∃ j a r, st = .inl j :: .inr (some a) :: r ∧ ((hTy h a).1 = t ∧ 0 ≤ j ∧ j < (hTy h a).2) ∧ c1 = (pos + 1, ls, .inl (hI h a j) :: r, h) := by
  unfold e_ald at e
  split at e
  · split at e
    · rename_i ht; cases e; exact ⟨_, _, _, rfl, ht, rfl⟩
    · cases e
  · cases e
theorem e_aldq_some {pos : Nat} {ls : Ls} {st : List AV} {h : HP} {c1 : Cf} (e : e_aldq pos ls st h = some c1) : ∃ j a r, st = .inl j :: .inr (some a) :: r ∧ (rfO (hTy h a).1 = true ∧ 0 ≤ j ∧ j < (hTy h a).2) ∧ c1 = (pos + 1, ls, .inr (hR h a j) :: r, h) := by
  unfold e_aldq at e
  split at e
  · split at e
    · rename_i ht; cases e; exact ⟨_, _, _, rfl, ht, rfl⟩
    · cases e
  · cases e
theorem e_ast_some {t : Nat} {mx : Int} {pos : Nat} {ls : Ls} {st : List AV} {h : HP} {c1 : Cf} (e : e_ast t mx pos ls st h = some c1) : ∃ x j a r, st = .inl x :: .inl j :: .inr (some a) :: r ∧ ((hTy h a).1 = t ∧ 0 ≤ j ∧ j < (hTy h a).2 ∧ 3 ≤ a ∧ (mx = 0 ∨ 0 ≤ x ∧ x ≤ mx)) ∧ c1 = (pos + 1, ls, r, sI h a j x) := by
  unfold e_ast at e
  split at e
  · split at e
    · rename_i ht; cases e; exact ⟨_, _, _, _, rfl, ht, rfl⟩
    · cases e
  · cases e
theorem e_astq_some {pos : Nat} {ls : Ls} {st : List AV} {h : HP} {c1 : Cf} (e : e_astq pos ls st h = some c1) : ∃ v j a r, st = .inr (some v) :: .inl j :: .inr (some a) :: r ∧ (rfO (hTy h a).1 = true ∧ (hTy h v).1 + 199 = (hTy h a).1 ∧ 0 ≤ j ∧ j < (hTy h a).2 ∧ 3 ≤ a) ∧ c1 = (pos + 1, ls, r, sR h a j (some v)) := by
  unfold e_astq at e
  split at e
  · split at e
    · rename_i ht; cases e; exact ⟨_, _, _, _, rfl, ht, rfl⟩
    · cases e
  · cases e
theorem e_len_some {pos : Nat} {ls : Ls} {st : List AV} {h : HP} {c1 : Cf} (e : e_len pos ls st h = some c1) : ∃ a r, st = .inr (some a) :: r ∧ (((hTy h a).1 = 100 ∨ (hTy h a).1 = 101 ∨ rfO (hTy h a).1 = true) ∧ (hTy h a).2 < 2147483648) ∧ c1 = (pos + 1, ls, .inl ((hTy h a).2 : Int) :: r, h) := by
  unfold e_len at e
  split at e
  · split at e
    · rename_i ht; cases e; exact ⟨_, _, rfl, ht, rfl⟩
    · cases e
  · cases e
theorem e_newa_some {t pos : Nat} {ls : Ls} {st : List AV} {h : HP} {c1 : Cf} (e : e_newa t pos ls st h = some c1) : ∃ n r, st = .inl n :: r ∧ (0 ≤ n ∧ n ≤ 100000) ∧ c1 = (pos + 1, ls, .inr (some (hZ h)) :: r, sNew h (t, n.toNat) n.toNat) := by
  unfold e_newa at e
  split at e
  · split at e
    · rename_i ht; cases e; exact ⟨_, _, rfl, ht, rfl⟩
    · cases e
  · cases e
theorem e_cpy_some {d pos : Nat} {ls : Ls} {st : List AV} {h : HP} {c1 : Cf} (e : e_cpy d pos ls st h = some c1) : ∃ n dp b sp a r, st = .inl n :: .inl dp :: .inr (some b) :: .inl sp :: .inr (some a) :: r ∧
    (1 ≤ d ∧ r.length ≤ 8 ∧ (hTy h a).1 = 100 ∧ (hTy h b).1 = 100 ∧ 3 ≤ b ∧ 3 ≤ a ∧ 0 ≤ sp ∧ 0 ≤ dp ∧ 0 ≤ n ∧ sp + n ≤ (hTy h a).2 ∧ dp + n ≤ (hTy h b).2) ∧ c1 = (pos + 1, ls, r, sCp h a sp b dp n) := by
  unfold e_cpy at e
  split at e
  · split at e
    · rename_i ht; cases e; exact ⟨_, _, _, _, _, _, rfl, ht, rfl⟩
    · cases e
  · cases e
theorem e_obj_some {d pos : Nat} {ls : Ls} {st : List AV} {h : HP} {c1 : Cf} (e : e_obj d pos ls st h = some c1) : ∃ a r, st = .inr (some a) :: r ∧ (1 ≤ d ∧ r.length ≤ 8) ∧ c1 = (pos + 1, ls, r, h) := by
  unfold e_obj at e
  split at e
  · split at e
    · rename_i ht; cases e; exact ⟨_, _, rfl, ht, rfl⟩
    · cases e
  · cases e
theorem e_dup_some {pos : Nat} {ls : Ls} {st : List AV} {h : HP} {c1 : Cf} (e : e_dup pos ls st h = some c1) : ∃ v r, st = v :: r ∧ c1 = (pos + 1, ls, v :: v :: r, h) := by
  unfold e_dup at e
  split at e
  · cases e; exact ⟨_, _, rfl, rfl⟩
  · cases e
theorem e_dup2_some {pos : Nat} {ls : Ls} {st : List AV} {h : HP} {c1 : Cf} (e : e_dup2 pos ls st h = some c1) : ∃ v w r, st = v :: w :: r ∧ c1 = (pos + 1, ls, v :: w :: v :: w :: r, h) := by
  unfold e_dup2 at e
  split at e
  · cases e; exact ⟨_, _, _, rfl, rfl⟩
  · cases e
theorem e_dupx1_some {pos : Nat} {ls : Ls} {st : List AV} {h : HP} {c1 : Cf} (e : e_dupx1 pos ls st h = some c1) : ∃ v w r, st = v :: w :: r ∧ c1 = (pos + 1, ls, v :: w :: v :: r, h) := by
  unfold e_dupx1 at e
  split at e
  · cases e; exact ⟨_, _, _, rfl, rfl⟩
  · cases e
theorem mv_cat {P : PP} (v : AV) : (mv P v).category = 1 := by
  cases v with
  | inl x => rfl
  | inr r => cases r <;> rfl
theorem cat_sum {P : PP} (r : List AV) : ((r.map (mv P)).map fun v => v.category).sum = r.length := by
  induction r with
  | nil => rfl
  | cons a r ih => simp only [List.map_cons, List.sum_cons, List.length_cons, mv_cat, ih]; omega
theorem WK_K {G : GG} {s : State} (h : WK G s) (k : Nat) (hk : okK k = true) : va_K G.1 ev_cl [(G.2.1 k, arT k)] s := by
  refine ⟨h.1.1, fun j q hq => ?_⟩
  have hj : j < 1 := (List.getElem?_eq_some_iff.mp hq).1
  obtain rfl : j = 0 := by omega
  cases hq
  exact h.2.1 k hk

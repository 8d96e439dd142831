def cod (y : Nat) : List Ins := ev_cods.getD y []
def hd (y : Nat) : Hd := ev_hds.getD y (⟨"", "", ""⟩, ⟨#[]⟩, 0, none, 0, 0, 0, 0, 0, 0, 0)
def hNm (y : Nat) : MethodName := (hd y).1
def hBy (y : Nat) : ByteArray := (hd y).2.1
def hMx (y : Nat) : Nat := (hd y).2.2.1
def hRt (y : Nat) : Option FieldType := (hd y).2.2.2.1
def hAr (y : Nat) : Nat := (hd y).2.2.2.2.1
def hRk (y : Nat) : Nat := (hd y).2.2.2.2.2.1
def hCw (y : Nat) : Nat := (hd y).2.2.2.2.2.2.1
def hIw (y : Nat) : Nat := (hd y).2.2.2.2.2.2.2.1
def hSw (y : Nat) : Nat := (hd y).2.2.2.2.2.2.2.2.1
def hNw (y : Nat) : Nat := (hd y).2.2.2.2.2.2.2.2.2.1
def hCi (y : Nat) : Nat := (hd y).2.2.2.2.2.2.2.2.2.2
def pcO (y pos : Nat) : Nat := (ev_pcss.getD y []).getD pos 0
def ini (y : Nat) (as : List AV) : Ls := as.map some ++ List.replicate (hMx y - as.length) none
def isRet (i : Ins) : Bool := match i.1 with
  | .return_ => true
  | .ireturn => true
  | .areturn => true
  | _ => false
def isCall (i : Ins) : Bool := match i.1 with
  | .invokevirtual _ => decide (i.2.2.2.1 ≤ 1)
  | .invokestatic _ => decide (2 ≤ i.2.2.2.1 ∧ i.2.2.2.1 ≤ 3)
  | .invokespecial _ => decide (4 ≤ i.2.2.2.1 ∧ i.2.2.2.1 ≤ 5)
  | _ => false
def e_ret (y : Nat) (i : Ins) (st : List AV) (h : HP) : Option (Option AV × HP) := match i.1 with
  | .return_ => match st with
    | [] => if hRk y = 0 then some (none, h) else none
    | _ => none
  | .ireturn => match st with
    | [.inl x] => if hRk y = 1 ∨ hRk y = 2 ∧ 0 ≤ x ∧ x ≤ 1 then some (some (.inl x), h) else none
    | _ => none
  | .areturn => match st with
    | [.inr r] => if hRk y = 3 then some (some (.inr r), h) else none
    | _ => none
  | _ => none
/-- the receiver is there, and of the method's class -/
def rcv (kind y : Nat) (as : List AV) (h : HP) : Bool := match kind, as with
  | 0, .inr (some a) :: _ => decide ((hTy h a).1 = hCi y + 1)
  | 1, .inr (some a) :: _ => decide ((hTy h a).1 = hCi y + 1)
  | 2, _ => true
  | 3, _ => true
  | 4, .inr (some _) :: _ => true
  | 5, .inr (some _) :: _ => true
  | _, _ => false
/-- fuel, calls that may be opened, method, place, locals, stack, heap -/
def run : Nat → Nat → Nat → Nat → Ls → List AV → HP → Option (Option AV × HP)
  | 0, _, _, _, _, _, _ => none
  | n + 1, d, y, pos, ls, st, h =>
    match (cod y)[pos]? with
    | none => none
    | some i =>
      if isRet i = true then e_ret y i st h
      else if isCall i = true then
        match d with
        | 0 => none
        | d' + 1 =>
          if hAr i.2.2.1 ≤ st.length ∧ (st.drop (hAr i.2.2.1)).length ≤ 8 ∧ rcv i.2.2.2.1 i.2.2.1 (st.take (hAr i.2.2.1)).reverse h = true then
            match run n d' i.2.2.1 0 (ini i.2.2.1 (st.take (hAr i.2.2.1)).reverse) [] h with
            | none => none
            | some r => run n (d' + 1) y (pos + 1) ls (r.1.toList ++ st.drop (hAr i.2.2.1)) r.2
          else none
      else match ex1 d i pos ls st h with
        | none => none
        | some c => run n d y c.1 c.2.1 c.2.2.1 c.2.2.2
/-! what a program checks of the tables -/
def iLen (i : Ins) : Nat := match i.1 with
  | .iload _ => 2
  | .aload _ => 2
  | .istore _ => 2
  | .astore _ => 2
  | .bipush _ => 2
  | .ldc _ => 2
  | .newarray _ => 2
  | .sipush _ => 3
  | .ldc_w _ => 3
  | .iinc _ _ => 3
  | .ifCond _ _ => 3
  | .if_icmp _ _ => 3
  | .goto _ => 3
  | .ifnonnull _ => 3
  | .getfield _ => 3
  | .putfield _ => 3
  | .getstatic _ => 3
  | .invokevirtual _ => 3
  | .invokestatic _ => 3
  | .invokespecial _ => 3
  | .new _ => 3
  | .anewarray _ => 3
  | .tableswitch _ _ _ _ => i.2.2.2.2.1
  | .lookupswitch _ _ => i.2.2.2.2.1
  | _ => 1
def flows (i : Ins) : Bool := match i.1 with
  | .goto _ => false
  | .tableswitch _ _ _ _ => false
  | .lookupswitch _ _ => false
  | .return_ => false
  | .ireturn => false
  | .areturn => false
  | _ => true
def fldC (ci : Nat) : String := ((ev_cl[ci]?).getD ("", TX0, 0)).1
def fldT (ci : Nat) : u_T := ((ev_cl[ci]?).getD ("", TX0, 0)).2.1
def tgtO (y pos : Nat) (off : Int) (t : Nat) : Bool := decide ((pcO y pos : Int) + off = (pcO y t : Int))
def tgtsO (y pos : Nat) : List Int → List Nat → Bool
  | [], [] => true
  | o :: os, t :: ts => tgtO y pos o t && tgtsO y pos os ts
  | _, _ => false
def wd (w : Nat) (c : Jvm.Cond) : Bool := decide (lw_tbl[w]? = some c)
def lnkO (y pos : Nat) (i : Ins) : Bool := match i.1 with
  | .ldc idx => wd i.2.2.2.2.1 (.constant (hNm y).cls idx (Int32.ofInt i.2.1))
  | .ldc_w idx => wd i.2.2.2.2.1 (.constant (hNm y).cls idx (Int32.ofInt i.2.1))
  | .ifCond _ off => tgtO y pos off i.2.2.1
  | .if_icmp _ off => tgtO y pos off i.2.2.1
  | .goto off => tgtO y pos off i.2.2.1
  | .ifnonnull off => tgtO y pos off i.2.2.1
  | .tableswitch d lo hi offs => tgtsO y pos (d :: offs.toList) i.2.2.2.2.2 && decide (hi - lo + 1 = (offs.size : Int))
  | .lookupswitch d ps => tgtsO y pos (d :: ps.toList.map (fun q => q.2)) i.2.2.2.2.2 && (ps.toList.zip (ps.toList.drop 1)).all (fun (a, next) => a.1 < next.1)
  | .getfield idx => decide (i.2.2.1 < 8) && (wd i.2.2.2.2.1 (.fieldLink (hNm y).cls idx (fldC i.2.2.1) (fldT i.2.2.1 i.2.2.2.1).2.1 (fldT i.2.2.1 i.2.2.2.1).2.2.1) || wd i.2.2.2.2.1 (.fieldLinkNest (hNm y).cls idx (fldC i.2.2.1) (fldT i.2.2.1 i.2.2.2.1).2.1 (fldT i.2.2.1 i.2.2.2.1).2.2.1 "PhasorTree"))
  | .putfield idx => decide (i.2.2.1 < 8) && (if (fldT i.2.2.1 i.2.2.2.1).2.2.2 = true then wd i.2.2.2.2.1 (.fieldLink (hNm y).cls idx (fldC i.2.2.1) (fldT i.2.2.1 i.2.2.2.1).2.1 (fldT i.2.2.1 i.2.2.2.1).2.2.1) && decide ((hNm y).name = "<init>") && decide ((hNm y).cls = fldC i.2.2.1)
    else (wd i.2.2.2.2.1 (.fieldLink (hNm y).cls idx (fldC i.2.2.1) (fldT i.2.2.1 i.2.2.2.1).2.1 (fldT i.2.2.1 i.2.2.2.1).2.2.1) || wd i.2.2.2.2.1 (.fieldLinkNest (hNm y).cls idx (fldC i.2.2.1) (fldT i.2.2.1 i.2.2.2.1).2.1 (fldT i.2.2.1 i.2.2.2.1).2.2.1 "PhasorTree")))
  | .getstatic idx => decide (i.2.2.1 < 2) && wd i.2.2.2.2.1 (.fieldLinkNest (hNm y).cls idx "PhasorTree" (if i.2.2.1 = 0 then "LEAST_SETTING" else "MOST_SETTING") "[I" "PhasorTree")
  | .new idx => decide (i.2.2.1 < 8) && wd i.2.2.2.2.1 (.classLink (hNm y).cls idx (fldC i.2.2.1))
  | .anewarray idx => decide (i.2.2.1 < 8) && wd i.2.2.2.2.1 (.classLink (hNm y).cls idx (fldC i.2.2.1)) && decide (i.2.2.1 = 0 ∨ i.2.2.1 = 1 ∨ i.2.2.1 = 4 ∨ i.2.2.1 = 5)
  | .invokevirtual idx => decide (i.2.2.1 < 193) && decide (hCi i.2.2.1 < 8) && decide (0 < hAr i.2.2.1) && (if i.2.2.2.1 = 0 then wd i.2.2.2.2.1 (.methodLink (hNm y).cls idx (hNm i.2.2.1)) else wd i.2.2.2.2.1 (.methodLinkNest (hNm y).cls idx (hNm i.2.2.1) "PhasorTree"))
      && wd (hIw i.2.2.1) (.instanceMethod (hNm i.2.2.1)) && wd (hSw i.2.2.1) (.selects (hNm i.2.2.1).cls (hNm i.2.2.1) (hNm i.2.2.1)) && decide ((parseMethodDescriptor (hNm i.2.2.1).desc).map (fun d => d.parameters.length) = some (hAr i.2.2.1 - 1))
  | .invokestatic idx => if i.2.2.2.1 = 7 then wd i.2.2.2.2.1 (.methodLink (hNm y).cls idx arraycopyName)
      else if i.2.2.2.1 = 8 then wd i.2.2.2.2.1 (.methodLink (hNm y).cls idx Lib.Math.max.name)
      else if i.2.2.2.1 = 9 then wd i.2.2.2.2.1 (.methodLink (hNm y).cls idx Lib.Math.min.name)
      else decide (i.2.2.1 < 193) && (if i.2.2.2.1 = 2 then wd i.2.2.2.2.1 (.methodLink (hNm y).cls idx (hNm i.2.2.1)) else wd i.2.2.2.2.1 (.methodLinkNest (hNm y).cls idx (hNm i.2.2.1) "PhasorTree"))
      && wd (hIw i.2.2.1) (.static (hNm i.2.2.1)) && decide ((parseMethodDescriptor (hNm i.2.2.1).desc).map (fun d => d.parameters.length) = some (hAr i.2.2.1))
  | .invokespecial idx => if i.2.2.2.1 = 6 then wd i.2.2.2.2.1 (.methodLink (hNm y).cls idx objectInit)
      else decide (i.2.2.1 < 193) && decide (0 < hAr i.2.2.1) && (if i.2.2.2.1 = 4 then wd i.2.2.2.2.1 (.methodLink (hNm y).cls idx (hNm i.2.2.1)) else wd i.2.2.2.2.1 (.methodLinkNest (hNm y).cls idx (hNm i.2.2.1) "PhasorTree"))
      && wd (hIw i.2.2.1) (.instanceMethod (hNm i.2.2.1)) && decide ((hNm i.2.2.1).name = "<init>") && decide (hRt i.2.2.1 = none) && decide ((parseMethodDescriptor (hNm i.2.2.1).desc).map (fun d => d.parameters.length) = some (hAr i.2.2.1 - 1))
  | _ => true
def okI (y pos : Nat) (i : Ins) : Bool := decide (decode (hBy y) (pcO y pos) = .ok (i.1, iLen i)) && (if flows i = true then decide (pcO y (pos + 1) = pcO y pos + iLen i) else true) && lnkO y pos i
def rkO (k : Nat) (r : Option FieldType) : Bool := match k, r with
  | 0, none => true
  | 1, some .int => true
  | 2, some .boolean => true
  | 3, some (.object _) => true
  | _, _ => false
def okHd (y : Nat) : Bool := wd (hCw y) (.code (hNm y) (hBy y) (hMx y) (hRt y)) && wd (hNw y) (.initialized (hNm y).cls) && rkO (hRk y) (hRt y) && decide (hAr y ≤ hMx y) && decide (hMx y ≤ 20) && Jvm.plainName (hNm y).cls && decide ((hNm y).cls ≠ "java/lang/invoke/MethodHandle" ∧ (hNm y).cls ≠ "java/lang/invoke/VarHandle") && (decide (hCi y = 99) || decide (fldC (hCi y) = (hNm y).cls))
def okMF : Nat → Nat → List Ins → Bool
  | _, _, [] => true
  | y, pos, i :: r => okI y pos i && okMF y (pos + 1) r
def okM (y : Nat) (c : List Ins) : Bool := okMF y 0 c
def okP (y : Nat) (c : List Ins) : Prop := ∀ (pos : Nat) (i : Ins), c[pos]? = some i → okI y pos i = true
theorem okMF_at : ∀ (c : List Ins) (y s : Nat), okMF y s c = true → ∀ (k : Nat) (i : Ins), c[k]? = some i → okI y (s + k) i = true
  | [], _, _, _, k, i, h => by simp at h
  | a :: r, y, s, h, k, i, hi => by
    simp only [okMF, Bool.and_eq_true] at h
    match k, hi with
    | 0, hi =>
      simp only [List.getElem?_cons_zero, Option.some.injEq] at hi
      rw [← hi]
      exact h.1
    | k + 1, hi =>
      rw [List.getElem?_cons_succ] at hi
      have := okMF_at r y (s + 1) h.2 k i hi
      rwa [show s + (k + 1) = s + 1 + k by omega]
theorem okM_of (ch y : Nat) (c : List Ins) (n : Nat) (hn : c.length ≤ ch * n) (h : ∀ k, k < n → okMF y (ch * k) (List.take ch (List.drop (ch * k) c)) = true) : okP y c := by
  intro pos i hi
  have hl : pos < c.length := (List.getElem?_eq_some_iff.mp hi).1
  have hc : 0 < ch := Nat.pos_of_ne_zero (fun e => by subst e; omega)
  have hk : pos / ch < n := Nat.div_lt_of_lt_mul (by omega)
  have hm : pos % ch < ch := Nat.mod_lt _ hc
  have he : ch * (pos / ch) + pos % ch = pos := Nat.div_add_mod pos ch
  have := okMF_at _ y (ch * (pos / ch)) (h _ hk) (pos % ch) i (by
    rw [List.getElem?_take, if_pos hm, List.getElem?_drop, he]
    exact hi)
  rwa [he] at this

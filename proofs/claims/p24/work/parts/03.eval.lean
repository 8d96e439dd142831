/-! THE EVALUATOR: integers, an abstract heap, tables of instructions -/
abbrev AV : Type := Int ⊕ Option Nat
abbrev HP : Type := (Nat → Nat × Nat) × (Nat → Int → Int) × (Nat → Int → Option Nat) × Nat × Nat
abbrev Ls : Type := List (Option AV)
abbrev Ins : Type := Instr × Int × Nat × Nat × Nat × List Nat
abbrev Hd : Type := MethodName × ByteArray × Nat × Option FieldType × Nat × Nat × Nat × Nat × Nat × Nat × Nat
def hTy (h : HP) : Nat → Nat × Nat := h.1
def hI (h : HP) : Nat → Int → Int := h.2.1
def hR (h : HP) : Nat → Int → Option Nat := h.2.2.1
def hZ (h : HP) : Nat := h.2.2.2.1
def hU (h : HP) : Nat := h.2.2.2.2
def sI (h : HP) (a : Nat) (k : Int) (v : Int) : HP := (hTy h, fun b j => if b = a ∧ j = k then v else hI h b j, hR h, hZ h, hU h)
def sR (h : HP) (a : Nat) (k : Int) (v : Option Nat) : HP := (hTy h, hI h, fun b j => if b = a ∧ j = k then v else hR h b j, hZ h, hU h)
def sCp (h : HP) (src : Nat) (sp : Int) (dst : Nat) (dp n : Int) : HP := (hTy h, fun b j => if b = dst ∧ dp ≤ j ∧ j < dp + n then hI h src (sp + (j - dp)) else hI h b j, hR h, hZ h, hU h)
def sNew (h : HP) (t : Nat × Nat) (n : Nat) : HP := (fun b => if b = hZ h then t else hTy h b, fun b j => if b = hZ h then 0 else hI h b j, fun b j => if b = hZ h then none else hR h b j, hZ h + 1, hU h + n)
def wr (z : Int) : Int := z.bmod 4294967296
def inR (z : Int) : Prop := -2147483648 ≤ z ∧ z ≤ 2147483647
def iS (x : Int) : Int32 := Int32.ofInt x
def oAnd (x y : Int) : Int := (iS x &&& iS y).toInt
def oOr (x y : Int) : Int := (iS x ||| iS y).toInt
def oShl (x y : Int) : Int := (iS x <<< (iS y &&& 31)).toInt
def oShr (x y : Int) : Int := (iS x >>> (iS y &&& 31)).toInt
def oUshr (x y : Int) : Int := ((iS x).toUInt32 >>> ((iS y).toUInt32 &&& Int32.toUInt32 31)).toInt32.toInt
def oI2c (x : Int) : Int := ((iS x).toUInt32 % 65536).toInt32.toInt
/-- the kind of field k of class ci -/
def fkd (ci k : Nat) : Nat := (ev_fk.getD ci []).getD k 0
def fcn (ci : Nat) : Nat := (ev_fk.getD ci []).length
def cndZ (c : ClassFile.Cond) (x y : Int) : Bool := match c with
  | .eq => decide (x = y)
  | .ne => decide (¬ x = y)
  | .lt => decide (x < y)
  | .ge => decide (y ≤ x)
  | .gt => decide (y < x)
  | .le => decide (x ≤ y)
abbrev Cf : Type := Nat × Ls × List AV × HP
def e_load (k pos : Nat) (ls : Ls) (st : List AV) (h : HP) (isI : Bool) : Option Cf := match ls[k]? with
  | some (some (.inl x)) => if isI = true then some (pos + 1, ls, .inl x :: st, h) else none
  | some (some (.inr r)) => if isI = true then none else some (pos + 1, ls, .inr r :: st, h)
  | _ => none
def e_store (k pos : Nat) (ls : Ls) (st : List AV) (h : HP) (isI : Bool) : Option Cf := match st with
  | .inl x :: r => if isI = true ∧ k < ls.length then some (pos + 1, ls.set k (some (.inl x)), r, h) else none
  | .inr x :: r => if isI = false ∧ k < ls.length then some (pos + 1, ls.set k (some (.inr x)), r, h) else none
  | _ => none
def e_psh (lo hi n : Int) (pos : Nat) (ls : Ls) (st : List AV) (h : HP) : Option Cf := if lo ≤ n ∧ n ≤ hi then some (pos + 1, ls, .inl n :: st, h) else none
def e_bin (f : Int → Int → Int) (pos : Nat) (ls : Ls) (st : List AV) (h : HP) : Option Cf := match st with
  | .inl y :: .inl x :: r => some (pos + 1, ls, .inl (f x y) :: r, h)
  | _ => none
def e_div (f : Int → Int → Int) (pos : Nat) (ls : Ls) (st : List AV) (h : HP) : Option Cf := match st with
  | .inl y :: .inl x :: r => if y = 0 then none else some (pos + 1, ls, .inl (f x y) :: r, h)
  | _ => none
def e_un (f : Int → Int) (pos : Nat) (ls : Ls) (st : List AV) (h : HP) : Option Cf := match st with
  | .inl x :: r => some (pos + 1, ls, .inl (f x) :: r, h)
  | _ => none
def e_if (c : ClassFile.Cond) (t pos : Nat) (ls : Ls) (st : List AV) (h : HP) : Option Cf := match st with
  | .inl x :: r => some (if cndZ c x 0 = true then t else pos + 1, ls, r, h)
  | _ => none
def e_icmp (c : ClassFile.Cond) (t pos : Nat) (ls : Ls) (st : List AV) (h : HP) : Option Cf := match st with
  | .inl y :: .inl x :: r => some (if cndZ c x y = true then t else pos + 1, ls, r, h)
  | _ => none
def e_nn (t pos : Nat) (ls : Ls) (st : List AV) (h : HP) : Option Cf := match st with
  | .inr o :: r => some (if o = none then pos + 1 else t, ls, r, h)
  | _ => none
def e_tsw (lo hi : Int) (sw : List Nat) (ls : Ls) (st : List AV) (h : HP) : Option Cf := match st with
  | .inl x :: r => match sw[if x < lo ∨ hi < x then 0 else (x - lo).toNat + 1]? with
    | some t => some (t, ls, r, h)
    | none => none
  | _ => none
/-- the place, from 1, of the key among the pairs; 0: none -/
def e_key (x : Int) : List (Int × Int) → Nat → Nat
  | [], _ => 0
  | p :: ps, n => if x = p.1 then n else e_key x ps (n + 1)
def e_lsw (ps : List (Int × Int)) (sw : List Nat) (ls : Ls) (st : List AV) (h : HP) : Option Cf := match st with
  | .inl x :: r => match sw[e_key x ps 1]? with
    | some t => some (t, ls, r, h)
    | none => none
  | _ => none
def e_get (ci k pos : Nat) (ls : Ls) (st : List AV) (h : HP) : Option Cf := match st with
  | .inr (some a) :: r => if (hTy h a).1 = ci + 1 ∧ k < fcn ci then some (pos + 1, ls, (if fkd ci k = 1 then .inr (hR h a k) else .inl (hI h a k)) :: r, h) else none
  | _ => none
def e_put (ci k pos : Nat) (ls : Ls) (st : List AV) (h : HP) : Option Cf := match st with
  | .inl v :: .inr (some a) :: r => if (hTy h a).1 = ci + 1 ∧ k < fcn ci ∧ 3 ≤ a ∧ fkd ci k ≠ 1 ∧ (fkd ci k = 2 → 0 ≤ v ∧ v ≤ 65535) ∧ (fkd ci k = 3 → 0 ≤ v ∧ v ≤ 1) then some (pos + 1, ls, r, sI h a k v) else none
  | .inr v :: .inr (some a) :: r => if (hTy h a).1 = ci + 1 ∧ k < fcn ci ∧ 3 ≤ a ∧ fkd ci k = 1 then some (pos + 1, ls, r, sR h a k v) else none
  | _ => none
def e_ald (t pos : Nat) (ls : Ls) (st : List AV) (h : HP) : Option Cf := match st with
  | .inl j :: .inr (some a) :: r => if (hTy h a).1 = t ∧ 0 ≤ j ∧ j < (hTy h a).2 then some (pos + 1, ls, .inl (hI h a j) :: r, h) else none
  | _ => none
/-- kinds of the arrays of references that the classes make -/
def rfO (t : Nat) : Bool := t == 200 || t == 201 || t == 204 || t == 205
def e_aldq (pos : Nat) (ls : Ls) (st : List AV) (h : HP) : Option Cf := match st with
  | .inl j :: .inr (some a) :: r => if rfO (hTy h a).1 = true ∧ 0 ≤ j ∧ j < (hTy h a).2 then some (pos + 1, ls, .inr (hR h a j) :: r, h) else none
  | _ => none
def e_ast (t : Nat) (m : Int) (pos : Nat) (ls : Ls) (st : List AV) (h : HP) : Option Cf := match st with
  | .inl x :: .inl j :: .inr (some a) :: r => if (hTy h a).1 = t ∧ 0 ≤ j ∧ j < (hTy h a).2 ∧ 3 ≤ a ∧ (m = 0 ∨ 0 ≤ x ∧ x ≤ m) then some (pos + 1, ls, r, sI h a j x) else none
  | _ => none
def e_astq (pos : Nat) (ls : Ls) (st : List AV) (h : HP) : Option Cf := match st with
  | .inr (some v) :: .inl j :: .inr (some a) :: r => if rfO (hTy h a).1 = true ∧ (hTy h v).1 + 199 = (hTy h a).1 ∧ 0 ≤ j ∧ j < (hTy h a).2 ∧ 3 ≤ a then some (pos + 1, ls, r, sR h a j (some v)) else none
  | _ => none
def e_len (pos : Nat) (ls : Ls) (st : List AV) (h : HP) : Option Cf := match st with
  | .inr (some a) :: r => if ((hTy h a).1 = 100 ∨ (hTy h a).1 = 101 ∨ rfO (hTy h a).1 = true) ∧ (hTy h a).2 < 2147483648 then some (pos + 1, ls, .inl ((hTy h a).2 : Int) :: r, h) else none
  | _ => none
def e_newa (t pos : Nat) (ls : Ls) (st : List AV) (h : HP) : Option Cf := match st with
  | .inl n :: r => if 0 ≤ n ∧ n ≤ 100000 then some (pos + 1, ls, .inr (some (hZ h)) :: r, sNew h (t, n.toNat) n.toNat) else none
  | _ => none
def e_cpy (d pos : Nat) (ls : Ls) (st : List AV) (h : HP) : Option Cf := match st with
  | .inl n :: .inl dp :: .inr (some b) :: .inl sp :: .inr (some a) :: r => if 1 ≤ d ∧ r.length ≤ 8 ∧ (hTy h a).1 = 100 ∧ (hTy h b).1 = 100 ∧ 3 ≤ b ∧ 3 ≤ a ∧ 0 ≤ sp ∧ 0 ≤ dp ∧ 0 ≤ n ∧ sp + n ≤ (hTy h a).2 ∧ dp + n ≤ (hTy h b).2 then some (pos + 1, ls, r, sCp h a sp b dp n) else none
  | _ => none
def e_mx (f : Int → Int → Int) (d pos : Nat) (ls : Ls) (st : List AV) (h : HP) : Option Cf := if 1 ≤ d ∧ st.length ≤ 8 then e_bin f pos ls st h else none
def e_obj (d pos : Nat) (ls : Ls) (st : List AV) (h : HP) : Option Cf := match st with
  | .inr (some a) :: r => if 1 ≤ d ∧ r.length ≤ 8 then some (pos + 1, ls, r, h) else none
  | _ => none
def e_dup (pos : Nat) (ls : Ls) (st : List AV) (h : HP) : Option Cf := match st with
  | v :: r => some (pos + 1, ls, v :: v :: r, h)
  | _ => none
def e_dup2 (pos : Nat) (ls : Ls) (st : List AV) (h : HP) : Option Cf := match st with
  | v :: w :: r => some (pos + 1, ls, v :: w :: v :: w :: r, h)
  | _ => none
def e_dupx1 (pos : Nat) (ls : Ls) (st : List AV) (h : HP) : Option Cf := match st with
  | v :: w :: r => some (pos + 1, ls, v :: w :: v :: r, h)
  | _ => none
def e_iinc (k : Nat) (c : Int) (pos : Nat) (ls : Ls) (st : List AV) (h : HP) : Option Cf := match ls[k]? with
  | some (some (.inl x)) => if k < ls.length then some (pos + 1, ls.set k (some (.inl (wr (x + c)))), st, h) else none
  | _ => none
def e_mxF (x y : Int) : Int := if y ≤ x then x else y
def e_mnF (x y : Int) : Int := if x ≤ y then x else y
/-- one instruction that is no call of a method with code and no return -/
def ex1 (d : Nat) (i : Ins) (pos : Nat) (ls : Ls) (st : List AV) (h : HP) : Option Cf := match i.1 with
  | .iconst n => e_psh (-1) 5 n pos ls st h
  | .bipush n => e_psh (-128) 127 n pos ls st h
  | .sipush n => e_psh (-32768) 32767 n pos ls st h
  | .ldc _ => e_psh (-2147483648) 2147483647 i.2.1 pos ls st h
  | .ldc_w _ => e_psh (-2147483648) 2147483647 i.2.1 pos ls st h
  | .aconst_null => some (pos + 1, ls, .inr none :: st, h)
  | .iload k => e_load k pos ls st h true
  | .iload_n k => e_load k pos ls st h true
  | .aload k => e_load k pos ls st h false
  | .aload_n k => e_load k pos ls st h false
  | .istore k => e_store k pos ls st h true
  | .istore_n k => e_store k pos ls st h true
  | .astore k => e_store k pos ls st h false
  | .astore_n k => e_store k pos ls st h false
  | .iinc k c => e_iinc k c pos ls st h
  | .dup => e_dup pos ls st h
  | .dup2 => e_dup2 pos ls st h
  | .dup_x1 => e_dupx1 pos ls st h
  | .iadd => e_bin (fun x y => wr (x + y)) pos ls st h
  | .isub => e_bin (fun x y => wr (x - y)) pos ls st h
  | .imul => e_bin (fun x y => wr (x * y)) pos ls st h
  | .idiv => e_div (fun x y => wr (x.tdiv y)) pos ls st h
  | .irem => e_div (fun x y => wr (x.tmod y)) pos ls st h
  | .ineg => e_un (fun x => wr (-x)) pos ls st h
  | .ishl => e_bin oShl pos ls st h
  | .ishr => e_bin oShr pos ls st h
  | .iushr => e_bin oUshr pos ls st h
  | .iand => e_bin oAnd pos ls st h
  | .ior => e_bin oOr pos ls st h
  | .i2c => e_un oI2c pos ls st h
  | .ifCond c _ => e_if c i.2.2.1 pos ls st h
  | .if_icmp c _ => e_icmp c i.2.2.1 pos ls st h
  | .goto _ => some (i.2.2.1, ls, st, h)
  | .ifnonnull _ => e_nn i.2.2.1 pos ls st h
  | .tableswitch _ lo hi _ => e_tsw lo hi i.2.2.2.2.2 ls st h
  | .lookupswitch _ ps => e_lsw ps.toList i.2.2.2.2.2 ls st h
  | .getfield _ => e_get i.2.2.1 i.2.2.2.1 pos ls st h
  | .putfield _ => e_put i.2.2.1 i.2.2.2.1 pos ls st h
  | .getstatic _ => if i.2.2.1 < 2 then some (pos + 1, ls, .inr (some i.2.2.1) :: st, h) else none
  | .iaload => e_ald 100 pos ls st h
  | .caload => e_ald 101 pos ls st h
  | .aaload => e_aldq pos ls st h
  | .iastore => e_ast 100 0 pos ls st h
  | .castore => e_ast 101 65535 pos ls st h
  | .aastore => e_astq pos ls st h
  | .arraylength => e_len pos ls st h
  | .newarray t => match t with
    | .int => e_newa 100 pos ls st h
    | .char => e_newa 101 pos ls st h
    | _ => none
  | .anewarray _ => if rfO (200 + i.2.2.1) = true then e_newa (200 + i.2.2.1) pos ls st h else none
  | .new _ => if i.2.2.1 < 8 then some (pos + 1, ls, .inr (some (hZ h)) :: st, sNew h (i.2.2.1 + 1, 0) (fcn i.2.2.1)) else none
  | .invokespecial _ => if i.2.2.2.1 = 6 then e_obj d pos ls st h else none
  | .invokestatic _ => if i.2.2.2.1 = 7 then e_cpy d pos ls st h else if i.2.2.2.1 = 8 then e_mx e_mxF d pos ls st h else if i.2.2.2.1 = 9 then e_mx e_mnF d pos ls st h else none
  | _ => none

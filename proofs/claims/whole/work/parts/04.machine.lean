/-! THE SMALL MACHINE: the program's own methods run over a heap of cells numbered from 0 on, with plain functions. What it answers the real machine answers (part 05 on). -/
def e_fd (own i : Nat) : Option (Nat × Nat) := e_FL.lookup (own, i)
def e_rs (own i : Nat) : Option (Nat × Nat) := e_RL.lookup (own, i)
def e_kd (own i : Nat) : Option Value := e_LL.lookup (own, i)
def e_nw (own i : Nat) : Option Nat := e_WL.lookup (own, i)
def e_sd (own i : Nat) : Option Nat := e_SL.lookup (own, i)
def e_dm : e_C := .inr (999, [])
def e_c0 (c : ClassFile.Cond) (x : Int32) : Bool := match c with
  | .eq => decide (x = 0)
  | .ne => decide (¬ x = 0)
  | .lt => decide (x < 0)
  | .ge => decide (0 ≤ x)
  | .gt => decide (0 < x)
  | .le => decide (x ≤ 0)
def e_c2 (c : ClassFile.Cond) (x y : Int32) : Bool := match c with
  | .eq => decide (x = y)
  | .ne => decide (¬ x = y)
  | .lt => decide (x < y)
  | .ge => decide (y ≤ x)
  | .gt => decide (y < x)
  | .le => decide (x ≤ y)
def e_in (i : Int32) (n : Nat) : Bool := decide (¬ (i < 0 ∨ n ≤ i.toNatClampNeg))
def e_pok : FieldType → Value → Bool
  | .int, .int _ => true
  | .boolean, .int x => decide (x = 0 ∨ x = 1)
  | .object _, .ref _ => true
  | .array _, .ref _ => true
  | _, _ => false
def e_okT : FieldType → Bool
  | .int => true
  | .byte => true
  | .boolean => true
  | .long => true
  | .object C => decide (C = "LeanStair$Scene" ∨ C = "LeanStair$Tray")
  | _ => false
def e_jmp (pc : Nat) (off : Int) : Option Nat := if 0 ≤ (pc : Int) + off then some ((pc : Int) + off).toNat else none
def e_cat (st : List Value) : Nat := (st.map fun v => v.category).sum
def e_sto (lv : List Value) (i : Nat) (v : Value) : Option (List Value) := if i < lv.length then some (lv.set i v) else none
def e_stl (lv : List Value) (i : Nat) (x : Int64) : Option (List Value) := if i + 1 < lv.length then some ((lv.set i (.long x)).set (i + 1) (.double 0)) else none
def e_isS (x : Nat) : Bool := decide (x < 4 ∨ (10 ≤ x ∧ x < 14) ∨ x = 20)
abbrev e_O : Type := Option (Nat × List Value × List Value × e_H)
def e_lda (pc : Nat) (lv st : List Value) (h : e_H) (i : Nat) : e_O := match lv[i]? with
  | some (.ref x) => some (pc, lv, .ref x :: st, h)
  | some (.retAddr x) => if e_isS x = true then some (pc, lv, .retAddr x :: st, h) else none
  | _ => none
def e_ldi (pc : Nat) (lv st : List Value) (h : e_H) (i : Nat) : e_O := match lv[i]? with
  | some (.int x) => some (pc, lv, .int x :: st, h)
  | _ => none
def e_ldl (pc : Nat) (lv st : List Value) (h : e_H) (i : Nat) : e_O := match lv[i]?, lv[i + 1]? with
  | some (.long x), some (.double _) => some (pc, lv, .long x :: st, h)
  | _, _ => none
def e_sti (pc : Nat) (lv st : List Value) (h : e_H) (i : Nat) : e_O := match st with
  | .int x :: r => (e_sto lv i (.int x)).map fun lv' => (pc, lv', r, h)
  | _ => none
def e_sta (pc : Nat) (lv st : List Value) (h : e_H) (i : Nat) : e_O := match st with
  | .ref x :: r => (e_sto lv i (.ref x)).map fun lv' => (pc, lv', r, h)
  | _ => none
def e_stll (pc : Nat) (lv st : List Value) (h : e_H) (i : Nat) : e_O := match st with
  | .long x :: r => (e_stl lv i x).map fun lv' => (pc, lv', r, h)
  | _ => none
def e_ii (pc : Nat) (lv st : List Value) (h : e_H) (f : Int32 → Int32 → Int32) : e_O := match st with
  | .int y :: .int x :: r => some (pc, lv, .int (f x y) :: r, h)
  | _ => none
def e_iz (pc : Nat) (lv st : List Value) (h : e_H) (f : Int32 → Int32 → Int32) : e_O := match st with
  | .int y :: .int x :: r => if y = 0 then none else some (pc, lv, .int (f x y) :: r, h)
  | _ => none
def e_i1 (pc : Nat) (lv st : List Value) (h : e_H) (f : Int32 → Value) : e_O := match st with
  | .int x :: r => some (pc, lv, f x :: r, h)
  | _ => none
def e_ll (pc : Nat) (lv st : List Value) (h : e_H) (f : Int64 → Int64 → Value) : e_O := match st with
  | .long y :: .long x :: r => some (pc, lv, f x y :: r, h)
  | _ => none
def e_lz (pc : Nat) (lv st : List Value) (h : e_H) (f : Int64 → Int64 → Int64) : e_O := match st with
  | .long y :: .long x :: r => if y = 0 then none else some (pc, lv, .long (f x y) :: r, h)
  | _ => none
def e_ls (pc : Nat) (lv st : List Value) (h : e_H) (f : Int64 → Int32 → Int64) : e_O := match st with
  | .int y :: .long x :: r => some (pc, lv, .long (f x y) :: r, h)
  | _ => none
/-- a field of an object -/
def e_gf (own pc : Nat) (lv st : List Value) (h : e_H) (idx : Nat) : e_O := match st with
  | .ref k :: r => match e_fd own idx with
    | some (ci, j) => match h.1 k with
      | .inr (c2, fs) => if c2 = ci then (fs[j]?).map fun v => (pc, lv, v :: r, h) else none
      | _ => none
    | none => none
  | .retAddr q :: r => if own = 16 ∧ q < 4 then (if idx = 15 then some (pc, lv, .int 0 :: r, h) else if idx = 9 then some (pc, lv, .retAddr (10 + q) :: r, h) else none) else none
  | _ => none
def e_pf (own : Nat) (ini : Bool) (pc : Nat) (lv st : List Value) (h : e_H) (idx : Nat) : e_O := match st with
  | v :: .ref k :: r => match e_fd own idx with
    | some (ci, j) => match h.1 k, e_K[ci]? with
      | .inr (c2, fs), some q => if c2 = ci ∧ j < fs.length ∧ e_pok (q.2.1 j) v = true ∧ ((q.1.2.1 j).2.2.2 = false ∨ (ini = true ∧ own = ci)) then some (pc, lv, r, (va_up h.1 k (.inr (ci, fs.set j v)), h.2)) else none
      | _, _ => none
    | none => none
  | _ => none
def e_iald (X : Nat × (Nat → Int32)) (pc : Nat) (lv st : List Value) (h : e_H) : e_O := match st with
  | .int i :: .ref a :: r => match h.1 a with
    | .inl (.int, n, .inl f) => if e_in i n then some (pc, lv, .int (f i.toNatClampNeg) :: r, h) else none
    | _ => none
  | .int i :: .retAddr 20 :: r => if e_in i X.1 then some (pc, lv, .int (X.2 i.toNatClampNeg) :: r, h) else none
  | _ => none
def e_bald (pc : Nat) (lv st : List Value) (h : e_H) : e_O := match st with
  | .int i :: .ref a :: r => match h.1 a with
    | .inl (.byte, n, .inl f) => if e_in i n then some (pc, lv, .int (f i.toNatClampNeg) :: r, h) else none
    | .inl (.boolean, n, .inl f) => if e_in i n then some (pc, lv, .int (f i.toNatClampNeg) :: r, h) else none
    | _ => none
  | .int i :: .retAddr q :: r => if 10 ≤ q ∧ q < 14 ∧ e_in i (e_by.getD (q - 10) []).length then some (pc, lv, .int ((e_by.getD (q - 10) []).getD i.toNatClampNeg 0) :: r, h) else none
  | _ => none
def e_lald (pc : Nat) (lv st : List Value) (h : e_H) : e_O := match st with
  | .int i :: .ref a :: r => match h.1 a with
    | .inl (.long, n, .inr (.inl f)) => if e_in i n then some (pc, lv, .long (f i.toNatClampNeg) :: r, h) else none
    | _ => none
  | _ => none
def e_aald (pc : Nat) (lv st : List Value) (h : e_H) : e_O := match st with
  | .int i :: .ref a :: r => match h.1 a with
    | .inl (.object C, n, .inr (.inr (.inr (.inr f)))) => if e_in i n ∧ e_okT (.object C) = true then some (pc, lv, va_rf (f i.toNatClampNeg) :: r, h) else none
    | _ => none
  | _ => none
def e_iast (pc : Nat) (lv st : List Value) (h : e_H) : e_O := match st with
  | .int x :: .int i :: .ref a :: r => match h.1 a with
    | .inl (.int, n, .inl f) => if e_in i n then some (pc, lv, r, (va_up h.1 a (.inl (.int, n, .inl (upd f i.toNatClampNeg x))), h.2)) else none
    | _ => none
  | _ => none
def e_bast (pc : Nat) (lv st : List Value) (h : e_H) : e_O := match st with
  | .int x :: .int i :: .ref a :: r => match h.1 a with
    | .inl (.byte, n, .inl f) => if e_in i n then some (pc, lv, r, (va_up h.1 a (.inl (.byte, n, .inl (upd f i.toNatClampNeg (vp_nar .byte x)))), h.2)) else none
    | .inl (.boolean, n, .inl f) => if e_in i n then some (pc, lv, r, (va_up h.1 a (.inl (.boolean, n, .inl (upd f i.toNatClampNeg (vp_nar .boolean x)))), h.2)) else none
    | _ => none
  | _ => none
def e_last (pc : Nat) (lv st : List Value) (h : e_H) : e_O := match st with
  | .long x :: .int i :: .ref a :: r => match h.1 a with
    | .inl (.long, n, .inr (.inl f)) => if e_in i n then some (pc, lv, r, (va_up h.1 a (.inl (.long, n, .inr (.inl (vp_updL f i.toNatClampNeg x)))), h.2)) else none
    | _ => none
  | _ => none
def e_aast (pc : Nat) (lv st : List Value) (h : e_H) : e_O := match st with
  | .ref v :: .int i :: .ref a :: r => match h.1 a, h.1 v with
    | .inl (.object C, n, .inr (.inr (.inr (.inr f)))), .inr (ci, _) => match e_K[ci]? with
      | some q => if e_in i n ∧ e_okT (.object C) = true ∧ C = q.1.1 then some (pc, lv, r, (va_up h.1 a (.inl (.object C, n, .inr (.inr (.inr (.inr (va_up f i.toNatClampNeg (some v))))))), h.2)) else none
      | none => none
    | _, _ => none
  | _ => none
def e_alen (X : Nat × (Nat → Int32)) (pc : Nat) (lv st : List Value) (h : e_H) : e_O := match st with
  | .ref a :: r => match h.1 a with
    | .inl (ty, x) => if e_okT ty = true then some (pc, lv, .int (Int32.ofNat x.1) :: r, h) else none
    | _ => none
  | .retAddr 20 :: r => some (pc, lv, .int (Int32.ofNat X.1) :: r, h)
  | .retAddr q :: r => if 10 ≤ q ∧ q < 14 then some (pc, lv, .int (Int32.ofNat (e_by.getD (q - 10) []).length) :: r, h) else none
  | _ => none
def e_newa (pc : Nat) (lv st : List Value) (h : e_H) (ty : FieldType) (z : Nat → vp_A) : e_O := match st with
  | .int n :: r => if ¬ n < 0 ∧ n.toNatClampNeg ≤ 65536 then some (pc, lv, .ref h.2.1 :: r, (va_up h.1 h.2.1 (.inl (ty, z n.toNatClampNeg)), h.2.1 + 1, h.2.2 + n.toNatClampNeg)) else none
  | _ => none
def e_new (own pc : Nat) (lv st : List Value) (h : e_H) (idx : Nat) : e_O := match e_nw own idx with
  | some ci => match e_K[ci]? with
    | some q => some (pc, lv, .ref h.2.1 :: st, (va_up h.1 h.2.1 (.inr (ci, q.2.2)), h.2.1 + 1, h.2.2 + q.1.2.2))
    | none => none
  | none => none
/-- what one instruction does that is no call and no return -/
def e_st (X : Nat × (Nat → Int32)) (own : Nat) (ini : Bool) (pc : Nat) (i : Instr) (lv st : List Value) (h : e_H) : e_O := match i with
  | .iconst n => some (pc + 1, lv, .int (Int32.ofInt n) :: st, h)
  | .bipush n => some (pc + 2, lv, .int (Int8.ofInt n).toInt32 :: st, h)
  | .sipush n => some (pc + 3, lv, .int (Int16.ofInt n).toInt32 :: st, h)
  | .lconst n => some (pc + 1, lv, .long (Int64.ofNat n.val) :: st, h)
  | .iload i => e_ldi (pc + 2) lv st h i
  | .iload_n i => e_ldi (pc + 1) lv st h i.val
  | .lload i => e_ldl (pc + 2) lv st h i
  | .lload_n i => e_ldl (pc + 1) lv st h i.val
  | .aload i => e_lda (pc + 2) lv st h i
  | .aload_n i => e_lda (pc + 1) lv st h i.val
  | .istore i => e_sti (pc + 2) lv st h i
  | .istore_n i => e_sti (pc + 1) lv st h i.val
  | .lstore i => e_stll (pc + 2) lv st h i
  | .lstore_n i => e_stll (pc + 1) lv st h i.val
  | .astore i => e_sta (pc + 2) lv st h i
  | .astore_n i => e_sta (pc + 1) lv st h i.val
  | .iinc i n => match lv[i]? with
    | some (.int x) => some (pc + 3, lv.set i (.int (x + Int32.ofInt n)), st, h)
    | _ => none
  | .iadd => e_ii (pc + 1) lv st h (fun x y => x + y)
  | .isub => e_ii (pc + 1) lv st h (fun x y => x - y)
  | .imul => e_ii (pc + 1) lv st h (fun x y => x * y)
  | .iand => e_ii (pc + 1) lv st h (fun x y => x &&& y)
  | .ior => e_ii (pc + 1) lv st h (fun x y => x ||| y)
  | .ixor => e_ii (pc + 1) lv st h (fun x y => x ^^^ y)
  | .ishl => e_ii (pc + 1) lv st h (fun x y => x <<< (y &&& 31))
  | .ishr => e_ii (pc + 1) lv st h (fun x y => x >>> (y &&& 31))
  | .iushr => e_ii (pc + 1) lv st h (fun x y => (x.toUInt32 >>> (y.toUInt32 &&& Int32.toUInt32 31)).toInt32)
  | .idiv => e_iz (pc + 1) lv st h (fun x y => x / y)
  | .irem => e_iz (pc + 1) lv st h (fun x y => x - x / y * y)
  | .ineg => e_i1 (pc + 1) lv st h (fun x => .int (-x))
  | .i2l => e_i1 (pc + 1) lv st h (fun x => .long x.toInt64)
  | .i2b => e_i1 (pc + 1) lv st h (fun x => .int x.toInt8.toInt32)
  | .i2s => e_i1 (pc + 1) lv st h (fun x => .int x.toInt16.toInt32)
  | .i2c => e_i1 (pc + 1) lv st h (fun x => .int (x.toUInt32 % 65536).toInt32)
  | .ladd => e_ll (pc + 1) lv st h (fun x y => .long (x + y))
  | .lsub => e_ll (pc + 1) lv st h (fun x y => .long (x - y))
  | .lmul => e_ll (pc + 1) lv st h (fun x y => .long (x * y))
  | .land => e_ll (pc + 1) lv st h (fun x y => .long (x &&& y))
  | .lor => e_ll (pc + 1) lv st h (fun x y => .long (x ||| y))
  | .lcmp => e_ll (pc + 1) lv st h (fun x y => .int (lg_cmp x y))
  | .ldiv => e_lz (pc + 1) lv st h (fun x y => x / y)
  | .lrem => e_lz (pc + 1) lv st h (fun x y => x - x / y * y)
  | .lshl => e_ls (pc + 1) lv st h (fun x y => x <<< (y.toInt64 &&& 63))
  | .lshr => e_ls (pc + 1) lv st h (fun x y => x >>> (y.toInt64 &&& 63))
  | .l2i => match st with
    | .long x :: r => some (pc + 1, lv, .int x.toInt32 :: r, h)
    | _ => none
  | .dup => match st with
    | v :: r => if v.category = 1 then some (pc + 1, lv, v :: v :: r, h) else none
    | _ => none
  | .pop => match st with
    | v :: r => if v.category = 1 then some (pc + 1, lv, r, h) else none
    | _ => none
  | .pop2 => match st with
    | .long _ :: r => some (pc + 1, lv, r, h)
    | _ => none
  | .dup2 => match st with
    | v :: w :: r => if v.category = 1 ∧ w.category = 1 then some (pc + 1, lv, v :: w :: v :: w :: r, h) else none
    | _ => none
  | .goto off => (e_jmp pc off).map fun t => (t, lv, st, h)
  | .ifCond c off => match st with
    | .int x :: r => (e_jmp pc off).map fun t => (if e_c0 c x then t else pc + 3, lv, r, h)
    | _ => none
  | .if_icmp c off => match st with
    | .int y :: .int x :: r => (e_jmp pc off).map fun t => (if e_c2 c x y then t else pc + 3, lv, r, h)
    | _ => none
  | .tableswitch d lo hi offs => match st with
    | .int x :: r => if x.toInt < lo ∨ hi < x.toInt then (e_jmp pc d).map fun t => (t, lv, r, h) else match offs[(x.toInt - lo).toNat]? with
      | some off => (e_jmp pc off).map fun t => (t, lv, r, h)
      | none => none
    | _ => none
  | .lookupswitch d ps => match st with
    | .int x :: r => if (ps.toList.zip (ps.toList.drop 1)).all (fun (a, next) => a.1 < next.1) = true then (e_jmp pc (Op.lookupswitch.offset ps.toList d x.toInt)).map fun t => (t, lv, r, h) else none
    | _ => none
  | .ldc idx => match e_kd own idx with
    | some (.int v) => some (pc + 2, lv, .int v :: st, h)
    | _ => match e_sd own idx with
      | some q => if q < 4 then some (pc + 2, lv, .retAddr q :: st, h) else none
      | none => none
  | .ldc_w idx => match e_kd own idx with
    | some (.int v) => some (pc + 3, lv, .int v :: st, h)
    | _ => none
  | .ldc2_w idx => match e_kd own idx with
    | some (.long v) => some (pc + 3, lv, .long v :: st, h)
    | _ => none
  | .getstatic idx => if own = 16 ∧ idx = 38 then some (pc + 3, lv, .int 1 :: st, h) else if own = 16 ∧ idx = 1053 then some (pc + 3, lv, .retAddr 30 :: st, h) else none
  | .getfield idx => e_gf own (pc + 3) lv st h idx
  | .putfield idx => e_pf own ini (pc + 3) lv st h idx
  | .iaload => e_iald X (pc + 1) lv st h
  | .baload => e_bald (pc + 1) lv st h
  | .laload => e_lald (pc + 1) lv st h
  | .aaload => e_aald (pc + 1) lv st h
  | .iastore => e_iast (pc + 1) lv st h
  | .bastore => e_bast (pc + 1) lv st h
  | .lastore => e_last (pc + 1) lv st h
  | .aastore => e_aast (pc + 1) lv st h
  | .arraylength => e_alen X (pc + 1) lv st h
  | .newarray .int => e_newa (pc + 2) lv st h .int (fun n => (n, .inl (fun _ => 0)))
  | .newarray .byte => e_newa (pc + 2) lv st h .byte (fun n => (n, .inl (fun _ => 0)))
  | .newarray .boolean => e_newa (pc + 2) lv st h .boolean (fun n => (n, .inl (fun _ => 0)))
  | .newarray .long => e_newa (pc + 2) lv st h .long (fun n => (n, .inr (.inl (fun _ => 0))))
  | .anewarray idx => match e_nw own idx with
    | some ci => match e_K[ci]? with
      | some q => if e_okT (.object q.1.1) = true then e_newa (pc + 3) lv st h (.object q.1.1) (fun n => (n, .inr (.inr (.inr (.inr (fun _ => none)))))) else none
      | none => none
    | none => none
  | .new idx => e_new own (pc + 3) lv st h idx
  | .invokespecial idx => match e_rs own idx, st with
    | some (_, 3), .ref _ :: r => if e_cat r ≤ 8 then some (pc + 3, lv, r, h) else none
    | _, _ => none
  | _ => none
/-- a method's record -/
def e_rc (mi : Nat) : Option e_R := e_M[mi]?
def e_cd (mi pc : Nat) : Option (Instr × Nat) := match (if mi = 999 then some e_ML else e_rc mi) with
  | some r => r.2.2.2.2.2.2.lookup pc
  | none => none
def e_ow (mi : Nat) : Nat := match (if mi = 999 then some e_ML else e_rc mi) with
  | some r => r.2.2.2.2.1
  | none => 0
def e_rt (mi : Nat) : Option FieldType := match (if mi = 999 then some e_ML else e_rc mi) with
  | some r => r.2.2.2.1
  | none => none
def e_ni (mi : Nat) : Bool := match (if mi = 999 then some e_ML else e_rc mi) with
  | some r => decide (r.1.name = "<init>")
  | none => false
def e_lc (mx : Nat) (as : List Value) : List Value := (as.flatMap fun v => if v.category = 2 then [v, .double 0] else [v]) ++ List.replicate (mx - (as.flatMap fun v => if v.category = 2 then [v, .double 0] else [v]).length) (.float 0)
/-- a call: the callee, its locals, what is left on the stack -/
def e_cp0 (own kind idx : Nat) (st : List Value) (h : e_H) : Option (Nat × List Value × List Value) := match e_rs own idx with
  | some (cm, k) => match e_rc cm with
    | some r => if k = kind ∧ k < 3 ∧ r.2.2.2.2.2.1 ≤ st.length then
        (if kind = 0 then (if e_cat (st.drop r.2.2.2.2.2.1) ≤ 8 then some (cm, (st.take r.2.2.2.2.2.1).reverse, st.drop r.2.2.2.2.2.1) else none)
        else match st.drop r.2.2.2.2.2.1 with
          | .ref a :: rest => match h.1 a with
            | .inr (ci, _) => if e_cat rest ≤ 8 ∧ ci = r.2.2.2.2.1 ∧ ci < 13 then some (cm, .ref a :: (st.take r.2.2.2.2.2.1).reverse, rest) else none
            | _ => none
          | .retAddr q :: rest => if e_cat rest ≤ 8 ∧ r.2.2.2.2.1 = 16 ∧ q < 4 ∧ kind = 1 then some (cm, .retAddr q :: (st.take r.2.2.2.2.2.1).reverse, rest) else none
          | _ => none)
      else none
    | none => none
  | none => none
def e_al (as : List Value) : Nat := (as.flatMap fun v => if v.category = 2 then [v, Value.double 0] else [v]).length
def e_cp (own kind idx : Nat) (st : List Value) (h : e_H) : Option (Nat × List Value × List Value) := match e_cp0 own kind idx st h with
  | some (cm, as, rest) => match e_rc cm with
    | some r => if e_al as ≤ r.2.2.1 then some (cm, as, rest) else none
    | none => none
  | none => none
def e_kn : Instr → Option (Nat × Nat)
  | .invokestatic i => some (0, i)
  | .invokevirtual i => some (1, i)
  | .invokespecial i => some (2, i)
  | _ => none
/-- a return: its answer -/
def e_re (mi : Nat) (i : Instr) (st : List Value) : Option (Option Value) := match i, st with
  | .ireturn, [.int v] => match e_rt mi with
    | some ty => if narrow ty (.int v) = .int v then some (some (.int v)) else none
    | none => none
  | .lreturn, [.long v] => if e_rt mi = some .long then some (some (.long v)) else none
  | .areturn, [.ref v] => match e_rt mi with
    | some (.object _) => some (some (.ref v))
    | _ => none
  | .return_, [] => if e_rt mi = none then some none else none
  | _, _ => none
def ev (X : Nat × (Nat → Int32)) : Nat → Nat → Nat → Nat → List Value → List Value → e_H → Option (e_H × Option Value)
  | 0, _, _, _, _, _, _ => none
  | n + 1, d, mi, pc, lv, st, h => match e_cd mi pc with
    | none => none
    | some (i, _) => match e_re mi i st with
      | some r => some (h, r)
      | none => match e_st X (e_ow mi) (e_ni mi) pc i lv st h with
        | some (pc', lv', st', h') => ev X n d mi pc' lv' st' h'
        | none => match e_kn i, d with
          | some (kind, idx), d' + 1 => match e_cp (e_ow mi) kind idx st h with
            | some (cm, as, rest) => match e_rc cm with
              | some r => match ev X n d' cm 0 (e_lc r.2.2.1 as) [] h with
                | some (h', v) => ev X n (d' + 1) mi (pc + 3) lv (v.toList ++ rest) h'
                | none => none
              | none => none
            | none => none
          | _, _ => none

def fd_n (as : List Int) (k : Nat) : Nat := (as.getD k 0).toNat
def fd_a (as : List Int) (k : Nat) : Int := as.getD k 0
/-! the tables against the code: what each row of fd_code says of the bytes and of the tables' words -/
def fd_wd (p : Nat) (w : Jvm.Cond) : Bool := decide (lw_tbl[p]? = some w)
def fd_f4 (k : Nat) : Fin 4 := Fin.ofNat 4 k
def fd_dc (b : ByteArray) (pc nx : Nat) (I : Instr) (len : Nat) : Bool := decide (decode b pc = .ok (I, len)) && decide (nx = pc + len)
def fd_kd (t : FieldType) : Nat := match t with
  | .int => 0
  | .long => 1
  | .boolean => 3
  | _ => 2
def fd_clD (ci : Nat) : vw_C := fd_cl.getD ci ("", fd_T0, 0)
def fd_fl (p : Nat) (own : String) (idx : Nat) (nest : Int) (C nm ds : String) : Bool :=
  if nest = 0 then fd_wd p (.fieldLink own idx C nm ds) else fd_wd p (.fieldLinkNest own idx C nm ds "FacingDoors")
/-- a field: its class, its place, its kind -/
def fd_okF (p : Nat) (own : String) (as : List Int) : Bool :=
  decide (fd_n as 0 < 11) && (decide (fd_n as 1 < (fd_clD (fd_n as 0)).2.2) && (decide (fd_kd (fd_ty (fd_n as 0) (fd_n as 1)) = fd_n as 2) &&
    fd_fl p own (fd_n as 3) (fd_a as 4) (fd_clD (fd_n as 0)).1 ((fd_clD (fd_n as 0)).2.1 (fd_n as 1)).2.1 ((fd_clD (fd_n as 0)).2.1 (fd_n as 1)).2.2.1))
def fd_jp (pcs : List Nat) (pc t : Nat) (off : Int) : Bool := decide (pcs[t]? = some ((pc : Int) + off).toNat ∧ 0 ≤ (pc : Int) + off)
def fd_icmp (op : Nat) : ClassFile.Cond := match op with
  | 0 => .eq | 1 => .ne | 2 => .lt | 3 => .ge | 4 => .gt | _ => .le
def fd_rtyp (rk : Nat) : Option FieldType := match rk with
  | 0 => none | 1 => some .int | 2 => some .boolean | _ => some .long
def fd_aty (k : Nat) : ArrayType := match k with
  | 20 => .int | 21 => .byte | _ => .boolean
def fd_fty (k : Nat) : FieldType := match k with
  | 20 => .int | 21 => .byte | _ => .boolean
def fd_acl (k : Nat) : String := match k with
  | 23 => "FacingDoors$Scene" | _ => "FacingDoors$Image"
/-- what is so of a method wherever it is called from -/
def fd_okM (m : Nat) : Bool :=
  (fd_wd (fd_mw.getD m (0, 0, 0, 0)).1 (.code (fd_y m) (fd_b m) (fd_mL m) (fd_r m)) && fd_wd (fd_mw.getD m (0, 0, 0, 0)).2.2.2 (.initialized (fd_y m).cls)) && ((match fd_sk m with
    | 0 => fd_wd (fd_mw.getD m (0, 0, 0, 0)).2.1 (.static (fd_y m))
    | 1 => fd_wd (fd_mw.getD m (0, 0, 0, 0)).2.1 (.instanceMethod (fd_y m)) && fd_wd (fd_mw.getD m (0, 0, 0, 0)).2.2.1 (.selects (fd_y m).cls (fd_y m) (fd_y m))
    | _ => fd_wd (fd_mw.getD m (0, 0, 0, 0)).2.1 (.instanceMethod (fd_y m))) && (decide ((fd_y m).cls ≠ "java/lang/invoke/MethodHandle" ∧ (fd_y m).cls ≠ "java/lang/invoke/VarHandle" ∧ plainName (fd_y m).cls = true ∧ fd_r m = fd_rtyp (fd_rk m)) && decide (fd_mL m ≤ 20)))
def fd_np (m : Nat) : Option Nat := (parseMethodDescriptor (fd_y m).desc).map (fun d => d.parameters.length)
def fd_lb : MethodName := ⟨"java/lang/Long", "bitCount", "(J)I"⟩
def fd_okI (own : String) (b : ByteArray) (ini : Bool) (pcs : List Nat) (pc nx op : Nat) (as : List Int) : Bool := match op with
  | 0 => match fd_n as 1 with
    | 0 => fd_dc b pc nx (.iconst (fd_a as 0)) 1
    | 1 => fd_dc b pc nx (.bipush (fd_a as 0)) 2 && decide ((Int8.ofInt (fd_a as 0)).toInt32 = Int32.ofInt (fd_a as 0))
    | 2 => fd_dc b pc nx (.sipush (fd_a as 0)) 3 && decide ((Int16.ofInt (fd_a as 0)).toInt32 = Int32.ofInt (fd_a as 0))
    | 3 => fd_dc b pc nx (.ldc (fd_n as 2)) 2 && fd_wd (fd_n as 3) (.constant own (fd_n as 2) (Int32.ofInt (fd_a as 0)))
    | _ => fd_dc b pc nx (.ldc_w (fd_n as 2)) 3 && fd_wd (fd_n as 3) (.constant own (fd_n as 2) (Int32.ofInt (fd_a as 0)))
  | 1 => if fd_a as 1 = 0 then decide (fd_n as 0 < 4) && fd_dc b pc nx (.iload_n (fd_f4 (fd_n as 0))) 1 else fd_dc b pc nx (.iload (fd_n as 0)) 2
  | 2 => if fd_a as 1 = 0 then decide (fd_n as 0 < 4) && fd_dc b pc nx (.aload_n (fd_f4 (fd_n as 0))) 1 else fd_dc b pc nx (.aload (fd_n as 0)) 2
  | 3 => if fd_a as 1 = 0 then decide (fd_n as 0 < 4) && fd_dc b pc nx (.istore_n (fd_f4 (fd_n as 0))) 1 else fd_dc b pc nx (.istore (fd_n as 0)) 2
  | 4 => if fd_a as 1 = 0 then decide (fd_n as 0 < 4) && fd_dc b pc nx (.astore_n (fd_f4 (fd_n as 0))) 1 else fd_dc b pc nx (.astore (fd_n as 0)) 2
  | 5 => fd_dc b pc nx (.iinc (fd_n as 0) (fd_a as 1)) 3
  | 6 => fd_dc b pc nx .iadd 1
  | 7 => fd_dc b pc nx .isub 1
  | 8 => fd_dc b pc nx .imul 1
  | 9 => fd_dc b pc nx .idiv 1
  | 10 => fd_dc b pc nx .irem 1
  | 11 => fd_dc b pc nx .iand 1
  | 12 => fd_dc b pc nx .ior 1
  | 13 => fd_dc b pc nx .ixor 1
  | 14 => fd_dc b pc nx .ishl 1
  | 15 => fd_dc b pc nx .ishr 1
  | 16 => fd_dc b pc nx .iushr 1
  | 17 => if fd_a as 1 = 0 then (if fd_a as 0 = 0 then fd_dc b pc nx (.lconst 0) 1 else decide (fd_a as 0 = 1) && fd_dc b pc nx (.lconst 1) 1) else fd_dc b pc nx (.ldc2_w (fd_n as 2)) 3 && fd_wd (fd_n as 3) (.constantLong own (fd_n as 2) (Int64.ofInt (fd_a as 0)))
  | 18 => fd_dc b pc nx .ladd 1
  | 19 => fd_dc b pc nx .lxor 1
  | 20 => fd_dc b pc nx .land 1
  | 21 => fd_dc b pc nx .lshl 1
  | 22 => fd_dc b pc nx .lcmp 1
  | 23 => fd_dc b pc nx .i2b 1
  | 24 => fd_dc b pc nx .dup 1
  | 25 => fd_dc b pc nx .dup2 1
  | 26 => fd_dc b pc nx .pop 1
  | 27 => fd_dc b pc nx (.getfield (fd_n as 3)) 3 && fd_okF (fd_n as 5) own as
  | 28 => fd_dc b pc nx (.putfield (fd_n as 3)) 3 && (fd_okF (fd_n as 6) own as && (if ((fd_clD (fd_n as 0)).2.1 (fd_n as 1)).2.2.2 = true then ini && (decide (((fd_clD (fd_n as 0)).2.1 (fd_n as 1)).1 = own) && decide (fd_a as 4 = 0)) else true))
  | 29 => fd_dc b pc nx (.getstatic (fd_n as 1)) 3 && ((decide (fd_n as 0 = 1001) && fd_fl (fd_n as 3) own (fd_n as 1) (fd_a as 2) "FacingDoors" "STEP_X" "[I") || (decide (fd_n as 0 = 1002) && fd_fl (fd_n as 3) own (fd_n as 1) (fd_a as 2) "FacingDoors" "STEP_Y" "[I"))
  | 30 => fd_dc b pc nx .iaload 1
  | 31 => fd_dc b pc nx .iastore 1
  | 32 => fd_dc b pc nx .baload 1
  | 33 => fd_dc b pc nx .bastore 1
  | 34 => fd_dc b pc nx .aaload 1
  | 35 => fd_dc b pc nx .aastore 1
  | 36 => fd_dc b pc nx .arraylength 1
  | 37 => fd_dc b pc nx (.new (fd_n as 1)) 3 && (decide (fd_n as 0 < 11) && fd_wd (fd_n as 2) (.classLink own (fd_n as 1) (fd_clD (fd_n as 0)).1))
  | 38 => fd_dc b pc nx (.newarray (fd_aty (fd_n as 0))) 2 && (decide (20 ≤ fd_n as 0 ∧ fd_n as 0 ≤ 22))
  | 39 => fd_dc b pc nx (.anewarray (fd_n as 1)) 3 && (decide (23 ≤ fd_n as 0 ∧ fd_n as 0 ≤ 24) && fd_wd (fd_n as 2) (.classLink own (fd_n as 1) (fd_acl (fd_n as 0))))
  | 40 => fd_dc b pc nx (.invokestatic (fd_n as 0)) 3 && fd_wd (fd_n as 1) (.methodLink own (fd_n as 0) arraycopyName)
  | 41 => fd_dc b pc nx (.invokestatic (fd_n as 0)) 3 && fd_wd (fd_n as 1) (.methodLink own (fd_n as 0) fd_lb)
  | 42 => fd_dc b pc nx (.invokespecial (fd_n as 0)) 3 && fd_wd (fd_n as 1) (.methodLink own (fd_n as 0) objectInit)
  | 43 => fd_dc b pc nx .iaload 1
  | 44 => fd_dc b pc nx (.invokestatic (fd_n as 0)) 3 && fd_wd (fd_n as 1) (.methodLink own (fd_n as 0) Lib.Math.min.name)
  | 45 => fd_dc b pc nx .lshr 1
  | 100 => match decode b pc with
    | .ok (.goto off, 3) => fd_jp pcs pc (fd_n as 0) off
    | _ => false
  | 113 => match decode b pc with
    | .ok (.tableswitch d lo hi offs, _) => fd_jp pcs pc (fd_n as 0) d && (decide (fd_a as 1 = lo ∧ hi = lo + ((as.length : Int) - 2) - 1 ∧ offs.toList.length + 2 = as.length ∧ 3 ≤ as.length) && (List.range (as.length - 2)).all fun j => fd_jp pcs pc (fd_n as (2 + j)) (offs.toList.getD j 0))
    | _ => false
  | 118 => match decode b pc with
    | .ok (.lookupswitch d ps, _) => fd_jp pcs pc (fd_n as 0) d && ((ps.toList.zip (ps.toList.drop 1)).all (fun (a, next) => a.1 < next.1) && (decide (as.length = 1 + 2 * ps.toList.length) && (List.range ps.toList.length).all fun j => decide (fd_a as (1 + 2 * j) = (ps.toList.getD j (0, 0)).1 ∧ 0 ≤ fd_a as (2 + 2 * j)) && fd_jp pcs pc (fd_n as (2 + 2 * j)) (ps.toList.getD j (0, 0)).2))
    | _ => false
  | 114 => decide (decode b pc = .ok (.ireturn, 1))
  | 115 => decide (decode b pc = .ok (.lreturn, 1))
  | 116 => decide (decode b pc = .ok (.return_, 1))
  | 120 => fd_dc b pc nx (.invokevirtual (fd_n as 2)) 3 && (decide (fd_n as 0 < 177 ∧ fd_mc (fd_n as 0) < 11 ∧ (fd_clD (fd_mc (fd_n as 0))).1 = (fd_y (fd_n as 0)).cls ∧ fd_np (fd_n as 0) = some (fd_n as 1 - 1) ∧ 1 ≤ fd_n as 1 ∧ fd_n as 1 ≤ fd_mL (fd_n as 0)) && (decide (fd_sk (fd_n as 0) = 1) && (if fd_a as 3 = 0 then fd_wd (fd_n as 4) (.methodLink own (fd_n as 2) (fd_y (fd_n as 0))) else fd_wd (fd_n as 4) (.methodLinkNest own (fd_n as 2) (fd_y (fd_n as 0)) "FacingDoors"))))
  | 121 => fd_dc b pc nx (.invokestatic (fd_n as 2)) 3 && (decide (fd_n as 0 < 177 ∧ fd_np (fd_n as 0) = some (fd_n as 1) ∧ fd_n as 1 ≤ fd_mL (fd_n as 0)) && (decide (fd_sk (fd_n as 0) = 0) && (if fd_a as 3 = 0 then fd_wd (fd_n as 4) (.methodLink own (fd_n as 2) (fd_y (fd_n as 0))) else fd_wd (fd_n as 4) (.methodLinkNest own (fd_n as 2) (fd_y (fd_n as 0)) "FacingDoors"))))
  | 122 => fd_dc b pc nx (.invokespecial (fd_n as 2)) 3 && (decide (fd_n as 0 < 177 ∧ fd_np (fd_n as 0) = some (fd_n as 1 - 1) ∧ 1 ≤ fd_n as 1 ∧ fd_n as 1 ≤ fd_mL (fd_n as 0) ∧ (fd_y (fd_n as 0)).name = "<init>" ∧ fd_r (fd_n as 0) = none) && (decide (fd_sk (fd_n as 0) = 2) && (if fd_a as 3 = 0 then fd_wd (fd_n as 4) (.methodLink own (fd_n as 2) (fd_y (fd_n as 0))) else fd_wd (fd_n as 4) (.methodLinkNest own (fd_n as 2) (fd_y (fd_n as 0)) "FacingDoors"))))
  | op => if 101 ≤ op ∧ op ≤ 106 then (match decode b pc with
      | .ok (.if_icmp cd off, 3) => decide (cd = fd_icmp (op - 101) ∧ nx = pc + 3) && fd_jp pcs pc (fd_n as 0) off
      | _ => false)
    else if 107 ≤ op ∧ op ≤ 112 then (match decode b pc with
      | .ok (.ifCond cd off, 3) => decide (cd = fd_icmp (op - 107) ∧ nx = pc + 3) && fd_jp pcs pc (fd_n as 0) off
      | _ => false)
    else false
/-- a method's rows from place i on: the pcs are those of fd_pcs; behind the last one nothing comes -/
def fd_okL (own : String) (b : ByteArray) (ini : Bool) (pcs : List Nat) : List fd_Ins → List Nat → Bool
  | [], [] => true
  | (op, as) :: r, pc :: q => fd_okI own b ini pcs pc (q.headD 0) op as && fd_okL own b ini pcs r q
  | _, _ => false
def fd_ini (m : Nat) : Bool := decide ((fd_y m).name = "<init>")
def fd_okC (m : Nat) : Bool := fd_okM m && fd_okL (fd_y m).cls (fd_b m) (fd_ini m) (fd_pcs m) (fd_code m) (fd_pcs m)

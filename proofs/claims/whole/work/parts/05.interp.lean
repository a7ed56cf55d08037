/-! A small machine over whole numbers: values, memory of the cells that the constructors make, one instruction, a run -/
abbrev fd_V : Type := Int ⊕ Int ⊕ Nat
abbrev fd_I (a : Int) : fd_V := .inl a
abbrev fd_J (a : Int) : fd_V := .inr (.inl a)
abbrev fd_R (c : Nat) : fd_V := .inr (.inr c)
abbrev fd_M : Type := Nat → Nat → Int
def fd_up (M : fd_M) (c k : Nat) (v : Int) : fd_M := fun c' k' => if c' = c ∧ k' = k then v else M c' k'
def fd_cp (M : fd_M) (c1 sp c2 dp n : Nat) : fd_M := fun c k => if c = c2 ∧ dp ≤ k ∧ k < dp + n then M c1 (sp + (k - dp)) else M c k
def fd_nw (M : fd_M) (f : Nat → Int) : fd_M := fun c k => if c = (M 5000 0).toNat then f k else if c = 5000 ∧ k = 0 then M 5000 0 + 1 else M c k
def fd_inb (i n : Int) : Bool := decide (0 ≤ i ∧ i < n)
def fd_rng (a : Int) : Bool := decide (-2147483648 ≤ a ∧ a < 2147483648)
def fd_al (ph : Bool) (M : fd_M) (c : Nat) : Bool := ph || Nat.blt c (M 5000 0).toNat
def fd_isO (ph : Bool) (M : fd_M) (c ci : Nat) : Bool := Nat.beq (fd_SH c).1 ci && fd_al ph M c
def fd_rf (ph : Bool) (M : fd_M) (c k : Nat) : Nat := match (bif ph then fd_RF c k else none) with
  | some r => r
  | none => (M c k).toNat
def fd_gf (ph : Bool) (M : fd_M) (kd c k : Nat) : fd_V := match kd with
  | 1 => fd_J (M c k)
  | 2 => fd_R (fd_rf ph M c k)
  | _ => fd_I (M c k)
def fd_and (a b : Int) : Int := (Int32.ofInt a &&& Int32.ofInt b).toInt
def fd_or (a b : Int) : Int := (Int32.ofInt a ||| Int32.ofInt b).toInt
def fd_xor (a b : Int) : Int := (Int32.ofInt a ^^^ Int32.ofInt b).toInt
def fd_land (a b : Int) : Int := (Int64.ofInt a &&& Int64.ofInt b).toInt
def fd_lxor (a b : Int) : Int := (Int64.ofInt a ^^^ Int64.ofInt b).toInt
def fd_lcmp (a b : Int) : Int := (lg_cmp (Int64.ofInt a) (Int64.ofInt b)).toInt
def fd_i2b (a : Int) : Int := ((Int32.ofInt a).toInt8.toInt32).toInt
def fd_sx (i : Int) : Int := if i = 1 then 1 else if i = 3 then -1 else 0
def fd_sy (i : Int) : Int := if i = 2 then 1 else if i = 0 then -1 else 0
def fd_us (x : Int64) (k : Int32) : Int64 := (x.toUInt64 >>> (k.toInt64.toUInt64 &&& Int64.toUInt64 63)).toInt64
def fd_bc1 (x : Int64) : Int64 := x - (fd_us x 1 &&& 6148914691236517205)
def fd_bc2 (x : Int64) : Int64 := (x &&& 3689348814741910323) + (fd_us x 2 &&& 3689348814741910323)
def fd_bc3 (x : Int64) : Int64 := (x + fd_us x 4) &&& 1085102592571150095
def fd_bc4 (x : Int64) : Int64 := x + fd_us x 8
def fd_bc5 (x : Int64) : Int64 := x + fd_us x 16
def fd_bc6 (x : Int64) : Int64 := x + fd_us x 32
def fd_bc (x : Int64) : Int32 := (fd_bc6 (fd_bc5 (fd_bc4 (fd_bc3 (fd_bc2 (fd_bc1 x)))))).toInt32 &&& 127
def fd_lbc (a : Int) : Int := (fd_bc (Int64.ofInt a)).toInt
abbrev fd_Rs : Type := Option (Bool × List fd_V × List fd_V × fd_M)
/-- what is on top: an int, a long, a reference -/
def fd_pI (st : List fd_V) (F : Int → List fd_V → fd_Rs) : fd_Rs := match st with
  | .inl a :: r => F a r
  | _ => none
def fd_pJ (st : List fd_V) (F : Int → List fd_V → fd_Rs) : fd_Rs := match st with
  | .inr (.inl a) :: r => F a r
  | _ => none
def fd_pR (st : List fd_V) (F : Nat → List fd_V → fd_Rs) : fd_Rs := match st with
  | .inr (.inr c) :: r => F c r
  | _ => none
def fd_lI (v : Option fd_V) (F : Int → fd_Rs) : fd_Rs := match v with
  | some (.inl a) => F a
  | _ => none
def fd_lR (v : Option fd_V) (F : Nat → fd_Rs) : fd_Rs := match v with
  | some (.inr (.inr c)) => F c
  | _ => none
def fd_2 (ls st : List fd_V) (M : fd_M) (g : Int → Int → Bool) (f : Int → Int → Int) : fd_Rs := fd_pI st fun b r => fd_pI r fun a r => some (g a b, ls, fd_I (f a b) :: r, M)
def fd_2J (ls st : List fd_V) (M : fd_M) (f : Int → Int → Int) : fd_Rs := fd_pJ st fun b r => fd_pJ r fun a r => some (true, ls, fd_J (f a b) :: r, M)
def fd_tt : Int → Int → Bool := fun _ _ => true
def fd_put (ph : Bool) (ci k kd : Nat) (ls st : List fd_V) (M : fd_M) : fd_Rs := match kd with
  | 0 => fd_pI st fun a r => fd_pR r fun c r => some (fd_isO ph M c ci, ls, r, fd_up M c k a)
  | 1 => fd_pJ st fun a r => fd_pR r fun c r => some (fd_isO ph M c ci, ls, r, fd_up M c k a)
  | 2 => fd_pR st fun x r => fd_pR r fun c r => some (!ph && (fd_isO ph M c ci && Nat.blt x 1000), ls, r, fd_up M c k x)
  | 3 => fd_pI st fun a r => fd_pR r fun c r => some (fd_isO ph M c ci && fd_inb a 2, ls, r, fd_up M c k a)
  | _ => none
def fd_isA (ph : Bool) (M : fd_M) (c kd : Nat) (i : Int) : Bool := (Nat.beq (fd_SH c).1 kd && fd_al ph M c) && fd_inb i (fd_SH c).2
def fd_new (ph : Bool) (kd : Nat) (ls r : List fd_V) (M : fd_M) (ok : Bool) (f : Nat → Int) : fd_Rs := some (!ph && (Nat.beq (fd_SH (M 5000 0).toNat).1 kd && ok), ls, fd_R (M 5000 0).toNat :: r, fd_nw M f)
def fd_copy (ph : Bool) (ls st : List fd_V) (M : fd_M) : fd_Rs := fd_pI st fun n r => fd_pI r fun dp r => fd_pR r fun c2 r => fd_pI r fun sp r => fd_pR r fun c1 r =>
    some ((ph && (Nat.beq (fd_SH c1).1 20 && fd_al ph M c1) && (Nat.beq (fd_SH c2).1 20 && fd_al ph M c2)) && decide (0 ≤ sp ∧ 0 ≤ dp ∧ 0 ≤ n ∧ sp + n ≤ (fd_SH c1).2 ∧ dp + n ≤ (fd_SH c2).2 ∧ (r.length : Int) ≤ 4), ls, r, fd_cp M c1 sp.toNat c2 dp.toNat n.toNat)
/-- one instruction that goes on to the next one -/
def fd_nx (ph : Bool) (op : Nat) (as : List Int) (ls st : List fd_V) (M : fd_M) : fd_Rs := match op with
  | 0 => some (true, ls, fd_I (fd_a as 0) :: st, M)
  | 1 => fd_lI ls[fd_n as 0]? fun a => some (true, ls, fd_I a :: st, M)
  | 2 => fd_lR ls[fd_n as 0]? fun c => some (Nat.blt c 1000, ls, fd_R c :: st, M)
  | 3 => fd_pI st fun a r => some (Nat.blt (fd_n as 0) ls.length, ls.set (fd_n as 0) (fd_I a), r, M)
  | 4 => fd_pR st fun c r => some (Nat.blt (fd_n as 0) ls.length && Nat.blt c 1000, ls.set (fd_n as 0) (fd_R c), r, M)
  | 5 => fd_lI ls[fd_n as 0]? fun a => some (true, ls.set (fd_n as 0) (fd_I (a + fd_a as 1)), st, M)
  | 6 => fd_2 ls st M fd_tt (fun a b => a + b)
  | 7 => fd_2 ls st M fd_tt (fun a b => a - b)
  | 8 => fd_2 ls st M fd_tt (fun a b => a * b)
  | 9 => fd_2 ls st M (fun a b => fd_inb a 2147483648 && fd_inb (b - 1) 2147483647) (fun a b => a / b)
  | 10 => fd_2 ls st M (fun a b => fd_inb a 2147483648 && fd_inb (b - 1) 2147483647) (fun a b => a % b)
  | 11 => fd_2 ls st M fd_tt fd_and
  | 12 => fd_2 ls st M fd_tt fd_or
  | 13 => fd_2 ls st M fd_tt fd_xor
  | 14 => fd_2 ls st M (fun a b => decide (a = 1) && fd_inb b 32) (fun _ b => 2 ^ b.toNat)
  | 15 => fd_2 ls st M (fun a b => fd_inb a 2147483648 && fd_inb b 32) (fun a b => a / 2 ^ b.toNat)
  | 16 => fd_2 ls st M (fun a b => fd_inb a 2147483648 && fd_inb b 32) (fun a b => a / 2 ^ b.toNat)
  | 17 => some (true, ls, fd_J (fd_a as 0) :: st, M)
  | 18 => fd_2J ls st M (fun a b => a + b)
  | 19 => fd_2J ls st M fd_lxor
  | 20 => fd_2J ls st M fd_land
  | 21 => fd_pI st fun b r => fd_pJ r fun a r => some (decide (a = 1) && fd_inb b 64, ls, fd_J (2 ^ b.toNat) :: r, M)
  | 22 => fd_pJ st fun b r => fd_pJ r fun a r => some (true, ls, fd_I (fd_lcmp a b) :: r, M)
  | 23 => fd_pI st fun a r => some (true, ls, fd_I (fd_i2b a) :: r, M)
  | 24 => match st with
    | .inl a :: r => some (true, ls, fd_I a :: fd_I a :: r, M)
    | .inr (.inr c) :: r => some (true, ls, fd_R c :: fd_R c :: r, M)
    | _ => none
  | 25 => fd_pI st fun b r => fd_pR r fun a r => some (true, ls, fd_I b :: fd_R a :: fd_I b :: fd_R a :: r, M)
  | 26 => fd_pI st fun _ r => some (true, ls, r, M)
  | 27 => fd_pR st fun c r => some (fd_isO ph M c (fd_n as 0), ls, fd_gf ph M (fd_n as 2) c (fd_n as 1) :: r, M)
  | 28 => fd_put ph (fd_n as 0) (fd_n as 1) (fd_n as 2) ls st M
  | 29 => some (true, ls, fd_R (fd_n as 0) :: st, M)
  | 30 => fd_pI st fun i r => fd_pR r fun c r => some (fd_isA ph M c 20 i, ls, fd_I (M c i.toNat) :: r, M)
  | 31 => fd_pI st fun v r => fd_pI r fun i r => fd_pR r fun c r => some (fd_isA ph M c 20 i, ls, r, fd_up M c i.toNat v)
  | 32 => fd_pI st fun i r => fd_pR r fun c r => some (fd_isA ph M c 21 i || fd_isA ph M c 22 i, ls, fd_I (M c i.toNat) :: r, M)
  | 33 => fd_pI st fun v r => fd_pI r fun i r => fd_pR r fun c r => some ((fd_isA ph M c 21 i && fd_inb (v + 128) 256) || (fd_isA ph M c 22 i && fd_inb v 2), ls, r, fd_up M c i.toNat v)
  | 34 => fd_pI st fun i r => fd_pR r fun c r => some ((fd_isA ph M c 23 i || fd_isA ph M c 24 i) && Nat.blt (M c i.toNat).toNat 1000, ls, fd_R (M c i.toNat).toNat :: r, M)
  | 35 => fd_pR st fun x r => fd_pI r fun i r => fd_pR r fun c r => some ((fd_isA ph M c 23 i && fd_isO ph M x 5) || (fd_isA ph M c 24 i && fd_isO ph M x 2), ls, r, fd_up M c i.toNat x)
  | 36 => fd_pR st fun c r => some (Nat.ble 20 (fd_SH c).1 && (Nat.ble (fd_SH c).1 24 && fd_al ph M c), ls, fd_I (fd_SH c).2 :: r, M)
  | 37 => fd_new ph (fd_n as 0) ls st M true (fd_dfl (fd_n as 0))
  | 38 => fd_pI st fun n r => fd_new ph (fd_n as 0) ls r M (decide (n = (fd_SH (M 5000 0).toNat).2)) (fun _ => 0)
  | 39 => fd_pI st fun n r => fd_new ph (fd_n as 0) ls r M (decide (n = (fd_SH (M 5000 0).toNat).2)) (fun _ => 1000)
  | 40 => fd_copy ph ls st M
  | 41 => fd_pJ st fun a r => some (Nat.ble r.length 4, ls, fd_I (fd_lbc a) :: r, M)
  | 42 => fd_pR st fun c r => some (Nat.blt c 1000 && Nat.ble r.length 4, ls, r, M)
  | 43 => fd_pI st fun i r => fd_pR r fun c r => some ((Nat.beq c 1001 || Nat.beq c 1002) && fd_inb i 4, ls, fd_I (bif Nat.beq c 1001 then fd_sx i else fd_sy i) :: r, M)
  | 44 => fd_pI st fun b r => fd_pI r fun a r => some (fd_rng a && (fd_rng b && Nat.ble r.length 4), ls, fd_I (if b < a then b else a) :: r, M)
  | 45 => fd_pI st fun b r => fd_pJ r fun a r => some (fd_inb a 9223372036854775808 && fd_inb b 64, ls, fd_J (a / 2 ^ b.toNat) :: r, M)
  | _ => none
/-- where a branch goes: 100 goto, 101 .. two ints compared, 107 .. an int against 0, 113 a table, 118 a list of keys -/
def fd_cmp (op : Nat) (a b : Int) : Bool := match op with
  | 0 => decide (a = b)
  | 1 => decide (¬ a = b)
  | 2 => decide (a < b)
  | 3 => decide (b ≤ a)
  | 4 => decide (b < a)
  | _ => decide (a ≤ b)
def fd_look (x d : Int) : List Int → Int
  | k :: t :: r => if x = k then t else fd_look x d r
  | _ => d
def fd_jmp (op : Nat) (as : List Int) (i : Nat) (st : List fd_V) : Option (Bool × Nat × List fd_V) := match op with
  | 100 => some (true, fd_n as 0, st)
  | 101 => match st with | .inl b :: .inl a :: r => some (fd_rng a && fd_rng b, (if a = b then fd_n as 0 else i + 1), r) | _ => none
  | 102 => match st with | .inl b :: .inl a :: r => some (fd_rng a && fd_rng b, (if ¬ a = b then fd_n as 0 else i + 1), r) | _ => none
  | 103 => match st with | .inl b :: .inl a :: r => some (fd_rng a && fd_rng b, (if a < b then fd_n as 0 else i + 1), r) | _ => none
  | 104 => match st with | .inl b :: .inl a :: r => some (fd_rng a && fd_rng b, (if b ≤ a then fd_n as 0 else i + 1), r) | _ => none
  | 105 => match st with | .inl b :: .inl a :: r => some (fd_rng a && fd_rng b, (if b < a then fd_n as 0 else i + 1), r) | _ => none
  | 106 => match st with | .inl b :: .inl a :: r => some (fd_rng a && fd_rng b, (if a ≤ b then fd_n as 0 else i + 1), r) | _ => none
  | 107 => match st with | .inl a :: r => some (fd_rng a, (if a = 0 then fd_n as 0 else i + 1), r) | _ => none
  | 108 => match st with | .inl a :: r => some (fd_rng a, (if ¬ a = 0 then fd_n as 0 else i + 1), r) | _ => none
  | 109 => match st with | .inl a :: r => some (fd_rng a, (if a < 0 then fd_n as 0 else i + 1), r) | _ => none
  | 110 => match st with | .inl a :: r => some (fd_rng a, (if 0 ≤ a then fd_n as 0 else i + 1), r) | _ => none
  | 111 => match st with | .inl a :: r => some (fd_rng a, (if 0 < a then fd_n as 0 else i + 1), r) | _ => none
  | 112 => match st with | .inl a :: r => some (fd_rng a, (if a ≤ 0 then fd_n as 0 else i + 1), r) | _ => none
  | 113 => match st with | .inl a :: r => some (fd_rng a, (if 0 ≤ a - fd_a as 1 ∧ a - fd_a as 1 < (as.length : Int) - 2 then fd_n as (2 + (a - fd_a as 1).toNat) else fd_n as 0), r) | _ => none
  | 118 => match st with | .inl a :: r => some (fd_rng a, (fd_look a (fd_a as 0) (as.drop 1)).toNat, r) | _ => none
  | _ => none
def fd_ret (rk op : Nat) (st : List fd_V) : Option (Bool × Option fd_V) := match op, st with
  | 114, [.inl a] => some (Nat.beq rk 1 || (Nat.beq rk 2 && fd_inb a 2), some (fd_I a))
  | 115, [.inr (.inl a)] => some (Nat.beq rk 3, some (fd_J a))
  | 116, [] => some (Nat.beq rk 0, none)
  | _, _ => none
def fd_cw (v : fd_V) : Nat := match v with
  | .inr (.inl _) => 2
  | _ => 1
def fd_n1 (v : fd_V) : Bool := match v with
  | .inr (.inl _) => false
  | .inr (.inr c) => Nat.blt c 1000
  | _ => true
/-- what a call asks of the stack: 120 a method of an object, 121 a static one, 122 a constructor -/
def fd_inv (ph : Bool) (op m np : Nat) (st : List fd_V) (M : fd_M) : Bool :=
  (Nat.ble np st.length && ((st.take np).all fd_n1 && Nat.ble ((st.drop np).map fd_cw).sum 8)) && (match op with
    | 120 => (match (st.take np).reverse with
      | .inr (.inr c) :: _ => fd_isO ph M c (fd_mc m)
      | _ => false)
    | 121 => true
    | _ => (match (st.take np).reverse with
      | .inr (.inr _) :: _ => true
      | _ => false))
def fd_pad (m : Nat) (args : List fd_V) : List fd_V := args ++ List.replicate (fd_mL m - args.length) (fd_R 1003)
/-- the run of a method from an instruction on: fuel, how deep it may still call -/
def fd_ex (ph : Bool) : Nat → Nat → Nat → Nat → List fd_V → List fd_V → fd_M → Option (Option fd_V × fd_M)
  | 0, _, _, _, _, _, _ => none
  | f + 1, d, m, i, ls, st, M => match (fd_code m)[i]? with
    | none => none
    | some (op, as) =>
      if op < 100 then
        match fd_nx ph op as ls st M with
        | some (true, ls', st', M') => fd_ex ph f d m (i + 1) ls' st' M'
        | _ => none
      else if op < 114 ∨ op = 118 then
        match fd_jmp op as i st with
        | some (true, j, st') => fd_ex ph f d m j ls st' M
        | _ => none
      else if op < 120 then
        match fd_ret (fd_rk m) op st with
        | some (true, r) => some (r, M)
        | _ => none
      else
        match d with
        | 0 => none
        | d' + 1 => if fd_inv ph op (fd_n as 0) (fd_n as 1) st M then
            match fd_ex ph f d' (fd_n as 0) 0 (fd_pad (fd_n as 0) (st.take (fd_n as 1)).reverse) [] M with
            | some (r, M') => fd_ex ph f (d' + 1) m (i + 1) ls (r.toList ++ st.drop (fd_n as 1)) M'
            | none => none
          else none

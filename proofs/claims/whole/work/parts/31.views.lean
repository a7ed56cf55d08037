/-! numbers and bits -/
theorem fd_andN (a b : Nat) (ha : a < 2147483648) : fd_and (a : Int) (b : Int) = ((a &&& b : Nat) : Int) := by
  unfold fd_and
  rw [fd_oi, fd_oi]
  have e : nI a &&& nI b = nI (a &&& b) := by
    apply Int32.toBitVec.inj
    show BitVec.ofNat 32 a &&& BitVec.ofNat 32 b = BitVec.ofNat 32 (a &&& b)
    apply BitVec.eq_of_toNat_eq
    simp [BitVec.toNat_and, BitVec.toNat_ofNat, Nat.and_mod_two_pow]
  rw [e]
  exact nI_toInt (Nat.lt_of_le_of_lt Nat.and_le_left ha)
theorem fd_and1 {a : Int} (h : 0 ≤ a ∧ a < 2147483648) : fd_and a 1 = a % 2 := by
  obtain ⟨n, rfl⟩ := Int.eq_ofNat_of_zero_le h.1
  rw [show (1 : Int) = ((1 : Nat) : Int) from rfl, fd_andN n 1 (by omega), Nat.and_one_is_mod]
  omega
theorem fd_and3 {a : Int} (h : 0 ≤ a ∧ a < 2147483648) : fd_and a 3 = a % 4 := by
  obtain ⟨n, rfl⟩ := Int.eq_ofNat_of_zero_le h.1
  rw [show (3 : Int) = ((3 : Nat) : Int) from rfl, fd_andN n 3 (by omega), show (3 : Nat) = 2 ^ 2 - 1 from rfl, Nat.and_two_pow_sub_one_eq_mod]
  omega
theorem fd_pow_pos (k : Nat) : (0 : Int) < 2 ^ k := by
  have := Nat.two_pow_pos k
  exact_mod_cast this
theorem fd_div_rng {a : Int} (k : Nat) (h : 0 ≤ a ∧ a < 2147483648) : 0 ≤ a / 2 ^ k ∧ a / 2 ^ k < 2147483648 := by
  refine ⟨Int.ediv_nonneg h.1 (Int.le_of_lt (fd_pow_pos k)), ?_⟩
  exact Int.lt_of_le_of_lt (Int.ediv_le_self _ h.1) h.2
theorem fd_landP (n k : Nat) (hn : n < 2 ^ 49) (hk : k < 49) : fd_lcmp (fd_land (n : Int) (2 ^ k)) 0 = 0 ↔ n / 2 ^ k % 2 = 0 := by
  have e1 : Int64.ofInt (n : Int) = lN n := Int64.ofInt_eq_ofNat
  have e2 : Int64.ofInt ((2 : Int) ^ k) = lN (2 ^ k) := by
    have : ((2 : Int) ^ k) = ((2 ^ k : Nat) : Int) := by simp
    rw [this]
    exact Int64.ofInt_eq_ofNat
  have e3 : lN n &&& lN (2 ^ k) = lN (n &&& 2 ^ k) := by
    apply Int64.toBitVec.inj
    show BitVec.ofNat 64 n &&& BitVec.ofNat 64 (2 ^ k) = BitVec.ofNat 64 (n &&& 2 ^ k)
    apply BitVec.eq_of_toNat_eq
    simp [BitVec.toNat_and, BitVec.toNat_ofNat, Nat.and_mod_two_pow]
  have hlt : n &&& 2 ^ k < 2 ^ 63 := Nat.lt_of_le_of_lt Nat.and_le_left (Nat.lt_of_lt_of_le hn (by decide))
  have e4 : Int64.ofInt (fd_land (n : Int) (2 ^ k)) = lN (n &&& 2 ^ k) := by
    unfold fd_land
    rw [Int64.ofInt_toInt, e1, e2, e3]
  unfold fd_lcmp
  rw [e4, show Int64.ofInt 0 = lN 0 from rfl]
  have key : (lg_cmp (lN (n &&& 2 ^ k)) (lN 0)).toInt = 0 ↔ n &&& 2 ^ k = 0 := by
    unfold lg_cmp
    by_cases h : n &&& 2 ^ k = 0
    · rw [h]
      simp
    · rw [if_pos (by rw [gt_iff_lt, pk_lLT (by decide) hlt]; omega)]
      simp [h]
  rw [key]
  have t : n.testBit k = true ↔ n / 2 ^ k % 2 = 1 := by
    rw [Nat.testBit_eq_decide_div_mod_eq]
    simp
  constructor
  · intro h
    have h2 : (n &&& 2 ^ k).testBit k = false := by rw [h]; simp
    rw [Nat.testBit_and, Nat.testBit_two_pow_self, Bool.and_true] at h2
    have : ¬ n.testBit k = true := by rw [h2]; decide
    rw [t] at this
    omega
  · intro h
    apply Nat.eq_of_testBit_eq
    intro i
    rw [Nat.testBit_and, Nat.zero_testBit]
    by_cases hi : k = i
    · subst hi
      have : ¬ n.testBit k = true := by rw [t]; omega
      simp [this]
    · rw [Nat.testBit_two_pow_of_ne hi, Bool.and_false]
theorem fd_land1 {a : Int} (h : 0 ≤ a ∧ a < 562949953421312) : fd_lcmp (fd_land a 1) 0 = 0 ↔ a % 2 = 0 := by
  obtain ⟨n, rfl⟩ := Int.eq_ofNat_of_zero_le h.1
  have e := fd_landP n 0 (by omega) (by omega)
  rw [Int.pow_zero, Nat.pow_zero, Nat.div_one] at e
  rw [e]
  omega
theorem fd_ldiv_rng {a : Int} (k : Nat) (h : 0 ≤ a ∧ a < 562949953421312) : 0 ≤ a / 2 ^ k ∧ a / 2 ^ k < 562949953421312 := by
  refine ⟨Int.ediv_nonneg h.1 (Int.le_of_lt (fd_pow_pos k)), ?_⟩
  exact Int.lt_of_le_of_lt (Int.ediv_le_self _ h.1) h.2
/-! the class's views of its memory -/
def fd_dr (px py : Nat → Int) (x y : Int) : Nat → Nat → Int
  | 0, _ => -1
  | n + 1, k => if px k = x ∧ py k = y then (k : Int) else fd_dr px py x y n (k + 1)
theorem fd_dr_rng (px py : Nat → Int) (x y : Int) : ∀ (n k : Nat), fd_dr px py x y n k = -1 ∨ ((k : Int) ≤ fd_dr px py x y n k ∧ fd_dr px py x y n k < k + n)
  | 0, k => Or.inl rfl
  | n + 1, k => by
    rw [fd_dr]
    split
    · right; omega
    · rcases fd_dr_rng px py x y n (k + 1) with h | h
      · exact Or.inl h
      · right; omega
def fd_SG (M : fd_M) (c : Nat) : Prop := (∀ d : Nat, 0 ≤ M (c + 1) d ∧ M (c + 1) d ≤ 6) ∧ (∀ d : Nat, 0 ≤ M (c + 2) d ∧ M (c + 2) d ≤ 6) ∧ (∀ d : Nat, 0 ≤ M (c + 3) d ∧ M (c + 3) d ≤ 3) ∧ (∀ d : Nat, 0 ≤ M (c + 4) d ∧ M (c + 4) d ≤ 9999) ∧ (0 ≤ M c 4 ∧ M c 4 < 64) ∧ (0 ≤ M c 5 ∧ M c 5 < 562949953421312) ∧ (0 ≤ M c 6 ∧ M c 6 ≤ 1) ∧ (0 ≤ M c 7 ∧ M c 7 ≤ 1)
def fd_PG (M : fd_M) : Prop := (0 ≤ M 3 0 ∧ M 3 0 ≤ 7) ∧ (0 ≤ M 3 1 ∧ M 3 1 ≤ 7) ∧ (0 ≤ M 3 2 ∧ M 3 2 ≤ 6) ∧ (1 ≤ M 3 3 ∧ M 3 3 ≤ 9) ∧ (1 ≤ M 3 4 ∧ M 3 4 ≤ 7) ∧ (∀ k : Nat, 0 ≤ M 4 k ∧ M 4 k ≤ 2)
def fd_CG (M : fd_M) : Prop := fd_PG M ∧ fd_SG M 14
def fd_has (M : fd_M) (x y : Int) : Prop := 0 ≤ x ∧ x < M 3 0 ∧ 0 ≤ y ∧ y < M 3 1
def fd_dor (M : fd_M) (x y : Int) : Int := fd_dr (M 15) (M 16) x y (M 3 2).toNat 0
def fd_crt (M : fd_M) (x y : Int) : Prop := M 14 5 / 2 ^ (y * 7 + x).toNat % 2 = 1
def fd_cvC (M : fd_M) (x y : Int) : Int := if 0 ≤ x ∧ x < M 3 0 ∧ 0 ≤ y ∧ y < M 3 1 then (if fd_dor M x y = -1 then (if M 14 5 / 2 ^ (y * 7 + x).toNat % 2 = 1 then 3 else M 4 (y * 7 + x).toNat) else 10 + fd_dor M x y) else -1
def fd_see (cv : Int → Int → Int) (lf dx dy : Int) : Nat → Int → Int → Int
  | 0, _, _ => -9
  | n + 1, x, y => if 10 ≤ cv (x + dx) (y + dy) then cv (x + dx) (y + dy) - 10 else if cv (x + dx) (y + dy) = -1 ∨ cv (x + dx) (y + dy) = 1 ∨ cv (x + dx) (y + dy) = 3 ∨ (cv (x + dx) (y + dy) = 2 ∧ lf = 1) then -9 else fd_see cv lf dx dy n (x + dx) (y + dy)
theorem fd_dor_rng {M : fd_M} (h : 0 ≤ M 3 2) (x y : Int) : fd_dor M x y = -1 ∨ (0 ≤ fd_dor M x y ∧ fd_dor M x y < M 3 2) := by
  rcases fd_dr_rng (M 15) (M 16) x y (M 3 2).toNat 0 with q | q
  · exact Or.inl q
  · right
    unfold fd_dor
    omega
theorem fd_s_placeOf (M : fd_M) (x y : Int) : fd_call 0 46 [fd_I x, fd_I y] M (some (fd_I ((y * 7) + x))) M := by
  refine fd_u_in (L := [fd_I x, fd_I y]) rfl ?_
  refine fd_u_blk 5 (C := fd_c46) (b := true) (L' := [fd_I x, fd_I y]) (st' := [fd_I ((y * 7) + x)]) (M' := M) rfl rfl (j := 5) rfl (rfl) ?_
  refine fd_u_ret (C := fd_c46) (b := true) (r' := some (fd_I ((y * 7) + x))) rfl rfl rfl (rfl) ?_ ?_
  · rfl
  · rfl

theorem fd_s_wayBack (M : fd_M) (n : Int) (hn : 0 ≤ n ∧ n ≤ 3) : fd_call 0 48 [fd_I n] M (some (fd_I ((n + 2) % 4))) M := by
  refine fd_u_in (L := [fd_I n]) rfl ?_
  refine fd_u_blk 5 (C := fd_c48) (b := true) (L' := [fd_I n]) (st' := [fd_I (fd_and (n + 2) 3)]) (M' := M) rfl rfl (j := 5) rfl (rfl) ?_
  refine fd_u_ret (C := fd_c48) (b := true) (r' := some (fd_I (fd_and (n + 2) 3))) rfl rfl rfl (rfl) ?_ ?_
  · rw [fd_and3 (by omega)]
  · rfl

theorem fd_s_flag (M : fd_M) (n : Int) (hn : 0 ≤ n ∧ n < 2) : fd_call 0 43 [fd_I n] M (some (fd_I n)) M := by
  refine fd_u_in (L := [fd_I n]) rfl ?_
  refine fd_u_blk 1 (C := fd_c43) (b := true) (L' := [fd_I n]) (st' := [fd_I n]) (M' := M) rfl rfl (j := 1) rfl (rfl) ?_
  refine fd_u_br (C := fd_c43) (t := 4) (e := 2) (st' := []) (c := n = 0) (b := (fd_rng n)) rfl rfl rfl (fd_bR (by omega) (by omega)) (fun h1 => ?_) (fun h1 => ?_)
  · refine fd_u_blk 1 (C := fd_c43) (b := true) (L' := [fd_I n]) (st' := [fd_I 0]) (M' := M) rfl rfl (j := 5) rfl (rfl) ?_
    refine fd_u_ret (C := fd_c43) (b := true) (r' := some (fd_I 0)) rfl rfl rfl (rfl) ?_ ?_
    · rw [show n = 0 by omega]
    · rfl
  · refine fd_u_blk 1 (C := fd_c43) (b := true) (L' := [fd_I n]) (st' := [fd_I 1]) (M' := M) rfl rfl (j := 3) rfl (rfl) ?_
    refine fd_u_jmp (C := fd_c43) (j := 5) (st' := [fd_I 1]) rfl rfl (b := true) rfl rfl ?_
    refine fd_u_ret (C := fd_c43) (b := true) (r' := some (fd_I 1)) rfl rfl rfl (rfl) ?_ ?_
    · rw [show n = 1 by omega]
    · rfl

theorem fd_s_bitOf (M : fd_M) (d : Int) (hd : -1 ≤ d ∧ d < 31) : fd_call 0 45 [fd_I d] M (some (fd_I (if d = -1 then 0 else 2 ^ d.toNat))) M := by
  refine fd_u_in (L := [fd_I d]) rfl ?_
  refine fd_u_blk 2 (C := fd_c45) (b := true) (L' := [fd_I d]) (st' := [fd_I (-1), fd_I d]) (M' := M) rfl rfl (j := 2) rfl (rfl) ?_
  refine fd_u_br (C := fd_c45) (t := 5) (e := 3) (st' := []) (c := ¬ d = (-1)) (b := (fd_rng d && fd_rng (-1))) rfl rfl rfl (fd_bA (fd_bR (by omega) (by omega)) (fd_bR (by omega) (by omega))) (fun h2 => ?_) (fun h2 => ?_)
  · refine fd_u_blk 3 (C := fd_c45) (b := (fd_inb d 32 && true)) (L' := [fd_I d]) (st' := [fd_I (2 ^ (d).toNat)]) (M' := M) rfl rfl (j := 8) rfl (fd_bA (fd_bI (by omega) (by omega)) (rfl)) ?_
    refine fd_u_ret (C := fd_c45) (b := true) (r' := some (fd_I (2 ^ (d).toNat))) rfl rfl rfl (rfl) ?_ ?_
    · rw [if_neg (by omega)]
    · rfl
  · refine fd_u_blk 1 (C := fd_c45) (b := true) (L' := [fd_I d]) (st' := [fd_I 0]) (M' := M) rfl rfl (j := 4) rfl (rfl) ?_
    refine fd_u_jmp (C := fd_c45) (j := 8) (st' := [fd_I 0]) rfl rfl (b := true) rfl rfl ?_
    refine fd_u_ret (C := fd_c45) (b := true) (r' := some (fd_I 0)) rfl rfl rfl (rfl) ?_ ?_
    · rw [if_pos (by omega)]
    · rfl

theorem fd_s_hasBit (M : fd_M) (n d : Int) (hn : 0 ≤ n ∧ n < 2147483648) (hd : 0 ≤ d ∧ d < 31) : fd_call 0 44 [fd_I n, fd_I d] M (some (fd_I (fd_bi (n / 2 ^ d.toNat % 2 = 1)))) M := by
  refine fd_u_in (L := [fd_I n, fd_I d]) rfl ?_
  have e1 := fd_and1 (fd_div_rng d.toNat hn)
  refine fd_u_blk 5 (C := fd_c44) (b := ((fd_inb n 2147483648 && fd_inb d 32) && true)) (L' := [fd_I n, fd_I d]) (st' := [fd_I (fd_and (n / 2 ^ (d).toNat) 1)]) (M' := M) rfl rfl (j := 5) rfl (fd_bA (fd_bA (fd_bI (by omega) (by omega)) (fd_bI (by omega) (by omega))) (rfl)) ?_
  refine fd_u_br (C := fd_c44) (t := 8) (e := 6) (st' := []) (c := (fd_and (n / 2 ^ (d).toNat) 1) = 0) (b := (fd_rng (fd_and (n / 2 ^ (d).toNat) 1))) rfl rfl rfl (fd_bR (by omega) (by omega)) (fun h5 => ?_) (fun h5 => ?_)
  · refine fd_u_blk 1 (C := fd_c44) (b := true) (L' := [fd_I n, fd_I d]) (st' := [fd_I 0]) (M' := M) rfl rfl (j := 9) rfl (rfl) ?_
    refine fd_u_ret (C := fd_c44) (b := true) (r' := some (fd_I 0)) rfl rfl rfl (rfl) ?_ ?_
    · exact fd_ok0 (by omega)
    · rfl
  · refine fd_u_blk 1 (C := fd_c44) (b := true) (L' := [fd_I n, fd_I d]) (st' := [fd_I 1]) (M' := M) rfl rfl (j := 7) rfl (rfl) ?_
    refine fd_u_jmp (C := fd_c44) (j := 9) (st' := [fd_I 1]) rfl rfl (b := true) rfl rfl ?_
    refine fd_u_ret (C := fd_c44) (b := true) (r' := some (fd_I 1)) rfl rfl rfl (rfl) ?_ ?_
    · exact fd_ok1 (by omega)
    · rfl

theorem fd_s_hasDoor (M : fd_M) (d : Int) (hd : -2147483648 ≤ d ∧ d < 2147483648) (h2 : 0 ≤ M 3 2 ∧ M 3 2 ≤ 6) : fd_call 0 124 [fd_R 3, fd_I d] M (some (fd_I (fd_bi (0 ≤ d ∧ d < M 3 2)))) M := by
  refine fd_u_in (L := [fd_R 3, fd_I d]) rfl ?_
  refine fd_u_blk 1 (C := fd_c124) (b := true) (L' := [fd_R 3, fd_I d]) (st' := [fd_I d]) (M' := M) rfl rfl (j := 1) rfl (rfl) ?_
  refine fd_u_br (C := fd_c124) (t := 8) (e := 2) (st' := []) (c := d < 0) (b := (fd_rng d)) rfl rfl rfl (fd_bR (by omega) (by omega)) (fun h1 => ?_) (fun h1 => ?_)
  · refine fd_u_blk 1 (C := fd_c124) (b := true) (L' := [fd_R 3, fd_I d]) (st' := [fd_I 0]) (M' := M) rfl rfl (j := 9) rfl (rfl) ?_
    refine fd_u_ret (C := fd_c124) (b := true) (r' := some (fd_I 0)) rfl rfl rfl (rfl) ?_ ?_
    · exact fd_ok0 (by omega)
    · rfl
  · refine fd_u_blk 3 (C := fd_c124) (b := true) (L' := [fd_R 3, fd_I d]) (st' := [fd_I (M 3 2), fd_I d]) (M' := M) rfl rfl (j := 5) rfl (rfl) ?_
    refine fd_u_br (C := fd_c124) (t := 8) (e := 6) (st' := []) (c := (M 3 2) ≤ d) (b := (fd_rng d && fd_rng (M 3 2))) rfl rfl rfl (fd_bA (fd_bR (by omega) (by omega)) (fd_bR (by omega) (by omega))) (fun h5 => ?_) (fun h5 => ?_)
    · refine fd_u_blk 1 (C := fd_c124) (b := true) (L' := [fd_R 3, fd_I d]) (st' := [fd_I 0]) (M' := M) rfl rfl (j := 9) rfl (rfl) ?_
      refine fd_u_ret (C := fd_c124) (b := true) (r' := some (fd_I 0)) rfl rfl rfl (rfl) ?_ ?_
      · exact fd_ok0 (by omega)
      · rfl
    · refine fd_u_blk 1 (C := fd_c124) (b := true) (L' := [fd_R 3, fd_I d]) (st' := [fd_I 1]) (M' := M) rfl rfl (j := 7) rfl (rfl) ?_
      refine fd_u_jmp (C := fd_c124) (j := 9) (st' := [fd_I 1]) rfl rfl (b := true) rfl rfl ?_
      refine fd_u_ret (C := fd_c124) (b := true) (r' := some (fd_I 1)) rfl rfl rfl (rfl) ?_ ?_
      · exact fd_ok1 (by omega)
      · rfl

theorem fd_s_groundAt (M : fd_M) (hG : fd_PG M) (x y : Int) (hx : -2147483648 ≤ x ∧ x < 2147483648) (hy : -2147483648 ≤ y ∧ y < 2147483648) : fd_call 1 125 [fd_R 3, fd_I x, fd_I y] M (some (fd_I (if 0 ≤ x ∧ x < M 3 0 ∧ 0 ≤ y ∧ y < M 3 1 then M 4 (y * 7 + x).toNat else 1))) M := by
  refine fd_u_in (L := [fd_R 3, fd_I x, fd_I y]) rfl ?_
  have g0 := hG.1
  have g1 := hG.2.1
  refine fd_u_blk 3 (C := fd_c125) (b := true) (L' := [fd_R 3, fd_I x, fd_I y]) (st' := [fd_I y, fd_I x, fd_R 3]) (M' := M) rfl rfl (j := 3) rfl (rfl) ?_
  refine fd_u_call (C := fd_c125) (d0 := 0) (mid := 123) (np := 3) (args := [fd_R 3, fd_I x, fd_I y]) (r1 := some (fd_I (fd_bi (0 ≤ x ∧ x < M 3 0 ∧ 0 ≤ y ∧ y < M 3 1)))) (M1 := M) (st' := [fd_I (fd_bi (0 ≤ x ∧ x < M 3 0 ∧ 0 ≤ y ∧ y < M 3 1))]) rfl rfl rfl rfl rfl rfl (rfl) (fd_s_hasCell M x y (by omega) (by omega) (by omega) (by omega)) rfl (by omega) ?_
  refine fd_u_br (C := fd_c125) (t := 12) (e := 5) (st' := []) (c := (fd_bi (0 ≤ x ∧ x < M 3 0 ∧ 0 ≤ y ∧ y < M 3 1)) = 0) (b := (fd_rng (fd_bi (0 ≤ x ∧ x < M 3 0 ∧ 0 ≤ y ∧ y < M 3 1)))) rfl rfl rfl (fd_biR) (fun h4 => ?_) (fun h4 => ?_)
  · have h4 := fd_biF.mp h4
    refine fd_u_blk 1 (C := fd_c125) (b := true) (L' := [fd_R 3, fd_I x, fd_I y]) (st' := [fd_I 1]) (M' := M) rfl rfl (j := 13) rfl (rfl) ?_
    refine fd_u_ret (C := fd_c125) (b := true) (r' := some (fd_I 1)) rfl rfl rfl (rfl) ?_ ?_
    · rw [if_neg (by omega)]
    · rfl
  · have h4 := fd_biT.mp h4
    refine fd_u_blk 4 (C := fd_c125) (b := true) (L' := [fd_R 3, fd_I x, fd_I y]) (st' := [fd_I y, fd_I x, fd_R 4]) (M' := M) rfl rfl (j := 9) rfl (rfl) ?_
    refine fd_u_call (C := fd_c125) (d0 := 0) (mid := 46) (np := 2) (args := [fd_I x, fd_I y]) (r1 := some (fd_I ((y * 7) + x))) (M1 := M) (st' := [fd_I ((y * 7) + x), fd_R 4]) rfl rfl rfl rfl rfl rfl (rfl) (fd_s_placeOf M x y) rfl (by omega) ?_
    refine fd_u_blk 1 (C := fd_c125) (b := (fd_inb ((y * 7) + x) 49 && true)) (L' := [fd_R 3, fd_I x, fd_I y]) (st' := [fd_I (M 4 ((y * 7) + x).toNat)]) (M' := M) rfl rfl (j := 11) rfl (fd_bA (fd_bI (by omega) (by omega)) (rfl)) ?_
    refine fd_u_jmp (C := fd_c125) (j := 13) (st' := [fd_I (M 4 ((y * 7) + x).toNat)]) rfl rfl (b := true) rfl rfl ?_
    refine fd_u_ret (C := fd_c125) (b := true) (r' := some (fd_I (M 4 ((y * 7) + x).toNat))) rfl rfl rfl (rfl) ?_ ?_
    · rw [if_pos (by omega)]
    · rfl

theorem fd_s_isOpen (M : fd_M) (hG : fd_CG M) (d : Int) (hd : 0 ≤ d ∧ d < 6) : fd_call 1 144 [fd_R 14, fd_I d] M (some (fd_I (fd_bi (M 14 4 / 2 ^ d.toNat % 2 = 1)))) M := by
  refine fd_u_in (L := [fd_R 14, fd_I d]) rfl ?_
  obtain ⟨s1, s2, s3, s4, s5, s6, s7, s8⟩ := hG.2
  refine fd_u_blk 3 (C := fd_c144) (b := true) (L' := [fd_R 14, fd_I d]) (st' := [fd_I d, fd_I (M 14 4)]) (M' := M) rfl rfl (j := 3) rfl (rfl) ?_
  refine fd_u_call (C := fd_c144) (d0 := 0) (mid := 44) (np := 2) (args := [fd_I (M 14 4), fd_I d]) (r1 := some (fd_I (fd_bi ((M 14 4) / 2 ^ (d).toNat % 2 = 1)))) (M1 := M) (st' := [fd_I (fd_bi ((M 14 4) / 2 ^ (d).toNat % 2 = 1))]) rfl rfl rfl rfl rfl rfl (rfl) (fd_s_hasBit M (M 14 4) d (by omega) (by omega)) rfl (by omega) ?_
  refine fd_u_ret (C := fd_c144) (b := (fd_inb (fd_bi ((M 14 4) / 2 ^ (d).toNat % 2 = 1)) 2)) (r' := some (fd_I (fd_bi ((M 14 4) / 2 ^ (d).toNat % 2 = 1)))) rfl rfl rfl (fd_biI) ?_ ?_
  · rfl
  · rfl

theorem fd_s_hasCart (M : fd_M) (hG : fd_CG M) (x y : Int) (hx : 0 ≤ x ∧ x ≤ 6) (hy : 0 ≤ y ∧ y ≤ 6) : fd_call 2 145 [fd_R 14, fd_I x, fd_I y] M (some (fd_I (fd_bi (M 14 5 / 2 ^ (y * 7 + x).toNat % 2 = 1)))) M := by
  refine fd_u_in (L := [fd_R 14, fd_I x, fd_I y]) rfl ?_
  obtain ⟨s1, s2, s3, s4, s5, s6, s7, s8⟩ := hG.2
  have e1 := fd_land1 (fd_ldiv_rng (y * 7 + x).toNat s6)
  have e3 : -2147483648 ≤ fd_lcmp (fd_land (M 14 5 / 2 ^ (y * 7 + x).toNat) 1) 0 ∧ fd_lcmp (fd_land (M 14 5 / 2 ^ (y * 7 + x).toNat) 1) 0 < 2147483648 := fd_xrng _
  refine fd_u_blk 4 (C := fd_c145) (b := true) (L' := [fd_R 14, fd_I x, fd_I y]) (st' := [fd_I y, fd_I x, fd_J (M 14 5)]) (M' := M) rfl rfl (j := 4) rfl (rfl) ?_
  refine fd_u_call (C := fd_c145) (d0 := 0) (mid := 46) (np := 2) (args := [fd_I x, fd_I y]) (r1 := some (fd_I ((y * 7) + x))) (M1 := M) (st' := [fd_I ((y * 7) + x), fd_J (M 14 5)]) rfl rfl rfl rfl rfl rfl (rfl) (fd_s_placeOf M x y) rfl (by omega) ?_
  refine fd_u_blk 5 (C := fd_c145) (b := ((fd_inb (M 14 5) 9223372036854775808 && fd_inb ((y * 7) + x) 64) && true)) (L' := [fd_R 14, fd_I x, fd_I y]) (st' := [fd_I (fd_lcmp (fd_land ((M 14 5) / 2 ^ ((y * 7) + x).toNat) 1) 0)]) (M' := M) rfl rfl (j := 10) rfl (fd_bA (fd_bA (fd_bI (by omega) (by omega)) (fd_bI (by omega) (by omega))) (rfl)) ?_
  refine fd_u_br (C := fd_c145) (t := 13) (e := 11) (st' := []) (c := (fd_lcmp (fd_land ((M 14 5) / 2 ^ ((y * 7) + x).toNat) 1) 0) = 0) (b := (fd_rng (fd_lcmp (fd_land ((M 14 5) / 2 ^ ((y * 7) + x).toNat) 1) 0))) rfl rfl rfl (fd_bR (by omega) (by omega)) (fun h10 => ?_) (fun h10 => ?_)
  · refine fd_u_blk 1 (C := fd_c145) (b := true) (L' := [fd_R 14, fd_I x, fd_I y]) (st' := [fd_I 0]) (M' := M) rfl rfl (j := 14) rfl (rfl) ?_
    refine fd_u_ret (C := fd_c145) (b := true) (r' := some (fd_I 0)) rfl rfl rfl (rfl) ?_ ?_
    · exact fd_ok0 (by omega)
    · rfl
  · refine fd_u_blk 1 (C := fd_c145) (b := true) (L' := [fd_R 14, fd_I x, fd_I y]) (st' := [fd_I 1]) (M' := M) rfl rfl (j := 12) rfl (rfl) ?_
    refine fd_u_jmp (C := fd_c145) (j := 14) (st' := [fd_I 1]) rfl rfl (b := true) rfl rfl ?_
    refine fd_u_ret (C := fd_c145) (b := true) (r' := some (fd_I 1)) rfl rfl rfl (rfl) ?_ ?_
    · exact fd_ok1 (by omega)
    · rfl


/-! who stood open, odds, mean -/
theorem fd_Rel_tmp {M N : fd_M} (h : fd_Rel M) (hc : ∀ c, ¬ (73 ≤ c ∧ c ≤ 75) → c ≠ 77 → c ≠ 81 → c ≠ 82 → c ≠ 76 → N c = M c) (h76 : ∀ k : Nat, 0 ≤ N 76 k ∧ N 76 k ≤ 3) : fd_Rel N :=
  fd_Rel_of h (fun c hc2 => hc c (fun z => hc2 (by unfold fd_tmp; omega)) (fun z => hc2 (by unfold fd_tmp; omega)) (fun z => hc2 (by unfold fd_tmp; omega)) (fun z => hc2 (by unfold fd_tmp; omega)) (fun z => hc2 (by unfold fd_tmp; omega))) (fun k _ _ => by rw [hc 199 (by omega) (by omega) (by omega) (by omega) (by omega)]) h76
theorem fd_Rel_lud {M : fd_M} (h : fd_Rel M) (k : Nat) : fd_Rel (fd_lud M k) := fd_Rel_tmp h (fun c _ _ h3 _ _ => fd_lud_fr h3) (by rw [fd_lud_fr (by decide)]; exact h.1.2.2.2.2.2.2.2.2.2.1)
theorem fd_dio_lud (M : fd_M) (k : Nat) : fd_dio (fd_lud M k) = fd_dio M := fd_dio_of (fd_lud_fr (by decide)) (fd_lud_fr (by decide)) (fd_lud_fr (by decide)) (fd_lud_fr (by decide)) (fd_lud_fr (by decide)) (fd_lud_fr (by decide))
theorem fd_Rel_dS {M : fd_M} (h : fd_Rel M) (s : Int) {d : Nat} (hd : (d : Int) < M 3 2) : fd_dS (fd_tak M) s d = if s / 2 ^ d % 2 = 1 then fd_dio M d else 0 := by
  have sm : fd_smR M (fd_up (fd_tak M) 199 19 s) := fd_smR_tr (fd_smR_tak M) (fd_smR_o _ _)
  have e210 : fd_up (fd_tak M) 199 19 s 210 = fd_tak M 210 := fd_up_ne (by decide)
  have e20 : fd_up (fd_tak M) 199 19 s 199 20 = M 14 7 := (fd_Rel_to h).2
  have e19 : fd_up (fd_tak M) 199 19 s 199 19 = s := by rw [fd_up_at, if_pos rfl]
  have e7 : fd_up (fd_tak M) 199 19 s 207 0 = M 3 3 := by
    rw [fd_up_ne (by decide), fd_tak_fr (by decide) (by decide)]
    exact h.2.2.2.1.2.2.2.1
  unfold fd_dS fd_dR fd_sR
  rw [e7, e20, e19, e210, fd_wR_sm sm, fd_Rel_w h hd, fd_Rel_tw h hd]
  unfold fd_dio
  have r := fd_wsee_rng (fd_Rel_CG h) d (M 17 d)
  by_cases b : s / 2 ^ d % 2 = 1
  · rw [if_pos b]
    by_cases f : M 14 7 = 1
    · rw [if_pos (Or.inl f), if_pos f]
      exact fd_due_c (fd_Rel_tw h hd) (fun z => absurd rfl z)
    · rw [if_neg (by simp [f, b]), if_neg f]
      exact fd_due_c (fd_Rel_tw h hd) (fun z => fd_Rel_tw h (by omega))
  · rw [if_neg b, if_pos (Or.inr b)]
    unfold fd_due
    rw [if_pos rfl]
theorem fd_o_open : fd_op fd_Rel 20 102 1 := fd_op1 fun M h w hw => by
  have t := h.2.2.1
  have a := fd_x_open M (fd_Rel_CG h) t.1 w hw
  have h1 : fd_Rel (fd_Y_open M w) := by
    unfold fd_Y_open
    split
    · exact h
    · exact fd_Rel_lud h _
  have p2 := h1.2.2.2.1.2.2.1
  have t1 := h1.2.2.1
  have y : ∀ c, c ≠ 81 → fd_Y_open M w c = M c := fun c hc => by
    unfold fd_Y_open
    split
    · rfl
    · exact fd_lud_fr hc
  have tf : ∀ c, c ≠ 210 → c ≠ 199 → fd_tak (fd_Y_open M w) c = fd_Y_open M w c := fun c h1 h2 => fd_tak_fr h1 h2
  have t23 : fd_tak (fd_Y_open M w) 199 23 = M 78 2 := by
    rw [(fd_smR_tak _).2 23 (by decide) (by decide), t1.2.1, y 78 (by decide)]
  have t211 : fd_tak (fd_Y_open M w) 211 = M 79 := by rw [tf 211 (by decide) (by decide), t1.2.2.1, y 79 (by decide)]
  have t212 : fd_tak (fd_Y_open M w) 212 = M 80 := by rw [tf 212 (by decide) (by decide), t1.2.2.2.1, y 80 (by decide)]
  have t204 : fd_tak (fd_Y_open M w) 204 0 = M 3 2 := by rw [tf 204 (by decide) (by decide), p2, y 3 (by decide)]
  have hTG : fd_TGR (fd_tak (fd_Y_open M w)) := by
    unfold fd_TGR
    rw [t23, t211, t212, t204]
    exact t.1
  obtain ⟨r, R, c, e1, e2⟩ := fd_r_open (fd_Y_open M w) (fd_Rel_RP h1) (fd_Rel_RS h1) hTG w hw
  have p4 : fd_Y_open M w 204 0 = M 3 2 := by rw [p2, y 3 (by decide)]
  have dq : fd_dio (fd_Y_open M w) = fd_dio M := fd_dio_of (y 3 (by decide)) (y 4 (by decide)) (y 14 (by decide)) (y 15 (by decide)) (y 16 (by decide)) (y 17 (by decide))
  have eQ : fd_oR (fd_tak (fd_Y_open M w)) = fd_oQ M := by
    funext s
    unfold fd_oR fd_oQ
    rw [t23]
    apply fd_all_congr
    intro i hi
    have q := (t.1.2 i (by omega)).1
    unfold fd_oP
    rw [t211, t212, fd_Rel_dS h1 (s : Int) (d := (M 79 i).toNat) (by rw [y 3 (by decide)]; omega), dq]
  have eA : fd_A_open (fd_Y_open M w) w = fd_X_open M w := by
    unfold fd_A_open fd_X_open
    rw [eQ, p4]
    by_cases hc : 0 ≤ w ∧ w ≤ 2
    · rw [if_neg (not_not_intro hc), if_neg (not_not_intro hc)]
      by_cases w0 : w = 0
      · rw [if_pos w0, if_pos w0]
      · rw [if_neg w0, if_neg w0]
        by_cases w1 : w = 1
        · rw [if_pos w1]
          by_cases z : fd_cnt (fd_oQ M) (2 ^ (M 3 2).toNat) = 0
          · rw [if_pos z]; exact (fd_fst_cnt _ _).mpr z
          · rw [if_neg z, if_pos w1]
        · rw [if_neg w1]
          by_cases z : fd_cnt (fd_oQ M) (2 ^ (M 3 2).toNat) = 0
          · rw [if_pos z, if_pos z]
          · rw [if_neg z, if_neg z, if_neg w1]
    · rw [if_pos hc, if_pos hc]
  rw [eA] at e1
  subst e1
  exact ⟨_, _, R, fd_callD a (by decide), fd_callD c (by decide), fd_Rel_sm h1 e2⟩
/-! the mean over all sets -/
theorem fd_sum_add (g : Nat → Int) (a : Nat) : ∀ b : Nat, fd_sum g (a + b) = fd_sum g a + fd_sum (fun k => g (a + k)) b
  | 0 => by
    show fd_sum g a = fd_sum g a + 0
    omega
  | b + 1 => by
    show fd_sum g (a + b) + g (a + b) = fd_sum g a + (fd_sum (fun k => g (a + k)) b + g (a + b))
    rw [fd_sum_add g a b]
    omega
theorem fd_sum_mul (c : Int) (g : Nat → Int) : ∀ n : Nat, fd_sum (fun k => c * g k) n = c * fd_sum g n
  | 0 => by
    show (0 : Int) = c * 0
    omega
  | n + 1 => by
    show fd_sum (fun k => c * g k) n + c * g n = c * (fd_sum g n + g n)
    rw [fd_sum_mul c g n, Int.mul_add]
theorem fd_sum_plus (f g : Nat → Int) : ∀ n : Nat, fd_sum (fun k => f k + g k) n = fd_sum f n + fd_sum g n
  | 0 => rfl
  | n + 1 => by
    show fd_sum (fun k => f k + g k) n + (f n + g n) = fd_sum f n + f n + (fd_sum g n + g n)
    rw [fd_sum_plus f g n]
    omega
theorem fd_prod_congr {f g : Nat → Int} : ∀ n : Nat, (∀ j, j < n → f j = g j) → fd_prod f n = fd_prod g n
  | 0, _ => rfl
  | n + 1, h => by
    show fd_prod f n * f n = fd_prod g n * g n
    rw [fd_prod_congr n (fun j hj => h j (by omega)), h n (by omega)]
theorem fd_ib (s d : Nat) : (s : Int) / 2 ^ d % 2 = ((s.testBit d).toNat : Int) := by
  rw [fd_pw, ← fd_tb]
  omega
theorem fd_hb1 {n s d : Nat} (hs : s < 2 ^ n) (hd : d < n) : ((2 ^ n + s : Nat) : Int) / 2 ^ d % 2 = (s : Int) / 2 ^ d % 2 := by
  rw [fd_ib, fd_ib, show 2 ^ n + s = 2 ^ n * 1 + s by omega, Nat.testBit_two_pow_mul_add 1 hs, if_pos hd]
theorem fd_hb2 {n s : Nat} (hs : s < 2 ^ n) : ((2 ^ n + s : Nat) : Int) / 2 ^ n % 2 = 1 := by
  rw [fd_ib, show 2 ^ n + s = 2 ^ n * 1 + s by omega, Nat.testBit_two_pow_mul_add 1 hs, if_neg (by omega), Nat.sub_self]
  rfl
theorem fd_hb0 {n s : Nat} (hs : s < 2 ^ n) : (s : Int) / 2 ^ n % 2 = 0 := by
  rw [fd_pw]
  have : s / 2 ^ n = 0 := Nat.div_eq_of_lt hs
  have e : (s : Int) / ((2 ^ n : Nat) : Int) = ((s / 2 ^ n : Nat) : Int) := rfl
  rw [e, this]
  rfl
theorem fd_wt_lo {n s : Nat} (x : Int) (hs : s < 2 ^ n) : fd_wt (s : Int) x (n + 1) = fd_wt (s : Int) x n * (10 - x) := by
  show fd_prod _ n * (if (s : Int) / 2 ^ n % 2 = 1 then x else 10 - x) = _
  rw [fd_hb0 hs, if_neg (by decide)]
  rfl
theorem fd_wt_hi {n s : Nat} (x : Int) (hs : s < 2 ^ n) : fd_wt ((2 ^ n + s : Nat) : Int) x (n + 1) = fd_wt (s : Int) x n * x := by
  show fd_prod _ n * (if ((2 ^ n + s : Nat) : Int) / 2 ^ n % 2 = 1 then x else 10 - x) = _
  rw [fd_hb2 hs, if_pos rfl]
  congr 1
  exact fd_prod_congr n (fun j hj => by rw [fd_hb1 hs hj])
theorem fd_ds_lo {n s : Nat} (f : Nat → Int) (hs : s < 2 ^ n) : fd_ds f (s : Int) (n + 1) = fd_ds f (s : Int) n := by
  show fd_sum _ n + (if (s : Int) / 2 ^ n % 2 = 1 then f n else 0) = _
  rw [fd_hb0 hs, if_neg (by decide), Int.add_zero]
  rfl
theorem fd_ds_hi {n s : Nat} (f : Nat → Int) (hs : s < 2 ^ n) : fd_ds f ((2 ^ n + s : Nat) : Int) (n + 1) = fd_ds f (s : Int) n + f n := by
  show fd_sum _ n + (if ((2 ^ n + s : Nat) : Int) / 2 ^ n % 2 = 1 then f n else 0) = _
  rw [fd_hb2 hs, if_pos rfl]
  congr 1
  exact fd_sum_congr n (fun j hj => by rw [fd_hb1 hs hj])
theorem fd_W (x : Int) : ∀ n : Nat, fd_sum (fun s => fd_wt (s : Int) x n) (2 ^ n) = 10 ^ n
  | 0 => rfl
  | n + 1 => by
    have ih := fd_W x n
    rw [show 2 ^ (n + 1) = 2 ^ n + 2 ^ n by rw [Nat.pow_succ]; omega, fd_sum_add]
    have a : fd_sum (fun s => fd_wt (s : Int) x (n + 1)) (2 ^ n) = (10 - x) * fd_sum (fun s => fd_wt (s : Int) x n) (2 ^ n) := by
      rw [← fd_sum_mul]
      exact fd_sum_congr _ (fun s hs => by rw [fd_wt_lo x hs, Int.mul_comm])
    have b : fd_sum (fun k => fd_wt ((2 ^ n + k : Nat) : Int) x (n + 1)) (2 ^ n) = x * fd_sum (fun s => fd_wt (s : Int) x n) (2 ^ n) := by
      rw [← fd_sum_mul]
      exact fd_sum_congr _ (fun s hs => by rw [fd_wt_hi x hs, Int.mul_comm])
    rw [a, b, ih, ← Int.add_mul, show 10 - x + x = 10 by omega, Int.pow_succ, Int.mul_comm]
theorem fd_E (x : Int) (f : Nat → Int) : ∀ n : Nat, 10 * fd_sum (fun s => fd_wt (s : Int) x n * fd_ds f (s : Int) n) (2 ^ n) = x * 10 ^ n * fd_sum f n
  | 0 => by
    show 10 * (0 + fd_wt ((0 : Nat) : Int) x 0 * 0) = x * 1 * 0
    simp
  | n + 1 => by
    have ih := fd_E x f n
    have w := fd_W x n
    rw [show 2 ^ (n + 1) = 2 ^ n + 2 ^ n by rw [Nat.pow_succ]; omega, fd_sum_add]
    have a : fd_sum (fun s => fd_wt (s : Int) x (n + 1) * fd_ds f (s : Int) (n + 1)) (2 ^ n) = (10 - x) * fd_sum (fun s => fd_wt (s : Int) x n * fd_ds f (s : Int) n) (2 ^ n) := by
      rw [← fd_sum_mul]
      exact fd_sum_congr _ (fun s hs => by rw [fd_wt_lo x hs, fd_ds_lo f hs, Int.mul_comm (fd_wt _ _ _) (10 - x), Int.mul_assoc])
    have b : fd_sum (fun k => fd_wt ((2 ^ n + k : Nat) : Int) x (n + 1) * fd_ds f ((2 ^ n + k : Nat) : Int) (n + 1)) (2 ^ n) = x * fd_sum (fun s => fd_wt (s : Int) x n * fd_ds f (s : Int) n) (2 ^ n) + x * f n * fd_sum (fun s => fd_wt (s : Int) x n) (2 ^ n) := by
      rw [← fd_sum_mul, ← fd_sum_mul, ← fd_sum_plus]
      refine fd_sum_congr _ (fun s hs => ?_)
      rw [fd_wt_hi x hs, fd_ds_hi f hs, Int.mul_add, Int.mul_comm (fd_wt _ _ _) x, Int.mul_assoc, Int.mul_assoc, Int.mul_assoc]
      congr 2
      rw [Int.mul_comm]
    show 10 * (fd_sum (fun s => fd_wt (s : Int) x (n + 1) * fd_ds f (s : Int) (n + 1)) (2 ^ n) + fd_sum (fun k => fd_wt ((2 ^ n + k : Nat) : Int) x (n + 1) * fd_ds f ((2 ^ n + k : Nat) : Int) (n + 1)) (2 ^ n)) = x * 10 ^ (n + 1) * (fd_sum f n + f n)
    rw [a, b, w]
    generalize fd_sum (fun s => fd_wt (s : Int) x n * fd_ds f (s : Int) n) (2 ^ n) = E at *
    generalize fd_sum f n = S at *
    generalize f n = g at *
    rw [Int.pow_succ]
    generalize (10 : Int) ^ n = t at *
    have e1 : (10 - x) * E + (x * E + x * g * t) = 10 * E + x * g * t := by
      rw [Int.sub_mul]
      omega
    rw [e1, ih, Int.mul_add]
    have e2 : x * t * S + x * g * t = x * t * (S + g) := by
      rw [Int.mul_add]
      congr 1
      rw [Int.mul_assoc, Int.mul_comm g t, Int.mul_assoc]
    have e3 : 10 * (x * t * S) + 10 * (x * g * t) = 10 * (x * t * (S + g)) := by rw [← e2, Int.mul_add]
    rw [e3, ← Int.mul_assoc x t 10, Int.mul_comm (x * t) 10, Int.mul_assoc 10 (x * t)]
theorem fd_part_sc {k l t : Int} (hk : 0 ≤ k) (hl : 0 < l) (ht : 0 < t) (w : Int) : fd_part (k * t) (l * t) w = fd_part k l w := by
  obtain ⟨k, rfl⟩ := Int.eq_ofNat_of_zero_le hk
  obtain ⟨l, rfl⟩ := Int.eq_ofNat_of_zero_le (Int.le_of_lt hl)
  obtain ⟨t, rfl⟩ := Int.eq_ofNat_of_zero_le (Int.le_of_lt ht)
  unfold fd_part
  have e1 : ((k : Int) * (t : Int)).toNat = k * t := by rw [← Int.natCast_mul]; rfl
  have e2 : ((l : Int) * (t : Int)).toNat = l * t := by rw [← Int.natCast_mul]; rfl
  rw [e1, e2, Nat.gcd_mul_right, Int.natCast_mul]
  have e3 : (if w = 0 then (k : Int) * (t : Int) else (l : Int) * (t : Int)) = (if w = 0 then (k : Int) else (l : Int)) * (t : Int) := by
    split <;> rfl
  rw [e3, Int.mul_ediv_mul_of_pos_left _ _ ht]
  rfl
theorem fd_ds_all (f : Nat → Int) (n : Nat) : fd_ds f (2 ^ n - 1) n = fd_sum f n := by
  refine fd_sum_congr n (fun j hj => ?_)
  have e : (2 : Int) ^ n - 1 = ((2 ^ n - 1 : Nat) : Int) := by
    have := Nat.two_pow_pos n
    rw [fd_pw]
    omega
  rw [e, fd_ib, Nat.testBit_two_pow_sub_one]
  simp [hj]
/-- the reference's sums, by the class's views -/
theorem fd_Rel_DS {M : fd_M} (h : fd_Rel M) (s : Int) : fd_DS (fd_tak M) s = fd_ds (fd_dio M) s (M 3 2).toNat := by
  unfold fd_DS fd_ds
  have e : fd_tak M 204 0 = M 3 2 := by rw [fd_tak_fr (by decide) (by decide)]; exact h.2.2.2.1.2.2.1
  rw [e]
  exact fd_sum_congr _ (fun j hj => fd_Rel_dS h s (by omega))
theorem fd_Rel_sumN {M : fd_M} (h : fd_Rel M) (x l : Int) (hl : l < 0) : fd_sumR2 M x l = fd_sum (fun s => fd_wt (s : Int) x (M 3 2).toNat * fd_ds (fd_dio M) (s : Int) (M 3 2).toNat) (2 ^ (M 3 2).toNat) := by
  have e : fd_tak M 204 0 = M 3 2 := by rw [fd_tak_fr (by decide) (by decide)]; exact h.2.2.2.1.2.2.1
  unfold fd_sumR2
  rw [h.2.2.2.1.2.2.1]
  refine fd_sum_congr _ (fun s hs => ?_)
  unfold fd_sT
  rw [if_pos hl, e, fd_Rel_DS h]
theorem fd_Rel_sumP {M : fd_M} (h : fd_Rel M) (x l : Int) (hl : ¬ l < 0) : fd_sumR2 M x l = fd_ups M x l (2 ^ (M 3 2).toNat) := by
  have e : fd_tak M 204 0 = M 3 2 := by rw [fd_tak_fr (by decide) (by decide)]; exact h.2.2.2.1.2.2.1
  unfold fd_sumR2 fd_ups
  rw [h.2.2.2.1.2.2.1]
  refine fd_sum_congr _ (fun s hs => ?_)
  unfold fd_sT
  rw [if_neg hl, e, fd_Rel_DS h]
theorem fd_Rel_U {M : fd_M} (h : fd_Rel M) (x l : Int) (hx : 0 ≤ x ∧ x ≤ 10) : 0 ≤ fd_sumR2 M x l ∧ fd_sumR2 M x l < 2147483648 := by
  have hD := fd_Rel_D h
  have p6 := fd_pw6 (n := (M 3 2).toNat) (by omega)
  by_cases hl : l < 0
  · rw [fd_Rel_sumN h x l hl]
    have e := fd_E x (fd_dio M) (M 3 2).toNat
    have s := fd_sumR (f := fd_dio M) (B := 18) (M 3 2).toNat (fun j _ => fd_dio_rng (fd_Rel_CG h) j)
    have t := fd_10p (n := (M 3 2).toNat) (by omega)
    generalize fd_sum (fun s => fd_wt (s : Int) x (M 3 2).toNat * fd_ds (fd_dio M) (s : Int) (M 3 2).toNat) (2 ^ (M 3 2).toNat) = E at *
    generalize fd_sum (fd_dio M) (M 3 2).toNat = S at *
    generalize (10 : Int) ^ (M 3 2).toNat = T at *
    have a1 : 0 ≤ x * T := Int.mul_nonneg hx.1 (by omega)
    have a2 : x * T ≤ 10 * 1000000 := Int.mul_le_mul hx.2 t.2 (by omega) (by omega)
    have b1 : 0 ≤ x * T * S := Int.mul_nonneg a1 s.1
    have b2 : x * T * S ≤ (10 * 1000000) * 108 := Int.mul_le_mul a2 (by omega) s.1 (by omega)
    omega
  · rw [fd_Rel_sumP h x l hl]
    have := fd_ups_rng hD hx l (2 ^ (M 3 2).toNat)
    omega
theorem fd_o_odds : fd_op fd_Rel 21 105 3 := fd_op3 fun M h x v w hx hv hw => by
  have a := fd_x_odds M (fd_Rel_CG h) x hx v hv w hw
  have h1 : fd_Rel (fd_Y_odds M x v w) := by
    unfold fd_Y_odds
    split
    · exact h
    · exact fd_Rel_lud h _
  have y : ∀ c, c ≠ 81 → fd_Y_odds M x v w c = M c := fun c hc => by
    unfold fd_Y_odds
    split
    · rfl
    · exact fd_lud_fr hc
  obtain ⟨r, R, c, e1, e2⟩ := fd_r_odds (fd_Y_odds M x v w) (fd_Rel_RP h1) (fd_Rel_RS h1) x hx v hv w hw (fd_Rel_U h1 x v)
  have p4 : fd_Y_odds M x v w 204 0 = M 3 2 := by rw [h1.2.2.2.1.2.2.1, y 3 (by decide)]
  have dq : fd_dio (fd_Y_odds M x v w) = fd_dio M := fd_dio_of (y 3 (by decide)) (y 4 (by decide)) (y 14 (by decide)) (y 15 (by decide)) (y 16 (by decide)) (y 17 (by decide))
  have eA : fd_A_odds (fd_Y_odds M x v w) x v w = fd_X_odds M x v w := by
    unfold fd_A_odds fd_X_odds
    rw [p4]
    by_cases hc : (0 ≤ x ∧ x ≤ 10) ∧ (0 ≤ v ∧ v ≤ 99) ∧ (0 ≤ w ∧ w ≤ 1)
    · rw [if_neg (not_not_intro hc), if_neg (show ¬ ¬ ((0 ≤ x ∧ x ≤ 10) ∧ (0 ≤ v ∧ v ≤ 99) ∧ (w = 0 ∨ w = 1)) by omega), fd_Rel_sumP h1 x v (by omega)]
      unfold fd_ups
      rw [dq, y 3 (by decide)]
    · rw [if_pos hc, if_pos (show ¬ ((0 ≤ x ∧ x ≤ 10) ∧ (0 ≤ v ∧ v ≤ 99) ∧ (w = 0 ∨ w = 1)) by omega)]
  rw [eA] at e1
  subst e1
  exact ⟨_, _, R, fd_callD a (by decide), fd_callD c (by decide), fd_Rel_sm h1 e2⟩
theorem fd_o_mean : fd_op fd_Rel 22 106 2 := fd_op2 fun M h x w hx hw => by
  have a := fd_x_mean M (fd_Rel_CG h) x hx w hw
  have h1 : fd_Rel (fd_Y_mean M x w) := by
    unfold fd_Y_mean
    split
    · exact h
    · exact fd_Rel_lud h _
  have y : ∀ c, c ≠ 81 → fd_Y_mean M x w c = M c := fun c hc => by
    unfold fd_Y_mean
    split
    · rfl
    · exact fd_lud_fr hc
  obtain ⟨r, R, c, e1, e2⟩ := fd_r_mean (fd_Y_mean M x w) (fd_Rel_RP h1) (fd_Rel_RS h1) x hx w hw (fd_Rel_U h1 x (-1))
  have p4 : fd_Y_mean M x w 204 0 = M 3 2 := by rw [h1.2.2.2.1.2.2.1, y 3 (by decide)]
  have dq : fd_dio (fd_Y_mean M x w) = fd_dio M := fd_dio_of (y 3 (by decide)) (y 4 (by decide)) (y 14 (by decide)) (y 15 (by decide)) (y 16 (by decide)) (y 17 (by decide))
  have eA : fd_A_mean (fd_Y_mean M x w) x w = fd_X_mean M x w := by
    unfold fd_A_mean fd_X_mean
    rw [p4]
    by_cases hc : (0 ≤ x ∧ x ≤ 10) ∧ (0 ≤ w ∧ w ≤ 1)
    · rw [if_neg (not_not_intro hc), if_neg (show ¬ ¬ ((0 ≤ x ∧ x ≤ 10) ∧ (w = 0 ∨ w = 1)) by omega), fd_Rel_sumN h1 x (-1) (by decide), dq, y 3 (by decide), fd_ds_all]
      have e := fd_E x (fd_dio M) (M 3 2).toNat
      have s := fd_sumR (f := fd_dio M) (B := 18) (M 3 2).toNat (fun j _ => fd_dio_rng (fd_Rel_CG h) j)
      have t := fd_10p (n := (M 3 2).toNat) (by have := fd_Rel_D h; omega)
      generalize fd_sum (fun s => fd_wt (s : Int) x (M 3 2).toNat * fd_ds (fd_dio M) (s : Int) (M 3 2).toNat) (2 ^ (M 3 2).toNat) = E at *
      generalize fd_sum (fd_dio M) (M 3 2).toNat = S at *
      generalize (10 : Int) ^ (M 3 2).toNat = T at *
      have k0 : 0 ≤ x * S := Int.mul_nonneg hc.1.1 s.1
      have E0 : 0 ≤ E := by
        have b1 : 0 ≤ x * T * S := Int.mul_nonneg (Int.mul_nonneg hc.1.1 (by omega)) s.1
        omega
      rw [← fd_part_sc E0 t.1 (show (0 : Int) < 10 by decide) w, ← fd_part_sc k0 (show (0 : Int) < 10 by decide) t.1 w, Int.mul_comm E 10, e, Int.mul_comm T 10]
      congr 1
      rw [Int.mul_assoc, Int.mul_comm T S, Int.mul_assoc]
    · rw [if_pos hc, if_pos (show ¬ ((0 ≤ x ∧ x ≤ 10) ∧ (w = 0 ∨ w = 1)) by omega)]
  rw [eA] at e1
  subst e1
  exact ⟨_, _, R, fd_callD a (by decide), fd_callD c (by decide), fd_Rel_sm h1 e2⟩

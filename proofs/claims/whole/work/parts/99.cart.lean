/-! cart -/
theorem fd_dr_some {px py : Nat → Int} {x y : Int} : ∀ (n k : Nat), fd_dr px py x y n k ≠ -1 → px (fd_dr px py x y n k).toNat = x ∧ py (fd_dr px py x y n k).toNat = y
  | 0, k, h => absurd rfl h
  | n + 1, k, h => by
    rw [fd_dr] at h ⊢
    by_cases q : px k = x ∧ py k = y
    · rw [if_pos q]; exact q
    · rw [if_neg q] at h ⊢
      exact fd_dr_some n (k + 1) h
theorem fd_tb (m k : Nat) : m / 2 ^ k % 2 = (m.testBit k).toNat := by
  rw [Nat.testBit_eq_decide_div_mod_eq]
  have := Nat.mod_lt (m / 2 ^ k) (show 2 > 0 by decide)
  by_cases h : m / 2 ^ k % 2 = 1
  · simp [h]
  · have : m / 2 ^ k % 2 = 0 := by omega
    simp [this]
theorem fd_xb (n p q : Nat) (h : q ≠ p) : (n ^^^ 2 ^ p) / 2 ^ q % 2 = n / 2 ^ q % 2 := by
  rw [fd_tb, fd_tb, Nat.testBit_xor, Nat.testBit_two_pow_of_ne (fun z => h z.symm), Bool.xor_false]
theorem fd_xr1 (n a x : Nat) (hx : x < 7) : (n ^^^ 2 ^ (a + x)) / 2 ^ a % 128 = (n / 2 ^ a % 128) ^^^ 2 ^ x := by
  apply Nat.eq_of_testBit_eq
  intro i
  rw [show (128 : Nat) = 2 ^ 7 from rfl, Nat.testBit_mod_two_pow, Nat.testBit_div_two_pow, Nat.testBit_xor, Nat.testBit_xor, Nat.testBit_mod_two_pow, Nat.testBit_div_two_pow, Nat.testBit_two_pow, Nat.testBit_two_pow]
  by_cases h : i < 7
  · have e : (a + x = i + a) = (x = i) := by simp; omega
    simp [h, e]
  · have e : ¬ x = i := by omega
    simp [h, e]
theorem fd_xr2 (n b p : Nat) (h : p < b ∨ b + 7 ≤ p) : (n ^^^ 2 ^ p) / 2 ^ b % 128 = n / 2 ^ b % 128 := by
  apply Nat.eq_of_testBit_eq
  intro i
  rw [show (128 : Nat) = 2 ^ 7 from rfl, Nat.testBit_mod_two_pow, Nat.testBit_div_two_pow, Nat.testBit_xor, Nat.testBit_mod_two_pow, Nat.testBit_div_two_pow, Nat.testBit_two_pow]
  by_cases hi : i < 7
  · have e : ¬ p = i + b := by omega
    simp [e]
  · simp [hi]
theorem fd_xor7N : ∀ n : Fin 128, ∀ k : Fin 7, fd_xor (n.val : Int) (2 ^ k.val) = ((n.val ^^^ 2 ^ k.val : Nat) : Int) := by decide +kernel
theorem fd_lxor_p {v : Int} (h : 0 ≤ v ∧ v < 562949953421312) {p : Nat} (hp : p < 49) : ∃ n : Nat, v = (n : Int) ∧ n < 2 ^ 49 ∧ fd_lxor v (2 ^ p) = ((n ^^^ 2 ^ p : Nat) : Int) := by
  obtain ⟨n, rfl⟩ := Int.eq_ofNat_of_zero_le h.1
  have q : 2 ^ p < 2 ^ 49 := Nat.pow_lt_pow_right (by decide) hp
  refine ⟨n, rfl, by omega, ?_⟩
  rw [fd_pw, fd_lxorN n (2 ^ p) (by omega) (by omega)]
theorem fd_Rel_cart {P : fd_M} (h : fd_Rel P) {x y : Nat} (hx : (x : Int) < P 3 0) (hy : (y : Int) < P 3 1) (hno : ∀ d : Nat, (d : Int) < P 3 2 → ¬ (P 15 d = (x : Int) ∧ P 16 d = (y : Int))) : fd_Rel (fd_up (fd_up P 14 5 (fd_lxor (P 14 5) (2 ^ (7 * y + x)))) 208 (21 + y) (fd_xor (P 208 (21 + y)) (2 ^ x))) := by
  have g0 := h.1.1.1
  have g1 := h.1.1.2.1
  obtain ⟨q1, q2, q3, q4, q5, q6⟩ := fd_Rel_SN h
  obtain ⟨s1, s2, s3, s4, s5, s6, s7, s8⟩ := h.2.1.1
  have hD := fd_Rel_D h
  obtain ⟨n, en, hn, ex⟩ := fd_lxor_p s6 (p := 7 * y + x) (by omega)
  have lr := fd_lxor_rng s6 (k := 7 * y + x) (by omega)
  have er : fd_xor (P 208 (21 + y)) (2 ^ x) = fd_lxor (P 14 5) (2 ^ (7 * y + x)) / 2 ^ (7 * y) % 128 := by
    rw [q6 y (by omega), ex, en, fd_pw (7 * y)]
    have a := fd_xor7N ⟨n / 2 ^ (7 * y) % 128, Nat.mod_lt _ (by decide)⟩ ⟨x, by omega⟩
    have b := fd_xr1 n (7 * y) x (by omega)
    have c : (n : Int) / ((2 ^ (7 * y) : Nat) : Int) % 128 = ((n / 2 ^ (7 * y) % 128 : Nat) : Int) := by omega
    rw [c]
    have a2 : fd_xor ((n / 2 ^ (7 * y) % 128 : Nat) : Int) (2 ^ x) = ((n / 2 ^ (7 * y) % 128 ^^^ 2 ^ x : Nat) : Int) := a
    rw [a2, ← b]
    omega
  rw [er]
  generalize hV : fd_lxor (P 14 5) (2 ^ (7 * y + x)) = V at *
  have u : ∀ j, fd_up (fd_up P 14 5 V) 208 (21 + y) (V / 2 ^ (7 * y) % 128) 208 j = if j = 21 + y then V / 2 ^ (7 * y) % 128 else P 208 j := fun j => by rw [fd_up_at, fd_up_ne (by decide)]
  have u14 : ∀ j, fd_up (fd_up P 14 5 V) 208 (21 + y) (V / 2 ^ (7 * y) % 128) 14 j = if j = 5 then V else P 14 j := fun j => by rw [fd_up_ne (by decide), fd_up_at]
  have uc : ∀ c, c ≠ 14 → c ≠ 208 → fd_up (fd_up P 14 5 V) 208 (21 + y) (V / 2 ^ (7 * y) % 128) c = P c := fun c h1 h2 => by rw [fd_up_ne h2, fd_up_ne h1]
  refine fd_Rel_now h (fun c h1 h2 => uc c (by omega) h2) (fun k hk => by rw [u, if_neg (by omega)]) ?_ ?_
  · refine ⟨s1, s2, s3, s4, ?_, ?_, ?_, ?_⟩
    · rw [u14, if_neg (by omega)]; exact s5
    · rw [u14, if_pos rfl]; exact lr
    · rw [u14, if_neg (by omega)]; exact s7
    · rw [u14, if_neg (by omega)]; exact s8
  · unfold fd_SN
    rw [uc 3 (by omega) (by omega), uc 15 (by omega) (by omega), uc 16 (by omega) (by omega), uc 17 (by omega) (by omega), uc 18 (by omega) (by omega), u14 5, if_pos rfl]
    refine ⟨fun d hd => ?_, q2, ?_, ?_, ?_, fun z hz => ?_⟩
    · obtain ⟨a1, a4, a5⟩ := q1 d hd
      rw [u, u, u, if_neg (by omega), if_neg (by omega), if_neg (by omega)]
      refine ⟨a1, a4, ?_⟩
      have b1 : 0 ≤ P 15 d ∧ P 15 d ≤ 6 := s1 d
      have b2 : 0 ≤ P 16 d ∧ P 16 d ≤ 6 := s2 d
      have ne : (P 16 d * 7 + P 15 d).toNat ≠ 7 * y + x := fun e => hno d hd (by omega)
      rw [ex, fd_pw]
      rw [en, fd_pw] at a5
      have b := fd_xb n (7 * y + x) _ ne
      omega
    · rw [u, u14, if_neg (by omega), if_neg (by omega)]; exact q3
    · rw [u, u14, if_neg (by omega), if_neg (by omega)]; exact q4
    · rw [u, u14, if_neg (by omega), if_neg (by omega)]; exact q5
    · rw [u]
      by_cases e : z = y
      · rw [if_pos (by omega), e]
      · rw [if_neg (by omega), q6 z hz, ex, en, fd_pw]
        have b := fd_xr2 n (7 * z) (7 * y + x) (by omega)
        omega
theorem fd_cv3 {M : fd_M} (h : fd_Rel M) {x y : Int} (hc : 0 ≤ x ∧ x < M 3 0 ∧ 0 ≤ y ∧ y < M 3 1) : fd_cvC M x y = 3 ↔ M 14 5 / 2 ^ (y * 7 + x).toNat % 2 = 1 := by
  have g5 := h.1.1.2.2.2.2.2 (y * 7 + x).toNat
  have dr := fd_dor_rng h.1.1.2.2.1.1 x y
  unfold fd_cvC
  rw [if_pos hc]
  by_cases q : fd_dor M x y = -1
  · rw [if_pos q]
    by_cases b : M 14 5 / 2 ^ (y * 7 + x).toNat % 2 = 1
    · rw [if_pos b]; exact ⟨fun _ => b, fun _ => rfl⟩
    · rw [if_neg b]; exact ⟨fun z => absurd z (by omega), fun z => absurd z b⟩
  · rw [if_neg q]
    refine ⟨fun z => absurd z (by omega), fun z => ?_⟩
    have e : M 15 (fd_dor M x y).toNat = x ∧ M 16 (fd_dor M x y).toNat = y := fd_dr_some _ _ q
    have w := ((fd_Rel_SN h).1 (fd_dor M x y).toNat (by omega)).2.2
    rw [e.1, e.2] at w
    omega
theorem fd_o_cart : fd_op fd_Rel 9 87 3 := fd_op3 fun M h x y w hx hy hw => by
  have a := fd_x_cart M (fd_Rel_CG h) h.1.2.1 h.1.2.2.2.1 x y hx hy w hw
  obtain ⟨p0, p1, p2, -, -, -⟩ := h.2.2.2.1
  have fr : ∀ c, 71 ≤ c → fd_Y_cart M x y w c = M c := fun c hc => by
    unfold fd_Y_cart
    split
    · rfl
    · split <;> split <;> first
        | rfl
        | rw [fd_up_ne (by omega), fd_push_c h (by omega)]
  have b := fd_r_cart (fd_Y_cart M x y w) (fd_RP_of (fd_Rel_RP h) (fr _ (by omega)) (fr _ (by omega)) (fr _ (by omega)) (fr _ (by omega)) (fr _ (by omega))) (fd_RS_of (fd_Rel_RS h) (fr _ (by omega)) (fr _ (by omega))) x y hx hy w hw
  have e0 : fd_Y_cart M x y w 201 0 = M 3 0 := by rw [fr 201 (by omega)]; exact p0
  have e1 : fd_Y_cart M x y w 202 0 = M 3 1 := by rw [fr 202 (by omega)]; exact p1
  have e8 : fd_Y_cart M x y w 208 = M 208 := fr 208 (by omega)
  have ecv : fd_cvR (fd_Y_cart M x y w) = fd_cvC M := by
    rw [← fd_Rel_cv h]
    exact fd_cvR_of (fr _ (by omega)) (fr _ (by omega)) (fr _ (by omega)) (fr _ (by omega)) (by rw [p2]; exact (fd_Rel_D h).2) (fun _ _ => by rw [e8]) (fun _ _ _ => by rw [e8]) (fd_Rel_RP h).2.1.2
  by_cases hc : (0 ≤ x ∧ x < M 3 0 ∧ 0 ≤ y ∧ y < M 3 1) ∧ 0 ≤ w ∧ w ≤ 1
  · have hc2 : (0 ≤ x ∧ x < M 3 0 ∧ 0 ≤ y ∧ y < M 3 1) ∧ (w = 0 ∨ w = 1) := ⟨hc.1, by omega⟩
    have iffC : (¬ (if w = 1 then fd_cvC M x y = 0 else M 14 5 / 2 ^ (y * 7 + x).toNat % 2 = 1)) ↔ ¬ fd_cvC M x y = (if w = 1 then 0 else 3) := by
      by_cases w1 : w = 1
      · rw [if_pos w1, if_pos w1]
      · rw [if_neg w1, if_neg w1, fd_cv3 h hc.1]
    by_cases hq : ¬ (if w = 1 then fd_cvC M x y = 0 else M 14 5 / 2 ^ (y * 7 + x).toNat % 2 = 1)
    · have eA : fd_A_cart (fd_Y_cart M x y w) x y w = fd_X_cart M x y w := by
        unfold fd_A_cart fd_X_cart
        rw [e0, e1, ecv, if_neg (not_not_intro hc), if_neg (not_not_intro hc2), if_pos (iffC.mp hq), if_pos hq]
      rw [eA] at b
      refine ⟨_, _, _, fd_callD a (by decide), fd_callD b (by decide), ?_⟩
      unfold fd_B_cart
      rw [e0, e1, ecv, if_neg (not_not_intro hc), if_pos (iffC.mp hq)]
      unfold fd_Y_cart
      rw [if_neg (not_not_intro hc2), if_pos hq]
      exact h
    · have hq2 := fun z => hq (iffC.mpr z)
      have ey : fd_Y_cart M x y w = fd_up (fd_push M) 14 5 (fd_lxor (M 14 5) (2 ^ (y * 7 + x).toNat)) := by
        unfold fd_Y_cart
        rw [if_neg (not_not_intro hc2), if_neg hq]
      obtain ⟨i, rfl⟩ := Int.eq_ofNat_of_zero_le hc.1.1
      obtain ⟨j, rfl⟩ := Int.eq_ofNat_of_zero_le hc.1.2.2.1
      have c3 : fd_know (fd_push M) 3 = M 3 := fd_P_c h (by omega) (by omega)
      have c14 : fd_know (fd_push M) 14 = M 14 := fd_P_c h (by omega) (by omega)
      have c15 : fd_know (fd_push M) 15 = M 15 := fd_P_c h (by omega) (by omega)
      have c16 : fd_know (fd_push M) 16 = M 16 := fd_P_c h (by omega) (by omega)
      have g1 := h.1.1.2.1
      have c8 : fd_know (fd_push M) 208 (21 + j) = M 208 (21 + j) := fd_P_8 h (by omega)
      have nod : ∀ d : Nat, (d : Int) < M 3 2 → ¬ (M 15 d = (i : Int) ∧ M 16 d = (j : Int)) := fun d hd z => by
        by_cases w1 : w = 1
        · rw [if_pos w1] at hq
          have z4 := ((fd_cvC_zero (fd_Rel_CG h) _ _).mp (Classical.not_not.mp hq)).2.2.2
          exact fd_dr_none (M 3 2).toNat 0 z4 d (by omega) (by omega) z
        · rw [if_neg w1] at hq
          have w2 := ((fd_Rel_SN h).1 d hd).2.2
          rw [z.1, z.2] at w2
          have := Classical.not_not.mp hq
          omega
      have hN := fd_Rel_cart (fd_Rel_push h) (x := i) (y := j) (by rw [c3]; omega) (by rw [c3]; omega) (fun d hd => by rw [c15, c16]; exact nod d (by rw [c3] at hd; exact hd))
      rw [c14, c8] at hN
      have eN : fd_up (fd_know (fd_Y_cart M (i : Int) (j : Int) w)) 208 (21 + ((j : Nat) : Int).toNat) (fd_xor (fd_Y_cart M (i : Int) (j : Int) w 208 (21 + ((j : Nat) : Int).toNat)) (2 ^ ((i : Nat) : Int).toNat)) = fd_up (fd_up (fd_know (fd_push M)) 14 5 (fd_lxor (M 14 5) (2 ^ (7 * j + i)))) 208 (21 + j) (fd_xor (M 208 (21 + j)) (2 ^ i)) := by
        rw [e8, ey, fd_know_up _ (by decide), show (((j : Nat) : Int) * 7 + ((i : Nat) : Int)).toNat = 7 * j + i by omega]
        rfl
      have eA : fd_A_cart (fd_Y_cart M (i : Int) (j : Int) w) (i : Int) (j : Int) w = fd_X_cart M (i : Int) (j : Int) w := by
        unfold fd_A_cart fd_X_cart
        rw [e0, e1, ecv, if_neg (not_not_intro hc), if_neg (not_not_intro hc2), if_neg hq2, if_neg hq, eN, fd_Rel_carts hN, fd_up_ne (by decide), fd_up_at, if_pos rfl, show (((j : Nat) : Int) * 7 + ((i : Nat) : Int)).toNat = 7 * j + i by omega]
      rw [eA] at b
      refine ⟨_, _, _, fd_callD a (by decide), fd_callD b (by decide), ?_⟩
      unfold fd_B_cart
      rw [e0, e1, ecv, if_neg (not_not_intro hc), if_neg hq2, eN]
      exact hN
  · have hc2 : ¬ ((0 ≤ x ∧ x < M 3 0 ∧ 0 ≤ y ∧ y < M 3 1) ∧ (w = 0 ∨ w = 1)) := fun z => hc ⟨z.1, by omega⟩
    have eA : fd_A_cart (fd_Y_cart M x y w) x y w = fd_X_cart M x y w := by
      unfold fd_A_cart fd_X_cart
      rw [e0, e1, if_pos hc, if_pos hc2]
    rw [eA] at b
    refine ⟨_, _, _, fd_callD a (by decide), fd_callD b (by decide), ?_⟩
    unfold fd_B_cart
    rw [e0, e1, if_pos hc]
    unfold fd_Y_cart
    rw [if_pos hc2]
    exact h

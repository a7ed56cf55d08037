/-! the reference: turn and bound -/
def fd_okc' (T : fd_M) (c : Nat) : Bool := fd_ahw (fd_wy T (T 204 0).toNat c)
def fd_key (T : fd_M) (c : Nat) : Int := 10 * fd_sum (fd_dR (fd_wy T (T 204 0).toNat c)) (T 204 0).toNat + fd_su (fd_ct T (T 204 0).toNat c) (T 204 0).toNat 0
def fd_tf (ok : Nat → Bool) (key : Nat → Int) : Nat → Int × Int
  | 0 => (-9, 0)
  | k + 1 => if ok k = true then (if (fd_tf ok key k).1 = -9 ∨ key k < (fd_tf ok key k).2 then ((k : Int), key k) else fd_tf ok key k) else fd_tf ok key k
theorem fd_tf_rng (ok : Nat → Bool) (key : Nat → Int) (h : ∀ c, 0 ≤ key c ∧ key c ≤ 1086) : ∀ k : Nat, ((fd_tf ok key k).1 = -9 ∨ (0 ≤ (fd_tf ok key k).1 ∧ (fd_tf ok key k).1 < k)) ∧ (0 ≤ (fd_tf ok key k).2 ∧ (fd_tf ok key k).2 ≤ 1086)
  | 0 => by
    show ((-9 : Int) = -9 ∨ _) ∧ ((0 : Int) ≤ 0 ∧ (0 : Int) ≤ 1086)
    omega
  | k + 1 => by
    have a := fd_tf_rng ok key h k
    have b := h k
    rw [fd_tf]
    split
    · split
      · dsimp only
        omega
      · omega
    · omega
/-- K looks like T but for the ways -/
def fd_lk (T K : fd_M) : Prop := fd_smR T K ∧ K 199 = T 199 ∧ ∀ c, fd_wy K (T 204 0).toNat c = fd_wy T (T 204 0).toNat c
theorem fd_lk_rf (T : fd_M) : fd_lk T T := ⟨fd_smR_rf T, rfl, fun _ => rfl⟩
theorem fd_lk_wy (T : fd_M) (c : Nat) : fd_lk T (fd_wy T (T 204 0).toNat c) := ⟨fd_wy_sm T _ c, fd_wy_fr (by decide), fun _ => fd_wy_wy _ _ _ _⟩
theorem fd_key_rng {T : fd_M} (hP : fd_RP T) (c : Nat) : 0 ≤ fd_key T c ∧ fd_key T c ≤ 1086 := by
  have g := hP.2.2.1
  have a := fd_sumR (f := fd_dR (fd_wy T (T 204 0).toNat c)) (B := 18) (T 204 0).toNat (fun j _ => fd_due_rng (by rw [fd_wy_fr (by decide)]; exact hP.2.2.2.1) _ _)
  have b := fd_su_rng (fd_ct_rng T (T 204 0).toNat c) (T 204 0).toNat 0
  unfold fd_key
  omega
theorem fd_4p {n : Nat} (h : n ≤ 6) : (4 : Int) ^ n = ((4 ^ n : Nat) : Int) ∧ 0 < 4 ^ n ∧ 4 ^ n ≤ 4096 := by
  refine ⟨by simp, Nat.pow_pos (by decide), ?_⟩
  exact (Nat.pow_le_pow_right (by decide) h : 4 ^ n ≤ 4 ^ 6)
theorem fd_k_take {T K : fd_M} (hP : fd_RP T) (hS : fd_RS T) (hK : fd_lk T K) (c : Nat) (hc : c < 2147483648) : fd_call 0 95 [fd_R 199, fd_I ((c : Nat) : Int)] K (some (fd_I (fd_su (fd_ct T (T 204 0).toNat c) (T 204 0).toNat 0))) (fd_wy T (T 204 0).toNat c) := by
  have z := fd_r_takeWays K (fd_RP_sm hK.1 hP) (fd_RS_sm hK.1 hS) c hc
  have e4 : K 204 = T 204 := hK.1.1 _ (by decide) (by decide)
  have e8 : fd_ct K = fd_ct T := by
    funext D c k
    unfold fd_ct
    rw [hK.1.1 208 (by decide) (by decide)]
  rw [e4, e8, hK.2.2 c] at z
  exact z
theorem fd_k_codes {T K : fd_M} (hP : fd_RP T) (hK : fd_lk T K) : fd_call 0 96 [fd_R 199] K (some (fd_I ((4 : Int) ^ (T 204 0).toNat))) K := by
  have z := fd_r_codes K (fd_RP_sm hK.1 hP)
  rw [hK.1.1 204 (by decide) (by decide)] at z
  exact z
theorem fd_w_ahw {T : fd_M} (hP : fd_RP T) (hS : fd_RS T) (hW : fd_RW T) (c : Nat) : fd_call 4 93 [fd_R 199] (fd_wy T (T 204 0).toNat c) (some (fd_I (fd_bi (fd_okc' T c = true)))) (fd_wy T (T 204 0).toNat c) :=
  fd_r_ahw (fd_wy T (T 204 0).toNat c) (fd_RP_sm (fd_wy_sm T _ c) hP) (fd_RS_sm (fd_wy_sm T _ c) hS) (fd_RW_wy hW c)
theorem fd_w_dues {T : fd_M} (hP : fd_RP T) (hS : fd_RS T) (hW : fd_RW T) (c : Nat) : fd_call 5 77 [fd_R 199] (fd_wy T (T 204 0).toNat c) (some (fd_I (fd_sum (fd_dR (fd_wy T (T 204 0).toNat c)) (T 204 0).toNat))) (fd_wy T (T 204 0).toNat c) := by
  have z := fd_r_dues (fd_wy T (T 204 0).toNat c) (fd_RP_sm (fd_wy_sm T _ c) hP) (fd_RS_sm (fd_wy_sm T _ c) hS) (fd_RW_wy hW c)
  rw [show fd_wy T (T 204 0).toNat c 204 = T 204 from fd_wy_fr (by decide)] at z
  exact z
theorem fd_w_sees {T : fd_M} (hP : fd_RP T) (hS : fd_RS T) (hW : fd_RW T) (c d : Nat) (hd : (d : Int) < T 204 0) : fd_call 3 75 [fd_R 199, fd_I ((d : Nat) : Int)] (fd_wy T (T 204 0).toNat c) (some (fd_I (fd_sR (fd_wy T (T 204 0).toNat c) d))) (fd_wy T (T 204 0).toNat c) :=
  fd_r_sees (fd_wy T (T 204 0).toNat c) (fd_RP_sm (fd_wy_sm T _ c) hP) (fd_RS_sm (fd_wy_sm T _ c) hS) (fd_RW_wy hW c) d (by rw [fd_wy_fr (by decide)]; exact hd)
theorem fd_f_turn (T : fd_M) (hP : fd_RP T) (hS : fd_RS T) (hW : fd_RW T) (A : Nat) (eA : (4 : Int) ^ (T 204 0).toNat = (A : Int)) (hA : A ≤ 4096) (d : Int) (hd : -2 ≤ d ∧ d < T 204 0) (K : fd_M) (hK : fd_lk T K) (u4 u5 u6 : fd_V) : fd_runE 6 97 50 [fd_R 199, fd_I d, fd_I (fd_tf (fd_okc' T) (fd_key T) A).1, fd_I (fd_tf (fd_okc' T) (fd_key T) A).2, u4, u5, u6] [] K (fun r R => r = some (fd_I (if (fd_tf (fd_okc' T) (fd_key T) A).1 = -9 then -9 else if d = -1 then (fd_tf (fd_okc' T) (fd_key T) A).2 / 10 else if d = -2 then (fd_tf (fd_okc' T) (fd_key T) A).2 % 10 else fd_dg (T 204 0).toNat (fd_tf (fd_okc' T) (fd_key T) A).1.toNat d.toNat)) ∧ fd_smR T R) := by
  obtain ⟨g0, g1, g2, g3, g4, g5⟩ := id hP
  have qf := fd_tf_rng (fd_okc' T) (fd_key T) (fd_key_rng hP) A
  refine fd_e_blk 2 (C := fd_c97) (b := true) (L' := [fd_R 199, fd_I d, fd_I (fd_tf (fd_okc' T) (fd_key T) A).1, fd_I (fd_tf (fd_okc' T) (fd_key T) A).2, u4, u5, u6]) (st' := [fd_I (-9), fd_I (fd_tf (fd_okc' T) (fd_key T) A).1]) (M' := K) rfl rfl (j := 52) rfl (rfl) ?_
  refine fd_e_br (C := fd_c97) (t := 55) (e := 53) (st' := []) (c := (fd_tf (fd_okc' T) (fd_key T) A).1 = (-9)) (b := (fd_rng (fd_tf (fd_okc' T) (fd_key T) A).1 && fd_rng (-9))) rfl rfl rfl (fd_bA (fd_bR (by omega) (by omega)) (fd_bR (by omega) (by omega))) (fun h52 => ?_) (fun h52 => ?_)
  · refine fd_e_blk 2 (C := fd_c97) (b := true) (L' := [fd_R 199, fd_I d, fd_I (fd_tf (fd_okc' T) (fd_key T) A).1, fd_I (fd_tf (fd_okc' T) (fd_key T) A).2, u4, u5, u6]) (st' := [fd_I (-9), fd_I (fd_tf (fd_okc' T) (fd_key T) A).1]) (M' := K) rfl rfl (j := 57) rfl (rfl) ?_
    refine fd_e_br (C := fd_c97) (t := 60) (e := 58) (st' := []) (c := ¬ (fd_tf (fd_okc' T) (fd_key T) A).1 = (-9)) (b := (fd_rng (fd_tf (fd_okc' T) (fd_key T) A).1 && fd_rng (-9))) rfl rfl rfl (fd_bA (fd_bR (by omega) (by omega)) (fd_bR (by omega) (by omega))) (fun h57 => ?_) (fun h57 => ?_)
    · refine fd_e_blk 2 (C := fd_c97) (b := true) (L' := [fd_R 199, fd_I d, fd_I (fd_tf (fd_okc' T) (fd_key T) A).1, fd_I (fd_tf (fd_okc' T) (fd_key T) A).2, u4, u5, u6]) (st' := [fd_I (-1), fd_I d]) (M' := K) rfl rfl (j := 62) rfl (rfl) ?_
      refine fd_e_br (C := fd_c97) (t := 67) (e := 63) (st' := []) (c := ¬ d = (-1)) (b := (fd_rng d && fd_rng (-1))) rfl rfl rfl (fd_bA (fd_bR (by omega) (by omega)) (fd_bR (by omega) (by omega))) (fun h62 => ?_) (fun h62 => ?_)
      · refine fd_e_blk 2 (C := fd_c97) (b := true) (L' := [fd_R 199, fd_I d, fd_I (fd_tf (fd_okc' T) (fd_key T) A).1, fd_I (fd_tf (fd_okc' T) (fd_key T) A).2, u4, u5, u6]) (st' := [fd_I 10, fd_I (fd_tf (fd_okc' T) (fd_key T) A).2]) (M' := K) rfl rfl (j := 69) rfl (rfl) ?_
        refine fd_e_blk 1 (C := fd_c97) (b := ((fd_inb (fd_tf (fd_okc' T) (fd_key T) A).2 2147483648 && fd_inb (10 - 1) 2147483647) && true)) (L' := [fd_R 199, fd_I d, fd_I (fd_tf (fd_okc' T) (fd_key T) A).1, fd_I (fd_tf (fd_okc' T) (fd_key T) A).2, u4, u5, u6]) (st' := [fd_I ((fd_tf (fd_okc' T) (fd_key T) A).2 % 10)]) (M' := K) rfl rfl (j := 70) rfl (fd_bA (fd_bA (fd_bI (by omega) (by omega)) (fd_bI (by omega) (by omega))) (rfl)) ?_
        refine fd_e_ret (C := fd_c97) (b := true) (r' := some (fd_I ((fd_tf (fd_okc' T) (fd_key T) A).2 % 10))) rfl rfl rfl (rfl) ?_
        exact ⟨by rw [if_neg (by omega), if_neg (by omega), if_pos (by omega)], hK.1⟩
      · refine fd_e_blk 2 (C := fd_c97) (b := true) (L' := [fd_R 199, fd_I d, fd_I (fd_tf (fd_okc' T) (fd_key T) A).1, fd_I (fd_tf (fd_okc' T) (fd_key T) A).2, u4, u5, u6]) (st' := [fd_I 10, fd_I (fd_tf (fd_okc' T) (fd_key T) A).2]) (M' := K) rfl rfl (j := 65) rfl (rfl) ?_
        refine fd_e_blk 1 (C := fd_c97) (b := ((fd_inb (fd_tf (fd_okc' T) (fd_key T) A).2 2147483648 && fd_inb (10 - 1) 2147483647) && true)) (L' := [fd_R 199, fd_I d, fd_I (fd_tf (fd_okc' T) (fd_key T) A).1, fd_I (fd_tf (fd_okc' T) (fd_key T) A).2, u4, u5, u6]) (st' := [fd_I ((fd_tf (fd_okc' T) (fd_key T) A).2 / 10)]) (M' := K) rfl rfl (j := 66) rfl (fd_bA (fd_bA (fd_bI (by omega) (by omega)) (fd_bI (by omega) (by omega))) (rfl)) ?_
        refine fd_e_jmp (C := fd_c97) (j := 70) (st' := [fd_I ((fd_tf (fd_okc' T) (fd_key T) A).2 / 10)]) rfl rfl (b := true) rfl rfl ?_
        refine fd_e_ret (C := fd_c97) (b := true) (r' := some (fd_I ((fd_tf (fd_okc' T) (fd_key T) A).2 / 10))) rfl rfl rfl (rfl) ?_
        exact ⟨by rw [if_neg (by omega), if_pos (by omega)], hK.1⟩
    · refine fd_e_blk 1 (C := fd_c97) (b := true) (L' := [fd_R 199, fd_I d, fd_I (fd_tf (fd_okc' T) (fd_key T) A).1, fd_I (fd_tf (fd_okc' T) (fd_key T) A).2, u4, u5, u6]) (st' := [fd_I (-9)]) (M' := K) rfl rfl (j := 59) rfl (rfl) ?_
      refine fd_e_jmp (C := fd_c97) (j := 70) (st' := [fd_I (-9)]) rfl rfl (b := true) rfl rfl ?_
      refine fd_e_ret (C := fd_c97) (b := true) (r' := some (fd_I (-9))) rfl rfl rfl (rfl) ?_
      exact ⟨by rw [if_pos (by omega)], hK.1⟩
  · refine fd_e_blk 1 (C := fd_c97) (b := true) (L' := [fd_R 199, fd_I d, fd_I (fd_tf (fd_okc' T) (fd_key T) A).1, fd_I (fd_tf (fd_okc' T) (fd_key T) A).2, u4, u5, u6]) (st' := [fd_I d]) (M' := K) rfl rfl (j := 54) rfl (rfl) ?_
    refine fd_e_br (C := fd_c97) (t := 71) (e := 55) (st' := []) (c := 0 ≤ d) (b := (fd_rng d)) rfl rfl rfl (fd_bR (by omega) (by omega)) (fun h54 => ?_) (fun h54 => ?_)
    · obtain ⟨f, hf⟩ := Int.eq_ofNat_of_zero_le (show 0 ≤ (fd_tf (fd_okc' T) (fd_key T) A).1 by omega)
      rw [hf]
      obtain ⟨e, rfl⟩ := Int.eq_ofNat_of_zero_le (show 0 ≤ d by omega)
      have e9 : fd_wy T (T 204 0).toNat f 210 e = fd_dg (T 204 0).toNat f e := fd_wy_at (by omega)
      have hB : ∀ (q0 : Int) (q1 : Int), fd_bl 2 (List.drop 71 fd_c97) [fd_R 199, fd_I q0, fd_I q1, fd_I (fd_tf (fd_okc' T) (fd_key T) A).2, u4, u5, u6] [] K = some (true, [fd_R 199, fd_I q0, fd_I q1, fd_I (fd_tf (fd_okc' T) (fd_key T) A).2, u4, u5, u6], [fd_I q1, fd_R 199], K) := fun _ _ => rfl
      refine fd_e_blk 2 (C := fd_c97) (b := true) (L' := [fd_R 199, fd_I ((e : Nat) : Int), fd_I ((f : Nat) : Int), fd_I (fd_tf (fd_okc' T) (fd_key T) A).2, u4, u5, u6]) (st' := [fd_I ((f : Nat) : Int), fd_R 199]) (M' := K) rfl (hB ((e : Nat) : Int) ((f : Nat) : Int)) (j := 73) rfl (rfl) ?_
      clear hB
      refine fd_e_call (C := fd_c97) (d0 := 0) (mid := 95) (np := 2) (args := [fd_R 199, fd_I ((f : Nat) : Int)]) (r1 := some (fd_I (fd_su (fd_ct T (T 204 0).toNat f) (T 204 0).toNat 0))) (M1 := (fd_wy T (T 204 0).toNat f)) (st' := [fd_I (fd_su (fd_ct T (T 204 0).toNat f) (T 204 0).toNat 0)]) rfl rfl rfl rfl rfl rfl (rfl) (fd_k_take hP hS hK f (by omega)) rfl (by omega) ?_
      have qt := fd_su_rng (fd_ct_rng T (T 204 0).toNat f) (T 204 0).toNat 0
      have hB : ∀ (q0 : Int) (q1 : Int), fd_bl 5 (List.drop 74 fd_c97) [fd_R 199, fd_I q0, fd_I q1, fd_I (fd_tf (fd_okc' T) (fd_key T) A).2, u4, u5, u6] [fd_I (fd_su (fd_ct T (T 204 0).toNat f) (T 204 0).toNat 0)] (fd_wy T (T 204 0).toNat f) = some ((fd_isA true (fd_wy T (T 204 0).toNat f) 210 20 q0 && true), [fd_R 199, fd_I q0, fd_I q1, fd_I (fd_tf (fd_okc' T) (fd_key T) A).2, u4, u5, u6], [fd_I ((fd_wy T (T 204 0).toNat f) 210 (q0).toNat)], (fd_wy T (T 204 0).toNat f)) := fun _ _ => rfl
      refine fd_e_blk 5 (C := fd_c97) (b := (fd_isA true (fd_wy T (T 204 0).toNat f) 210 20 ((e : Nat) : Int) && true)) (L' := [fd_R 199, fd_I ((e : Nat) : Int), fd_I ((f : Nat) : Int), fd_I (fd_tf (fd_okc' T) (fd_key T) A).2, u4, u5, u6]) (st' := [fd_I ((fd_wy T (T 204 0).toNat f) 210 e)]) (M' := (fd_wy T (T 204 0).toNat f)) rfl (hB ((e : Nat) : Int) ((f : Nat) : Int)) (j := 79) rfl (fd_bA (fd_iA fd_sh210 (by omega) (by omega)) (rfl)) ?_
      clear hB
      refine fd_e_ret (C := fd_c97) (b := true) (r' := some (fd_I ((fd_wy T (T 204 0).toNat f) 210 e))) rfl rfl rfl (rfl) ?_
      refine ⟨?_, fd_wy_sm T _ _⟩
      rw [e9]
      try rw [hf]
      rw [if_neg (by omega), if_neg (by omega), if_neg (by omega)]
      rfl
    · refine fd_e_blk 2 (C := fd_c97) (b := true) (L' := [fd_R 199, fd_I d, fd_I (fd_tf (fd_okc' T) (fd_key T) A).1, fd_I (fd_tf (fd_okc' T) (fd_key T) A).2, u4, u5, u6]) (st' := [fd_I (-9), fd_I (fd_tf (fd_okc' T) (fd_key T) A).1]) (M' := K) rfl rfl (j := 57) rfl (rfl) ?_
      refine fd_e_br (C := fd_c97) (t := 60) (e := 58) (st' := []) (c := ¬ (fd_tf (fd_okc' T) (fd_key T) A).1 = (-9)) (b := (fd_rng (fd_tf (fd_okc' T) (fd_key T) A).1 && fd_rng (-9))) rfl rfl rfl (fd_bA (fd_bR (by omega) (by omega)) (fd_bR (by omega) (by omega))) (fun h57 => ?_) (fun h57 => ?_)
      · refine fd_e_blk 2 (C := fd_c97) (b := true) (L' := [fd_R 199, fd_I d, fd_I (fd_tf (fd_okc' T) (fd_key T) A).1, fd_I (fd_tf (fd_okc' T) (fd_key T) A).2, u4, u5, u6]) (st' := [fd_I (-1), fd_I d]) (M' := K) rfl rfl (j := 62) rfl (rfl) ?_
        refine fd_e_br (C := fd_c97) (t := 67) (e := 63) (st' := []) (c := ¬ d = (-1)) (b := (fd_rng d && fd_rng (-1))) rfl rfl rfl (fd_bA (fd_bR (by omega) (by omega)) (fd_bR (by omega) (by omega))) (fun h62 => ?_) (fun h62 => ?_)
        · refine fd_e_blk 2 (C := fd_c97) (b := true) (L' := [fd_R 199, fd_I d, fd_I (fd_tf (fd_okc' T) (fd_key T) A).1, fd_I (fd_tf (fd_okc' T) (fd_key T) A).2, u4, u5, u6]) (st' := [fd_I 10, fd_I (fd_tf (fd_okc' T) (fd_key T) A).2]) (M' := K) rfl rfl (j := 69) rfl (rfl) ?_
          refine fd_e_blk 1 (C := fd_c97) (b := ((fd_inb (fd_tf (fd_okc' T) (fd_key T) A).2 2147483648 && fd_inb (10 - 1) 2147483647) && true)) (L' := [fd_R 199, fd_I d, fd_I (fd_tf (fd_okc' T) (fd_key T) A).1, fd_I (fd_tf (fd_okc' T) (fd_key T) A).2, u4, u5, u6]) (st' := [fd_I ((fd_tf (fd_okc' T) (fd_key T) A).2 % 10)]) (M' := K) rfl rfl (j := 70) rfl (fd_bA (fd_bA (fd_bI (by omega) (by omega)) (fd_bI (by omega) (by omega))) (rfl)) ?_
          refine fd_e_ret (C := fd_c97) (b := true) (r' := some (fd_I ((fd_tf (fd_okc' T) (fd_key T) A).2 % 10))) rfl rfl rfl (rfl) ?_
          exact ⟨by rw [if_neg (by omega), if_neg (by omega), if_pos (by omega)], hK.1⟩
        · refine fd_e_blk 2 (C := fd_c97) (b := true) (L' := [fd_R 199, fd_I d, fd_I (fd_tf (fd_okc' T) (fd_key T) A).1, fd_I (fd_tf (fd_okc' T) (fd_key T) A).2, u4, u5, u6]) (st' := [fd_I 10, fd_I (fd_tf (fd_okc' T) (fd_key T) A).2]) (M' := K) rfl rfl (j := 65) rfl (rfl) ?_
          refine fd_e_blk 1 (C := fd_c97) (b := ((fd_inb (fd_tf (fd_okc' T) (fd_key T) A).2 2147483648 && fd_inb (10 - 1) 2147483647) && true)) (L' := [fd_R 199, fd_I d, fd_I (fd_tf (fd_okc' T) (fd_key T) A).1, fd_I (fd_tf (fd_okc' T) (fd_key T) A).2, u4, u5, u6]) (st' := [fd_I ((fd_tf (fd_okc' T) (fd_key T) A).2 / 10)]) (M' := K) rfl rfl (j := 66) rfl (fd_bA (fd_bA (fd_bI (by omega) (by omega)) (fd_bI (by omega) (by omega))) (rfl)) ?_
          refine fd_e_jmp (C := fd_c97) (j := 70) (st' := [fd_I ((fd_tf (fd_okc' T) (fd_key T) A).2 / 10)]) rfl rfl (b := true) rfl rfl ?_
          refine fd_e_ret (C := fd_c97) (b := true) (r' := some (fd_I ((fd_tf (fd_okc' T) (fd_key T) A).2 / 10))) rfl rfl rfl (rfl) ?_
          exact ⟨by rw [if_neg (by omega), if_pos (by omega)], hK.1⟩
      · refine fd_e_blk 1 (C := fd_c97) (b := true) (L' := [fd_R 199, fd_I d, fd_I (fd_tf (fd_okc' T) (fd_key T) A).1, fd_I (fd_tf (fd_okc' T) (fd_key T) A).2, u4, u5, u6]) (st' := [fd_I (-9)]) (M' := K) rfl rfl (j := 59) rfl (rfl) ?_
        refine fd_e_jmp (C := fd_c97) (j := 70) (st' := [fd_I (-9)]) rfl rfl (b := true) rfl rfl ?_
        refine fd_e_ret (C := fd_c97) (b := true) (r' := some (fd_I (-9))) rfl rfl rfl (rfl) ?_
        exact ⟨by rw [if_pos (by omega)], hK.1⟩

theorem fd_l_turn (T : fd_M) (hP : fd_RP T) (hS : fd_RS T) (hW : fd_RW T) (A : Nat) (eA : (4 : Int) ^ (T 204 0).toNat = (A : Int)) (hA : A ≤ 4096) (d : Int) (hd : -2 ≤ d ∧ d < T 204 0) : ∀ (n : Nat) (k : Nat) (K : fd_M) (u5 u6 : fd_V) (hK : fd_lk T K) (hk : k + n = A), fd_runE 6 97 20 [fd_R 199, fd_I d, fd_I (fd_tf (fd_okc' T) (fd_key T) k).1, fd_I (fd_tf (fd_okc' T) (fd_key T) k).2, fd_I ((k : Nat) : Int), u5, u6] [] K (fun r R => r = some (fd_I (if (fd_tf (fd_okc' T) (fd_key T) A).1 = -9 then -9 else if d = -1 then (fd_tf (fd_okc' T) (fd_key T) A).2 / 10 else if d = -2 then (fd_tf (fd_okc' T) (fd_key T) A).2 % 10 else fd_dg (T 204 0).toNat (fd_tf (fd_okc' T) (fd_key T) A).1.toNat d.toNat)) ∧ fd_smR T R) := by
  obtain ⟨g0, g1, g2, g3, g4, g5⟩ := id hP
  intro n
  induction n with
  | zero =>
    intro k K u5 u6 hK hk
    have hB : ∀ (q0 : Int), fd_bl 2 (List.drop 20 fd_c97) [fd_R 199, fd_I d, fd_I (fd_tf (fd_okc' T) (fd_key T) k).1, fd_I (fd_tf (fd_okc' T) (fd_key T) k).2, fd_I q0, u5, u6] [] K = some (true, [fd_R 199, fd_I d, fd_I (fd_tf (fd_okc' T) (fd_key T) k).1, fd_I (fd_tf (fd_okc' T) (fd_key T) k).2, fd_I q0, u5, u6], [fd_R 199, fd_I q0], K) := fun _ => rfl
    refine fd_e_blk 2 (C := fd_c97) (b := true) (L' := [fd_R 199, fd_I d, fd_I (fd_tf (fd_okc' T) (fd_key T) k).1, fd_I (fd_tf (fd_okc' T) (fd_key T) k).2, fd_I ((k : Nat) : Int), u5, u6]) (st' := [fd_R 199, fd_I ((k : Nat) : Int)]) (M' := K) rfl (hB ((k : Nat) : Int)) (j := 22) rfl (rfl) ?_
    clear hB
    refine fd_e_call (C := fd_c97) (d0 := 0) (mid := 96) (np := 1) (args := [fd_R 199]) (r1 := some (fd_I ((4 : Int) ^ (T 204 0).toNat))) (M1 := K) (st' := [fd_I ((4 : Int) ^ (T 204 0).toNat), fd_I ((k : Nat) : Int)]) rfl rfl rfl rfl rfl rfl (rfl) (fd_k_codes hP hK) rfl (by omega) ?_
    refine fd_e_br (C := fd_c97) (t := 50) (e := 24) (st' := []) (c := ((4 : Int) ^ (T 204 0).toNat) ≤ ((k : Nat) : Int)) (b := (fd_rng ((k : Nat) : Int) && fd_rng ((4 : Int) ^ (T 204 0).toNat))) rfl rfl rfl (fd_bA (fd_bR (by omega) (by omega)) (fd_bR (by omega) (by omega))) (fun h23 => ?_) (fun h23 => absurd h23 (by omega))
    have ek : k = A := by omega
    subst ek
    exact fd_f_turn T hP hS hW k eA hA d hd K hK _ _ _
  | succ n ih =>
    intro k K u5 u6 hK hk
    have qf := fd_tf_rng (fd_okc' T) (fd_key T) (fd_key_rng hP) k
    have qr := fd_key_rng hP k
    have eky : fd_key T k = 10 * fd_sum (fd_dR (fd_wy T (T 204 0).toNat k)) (T 204 0).toNat + fd_su (fd_ct T (T 204 0).toNat k) (T 204 0).toNat 0 := rfl
    have hB : ∀ (q0 : Int), fd_bl 2 (List.drop 20 fd_c97) [fd_R 199, fd_I d, fd_I (fd_tf (fd_okc' T) (fd_key T) k).1, fd_I (fd_tf (fd_okc' T) (fd_key T) k).2, fd_I q0, u5, u6] [] K = some (true, [fd_R 199, fd_I d, fd_I (fd_tf (fd_okc' T) (fd_key T) k).1, fd_I (fd_tf (fd_okc' T) (fd_key T) k).2, fd_I q0, u5, u6], [fd_R 199, fd_I q0], K) := fun _ => rfl
    refine fd_e_blk 2 (C := fd_c97) (b := true) (L' := [fd_R 199, fd_I d, fd_I (fd_tf (fd_okc' T) (fd_key T) k).1, fd_I (fd_tf (fd_okc' T) (fd_key T) k).2, fd_I ((k : Nat) : Int), u5, u6]) (st' := [fd_R 199, fd_I ((k : Nat) : Int)]) (M' := K) rfl (hB ((k : Nat) : Int)) (j := 22) rfl (rfl) ?_
    clear hB
    refine fd_e_call (C := fd_c97) (d0 := 0) (mid := 96) (np := 1) (args := [fd_R 199]) (r1 := some (fd_I ((4 : Int) ^ (T 204 0).toNat))) (M1 := K) (st' := [fd_I ((4 : Int) ^ (T 204 0).toNat), fd_I ((k : Nat) : Int)]) rfl rfl rfl rfl rfl rfl (rfl) (fd_k_codes hP hK) rfl (by omega) ?_
    refine fd_e_br (C := fd_c97) (t := 50) (e := 24) (st' := []) (c := ((4 : Int) ^ (T 204 0).toNat) ≤ ((k : Nat) : Int)) (b := (fd_rng ((k : Nat) : Int) && fd_rng ((4 : Int) ^ (T 204 0).toNat))) rfl rfl rfl (fd_bA (fd_bR (by omega) (by omega)) (fd_bR (by omega) (by omega))) (fun h23 => absurd h23 (by omega)) (fun h23 => ?_)
    have hB : ∀ (q0 : Int), fd_bl 2 (List.drop 24 fd_c97) [fd_R 199, fd_I d, fd_I (fd_tf (fd_okc' T) (fd_key T) k).1, fd_I (fd_tf (fd_okc' T) (fd_key T) k).2, fd_I q0, u5, u6] [] K = some (true, [fd_R 199, fd_I d, fd_I (fd_tf (fd_okc' T) (fd_key T) k).1, fd_I (fd_tf (fd_okc' T) (fd_key T) k).2, fd_I q0, u5, u6], [fd_I q0, fd_R 199], K) := fun _ => rfl
    refine fd_e_blk 2 (C := fd_c97) (b := true) (L' := [fd_R 199, fd_I d, fd_I (fd_tf (fd_okc' T) (fd_key T) k).1, fd_I (fd_tf (fd_okc' T) (fd_key T) k).2, fd_I ((k : Nat) : Int), u5, u6]) (st' := [fd_I ((k : Nat) : Int), fd_R 199]) (M' := K) rfl (hB ((k : Nat) : Int)) (j := 26) rfl (rfl) ?_
    clear hB
    refine fd_e_call (C := fd_c97) (d0 := 0) (mid := 95) (np := 2) (args := [fd_R 199, fd_I ((k : Nat) : Int)]) (r1 := some (fd_I (fd_su (fd_ct T (T 204 0).toNat k) (T 204 0).toNat 0))) (M1 := (fd_wy T (T 204 0).toNat k)) (st' := [fd_I (fd_su (fd_ct T (T 204 0).toNat k) (T 204 0).toNat 0)]) rfl rfl rfl rfl rfl rfl (rfl) (fd_k_take hP hS hK k (by omega)) rfl (by omega) ?_
    have qt := fd_su_rng (fd_ct_rng T (T 204 0).toNat k) (T 204 0).toNat 0
    have hB : ∀ (q0 : Int), fd_bl 2 (List.drop 27 fd_c97) [fd_R 199, fd_I d, fd_I (fd_tf (fd_okc' T) (fd_key T) k).1, fd_I (fd_tf (fd_okc' T) (fd_key T) k).2, fd_I q0, u5, u6] [fd_I (fd_su (fd_ct T (T 204 0).toNat k) (T 204 0).toNat 0)] (fd_wy T (T 204 0).toNat k) = some (true, [fd_R 199, fd_I d, fd_I (fd_tf (fd_okc' T) (fd_key T) k).1, fd_I (fd_tf (fd_okc' T) (fd_key T) k).2, fd_I q0, fd_I (fd_su (fd_ct T (T 204 0).toNat k) (T 204 0).toNat 0), u6], [fd_R 199], (fd_wy T (T 204 0).toNat k)) := fun _ => rfl
    refine fd_e_blk 2 (C := fd_c97) (b := true) (L' := [fd_R 199, fd_I d, fd_I (fd_tf (fd_okc' T) (fd_key T) k).1, fd_I (fd_tf (fd_okc' T) (fd_key T) k).2, fd_I ((k : Nat) : Int), fd_I (fd_su (fd_ct T (T 204 0).toNat k) (T 204 0).toNat 0), u6]) (st' := [fd_R 199]) (M' := (fd_wy T (T 204 0).toNat k)) rfl (hB ((k : Nat) : Int)) (j := 29) rfl (rfl) ?_
    clear hB
    refine fd_e_call (C := fd_c97) (d0 := 4) (mid := 93) (np := 1) (args := [fd_R 199]) (r1 := some (fd_I (fd_bi (fd_okc' T k = true)))) (M1 := (fd_wy T (T 204 0).toNat k)) (st' := [fd_I (fd_bi (fd_okc' T k = true))]) rfl rfl rfl rfl rfl rfl (rfl) (fd_w_ahw hP hS hW k) rfl (by omega) ?_
    refine fd_e_br (C := fd_c97) (t := 48) (e := 31) (st' := []) (c := (fd_bi (fd_okc' T k = true)) = 0) (b := (fd_rng (fd_bi (fd_okc' T k = true)))) rfl rfl rfl (fd_biR) (fun h30 => ?_) (fun h30 => ?_)
    · have h30 := fd_biF.mp h30
      have hB : ∀ (q0 : Int), fd_bl 1 (List.drop 48 fd_c97) [fd_R 199, fd_I d, fd_I (fd_tf (fd_okc' T) (fd_key T) k).1, fd_I (fd_tf (fd_okc' T) (fd_key T) k).2, fd_I q0, fd_I (fd_su (fd_ct T (T 204 0).toNat k) (T 204 0).toNat 0), u6] [] (fd_wy T (T 204 0).toNat k) = some (true, [fd_R 199, fd_I d, fd_I (fd_tf (fd_okc' T) (fd_key T) k).1, fd_I (fd_tf (fd_okc' T) (fd_key T) k).2, fd_I (q0 + 1), fd_I (fd_su (fd_ct T (T 204 0).toNat k) (T 204 0).toNat 0), u6], [], (fd_wy T (T 204 0).toNat k)) := fun _ => rfl
      refine fd_e_blk 1 (C := fd_c97) (b := true) (L' := [fd_R 199, fd_I d, fd_I (fd_tf (fd_okc' T) (fd_key T) k).1, fd_I (fd_tf (fd_okc' T) (fd_key T) k).2, fd_I (((k + 1) : Nat) : Int), fd_I (fd_su (fd_ct T (T 204 0).toNat k) (T 204 0).toNat 0), u6]) (st' := []) (M' := (fd_wy T (T 204 0).toNat k)) rfl (hB ((k : Nat) : Int)) (j := 49) rfl (rfl) ?_
      clear hB
      refine fd_e_jmp (C := fd_c97) (j := 20) (st' := []) rfl rfl (b := true) rfl rfl ?_
      have e5 : fd_tf (fd_okc' T) (fd_key T) (k + 1) = (fd_tf (fd_okc' T) (fd_key T) k) := by
        rw [fd_tf]
        first | (rw [if_neg h30]; done) | (rw [if_pos h30, if_neg (by omega)]; done)
      have zi := ih (k + 1) (fd_wy T (T 204 0).toNat k) (fd_I (fd_su (fd_ct T (T 204 0).toNat k) (T 204 0).toNat 0)) (u6) (fd_lk_wy T k) (by omega)
      rw [e5] at zi
      exact zi
    · have h30 := fd_biT.mp h30
      have hB : ∀ (q0 : Int), fd_bl 2 (List.drop 31 fd_c97) [fd_R 199, fd_I d, fd_I (fd_tf (fd_okc' T) (fd_key T) k).1, fd_I (fd_tf (fd_okc' T) (fd_key T) k).2, fd_I q0, fd_I (fd_su (fd_ct T (T 204 0).toNat k) (T 204 0).toNat 0), u6] [] (fd_wy T (T 204 0).toNat k) = some (true, [fd_R 199, fd_I d, fd_I (fd_tf (fd_okc' T) (fd_key T) k).1, fd_I (fd_tf (fd_okc' T) (fd_key T) k).2, fd_I q0, fd_I (fd_su (fd_ct T (T 204 0).toNat k) (T 204 0).toNat 0), u6], [fd_R 199, fd_I 10], (fd_wy T (T 204 0).toNat k)) := fun _ => rfl
      refine fd_e_blk 2 (C := fd_c97) (b := true) (L' := [fd_R 199, fd_I d, fd_I (fd_tf (fd_okc' T) (fd_key T) k).1, fd_I (fd_tf (fd_okc' T) (fd_key T) k).2, fd_I ((k : Nat) : Int), fd_I (fd_su (fd_ct T (T 204 0).toNat k) (T 204 0).toNat 0), u6]) (st' := [fd_R 199, fd_I 10]) (M' := (fd_wy T (T 204 0).toNat k)) rfl (hB ((k : Nat) : Int)) (j := 33) rfl (rfl) ?_
      clear hB
      refine fd_e_call (C := fd_c97) (d0 := 5) (mid := 77) (np := 1) (args := [fd_R 199]) (r1 := some (fd_I (fd_sum (fd_dR (fd_wy T (T 204 0).toNat k)) (T 204 0).toNat))) (M1 := (fd_wy T (T 204 0).toNat k)) (st' := [fd_I (fd_sum (fd_dR (fd_wy T (T 204 0).toNat k)) (T 204 0).toNat), fd_I 10]) rfl rfl rfl rfl rfl rfl (rfl) (fd_w_dues hP hS hW k) rfl (by omega) ?_
      have hB : ∀ (q0 : Int), fd_bl 6 (List.drop 34 fd_c97) [fd_R 199, fd_I d, fd_I (fd_tf (fd_okc' T) (fd_key T) k).1, fd_I (fd_tf (fd_okc' T) (fd_key T) k).2, fd_I q0, fd_I (fd_su (fd_ct T (T 204 0).toNat k) (T 204 0).toNat 0), u6] [fd_I (fd_sum (fd_dR (fd_wy T (T 204 0).toNat k)) (T 204 0).toNat), fd_I 10] (fd_wy T (T 204 0).toNat k) = some (true, [fd_R 199, fd_I d, fd_I (fd_tf (fd_okc' T) (fd_key T) k).1, fd_I (fd_tf (fd_okc' T) (fd_key T) k).2, fd_I q0, fd_I (fd_su (fd_ct T (T 204 0).toNat k) (T 204 0).toNat 0), fd_I ((10 * (fd_sum (fd_dR (fd_wy T (T 204 0).toNat k)) (T 204 0).toNat)) + (fd_su (fd_ct T (T 204 0).toNat k) (T 204 0).toNat 0))], [fd_I (-9), fd_I (fd_tf (fd_okc' T) (fd_key T) k).1], (fd_wy T (T 204 0).toNat k)) := fun _ => rfl
      refine fd_e_blk 6 (C := fd_c97) (b := true) (L' := [fd_R 199, fd_I d, fd_I (fd_tf (fd_okc' T) (fd_key T) k).1, fd_I (fd_tf (fd_okc' T) (fd_key T) k).2, fd_I ((k : Nat) : Int), fd_I (fd_su (fd_ct T (T 204 0).toNat k) (T 204 0).toNat 0), fd_I ((10 * (fd_sum (fd_dR (fd_wy T (T 204 0).toNat k)) (T 204 0).toNat)) + (fd_su (fd_ct T (T 204 0).toNat k) (T 204 0).toNat 0))]) (st' := [fd_I (-9), fd_I (fd_tf (fd_okc' T) (fd_key T) k).1]) (M' := (fd_wy T (T 204 0).toNat k)) rfl (hB ((k : Nat) : Int)) (j := 40) rfl (rfl) ?_
      clear hB
      refine fd_e_br (C := fd_c97) (t := 44) (e := 41) (st' := []) (c := (fd_tf (fd_okc' T) (fd_key T) k).1 = (-9)) (b := (fd_rng (fd_tf (fd_okc' T) (fd_key T) k).1 && fd_rng (-9))) rfl rfl rfl (fd_bA (fd_bR (by omega) (by omega)) (fd_bR (by omega) (by omega))) (fun h40 => ?_) (fun h40 => ?_)
      · have hB : ∀ (q0 : Int), fd_bl 5 (List.drop 44 fd_c97) [fd_R 199, fd_I d, fd_I (fd_tf (fd_okc' T) (fd_key T) k).1, fd_I (fd_tf (fd_okc' T) (fd_key T) k).2, fd_I q0, fd_I (fd_su (fd_ct T (T 204 0).toNat k) (T 204 0).toNat 0), fd_I ((10 * (fd_sum (fd_dR (fd_wy T (T 204 0).toNat k)) (T 204 0).toNat)) + (fd_su (fd_ct T (T 204 0).toNat k) (T 204 0).toNat 0))] [] (fd_wy T (T 204 0).toNat k) = some (true, [fd_R 199, fd_I d, fd_I q0, fd_I ((10 * (fd_sum (fd_dR (fd_wy T (T 204 0).toNat k)) (T 204 0).toNat)) + (fd_su (fd_ct T (T 204 0).toNat k) (T 204 0).toNat 0)), fd_I (q0 + 1), fd_I (fd_su (fd_ct T (T 204 0).toNat k) (T 204 0).toNat 0), fd_I ((10 * (fd_sum (fd_dR (fd_wy T (T 204 0).toNat k)) (T 204 0).toNat)) + (fd_su (fd_ct T (T 204 0).toNat k) (T 204 0).toNat 0))], [], (fd_wy T (T 204 0).toNat k)) := fun _ => rfl
        refine fd_e_blk 5 (C := fd_c97) (b := true) (L' := [fd_R 199, fd_I d, fd_I ((k : Nat) : Int), fd_I ((10 * (fd_sum (fd_dR (fd_wy T (T 204 0).toNat k)) (T 204 0).toNat)) + (fd_su (fd_ct T (T 204 0).toNat k) (T 204 0).toNat 0)), fd_I (((k + 1) : Nat) : Int), fd_I (fd_su (fd_ct T (T 204 0).toNat k) (T 204 0).toNat 0), fd_I ((10 * (fd_sum (fd_dR (fd_wy T (T 204 0).toNat k)) (T 204 0).toNat)) + (fd_su (fd_ct T (T 204 0).toNat k) (T 204 0).toNat 0))]) (st' := []) (M' := (fd_wy T (T 204 0).toNat k)) rfl (hB ((k : Nat) : Int)) (j := 49) rfl (rfl) ?_
        clear hB
        refine fd_e_jmp (C := fd_c97) (j := 20) (st' := []) rfl rfl (b := true) rfl rfl ?_
        have e5 : fd_tf (fd_okc' T) (fd_key T) (k + 1) = (((k : Nat) : Int), ((10 * (fd_sum (fd_dR (fd_wy T (T 204 0).toNat k)) (T 204 0).toNat)) + (fd_su (fd_ct T (T 204 0).toNat k) (T 204 0).toNat 0))) := by
          rw [fd_tf]
          rw [if_pos h30, if_pos (by first | exact Or.inl h40 | (right; omega))]
          rfl
        have zi := ih (k + 1) (fd_wy T (T 204 0).toNat k) (fd_I (fd_su (fd_ct T (T 204 0).toNat k) (T 204 0).toNat 0)) (fd_I ((10 * (fd_sum (fd_dR (fd_wy T (T 204 0).toNat k)) (T 204 0).toNat)) + (fd_su (fd_ct T (T 204 0).toNat k) (T 204 0).toNat 0))) (fd_lk_wy T k) (by omega)
        rw [e5] at zi
        exact zi
      · have hB : ∀ (q0 : Int), fd_bl 2 (List.drop 41 fd_c97) [fd_R 199, fd_I d, fd_I (fd_tf (fd_okc' T) (fd_key T) k).1, fd_I (fd_tf (fd_okc' T) (fd_key T) k).2, fd_I q0, fd_I (fd_su (fd_ct T (T 204 0).toNat k) (T 204 0).toNat 0), fd_I ((10 * (fd_sum (fd_dR (fd_wy T (T 204 0).toNat k)) (T 204 0).toNat)) + (fd_su (fd_ct T (T 204 0).toNat k) (T 204 0).toNat 0))] [] (fd_wy T (T 204 0).toNat k) = some (true, [fd_R 199, fd_I d, fd_I (fd_tf (fd_okc' T) (fd_key T) k).1, fd_I (fd_tf (fd_okc' T) (fd_key T) k).2, fd_I q0, fd_I (fd_su (fd_ct T (T 204 0).toNat k) (T 204 0).toNat 0), fd_I ((10 * (fd_sum (fd_dR (fd_wy T (T 204 0).toNat k)) (T 204 0).toNat)) + (fd_su (fd_ct T (T 204 0).toNat k) (T 204 0).toNat 0))], [fd_I (fd_tf (fd_okc' T) (fd_key T) k).2, fd_I ((10 * (fd_sum (fd_dR (fd_wy T (T 204 0).toNat k)) (T 204 0).toNat)) + (fd_su (fd_ct T (T 204 0).toNat k) (T 204 0).toNat 0))], (fd_wy T (T 204 0).toNat k)) := fun _ => rfl
        refine fd_e_blk 2 (C := fd_c97) (b := true) (L' := [fd_R 199, fd_I d, fd_I (fd_tf (fd_okc' T) (fd_key T) k).1, fd_I (fd_tf (fd_okc' T) (fd_key T) k).2, fd_I ((k : Nat) : Int), fd_I (fd_su (fd_ct T (T 204 0).toNat k) (T 204 0).toNat 0), fd_I ((10 * (fd_sum (fd_dR (fd_wy T (T 204 0).toNat k)) (T 204 0).toNat)) + (fd_su (fd_ct T (T 204 0).toNat k) (T 204 0).toNat 0))]) (st' := [fd_I (fd_tf (fd_okc' T) (fd_key T) k).2, fd_I ((10 * (fd_sum (fd_dR (fd_wy T (T 204 0).toNat k)) (T 204 0).toNat)) + (fd_su (fd_ct T (T 204 0).toNat k) (T 204 0).toNat 0))]) (M' := (fd_wy T (T 204 0).toNat k)) rfl (hB ((k : Nat) : Int)) (j := 43) rfl (rfl) ?_
        clear hB
        refine fd_e_br (C := fd_c97) (t := 48) (e := 44) (st' := []) (c := (fd_tf (fd_okc' T) (fd_key T) k).2 ≤ ((10 * (fd_sum (fd_dR (fd_wy T (T 204 0).toNat k)) (T 204 0).toNat)) + (fd_su (fd_ct T (T 204 0).toNat k) (T 204 0).toNat 0))) (b := (fd_rng ((10 * (fd_sum (fd_dR (fd_wy T (T 204 0).toNat k)) (T 204 0).toNat)) + (fd_su (fd_ct T (T 204 0).toNat k) (T 204 0).toNat 0)) && fd_rng (fd_tf (fd_okc' T) (fd_key T) k).2)) rfl rfl rfl (fd_bA (fd_bR (by omega) (by omega)) (fd_bR (by omega) (by omega))) (fun h43 => ?_) (fun h43 => ?_)
        · have hB : ∀ (q0 : Int), fd_bl 1 (List.drop 48 fd_c97) [fd_R 199, fd_I d, fd_I (fd_tf (fd_okc' T) (fd_key T) k).1, fd_I (fd_tf (fd_okc' T) (fd_key T) k).2, fd_I q0, fd_I (fd_su (fd_ct T (T 204 0).toNat k) (T 204 0).toNat 0), fd_I ((10 * (fd_sum (fd_dR (fd_wy T (T 204 0).toNat k)) (T 204 0).toNat)) + (fd_su (fd_ct T (T 204 0).toNat k) (T 204 0).toNat 0))] [] (fd_wy T (T 204 0).toNat k) = some (true, [fd_R 199, fd_I d, fd_I (fd_tf (fd_okc' T) (fd_key T) k).1, fd_I (fd_tf (fd_okc' T) (fd_key T) k).2, fd_I (q0 + 1), fd_I (fd_su (fd_ct T (T 204 0).toNat k) (T 204 0).toNat 0), fd_I ((10 * (fd_sum (fd_dR (fd_wy T (T 204 0).toNat k)) (T 204 0).toNat)) + (fd_su (fd_ct T (T 204 0).toNat k) (T 204 0).toNat 0))], [], (fd_wy T (T 204 0).toNat k)) := fun _ => rfl
          refine fd_e_blk 1 (C := fd_c97) (b := true) (L' := [fd_R 199, fd_I d, fd_I (fd_tf (fd_okc' T) (fd_key T) k).1, fd_I (fd_tf (fd_okc' T) (fd_key T) k).2, fd_I (((k + 1) : Nat) : Int), fd_I (fd_su (fd_ct T (T 204 0).toNat k) (T 204 0).toNat 0), fd_I ((10 * (fd_sum (fd_dR (fd_wy T (T 204 0).toNat k)) (T 204 0).toNat)) + (fd_su (fd_ct T (T 204 0).toNat k) (T 204 0).toNat 0))]) (st' := []) (M' := (fd_wy T (T 204 0).toNat k)) rfl (hB ((k : Nat) : Int)) (j := 49) rfl (rfl) ?_
          clear hB
          refine fd_e_jmp (C := fd_c97) (j := 20) (st' := []) rfl rfl (b := true) rfl rfl ?_
          have e5 : fd_tf (fd_okc' T) (fd_key T) (k + 1) = (fd_tf (fd_okc' T) (fd_key T) k) := by
            rw [fd_tf]
            first | (rw [if_neg h30]; done) | (rw [if_pos h30, if_neg (by omega)]; done)
          have zi := ih (k + 1) (fd_wy T (T 204 0).toNat k) (fd_I (fd_su (fd_ct T (T 204 0).toNat k) (T 204 0).toNat 0)) (fd_I ((10 * (fd_sum (fd_dR (fd_wy T (T 204 0).toNat k)) (T 204 0).toNat)) + (fd_su (fd_ct T (T 204 0).toNat k) (T 204 0).toNat 0))) (fd_lk_wy T k) (by omega)
          rw [e5] at zi
          exact zi
        · have hB : ∀ (q0 : Int), fd_bl 5 (List.drop 44 fd_c97) [fd_R 199, fd_I d, fd_I (fd_tf (fd_okc' T) (fd_key T) k).1, fd_I (fd_tf (fd_okc' T) (fd_key T) k).2, fd_I q0, fd_I (fd_su (fd_ct T (T 204 0).toNat k) (T 204 0).toNat 0), fd_I ((10 * (fd_sum (fd_dR (fd_wy T (T 204 0).toNat k)) (T 204 0).toNat)) + (fd_su (fd_ct T (T 204 0).toNat k) (T 204 0).toNat 0))] [] (fd_wy T (T 204 0).toNat k) = some (true, [fd_R 199, fd_I d, fd_I q0, fd_I ((10 * (fd_sum (fd_dR (fd_wy T (T 204 0).toNat k)) (T 204 0).toNat)) + (fd_su (fd_ct T (T 204 0).toNat k) (T 204 0).toNat 0)), fd_I (q0 + 1), fd_I (fd_su (fd_ct T (T 204 0).toNat k) (T 204 0).toNat 0), fd_I ((10 * (fd_sum (fd_dR (fd_wy T (T 204 0).toNat k)) (T 204 0).toNat)) + (fd_su (fd_ct T (T 204 0).toNat k) (T 204 0).toNat 0))], [], (fd_wy T (T 204 0).toNat k)) := fun _ => rfl
          refine fd_e_blk 5 (C := fd_c97) (b := true) (L' := [fd_R 199, fd_I d, fd_I ((k : Nat) : Int), fd_I ((10 * (fd_sum (fd_dR (fd_wy T (T 204 0).toNat k)) (T 204 0).toNat)) + (fd_su (fd_ct T (T 204 0).toNat k) (T 204 0).toNat 0)), fd_I (((k + 1) : Nat) : Int), fd_I (fd_su (fd_ct T (T 204 0).toNat k) (T 204 0).toNat 0), fd_I ((10 * (fd_sum (fd_dR (fd_wy T (T 204 0).toNat k)) (T 204 0).toNat)) + (fd_su (fd_ct T (T 204 0).toNat k) (T 204 0).toNat 0))]) (st' := []) (M' := (fd_wy T (T 204 0).toNat k)) rfl (hB ((k : Nat) : Int)) (j := 49) rfl (rfl) ?_
          clear hB
          refine fd_e_jmp (C := fd_c97) (j := 20) (st' := []) rfl rfl (b := true) rfl rfl ?_
          have e5 : fd_tf (fd_okc' T) (fd_key T) (k + 1) = (((k : Nat) : Int), ((10 * (fd_sum (fd_dR (fd_wy T (T 204 0).toNat k)) (T 204 0).toNat)) + (fd_su (fd_ct T (T 204 0).toNat k) (T 204 0).toNat 0))) := by
            rw [fd_tf]
            rw [if_pos h30, if_pos (by first | exact Or.inl h40 | (right; omega))]
            rfl
          have zi := ih (k + 1) (fd_wy T (T 204 0).toNat k) (fd_I (fd_su (fd_ct T (T 204 0).toNat k) (T 204 0).toNat 0)) (fd_I ((10 * (fd_sum (fd_dR (fd_wy T (T 204 0).toNat k)) (T 204 0).toNat)) + (fd_su (fd_ct T (T 204 0).toNat k) (T 204 0).toNat 0))) (fd_lk_wy T k) (by omega)
          rw [e5] at zi
          exact zi

def fd_A_turn (M : fd_M) (d : Int) : Int := if ¬ (-2 ≤ d ∧ d ≤ M 204 0 - 1) then -1 else if (fd_tf (fd_okc' (fd_tak M)) (fd_key (fd_tak M)) (4 ^ (M 204 0).toNat)).1 = -9 then -9 else if d = -1 then (fd_tf (fd_okc' (fd_tak M)) (fd_key (fd_tak M)) (4 ^ (M 204 0).toNat)).2 / 10 else if d = -2 then (fd_tf (fd_okc' (fd_tak M)) (fd_key (fd_tak M)) (4 ^ (M 204 0).toNat)).2 % 10 else fd_dg (M 204 0).toNat (fd_tf (fd_okc' (fd_tak M)) (fd_key (fd_tak M)) (4 ^ (M 204 0).toNat)).1.toNat d.toNat
theorem fd_r_turn (M : fd_M) (hP : fd_RP M) (hS : fd_RS M) (d : Int) (hd : -2147483648 ≤ d ∧ d < 2147483648) : fd_callE 6 97 [fd_R 199, fd_I d] M (fun r R => r = some (fd_I (fd_A_turn M d)) ∧ fd_smR M R) := by
  refine fd_e_in (L := [fd_R 199, fd_I d, fd_R 1003, fd_R 1003, fd_R 1003, fd_R 1003, fd_R 1003]) rfl ?_
  obtain ⟨g0, g1, g2, g3, g4, g5⟩ := id hP
  have t4 : fd_tak M 204 = M 204 := fd_tak_fr (by decide) (by decide)
  have t40 : fd_tak M 204 0 = M 204 0 := by rw [t4]
  have q4 := fd_4p (n := (M 204 0).toNat) (by omega)
  refine fd_e_blk 8 (C := fd_c97) (b := true) (L' := [fd_R 199, fd_I d, fd_R 1003, fd_R 1003, fd_R 1003, fd_R 1003, fd_R 1003]) (st' := [fd_I ((M 204 0) - 1), fd_I (-2), fd_I d]) (M' := M) rfl rfl (j := 8) rfl (rfl) ?_
  refine fd_e_call (C := fd_c97) (d0 := 0) (mid := 52) (np := 3) (args := [fd_I d, fd_I (-2), fd_I ((M 204 0) - 1)]) (r1 := some (fd_I (fd_bi ((-2) ≤ d ∧ d ≤ ((M 204 0) - 1))))) (M1 := M) (st' := [fd_I (fd_bi ((-2) ≤ d ∧ d ≤ ((M 204 0) - 1)))]) rfl rfl rfl rfl rfl rfl (rfl) (fd_r_in M d (-2) ((M 204 0) - 1) (by omega) (by omega) (by omega)) rfl (by omega) ?_
  refine fd_e_br (C := fd_c97) (t := 12) (e := 10) (st' := []) (c := ¬ (fd_bi ((-2) ≤ d ∧ d ≤ ((M 204 0) - 1))) = 0) (b := (fd_rng (fd_bi ((-2) ≤ d ∧ d ≤ ((M 204 0) - 1))))) rfl rfl rfl (fd_biR) (fun h9 => ?_) (fun h9 => ?_)
  · have h9 := fd_biT.mp h9
    refine fd_e_blk 1 (C := fd_c97) (b := true) (L' := [fd_R 199, fd_I d, fd_R 1003, fd_R 1003, fd_R 1003, fd_R 1003, fd_R 1003]) (st' := [fd_R 199]) (M' := M) rfl rfl (j := 13) rfl (rfl) ?_
    refine fd_e_call (C := fd_c97) (d0 := 0) (mid := 72) (np := 1) (args := [fd_R 199]) (r1 := none) (M1 := (fd_tak M)) (st' := []) rfl rfl rfl rfl rfl rfl (rfl) (fd_r_take M hS.2.2.2.2.1) rfl (by omega) ?_
    refine fd_e_blk 6 (C := fd_c97) (b := true) (L' := [fd_R 199, fd_I d, fd_I (-9), fd_I 0, fd_I 0, fd_R 1003, fd_R 1003]) (st' := []) (M' := (fd_tak M)) rfl rfl (j := 20) rfl (rfl) ?_
    have z := fd_l_turn (fd_tak M) (fd_RP_tak hP) (fd_RS_tak hS) (fd_RW_tak hP hS) (4 ^ (M 204 0).toNat) (by rw [t4]; exact q4.1) q4.2.2 d (by rw [t40]; omega) (4 ^ (M 204 0).toNat) 0 (fd_tak M) (fd_R 1003) (fd_R 1003) (fd_lk_rf _) (by omega)
    obtain ⟨r, R, zr, e1, e2⟩ := z
    refine ⟨r, R, zr, ?_, fd_smR_tr (fd_smR_tak M) e2⟩
    rw [e1, fd_A_turn, if_neg (show ¬ ¬ (-2 ≤ d ∧ d ≤ M 204 0 - 1) by omega), t40]
  · have h9 := fd_biF2  h9
    refine fd_e_blk 1 (C := fd_c97) (b := true) (L' := [fd_R 199, fd_I d, fd_R 1003, fd_R 1003, fd_R 1003, fd_R 1003, fd_R 1003]) (st' := [fd_I (-1)]) (M' := M) rfl rfl (j := 11) rfl (rfl) ?_
    refine fd_e_ret (C := fd_c97) (b := true) (r' := some (fd_I (-1))) rfl rfl rfl (rfl) ?_
    exact ⟨by rw [fd_A_turn, if_pos (show ¬ (-2 ≤ d ∧ d ≤ M 204 0 - 1) by omega)], fd_smR_rf M⟩


theorem fd_l_whoHasWayIn (M : fd_M) (hG : fd_CG M) : ∀ (n : Nat) (k : Nat) (hk : (k : Int) + n = M 3 2), fd_run 6 160 4 [fd_R 72, fd_I (fd_bits (fun j => fd_cvC M (M 15 j + fd_sx (M 17 j)) (M 16 j + fd_sy (M 17 j)) = 0) k), fd_I ((k : Nat) : Int)] [] M (some (fd_I (fd_bits (fun j => fd_cvC M (M 15 j + fd_sx (M 17 j)) (M 16 j + fd_sy (M 17 j)) = 0) (M 3 2).toNat))) M := by
  obtain ⟨g0, g1, g2, g3, g4, g5⟩ := hG.1
  obtain ⟨s1, s2, s3, s4, s5, s6, s7, s8⟩ := hG.2
  intro n
  induction n with
  | zero =>
    intro k hk
    have q3 := s3 k
    simp only [Nat.reduceAdd] at q3
    refine fd_u_blk 4 (C := fd_c160) (b := true) (L' := [fd_R 72, fd_I (fd_bits (fun j => fd_cvC M (M 15 j + fd_sx (M 17 j)) (M 16 j + fd_sy (M 17 j)) = 0) k), fd_I ((k : Nat) : Int)]) (st' := [fd_I (M 3 2), fd_I ((k : Nat) : Int)]) (M' := M) rfl rfl (j := 8) rfl (rfl) ?_
    refine fd_u_br (C := fd_c160) (t := 25) (e := 9) (st' := []) (c := (M 3 2) ≤ ((k : Nat) : Int)) (b := (fd_rng ((k : Nat) : Int) && fd_rng (M 3 2))) rfl rfl rfl (fd_bA (fd_bR (by omega) (by omega)) (fd_bR (by omega) (by omega))) (fun h8 => ?_) (fun h8 => absurd h8 (by omega))
    refine fd_u_blk 1 (C := fd_c160) (b := true) (L' := [fd_R 72, fd_I (fd_bits (fun j => fd_cvC M (M 15 j + fd_sx (M 17 j)) (M 16 j + fd_sy (M 17 j)) = 0) k), fd_I ((k : Nat) : Int)]) (st' := [fd_I (fd_bits (fun j => fd_cvC M (M 15 j + fd_sx (M 17 j)) (M 16 j + fd_sy (M 17 j)) = 0) k)]) (M' := M) rfl rfl (j := 26) rfl (rfl) ?_
    refine fd_u_ret (C := fd_c160) (b := true) (r' := some (fd_I (fd_bits (fun j => fd_cvC M (M 15 j + fd_sx (M 17 j)) (M 16 j + fd_sy (M 17 j)) = 0) k))) rfl rfl rfl (rfl) ?_ ?_
    · rw [show (M 3 2).toNat = k by omega]
    · rfl
  | succ n ih =>
    intro k hk
    have q3 := s3 k
    simp only [Nat.reduceAdd] at q3
    refine fd_u_blk 4 (C := fd_c160) (b := true) (L' := [fd_R 72, fd_I (fd_bits (fun j => fd_cvC M (M 15 j + fd_sx (M 17 j)) (M 16 j + fd_sy (M 17 j)) = 0) k), fd_I ((k : Nat) : Int)]) (st' := [fd_I (M 3 2), fd_I ((k : Nat) : Int)]) (M' := M) rfl rfl (j := 8) rfl (rfl) ?_
    refine fd_u_br (C := fd_c160) (t := 25) (e := 9) (st' := []) (c := (M 3 2) ≤ ((k : Nat) : Int)) (b := (fd_rng ((k : Nat) : Int) && fd_rng (M 3 2))) rfl rfl rfl (fd_bA (fd_bR (by omega) (by omega)) (fd_bR (by omega) (by omega))) (fun h8 => absurd h8 (by omega)) (fun h8 => ?_)
    refine fd_u_blk 7 (C := fd_c160) (b := (fd_inb ((k : Nat) : Int) 6 && true)) (L' := [fd_R 72, fd_I (fd_bits (fun j => fd_cvC M (M 15 j + fd_sx (M 17 j)) (M 16 j + fd_sy (M 17 j)) = 0) k), fd_I ((k : Nat) : Int)]) (st' := [fd_I (M 17 k), fd_I ((k : Nat) : Int), fd_R 72]) (M' := M) rfl rfl (j := 16) rfl (fd_bA (fd_bI (by omega) (by omega)) (rfl)) ?_
    refine fd_u_call (C := fd_c160) (d0 := 4) (mid := 159) (np := 3) (args := [fd_R 72, fd_I ((k : Nat) : Int), fd_I (M 17 k)]) (r1 := some (fd_I (fd_bi (fd_cvC M (M 15 k + fd_sx (M 17 k)) (M 16 k + fd_sy (M 17 k)) = 0)))) (M1 := M) (st' := [fd_I (fd_bi (fd_cvC M (M 15 k + fd_sx (M 17 k)) (M 16 k + fd_sy (M 17 k)) = 0))]) rfl rfl rfl rfl rfl rfl (rfl) (fd_s_hasWayIn M hG ((k : Nat) : Int) (by omega) (M 17 k) (by omega)) rfl (by omega) ?_
    refine fd_u_br (C := fd_c160) (t := 23) (e := 18) (st' := []) (c := (fd_bi (fd_cvC M (M 15 k + fd_sx (M 17 k)) (M 16 k + fd_sy (M 17 k)) = 0)) = 0) (b := (fd_rng (fd_bi (fd_cvC M (M 15 k + fd_sx (M 17 k)) (M 16 k + fd_sy (M 17 k)) = 0)))) rfl rfl rfl (fd_biR) (fun h17 => ?_) (fun h17 => ?_)
    · have h17 := fd_biF.mp h17
      refine fd_u_blk 1 (C := fd_c160) (b := true) (L' := [fd_R 72, fd_I (fd_bits (fun j => fd_cvC M (M 15 j + fd_sx (M 17 j)) (M 16 j + fd_sy (M 17 j)) = 0) k), fd_I (((k + 1) : Nat) : Int)]) (st' := []) (M' := M) rfl rfl (j := 24) rfl (rfl) ?_
      refine fd_u_jmp (C := fd_c160) (j := 4) (st' := []) rfl rfl (b := true) rfl rfl ?_
      have qb := fd_bits_rng (fun j => fd_cvC M (M 15 j + fd_sx (M 17 j)) (M 16 j + fd_sy (M 17 j)) = 0) k
      have e5 : (fd_bits (fun j => fd_cvC M (M 15 j + fd_sx (M 17 j)) (M 16 j + fd_sy (M 17 j)) = 0) k) = (fd_bits (fun j => fd_cvC M (M 15 j + fd_sx (M 17 j)) (M 16 j + fd_sy (M 17 j)) = 0) (k + 1)) := by
        show _ = fd_bits (fun j => fd_cvC M (M 15 j + fd_sx (M 17 j)) (M 16 j + fd_sy (M 17 j)) = 0) k + (if fd_cvC M (M 15 k + fd_sx (M 17 k)) (M 16 k + fd_sy (M 17 k)) = 0 then 2 ^ k else 0)
        rw [if_neg h17]; omega
      rw [e5]
      exact ih (k + 1) (by omega)
    · have h17 := fd_biT.mp h17
      refine fd_u_blk 2 (C := fd_c160) (b := true) (L' := [fd_R 72, fd_I (fd_bits (fun j => fd_cvC M (M 15 j + fd_sx (M 17 j)) (M 16 j + fd_sy (M 17 j)) = 0) k), fd_I ((k : Nat) : Int)]) (st' := [fd_I ((k : Nat) : Int), fd_I (fd_bits (fun j => fd_cvC M (M 15 j + fd_sx (M 17 j)) (M 16 j + fd_sy (M 17 j)) = 0) k)]) (M' := M) rfl rfl (j := 20) rfl (rfl) ?_
      refine fd_u_call (C := fd_c160) (d0 := 0) (mid := 45) (np := 1) (args := [fd_I ((k : Nat) : Int)]) (r1 := some (fd_I (if ((k : Nat) : Int) = -1 then 0 else 2 ^ ((k : Nat) : Int).toNat))) (M1 := M) (st' := [fd_I (if ((k : Nat) : Int) = -1 then 0 else 2 ^ ((k : Nat) : Int).toNat), fd_I (fd_bits (fun j => fd_cvC M (M 15 j + fd_sx (M 17 j)) (M 16 j + fd_sy (M 17 j)) = 0) k)]) rfl rfl rfl rfl rfl rfl (rfl) (fd_s_bitOf M ((k : Nat) : Int) (by omega)) rfl (by omega) ?_
      refine fd_u_blk 3 (C := fd_c160) (b := true) (L' := [fd_R 72, fd_I (fd_or (fd_bits (fun j => fd_cvC M (M 15 j + fd_sx (M 17 j)) (M 16 j + fd_sy (M 17 j)) = 0) k) (if ((k : Nat) : Int) = -1 then 0 else 2 ^ ((k : Nat) : Int).toNat)), fd_I (((k + 1) : Nat) : Int)]) (st' := []) (M' := M) rfl rfl (j := 24) rfl (rfl) ?_
      refine fd_u_jmp (C := fd_c160) (j := 4) (st' := []) rfl rfl (b := true) rfl rfl ?_
      have qb := fd_bits_rng (fun j => fd_cvC M (M 15 j + fd_sx (M 17 j)) (M 16 j + fd_sy (M 17 j)) = 0) k
      have e5 : (fd_or (fd_bits (fun j => fd_cvC M (M 15 j + fd_sx (M 17 j)) (M 16 j + fd_sy (M 17 j)) = 0) k) (if ((k : Nat) : Int) = -1 then 0 else 2 ^ ((k : Nat) : Int).toNat)) = (fd_bits (fun j => fd_cvC M (M 15 j + fd_sx (M 17 j)) (M 16 j + fd_sy (M 17 j)) = 0) (k + 1)) := by
        rw [if_neg (by omega)]
        show fd_or _ (2 ^ k) = fd_bits (fun j => fd_cvC M (M 15 j + fd_sx (M 17 j)) (M 16 j + fd_sy (M 17 j)) = 0) k + (if fd_cvC M (M 15 k + fd_sx (M 17 k)) (M 16 k + fd_sy (M 17 k)) = 0 then 2 ^ k else 0)
        rw [fd_orS (by omega) qb.1 qb.2, if_pos h17]
      rw [e5]
      exact ih (k + 1) (by omega)

theorem fd_s_whoHasWayIn (M : fd_M) (hG : fd_CG M) : fd_call 6 160 [fd_R 72] M (some (fd_I (fd_bits (fun j => fd_cvC M (M 15 j + fd_sx (M 17 j)) (M 16 j + fd_sy (M 17 j)) = 0) (M 3 2).toNat))) M := by
  refine fd_u_in (L := [fd_R 72, fd_R 1003, fd_R 1003]) rfl ?_
  obtain ⟨g0, g1, g2, g3, g4, g5⟩ := hG.1
  refine fd_u_blk 4 (C := fd_c160) (b := true) (L' := [fd_R 72, fd_I 0, fd_I 0]) (st' := []) (M' := M) rfl rfl (j := 4) rfl (rfl) ?_
  exact fd_l_whoHasWayIn M hG (M 3 2).toNat 0 (by omega)

theorem fd_l_owedByAll (M : fd_M) (hG : fd_CG M) : ∀ (n : Nat) (k : Nat) (hk : (k : Int) + n = M 3 2), fd_run 0 148 4 [fd_R 14, fd_I (M 3 2), fd_I (fd_sum (M 18) k), fd_I ((k : Nat) : Int)] [] M (some (fd_I (fd_sum (M 18) (M 3 2).toNat))) M := by
  obtain ⟨g0, g1, g2, g3, g4, g5⟩ := hG.1
  obtain ⟨s1, s2, s3, s4, s5, s6, s7, s8⟩ := hG.2
  intro n
  induction n with
  | zero =>
    intro k hk

    refine fd_u_blk 2 (C := fd_c148) (b := true) (L' := [fd_R 14, fd_I (M 3 2), fd_I (fd_sum (M 18) k), fd_I ((k : Nat) : Int)]) (st' := [fd_I (M 3 2), fd_I ((k : Nat) : Int)]) (M' := M) rfl rfl (j := 6) rfl (rfl) ?_
    refine fd_u_br (C := fd_c148) (t := 19) (e := 7) (st' := []) (c := (M 3 2) ≤ ((k : Nat) : Int)) (b := (fd_rng ((k : Nat) : Int) && fd_rng (M 3 2))) rfl rfl rfl (fd_bA (fd_bR (by omega) (by omega)) (fd_bR (by omega) (by omega))) (fun h6 => ?_) (fun h6 => absurd h6 (by omega))
    refine fd_u_blk 1 (C := fd_c148) (b := true) (L' := [fd_R 14, fd_I (M 3 2), fd_I (fd_sum (M 18) k), fd_I ((k : Nat) : Int)]) (st' := [fd_I (fd_sum (M 18) k)]) (M' := M) rfl rfl (j := 20) rfl (rfl) ?_
    refine fd_u_ret (C := fd_c148) (b := true) (r' := some (fd_I (fd_sum (M 18) k))) rfl rfl rfl (rfl) ?_ ?_
    · rw [show (M 3 2).toNat = k by omega]
    · rfl
  | succ n ih =>
    intro k hk

    refine fd_u_blk 2 (C := fd_c148) (b := true) (L' := [fd_R 14, fd_I (M 3 2), fd_I (fd_sum (M 18) k), fd_I ((k : Nat) : Int)]) (st' := [fd_I (M 3 2), fd_I ((k : Nat) : Int)]) (M' := M) rfl rfl (j := 6) rfl (rfl) ?_
    refine fd_u_br (C := fd_c148) (t := 19) (e := 7) (st' := []) (c := (M 3 2) ≤ ((k : Nat) : Int)) (b := (fd_rng ((k : Nat) : Int) && fd_rng (M 3 2))) rfl rfl rfl (fd_bA (fd_bR (by omega) (by omega)) (fd_bR (by omega) (by omega))) (fun h6 => absurd h6 (by omega)) (fun h6 => ?_)
    refine fd_u_blk 2 (C := fd_c148) (b := true) (L' := [fd_R 14, fd_I (M 3 2), fd_I (fd_sum (M 18) k), fd_I ((k : Nat) : Int)]) (st' := [fd_I 6, fd_I ((k : Nat) : Int)]) (M' := M) rfl rfl (j := 9) rfl (rfl) ?_
    refine fd_u_br (C := fd_c148) (t := 19) (e := 10) (st' := []) (c := 6 ≤ ((k : Nat) : Int)) (b := (fd_rng ((k : Nat) : Int) && fd_rng 6)) rfl rfl rfl (fd_bA (fd_bR (by omega) (by omega)) (fd_bR (by omega) (by omega))) (fun h9 => absurd h9 (by omega)) (fun h9 => ?_)
    refine fd_u_blk 8 (C := fd_c148) (b := (fd_inb ((k : Nat) : Int) 6 && true)) (L' := [fd_R 14, fd_I (M 3 2), fd_I ((fd_sum (M 18) k) + (M 18 k)), fd_I (((k + 1) : Nat) : Int)]) (st' := []) (M' := M) rfl rfl (j := 18) rfl (fd_bA (fd_bI (by omega) (by omega)) (rfl)) ?_
    refine fd_u_jmp (C := fd_c148) (j := 4) (st' := []) rfl rfl (b := true) rfl rfl ?_
    exact ih (k + 1) (by omega)

theorem fd_s_owedByAll (M : fd_M) (hG : fd_CG M) : fd_call 0 148 [fd_R 14, fd_I (M 3 2)] M (some (fd_I (fd_sum (M 18) (M 3 2).toNat))) M := by
  refine fd_u_in (L := [fd_R 14, fd_I (M 3 2), fd_R 1003, fd_R 1003]) rfl ?_
  obtain ⟨g0, g1, g2, g3, g4, g5⟩ := hG.1
  refine fd_u_blk 4 (C := fd_c148) (b := true) (L' := [fd_R 14, fd_I (M 3 2), fd_I 0, fd_I 0]) (st' := []) (M' := M) rfl rfl (j := 4) rfl (rfl) ?_
  exact fd_l_owedByAll M hG (M 3 2).toNat 0 (by omega)

theorem fd_x_cell (M : fd_M) (hG : fd_CG M) (x y : Int) (hx : -2147483648 ≤ x ∧ x < 2147483648) (hy : -2147483648 ≤ y ∧ y < 2147483648) : fd_call 4 4 [fd_R 0, fd_I x, fd_I y] M (some (fd_I (fd_cvC M x y))) M := by
  refine fd_u_in (L := [fd_R 0, fd_I x, fd_I y, fd_R 1003]) rfl ?_
  obtain ⟨g0, g1, g2, g3, g4, g5⟩ := hG.1
  refine fd_u_blk 4 (C := fd_c4) (b := true) (L' := [fd_R 0, fd_I x, fd_I y, fd_R 1003]) (st' := [fd_I y, fd_I x, fd_R 3]) (M' := M) rfl rfl (j := 4) rfl (rfl) ?_
  refine fd_u_call (C := fd_c4) (d0 := 0) (mid := 123) (np := 3) (args := [fd_R 3, fd_I x, fd_I y]) (r1 := some (fd_I (fd_bi (0 ≤ x ∧ x < M 3 0 ∧ 0 ≤ y ∧ y < M 3 1)))) (M1 := M) (st' := [fd_I (fd_bi (0 ≤ x ∧ x < M 3 0 ∧ 0 ≤ y ∧ y < M 3 1))]) rfl rfl rfl rfl rfl rfl (rfl) (fd_s_hasCell M x y (by omega) (by omega) (by omega) (by omega)) rfl (by omega) ?_
  refine fd_u_br (C := fd_c4) (t := 8) (e := 6) (st' := []) (c := ¬ (fd_bi (0 ≤ x ∧ x < M 3 0 ∧ 0 ≤ y ∧ y < M 3 1)) = 0) (b := (fd_rng (fd_bi (0 ≤ x ∧ x < M 3 0 ∧ 0 ≤ y ∧ y < M 3 1)))) rfl rfl rfl (fd_biR) (fun h5 => ?_) (fun h5 => ?_)
  · have h5 := fd_biT.mp h5
    refine fd_u_blk 7 (C := fd_c4) (b := true) (L' := [fd_R 0, fd_I x, fd_I y, fd_R 1003]) (st' := [fd_I (M 3 2), fd_I y, fd_I x, fd_R 14]) (M' := M) rfl rfl (j := 15) rfl (rfl) ?_
    refine fd_u_call (C := fd_c4) (d0 := 1) (mid := 147) (np := 4) (args := [fd_R 14, fd_I x, fd_I y, fd_I (M 3 2)]) (r1 := some (fd_I (fd_dor M x y))) (M1 := M) (st' := [fd_I (fd_dor M x y)]) rfl rfl rfl rfl rfl rfl (rfl) (fd_s_doorOn M hG x y (by omega) (by omega)) rfl (by omega) ?_
    have qd := fd_dor_rng (M := M) (by omega) x y
    refine fd_u_blk 3 (C := fd_c4) (b := true) (L' := [fd_R 0, fd_I x, fd_I y, fd_I (fd_dor M x y)]) (st' := [fd_I (-1), fd_I (fd_dor M x y)]) (M' := M) rfl rfl (j := 19) rfl (rfl) ?_
    refine fd_u_br (C := fd_c4) (t := 24) (e := 20) (st' := []) (c := (fd_dor M x y) = (-1)) (b := (fd_rng (fd_dor M x y) && fd_rng (-1))) rfl rfl rfl (fd_bA (fd_bR (by omega) (by omega)) (fd_bR (by omega) (by omega))) (fun h19 => ?_) (fun h19 => ?_)
    · refine fd_u_blk 4 (C := fd_c4) (b := true) (L' := [fd_R 0, fd_I x, fd_I y, fd_I (fd_dor M x y)]) (st' := [fd_I y, fd_I x, fd_R 14]) (M' := M) rfl rfl (j := 28) rfl (rfl) ?_
      refine fd_u_call (C := fd_c4) (d0 := 2) (mid := 145) (np := 3) (args := [fd_R 14, fd_I x, fd_I y]) (r1 := some (fd_I (fd_bi (M 14 5 / 2 ^ (y * 7 + x).toNat % 2 = 1)))) (M1 := M) (st' := [fd_I (fd_bi (M 14 5 / 2 ^ (y * 7 + x).toNat % 2 = 1))]) rfl rfl rfl rfl rfl rfl (rfl) (fd_s_hasCart M hG x y (by omega) (by omega)) rfl (by omega) ?_
      refine fd_u_br (C := fd_c4) (t := 32) (e := 30) (st' := []) (c := (fd_bi (M 14 5 / 2 ^ (y * 7 + x).toNat % 2 = 1)) = 0) (b := (fd_rng (fd_bi (M 14 5 / 2 ^ (y * 7 + x).toNat % 2 = 1)))) rfl rfl rfl (fd_biR) (fun h29 => ?_) (fun h29 => ?_)
      · have h29 := fd_biF.mp h29
        refine fd_u_blk 4 (C := fd_c4) (b := true) (L' := [fd_R 0, fd_I x, fd_I y, fd_I (fd_dor M x y)]) (st' := [fd_I y, fd_I x, fd_R 3]) (M' := M) rfl rfl (j := 36) rfl (rfl) ?_
        refine fd_u_call (C := fd_c4) (d0 := 1) (mid := 125) (np := 3) (args := [fd_R 3, fd_I x, fd_I y]) (r1 := some (fd_I (if 0 ≤ x ∧ x < M 3 0 ∧ 0 ≤ y ∧ y < M 3 1 then M 4 (y * 7 + x).toNat else 1))) (M1 := M) (st' := [fd_I (if 0 ≤ x ∧ x < M 3 0 ∧ 0 ≤ y ∧ y < M 3 1 then M 4 (y * 7 + x).toNat else 1)]) rfl rfl rfl rfl rfl rfl (rfl) (fd_s_groundAt M hG.1 x y (by omega) (by omega)) rfl (by omega) ?_
        refine fd_u_ret (C := fd_c4) (b := true) (r' := some (fd_I (if 0 ≤ x ∧ x < M 3 0 ∧ 0 ≤ y ∧ y < M 3 1 then M 4 (y * 7 + x).toNat else 1))) rfl rfl rfl (rfl) ?_ ?_
        · unfold fd_cvC
          first | rw [if_neg h5] | rw [if_pos h5, if_neg h19] | rw [if_pos h5, if_pos h19, if_pos h29] | rw [if_pos h5, if_pos h19, if_neg h29, if_pos h5]
        · rfl
      · have h29 := fd_biT.mp h29
        refine fd_u_blk 1 (C := fd_c4) (b := true) (L' := [fd_R 0, fd_I x, fd_I y, fd_I (fd_dor M x y)]) (st' := [fd_I 3]) (M' := M) rfl rfl (j := 31) rfl (rfl) ?_
        refine fd_u_jmp (C := fd_c4) (j := 37) (st' := [fd_I 3]) rfl rfl (b := true) rfl rfl ?_
        refine fd_u_ret (C := fd_c4) (b := true) (r' := some (fd_I 3)) rfl rfl rfl (rfl) ?_ ?_
        · unfold fd_cvC
          first | rw [if_neg h5] | rw [if_pos h5, if_neg h19] | rw [if_pos h5, if_pos h19, if_pos h29] | rw [if_pos h5, if_pos h19, if_neg h29, if_pos h5]
        · rfl
    · refine fd_u_blk 3 (C := fd_c4) (b := true) (L' := [fd_R 0, fd_I x, fd_I y, fd_I (fd_dor M x y)]) (st' := [fd_I (10 + (fd_dor M x y))]) (M' := M) rfl rfl (j := 23) rfl (rfl) ?_
      refine fd_u_ret (C := fd_c4) (b := true) (r' := some (fd_I (10 + (fd_dor M x y)))) rfl rfl rfl (rfl) ?_ ?_
      · unfold fd_cvC
        first | rw [if_neg h5] | rw [if_pos h5, if_neg h19] | rw [if_pos h5, if_pos h19, if_pos h29] | rw [if_pos h5, if_pos h19, if_neg h29, if_pos h5]
      · rfl
  · have h5 := fd_biF2  h5
    refine fd_u_blk 1 (C := fd_c4) (b := true) (L' := [fd_R 0, fd_I x, fd_I y, fd_R 1003]) (st' := [fd_I (-1)]) (M' := M) rfl rfl (j := 7) rfl (rfl) ?_
    refine fd_u_ret (C := fd_c4) (b := true) (r' := some (fd_I (-1))) rfl rfl rfl (rfl) ?_ ?_
    · unfold fd_cvC
      first | rw [if_neg h5] | rw [if_pos h5, if_neg h19] | rw [if_pos h5, if_pos h19, if_pos h29] | rw [if_pos h5, if_pos h19, if_neg h29, if_pos h5]
    · rfl

def fd_X_door (M : fd_M) (d w : Int) : Int := if ¬ (0 ≤ d ∧ d < M 3 2) then -1 else if w = 0 then M 15 d.toNat else if w = 1 then M 16 d.toNat else if w = 2 then M 17 d.toNat else if w = 3 then fd_bi (M 14 4 / 2 ^ d.toNat % 2 = 1) else if w = 4 then (if fd_nb (fd_sw M d.toNat) = -1 then 0 else 2 ^ (fd_nb (fd_sw M d.toNat)).toNat) else if w = 5 then fd_dueC M d.toNat else if w = 6 then fd_bi (fd_cvC M (M 15 d.toNat + fd_sx (M 17 d.toNat)) (M 16 d.toNat + fd_sy (M 17 d.toNat)) = 0) else if w = 7 then fd_bits (fun j => fd_nb (fd_sw M j) = d) (M 3 2).toNat else if w = 8 then M 18 d.toNat else -1
def fd_X_now (M : fd_M) (w : Int) : Int := if w = 0 then fd_sum (fd_dueC M) (M 3 2).toNat else if w = 1 then M 14 4 else if w = 2 then fd_bits (fun j => fd_cvC M (M 15 j + fd_sx (M 17 j)) (M 16 j + fd_sy (M 17 j)) = 0) (M 3 2).toNat else if w = 3 then fd_sum (fun j => if fd_nb (fd_sw M j) > j ∧ fd_nb (fd_sw M (fd_nb (fd_sw M j)).toNat) = j then 1 else 0) (M 3 2).toNat else if w = 4 then fd_lbc (M 14 5) else if w = 5 then M 14 6 else if w = 6 then M 14 7 else if w = 7 then fd_sum (M 18) (M 3 2).toNat else -1
def fd_X_count (M : fd_M) (w : Int) : Int := if w = 0 then M 3 0 else if w = 1 then M 3 1 else if w = 2 then M 3 2 else if w = 3 then M 3 3 else if w = 4 then M 3 4 else if w = 5 then M 78 2 else if w = 6 then M 19 1 else if w = 7 then M 1 1 else -1
theorem fd_x_door (M : fd_M) (hG : fd_CG M) (d : Int) (hd : -2147483648 ≤ d ∧ d < 2147483648) (w : Int) (hw : -2147483648 ≤ w ∧ w < 2147483648) : fd_call 7 5 [fd_R 0, fd_I d, fd_I w] M (some (fd_I (fd_X_door M d w))) M := by
  refine fd_u_in (L := [fd_R 0, fd_I d, fd_I w]) rfl ?_
  obtain ⟨g0, g1, g2, g3, g4, g5⟩ := hG.1
  obtain ⟨s1, s2, s3, s4, s5, s6, s7, s8⟩ := hG.2
  have q1 := s1 d.toNat
  have q2 := s2 d.toNat
  have q3 := s3 d.toNat
  have q4 := s4 d.toNat
  simp only [Nat.reduceAdd] at q1 q2 q3 q4
  refine fd_u_blk 3 (C := fd_c5) (b := true) (L' := [fd_R 0, fd_I d, fd_I w]) (st' := [fd_I d, fd_R 3]) (M' := M) rfl rfl (j := 3) rfl (rfl) ?_
  refine fd_u_call (C := fd_c5) (d0 := 0) (mid := 124) (np := 2) (args := [fd_R 3, fd_I d]) (r1 := some (fd_I (fd_bi (0 ≤ d ∧ d < M 3 2)))) (M1 := M) (st' := [fd_I (fd_bi (0 ≤ d ∧ d < M 3 2))]) rfl rfl rfl rfl rfl rfl (rfl) (fd_s_hasDoor M d (by omega) (by omega)) rfl (by omega) ?_
  refine fd_u_br (C := fd_c5) (t := 7) (e := 5) (st' := []) (c := ¬ (fd_bi (0 ≤ d ∧ d < M 3 2)) = 0) (b := (fd_rng (fd_bi (0 ≤ d ∧ d < M 3 2)))) rfl rfl rfl (fd_biR) (fun h4 => ?_) (fun h4 => ?_)
  · have h4 := fd_biT.mp h4
    refine fd_u_blk 1 (C := fd_c5) (b := true) (L' := [fd_R 0, fd_I d, fd_I w]) (st' := [fd_I w]) (M' := M) rfl rfl (j := 8) rfl (rfl) ?_
    by_cases h8_0 : w = 0
    · refine fd_u_jmp (C := fd_c5) (j := 9) (st' := []) rfl rfl (b := fd_rng w) (by rw [h8_0]; rfl) (fd_bR (by omega) (by omega)) ?_
      refine fd_u_blk 5 (C := fd_c5) (b := (fd_inb d 6 && true)) (L' := [fd_R 0, fd_I d, fd_I w]) (st' := [fd_I (M 15 (d).toNat)]) (M' := M) rfl rfl (j := 14) rfl (fd_bA (fd_bI (by omega) (by omega)) (rfl)) ?_
      refine fd_u_ret (C := fd_c5) (b := true) (r' := some (fd_I (M 15 (d).toNat))) rfl rfl rfl (rfl) ?_ ?_
      · first | rw [fd_X_door, if_neg (show ¬ ¬ (0 ≤ d ∧ d < M 3 2) by omega), if_pos h8_0] | rw [fd_X_door, if_neg (show ¬ ¬ (0 ≤ d ∧ d < M 3 2) by omega), if_neg h8_0, if_pos h8_1] | rw [fd_X_door, if_neg (show ¬ ¬ (0 ≤ d ∧ d < M 3 2) by omega), if_neg h8_0, if_neg h8_1, if_pos h8_2] | rw [fd_X_door, if_neg (show ¬ ¬ (0 ≤ d ∧ d < M 3 2) by omega), if_neg h8_0, if_neg h8_1, if_neg h8_2, if_pos h8_3] | rw [fd_X_door, if_neg (show ¬ ¬ (0 ≤ d ∧ d < M 3 2) by omega), if_neg h8_0, if_neg h8_1, if_neg h8_2, if_neg h8_3, if_pos h8_4] | rw [fd_X_door, if_neg (show ¬ ¬ (0 ≤ d ∧ d < M 3 2) by omega), if_neg h8_0, if_neg h8_1, if_neg h8_2, if_neg h8_3, if_neg h8_4, if_pos h8_5] | rw [fd_X_door, if_neg (show ¬ ¬ (0 ≤ d ∧ d < M 3 2) by omega), if_neg h8_0, if_neg h8_1, if_neg h8_2, if_neg h8_3, if_neg h8_4, if_neg h8_5, if_pos h8_6] | rw [fd_X_door, if_neg (show ¬ ¬ (0 ≤ d ∧ d < M 3 2) by omega), if_neg h8_0, if_neg h8_1, if_neg h8_2, if_neg h8_3, if_neg h8_4, if_neg h8_5, if_neg h8_6, if_pos h8_7] | rw [fd_X_door, if_neg (show ¬ ¬ (0 ≤ d ∧ d < M 3 2) by omega), if_neg h8_0, if_neg h8_1, if_neg h8_2, if_neg h8_3, if_neg h8_4, if_neg h8_5, if_neg h8_6, if_neg h8_7, if_pos h8_8] | rw [fd_X_door, if_neg (show ¬ ¬ (0 ≤ d ∧ d < M 3 2) by omega), if_neg h8_0, if_neg h8_1, if_neg h8_2, if_neg h8_3, if_neg h8_4, if_neg h8_5, if_neg h8_6, if_neg h8_7, if_neg h8_8] | rw [fd_X_door, if_pos (show ¬ (0 ≤ d ∧ d < M 3 2) by omega)]
      · rfl
    by_cases h8_1 : w = 1
    · refine fd_u_jmp (C := fd_c5) (j := 15) (st' := []) rfl rfl (b := fd_rng w) (by rw [h8_1]; rfl) (fd_bR (by omega) (by omega)) ?_
      refine fd_u_blk 5 (C := fd_c5) (b := (fd_inb d 6 && true)) (L' := [fd_R 0, fd_I d, fd_I w]) (st' := [fd_I (M 16 (d).toNat)]) (M' := M) rfl rfl (j := 20) rfl (fd_bA (fd_bI (by omega) (by omega)) (rfl)) ?_
      refine fd_u_ret (C := fd_c5) (b := true) (r' := some (fd_I (M 16 (d).toNat))) rfl rfl rfl (rfl) ?_ ?_
      · first | rw [fd_X_door, if_neg (show ¬ ¬ (0 ≤ d ∧ d < M 3 2) by omega), if_pos h8_0] | rw [fd_X_door, if_neg (show ¬ ¬ (0 ≤ d ∧ d < M 3 2) by omega), if_neg h8_0, if_pos h8_1] | rw [fd_X_door, if_neg (show ¬ ¬ (0 ≤ d ∧ d < M 3 2) by omega), if_neg h8_0, if_neg h8_1, if_pos h8_2] | rw [fd_X_door, if_neg (show ¬ ¬ (0 ≤ d ∧ d < M 3 2) by omega), if_neg h8_0, if_neg h8_1, if_neg h8_2, if_pos h8_3] | rw [fd_X_door, if_neg (show ¬ ¬ (0 ≤ d ∧ d < M 3 2) by omega), if_neg h8_0, if_neg h8_1, if_neg h8_2, if_neg h8_3, if_pos h8_4] | rw [fd_X_door, if_neg (show ¬ ¬ (0 ≤ d ∧ d < M 3 2) by omega), if_neg h8_0, if_neg h8_1, if_neg h8_2, if_neg h8_3, if_neg h8_4, if_pos h8_5] | rw [fd_X_door, if_neg (show ¬ ¬ (0 ≤ d ∧ d < M 3 2) by omega), if_neg h8_0, if_neg h8_1, if_neg h8_2, if_neg h8_3, if_neg h8_4, if_neg h8_5, if_pos h8_6] | rw [fd_X_door, if_neg (show ¬ ¬ (0 ≤ d ∧ d < M 3 2) by omega), if_neg h8_0, if_neg h8_1, if_neg h8_2, if_neg h8_3, if_neg h8_4, if_neg h8_5, if_neg h8_6, if_pos h8_7] | rw [fd_X_door, if_neg (show ¬ ¬ (0 ≤ d ∧ d < M 3 2) by omega), if_neg h8_0, if_neg h8_1, if_neg h8_2, if_neg h8_3, if_neg h8_4, if_neg h8_5, if_neg h8_6, if_neg h8_7, if_pos h8_8] | rw [fd_X_door, if_neg (show ¬ ¬ (0 ≤ d ∧ d < M 3 2) by omega), if_neg h8_0, if_neg h8_1, if_neg h8_2, if_neg h8_3, if_neg h8_4, if_neg h8_5, if_neg h8_6, if_neg h8_7, if_neg h8_8] | rw [fd_X_door, if_pos (show ¬ (0 ≤ d ∧ d < M 3 2) by omega)]
      · rfl
    by_cases h8_2 : w = 2
    · refine fd_u_jmp (C := fd_c5) (j := 21) (st' := []) rfl rfl (b := fd_rng w) (by rw [h8_2]; rfl) (fd_bR (by omega) (by omega)) ?_
      refine fd_u_blk 5 (C := fd_c5) (b := (fd_inb d 6 && true)) (L' := [fd_R 0, fd_I d, fd_I w]) (st' := [fd_I (M 17 (d).toNat)]) (M' := M) rfl rfl (j := 26) rfl (fd_bA (fd_bI (by omega) (by omega)) (rfl)) ?_
      refine fd_u_ret (C := fd_c5) (b := true) (r' := some (fd_I (M 17 (d).toNat))) rfl rfl rfl (rfl) ?_ ?_
      · first | rw [fd_X_door, if_neg (show ¬ ¬ (0 ≤ d ∧ d < M 3 2) by omega), if_pos h8_0] | rw [fd_X_door, if_neg (show ¬ ¬ (0 ≤ d ∧ d < M 3 2) by omega), if_neg h8_0, if_pos h8_1] | rw [fd_X_door, if_neg (show ¬ ¬ (0 ≤ d ∧ d < M 3 2) by omega), if_neg h8_0, if_neg h8_1, if_pos h8_2] | rw [fd_X_door, if_neg (show ¬ ¬ (0 ≤ d ∧ d < M 3 2) by omega), if_neg h8_0, if_neg h8_1, if_neg h8_2, if_pos h8_3] | rw [fd_X_door, if_neg (show ¬ ¬ (0 ≤ d ∧ d < M 3 2) by omega), if_neg h8_0, if_neg h8_1, if_neg h8_2, if_neg h8_3, if_pos h8_4] | rw [fd_X_door, if_neg (show ¬ ¬ (0 ≤ d ∧ d < M 3 2) by omega), if_neg h8_0, if_neg h8_1, if_neg h8_2, if_neg h8_3, if_neg h8_4, if_pos h8_5] | rw [fd_X_door, if_neg (show ¬ ¬ (0 ≤ d ∧ d < M 3 2) by omega), if_neg h8_0, if_neg h8_1, if_neg h8_2, if_neg h8_3, if_neg h8_4, if_neg h8_5, if_pos h8_6] | rw [fd_X_door, if_neg (show ¬ ¬ (0 ≤ d ∧ d < M 3 2) by omega), if_neg h8_0, if_neg h8_1, if_neg h8_2, if_neg h8_3, if_neg h8_4, if_neg h8_5, if_neg h8_6, if_pos h8_7] | rw [fd_X_door, if_neg (show ¬ ¬ (0 ≤ d ∧ d < M 3 2) by omega), if_neg h8_0, if_neg h8_1, if_neg h8_2, if_neg h8_3, if_neg h8_4, if_neg h8_5, if_neg h8_6, if_neg h8_7, if_pos h8_8] | rw [fd_X_door, if_neg (show ¬ ¬ (0 ≤ d ∧ d < M 3 2) by omega), if_neg h8_0, if_neg h8_1, if_neg h8_2, if_neg h8_3, if_neg h8_4, if_neg h8_5, if_neg h8_6, if_neg h8_7, if_neg h8_8] | rw [fd_X_door, if_pos (show ¬ (0 ≤ d ∧ d < M 3 2) by omega)]
      · rfl
    by_cases h8_3 : w = 3
    · refine fd_u_jmp (C := fd_c5) (j := 27) (st' := []) rfl rfl (b := fd_rng w) (by rw [h8_3]; rfl) (fd_bR (by omega) (by omega)) ?_
      refine fd_u_blk 3 (C := fd_c5) (b := true) (L' := [fd_R 0, fd_I d, fd_I w]) (st' := [fd_I d, fd_R 14]) (M' := M) rfl rfl (j := 30) rfl (rfl) ?_
      refine fd_u_call (C := fd_c5) (d0 := 1) (mid := 144) (np := 2) (args := [fd_R 14, fd_I d]) (r1 := some (fd_I (fd_bi (M 14 4 / 2 ^ (d).toNat % 2 = 1)))) (M1 := M) (st' := [fd_I (fd_bi (M 14 4 / 2 ^ (d).toNat % 2 = 1))]) rfl rfl rfl rfl rfl rfl (rfl) (fd_s_isOpen M hG d (by omega)) rfl (by omega) ?_
      refine fd_u_call (C := fd_c5) (d0 := 0) (mid := 43) (np := 1) (args := [fd_I (fd_bi (M 14 4 / 2 ^ (d).toNat % 2 = 1))]) (r1 := some (fd_I (fd_bi (M 14 4 / 2 ^ (d).toNat % 2 = 1)))) (M1 := M) (st' := [fd_I (fd_bi (M 14 4 / 2 ^ (d).toNat % 2 = 1))]) rfl rfl rfl rfl rfl rfl (rfl) (fd_s_flag M (fd_bi (M 14 4 / 2 ^ (d).toNat % 2 = 1)) (fd_bi_rng _)) rfl (by omega) ?_
      refine fd_u_ret (C := fd_c5) (b := true) (r' := some (fd_I (fd_bi (M 14 4 / 2 ^ (d).toNat % 2 = 1)))) rfl rfl rfl (rfl) ?_ ?_
      · first | rw [fd_X_door, if_neg (show ¬ ¬ (0 ≤ d ∧ d < M 3 2) by omega), if_pos h8_0] | rw [fd_X_door, if_neg (show ¬ ¬ (0 ≤ d ∧ d < M 3 2) by omega), if_neg h8_0, if_pos h8_1] | rw [fd_X_door, if_neg (show ¬ ¬ (0 ≤ d ∧ d < M 3 2) by omega), if_neg h8_0, if_neg h8_1, if_pos h8_2] | rw [fd_X_door, if_neg (show ¬ ¬ (0 ≤ d ∧ d < M 3 2) by omega), if_neg h8_0, if_neg h8_1, if_neg h8_2, if_pos h8_3] | rw [fd_X_door, if_neg (show ¬ ¬ (0 ≤ d ∧ d < M 3 2) by omega), if_neg h8_0, if_neg h8_1, if_neg h8_2, if_neg h8_3, if_pos h8_4] | rw [fd_X_door, if_neg (show ¬ ¬ (0 ≤ d ∧ d < M 3 2) by omega), if_neg h8_0, if_neg h8_1, if_neg h8_2, if_neg h8_3, if_neg h8_4, if_pos h8_5] | rw [fd_X_door, if_neg (show ¬ ¬ (0 ≤ d ∧ d < M 3 2) by omega), if_neg h8_0, if_neg h8_1, if_neg h8_2, if_neg h8_3, if_neg h8_4, if_neg h8_5, if_pos h8_6] | rw [fd_X_door, if_neg (show ¬ ¬ (0 ≤ d ∧ d < M 3 2) by omega), if_neg h8_0, if_neg h8_1, if_neg h8_2, if_neg h8_3, if_neg h8_4, if_neg h8_5, if_neg h8_6, if_pos h8_7] | rw [fd_X_door, if_neg (show ¬ ¬ (0 ≤ d ∧ d < M 3 2) by omega), if_neg h8_0, if_neg h8_1, if_neg h8_2, if_neg h8_3, if_neg h8_4, if_neg h8_5, if_neg h8_6, if_neg h8_7, if_pos h8_8] | rw [fd_X_door, if_neg (show ¬ ¬ (0 ≤ d ∧ d < M 3 2) by omega), if_neg h8_0, if_neg h8_1, if_neg h8_2, if_neg h8_3, if_neg h8_4, if_neg h8_5, if_neg h8_6, if_neg h8_7, if_neg h8_8] | rw [fd_X_door, if_pos (show ¬ (0 ≤ d ∧ d < M 3 2) by omega)]
      · rfl
    by_cases h8_4 : w = 4
    · refine fd_u_jmp (C := fd_c5) (j := 33) (st' := []) rfl rfl (b := fd_rng w) (by rw [h8_4]; rfl) (fd_bR (by omega) (by omega)) ?_
      refine fd_u_blk 3 (C := fd_c5) (b := true) (L' := [fd_R 0, fd_I d, fd_I w]) (st' := [fd_I d, fd_R 72]) (M' := M) rfl rfl (j := 36) rfl (rfl) ?_
      refine fd_u_call (C := fd_c5) (d0 := 5) (mid := 153) (np := 2) (args := [fd_R 72, fd_I d]) (r1 := some (fd_I (fd_nb (fd_sw M (d).toNat)))) (M1 := M) (st' := [fd_I (fd_nb (fd_sw M (d).toNat))]) rfl rfl rfl rfl rfl rfl (rfl) (fd_s_seesWhom M hG d (by omega)) rfl (by omega) ?_
      have qn19 := fd_nb_cases (fd_sw_rng hG (d).toNat)
      refine fd_u_call (C := fd_c5) (d0 := 0) (mid := 45) (np := 1) (args := [fd_I (fd_nb (fd_sw M (d).toNat))]) (r1 := some (fd_I (if (fd_nb (fd_sw M (d).toNat)) = -1 then 0 else 2 ^ (fd_nb (fd_sw M (d).toNat)).toNat))) (M1 := M) (st' := [fd_I (if (fd_nb (fd_sw M (d).toNat)) = -1 then 0 else 2 ^ (fd_nb (fd_sw M (d).toNat)).toNat)]) rfl rfl rfl rfl rfl rfl (rfl) (fd_s_bitOf M (fd_nb (fd_sw M (d).toNat)) (by omega)) rfl (by omega) ?_
      refine fd_u_ret (C := fd_c5) (b := true) (r' := some (fd_I (if (fd_nb (fd_sw M (d).toNat)) = -1 then 0 else 2 ^ (fd_nb (fd_sw M (d).toNat)).toNat))) rfl rfl rfl (rfl) ?_ ?_
      · first | rw [fd_X_door, if_neg (show ¬ ¬ (0 ≤ d ∧ d < M 3 2) by omega), if_pos h8_0] | rw [fd_X_door, if_neg (show ¬ ¬ (0 ≤ d ∧ d < M 3 2) by omega), if_neg h8_0, if_pos h8_1] | rw [fd_X_door, if_neg (show ¬ ¬ (0 ≤ d ∧ d < M 3 2) by omega), if_neg h8_0, if_neg h8_1, if_pos h8_2] | rw [fd_X_door, if_neg (show ¬ ¬ (0 ≤ d ∧ d < M 3 2) by omega), if_neg h8_0, if_neg h8_1, if_neg h8_2, if_pos h8_3] | rw [fd_X_door, if_neg (show ¬ ¬ (0 ≤ d ∧ d < M 3 2) by omega), if_neg h8_0, if_neg h8_1, if_neg h8_2, if_neg h8_3, if_pos h8_4] | rw [fd_X_door, if_neg (show ¬ ¬ (0 ≤ d ∧ d < M 3 2) by omega), if_neg h8_0, if_neg h8_1, if_neg h8_2, if_neg h8_3, if_neg h8_4, if_pos h8_5] | rw [fd_X_door, if_neg (show ¬ ¬ (0 ≤ d ∧ d < M 3 2) by omega), if_neg h8_0, if_neg h8_1, if_neg h8_2, if_neg h8_3, if_neg h8_4, if_neg h8_5, if_pos h8_6] | rw [fd_X_door, if_neg (show ¬ ¬ (0 ≤ d ∧ d < M 3 2) by omega), if_neg h8_0, if_neg h8_1, if_neg h8_2, if_neg h8_3, if_neg h8_4, if_neg h8_5, if_neg h8_6, if_pos h8_7] | rw [fd_X_door, if_neg (show ¬ ¬ (0 ≤ d ∧ d < M 3 2) by omega), if_neg h8_0, if_neg h8_1, if_neg h8_2, if_neg h8_3, if_neg h8_4, if_neg h8_5, if_neg h8_6, if_neg h8_7, if_pos h8_8] | rw [fd_X_door, if_neg (show ¬ ¬ (0 ≤ d ∧ d < M 3 2) by omega), if_neg h8_0, if_neg h8_1, if_neg h8_2, if_neg h8_3, if_neg h8_4, if_neg h8_5, if_neg h8_6, if_neg h8_7, if_neg h8_8] | rw [fd_X_door, if_pos (show ¬ (0 ≤ d ∧ d < M 3 2) by omega)]
      · rfl
    by_cases h8_5 : w = 5
    · refine fd_u_jmp (C := fd_c5) (j := 39) (st' := []) rfl rfl (b := fd_rng w) (by rw [h8_5]; rfl) (fd_bR (by omega) (by omega)) ?_
      refine fd_u_blk 3 (C := fd_c5) (b := true) (L' := [fd_R 0, fd_I d, fd_I w]) (st' := [fd_I d, fd_R 72]) (M' := M) rfl rfl (j := 42) rfl (rfl) ?_
      refine fd_u_call (C := fd_c5) (d0 := 6) (mid := 156) (np := 2) (args := [fd_R 72, fd_I d]) (r1 := some (fd_I (fd_dueC M (d).toNat))) (M1 := M) (st' := [fd_I (fd_dueC M (d).toNat)]) rfl rfl rfl rfl rfl rfl (rfl) (fd_s_dueOf M hG d (by omega)) rfl (by omega) ?_
      have qo := fd_due_rng (wy := M 17) hG.1.2.2.2.1 (fd_sw M (d).toNat) (d).toNat
      refine fd_u_ret (C := fd_c5) (b := true) (r' := some (fd_I (fd_dueC M (d).toNat))) rfl rfl rfl (rfl) ?_ ?_
      · first | rw [fd_X_door, if_neg (show ¬ ¬ (0 ≤ d ∧ d < M 3 2) by omega), if_pos h8_0] | rw [fd_X_door, if_neg (show ¬ ¬ (0 ≤ d ∧ d < M 3 2) by omega), if_neg h8_0, if_pos h8_1] | rw [fd_X_door, if_neg (show ¬ ¬ (0 ≤ d ∧ d < M 3 2) by omega), if_neg h8_0, if_neg h8_1, if_pos h8_2] | rw [fd_X_door, if_neg (show ¬ ¬ (0 ≤ d ∧ d < M 3 2) by omega), if_neg h8_0, if_neg h8_1, if_neg h8_2, if_pos h8_3] | rw [fd_X_door, if_neg (show ¬ ¬ (0 ≤ d ∧ d < M 3 2) by omega), if_neg h8_0, if_neg h8_1, if_neg h8_2, if_neg h8_3, if_pos h8_4] | rw [fd_X_door, if_neg (show ¬ ¬ (0 ≤ d ∧ d < M 3 2) by omega), if_neg h8_0, if_neg h8_1, if_neg h8_2, if_neg h8_3, if_neg h8_4, if_pos h8_5] | rw [fd_X_door, if_neg (show ¬ ¬ (0 ≤ d ∧ d < M 3 2) by omega), if_neg h8_0, if_neg h8_1, if_neg h8_2, if_neg h8_3, if_neg h8_4, if_neg h8_5, if_pos h8_6] | rw [fd_X_door, if_neg (show ¬ ¬ (0 ≤ d ∧ d < M 3 2) by omega), if_neg h8_0, if_neg h8_1, if_neg h8_2, if_neg h8_3, if_neg h8_4, if_neg h8_5, if_neg h8_6, if_pos h8_7] | rw [fd_X_door, if_neg (show ¬ ¬ (0 ≤ d ∧ d < M 3 2) by omega), if_neg h8_0, if_neg h8_1, if_neg h8_2, if_neg h8_3, if_neg h8_4, if_neg h8_5, if_neg h8_6, if_neg h8_7, if_pos h8_8] | rw [fd_X_door, if_neg (show ¬ ¬ (0 ≤ d ∧ d < M 3 2) by omega), if_neg h8_0, if_neg h8_1, if_neg h8_2, if_neg h8_3, if_neg h8_4, if_neg h8_5, if_neg h8_6, if_neg h8_7, if_neg h8_8] | rw [fd_X_door, if_pos (show ¬ (0 ≤ d ∧ d < M 3 2) by omega)]
      · rfl
    by_cases h8_6 : w = 6
    · refine fd_u_jmp (C := fd_c5) (j := 44) (st' := []) rfl rfl (b := fd_rng w) (by rw [h8_6]; rfl) (fd_bR (by omega) (by omega)) ?_
      refine fd_u_blk 8 (C := fd_c5) (b := (fd_inb d 6 && true)) (L' := [fd_R 0, fd_I d, fd_I w]) (st' := [fd_I (M 17 (d).toNat), fd_I d, fd_R 72]) (M' := M) rfl rfl (j := 52) rfl (fd_bA (fd_bI (by omega) (by omega)) (rfl)) ?_
      refine fd_u_call (C := fd_c5) (d0 := 4) (mid := 159) (np := 3) (args := [fd_R 72, fd_I d, fd_I (M 17 (d).toNat)]) (r1 := some (fd_I (fd_bi (fd_cvC M (M 15 (d).toNat + fd_sx (M 17 (d).toNat)) (M 16 (d).toNat + fd_sy (M 17 (d).toNat)) = 0)))) (M1 := M) (st' := [fd_I (fd_bi (fd_cvC M (M 15 (d).toNat + fd_sx (M 17 (d).toNat)) (M 16 (d).toNat + fd_sy (M 17 (d).toNat)) = 0))]) rfl rfl rfl rfl rfl rfl (rfl) (fd_s_hasWayIn M hG d (by omega) (M 17 (d).toNat) (by omega)) rfl (by omega) ?_
      refine fd_u_call (C := fd_c5) (d0 := 0) (mid := 43) (np := 1) (args := [fd_I (fd_bi (fd_cvC M (M 15 (d).toNat + fd_sx (M 17 (d).toNat)) (M 16 (d).toNat + fd_sy (M 17 (d).toNat)) = 0))]) (r1 := some (fd_I (fd_bi (fd_cvC M (M 15 (d).toNat + fd_sx (M 17 (d).toNat)) (M 16 (d).toNat + fd_sy (M 17 (d).toNat)) = 0)))) (M1 := M) (st' := [fd_I (fd_bi (fd_cvC M (M 15 (d).toNat + fd_sx (M 17 (d).toNat)) (M 16 (d).toNat + fd_sy (M 17 (d).toNat)) = 0))]) rfl rfl rfl rfl rfl rfl (rfl) (fd_s_flag M (fd_bi (fd_cvC M (M 15 (d).toNat + fd_sx (M 17 (d).toNat)) (M 16 (d).toNat + fd_sy (M 17 (d).toNat)) = 0)) (fd_bi_rng _)) rfl (by omega) ?_
      refine fd_u_ret (C := fd_c5) (b := true) (r' := some (fd_I (fd_bi (fd_cvC M (M 15 (d).toNat + fd_sx (M 17 (d).toNat)) (M 16 (d).toNat + fd_sy (M 17 (d).toNat)) = 0)))) rfl rfl rfl (rfl) ?_ ?_
      · first | rw [fd_X_door, if_neg (show ¬ ¬ (0 ≤ d ∧ d < M 3 2) by omega), if_pos h8_0] | rw [fd_X_door, if_neg (show ¬ ¬ (0 ≤ d ∧ d < M 3 2) by omega), if_neg h8_0, if_pos h8_1] | rw [fd_X_door, if_neg (show ¬ ¬ (0 ≤ d ∧ d < M 3 2) by omega), if_neg h8_0, if_neg h8_1, if_pos h8_2] | rw [fd_X_door, if_neg (show ¬ ¬ (0 ≤ d ∧ d < M 3 2) by omega), if_neg h8_0, if_neg h8_1, if_neg h8_2, if_pos h8_3] | rw [fd_X_door, if_neg (show ¬ ¬ (0 ≤ d ∧ d < M 3 2) by omega), if_neg h8_0, if_neg h8_1, if_neg h8_2, if_neg h8_3, if_pos h8_4] | rw [fd_X_door, if_neg (show ¬ ¬ (0 ≤ d ∧ d < M 3 2) by omega), if_neg h8_0, if_neg h8_1, if_neg h8_2, if_neg h8_3, if_neg h8_4, if_pos h8_5] | rw [fd_X_door, if_neg (show ¬ ¬ (0 ≤ d ∧ d < M 3 2) by omega), if_neg h8_0, if_neg h8_1, if_neg h8_2, if_neg h8_3, if_neg h8_4, if_neg h8_5, if_pos h8_6] | rw [fd_X_door, if_neg (show ¬ ¬ (0 ≤ d ∧ d < M 3 2) by omega), if_neg h8_0, if_neg h8_1, if_neg h8_2, if_neg h8_3, if_neg h8_4, if_neg h8_5, if_neg h8_6, if_pos h8_7] | rw [fd_X_door, if_neg (show ¬ ¬ (0 ≤ d ∧ d < M 3 2) by omega), if_neg h8_0, if_neg h8_1, if_neg h8_2, if_neg h8_3, if_neg h8_4, if_neg h8_5, if_neg h8_6, if_neg h8_7, if_pos h8_8] | rw [fd_X_door, if_neg (show ¬ ¬ (0 ≤ d ∧ d < M 3 2) by omega), if_neg h8_0, if_neg h8_1, if_neg h8_2, if_neg h8_3, if_neg h8_4, if_neg h8_5, if_neg h8_6, if_neg h8_7, if_neg h8_8] | rw [fd_X_door, if_pos (show ¬ (0 ≤ d ∧ d < M 3 2) by omega)]
      · rfl
    by_cases h8_7 : w = 7
    · refine fd_u_jmp (C := fd_c5) (j := 55) (st' := []) rfl rfl (b := fd_rng w) (by rw [h8_7]; rfl) (fd_bR (by omega) (by omega)) ?_
      refine fd_u_blk 3 (C := fd_c5) (b := true) (L' := [fd_R 0, fd_I d, fd_I w]) (st' := [fd_I d, fd_R 72]) (M' := M) rfl rfl (j := 58) rfl (rfl) ?_
      refine fd_u_call (C := fd_c5) (d0 := 6) (mid := 154) (np := 2) (args := [fd_R 72, fd_I d]) (r1 := some (fd_I (fd_bits (fun j => fd_nb (fd_sw M j) = d) (M 3 2).toNat))) (M1 := M) (st' := [fd_I (fd_bits (fun j => fd_nb (fd_sw M j) = d) (M 3 2).toNat)]) rfl rfl rfl rfl rfl rfl (rfl) (fd_s_seenBy M hG d (by omega)) rfl (by omega) ?_
      refine fd_u_ret (C := fd_c5) (b := true) (r' := some (fd_I (fd_bits (fun j => fd_nb (fd_sw M j) = d) (M 3 2).toNat))) rfl rfl rfl (rfl) ?_ ?_
      · first | rw [fd_X_door, if_neg (show ¬ ¬ (0 ≤ d ∧ d < M 3 2) by omega), if_pos h8_0] | rw [fd_X_door, if_neg (show ¬ ¬ (0 ≤ d ∧ d < M 3 2) by omega), if_neg h8_0, if_pos h8_1] | rw [fd_X_door, if_neg (show ¬ ¬ (0 ≤ d ∧ d < M 3 2) by omega), if_neg h8_0, if_neg h8_1, if_pos h8_2] | rw [fd_X_door, if_neg (show ¬ ¬ (0 ≤ d ∧ d < M 3 2) by omega), if_neg h8_0, if_neg h8_1, if_neg h8_2, if_pos h8_3] | rw [fd_X_door, if_neg (show ¬ ¬ (0 ≤ d ∧ d < M 3 2) by omega), if_neg h8_0, if_neg h8_1, if_neg h8_2, if_neg h8_3, if_pos h8_4] | rw [fd_X_door, if_neg (show ¬ ¬ (0 ≤ d ∧ d < M 3 2) by omega), if_neg h8_0, if_neg h8_1, if_neg h8_2, if_neg h8_3, if_neg h8_4, if_pos h8_5] | rw [fd_X_door, if_neg (show ¬ ¬ (0 ≤ d ∧ d < M 3 2) by omega), if_neg h8_0, if_neg h8_1, if_neg h8_2, if_neg h8_3, if_neg h8_4, if_neg h8_5, if_pos h8_6] | rw [fd_X_door, if_neg (show ¬ ¬ (0 ≤ d ∧ d < M 3 2) by omega), if_neg h8_0, if_neg h8_1, if_neg h8_2, if_neg h8_3, if_neg h8_4, if_neg h8_5, if_neg h8_6, if_pos h8_7] | rw [fd_X_door, if_neg (show ¬ ¬ (0 ≤ d ∧ d < M 3 2) by omega), if_neg h8_0, if_neg h8_1, if_neg h8_2, if_neg h8_3, if_neg h8_4, if_neg h8_5, if_neg h8_6, if_neg h8_7, if_pos h8_8] | rw [fd_X_door, if_neg (show ¬ ¬ (0 ≤ d ∧ d < M 3 2) by omega), if_neg h8_0, if_neg h8_1, if_neg h8_2, if_neg h8_3, if_neg h8_4, if_neg h8_5, if_neg h8_6, if_neg h8_7, if_neg h8_8] | rw [fd_X_door, if_pos (show ¬ (0 ≤ d ∧ d < M 3 2) by omega)]
      · rfl
    by_cases h8_8 : w = 8
    · refine fd_u_jmp (C := fd_c5) (j := 60) (st' := []) rfl rfl (b := fd_rng w) (by rw [h8_8]; rfl) (fd_bR (by omega) (by omega)) ?_
      refine fd_u_blk 5 (C := fd_c5) (b := (fd_inb d 6 && true)) (L' := [fd_R 0, fd_I d, fd_I w]) (st' := [fd_I (M 18 (d).toNat)]) (M' := M) rfl rfl (j := 65) rfl (fd_bA (fd_bI (by omega) (by omega)) (rfl)) ?_
      refine fd_u_ret (C := fd_c5) (b := true) (r' := some (fd_I (M 18 (d).toNat))) rfl rfl rfl (rfl) ?_ ?_
      · first | rw [fd_X_door, if_neg (show ¬ ¬ (0 ≤ d ∧ d < M 3 2) by omega), if_pos h8_0] | rw [fd_X_door, if_neg (show ¬ ¬ (0 ≤ d ∧ d < M 3 2) by omega), if_neg h8_0, if_pos h8_1] | rw [fd_X_door, if_neg (show ¬ ¬ (0 ≤ d ∧ d < M 3 2) by omega), if_neg h8_0, if_neg h8_1, if_pos h8_2] | rw [fd_X_door, if_neg (show ¬ ¬ (0 ≤ d ∧ d < M 3 2) by omega), if_neg h8_0, if_neg h8_1, if_neg h8_2, if_pos h8_3] | rw [fd_X_door, if_neg (show ¬ ¬ (0 ≤ d ∧ d < M 3 2) by omega), if_neg h8_0, if_neg h8_1, if_neg h8_2, if_neg h8_3, if_pos h8_4] | rw [fd_X_door, if_neg (show ¬ ¬ (0 ≤ d ∧ d < M 3 2) by omega), if_neg h8_0, if_neg h8_1, if_neg h8_2, if_neg h8_3, if_neg h8_4, if_pos h8_5] | rw [fd_X_door, if_neg (show ¬ ¬ (0 ≤ d ∧ d < M 3 2) by omega), if_neg h8_0, if_neg h8_1, if_neg h8_2, if_neg h8_3, if_neg h8_4, if_neg h8_5, if_pos h8_6] | rw [fd_X_door, if_neg (show ¬ ¬ (0 ≤ d ∧ d < M 3 2) by omega), if_neg h8_0, if_neg h8_1, if_neg h8_2, if_neg h8_3, if_neg h8_4, if_neg h8_5, if_neg h8_6, if_pos h8_7] | rw [fd_X_door, if_neg (show ¬ ¬ (0 ≤ d ∧ d < M 3 2) by omega), if_neg h8_0, if_neg h8_1, if_neg h8_2, if_neg h8_3, if_neg h8_4, if_neg h8_5, if_neg h8_6, if_neg h8_7, if_pos h8_8] | rw [fd_X_door, if_neg (show ¬ ¬ (0 ≤ d ∧ d < M 3 2) by omega), if_neg h8_0, if_neg h8_1, if_neg h8_2, if_neg h8_3, if_neg h8_4, if_neg h8_5, if_neg h8_6, if_neg h8_7, if_neg h8_8] | rw [fd_X_door, if_pos (show ¬ (0 ≤ d ∧ d < M 3 2) by omega)]
      · rfl
    refine fd_u_jmp (C := fd_c5) (j := 66) (st' := []) rfl rfl (b := fd_rng w) (fd_sw_out (by simp only [fd_a, List.getD_cons_succ, List.getD_cons_zero, List.length_cons, List.length_nil]; omega)) (fd_bR (by omega) (by omega)) ?_
    refine fd_u_blk 1 (C := fd_c5) (b := true) (L' := [fd_R 0, fd_I d, fd_I w]) (st' := [fd_I (-1)]) (M' := M) rfl rfl (j := 67) rfl (rfl) ?_
    refine fd_u_ret (C := fd_c5) (b := true) (r' := some (fd_I (-1))) rfl rfl rfl (rfl) ?_ ?_
    · first | rw [fd_X_door, if_neg (show ¬ ¬ (0 ≤ d ∧ d < M 3 2) by omega), if_pos h8_0] | rw [fd_X_door, if_neg (show ¬ ¬ (0 ≤ d ∧ d < M 3 2) by omega), if_neg h8_0, if_pos h8_1] | rw [fd_X_door, if_neg (show ¬ ¬ (0 ≤ d ∧ d < M 3 2) by omega), if_neg h8_0, if_neg h8_1, if_pos h8_2] | rw [fd_X_door, if_neg (show ¬ ¬ (0 ≤ d ∧ d < M 3 2) by omega), if_neg h8_0, if_neg h8_1, if_neg h8_2, if_pos h8_3] | rw [fd_X_door, if_neg (show ¬ ¬ (0 ≤ d ∧ d < M 3 2) by omega), if_neg h8_0, if_neg h8_1, if_neg h8_2, if_neg h8_3, if_pos h8_4] | rw [fd_X_door, if_neg (show ¬ ¬ (0 ≤ d ∧ d < M 3 2) by omega), if_neg h8_0, if_neg h8_1, if_neg h8_2, if_neg h8_3, if_neg h8_4, if_pos h8_5] | rw [fd_X_door, if_neg (show ¬ ¬ (0 ≤ d ∧ d < M 3 2) by omega), if_neg h8_0, if_neg h8_1, if_neg h8_2, if_neg h8_3, if_neg h8_4, if_neg h8_5, if_pos h8_6] | rw [fd_X_door, if_neg (show ¬ ¬ (0 ≤ d ∧ d < M 3 2) by omega), if_neg h8_0, if_neg h8_1, if_neg h8_2, if_neg h8_3, if_neg h8_4, if_neg h8_5, if_neg h8_6, if_pos h8_7] | rw [fd_X_door, if_neg (show ¬ ¬ (0 ≤ d ∧ d < M 3 2) by omega), if_neg h8_0, if_neg h8_1, if_neg h8_2, if_neg h8_3, if_neg h8_4, if_neg h8_5, if_neg h8_6, if_neg h8_7, if_pos h8_8] | rw [fd_X_door, if_neg (show ¬ ¬ (0 ≤ d ∧ d < M 3 2) by omega), if_neg h8_0, if_neg h8_1, if_neg h8_2, if_neg h8_3, if_neg h8_4, if_neg h8_5, if_neg h8_6, if_neg h8_7, if_neg h8_8] | rw [fd_X_door, if_pos (show ¬ (0 ≤ d ∧ d < M 3 2) by omega)]
    · rfl
  · have h4 := fd_biF2  h4
    refine fd_u_blk 1 (C := fd_c5) (b := true) (L' := [fd_R 0, fd_I d, fd_I w]) (st' := [fd_I (-1)]) (M' := M) rfl rfl (j := 6) rfl (rfl) ?_
    refine fd_u_ret (C := fd_c5) (b := true) (r' := some (fd_I (-1))) rfl rfl rfl (rfl) ?_ ?_
    · first | rw [fd_X_door, if_neg (show ¬ ¬ (0 ≤ d ∧ d < M 3 2) by omega), if_pos h8_0] | rw [fd_X_door, if_neg (show ¬ ¬ (0 ≤ d ∧ d < M 3 2) by omega), if_neg h8_0, if_pos h8_1] | rw [fd_X_door, if_neg (show ¬ ¬ (0 ≤ d ∧ d < M 3 2) by omega), if_neg h8_0, if_neg h8_1, if_pos h8_2] | rw [fd_X_door, if_neg (show ¬ ¬ (0 ≤ d ∧ d < M 3 2) by omega), if_neg h8_0, if_neg h8_1, if_neg h8_2, if_pos h8_3] | rw [fd_X_door, if_neg (show ¬ ¬ (0 ≤ d ∧ d < M 3 2) by omega), if_neg h8_0, if_neg h8_1, if_neg h8_2, if_neg h8_3, if_pos h8_4] | rw [fd_X_door, if_neg (show ¬ ¬ (0 ≤ d ∧ d < M 3 2) by omega), if_neg h8_0, if_neg h8_1, if_neg h8_2, if_neg h8_3, if_neg h8_4, if_pos h8_5] | rw [fd_X_door, if_neg (show ¬ ¬ (0 ≤ d ∧ d < M 3 2) by omega), if_neg h8_0, if_neg h8_1, if_neg h8_2, if_neg h8_3, if_neg h8_4, if_neg h8_5, if_pos h8_6] | rw [fd_X_door, if_neg (show ¬ ¬ (0 ≤ d ∧ d < M 3 2) by omega), if_neg h8_0, if_neg h8_1, if_neg h8_2, if_neg h8_3, if_neg h8_4, if_neg h8_5, if_neg h8_6, if_pos h8_7] | rw [fd_X_door, if_neg (show ¬ ¬ (0 ≤ d ∧ d < M 3 2) by omega), if_neg h8_0, if_neg h8_1, if_neg h8_2, if_neg h8_3, if_neg h8_4, if_neg h8_5, if_neg h8_6, if_neg h8_7, if_pos h8_8] | rw [fd_X_door, if_neg (show ¬ ¬ (0 ≤ d ∧ d < M 3 2) by omega), if_neg h8_0, if_neg h8_1, if_neg h8_2, if_neg h8_3, if_neg h8_4, if_neg h8_5, if_neg h8_6, if_neg h8_7, if_neg h8_8] | rw [fd_X_door, if_pos (show ¬ (0 ≤ d ∧ d < M 3 2) by omega)]
    · rfl

theorem fd_x_now (M : fd_M) (hG : fd_CG M) (w : Int) (hw : -2147483648 ≤ w ∧ w < 2147483648) : fd_call 8 14 [fd_R 0, fd_I w] M (some (fd_I (fd_X_now M w))) M := by
  refine fd_u_in (L := [fd_R 0, fd_I w]) rfl ?_
  obtain ⟨g0, g1, g2, g3, g4, g5⟩ := hG.1
  obtain ⟨s1, s2, s3, s4, s5, s6, s7, s8⟩ := hG.2
  refine fd_u_blk 1 (C := fd_c14) (b := true) (L' := [fd_R 0, fd_I w]) (st' := [fd_I w]) (M' := M) rfl rfl (j := 1) rfl (rfl) ?_
  by_cases h1_0 : w = 0
  · refine fd_u_jmp (C := fd_c14) (j := 2) (st' := []) rfl rfl (b := fd_rng w) (by rw [h1_0]; rfl) (fd_bR (by omega) (by omega)) ?_
    refine fd_u_blk 2 (C := fd_c14) (b := true) (L' := [fd_R 0, fd_I w]) (st' := [fd_R 72]) (M' := M) rfl rfl (j := 4) rfl (rfl) ?_
    refine fd_u_call (C := fd_c14) (d0 := 7) (mid := 157) (np := 1) (args := [fd_R 72]) (r1 := some (fd_I (fd_sum (fd_dueC M) (M 3 2).toNat))) (M1 := M) (st' := [fd_I (fd_sum (fd_dueC M) (M 3 2).toNat)]) rfl rfl rfl rfl rfl rfl (rfl) (fd_s_dueOfAll M hG) rfl (by omega) ?_
    refine fd_u_ret (C := fd_c14) (b := true) (r' := some (fd_I (fd_sum (fd_dueC M) (M 3 2).toNat))) rfl rfl rfl (rfl) ?_ ?_
    · first | rw [fd_X_now, if_pos h1_0] | rw [fd_X_now, if_neg h1_0, if_pos h1_1] | rw [fd_X_now, if_neg h1_0, if_neg h1_1, if_pos h1_2] | rw [fd_X_now, if_neg h1_0, if_neg h1_1, if_neg h1_2, if_pos h1_3] | rw [fd_X_now, if_neg h1_0, if_neg h1_1, if_neg h1_2, if_neg h1_3, if_pos h1_4] | rw [fd_X_now, if_neg h1_0, if_neg h1_1, if_neg h1_2, if_neg h1_3, if_neg h1_4, if_pos h1_5] | rw [fd_X_now, if_neg h1_0, if_neg h1_1, if_neg h1_2, if_neg h1_3, if_neg h1_4, if_neg h1_5, if_pos h1_6] | rw [fd_X_now, if_neg h1_0, if_neg h1_1, if_neg h1_2, if_neg h1_3, if_neg h1_4, if_neg h1_5, if_neg h1_6, if_pos h1_7] | rw [fd_X_now, if_neg h1_0, if_neg h1_1, if_neg h1_2, if_neg h1_3, if_neg h1_4, if_neg h1_5, if_neg h1_6, if_neg h1_7]
    · rfl
  by_cases h1_1 : w = 1
  · refine fd_u_jmp (C := fd_c14) (j := 6) (st' := []) rfl rfl (b := fd_rng w) (by rw [h1_1]; rfl) (fd_bR (by omega) (by omega)) ?_
    refine fd_u_blk 3 (C := fd_c14) (b := true) (L' := [fd_R 0, fd_I w]) (st' := [fd_I (M 14 4)]) (M' := M) rfl rfl (j := 9) rfl (rfl) ?_
    refine fd_u_ret (C := fd_c14) (b := true) (r' := some (fd_I (M 14 4))) rfl rfl rfl (rfl) ?_ ?_
    · first | rw [fd_X_now, if_pos h1_0] | rw [fd_X_now, if_neg h1_0, if_pos h1_1] | rw [fd_X_now, if_neg h1_0, if_neg h1_1, if_pos h1_2] | rw [fd_X_now, if_neg h1_0, if_neg h1_1, if_neg h1_2, if_pos h1_3] | rw [fd_X_now, if_neg h1_0, if_neg h1_1, if_neg h1_2, if_neg h1_3, if_pos h1_4] | rw [fd_X_now, if_neg h1_0, if_neg h1_1, if_neg h1_2, if_neg h1_3, if_neg h1_4, if_pos h1_5] | rw [fd_X_now, if_neg h1_0, if_neg h1_1, if_neg h1_2, if_neg h1_3, if_neg h1_4, if_neg h1_5, if_pos h1_6] | rw [fd_X_now, if_neg h1_0, if_neg h1_1, if_neg h1_2, if_neg h1_3, if_neg h1_4, if_neg h1_5, if_neg h1_6, if_pos h1_7] | rw [fd_X_now, if_neg h1_0, if_neg h1_1, if_neg h1_2, if_neg h1_3, if_neg h1_4, if_neg h1_5, if_neg h1_6, if_neg h1_7]
    · rfl
  by_cases h1_2 : w = 2
  · refine fd_u_jmp (C := fd_c14) (j := 10) (st' := []) rfl rfl (b := fd_rng w) (by rw [h1_2]; rfl) (fd_bR (by omega) (by omega)) ?_
    refine fd_u_blk 2 (C := fd_c14) (b := true) (L' := [fd_R 0, fd_I w]) (st' := [fd_R 72]) (M' := M) rfl rfl (j := 12) rfl (rfl) ?_
    refine fd_u_call (C := fd_c14) (d0 := 6) (mid := 160) (np := 1) (args := [fd_R 72]) (r1 := some (fd_I (fd_bits (fun j => fd_cvC M (M 15 j + fd_sx (M 17 j)) (M 16 j + fd_sy (M 17 j)) = 0) (M 3 2).toNat))) (M1 := M) (st' := [fd_I (fd_bits (fun j => fd_cvC M (M 15 j + fd_sx (M 17 j)) (M 16 j + fd_sy (M 17 j)) = 0) (M 3 2).toNat)]) rfl rfl rfl rfl rfl rfl (rfl) (fd_s_whoHasWayIn M hG) rfl (by omega) ?_
    refine fd_u_ret (C := fd_c14) (b := true) (r' := some (fd_I (fd_bits (fun j => fd_cvC M (M 15 j + fd_sx (M 17 j)) (M 16 j + fd_sy (M 17 j)) = 0) (M 3 2).toNat))) rfl rfl rfl (rfl) ?_ ?_
    · first | rw [fd_X_now, if_pos h1_0] | rw [fd_X_now, if_neg h1_0, if_pos h1_1] | rw [fd_X_now, if_neg h1_0, if_neg h1_1, if_pos h1_2] | rw [fd_X_now, if_neg h1_0, if_neg h1_1, if_neg h1_2, if_pos h1_3] | rw [fd_X_now, if_neg h1_0, if_neg h1_1, if_neg h1_2, if_neg h1_3, if_pos h1_4] | rw [fd_X_now, if_neg h1_0, if_neg h1_1, if_neg h1_2, if_neg h1_3, if_neg h1_4, if_pos h1_5] | rw [fd_X_now, if_neg h1_0, if_neg h1_1, if_neg h1_2, if_neg h1_3, if_neg h1_4, if_neg h1_5, if_pos h1_6] | rw [fd_X_now, if_neg h1_0, if_neg h1_1, if_neg h1_2, if_neg h1_3, if_neg h1_4, if_neg h1_5, if_neg h1_6, if_pos h1_7] | rw [fd_X_now, if_neg h1_0, if_neg h1_1, if_neg h1_2, if_neg h1_3, if_neg h1_4, if_neg h1_5, if_neg h1_6, if_neg h1_7]
    · rfl
  by_cases h1_3 : w = 3
  · refine fd_u_jmp (C := fd_c14) (j := 14) (st' := []) rfl rfl (b := fd_rng w) (by rw [h1_3]; rfl) (fd_bR (by omega) (by omega)) ?_
    refine fd_u_blk 2 (C := fd_c14) (b := true) (L' := [fd_R 0, fd_I w]) (st' := [fd_R 72]) (M' := M) rfl rfl (j := 16) rfl (rfl) ?_
    refine fd_u_call (C := fd_c14) (d0 := 6) (mid := 158) (np := 1) (args := [fd_R 72]) (r1 := some (fd_I (fd_sum (fun j => if fd_nb (fd_sw M j) > j ∧ fd_nb (fd_sw M (fd_nb (fd_sw M j)).toNat) = j then 1 else 0) (M 3 2).toNat))) (M1 := M) (st' := [fd_I (fd_sum (fun j => if fd_nb (fd_sw M j) > j ∧ fd_nb (fd_sw M (fd_nb (fd_sw M j)).toNat) = j then 1 else 0) (M 3 2).toNat)]) rfl rfl rfl rfl rfl rfl (rfl) (fd_s_pairs M hG) rfl (by omega) ?_
    refine fd_u_ret (C := fd_c14) (b := true) (r' := some (fd_I (fd_sum (fun j => if fd_nb (fd_sw M j) > j ∧ fd_nb (fd_sw M (fd_nb (fd_sw M j)).toNat) = j then 1 else 0) (M 3 2).toNat))) rfl rfl rfl (rfl) ?_ ?_
    · first | rw [fd_X_now, if_pos h1_0] | rw [fd_X_now, if_neg h1_0, if_pos h1_1] | rw [fd_X_now, if_neg h1_0, if_neg h1_1, if_pos h1_2] | rw [fd_X_now, if_neg h1_0, if_neg h1_1, if_neg h1_2, if_pos h1_3] | rw [fd_X_now, if_neg h1_0, if_neg h1_1, if_neg h1_2, if_neg h1_3, if_pos h1_4] | rw [fd_X_now, if_neg h1_0, if_neg h1_1, if_neg h1_2, if_neg h1_3, if_neg h1_4, if_pos h1_5] | rw [fd_X_now, if_neg h1_0, if_neg h1_1, if_neg h1_2, if_neg h1_3, if_neg h1_4, if_neg h1_5, if_pos h1_6] | rw [fd_X_now, if_neg h1_0, if_neg h1_1, if_neg h1_2, if_neg h1_3, if_neg h1_4, if_neg h1_5, if_neg h1_6, if_pos h1_7] | rw [fd_X_now, if_neg h1_0, if_neg h1_1, if_neg h1_2, if_neg h1_3, if_neg h1_4, if_neg h1_5, if_neg h1_6, if_neg h1_7]
    · rfl
  by_cases h1_4 : w = 4
  · refine fd_u_jmp (C := fd_c14) (j := 18) (st' := []) rfl rfl (b := fd_rng w) (by rw [h1_4]; rfl) (fd_bR (by omega) (by omega)) ?_
    refine fd_u_blk 4 (C := fd_c14) (b := true) (L' := [fd_R 0, fd_I w]) (st' := [fd_I (fd_lbc (M 14 5))]) (M' := M) rfl rfl (j := 22) rfl (rfl) ?_
    refine fd_u_ret (C := fd_c14) (b := true) (r' := some (fd_I (fd_lbc (M 14 5)))) rfl rfl rfl (rfl) ?_ ?_
    · first | rw [fd_X_now, if_pos h1_0] | rw [fd_X_now, if_neg h1_0, if_pos h1_1] | rw [fd_X_now, if_neg h1_0, if_neg h1_1, if_pos h1_2] | rw [fd_X_now, if_neg h1_0, if_neg h1_1, if_neg h1_2, if_pos h1_3] | rw [fd_X_now, if_neg h1_0, if_neg h1_1, if_neg h1_2, if_neg h1_3, if_pos h1_4] | rw [fd_X_now, if_neg h1_0, if_neg h1_1, if_neg h1_2, if_neg h1_3, if_neg h1_4, if_pos h1_5] | rw [fd_X_now, if_neg h1_0, if_neg h1_1, if_neg h1_2, if_neg h1_3, if_neg h1_4, if_neg h1_5, if_pos h1_6] | rw [fd_X_now, if_neg h1_0, if_neg h1_1, if_neg h1_2, if_neg h1_3, if_neg h1_4, if_neg h1_5, if_neg h1_6, if_pos h1_7] | rw [fd_X_now, if_neg h1_0, if_neg h1_1, if_neg h1_2, if_neg h1_3, if_neg h1_4, if_neg h1_5, if_neg h1_6, if_neg h1_7]
    · rfl
  by_cases h1_5 : w = 5
  · refine fd_u_jmp (C := fd_c14) (j := 23) (st' := []) rfl rfl (b := fd_rng w) (by rw [h1_5]; rfl) (fd_bR (by omega) (by omega)) ?_
    refine fd_u_blk 3 (C := fd_c14) (b := true) (L' := [fd_R 0, fd_I w]) (st' := [fd_I (M 14 6)]) (M' := M) rfl rfl (j := 26) rfl (rfl) ?_
    refine fd_u_call (C := fd_c14) (d0 := 0) (mid := 43) (np := 1) (args := [fd_I (M 14 6)]) (r1 := some (fd_I (M 14 6))) (M1 := M) (st' := [fd_I (M 14 6)]) rfl rfl rfl rfl rfl rfl (rfl) (fd_s_flag M (M 14 6) (by omega)) rfl (by omega) ?_
    refine fd_u_ret (C := fd_c14) (b := true) (r' := some (fd_I (M 14 6))) rfl rfl rfl (rfl) ?_ ?_
    · first | rw [fd_X_now, if_pos h1_0] | rw [fd_X_now, if_neg h1_0, if_pos h1_1] | rw [fd_X_now, if_neg h1_0, if_neg h1_1, if_pos h1_2] | rw [fd_X_now, if_neg h1_0, if_neg h1_1, if_neg h1_2, if_pos h1_3] | rw [fd_X_now, if_neg h1_0, if_neg h1_1, if_neg h1_2, if_neg h1_3, if_pos h1_4] | rw [fd_X_now, if_neg h1_0, if_neg h1_1, if_neg h1_2, if_neg h1_3, if_neg h1_4, if_pos h1_5] | rw [fd_X_now, if_neg h1_0, if_neg h1_1, if_neg h1_2, if_neg h1_3, if_neg h1_4, if_neg h1_5, if_pos h1_6] | rw [fd_X_now, if_neg h1_0, if_neg h1_1, if_neg h1_2, if_neg h1_3, if_neg h1_4, if_neg h1_5, if_neg h1_6, if_pos h1_7] | rw [fd_X_now, if_neg h1_0, if_neg h1_1, if_neg h1_2, if_neg h1_3, if_neg h1_4, if_neg h1_5, if_neg h1_6, if_neg h1_7]
    · rfl
  by_cases h1_6 : w = 6
  · refine fd_u_jmp (C := fd_c14) (j := 28) (st' := []) rfl rfl (b := fd_rng w) (by rw [h1_6]; rfl) (fd_bR (by omega) (by omega)) ?_
    refine fd_u_blk 3 (C := fd_c14) (b := true) (L' := [fd_R 0, fd_I w]) (st' := [fd_I (M 14 7)]) (M' := M) rfl rfl (j := 31) rfl (rfl) ?_
    refine fd_u_call (C := fd_c14) (d0 := 0) (mid := 43) (np := 1) (args := [fd_I (M 14 7)]) (r1 := some (fd_I (M 14 7))) (M1 := M) (st' := [fd_I (M 14 7)]) rfl rfl rfl rfl rfl rfl (rfl) (fd_s_flag M (M 14 7) (by omega)) rfl (by omega) ?_
    refine fd_u_ret (C := fd_c14) (b := true) (r' := some (fd_I (M 14 7))) rfl rfl rfl (rfl) ?_ ?_
    · first | rw [fd_X_now, if_pos h1_0] | rw [fd_X_now, if_neg h1_0, if_pos h1_1] | rw [fd_X_now, if_neg h1_0, if_neg h1_1, if_pos h1_2] | rw [fd_X_now, if_neg h1_0, if_neg h1_1, if_neg h1_2, if_pos h1_3] | rw [fd_X_now, if_neg h1_0, if_neg h1_1, if_neg h1_2, if_neg h1_3, if_pos h1_4] | rw [fd_X_now, if_neg h1_0, if_neg h1_1, if_neg h1_2, if_neg h1_3, if_neg h1_4, if_pos h1_5] | rw [fd_X_now, if_neg h1_0, if_neg h1_1, if_neg h1_2, if_neg h1_3, if_neg h1_4, if_neg h1_5, if_pos h1_6] | rw [fd_X_now, if_neg h1_0, if_neg h1_1, if_neg h1_2, if_neg h1_3, if_neg h1_4, if_neg h1_5, if_neg h1_6, if_pos h1_7] | rw [fd_X_now, if_neg h1_0, if_neg h1_1, if_neg h1_2, if_neg h1_3, if_neg h1_4, if_neg h1_5, if_neg h1_6, if_neg h1_7]
    · rfl
  by_cases h1_7 : w = 7
  · refine fd_u_jmp (C := fd_c14) (j := 33) (st' := []) rfl rfl (b := fd_rng w) (by rw [h1_7]; rfl) (fd_bR (by omega) (by omega)) ?_
    refine fd_u_blk 5 (C := fd_c14) (b := true) (L' := [fd_R 0, fd_I w]) (st' := [fd_I (M 3 2), fd_R 14]) (M' := M) rfl rfl (j := 38) rfl (rfl) ?_
    refine fd_u_call (C := fd_c14) (d0 := 0) (mid := 148) (np := 2) (args := [fd_R 14, fd_I (M 3 2)]) (r1 := some (fd_I (fd_sum (M 18) (M 3 2).toNat))) (M1 := M) (st' := [fd_I (fd_sum (M 18) (M 3 2).toNat)]) rfl rfl rfl rfl rfl rfl (rfl) (fd_s_owedByAll M hG) rfl (by omega) ?_
    refine fd_u_ret (C := fd_c14) (b := true) (r' := some (fd_I (fd_sum (M 18) (M 3 2).toNat))) rfl rfl rfl (rfl) ?_ ?_
    · first | rw [fd_X_now, if_pos h1_0] | rw [fd_X_now, if_neg h1_0, if_pos h1_1] | rw [fd_X_now, if_neg h1_0, if_neg h1_1, if_pos h1_2] | rw [fd_X_now, if_neg h1_0, if_neg h1_1, if_neg h1_2, if_pos h1_3] | rw [fd_X_now, if_neg h1_0, if_neg h1_1, if_neg h1_2, if_neg h1_3, if_pos h1_4] | rw [fd_X_now, if_neg h1_0, if_neg h1_1, if_neg h1_2, if_neg h1_3, if_neg h1_4, if_pos h1_5] | rw [fd_X_now, if_neg h1_0, if_neg h1_1, if_neg h1_2, if_neg h1_3, if_neg h1_4, if_neg h1_5, if_pos h1_6] | rw [fd_X_now, if_neg h1_0, if_neg h1_1, if_neg h1_2, if_neg h1_3, if_neg h1_4, if_neg h1_5, if_neg h1_6, if_pos h1_7] | rw [fd_X_now, if_neg h1_0, if_neg h1_1, if_neg h1_2, if_neg h1_3, if_neg h1_4, if_neg h1_5, if_neg h1_6, if_neg h1_7]
    · rfl
  refine fd_u_jmp (C := fd_c14) (j := 40) (st' := []) rfl rfl (b := fd_rng w) (fd_sw_out (by simp only [fd_a, List.getD_cons_succ, List.getD_cons_zero, List.length_cons, List.length_nil]; omega)) (fd_bR (by omega) (by omega)) ?_
  refine fd_u_blk 1 (C := fd_c14) (b := true) (L' := [fd_R 0, fd_I w]) (st' := [fd_I (-1)]) (M' := M) rfl rfl (j := 41) rfl (rfl) ?_
  refine fd_u_ret (C := fd_c14) (b := true) (r' := some (fd_I (-1))) rfl rfl rfl (rfl) ?_ ?_
  · first | rw [fd_X_now, if_pos h1_0] | rw [fd_X_now, if_neg h1_0, if_pos h1_1] | rw [fd_X_now, if_neg h1_0, if_neg h1_1, if_pos h1_2] | rw [fd_X_now, if_neg h1_0, if_neg h1_1, if_neg h1_2, if_pos h1_3] | rw [fd_X_now, if_neg h1_0, if_neg h1_1, if_neg h1_2, if_neg h1_3, if_pos h1_4] | rw [fd_X_now, if_neg h1_0, if_neg h1_1, if_neg h1_2, if_neg h1_3, if_neg h1_4, if_pos h1_5] | rw [fd_X_now, if_neg h1_0, if_neg h1_1, if_neg h1_2, if_neg h1_3, if_neg h1_4, if_neg h1_5, if_pos h1_6] | rw [fd_X_now, if_neg h1_0, if_neg h1_1, if_neg h1_2, if_neg h1_3, if_neg h1_4, if_neg h1_5, if_neg h1_6, if_pos h1_7] | rw [fd_X_now, if_neg h1_0, if_neg h1_1, if_neg h1_2, if_neg h1_3, if_neg h1_4, if_neg h1_5, if_neg h1_6, if_neg h1_7]
  · rfl

theorem fd_x_count (M : fd_M) (hG : fd_CG M) (w : Int) (hw : -2147483648 ≤ w ∧ w < 2147483648) : fd_call 0 26 [fd_R 0, fd_I w] M (some (fd_I (fd_X_count M w))) M := by
  refine fd_u_in (L := [fd_R 0, fd_I w]) rfl ?_
  obtain ⟨g0, g1, g2, g3, g4, g5⟩ := hG.1
  refine fd_u_blk 1 (C := fd_c26) (b := true) (L' := [fd_R 0, fd_I w]) (st' := [fd_I w]) (M' := M) rfl rfl (j := 1) rfl (rfl) ?_
  by_cases h1_0 : w = 0
  · refine fd_u_jmp (C := fd_c26) (j := 2) (st' := []) rfl rfl (b := fd_rng w) (by rw [h1_0]; rfl) (fd_bR (by omega) (by omega)) ?_
    refine fd_u_blk 3 (C := fd_c26) (b := true) (L' := [fd_R 0, fd_I w]) (st' := [fd_I (M 3 0)]) (M' := M) rfl rfl (j := 5) rfl (rfl) ?_
    refine fd_u_ret (C := fd_c26) (b := true) (r' := some (fd_I (M 3 0))) rfl rfl rfl (rfl) ?_ ?_
    · first | rw [fd_X_count, if_pos h1_0] | rw [fd_X_count, if_neg h1_0, if_pos h1_1] | rw [fd_X_count, if_neg h1_0, if_neg h1_1, if_pos h1_2] | rw [fd_X_count, if_neg h1_0, if_neg h1_1, if_neg h1_2, if_pos h1_3] | rw [fd_X_count, if_neg h1_0, if_neg h1_1, if_neg h1_2, if_neg h1_3, if_pos h1_4] | rw [fd_X_count, if_neg h1_0, if_neg h1_1, if_neg h1_2, if_neg h1_3, if_neg h1_4, if_pos h1_5] | rw [fd_X_count, if_neg h1_0, if_neg h1_1, if_neg h1_2, if_neg h1_3, if_neg h1_4, if_neg h1_5, if_pos h1_6] | rw [fd_X_count, if_neg h1_0, if_neg h1_1, if_neg h1_2, if_neg h1_3, if_neg h1_4, if_neg h1_5, if_neg h1_6, if_pos h1_7] | rw [fd_X_count, if_neg h1_0, if_neg h1_1, if_neg h1_2, if_neg h1_3, if_neg h1_4, if_neg h1_5, if_neg h1_6, if_neg h1_7]
    · rfl
  by_cases h1_1 : w = 1
  · refine fd_u_jmp (C := fd_c26) (j := 6) (st' := []) rfl rfl (b := fd_rng w) (by rw [h1_1]; rfl) (fd_bR (by omega) (by omega)) ?_
    refine fd_u_blk 3 (C := fd_c26) (b := true) (L' := [fd_R 0, fd_I w]) (st' := [fd_I (M 3 1)]) (M' := M) rfl rfl (j := 9) rfl (rfl) ?_
    refine fd_u_ret (C := fd_c26) (b := true) (r' := some (fd_I (M 3 1))) rfl rfl rfl (rfl) ?_ ?_
    · first | rw [fd_X_count, if_pos h1_0] | rw [fd_X_count, if_neg h1_0, if_pos h1_1] | rw [fd_X_count, if_neg h1_0, if_neg h1_1, if_pos h1_2] | rw [fd_X_count, if_neg h1_0, if_neg h1_1, if_neg h1_2, if_pos h1_3] | rw [fd_X_count, if_neg h1_0, if_neg h1_1, if_neg h1_2, if_neg h1_3, if_pos h1_4] | rw [fd_X_count, if_neg h1_0, if_neg h1_1, if_neg h1_2, if_neg h1_3, if_neg h1_4, if_pos h1_5] | rw [fd_X_count, if_neg h1_0, if_neg h1_1, if_neg h1_2, if_neg h1_3, if_neg h1_4, if_neg h1_5, if_pos h1_6] | rw [fd_X_count, if_neg h1_0, if_neg h1_1, if_neg h1_2, if_neg h1_3, if_neg h1_4, if_neg h1_5, if_neg h1_6, if_pos h1_7] | rw [fd_X_count, if_neg h1_0, if_neg h1_1, if_neg h1_2, if_neg h1_3, if_neg h1_4, if_neg h1_5, if_neg h1_6, if_neg h1_7]
    · rfl
  by_cases h1_2 : w = 2
  · refine fd_u_jmp (C := fd_c26) (j := 10) (st' := []) rfl rfl (b := fd_rng w) (by rw [h1_2]; rfl) (fd_bR (by omega) (by omega)) ?_
    refine fd_u_blk 3 (C := fd_c26) (b := true) (L' := [fd_R 0, fd_I w]) (st' := [fd_I (M 3 2)]) (M' := M) rfl rfl (j := 13) rfl (rfl) ?_
    refine fd_u_ret (C := fd_c26) (b := true) (r' := some (fd_I (M 3 2))) rfl rfl rfl (rfl) ?_ ?_
    · first | rw [fd_X_count, if_pos h1_0] | rw [fd_X_count, if_neg h1_0, if_pos h1_1] | rw [fd_X_count, if_neg h1_0, if_neg h1_1, if_pos h1_2] | rw [fd_X_count, if_neg h1_0, if_neg h1_1, if_neg h1_2, if_pos h1_3] | rw [fd_X_count, if_neg h1_0, if_neg h1_1, if_neg h1_2, if_neg h1_3, if_pos h1_4] | rw [fd_X_count, if_neg h1_0, if_neg h1_1, if_neg h1_2, if_neg h1_3, if_neg h1_4, if_pos h1_5] | rw [fd_X_count, if_neg h1_0, if_neg h1_1, if_neg h1_2, if_neg h1_3, if_neg h1_4, if_neg h1_5, if_pos h1_6] | rw [fd_X_count, if_neg h1_0, if_neg h1_1, if_neg h1_2, if_neg h1_3, if_neg h1_4, if_neg h1_5, if_neg h1_6, if_pos h1_7] | rw [fd_X_count, if_neg h1_0, if_neg h1_1, if_neg h1_2, if_neg h1_3, if_neg h1_4, if_neg h1_5, if_neg h1_6, if_neg h1_7]
    · rfl
  by_cases h1_3 : w = 3
  · refine fd_u_jmp (C := fd_c26) (j := 14) (st' := []) rfl rfl (b := fd_rng w) (by rw [h1_3]; rfl) (fd_bR (by omega) (by omega)) ?_
    refine fd_u_blk 3 (C := fd_c26) (b := true) (L' := [fd_R 0, fd_I w]) (st' := [fd_I (M 3 3)]) (M' := M) rfl rfl (j := 17) rfl (rfl) ?_
    refine fd_u_ret (C := fd_c26) (b := true) (r' := some (fd_I (M 3 3))) rfl rfl rfl (rfl) ?_ ?_
    · first | rw [fd_X_count, if_pos h1_0] | rw [fd_X_count, if_neg h1_0, if_pos h1_1] | rw [fd_X_count, if_neg h1_0, if_neg h1_1, if_pos h1_2] | rw [fd_X_count, if_neg h1_0, if_neg h1_1, if_neg h1_2, if_pos h1_3] | rw [fd_X_count, if_neg h1_0, if_neg h1_1, if_neg h1_2, if_neg h1_3, if_pos h1_4] | rw [fd_X_count, if_neg h1_0, if_neg h1_1, if_neg h1_2, if_neg h1_3, if_neg h1_4, if_pos h1_5] | rw [fd_X_count, if_neg h1_0, if_neg h1_1, if_neg h1_2, if_neg h1_3, if_neg h1_4, if_neg h1_5, if_pos h1_6] | rw [fd_X_count, if_neg h1_0, if_neg h1_1, if_neg h1_2, if_neg h1_3, if_neg h1_4, if_neg h1_5, if_neg h1_6, if_pos h1_7] | rw [fd_X_count, if_neg h1_0, if_neg h1_1, if_neg h1_2, if_neg h1_3, if_neg h1_4, if_neg h1_5, if_neg h1_6, if_neg h1_7]
    · rfl
  by_cases h1_4 : w = 4
  · refine fd_u_jmp (C := fd_c26) (j := 18) (st' := []) rfl rfl (b := fd_rng w) (by rw [h1_4]; rfl) (fd_bR (by omega) (by omega)) ?_
    refine fd_u_blk 3 (C := fd_c26) (b := true) (L' := [fd_R 0, fd_I w]) (st' := [fd_I (M 3 4)]) (M' := M) rfl rfl (j := 21) rfl (rfl) ?_
    refine fd_u_ret (C := fd_c26) (b := true) (r' := some (fd_I (M 3 4))) rfl rfl rfl (rfl) ?_ ?_
    · first | rw [fd_X_count, if_pos h1_0] | rw [fd_X_count, if_neg h1_0, if_pos h1_1] | rw [fd_X_count, if_neg h1_0, if_neg h1_1, if_pos h1_2] | rw [fd_X_count, if_neg h1_0, if_neg h1_1, if_neg h1_2, if_pos h1_3] | rw [fd_X_count, if_neg h1_0, if_neg h1_1, if_neg h1_2, if_neg h1_3, if_pos h1_4] | rw [fd_X_count, if_neg h1_0, if_neg h1_1, if_neg h1_2, if_neg h1_3, if_neg h1_4, if_pos h1_5] | rw [fd_X_count, if_neg h1_0, if_neg h1_1, if_neg h1_2, if_neg h1_3, if_neg h1_4, if_neg h1_5, if_pos h1_6] | rw [fd_X_count, if_neg h1_0, if_neg h1_1, if_neg h1_2, if_neg h1_3, if_neg h1_4, if_neg h1_5, if_neg h1_6, if_pos h1_7] | rw [fd_X_count, if_neg h1_0, if_neg h1_1, if_neg h1_2, if_neg h1_3, if_neg h1_4, if_neg h1_5, if_neg h1_6, if_neg h1_7]
    · rfl
  by_cases h1_5 : w = 5
  · refine fd_u_jmp (C := fd_c26) (j := 22) (st' := []) rfl rfl (b := fd_rng w) (by rw [h1_5]; rfl) (fd_bR (by omega) (by omega)) ?_
    refine fd_u_blk 3 (C := fd_c26) (b := true) (L' := [fd_R 0, fd_I w]) (st' := [fd_I (M 78 2)]) (M' := M) rfl rfl (j := 25) rfl (rfl) ?_
    refine fd_u_ret (C := fd_c26) (b := true) (r' := some (fd_I (M 78 2))) rfl rfl rfl (rfl) ?_ ?_
    · first | rw [fd_X_count, if_pos h1_0] | rw [fd_X_count, if_neg h1_0, if_pos h1_1] | rw [fd_X_count, if_neg h1_0, if_neg h1_1, if_pos h1_2] | rw [fd_X_count, if_neg h1_0, if_neg h1_1, if_neg h1_2, if_pos h1_3] | rw [fd_X_count, if_neg h1_0, if_neg h1_1, if_neg h1_2, if_neg h1_3, if_pos h1_4] | rw [fd_X_count, if_neg h1_0, if_neg h1_1, if_neg h1_2, if_neg h1_3, if_neg h1_4, if_pos h1_5] | rw [fd_X_count, if_neg h1_0, if_neg h1_1, if_neg h1_2, if_neg h1_3, if_neg h1_4, if_neg h1_5, if_pos h1_6] | rw [fd_X_count, if_neg h1_0, if_neg h1_1, if_neg h1_2, if_neg h1_3, if_neg h1_4, if_neg h1_5, if_neg h1_6, if_pos h1_7] | rw [fd_X_count, if_neg h1_0, if_neg h1_1, if_neg h1_2, if_neg h1_3, if_neg h1_4, if_neg h1_5, if_neg h1_6, if_neg h1_7]
    · rfl
  by_cases h1_6 : w = 6
  · refine fd_u_jmp (C := fd_c26) (j := 26) (st' := []) rfl rfl (b := fd_rng w) (by rw [h1_6]; rfl) (fd_bR (by omega) (by omega)) ?_
    refine fd_u_blk 3 (C := fd_c26) (b := true) (L' := [fd_R 0, fd_I w]) (st' := [fd_I (M 19 1)]) (M' := M) rfl rfl (j := 29) rfl (rfl) ?_
    refine fd_u_ret (C := fd_c26) (b := true) (r' := some (fd_I (M 19 1))) rfl rfl rfl (rfl) ?_ ?_
    · first | rw [fd_X_count, if_pos h1_0] | rw [fd_X_count, if_neg h1_0, if_pos h1_1] | rw [fd_X_count, if_neg h1_0, if_neg h1_1, if_pos h1_2] | rw [fd_X_count, if_neg h1_0, if_neg h1_1, if_neg h1_2, if_pos h1_3] | rw [fd_X_count, if_neg h1_0, if_neg h1_1, if_neg h1_2, if_neg h1_3, if_pos h1_4] | rw [fd_X_count, if_neg h1_0, if_neg h1_1, if_neg h1_2, if_neg h1_3, if_neg h1_4, if_pos h1_5] | rw [fd_X_count, if_neg h1_0, if_neg h1_1, if_neg h1_2, if_neg h1_3, if_neg h1_4, if_neg h1_5, if_pos h1_6] | rw [fd_X_count, if_neg h1_0, if_neg h1_1, if_neg h1_2, if_neg h1_3, if_neg h1_4, if_neg h1_5, if_neg h1_6, if_pos h1_7] | rw [fd_X_count, if_neg h1_0, if_neg h1_1, if_neg h1_2, if_neg h1_3, if_neg h1_4, if_neg h1_5, if_neg h1_6, if_neg h1_7]
    · rfl
  by_cases h1_7 : w = 7
  · refine fd_u_jmp (C := fd_c26) (j := 30) (st' := []) rfl rfl (b := fd_rng w) (by rw [h1_7]; rfl) (fd_bR (by omega) (by omega)) ?_
    refine fd_u_blk 3 (C := fd_c26) (b := true) (L' := [fd_R 0, fd_I w]) (st' := [fd_I (M 1 1)]) (M' := M) rfl rfl (j := 33) rfl (rfl) ?_
    refine fd_u_ret (C := fd_c26) (b := true) (r' := some (fd_I (M 1 1))) rfl rfl rfl (rfl) ?_ ?_
    · first | rw [fd_X_count, if_pos h1_0] | rw [fd_X_count, if_neg h1_0, if_pos h1_1] | rw [fd_X_count, if_neg h1_0, if_neg h1_1, if_pos h1_2] | rw [fd_X_count, if_neg h1_0, if_neg h1_1, if_neg h1_2, if_pos h1_3] | rw [fd_X_count, if_neg h1_0, if_neg h1_1, if_neg h1_2, if_neg h1_3, if_pos h1_4] | rw [fd_X_count, if_neg h1_0, if_neg h1_1, if_neg h1_2, if_neg h1_3, if_neg h1_4, if_pos h1_5] | rw [fd_X_count, if_neg h1_0, if_neg h1_1, if_neg h1_2, if_neg h1_3, if_neg h1_4, if_neg h1_5, if_pos h1_6] | rw [fd_X_count, if_neg h1_0, if_neg h1_1, if_neg h1_2, if_neg h1_3, if_neg h1_4, if_neg h1_5, if_neg h1_6, if_pos h1_7] | rw [fd_X_count, if_neg h1_0, if_neg h1_1, if_neg h1_2, if_neg h1_3, if_neg h1_4, if_neg h1_5, if_neg h1_6, if_neg h1_7]
    · rfl
  refine fd_u_jmp (C := fd_c26) (j := 34) (st' := []) rfl rfl (b := fd_rng w) (fd_sw_out (by simp only [fd_a, List.getD_cons_succ, List.getD_cons_zero, List.length_cons, List.length_nil]; omega)) (fd_bR (by omega) (by omega)) ?_
  refine fd_u_blk 1 (C := fd_c26) (b := true) (L' := [fd_R 0, fd_I w]) (st' := [fd_I (-1)]) (M' := M) rfl rfl (j := 35) rfl (rfl) ?_
  refine fd_u_ret (C := fd_c26) (b := true) (r' := some (fd_I (-1))) rfl rfl rfl (rfl) ?_ ?_
  · first | rw [fd_X_count, if_pos h1_0] | rw [fd_X_count, if_neg h1_0, if_pos h1_1] | rw [fd_X_count, if_neg h1_0, if_neg h1_1, if_pos h1_2] | rw [fd_X_count, if_neg h1_0, if_neg h1_1, if_neg h1_2, if_pos h1_3] | rw [fd_X_count, if_neg h1_0, if_neg h1_1, if_neg h1_2, if_neg h1_3, if_pos h1_4] | rw [fd_X_count, if_neg h1_0, if_neg h1_1, if_neg h1_2, if_neg h1_3, if_neg h1_4, if_pos h1_5] | rw [fd_X_count, if_neg h1_0, if_neg h1_1, if_neg h1_2, if_neg h1_3, if_neg h1_4, if_neg h1_5, if_pos h1_6] | rw [fd_X_count, if_neg h1_0, if_neg h1_1, if_neg h1_2, if_neg h1_3, if_neg h1_4, if_neg h1_5, if_neg h1_6, if_pos h1_7] | rw [fd_X_count, if_neg h1_0, if_neg h1_1, if_neg h1_2, if_neg h1_3, if_neg h1_4, if_neg h1_5, if_neg h1_6, if_neg h1_7]
  · rfl

theorem fd_x_trace (M : fd_M) : fd_call 0 27 [fd_R 0] M (some (fd_J (M 0 12))) M := by
  refine fd_u_in (L := [fd_R 0]) rfl ?_
  refine fd_u_blk 2 (C := fd_c27) (b := true) (L' := [fd_R 0]) (st' := [fd_J (M 0 12)]) (M' := M) rfl rfl (j := 2) rfl (rfl) ?_
  refine fd_u_ret (C := fd_c27) (b := true) (r' := some (fd_J (M 0 12))) rfl rfl rfl (rfl) ?_ ?_
  · rfl
  · rfl

theorem fd_x_clear (M : fd_M) : fd_call 0 2 [fd_R 0] M (some (fd_I (M 1 1))) (fd_up M 1 1 0) := by
  refine fd_u_in (L := [fd_R 0, fd_R 1003]) rfl ?_
  refine fd_u_blk 9 (C := fd_c2) (b := true) (L' := [fd_R 0, fd_I (M 1 1)]) (st' := [fd_I (M 1 1)]) (M' := (fd_up M 1 1 0)) rfl rfl (j := 9) rfl (rfl) ?_
  refine fd_u_ret (C := fd_c2) (b := true) (r' := some (fd_I (M 1 1))) rfl rfl rfl (rfl) ?_ ?_
  · rfl
  · rfl

theorem fd_x_forget (M : fd_M) : fd_call 0 19 [fd_R 0] M (some (fd_I (M 78 2))) (fd_up M 78 2 0) := by
  refine fd_u_in (L := [fd_R 0, fd_R 1003]) rfl ?_
  refine fd_u_blk 9 (C := fd_c19) (b := true) (L' := [fd_R 0, fd_I (M 78 2)]) (st' := [fd_I (M 78 2)]) (M' := (fd_up M 78 2 0)) rfl rfl (j := 9) rfl (rfl) ?_
  refine fd_u_ret (C := fd_c19) (b := true) (r' := some (fd_I (M 78 2))) rfl rfl rfl (rfl) ?_ ?_
  · rfl
  · rfl

theorem fd_s_append (M : fd_M) (c : Int) (h : 0 ≤ M 1 1 ∧ M 1 1 < 150) : fd_call 0 164 [fd_R 1, fd_I c] M (none) (fd_up (fd_up M 2 (M 1 1).toNat c) 1 1 (M 1 1 + 1)) := by
  refine fd_u_in (L := [fd_R 1, fd_I c]) rfl ?_
  refine fd_u_blk 5 (C := fd_c164) (b := true) (L' := [fd_R 1, fd_I c]) (st' := [fd_I 150, fd_I (M 1 1)]) (M' := M) rfl rfl (j := 5) rfl (rfl) ?_
  refine fd_u_br (C := fd_c164) (t := 18) (e := 6) (st' := []) (c := 150 ≤ (M 1 1)) (b := (fd_rng (M 1 1) && fd_rng 150)) rfl rfl rfl (fd_bA (fd_bR (by omega) (by omega)) (fd_bR (by omega) (by omega))) (fun h5 => absurd h5 (by omega)) (fun h5 => ?_)
  refine fd_u_blk 12 (C := fd_c164) (b := (fd_inb (M 1 1) 150 && true)) (L' := [fd_R 1, fd_I c]) (st' := []) (M' := (fd_up (fd_up M 2 (M 1 1).toNat c) 1 1 ((M 1 1) + 1))) rfl rfl (j := 18) rfl (fd_bA (fd_bI (by omega) (by omega)) (rfl)) ?_
  refine fd_u_ret (C := fd_c164) (b := true) (r' := none) rfl rfl rfl (rfl) ?_ ?_
  · rfl
  · rfl

def fd_X_type (M : fd_M) (c : Int) : Int := if ¬ (0 ≤ c ∧ c ≤ 255) then -1 else if M 1 1 = 150 then -3 else M 1 1 + 1
def fd_Y_type (M : fd_M) (c : Int) : fd_M := if 0 ≤ c ∧ c ≤ 255 ∧ M 1 1 < 150 then fd_up (fd_up M 2 (M 1 1).toNat c) 1 1 (M 1 1 + 1) else M
theorem fd_x_type (M : fd_M) (c : Int) (hc : -2147483648 ≤ c ∧ c < 2147483648) (h : 0 ≤ M 1 1 ∧ M 1 1 ≤ 150) : fd_call 1 1 [fd_R 0, fd_I c] M (some (fd_I (fd_X_type M c))) (fd_Y_type M c) := by
  refine fd_u_in (L := [fd_R 0, fd_I c]) rfl ?_
  refine fd_u_blk 1 (C := fd_c1) (b := true) (L' := [fd_R 0, fd_I c]) (st' := [fd_I c]) (M' := M) rfl rfl (j := 1) rfl (rfl) ?_
  refine fd_u_br (C := fd_c1) (t := 5) (e := 2) (st' := []) (c := c < 0) (b := (fd_rng c)) rfl rfl rfl (fd_bR (by omega) (by omega)) (fun h1 => ?_) (fun h1 => ?_)
  · refine fd_u_blk 1 (C := fd_c1) (b := true) (L' := [fd_R 0, fd_I c]) (st' := [fd_I (-1)]) (M' := M) rfl rfl (j := 6) rfl (rfl) ?_
    refine fd_u_ret (C := fd_c1) (b := true) (r' := some (fd_I (-1))) rfl rfl rfl (rfl) ?_ ?_
    · first | rw [fd_X_type, if_pos (show ¬ (0 ≤ c ∧ c ≤ 255) by omega)] | rw [fd_X_type, if_neg (show ¬ ¬ (0 ≤ c ∧ c ≤ 255) by omega), if_pos (by omega)] | (rw [fd_X_type, if_neg (show ¬ ¬ (0 ≤ c ∧ c ≤ 255) by omega), if_neg (by omega)]; rfl)
    · first | rw [fd_Y_type, if_neg (by omega)] | rw [fd_Y_type, if_pos (by omega)]
  · refine fd_u_blk 2 (C := fd_c1) (b := true) (L' := [fd_R 0, fd_I c]) (st' := [fd_I 255, fd_I c]) (M' := M) rfl rfl (j := 4) rfl (rfl) ?_
    refine fd_u_br (C := fd_c1) (t := 7) (e := 5) (st' := []) (c := c ≤ 255) (b := (fd_rng c && fd_rng 255)) rfl rfl rfl (fd_bA (fd_bR (by omega) (by omega)) (fd_bR (by omega) (by omega))) (fun h4 => ?_) (fun h4 => ?_)
    · refine fd_u_blk 4 (C := fd_c1) (b := true) (L' := [fd_R 0, fd_I c]) (st' := [fd_I 150, fd_I (M 1 1)]) (M' := M) rfl rfl (j := 11) rfl (rfl) ?_
      refine fd_u_br (C := fd_c1) (t := 14) (e := 12) (st' := []) (c := (M 1 1) < 150) (b := (fd_rng (M 1 1) && fd_rng 150)) rfl rfl rfl (fd_bA (fd_bR (by omega) (by omega)) (fd_bR (by omega) (by omega))) (fun h11 => ?_) (fun h11 => ?_)
      · refine fd_u_blk 3 (C := fd_c1) (b := true) (L' := [fd_R 0, fd_I c]) (st' := [fd_I c, fd_R 1]) (M' := M) rfl rfl (j := 17) rfl (rfl) ?_
        refine fd_u_call (C := fd_c1) (d0 := 0) (mid := 164) (np := 2) (args := [fd_R 1, fd_I c]) (r1 := none) (M1 := (fd_up (fd_up M 2 (M 1 1).toNat c) 1 1 (M 1 1 + 1))) (st' := []) rfl rfl rfl rfl rfl rfl (rfl) (fd_s_append M c (by omega)) rfl (by omega) ?_
        refine fd_u_blk 3 (C := fd_c1) (b := true) (L' := [fd_R 0, fd_I c]) (st' := [fd_I ((fd_up (fd_up M 2 (M 1 1).toNat c) 1 1 (M 1 1 + 1)) 1 1)]) (M' := (fd_up (fd_up M 2 (M 1 1).toNat c) 1 1 (M 1 1 + 1))) rfl rfl (j := 21) rfl (rfl) ?_
        refine fd_u_ret (C := fd_c1) (b := true) (r' := some (fd_I ((fd_up (fd_up M 2 (M 1 1).toNat c) 1 1 (M 1 1 + 1)) 1 1))) rfl rfl rfl (rfl) ?_ ?_
        · first | rw [fd_X_type, if_pos (show ¬ (0 ≤ c ∧ c ≤ 255) by omega)] | rw [fd_X_type, if_neg (show ¬ ¬ (0 ≤ c ∧ c ≤ 255) by omega), if_pos (by omega)] | (rw [fd_X_type, if_neg (show ¬ ¬ (0 ≤ c ∧ c ≤ 255) by omega), if_neg (by omega)]; rfl)
        · first | rw [fd_Y_type, if_neg (by omega)] | rw [fd_Y_type, if_pos (by omega)]
      · refine fd_u_blk 1 (C := fd_c1) (b := true) (L' := [fd_R 0, fd_I c]) (st' := [fd_I (-3)]) (M' := M) rfl rfl (j := 13) rfl (rfl) ?_
        refine fd_u_ret (C := fd_c1) (b := true) (r' := some (fd_I (-3))) rfl rfl rfl (rfl) ?_ ?_
        · first | rw [fd_X_type, if_pos (show ¬ (0 ≤ c ∧ c ≤ 255) by omega)] | rw [fd_X_type, if_neg (show ¬ ¬ (0 ≤ c ∧ c ≤ 255) by omega), if_pos (by omega)] | (rw [fd_X_type, if_neg (show ¬ ¬ (0 ≤ c ∧ c ≤ 255) by omega), if_neg (by omega)]; rfl)
        · first | rw [fd_Y_type, if_neg (by omega)] | rw [fd_Y_type, if_pos (by omega)]
    · refine fd_u_blk 1 (C := fd_c1) (b := true) (L' := [fd_R 0, fd_I c]) (st' := [fd_I (-1)]) (M' := M) rfl rfl (j := 6) rfl (rfl) ?_
      refine fd_u_ret (C := fd_c1) (b := true) (r' := some (fd_I (-1))) rfl rfl rfl (rfl) ?_ ?_
      · first | rw [fd_X_type, if_pos (show ¬ (0 ≤ c ∧ c ≤ 255) by omega)] | rw [fd_X_type, if_neg (show ¬ ¬ (0 ≤ c ∧ c ≤ 255) by omega), if_pos (by omega)] | (rw [fd_X_type, if_neg (show ¬ ¬ (0 ≤ c ∧ c ≤ 255) by omega), if_neg (by omega)]; rfl)
      · first | rw [fd_Y_type, if_neg (by omega)] | rw [fd_Y_type, if_pos (by omega)]


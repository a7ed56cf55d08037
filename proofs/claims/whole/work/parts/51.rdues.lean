/-! the reference: who sees whom, what is due -/
theorem fd_l_sees (M : fd_M) (hP : fd_RP M) (hS : fd_RS M) (hW : fd_RW M) (d : Nat) (hd : (d : Int) < M 204 0) : ∀ (n : Nat) (k : Nat) (x y : Int) (u : fd_V) (hk : (k : Int) + n = M 207 1) (hx : -k ≤ x ∧ x ≤ 6 + k) (hy : -k ≤ y ∧ y ≤ 6 + k), fd_run 3 75 32 [fd_R 199, fd_I ((d : Nat) : Int), fd_I x, fd_I y, fd_I ((k : Nat) : Int), u] [] M (some (fd_I (fd_see (fd_cvR M) (M 208 13) (fd_sx (M 210 d)) (fd_sy (M 210 d)) n x y))) M := by
  obtain ⟨g0, g1, g2, g3, g4, g5⟩ := id hP
  obtain ⟨s1, s2, s3, s4, s5, s6⟩ := id hS
  obtain ⟨w1, w2, w3⟩ := id hW
  have qw := w1 d hd
  intro n
  induction n with
  | zero =>
    intro k x y u hk hx hy
    have hB : ∀ (q0 : Int) (q1 : Int), fd_bl 5 (List.drop 32 fd_c75) [fd_R 199, fd_I q0, fd_I x, fd_I y, fd_I q1, u] [] M = some (true, [fd_R 199, fd_I q0, fd_I x, fd_I y, fd_I q1, u], [fd_I (M 207 1), fd_I q1], M) := fun _ _ => rfl
    refine fd_u_blk 5 (C := fd_c75) (b := true) (L' := [fd_R 199, fd_I ((d : Nat) : Int), fd_I x, fd_I y, fd_I ((k : Nat) : Int), u]) (st' := [fd_I (M 207 1), fd_I ((k : Nat) : Int)]) (M' := M) rfl (hB ((d : Nat) : Int) ((k : Nat) : Int)) (j := 37) rfl (rfl) ?_
    clear hB
    refine fd_u_br (C := fd_c75) (t := 88) (e := 38) (st' := []) (c := (M 207 1) ≤ ((k : Nat) : Int)) (b := (fd_rng ((k : Nat) : Int) && fd_rng (M 207 1))) rfl rfl rfl (fd_bA (fd_bR (by omega) (by omega)) (fd_bR (by omega) (by omega))) (fun h37 => ?_) (fun h37 => absurd h37 (by omega))
    have hB : ∀ (q0 : Int) (q1 : Int), fd_bl 1 (List.drop 88 fd_c75) [fd_R 199, fd_I q0, fd_I x, fd_I y, fd_I q1, u] [] M = some (true, [fd_R 199, fd_I q0, fd_I x, fd_I y, fd_I q1, u], [fd_I (-9)], M) := fun _ _ => rfl
    refine fd_u_blk 1 (C := fd_c75) (b := true) (L' := [fd_R 199, fd_I ((d : Nat) : Int), fd_I x, fd_I y, fd_I ((k : Nat) : Int), u]) (st' := [fd_I (-9)]) (M' := M) rfl (hB ((d : Nat) : Int) ((k : Nat) : Int)) (j := 89) rfl (rfl) ?_
    clear hB
    refine fd_u_ret (C := fd_c75) (b := true) (r' := some (fd_I (-9))) rfl rfl rfl (rfl) ?_ ?_
    · rfl
    · rfl
  | succ n ih =>
    intro k x y u hk hx hy
    have hB : ∀ (q0 : Int) (q1 : Int), fd_bl 5 (List.drop 32 fd_c75) [fd_R 199, fd_I q0, fd_I x, fd_I y, fd_I q1, u] [] M = some (true, [fd_R 199, fd_I q0, fd_I x, fd_I y, fd_I q1, u], [fd_I (M 207 1), fd_I q1], M) := fun _ _ => rfl
    refine fd_u_blk 5 (C := fd_c75) (b := true) (L' := [fd_R 199, fd_I ((d : Nat) : Int), fd_I x, fd_I y, fd_I ((k : Nat) : Int), u]) (st' := [fd_I (M 207 1), fd_I ((k : Nat) : Int)]) (M' := M) rfl (hB ((d : Nat) : Int) ((k : Nat) : Int)) (j := 37) rfl (rfl) ?_
    clear hB
    refine fd_u_br (C := fd_c75) (t := 88) (e := 38) (st' := []) (c := (M 207 1) ≤ ((k : Nat) : Int)) (b := (fd_rng ((k : Nat) : Int) && fd_rng (M 207 1))) rfl rfl rfl (fd_bA (fd_bR (by omega) (by omega)) (fd_bR (by omega) (by omega))) (fun h37 => absurd h37 (by omega)) (fun h37 => ?_)
    have hB : ∀ (q0 : Int) (q1 : Int), fd_bl 5 (List.drop 38 fd_c75) [fd_R 199, fd_I q0, fd_I x, fd_I y, fd_I q1, u] [] M = some ((fd_isA true M 210 20 q0 && true), [fd_R 199, fd_I q0, fd_I x, fd_I y, fd_I q1, u], [fd_I (M 210 (q0).toNat), fd_I x], M) := fun _ _ => rfl
    refine fd_u_blk 5 (C := fd_c75) (b := (fd_isA true M 210 20 ((d : Nat) : Int) && true)) (L' := [fd_R 199, fd_I ((d : Nat) : Int), fd_I x, fd_I y, fd_I ((k : Nat) : Int), u]) (st' := [fd_I (M 210 d), fd_I x]) (M' := M) rfl (hB ((d : Nat) : Int) ((k : Nat) : Int)) (j := 43) rfl (fd_bA (fd_iA fd_sh210 (by omega) (by omega)) (rfl)) ?_
    clear hB
    refine fd_u_call (C := fd_c75) (d0 := 0) (mid := 73) (np := 1) (args := [fd_I (M 210 d)]) (r1 := some (fd_I (fd_sx (M 210 d)))) (M1 := M) (st' := [fd_I (fd_sx (M 210 d)), fd_I x]) rfl rfl rfl rfl rfl rfl (rfl) (fd_r_stepX M (M 210 d) (by omega)) rfl (by omega) ?_
    have qx := fd_sx_rng (M 210 d)
    have hB : ∀ (q0 : Int) (q1 : Int), fd_bl 7 (List.drop 44 fd_c75) [fd_R 199, fd_I q0, fd_I x, fd_I y, fd_I q1, u] [fd_I (fd_sx (M 210 d)), fd_I x] M = some ((fd_isA true M 210 20 q0 && true), [fd_R 199, fd_I q0, fd_I (x + (fd_sx (M 210 d))), fd_I y, fd_I q1, u], [fd_I (M 210 (q0).toNat), fd_I y], M) := fun _ _ => rfl
    refine fd_u_blk 7 (C := fd_c75) (b := (fd_isA true M 210 20 ((d : Nat) : Int) && true)) (L' := [fd_R 199, fd_I ((d : Nat) : Int), fd_I (x + (fd_sx (M 210 d))), fd_I y, fd_I ((k : Nat) : Int), u]) (st' := [fd_I (M 210 d), fd_I y]) (M' := M) rfl (hB ((d : Nat) : Int) ((k : Nat) : Int)) (j := 51) rfl (fd_bA (fd_iA fd_sh210 (by omega) (by omega)) (rfl)) ?_
    clear hB
    refine fd_u_call (C := fd_c75) (d0 := 0) (mid := 74) (np := 1) (args := [fd_I (M 210 d)]) (r1 := some (fd_I (fd_sy (M 210 d)))) (M1 := M) (st' := [fd_I (fd_sy (M 210 d)), fd_I y]) rfl rfl rfl rfl rfl rfl (rfl) (fd_r_stepY M (M 210 d) (by omega)) rfl (by omega) ?_
    have qy := fd_sy_rng (M 210 d)
    have hB : ∀ (q0 : Int) (q1 : Int), fd_bl 5 (List.drop 52 fd_c75) [fd_R 199, fd_I q0, fd_I (x + (fd_sx (M 210 d))), fd_I y, fd_I q1, u] [fd_I (fd_sy (M 210 d)), fd_I y] M = some (true, [fd_R 199, fd_I q0, fd_I (x + (fd_sx (M 210 d))), fd_I (y + (fd_sy (M 210 d))), fd_I q1, u], [fd_I (y + (fd_sy (M 210 d))), fd_I (x + (fd_sx (M 210 d))), fd_R 199], M) := fun _ _ => rfl
    refine fd_u_blk 5 (C := fd_c75) (b := true) (L' := [fd_R 199, fd_I ((d : Nat) : Int), fd_I (x + (fd_sx (M 210 d))), fd_I (y + (fd_sy (M 210 d))), fd_I ((k : Nat) : Int), u]) (st' := [fd_I (y + (fd_sy (M 210 d))), fd_I (x + (fd_sx (M 210 d))), fd_R 199]) (M' := M) rfl (hB ((d : Nat) : Int) ((k : Nat) : Int)) (j := 57) rfl (rfl) ?_
    clear hB
    refine fd_u_call (C := fd_c75) (d0 := 2) (mid := 70) (np := 3) (args := [fd_R 199, fd_I (x + (fd_sx (M 210 d))), fd_I (y + (fd_sy (M 210 d)))]) (r1 := some (fd_I (fd_cvR M (x + (fd_sx (M 210 d))) (y + (fd_sy (M 210 d)))))) (M1 := M) (st' := [fd_I (fd_cvR M (x + (fd_sx (M 210 d))) (y + (fd_sy (M 210 d))))]) rfl rfl rfl rfl rfl rfl (rfl) (fd_r_cell M hP hS (x + (fd_sx (M 210 d))) (y + (fd_sy (M 210 d))) (by omega) (by omega)) rfl (by omega) ?_
    have qc := fd_cvR_rng hP (x + (fd_sx (M 210 d))) (y + (fd_sy (M 210 d)))
    have hB : ∀ (q0 : Int) (q1 : Int), fd_bl 3 (List.drop 58 fd_c75) [fd_R 199, fd_I q0, fd_I (x + (fd_sx (M 210 d))), fd_I (y + (fd_sy (M 210 d))), fd_I q1, u] [fd_I (fd_cvR M (x + (fd_sx (M 210 d))) (y + (fd_sy (M 210 d))))] M = some (true, [fd_R 199, fd_I q0, fd_I (x + (fd_sx (M 210 d))), fd_I (y + (fd_sy (M 210 d))), fd_I q1, fd_I (fd_cvR M (x + (fd_sx (M 210 d))) (y + (fd_sy (M 210 d))))], [fd_I 10, fd_I (fd_cvR M (x + (fd_sx (M 210 d))) (y + (fd_sy (M 210 d))))], M) := fun _ _ => rfl
    refine fd_u_blk 3 (C := fd_c75) (b := true) (L' := [fd_R 199, fd_I ((d : Nat) : Int), fd_I (x + (fd_sx (M 210 d))), fd_I (y + (fd_sy (M 210 d))), fd_I ((k : Nat) : Int), fd_I (fd_cvR M (x + (fd_sx (M 210 d))) (y + (fd_sy (M 210 d))))]) (st' := [fd_I 10, fd_I (fd_cvR M (x + (fd_sx (M 210 d))) (y + (fd_sy (M 210 d))))]) (M' := M) rfl (hB ((d : Nat) : Int) ((k : Nat) : Int)) (j := 61) rfl (rfl) ?_
    clear hB
    refine fd_u_br (C := fd_c75) (t := 66) (e := 62) (st' := []) (c := (fd_cvR M (x + (fd_sx (M 210 d))) (y + (fd_sy (M 210 d)))) < 10) (b := (fd_rng (fd_cvR M (x + (fd_sx (M 210 d))) (y + (fd_sy (M 210 d)))) && fd_rng 10)) rfl rfl rfl (fd_bA (fd_bR (by omega) (by omega)) (fd_bR (by omega) (by omega))) (fun h61 => ?_) (fun h61 => ?_)
    · have hB : ∀ (q0 : Int) (q1 : Int), fd_bl 2 (List.drop 66 fd_c75) [fd_R 199, fd_I q0, fd_I (x + (fd_sx (M 210 d))), fd_I (y + (fd_sy (M 210 d))), fd_I q1, fd_I (fd_cvR M (x + (fd_sx (M 210 d))) (y + (fd_sy (M 210 d))))] [] M = some (true, [fd_R 199, fd_I q0, fd_I (x + (fd_sx (M 210 d))), fd_I (y + (fd_sy (M 210 d))), fd_I q1, fd_I (fd_cvR M (x + (fd_sx (M 210 d))) (y + (fd_sy (M 210 d))))], [fd_I (-1), fd_I (fd_cvR M (x + (fd_sx (M 210 d))) (y + (fd_sy (M 210 d))))], M) := fun _ _ => rfl
      refine fd_u_blk 2 (C := fd_c75) (b := true) (L' := [fd_R 199, fd_I ((d : Nat) : Int), fd_I (x + (fd_sx (M 210 d))), fd_I (y + (fd_sy (M 210 d))), fd_I ((k : Nat) : Int), fd_I (fd_cvR M (x + (fd_sx (M 210 d))) (y + (fd_sy (M 210 d))))]) (st' := [fd_I (-1), fd_I (fd_cvR M (x + (fd_sx (M 210 d))) (y + (fd_sy (M 210 d))))]) (M' := M) rfl (hB ((d : Nat) : Int) ((k : Nat) : Int)) (j := 68) rfl (rfl) ?_
      clear hB
      refine fd_u_br (C := fd_c75) (t := 84) (e := 69) (st' := []) (c := (fd_cvR M (x + (fd_sx (M 210 d))) (y + (fd_sy (M 210 d)))) = (-1)) (b := (fd_rng (fd_cvR M (x + (fd_sx (M 210 d))) (y + (fd_sy (M 210 d)))) && fd_rng (-1))) rfl rfl rfl (fd_bA (fd_bR (by omega) (by omega)) (fd_bR (by omega) (by omega))) (fun h68 => ?_) (fun h68 => ?_)
      · have hB : ∀ (q0 : Int) (q1 : Int), fd_bl 1 (List.drop 84 fd_c75) [fd_R 199, fd_I q0, fd_I (x + (fd_sx (M 210 d))), fd_I (y + (fd_sy (M 210 d))), fd_I q1, fd_I (fd_cvR M (x + (fd_sx (M 210 d))) (y + (fd_sy (M 210 d))))] [] M = some (true, [fd_R 199, fd_I q0, fd_I (x + (fd_sx (M 210 d))), fd_I (y + (fd_sy (M 210 d))), fd_I q1, fd_I (fd_cvR M (x + (fd_sx (M 210 d))) (y + (fd_sy (M 210 d))))], [fd_I (-9)], M) := fun _ _ => rfl
        refine fd_u_blk 1 (C := fd_c75) (b := true) (L' := [fd_R 199, fd_I ((d : Nat) : Int), fd_I (x + (fd_sx (M 210 d))), fd_I (y + (fd_sy (M 210 d))), fd_I ((k : Nat) : Int), fd_I (fd_cvR M (x + (fd_sx (M 210 d))) (y + (fd_sy (M 210 d))))]) (st' := [fd_I (-9)]) (M' := M) rfl (hB ((d : Nat) : Int) ((k : Nat) : Int)) (j := 85) rfl (rfl) ?_
        clear hB
        refine fd_u_ret (C := fd_c75) (b := true) (r' := some (fd_I (-9))) rfl rfl rfl (rfl) ?_ ?_
        · rw [fd_see_end (c := (fd_cvR M (x + (fd_sx (M 210 d))) (y + (fd_sy (M 210 d))))) rfl (by omega)]
        · rfl
      · have hB : ∀ (q0 : Int) (q1 : Int), fd_bl 2 (List.drop 69 fd_c75) [fd_R 199, fd_I q0, fd_I (x + (fd_sx (M 210 d))), fd_I (y + (fd_sy (M 210 d))), fd_I q1, fd_I (fd_cvR M (x + (fd_sx (M 210 d))) (y + (fd_sy (M 210 d))))] [] M = some (true, [fd_R 199, fd_I q0, fd_I (x + (fd_sx (M 210 d))), fd_I (y + (fd_sy (M 210 d))), fd_I q1, fd_I (fd_cvR M (x + (fd_sx (M 210 d))) (y + (fd_sy (M 210 d))))], [fd_I 1, fd_I (fd_cvR M (x + (fd_sx (M 210 d))) (y + (fd_sy (M 210 d))))], M) := fun _ _ => rfl
        refine fd_u_blk 2 (C := fd_c75) (b := true) (L' := [fd_R 199, fd_I ((d : Nat) : Int), fd_I (x + (fd_sx (M 210 d))), fd_I (y + (fd_sy (M 210 d))), fd_I ((k : Nat) : Int), fd_I (fd_cvR M (x + (fd_sx (M 210 d))) (y + (fd_sy (M 210 d))))]) (st' := [fd_I 1, fd_I (fd_cvR M (x + (fd_sx (M 210 d))) (y + (fd_sy (M 210 d))))]) (M' := M) rfl (hB ((d : Nat) : Int) ((k : Nat) : Int)) (j := 71) rfl (rfl) ?_
        clear hB
        refine fd_u_br (C := fd_c75) (t := 84) (e := 72) (st' := []) (c := (fd_cvR M (x + (fd_sx (M 210 d))) (y + (fd_sy (M 210 d)))) = 1) (b := (fd_rng (fd_cvR M (x + (fd_sx (M 210 d))) (y + (fd_sy (M 210 d)))) && fd_rng 1)) rfl rfl rfl (fd_bA (fd_bR (by omega) (by omega)) (fd_bR (by omega) (by omega))) (fun h71 => ?_) (fun h71 => ?_)
        · have hB : ∀ (q0 : Int) (q1 : Int), fd_bl 1 (List.drop 84 fd_c75) [fd_R 199, fd_I q0, fd_I (x + (fd_sx (M 210 d))), fd_I (y + (fd_sy (M 210 d))), fd_I q1, fd_I (fd_cvR M (x + (fd_sx (M 210 d))) (y + (fd_sy (M 210 d))))] [] M = some (true, [fd_R 199, fd_I q0, fd_I (x + (fd_sx (M 210 d))), fd_I (y + (fd_sy (M 210 d))), fd_I q1, fd_I (fd_cvR M (x + (fd_sx (M 210 d))) (y + (fd_sy (M 210 d))))], [fd_I (-9)], M) := fun _ _ => rfl
          refine fd_u_blk 1 (C := fd_c75) (b := true) (L' := [fd_R 199, fd_I ((d : Nat) : Int), fd_I (x + (fd_sx (M 210 d))), fd_I (y + (fd_sy (M 210 d))), fd_I ((k : Nat) : Int), fd_I (fd_cvR M (x + (fd_sx (M 210 d))) (y + (fd_sy (M 210 d))))]) (st' := [fd_I (-9)]) (M' := M) rfl (hB ((d : Nat) : Int) ((k : Nat) : Int)) (j := 85) rfl (rfl) ?_
          clear hB
          refine fd_u_ret (C := fd_c75) (b := true) (r' := some (fd_I (-9))) rfl rfl rfl (rfl) ?_ ?_
          · rw [fd_see_end (c := (fd_cvR M (x + (fd_sx (M 210 d))) (y + (fd_sy (M 210 d))))) rfl (by omega)]
          · rfl
        · have hB : ∀ (q0 : Int) (q1 : Int), fd_bl 2 (List.drop 72 fd_c75) [fd_R 199, fd_I q0, fd_I (x + (fd_sx (M 210 d))), fd_I (y + (fd_sy (M 210 d))), fd_I q1, fd_I (fd_cvR M (x + (fd_sx (M 210 d))) (y + (fd_sy (M 210 d))))] [] M = some (true, [fd_R 199, fd_I q0, fd_I (x + (fd_sx (M 210 d))), fd_I (y + (fd_sy (M 210 d))), fd_I q1, fd_I (fd_cvR M (x + (fd_sx (M 210 d))) (y + (fd_sy (M 210 d))))], [fd_I 3, fd_I (fd_cvR M (x + (fd_sx (M 210 d))) (y + (fd_sy (M 210 d))))], M) := fun _ _ => rfl
          refine fd_u_blk 2 (C := fd_c75) (b := true) (L' := [fd_R 199, fd_I ((d : Nat) : Int), fd_I (x + (fd_sx (M 210 d))), fd_I (y + (fd_sy (M 210 d))), fd_I ((k : Nat) : Int), fd_I (fd_cvR M (x + (fd_sx (M 210 d))) (y + (fd_sy (M 210 d))))]) (st' := [fd_I 3, fd_I (fd_cvR M (x + (fd_sx (M 210 d))) (y + (fd_sy (M 210 d))))]) (M' := M) rfl (hB ((d : Nat) : Int) ((k : Nat) : Int)) (j := 74) rfl (rfl) ?_
          clear hB
          refine fd_u_br (C := fd_c75) (t := 84) (e := 75) (st' := []) (c := (fd_cvR M (x + (fd_sx (M 210 d))) (y + (fd_sy (M 210 d)))) = 3) (b := (fd_rng (fd_cvR M (x + (fd_sx (M 210 d))) (y + (fd_sy (M 210 d)))) && fd_rng 3)) rfl rfl rfl (fd_bA (fd_bR (by omega) (by omega)) (fd_bR (by omega) (by omega))) (fun h74 => ?_) (fun h74 => ?_)
          · have hB : ∀ (q0 : Int) (q1 : Int), fd_bl 1 (List.drop 84 fd_c75) [fd_R 199, fd_I q0, fd_I (x + (fd_sx (M 210 d))), fd_I (y + (fd_sy (M 210 d))), fd_I q1, fd_I (fd_cvR M (x + (fd_sx (M 210 d))) (y + (fd_sy (M 210 d))))] [] M = some (true, [fd_R 199, fd_I q0, fd_I (x + (fd_sx (M 210 d))), fd_I (y + (fd_sy (M 210 d))), fd_I q1, fd_I (fd_cvR M (x + (fd_sx (M 210 d))) (y + (fd_sy (M 210 d))))], [fd_I (-9)], M) := fun _ _ => rfl
            refine fd_u_blk 1 (C := fd_c75) (b := true) (L' := [fd_R 199, fd_I ((d : Nat) : Int), fd_I (x + (fd_sx (M 210 d))), fd_I (y + (fd_sy (M 210 d))), fd_I ((k : Nat) : Int), fd_I (fd_cvR M (x + (fd_sx (M 210 d))) (y + (fd_sy (M 210 d))))]) (st' := [fd_I (-9)]) (M' := M) rfl (hB ((d : Nat) : Int) ((k : Nat) : Int)) (j := 85) rfl (rfl) ?_
            clear hB
            refine fd_u_ret (C := fd_c75) (b := true) (r' := some (fd_I (-9))) rfl rfl rfl (rfl) ?_ ?_
            · rw [fd_see_end (c := (fd_cvR M (x + (fd_sx (M 210 d))) (y + (fd_sy (M 210 d))))) rfl (by omega)]
            · rfl
          · have hB : ∀ (q0 : Int) (q1 : Int), fd_bl 2 (List.drop 75 fd_c75) [fd_R 199, fd_I q0, fd_I (x + (fd_sx (M 210 d))), fd_I (y + (fd_sy (M 210 d))), fd_I q1, fd_I (fd_cvR M (x + (fd_sx (M 210 d))) (y + (fd_sy (M 210 d))))] [] M = some (true, [fd_R 199, fd_I q0, fd_I (x + (fd_sx (M 210 d))), fd_I (y + (fd_sy (M 210 d))), fd_I q1, fd_I (fd_cvR M (x + (fd_sx (M 210 d))) (y + (fd_sy (M 210 d))))], [fd_I 2, fd_I (fd_cvR M (x + (fd_sx (M 210 d))) (y + (fd_sy (M 210 d))))], M) := fun _ _ => rfl
            refine fd_u_blk 2 (C := fd_c75) (b := true) (L' := [fd_R 199, fd_I ((d : Nat) : Int), fd_I (x + (fd_sx (M 210 d))), fd_I (y + (fd_sy (M 210 d))), fd_I ((k : Nat) : Int), fd_I (fd_cvR M (x + (fd_sx (M 210 d))) (y + (fd_sy (M 210 d))))]) (st' := [fd_I 2, fd_I (fd_cvR M (x + (fd_sx (M 210 d))) (y + (fd_sy (M 210 d))))]) (M' := M) rfl (hB ((d : Nat) : Int) ((k : Nat) : Int)) (j := 77) rfl (rfl) ?_
            clear hB
            refine fd_u_br (C := fd_c75) (t := 86) (e := 78) (st' := []) (c := ¬ (fd_cvR M (x + (fd_sx (M 210 d))) (y + (fd_sy (M 210 d)))) = 2) (b := (fd_rng (fd_cvR M (x + (fd_sx (M 210 d))) (y + (fd_sy (M 210 d)))) && fd_rng 2)) rfl rfl rfl (fd_bA (fd_bR (by omega) (by omega)) (fd_bR (by omega) (by omega))) (fun h77 => ?_) (fun h77 => ?_)
            · have hB : ∀ (q0 : Int) (q1 : Int), fd_bl 1 (List.drop 86 fd_c75) [fd_R 199, fd_I q0, fd_I (x + (fd_sx (M 210 d))), fd_I (y + (fd_sy (M 210 d))), fd_I q1, fd_I (fd_cvR M (x + (fd_sx (M 210 d))) (y + (fd_sy (M 210 d))))] [] M = some (true, [fd_R 199, fd_I q0, fd_I (x + (fd_sx (M 210 d))), fd_I (y + (fd_sy (M 210 d))), fd_I (q1 + 1), fd_I (fd_cvR M (x + (fd_sx (M 210 d))) (y + (fd_sy (M 210 d))))], [], M) := fun _ _ => rfl
              refine fd_u_blk 1 (C := fd_c75) (b := true) (L' := [fd_R 199, fd_I ((d : Nat) : Int), fd_I (x + (fd_sx (M 210 d))), fd_I (y + (fd_sy (M 210 d))), fd_I (((k + 1) : Nat) : Int), fd_I (fd_cvR M (x + (fd_sx (M 210 d))) (y + (fd_sy (M 210 d))))]) (st' := []) (M' := M) rfl (hB ((d : Nat) : Int) ((k : Nat) : Int)) (j := 87) rfl (rfl) ?_
              clear hB
              refine fd_u_jmp (C := fd_c75) (j := 32) (st' := []) rfl rfl (b := true) rfl rfl ?_
              rw [fd_see_on (c := (fd_cvR M (x + (fd_sx (M 210 d))) (y + (fd_sy (M 210 d))))) rfl (by omega) (by omega)]
              exact ih (k + 1) _ _ _ (by omega) (by omega) (by omega)
            · have hB : ∀ (q0 : Int) (q1 : Int), fd_bl 5 (List.drop 78 fd_c75) [fd_R 199, fd_I q0, fd_I (x + (fd_sx (M 210 d))), fd_I (y + (fd_sy (M 210 d))), fd_I q1, fd_I (fd_cvR M (x + (fd_sx (M 210 d))) (y + (fd_sy (M 210 d))))] [] M = some (true, [fd_R 199, fd_I q0, fd_I (x + (fd_sx (M 210 d))), fd_I (y + (fd_sy (M 210 d))), fd_I q1, fd_I (fd_cvR M (x + (fd_sx (M 210 d))) (y + (fd_sy (M 210 d))))], [fd_I 1, fd_I (M 208 13)], M) := fun _ _ => rfl
              refine fd_u_blk 5 (C := fd_c75) (b := true) (L' := [fd_R 199, fd_I ((d : Nat) : Int), fd_I (x + (fd_sx (M 210 d))), fd_I (y + (fd_sy (M 210 d))), fd_I ((k : Nat) : Int), fd_I (fd_cvR M (x + (fd_sx (M 210 d))) (y + (fd_sy (M 210 d))))]) (st' := [fd_I 1, fd_I (M 208 13)]) (M' := M) rfl (hB ((d : Nat) : Int) ((k : Nat) : Int)) (j := 83) rfl (rfl) ?_
              clear hB
              refine fd_u_br (C := fd_c75) (t := 86) (e := 84) (st' := []) (c := ¬ (M 208 13) = 1) (b := (fd_rng (M 208 13) && fd_rng 1)) rfl rfl rfl (fd_bA (fd_bR (by omega) (by omega)) (fd_bR (by omega) (by omega))) (fun h83 => ?_) (fun h83 => ?_)
              · have hB : ∀ (q0 : Int) (q1 : Int), fd_bl 1 (List.drop 86 fd_c75) [fd_R 199, fd_I q0, fd_I (x + (fd_sx (M 210 d))), fd_I (y + (fd_sy (M 210 d))), fd_I q1, fd_I (fd_cvR M (x + (fd_sx (M 210 d))) (y + (fd_sy (M 210 d))))] [] M = some (true, [fd_R 199, fd_I q0, fd_I (x + (fd_sx (M 210 d))), fd_I (y + (fd_sy (M 210 d))), fd_I (q1 + 1), fd_I (fd_cvR M (x + (fd_sx (M 210 d))) (y + (fd_sy (M 210 d))))], [], M) := fun _ _ => rfl
                refine fd_u_blk 1 (C := fd_c75) (b := true) (L' := [fd_R 199, fd_I ((d : Nat) : Int), fd_I (x + (fd_sx (M 210 d))), fd_I (y + (fd_sy (M 210 d))), fd_I (((k + 1) : Nat) : Int), fd_I (fd_cvR M (x + (fd_sx (M 210 d))) (y + (fd_sy (M 210 d))))]) (st' := []) (M' := M) rfl (hB ((d : Nat) : Int) ((k : Nat) : Int)) (j := 87) rfl (rfl) ?_
                clear hB
                refine fd_u_jmp (C := fd_c75) (j := 32) (st' := []) rfl rfl (b := true) rfl rfl ?_
                rw [fd_see_on (c := (fd_cvR M (x + (fd_sx (M 210 d))) (y + (fd_sy (M 210 d))))) rfl (by omega) (by omega)]
                exact ih (k + 1) _ _ _ (by omega) (by omega) (by omega)
              · have hB : ∀ (q0 : Int) (q1 : Int), fd_bl 1 (List.drop 84 fd_c75) [fd_R 199, fd_I q0, fd_I (x + (fd_sx (M 210 d))), fd_I (y + (fd_sy (M 210 d))), fd_I q1, fd_I (fd_cvR M (x + (fd_sx (M 210 d))) (y + (fd_sy (M 210 d))))] [] M = some (true, [fd_R 199, fd_I q0, fd_I (x + (fd_sx (M 210 d))), fd_I (y + (fd_sy (M 210 d))), fd_I q1, fd_I (fd_cvR M (x + (fd_sx (M 210 d))) (y + (fd_sy (M 210 d))))], [fd_I (-9)], M) := fun _ _ => rfl
                refine fd_u_blk 1 (C := fd_c75) (b := true) (L' := [fd_R 199, fd_I ((d : Nat) : Int), fd_I (x + (fd_sx (M 210 d))), fd_I (y + (fd_sy (M 210 d))), fd_I ((k : Nat) : Int), fd_I (fd_cvR M (x + (fd_sx (M 210 d))) (y + (fd_sy (M 210 d))))]) (st' := [fd_I (-9)]) (M' := M) rfl (hB ((d : Nat) : Int) ((k : Nat) : Int)) (j := 85) rfl (rfl) ?_
                clear hB
                refine fd_u_ret (C := fd_c75) (b := true) (r' := some (fd_I (-9))) rfl rfl rfl (rfl) ?_ ?_
                · rw [fd_see_end (c := (fd_cvR M (x + (fd_sx (M 210 d))) (y + (fd_sy (M 210 d))))) rfl (by omega)]
                · rfl
    · have hB : ∀ (q0 : Int) (q1 : Int), fd_bl 3 (List.drop 62 fd_c75) [fd_R 199, fd_I q0, fd_I (x + (fd_sx (M 210 d))), fd_I (y + (fd_sy (M 210 d))), fd_I q1, fd_I (fd_cvR M (x + (fd_sx (M 210 d))) (y + (fd_sy (M 210 d))))] [] M = some (true, [fd_R 199, fd_I q0, fd_I (x + (fd_sx (M 210 d))), fd_I (y + (fd_sy (M 210 d))), fd_I q1, fd_I (fd_cvR M (x + (fd_sx (M 210 d))) (y + (fd_sy (M 210 d))))], [fd_I ((fd_cvR M (x + (fd_sx (M 210 d))) (y + (fd_sy (M 210 d)))) - 10)], M) := fun _ _ => rfl
      refine fd_u_blk 3 (C := fd_c75) (b := true) (L' := [fd_R 199, fd_I ((d : Nat) : Int), fd_I (x + (fd_sx (M 210 d))), fd_I (y + (fd_sy (M 210 d))), fd_I ((k : Nat) : Int), fd_I (fd_cvR M (x + (fd_sx (M 210 d))) (y + (fd_sy (M 210 d))))]) (st' := [fd_I ((fd_cvR M (x + (fd_sx (M 210 d))) (y + (fd_sy (M 210 d)))) - 10)]) (M' := M) rfl (hB ((d : Nat) : Int) ((k : Nat) : Int)) (j := 65) rfl (rfl) ?_
      clear hB
      refine fd_u_ret (C := fd_c75) (b := true) (r' := some (fd_I ((fd_cvR M (x + (fd_sx (M 210 d))) (y + (fd_sy (M 210 d)))) - 10))) rfl rfl rfl (rfl) ?_ ?_
      · rw [fd_see_hit (c := (fd_cvR M (x + (fd_sx (M 210 d))) (y + (fd_sy (M 210 d))))) rfl (by omega)]
      · rfl

theorem fd_r_sees (M : fd_M) (hP : fd_RP M) (hS : fd_RS M) (hW : fd_RW M) (d : Nat) (hd : (d : Int) < M 204 0) : fd_call 3 75 [fd_R 199, fd_I ((d : Nat) : Int)] M (some (fd_I (fd_sR M d))) M := by
  refine fd_u_in (L := [fd_R 199, fd_I ((d : Nat) : Int), fd_R 1003, fd_R 1003, fd_R 1003, fd_R 1003]) rfl ?_
  obtain ⟨g0, g1, g2, g3, g4, g5⟩ := id hP
  obtain ⟨s1, s2, s3, s4, s5, s6⟩ := id hS
  obtain ⟨w1, w2, w3⟩ := id hW
  have qw := w1 d hd
  have qp := (s1 d hd).1
  have e1 := fd_and1 (fd_div_rng (a := M 199 19) d (by omega))
  have hB : ∀ (q0 : Int), fd_bl 6 (List.drop 0 fd_c75) [fd_R 199, fd_I q0, fd_R 1003, fd_R 1003, fd_R 1003, fd_R 1003] [] M = some (((fd_inb (M 199 19) 2147483648 && fd_inb q0 32) && true), [fd_R 199, fd_I q0, fd_R 1003, fd_R 1003, fd_R 1003, fd_R 1003], [fd_I (fd_and ((M 199 19) / 2 ^ (q0).toNat) 1)], M) := fun _ => rfl
  refine fd_u_blk 6 (C := fd_c75) (b := ((fd_inb (M 199 19) 2147483648 && fd_inb ((d : Nat) : Int) 32) && true)) (L' := [fd_R 199, fd_I ((d : Nat) : Int), fd_R 1003, fd_R 1003, fd_R 1003, fd_R 1003]) (st' := [fd_I (fd_and ((M 199 19) / 2 ^ d) 1)]) (M' := M) rfl (hB ((d : Nat) : Int)) (j := 6) rfl (fd_bA (fd_bA (fd_bI (by omega) (by omega)) (fd_bI (by omega) (by omega))) (rfl)) ?_
  clear hB
  refine fd_u_br (C := fd_c75) (t := 10) (e := 7) (st' := []) (c := (fd_and ((M 199 19) / 2 ^ d) 1) = 0) (b := (fd_rng (fd_and ((M 199 19) / 2 ^ d) 1))) rfl rfl rfl (fd_bR (by omega) (by omega)) (fun h6 => ?_) (fun h6 => ?_)
  · have hB : ∀ (q0 : Int), fd_bl 1 (List.drop 10 fd_c75) [fd_R 199, fd_I q0, fd_R 1003, fd_R 1003, fd_R 1003, fd_R 1003] [] M = some (true, [fd_R 199, fd_I q0, fd_R 1003, fd_R 1003, fd_R 1003, fd_R 1003], [fd_I (-9)], M) := fun _ => rfl
    refine fd_u_blk 1 (C := fd_c75) (b := true) (L' := [fd_R 199, fd_I ((d : Nat) : Int), fd_R 1003, fd_R 1003, fd_R 1003, fd_R 1003]) (st' := [fd_I (-9)]) (M' := M) rfl (hB ((d : Nat) : Int)) (j := 11) rfl (rfl) ?_
    clear hB
    refine fd_u_ret (C := fd_c75) (b := true) (r' := some (fd_I (-9))) rfl rfl rfl (rfl) ?_ ?_
    · rw [fd_sR, if_pos (by omega)]
    · rfl
  · have hB : ∀ (q0 : Int), fd_bl 2 (List.drop 7 fd_c75) [fd_R 199, fd_I q0, fd_R 1003, fd_R 1003, fd_R 1003, fd_R 1003] [] M = some (true, [fd_R 199, fd_I q0, fd_R 1003, fd_R 1003, fd_R 1003, fd_R 1003], [fd_I (M 199 20)], M) := fun _ => rfl
    refine fd_u_blk 2 (C := fd_c75) (b := true) (L' := [fd_R 199, fd_I ((d : Nat) : Int), fd_R 1003, fd_R 1003, fd_R 1003, fd_R 1003]) (st' := [fd_I (M 199 20)]) (M' := M) rfl (hB ((d : Nat) : Int)) (j := 9) rfl (rfl) ?_
    clear hB
    refine fd_u_br (C := fd_c75) (t := 12) (e := 10) (st' := []) (c := (M 199 20) = 0) (b := (fd_rng (M 199 20))) rfl rfl rfl (fd_bR (by omega) (by omega)) (fun h9 => ?_) (fun h9 => ?_)
    · have hB : ∀ (q0 : Int), fd_bl 6 (List.drop 12 fd_c75) [fd_R 199, fd_I q0, fd_R 1003, fd_R 1003, fd_R 1003, fd_R 1003] [] M = some ((fd_isA true M 208 20 (0 + q0) && true), [fd_R 199, fd_I q0, fd_R 1003, fd_R 1003, fd_R 1003, fd_R 1003], [fd_I (M 208 (0 + q0).toNat)], M) := fun _ => rfl
      refine fd_u_blk 6 (C := fd_c75) (b := (fd_isA true M 208 20 (0 + ((d : Nat) : Int)) && true)) (L' := [fd_R 199, fd_I ((d : Nat) : Int), fd_R 1003, fd_R 1003, fd_R 1003, fd_R 1003]) (st' := [fd_I (M 208 (0 + ((d : Nat) : Int)).toNat)]) (M' := M) rfl (hB ((d : Nat) : Int)) (j := 18) rfl (fd_bA (fd_iA fd_sh208 (by omega) (by omega)) (rfl)) ?_
      clear hB
      rw [show (0 + ((d : Nat) : Int)).toNat = d by omega]
      have hB : ∀ (q0 : Int), fd_bl 1 (List.drop 18 fd_c75) [fd_R 199, fd_I q0, fd_R 1003, fd_R 1003, fd_R 1003, fd_R 1003] [fd_I (M 208 d)] M = some (true, [fd_R 199, fd_I q0, fd_R 1003, fd_R 1003, fd_R 1003, fd_R 1003], [fd_I 7, fd_I (M 208 d)], M) := fun _ => rfl
      refine fd_u_blk 1 (C := fd_c75) (b := true) (L' := [fd_R 199, fd_I ((d : Nat) : Int), fd_R 1003, fd_R 1003, fd_R 1003, fd_R 1003]) (st' := [fd_I 7, fd_I (M 208 d)]) (M' := M) rfl (hB ((d : Nat) : Int)) (j := 19) rfl (rfl) ?_
      clear hB
      have hB : ∀ (q0 : Int), fd_bl 1 (List.drop 19 fd_c75) [fd_R 199, fd_I q0, fd_R 1003, fd_R 1003, fd_R 1003, fd_R 1003] [fd_I 7, fd_I (M 208 d)] M = some (((fd_inb (M 208 d) 2147483648 && fd_inb (7 - 1) 2147483647) && true), [fd_R 199, fd_I q0, fd_R 1003, fd_R 1003, fd_R 1003, fd_R 1003], [fd_I ((M 208 d) % 7)], M) := fun _ => rfl
      refine fd_u_blk 1 (C := fd_c75) (b := ((fd_inb (M 208 d) 2147483648 && fd_inb (7 - 1) 2147483647) && true)) (L' := [fd_R 199, fd_I ((d : Nat) : Int), fd_R 1003, fd_R 1003, fd_R 1003, fd_R 1003]) (st' := [fd_I ((M 208 d) % 7)]) (M' := M) rfl (hB ((d : Nat) : Int)) (j := 20) rfl (fd_bA (fd_bA (fd_bI (by omega) (by omega)) (fd_bI (by omega) (by omega))) (rfl)) ?_
      clear hB
      have hB : ∀ (q0 : Int), fd_bl 7 (List.drop 20 fd_c75) [fd_R 199, fd_I q0, fd_R 1003, fd_R 1003, fd_R 1003, fd_R 1003] [fd_I ((M 208 d) % 7)] M = some ((fd_isA true M 208 20 (0 + q0) && true), [fd_R 199, fd_I q0, fd_I ((M 208 d) % 7), fd_R 1003, fd_R 1003, fd_R 1003], [fd_I (M 208 (0 + q0).toNat)], M) := fun _ => rfl
      refine fd_u_blk 7 (C := fd_c75) (b := (fd_isA true M 208 20 (0 + ((d : Nat) : Int)) && true)) (L' := [fd_R 199, fd_I ((d : Nat) : Int), fd_I ((M 208 d) % 7), fd_R 1003, fd_R 1003, fd_R 1003]) (st' := [fd_I (M 208 (0 + ((d : Nat) : Int)).toNat)]) (M' := M) rfl (hB ((d : Nat) : Int)) (j := 27) rfl (fd_bA (fd_iA fd_sh208 (by omega) (by omega)) (rfl)) ?_
      clear hB
      rw [show (0 + ((d : Nat) : Int)).toNat = d by omega]
      have hB : ∀ (q0 : Int), fd_bl 1 (List.drop 27 fd_c75) [fd_R 199, fd_I q0, fd_I ((M 208 d) % 7), fd_R 1003, fd_R 1003, fd_R 1003] [fd_I (M 208 d)] M = some (true, [fd_R 199, fd_I q0, fd_I ((M 208 d) % 7), fd_R 1003, fd_R 1003, fd_R 1003], [fd_I 7, fd_I (M 208 d)], M) := fun _ => rfl
      refine fd_u_blk 1 (C := fd_c75) (b := true) (L' := [fd_R 199, fd_I ((d : Nat) : Int), fd_I ((M 208 d) % 7), fd_R 1003, fd_R 1003, fd_R 1003]) (st' := [fd_I 7, fd_I (M 208 d)]) (M' := M) rfl (hB ((d : Nat) : Int)) (j := 28) rfl (rfl) ?_
      clear hB
      have hB : ∀ (q0 : Int), fd_bl 1 (List.drop 28 fd_c75) [fd_R 199, fd_I q0, fd_I ((M 208 d) % 7), fd_R 1003, fd_R 1003, fd_R 1003] [fd_I 7, fd_I (M 208 d)] M = some (((fd_inb (M 208 d) 2147483648 && fd_inb (7 - 1) 2147483647) && true), [fd_R 199, fd_I q0, fd_I ((M 208 d) % 7), fd_R 1003, fd_R 1003, fd_R 1003], [fd_I ((M 208 d) / 7)], M) := fun _ => rfl
      refine fd_u_blk 1 (C := fd_c75) (b := ((fd_inb (M 208 d) 2147483648 && fd_inb (7 - 1) 2147483647) && true)) (L' := [fd_R 199, fd_I ((d : Nat) : Int), fd_I ((M 208 d) % 7), fd_R 1003, fd_R 1003, fd_R 1003]) (st' := [fd_I ((M 208 d) / 7)]) (M' := M) rfl (hB ((d : Nat) : Int)) (j := 29) rfl (fd_bA (fd_bA (fd_bI (by omega) (by omega)) (fd_bI (by omega) (by omega))) (rfl)) ?_
      clear hB
      have hB : ∀ (q0 : Int), fd_bl 3 (List.drop 29 fd_c75) [fd_R 199, fd_I q0, fd_I ((M 208 d) % 7), fd_R 1003, fd_R 1003, fd_R 1003] [fd_I ((M 208 d) / 7)] M = some (true, [fd_R 199, fd_I q0, fd_I ((M 208 d) % 7), fd_I ((M 208 d) / 7), fd_I 0, fd_R 1003], [], M) := fun _ => rfl
      refine fd_u_blk 3 (C := fd_c75) (b := true) (L' := [fd_R 199, fd_I ((d : Nat) : Int), fd_I ((M 208 d) % 7), fd_I ((M 208 d) / 7), fd_I 0, fd_R 1003]) (st' := []) (M' := M) rfl (hB ((d : Nat) : Int)) (j := 32) rfl (rfl) ?_
      clear hB
      rw [fd_sR, if_neg (by omega)]
      exact fd_l_sees M hP hS hW d hd (M 207 1).toNat 0 _ _ _ (by omega) (by omega) (by omega)
    · have hB : ∀ (q0 : Int), fd_bl 1 (List.drop 10 fd_c75) [fd_R 199, fd_I q0, fd_R 1003, fd_R 1003, fd_R 1003, fd_R 1003] [] M = some (true, [fd_R 199, fd_I q0, fd_R 1003, fd_R 1003, fd_R 1003, fd_R 1003], [fd_I (-9)], M) := fun _ => rfl
      refine fd_u_blk 1 (C := fd_c75) (b := true) (L' := [fd_R 199, fd_I ((d : Nat) : Int), fd_R 1003, fd_R 1003, fd_R 1003, fd_R 1003]) (st' := [fd_I (-9)]) (M' := M) rfl (hB ((d : Nat) : Int)) (j := 11) rfl (rfl) ?_
      clear hB
      refine fd_u_ret (C := fd_c75) (b := true) (r' := some (fd_I (-9))) rfl rfl rfl (rfl) ?_ ?_
      · rw [fd_sR, if_pos (by omega)]
      · rfl

theorem fd_r_dueOf (M : fd_M) (hP : fd_RP M) (hS : fd_RS M) (hW : fd_RW M) (d : Nat) (hd : (d : Int) < M 204 0) : fd_call 4 76 [fd_R 199, fd_I ((d : Nat) : Int)] M (some (fd_I (fd_dR M d))) M := by
  refine fd_u_in (L := [fd_R 199, fd_I ((d : Nat) : Int), fd_R 1003]) rfl ?_
  obtain ⟨g0, g1, g2, g3, g4, g5⟩ := id hP
  obtain ⟨w1, w2, w3⟩ := id hW
  have qw := w1 d hd
  have hB : ∀ (q0 : Int), fd_bl 2 (List.drop 0 fd_c76) [fd_R 199, fd_I q0, fd_R 1003] [] M = some (true, [fd_R 199, fd_I q0, fd_R 1003], [fd_I q0, fd_R 199], M) := fun _ => rfl
  refine fd_u_blk 2 (C := fd_c76) (b := true) (L' := [fd_R 199, fd_I ((d : Nat) : Int), fd_R 1003]) (st' := [fd_I ((d : Nat) : Int), fd_R 199]) (M' := M) rfl (hB ((d : Nat) : Int)) (j := 2) rfl (rfl) ?_
  clear hB
  refine fd_u_call (C := fd_c76) (d0 := 3) (mid := 75) (np := 2) (args := [fd_R 199, fd_I ((d : Nat) : Int)]) (r1 := some (fd_I (fd_sR M d))) (M1 := M) (st' := [fd_I (fd_sR M d)]) rfl rfl rfl rfl rfl rfl (rfl) (fd_r_sees M hP hS hW d (by omega)) rfl (by omega) ?_
  have qs2 := fd_sR_rng hP d
  have hB : ∀ (q0 : Int), fd_bl 3 (List.drop 3 fd_c76) [fd_R 199, fd_I q0, fd_R 1003] [fd_I (fd_sR M d)] M = some (true, [fd_R 199, fd_I q0, fd_I (fd_sR M d)], [fd_I (-9), fd_I (fd_sR M d)], M) := fun _ => rfl
  refine fd_u_blk 3 (C := fd_c76) (b := true) (L' := [fd_R 199, fd_I ((d : Nat) : Int), fd_I (fd_sR M d)]) (st' := [fd_I (-9), fd_I (fd_sR M d)]) (M' := M) rfl (hB ((d : Nat) : Int)) (j := 6) rfl (rfl) ?_
  clear hB
  refine fd_u_br (C := fd_c76) (t := 9) (e := 7) (st' := []) (c := ¬ (fd_sR M d) = (-9)) (b := (fd_rng (fd_sR M d) && fd_rng (-9))) rfl rfl rfl (fd_bA (fd_bR (by omega) (by omega)) (fd_bR (by omega) (by omega))) (fun h6 => ?_) (fun h6 => ?_)
  · have qo := w1 (fd_sR M d).toNat (by omega)
    have hB : ∀ (q0 : Int), fd_bl 11 (List.drop 9 fd_c76) [fd_R 199, fd_I q0, fd_I (fd_sR M d)] [] M = some ((fd_isA true M 210 20 (fd_sR M d) && (fd_isA true M 210 20 q0 && true)), [fd_R 199, fd_I q0, fd_I (fd_sR M d)], [fd_I 4, fd_I ((M 210 (q0).toNat) + 2), fd_I (M 210 (fd_sR M d).toNat)], M) := fun _ => rfl
    refine fd_u_blk 11 (C := fd_c76) (b := (fd_isA true M 210 20 (fd_sR M d) && (fd_isA true M 210 20 ((d : Nat) : Int) && true))) (L' := [fd_R 199, fd_I ((d : Nat) : Int), fd_I (fd_sR M d)]) (st' := [fd_I 4, fd_I ((M 210 d) + 2), fd_I (M 210 (fd_sR M d).toNat)]) (M' := M) rfl (hB ((d : Nat) : Int)) (j := 20) rfl (fd_bA (fd_iA fd_sh210 (by omega) (by omega)) (fd_bA (fd_iA fd_sh210 (by omega) (by omega)) (rfl))) ?_
    clear hB
    have hB : ∀ (q0 : Int), fd_bl 1 (List.drop 20 fd_c76) [fd_R 199, fd_I q0, fd_I (fd_sR M d)] [fd_I 4, fd_I ((M 210 d) + 2), fd_I (M 210 (fd_sR M d).toNat)] M = some (((fd_inb ((M 210 d) + 2) 2147483648 && fd_inb (4 - 1) 2147483647) && true), [fd_R 199, fd_I q0, fd_I (fd_sR M d)], [fd_I (((M 210 d) + 2) % 4), fd_I (M 210 (fd_sR M d).toNat)], M) := fun _ => rfl
    refine fd_u_blk 1 (C := fd_c76) (b := ((fd_inb ((M 210 d) + 2) 2147483648 && fd_inb (4 - 1) 2147483647) && true)) (L' := [fd_R 199, fd_I ((d : Nat) : Int), fd_I (fd_sR M d)]) (st' := [fd_I (((M 210 d) + 2) % 4), fd_I (M 210 (fd_sR M d).toNat)]) (M' := M) rfl (hB ((d : Nat) : Int)) (j := 21) rfl (fd_bA (fd_bA (fd_bI (by omega) (by omega)) (fd_bI (by omega) (by omega))) (rfl)) ?_
    clear hB
    refine fd_u_br (C := fd_c76) (t := 29) (e := 22) (st' := []) (c := ¬ (M 210 (fd_sR M d).toNat) = (((M 210 d) + 2) % 4)) (b := (fd_rng (M 210 (fd_sR M d).toNat) && fd_rng (((M 210 d) + 2) % 4))) rfl rfl rfl (fd_bA (fd_bR (by omega) (by omega)) (fd_bR (by omega) (by omega))) (fun h21 => ?_) (fun h21 => ?_)
    · have hB : ∀ (q0 : Int), fd_bl 4 (List.drop 29 fd_c76) [fd_R 199, fd_I q0, fd_I (fd_sR M d)] [] M = some (true, [fd_R 199, fd_I q0, fd_I (fd_sR M d)], [fd_I (M 207 0)], M) := fun _ => rfl
      refine fd_u_blk 4 (C := fd_c76) (b := true) (L' := [fd_R 199, fd_I ((d : Nat) : Int), fd_I (fd_sR M d)]) (st' := [fd_I (M 207 0)]) (M' := M) rfl (hB ((d : Nat) : Int)) (j := 33) rfl (rfl) ?_
      clear hB
      refine fd_u_ret (C := fd_c76) (b := true) (r' := some (fd_I (M 207 0))) rfl rfl rfl (rfl) ?_ ?_
      · rw [fd_dR, fd_due, if_neg h6, if_neg h21]
      · rfl
    · have hB : ∀ (q0 : Int), fd_bl 6 (List.drop 22 fd_c76) [fd_R 199, fd_I q0, fd_I (fd_sR M d)] [] M = some (true, [fd_R 199, fd_I q0, fd_I (fd_sR M d)], [fd_I (2 * (M 207 0))], M) := fun _ => rfl
      refine fd_u_blk 6 (C := fd_c76) (b := true) (L' := [fd_R 199, fd_I ((d : Nat) : Int), fd_I (fd_sR M d)]) (st' := [fd_I (2 * (M 207 0))]) (M' := M) rfl (hB ((d : Nat) : Int)) (j := 28) rfl (rfl) ?_
      clear hB
      refine fd_u_jmp (C := fd_c76) (j := 33) (st' := [fd_I (2 * (M 207 0))]) rfl rfl (b := true) rfl rfl ?_
      refine fd_u_ret (C := fd_c76) (b := true) (r' := some (fd_I (2 * (M 207 0)))) rfl rfl rfl (rfl) ?_ ?_
      · rw [fd_dR, fd_due, if_neg h6, if_pos (Classical.not_not.mp h21)]
      · rfl
  · have hB : ∀ (q0 : Int), fd_bl 1 (List.drop 7 fd_c76) [fd_R 199, fd_I q0, fd_I (fd_sR M d)] [] M = some (true, [fd_R 199, fd_I q0, fd_I (fd_sR M d)], [fd_I 0], M) := fun _ => rfl
    refine fd_u_blk 1 (C := fd_c76) (b := true) (L' := [fd_R 199, fd_I ((d : Nat) : Int), fd_I (fd_sR M d)]) (st' := [fd_I 0]) (M' := M) rfl (hB ((d : Nat) : Int)) (j := 8) rfl (rfl) ?_
    clear hB
    refine fd_u_jmp (C := fd_c76) (j := 33) (st' := [fd_I 0]) rfl rfl (b := true) rfl rfl ?_
    refine fd_u_ret (C := fd_c76) (b := true) (r' := some (fd_I 0)) rfl rfl rfl (rfl) ?_ ?_
    · rw [fd_dR, fd_due, if_pos (Classical.not_not.mp h6)]
    · rfl

theorem fd_l_dues (M : fd_M) (hP : fd_RP M) (hS : fd_RS M) (hW : fd_RW M) : ∀ (n : Nat) (k : Nat) (hk : (k : Int) + n = M 204 0), fd_run 5 77 4 [fd_R 199, fd_I (fd_sum (fd_dR M) k), fd_I ((k : Nat) : Int)] [] M (some (fd_I (fd_sum (fd_dR M) (M 204 0).toNat))) M := by
  obtain ⟨g0, g1, g2, g3, g4, g5⟩ := id hP
  intro n
  induction n with
  | zero =>
    intro k hk
    have hB : ∀ (q0 : Int), fd_bl 5 (List.drop 4 fd_c77) [fd_R 199, fd_I (fd_sum (fd_dR M) k), fd_I q0] [] M = some (true, [fd_R 199, fd_I (fd_sum (fd_dR M) k), fd_I q0], [fd_I (M 204 0), fd_I q0], M) := fun _ => rfl
    refine fd_u_blk 5 (C := fd_c77) (b := true) (L' := [fd_R 199, fd_I (fd_sum (fd_dR M) k), fd_I ((k : Nat) : Int)]) (st' := [fd_I (M 204 0), fd_I ((k : Nat) : Int)]) (M' := M) rfl (hB ((k : Nat) : Int)) (j := 9) rfl (rfl) ?_
    clear hB
    refine fd_u_br (C := fd_c77) (t := 18) (e := 10) (st' := []) (c := (M 204 0) ≤ ((k : Nat) : Int)) (b := (fd_rng ((k : Nat) : Int) && fd_rng (M 204 0))) rfl rfl rfl (fd_bA (fd_bR (by omega) (by omega)) (fd_bR (by omega) (by omega))) (fun h9 => ?_) (fun h9 => absurd h9 (by omega))
    have hB : ∀ (q0 : Int), fd_bl 1 (List.drop 18 fd_c77) [fd_R 199, fd_I (fd_sum (fd_dR M) k), fd_I q0] [] M = some (true, [fd_R 199, fd_I (fd_sum (fd_dR M) k), fd_I q0], [fd_I (fd_sum (fd_dR M) k)], M) := fun _ => rfl
    refine fd_u_blk 1 (C := fd_c77) (b := true) (L' := [fd_R 199, fd_I (fd_sum (fd_dR M) k), fd_I ((k : Nat) : Int)]) (st' := [fd_I (fd_sum (fd_dR M) k)]) (M' := M) rfl (hB ((k : Nat) : Int)) (j := 19) rfl (rfl) ?_
    clear hB
    refine fd_u_ret (C := fd_c77) (b := true) (r' := some (fd_I (fd_sum (fd_dR M) k))) rfl rfl rfl (rfl) ?_ ?_
    · rw [show (M 204 0).toNat = k by omega]
    · rfl
  | succ n ih =>
    intro k hk
    have hB : ∀ (q0 : Int), fd_bl 5 (List.drop 4 fd_c77) [fd_R 199, fd_I (fd_sum (fd_dR M) k), fd_I q0] [] M = some (true, [fd_R 199, fd_I (fd_sum (fd_dR M) k), fd_I q0], [fd_I (M 204 0), fd_I q0], M) := fun _ => rfl
    refine fd_u_blk 5 (C := fd_c77) (b := true) (L' := [fd_R 199, fd_I (fd_sum (fd_dR M) k), fd_I ((k : Nat) : Int)]) (st' := [fd_I (M 204 0), fd_I ((k : Nat) : Int)]) (M' := M) rfl (hB ((k : Nat) : Int)) (j := 9) rfl (rfl) ?_
    clear hB
    refine fd_u_br (C := fd_c77) (t := 18) (e := 10) (st' := []) (c := (M 204 0) ≤ ((k : Nat) : Int)) (b := (fd_rng ((k : Nat) : Int) && fd_rng (M 204 0))) rfl rfl rfl (fd_bA (fd_bR (by omega) (by omega)) (fd_bR (by omega) (by omega))) (fun h9 => absurd h9 (by omega)) (fun h9 => ?_)
    have hB : ∀ (q0 : Int), fd_bl 3 (List.drop 10 fd_c77) [fd_R 199, fd_I (fd_sum (fd_dR M) k), fd_I q0] [] M = some (true, [fd_R 199, fd_I (fd_sum (fd_dR M) k), fd_I q0], [fd_I q0, fd_R 199, fd_I (fd_sum (fd_dR M) k)], M) := fun _ => rfl
    refine fd_u_blk 3 (C := fd_c77) (b := true) (L' := [fd_R 199, fd_I (fd_sum (fd_dR M) k), fd_I ((k : Nat) : Int)]) (st' := [fd_I ((k : Nat) : Int), fd_R 199, fd_I (fd_sum (fd_dR M) k)]) (M' := M) rfl (hB ((k : Nat) : Int)) (j := 13) rfl (rfl) ?_
    clear hB
    refine fd_u_call (C := fd_c77) (d0 := 4) (mid := 76) (np := 2) (args := [fd_R 199, fd_I ((k : Nat) : Int)]) (r1 := some (fd_I (fd_dR M k))) (M1 := M) (st' := [fd_I (fd_dR M k), fd_I (fd_sum (fd_dR M) k)]) rfl rfl rfl rfl rfl rfl (rfl) (fd_r_dueOf M hP hS hW k (by omega)) rfl (by omega) ?_
    have qo := fd_due_rng (wy := M 210) hP.2.2.2.1 (fd_sR M k) k
    have hB : ∀ (q0 : Int), fd_bl 3 (List.drop 14 fd_c77) [fd_R 199, fd_I (fd_sum (fd_dR M) k), fd_I q0] [fd_I (fd_dR M k), fd_I (fd_sum (fd_dR M) k)] M = some (true, [fd_R 199, fd_I ((fd_sum (fd_dR M) k) + (fd_dR M k)), fd_I (q0 + 1)], [], M) := fun _ => rfl
    refine fd_u_blk 3 (C := fd_c77) (b := true) (L' := [fd_R 199, fd_I ((fd_sum (fd_dR M) k) + (fd_dR M k)), fd_I (((k + 1) : Nat) : Int)]) (st' := []) (M' := M) rfl (hB ((k : Nat) : Int)) (j := 17) rfl (rfl) ?_
    clear hB
    refine fd_u_jmp (C := fd_c77) (j := 4) (st' := []) rfl rfl (b := true) rfl rfl ?_
    exact ih (k + 1) (by omega)

theorem fd_r_dues (M : fd_M) (hP : fd_RP M) (hS : fd_RS M) (hW : fd_RW M) : fd_call 5 77 [fd_R 199] M (some (fd_I (fd_sum (fd_dR M) (M 204 0).toNat))) M := by
  refine fd_u_in (L := [fd_R 199, fd_R 1003, fd_R 1003]) rfl ?_
  obtain ⟨g0, g1, g2, g3, g4, g5⟩ := id hP
  refine fd_u_blk 4 (C := fd_c77) (b := true) (L' := [fd_R 199, fd_I 0, fd_I 0]) (st' := []) (M' := M) rfl rfl (j := 4) rfl (rfl) ?_
  exact fd_l_dues M hP hS hW (M 204 0).toNat 0 (by omega)

abbrev fd_vR (M : fd_M) (d : Nat) (w : Int) : Prop := fd_cvR M (M 208 d % 7 + fd_sx w) (M 208 d / 7 + fd_sy w) = 0
theorem fd_r_hasWay (M : fd_M) (hP : fd_RP M) (hS : fd_RS M) (hW : fd_RW M) (d : Nat) (hd : (d : Int) < M 204 0) : fd_call 3 78 [fd_R 199, fd_I ((d : Nat) : Int)] M (some (fd_I (fd_bi (fd_vR M d (M 210 d))))) M := by
  refine fd_u_in (L := [fd_R 199, fd_I ((d : Nat) : Int)]) rfl ?_
  obtain ⟨g0, g1, g2, g3, g4, g5⟩ := id hP
  obtain ⟨s1, s2, s3, s4, s5, s6⟩ := id hS
  obtain ⟨w1, w2, w3⟩ := id hW
  have qw := w1 d hd
  have qp := (s1 d hd).1
  have hB : ∀ (q0 : Int), fd_bl 7 (List.drop 0 fd_c78) [fd_R 199, fd_I q0] [] M = some ((fd_isA true M 208 20 (0 + q0) && true), [fd_R 199, fd_I q0], [fd_I (M 208 (0 + q0).toNat), fd_R 199], M) := fun _ => rfl
  refine fd_u_blk 7 (C := fd_c78) (b := (fd_isA true M 208 20 (0 + ((d : Nat) : Int)) && true)) (L' := [fd_R 199, fd_I ((d : Nat) : Int)]) (st' := [fd_I (M 208 (0 + ((d : Nat) : Int)).toNat), fd_R 199]) (M' := M) rfl (hB ((d : Nat) : Int)) (j := 7) rfl (fd_bA (fd_iA fd_sh208 (by omega) (by omega)) (rfl)) ?_
  clear hB
  rw [show (0 + ((d : Nat) : Int)).toNat = d by omega]
  have hB : ∀ (q0 : Int), fd_bl 1 (List.drop 7 fd_c78) [fd_R 199, fd_I q0] [fd_I (M 208 d), fd_R 199] M = some (true, [fd_R 199, fd_I q0], [fd_I 7, fd_I (M 208 d), fd_R 199], M) := fun _ => rfl
  refine fd_u_blk 1 (C := fd_c78) (b := true) (L' := [fd_R 199, fd_I ((d : Nat) : Int)]) (st' := [fd_I 7, fd_I (M 208 d), fd_R 199]) (M' := M) rfl (hB ((d : Nat) : Int)) (j := 8) rfl (rfl) ?_
  clear hB
  have hB : ∀ (q0 : Int), fd_bl 1 (List.drop 8 fd_c78) [fd_R 199, fd_I q0] [fd_I 7, fd_I (M 208 d), fd_R 199] M = some (((fd_inb (M 208 d) 2147483648 && fd_inb (7 - 1) 2147483647) && true), [fd_R 199, fd_I q0], [fd_I ((M 208 d) % 7), fd_R 199], M) := fun _ => rfl
  refine fd_u_blk 1 (C := fd_c78) (b := ((fd_inb (M 208 d) 2147483648 && fd_inb (7 - 1) 2147483647) && true)) (L' := [fd_R 199, fd_I ((d : Nat) : Int)]) (st' := [fd_I ((M 208 d) % 7), fd_R 199]) (M' := M) rfl (hB ((d : Nat) : Int)) (j := 9) rfl (fd_bA (fd_bA (fd_bI (by omega) (by omega)) (fd_bI (by omega) (by omega))) (rfl)) ?_
  clear hB
  have hB : ∀ (q0 : Int), fd_bl 4 (List.drop 9 fd_c78) [fd_R 199, fd_I q0] [fd_I ((M 208 d) % 7), fd_R 199] M = some ((fd_isA true M 210 20 q0 && true), [fd_R 199, fd_I q0], [fd_I (M 210 (q0).toNat), fd_I ((M 208 d) % 7), fd_R 199], M) := fun _ => rfl
  refine fd_u_blk 4 (C := fd_c78) (b := (fd_isA true M 210 20 ((d : Nat) : Int) && true)) (L' := [fd_R 199, fd_I ((d : Nat) : Int)]) (st' := [fd_I (M 210 d), fd_I ((M 208 d) % 7), fd_R 199]) (M' := M) rfl (hB ((d : Nat) : Int)) (j := 13) rfl (fd_bA (fd_iA fd_sh210 (by omega) (by omega)) (rfl)) ?_
  clear hB
  refine fd_u_call (C := fd_c78) (d0 := 0) (mid := 73) (np := 1) (args := [fd_I (M 210 d)]) (r1 := some (fd_I (fd_sx (M 210 d)))) (M1 := M) (st' := [fd_I (fd_sx (M 210 d)), fd_I ((M 208 d) % 7), fd_R 199]) rfl rfl rfl rfl rfl rfl (rfl) (fd_r_stepX M (M 210 d) (by omega)) rfl (by omega) ?_
  have qx := fd_sx_rng (M 210 d)
  have hB : ∀ (q0 : Int), fd_bl 7 (List.drop 14 fd_c78) [fd_R 199, fd_I q0] [fd_I (fd_sx (M 210 d)), fd_I ((M 208 d) % 7), fd_R 199] M = some ((fd_isA true M 208 20 (0 + q0) && true), [fd_R 199, fd_I q0], [fd_I (M 208 (0 + q0).toNat), fd_I (((M 208 d) % 7) + (fd_sx (M 210 d))), fd_R 199], M) := fun _ => rfl
  refine fd_u_blk 7 (C := fd_c78) (b := (fd_isA true M 208 20 (0 + ((d : Nat) : Int)) && true)) (L' := [fd_R 199, fd_I ((d : Nat) : Int)]) (st' := [fd_I (M 208 (0 + ((d : Nat) : Int)).toNat), fd_I (((M 208 d) % 7) + (fd_sx (M 210 d))), fd_R 199]) (M' := M) rfl (hB ((d : Nat) : Int)) (j := 21) rfl (fd_bA (fd_iA fd_sh208 (by omega) (by omega)) (rfl)) ?_
  clear hB
  rw [show (0 + ((d : Nat) : Int)).toNat = d by omega]
  have hB : ∀ (q0 : Int), fd_bl 1 (List.drop 21 fd_c78) [fd_R 199, fd_I q0] [fd_I (M 208 d), fd_I (((M 208 d) % 7) + (fd_sx (M 210 d))), fd_R 199] M = some (true, [fd_R 199, fd_I q0], [fd_I 7, fd_I (M 208 d), fd_I (((M 208 d) % 7) + (fd_sx (M 210 d))), fd_R 199], M) := fun _ => rfl
  refine fd_u_blk 1 (C := fd_c78) (b := true) (L' := [fd_R 199, fd_I ((d : Nat) : Int)]) (st' := [fd_I 7, fd_I (M 208 d), fd_I (((M 208 d) % 7) + (fd_sx (M 210 d))), fd_R 199]) (M' := M) rfl (hB ((d : Nat) : Int)) (j := 22) rfl (rfl) ?_
  clear hB
  have hB : ∀ (q0 : Int), fd_bl 1 (List.drop 22 fd_c78) [fd_R 199, fd_I q0] [fd_I 7, fd_I (M 208 d), fd_I (((M 208 d) % 7) + (fd_sx (M 210 d))), fd_R 199] M = some (((fd_inb (M 208 d) 2147483648 && fd_inb (7 - 1) 2147483647) && true), [fd_R 199, fd_I q0], [fd_I ((M 208 d) / 7), fd_I (((M 208 d) % 7) + (fd_sx (M 210 d))), fd_R 199], M) := fun _ => rfl
  refine fd_u_blk 1 (C := fd_c78) (b := ((fd_inb (M 208 d) 2147483648 && fd_inb (7 - 1) 2147483647) && true)) (L' := [fd_R 199, fd_I ((d : Nat) : Int)]) (st' := [fd_I ((M 208 d) / 7), fd_I (((M 208 d) % 7) + (fd_sx (M 210 d))), fd_R 199]) (M' := M) rfl (hB ((d : Nat) : Int)) (j := 23) rfl (fd_bA (fd_bA (fd_bI (by omega) (by omega)) (fd_bI (by omega) (by omega))) (rfl)) ?_
  clear hB
  have hB : ∀ (q0 : Int), fd_bl 4 (List.drop 23 fd_c78) [fd_R 199, fd_I q0] [fd_I ((M 208 d) / 7), fd_I (((M 208 d) % 7) + (fd_sx (M 210 d))), fd_R 199] M = some ((fd_isA true M 210 20 q0 && true), [fd_R 199, fd_I q0], [fd_I (M 210 (q0).toNat), fd_I ((M 208 d) / 7), fd_I (((M 208 d) % 7) + (fd_sx (M 210 d))), fd_R 199], M) := fun _ => rfl
  refine fd_u_blk 4 (C := fd_c78) (b := (fd_isA true M 210 20 ((d : Nat) : Int) && true)) (L' := [fd_R 199, fd_I ((d : Nat) : Int)]) (st' := [fd_I (M 210 d), fd_I ((M 208 d) / 7), fd_I (((M 208 d) % 7) + (fd_sx (M 210 d))), fd_R 199]) (M' := M) rfl (hB ((d : Nat) : Int)) (j := 27) rfl (fd_bA (fd_iA fd_sh210 (by omega) (by omega)) (rfl)) ?_
  clear hB
  refine fd_u_call (C := fd_c78) (d0 := 0) (mid := 74) (np := 1) (args := [fd_I (M 210 d)]) (r1 := some (fd_I (fd_sy (M 210 d)))) (M1 := M) (st' := [fd_I (fd_sy (M 210 d)), fd_I ((M 208 d) / 7), fd_I (((M 208 d) % 7) + (fd_sx (M 210 d))), fd_R 199]) rfl rfl rfl rfl rfl rfl (rfl) (fd_r_stepY M (M 210 d) (by omega)) rfl (by omega) ?_
  have qy := fd_sy_rng (M 210 d)
  have hB : ∀ (q0 : Int), fd_bl 1 (List.drop 28 fd_c78) [fd_R 199, fd_I q0] [fd_I (fd_sy (M 210 d)), fd_I ((M 208 d) / 7), fd_I (((M 208 d) % 7) + (fd_sx (M 210 d))), fd_R 199] M = some (true, [fd_R 199, fd_I q0], [fd_I (((M 208 d) / 7) + (fd_sy (M 210 d))), fd_I (((M 208 d) % 7) + (fd_sx (M 210 d))), fd_R 199], M) := fun _ => rfl
  refine fd_u_blk 1 (C := fd_c78) (b := true) (L' := [fd_R 199, fd_I ((d : Nat) : Int)]) (st' := [fd_I (((M 208 d) / 7) + (fd_sy (M 210 d))), fd_I (((M 208 d) % 7) + (fd_sx (M 210 d))), fd_R 199]) (M' := M) rfl (hB ((d : Nat) : Int)) (j := 29) rfl (rfl) ?_
  clear hB
  refine fd_u_call (C := fd_c78) (d0 := 2) (mid := 70) (np := 3) (args := [fd_R 199, fd_I (((M 208 d) % 7) + (fd_sx (M 210 d))), fd_I (((M 208 d) / 7) + (fd_sy (M 210 d)))]) (r1 := some (fd_I (fd_cvR M (((M 208 d) % 7) + (fd_sx (M 210 d))) (((M 208 d) / 7) + (fd_sy (M 210 d)))))) (M1 := M) (st' := [fd_I (fd_cvR M (((M 208 d) % 7) + (fd_sx (M 210 d))) (((M 208 d) / 7) + (fd_sy (M 210 d))))]) rfl rfl rfl rfl rfl rfl (rfl) (fd_r_cell M hP hS (((M 208 d) % 7) + (fd_sx (M 210 d))) (((M 208 d) / 7) + (fd_sy (M 210 d))) (by omega) (by omega)) rfl (by omega) ?_
  have qc := fd_cvR_rng hP (((M 208 d) % 7) + (fd_sx (M 210 d))) (((M 208 d) / 7) + (fd_sy (M 210 d)))
  refine fd_u_br (C := fd_c78) (t := 33) (e := 31) (st' := []) (c := ¬ (fd_cvR M (((M 208 d) % 7) + (fd_sx (M 210 d))) (((M 208 d) / 7) + (fd_sy (M 210 d)))) = 0) (b := (fd_rng (fd_cvR M (((M 208 d) % 7) + (fd_sx (M 210 d))) (((M 208 d) / 7) + (fd_sy (M 210 d)))))) rfl rfl rfl (fd_bR (by omega) (by omega)) (fun h30 => ?_) (fun h30 => ?_)
  · have hB : ∀ (q0 : Int), fd_bl 1 (List.drop 33 fd_c78) [fd_R 199, fd_I q0] [] M = some (true, [fd_R 199, fd_I q0], [fd_I 0], M) := fun _ => rfl
    refine fd_u_blk 1 (C := fd_c78) (b := true) (L' := [fd_R 199, fd_I ((d : Nat) : Int)]) (st' := [fd_I 0]) (M' := M) rfl (hB ((d : Nat) : Int)) (j := 34) rfl (rfl) ?_
    clear hB
    refine fd_u_ret (C := fd_c78) (b := true) (r' := some (fd_I 0)) rfl rfl rfl (rfl) ?_ ?_
    · exact fd_ok0 h30
    · rfl
  · have hB : ∀ (q0 : Int), fd_bl 1 (List.drop 31 fd_c78) [fd_R 199, fd_I q0] [] M = some (true, [fd_R 199, fd_I q0], [fd_I 1], M) := fun _ => rfl
    refine fd_u_blk 1 (C := fd_c78) (b := true) (L' := [fd_R 199, fd_I ((d : Nat) : Int)]) (st' := [fd_I 1]) (M' := M) rfl (hB ((d : Nat) : Int)) (j := 32) rfl (rfl) ?_
    clear hB
    refine fd_u_jmp (C := fd_c78) (j := 34) (st' := [fd_I 1]) rfl rfl (b := true) rfl rfl ?_
    refine fd_u_ret (C := fd_c78) (b := true) (r' := some (fd_I 1)) rfl rfl rfl (rfl) ?_ ?_
    · exact fd_ok1 (Classical.not_not.mp h30)
    · rfl

theorem fd_l_seenByR (M : fd_M) (hP : fd_RP M) (hS : fd_RS M) (hW : fd_RW M) (d : Int) (hd : 0 ≤ d ∧ d < 6) : ∀ (n : Nat) (k : Nat) (hk : (k : Int) + n = M 204 0), fd_run 4 79 4 [fd_R 199, fd_I d, fd_I (fd_bits (fun j => fd_sR M j = d) k), fd_I ((k : Nat) : Int)] [] M (some (fd_I (fd_bits (fun j => fd_sR M j = d) (M 204 0).toNat))) M := by
  obtain ⟨g0, g1, g2, g3, g4, g5⟩ := id hP
  intro n
  induction n with
  | zero =>
    intro k hk
    have hB : ∀ (q0 : Int), fd_bl 5 (List.drop 4 fd_c79) [fd_R 199, fd_I d, fd_I (fd_bits (fun j => fd_sR M j = d) k), fd_I q0] [] M = some (true, [fd_R 199, fd_I d, fd_I (fd_bits (fun j => fd_sR M j = d) k), fd_I q0], [fd_I (M 204 0), fd_I q0], M) := fun _ => rfl
    refine fd_u_blk 5 (C := fd_c79) (b := true) (L' := [fd_R 199, fd_I d, fd_I (fd_bits (fun j => fd_sR M j = d) k), fd_I ((k : Nat) : Int)]) (st' := [fd_I (M 204 0), fd_I ((k : Nat) : Int)]) (M' := M) rfl (hB ((k : Nat) : Int)) (j := 9) rfl (rfl) ?_
    clear hB
    refine fd_u_br (C := fd_c79) (t := 25) (e := 10) (st' := []) (c := (M 204 0) ≤ ((k : Nat) : Int)) (b := (fd_rng ((k : Nat) : Int) && fd_rng (M 204 0))) rfl rfl rfl (fd_bA (fd_bR (by omega) (by omega)) (fd_bR (by omega) (by omega))) (fun h9 => ?_) (fun h9 => absurd h9 (by omega))
    have hB : ∀ (q0 : Int), fd_bl 1 (List.drop 25 fd_c79) [fd_R 199, fd_I d, fd_I (fd_bits (fun j => fd_sR M j = d) k), fd_I q0] [] M = some (true, [fd_R 199, fd_I d, fd_I (fd_bits (fun j => fd_sR M j = d) k), fd_I q0], [fd_I (fd_bits (fun j => fd_sR M j = d) k)], M) := fun _ => rfl
    refine fd_u_blk 1 (C := fd_c79) (b := true) (L' := [fd_R 199, fd_I d, fd_I (fd_bits (fun j => fd_sR M j = d) k), fd_I ((k : Nat) : Int)]) (st' := [fd_I (fd_bits (fun j => fd_sR M j = d) k)]) (M' := M) rfl (hB ((k : Nat) : Int)) (j := 26) rfl (rfl) ?_
    clear hB
    refine fd_u_ret (C := fd_c79) (b := true) (r' := some (fd_I (fd_bits (fun j => fd_sR M j = d) k))) rfl rfl rfl (rfl) ?_ ?_
    · rw [show (M 204 0).toNat = k by omega]
    · rfl
  | succ n ih =>
    intro k hk
    have hB : ∀ (q0 : Int), fd_bl 5 (List.drop 4 fd_c79) [fd_R 199, fd_I d, fd_I (fd_bits (fun j => fd_sR M j = d) k), fd_I q0] [] M = some (true, [fd_R 199, fd_I d, fd_I (fd_bits (fun j => fd_sR M j = d) k), fd_I q0], [fd_I (M 204 0), fd_I q0], M) := fun _ => rfl
    refine fd_u_blk 5 (C := fd_c79) (b := true) (L' := [fd_R 199, fd_I d, fd_I (fd_bits (fun j => fd_sR M j = d) k), fd_I ((k : Nat) : Int)]) (st' := [fd_I (M 204 0), fd_I ((k : Nat) : Int)]) (M' := M) rfl (hB ((k : Nat) : Int)) (j := 9) rfl (rfl) ?_
    clear hB
    refine fd_u_br (C := fd_c79) (t := 25) (e := 10) (st' := []) (c := (M 204 0) ≤ ((k : Nat) : Int)) (b := (fd_rng ((k : Nat) : Int) && fd_rng (M 204 0))) rfl rfl rfl (fd_bA (fd_bR (by omega) (by omega)) (fd_bR (by omega) (by omega))) (fun h9 => absurd h9 (by omega)) (fun h9 => ?_)
    have hB : ∀ (q0 : Int), fd_bl 3 (List.drop 10 fd_c79) [fd_R 199, fd_I d, fd_I (fd_bits (fun j => fd_sR M j = d) k), fd_I q0] [] M = some (true, [fd_R 199, fd_I d, fd_I (fd_bits (fun j => fd_sR M j = d) k), fd_I q0], [fd_I q0, fd_R 199, fd_I (fd_bits (fun j => fd_sR M j = d) k)], M) := fun _ => rfl
    refine fd_u_blk 3 (C := fd_c79) (b := true) (L' := [fd_R 199, fd_I d, fd_I (fd_bits (fun j => fd_sR M j = d) k), fd_I ((k : Nat) : Int)]) (st' := [fd_I ((k : Nat) : Int), fd_R 199, fd_I (fd_bits (fun j => fd_sR M j = d) k)]) (M' := M) rfl (hB ((k : Nat) : Int)) (j := 13) rfl (rfl) ?_
    clear hB
    refine fd_u_call (C := fd_c79) (d0 := 3) (mid := 75) (np := 2) (args := [fd_R 199, fd_I ((k : Nat) : Int)]) (r1 := some (fd_I (fd_sR M k))) (M1 := M) (st' := [fd_I (fd_sR M k), fd_I (fd_bits (fun j => fd_sR M j = d) k)]) rfl rfl rfl rfl rfl rfl (rfl) (fd_r_sees M hP hS hW k (by omega)) rfl (by omega) ?_
    have qs5 := fd_sR_rng hP k
    have hB : ∀ (q0 : Int), fd_bl 1 (List.drop 14 fd_c79) [fd_R 199, fd_I d, fd_I (fd_bits (fun j => fd_sR M j = d) k), fd_I q0] [fd_I (fd_sR M k), fd_I (fd_bits (fun j => fd_sR M j = d) k)] M = some (true, [fd_R 199, fd_I d, fd_I (fd_bits (fun j => fd_sR M j = d) k), fd_I q0], [fd_I d, fd_I (fd_sR M k), fd_I (fd_bits (fun j => fd_sR M j = d) k)], M) := fun _ => rfl
    refine fd_u_blk 1 (C := fd_c79) (b := true) (L' := [fd_R 199, fd_I d, fd_I (fd_bits (fun j => fd_sR M j = d) k), fd_I ((k : Nat) : Int)]) (st' := [fd_I d, fd_I (fd_sR M k), fd_I (fd_bits (fun j => fd_sR M j = d) k)]) (M' := M) rfl (hB ((k : Nat) : Int)) (j := 15) rfl (rfl) ?_
    clear hB
    refine fd_u_br (C := fd_c79) (t := 20) (e := 16) (st' := [fd_I (fd_bits (fun j => fd_sR M j = d) k)]) (c := ¬ (fd_sR M k) = d) (b := (fd_rng (fd_sR M k) && fd_rng d)) rfl rfl rfl (fd_bA (fd_bR (by omega) (by omega)) (fd_bR (by omega) (by omega))) (fun h15 => ?_) (fun h15 => ?_)
    · have hB : ∀ (q0 : Int), fd_bl 4 (List.drop 20 fd_c79) [fd_R 199, fd_I d, fd_I (fd_bits (fun j => fd_sR M j = d) k), fd_I q0] [fd_I (fd_bits (fun j => fd_sR M j = d) k)] M = some (true, [fd_R 199, fd_I d, fd_I (fd_or (fd_bits (fun j => fd_sR M j = d) k) 0), fd_I (q0 + 1)], [], M) := fun _ => rfl
      refine fd_u_blk 4 (C := fd_c79) (b := true) (L' := [fd_R 199, fd_I d, fd_I (fd_or (fd_bits (fun j => fd_sR M j = d) k) 0), fd_I (((k + 1) : Nat) : Int)]) (st' := []) (M' := M) rfl (hB ((k : Nat) : Int)) (j := 24) rfl (rfl) ?_
      clear hB
      refine fd_u_jmp (C := fd_c79) (j := 4) (st' := []) rfl rfl (b := true) rfl rfl ?_
      have qb := fd_bits_rng (fun j => fd_sR M j = d) k
      have q6 : (2 : Int) ^ k ≤ 64 := by have := fd_pw6 (n := k) (by omega); have := fd_pw k; omega
      have e5 : (fd_or (fd_bits (fun j => fd_sR M j = d) k) 0) = (fd_bits (fun j => fd_sR M j = d) (k + 1)) := by
        show fd_or _ 0 = fd_bits (fun j => fd_sR M j = d) k + (if fd_sR M k = d then 2 ^ k else 0)
        rw [fd_or0 (by omega), if_neg h15]; omega
      rw [e5]
      exact ih (k + 1) (by omega)
    · have hB : ∀ (q0 : Int), fd_bl 3 (List.drop 16 fd_c79) [fd_R 199, fd_I d, fd_I (fd_bits (fun j => fd_sR M j = d) k), fd_I q0] [fd_I (fd_bits (fun j => fd_sR M j = d) k)] M = some ((fd_inb q0 32 && true), [fd_R 199, fd_I d, fd_I (fd_bits (fun j => fd_sR M j = d) k), fd_I q0], [fd_I (2 ^ (q0).toNat), fd_I (fd_bits (fun j => fd_sR M j = d) k)], M) := fun _ => rfl
      refine fd_u_blk 3 (C := fd_c79) (b := (fd_inb ((k : Nat) : Int) 32 && true)) (L' := [fd_R 199, fd_I d, fd_I (fd_bits (fun j => fd_sR M j = d) k), fd_I ((k : Nat) : Int)]) (st' := [fd_I (2 ^ k), fd_I (fd_bits (fun j => fd_sR M j = d) k)]) (M' := M) rfl (hB ((k : Nat) : Int)) (j := 19) rfl (fd_bA (fd_bI (by omega) (by omega)) (rfl)) ?_
      clear hB
      refine fd_u_jmp (C := fd_c79) (j := 21) (st' := [fd_I (2 ^ k), fd_I (fd_bits (fun j => fd_sR M j = d) k)]) rfl rfl (b := true) rfl rfl ?_
      have hB : ∀ (q0 : Int), fd_bl 3 (List.drop 21 fd_c79) [fd_R 199, fd_I d, fd_I (fd_bits (fun j => fd_sR M j = d) k), fd_I q0] [fd_I (2 ^ k), fd_I (fd_bits (fun j => fd_sR M j = d) k)] M = some (true, [fd_R 199, fd_I d, fd_I (fd_or (fd_bits (fun j => fd_sR M j = d) k) (2 ^ k)), fd_I (q0 + 1)], [], M) := fun _ => rfl
      refine fd_u_blk 3 (C := fd_c79) (b := true) (L' := [fd_R 199, fd_I d, fd_I (fd_or (fd_bits (fun j => fd_sR M j = d) k) (2 ^ k)), fd_I (((k + 1) : Nat) : Int)]) (st' := []) (M' := M) rfl (hB ((k : Nat) : Int)) (j := 24) rfl (rfl) ?_
      clear hB
      refine fd_u_jmp (C := fd_c79) (j := 4) (st' := []) rfl rfl (b := true) rfl rfl ?_
      have qb := fd_bits_rng (fun j => fd_sR M j = d) k
      have q6 : (2 : Int) ^ k ≤ 64 := by have := fd_pw6 (n := k) (by omega); have := fd_pw k; omega
      have e5 : (fd_or (fd_bits (fun j => fd_sR M j = d) k) (2 ^ k)) = (fd_bits (fun j => fd_sR M j = d) (k + 1)) := by
        show fd_or _ (2 ^ k) = fd_bits (fun j => fd_sR M j = d) k + (if fd_sR M k = d then 2 ^ k else 0)
        rw [fd_orS (by omega) qb.1 qb.2, if_pos (Classical.not_not.mp h15)]
      rw [e5]
      exact ih (k + 1) (by omega)

theorem fd_r_seenBy (M : fd_M) (hP : fd_RP M) (hS : fd_RS M) (hW : fd_RW M) (d : Int) (hd : 0 ≤ d ∧ d < 6) : fd_call 4 79 [fd_R 199, fd_I d] M (some (fd_I (fd_bits (fun j => fd_sR M j = d) (M 204 0).toNat))) M := by
  refine fd_u_in (L := [fd_R 199, fd_I d, fd_R 1003, fd_R 1003]) rfl ?_
  obtain ⟨g0, g1, g2, g3, g4, g5⟩ := id hP
  refine fd_u_blk 4 (C := fd_c79) (b := true) (L' := [fd_R 199, fd_I d, fd_I 0, fd_I 0]) (st' := []) (M' := M) rfl rfl (j := 4) rfl (rfl) ?_
  exact fd_l_seenByR M hP hS hW d hd (M 204 0).toNat 0 (by omega)

theorem fd_RP_of {M N : fd_M} (h : fd_RP M) (e1 : N 201 = M 201) (e2 : N 202 = M 202) (e3 : N 203 = M 203) (e4 : N 204 = M 204) (e7 : N 207 = M 207) : fd_RP N := by
  unfold fd_RP at h ⊢
  rw [e1, e2, e3, e4, e7]
  exact h
theorem fd_RS_of {M N : fd_M} (h : fd_RS M) (e4 : N 204 = M 204) (e8 : N 208 = M 208) : fd_RS N := by
  unfold fd_RS at h ⊢
  rw [e4, e8]
  exact h
theorem fd_RP_tak {M : fd_M} (h : fd_RP M) : fd_RP (fd_tak M) := fd_RP_of h (fd_tak_fr (by decide) (by decide)) (fd_tak_fr (by decide) (by decide)) (fd_tak_fr (by decide) (by decide)) (fd_tak_fr (by decide) (by decide)) (fd_tak_fr (by decide) (by decide))
theorem fd_RS_tak {M : fd_M} (h : fd_RS M) : fd_RS (fd_tak M) := fd_RS_of h (fd_tak_fr (by decide) (by decide)) (fd_tak_fr (by decide) (by decide))
theorem fd_tak_w {M : fd_M} {d : Nat} (h : d < 6) : fd_tak M 210 d = M 208 (6 + d) := by
  unfold fd_tak
  rw [if_pos ⟨rfl, h⟩]
theorem fd_tak_o (M : fd_M) : fd_tak M 199 19 = M 208 12 := rfl
theorem fd_tak_f (M : fd_M) : fd_tak M 199 20 = M 208 14 := rfl
theorem fd_RW_tak {M : fd_M} (hP : fd_RP M) (h : fd_RS M) : fd_RW (fd_tak M) := by
  refine ⟨fun d hd => ?_, h.2.2.1, h.2.2.2.2.1⟩
  have hd2 : (d : Int) < M 204 0 := hd
  have g := hP.2.2.1
  rw [fd_tak_w (by omega)]
  exact (h.1 d hd2).2.1
theorem fd_r_duesNow (M : fd_M) (hP : fd_RP M) (hS : fd_RS M) : fd_call 6 82 [fd_R 199] M (some (fd_I (fd_sum (fd_dR (fd_tak M)) (M 204 0).toNat))) (fd_tak M) := by
  refine fd_u_in (L := [fd_R 199]) rfl ?_
  refine fd_u_blk 1 (C := fd_c82) (b := true) (L' := [fd_R 199]) (st' := [fd_R 199]) (M' := M) rfl rfl (j := 1) rfl (rfl) ?_
  refine fd_u_call (C := fd_c82) (d0 := 0) (mid := 72) (np := 1) (args := [fd_R 199]) (r1 := none) (M1 := (fd_tak M)) (st' := []) rfl rfl rfl rfl rfl rfl (rfl) (fd_r_take M hS.2.2.2.2.1) rfl (by omega) ?_
  refine fd_u_blk 1 (C := fd_c82) (b := true) (L' := [fd_R 199]) (st' := [fd_R 199]) (M' := (fd_tak M)) rfl rfl (j := 3) rfl (rfl) ?_
  refine fd_u_call (C := fd_c82) (d0 := 5) (mid := 77) (np := 1) (args := [fd_R 199]) (r1 := some (fd_I (fd_sum (fd_dR (fd_tak M)) ((fd_tak M) 204 0).toNat))) (M1 := (fd_tak M)) (st' := [fd_I (fd_sum (fd_dR (fd_tak M)) ((fd_tak M) 204 0).toNat)]) rfl rfl rfl rfl rfl rfl (rfl) (fd_r_dues (fd_tak M) (fd_RP_tak hP) (fd_RS_tak hS) (fd_RW_tak hP hS)) rfl (by omega) ?_
  refine fd_u_ret (C := fd_c82) (b := true) (r' := some (fd_I (fd_sum (fd_dR (fd_tak M)) ((fd_tak M) 204 0).toNat))) rfl rfl rfl (rfl) ?_ ?_
  · rfl
  · rfl


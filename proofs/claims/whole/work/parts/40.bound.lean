/-! bound: the class -/
abbrev fd_vac (M : fd_M) (d : Nat) (w : Int) : Prop := fd_cvC M (M 15 d + fd_sx w) (M 16 d + fd_sy w) = 0
def fd_can (M : fd_M) (d : Nat) : Bool := decide (fd_vac M d 0 ∨ fd_vac M d 1 ∨ fd_vac M d 2 ∨ fd_vac M d 3)
def fd_must (M : fd_M) (d : Nat) (t : Int) : Bool := fd_all (fun w => decide (¬ fd_vac M d (w : Int) ∨ fd_nb (fd_wsee M d (w : Int)) = t)) 4
theorem fd_l_each (M : fd_M) (hG : fd_CG M) : ∀ (n : Nat) (k : Nat) (u v : fd_V) (hk : (k : Int) + n = M 3 2) (ha : fd_all (fd_can M) k = true), fd_run 5 161 2 [fd_R 72, fd_I ((k : Nat) : Int), u, v] [] M (some (fd_I (fd_bi (fd_all (fd_can M) (M 3 2).toNat = true)))) M := by
  obtain ⟨g0, g1, g2, g3, g4, g5⟩ := hG.1
  intro n
  induction n with
  | zero =>
    intro k u v hk ha
    refine fd_u_blk 4 (C := fd_c161) (b := true) (L' := [fd_R 72, fd_I ((k : Nat) : Int), u, v]) (st' := [fd_I (M 3 2), fd_I ((k : Nat) : Int)]) (M' := M) rfl rfl (j := 6) rfl (rfl) ?_
    refine fd_u_br (C := fd_c161) (t := 33) (e := 7) (st' := []) (c := (M 3 2) ≤ ((k : Nat) : Int)) (b := (fd_rng ((k : Nat) : Int) && fd_rng (M 3 2))) rfl rfl rfl (fd_bA (fd_bR (by omega) (by omega)) (fd_bR (by omega) (by omega))) (fun h6 => ?_) (fun h6 => absurd h6 (by omega))
    refine fd_u_blk 1 (C := fd_c161) (b := true) (L' := [fd_R 72, fd_I ((k : Nat) : Int), u, v]) (st' := [fd_I 1]) (M' := M) rfl rfl (j := 34) rfl (rfl) ?_
    refine fd_u_ret (C := fd_c161) (b := true) (r' := some (fd_I 1)) rfl rfl rfl (rfl) ?_ ?_
    · refine fd_ok1 ?_
      rw [show (M 3 2).toNat = k by omega]
      exact ha
    · rfl
  | succ n ih =>
    intro k u v hk ha
    refine fd_u_blk 4 (C := fd_c161) (b := true) (L' := [fd_R 72, fd_I ((k : Nat) : Int), u, v]) (st' := [fd_I (M 3 2), fd_I ((k : Nat) : Int)]) (M' := M) rfl rfl (j := 6) rfl (rfl) ?_
    refine fd_u_br (C := fd_c161) (t := 33) (e := 7) (st' := []) (c := (M 3 2) ≤ ((k : Nat) : Int)) (b := (fd_rng ((k : Nat) : Int) && fd_rng (M 3 2))) rfl rfl rfl (fd_bA (fd_bR (by omega) (by omega)) (fd_bR (by omega) (by omega))) (fun h6 => absurd h6 (by omega)) (fun h6 => ?_)
    refine fd_u_blk 6 (C := fd_c161) (b := true) (L' := [fd_R 72, fd_I ((k : Nat) : Int), fd_I 0, fd_I 0]) (st' := [fd_I 4, fd_I 0]) (M' := M) rfl rfl (j := 13) rfl (rfl) ?_
    refine fd_u_br (C := fd_c161) (t := 27) (e := 14) (st' := []) (c := 4 ≤ 0) (b := (fd_rng 0 && fd_rng 4)) rfl rfl rfl (fd_bA (fd_bR (by omega) (by omega)) (fd_bR (by omega) (by omega))) (fun h13 => absurd h13 (by omega)) (fun h13 => ?_)
    refine fd_u_blk 1 (C := fd_c161) (b := true) (L' := [fd_R 72, fd_I ((k : Nat) : Int), fd_I 0, fd_I 0]) (st' := [fd_I 0]) (M' := M) rfl rfl (j := 15) rfl (rfl) ?_
    refine fd_u_br (C := fd_c161) (t := 21) (e := 16) (st' := []) (c := ¬ 0 = 0) (b := (fd_rng 0)) rfl rfl rfl (fd_bR (by omega) (by omega)) (fun h15 => absurd h15 (by omega)) (fun h15 => ?_)
    refine fd_u_blk 3 (C := fd_c161) (b := true) (L' := [fd_R 72, fd_I ((k : Nat) : Int), fd_I 0, fd_I 0]) (st' := [fd_I 0, fd_I ((k : Nat) : Int), fd_R 72]) (M' := M) rfl rfl (j := 19) rfl (rfl) ?_
    refine fd_u_call (C := fd_c161) (d0 := 4) (mid := 159) (np := 3) (args := [fd_R 72, fd_I ((k : Nat) : Int), fd_I 0]) (r1 := some (fd_I (fd_bi (fd_vac M k 0)))) (M1 := M) (st' := [fd_I (fd_bi (fd_vac M k 0))]) rfl rfl rfl rfl rfl rfl (rfl) (fd_s_hasWayIn M hG ((k : Nat) : Int) (by omega) 0 (by omega)) rfl (by omega) ?_
    refine fd_u_br (C := fd_c161) (t := 23) (e := 21) (st' := []) (c := (fd_bi (fd_vac M k 0)) = 0) (b := (fd_rng (fd_bi (fd_vac M k 0)))) rfl rfl rfl (fd_biR) (fun h20 => ?_) (fun h20 => ?_)
    · have h20 := fd_biF.mp h20
      refine fd_u_blk 3 (C := fd_c161) (b := true) (L' := [fd_R 72, fd_I ((k : Nat) : Int), fd_I 0, fd_I 1]) (st' := []) (M' := M) rfl rfl (j := 26) rfl (rfl) ?_
      refine fd_u_jmp (C := fd_c161) (j := 11) (st' := []) rfl rfl (b := true) rfl rfl ?_
      refine fd_u_blk 2 (C := fd_c161) (b := true) (L' := [fd_R 72, fd_I ((k : Nat) : Int), fd_I 0, fd_I 1]) (st' := [fd_I 4, fd_I 1]) (M' := M) rfl rfl (j := 13) rfl (rfl) ?_
      refine fd_u_br (C := fd_c161) (t := 27) (e := 14) (st' := []) (c := 4 ≤ 1) (b := (fd_rng 1 && fd_rng 4)) rfl rfl rfl (fd_bA (fd_bR (by omega) (by omega)) (fd_bR (by omega) (by omega))) (fun h13 => absurd h13 (by omega)) (fun h13 => ?_)
      refine fd_u_blk 1 (C := fd_c161) (b := true) (L' := [fd_R 72, fd_I ((k : Nat) : Int), fd_I 0, fd_I 1]) (st' := [fd_I 0]) (M' := M) rfl rfl (j := 15) rfl (rfl) ?_
      refine fd_u_br (C := fd_c161) (t := 21) (e := 16) (st' := []) (c := ¬ 0 = 0) (b := (fd_rng 0)) rfl rfl rfl (fd_bR (by omega) (by omega)) (fun h15 => absurd h15 (by omega)) (fun h15 => ?_)
      refine fd_u_blk 3 (C := fd_c161) (b := true) (L' := [fd_R 72, fd_I ((k : Nat) : Int), fd_I 0, fd_I 1]) (st' := [fd_I 1, fd_I ((k : Nat) : Int), fd_R 72]) (M' := M) rfl rfl (j := 19) rfl (rfl) ?_
      refine fd_u_call (C := fd_c161) (d0 := 4) (mid := 159) (np := 3) (args := [fd_R 72, fd_I ((k : Nat) : Int), fd_I 1]) (r1 := some (fd_I (fd_bi (fd_vac M k 1)))) (M1 := M) (st' := [fd_I (fd_bi (fd_vac M k 1))]) rfl rfl rfl rfl rfl rfl (rfl) (fd_s_hasWayIn M hG ((k : Nat) : Int) (by omega) 1 (by omega)) rfl (by omega) ?_
      refine fd_u_br (C := fd_c161) (t := 23) (e := 21) (st' := []) (c := (fd_bi (fd_vac M k 1)) = 0) (b := (fd_rng (fd_bi (fd_vac M k 1)))) rfl rfl rfl (fd_biR) (fun h20 => ?_) (fun h20 => ?_)
      · have h20 := fd_biF.mp h20
        refine fd_u_blk 3 (C := fd_c161) (b := true) (L' := [fd_R 72, fd_I ((k : Nat) : Int), fd_I 0, fd_I 2]) (st' := []) (M' := M) rfl rfl (j := 26) rfl (rfl) ?_
        refine fd_u_jmp (C := fd_c161) (j := 11) (st' := []) rfl rfl (b := true) rfl rfl ?_
        refine fd_u_blk 2 (C := fd_c161) (b := true) (L' := [fd_R 72, fd_I ((k : Nat) : Int), fd_I 0, fd_I 2]) (st' := [fd_I 4, fd_I 2]) (M' := M) rfl rfl (j := 13) rfl (rfl) ?_
        refine fd_u_br (C := fd_c161) (t := 27) (e := 14) (st' := []) (c := 4 ≤ 2) (b := (fd_rng 2 && fd_rng 4)) rfl rfl rfl (fd_bA (fd_bR (by omega) (by omega)) (fd_bR (by omega) (by omega))) (fun h13 => absurd h13 (by omega)) (fun h13 => ?_)
        refine fd_u_blk 1 (C := fd_c161) (b := true) (L' := [fd_R 72, fd_I ((k : Nat) : Int), fd_I 0, fd_I 2]) (st' := [fd_I 0]) (M' := M) rfl rfl (j := 15) rfl (rfl) ?_
        refine fd_u_br (C := fd_c161) (t := 21) (e := 16) (st' := []) (c := ¬ 0 = 0) (b := (fd_rng 0)) rfl rfl rfl (fd_bR (by omega) (by omega)) (fun h15 => absurd h15 (by omega)) (fun h15 => ?_)
        refine fd_u_blk 3 (C := fd_c161) (b := true) (L' := [fd_R 72, fd_I ((k : Nat) : Int), fd_I 0, fd_I 2]) (st' := [fd_I 2, fd_I ((k : Nat) : Int), fd_R 72]) (M' := M) rfl rfl (j := 19) rfl (rfl) ?_
        refine fd_u_call (C := fd_c161) (d0 := 4) (mid := 159) (np := 3) (args := [fd_R 72, fd_I ((k : Nat) : Int), fd_I 2]) (r1 := some (fd_I (fd_bi (fd_vac M k 2)))) (M1 := M) (st' := [fd_I (fd_bi (fd_vac M k 2))]) rfl rfl rfl rfl rfl rfl (rfl) (fd_s_hasWayIn M hG ((k : Nat) : Int) (by omega) 2 (by omega)) rfl (by omega) ?_
        refine fd_u_br (C := fd_c161) (t := 23) (e := 21) (st' := []) (c := (fd_bi (fd_vac M k 2)) = 0) (b := (fd_rng (fd_bi (fd_vac M k 2)))) rfl rfl rfl (fd_biR) (fun h20 => ?_) (fun h20 => ?_)
        · have h20 := fd_biF.mp h20
          refine fd_u_blk 3 (C := fd_c161) (b := true) (L' := [fd_R 72, fd_I ((k : Nat) : Int), fd_I 0, fd_I 3]) (st' := []) (M' := M) rfl rfl (j := 26) rfl (rfl) ?_
          refine fd_u_jmp (C := fd_c161) (j := 11) (st' := []) rfl rfl (b := true) rfl rfl ?_
          refine fd_u_blk 2 (C := fd_c161) (b := true) (L' := [fd_R 72, fd_I ((k : Nat) : Int), fd_I 0, fd_I 3]) (st' := [fd_I 4, fd_I 3]) (M' := M) rfl rfl (j := 13) rfl (rfl) ?_
          refine fd_u_br (C := fd_c161) (t := 27) (e := 14) (st' := []) (c := 4 ≤ 3) (b := (fd_rng 3 && fd_rng 4)) rfl rfl rfl (fd_bA (fd_bR (by omega) (by omega)) (fd_bR (by omega) (by omega))) (fun h13 => absurd h13 (by omega)) (fun h13 => ?_)
          refine fd_u_blk 1 (C := fd_c161) (b := true) (L' := [fd_R 72, fd_I ((k : Nat) : Int), fd_I 0, fd_I 3]) (st' := [fd_I 0]) (M' := M) rfl rfl (j := 15) rfl (rfl) ?_
          refine fd_u_br (C := fd_c161) (t := 21) (e := 16) (st' := []) (c := ¬ 0 = 0) (b := (fd_rng 0)) rfl rfl rfl (fd_bR (by omega) (by omega)) (fun h15 => absurd h15 (by omega)) (fun h15 => ?_)
          refine fd_u_blk 3 (C := fd_c161) (b := true) (L' := [fd_R 72, fd_I ((k : Nat) : Int), fd_I 0, fd_I 3]) (st' := [fd_I 3, fd_I ((k : Nat) : Int), fd_R 72]) (M' := M) rfl rfl (j := 19) rfl (rfl) ?_
          refine fd_u_call (C := fd_c161) (d0 := 4) (mid := 159) (np := 3) (args := [fd_R 72, fd_I ((k : Nat) : Int), fd_I 3]) (r1 := some (fd_I (fd_bi (fd_vac M k 3)))) (M1 := M) (st' := [fd_I (fd_bi (fd_vac M k 3))]) rfl rfl rfl rfl rfl rfl (rfl) (fd_s_hasWayIn M hG ((k : Nat) : Int) (by omega) 3 (by omega)) rfl (by omega) ?_
          refine fd_u_br (C := fd_c161) (t := 23) (e := 21) (st' := []) (c := (fd_bi (fd_vac M k 3)) = 0) (b := (fd_rng (fd_bi (fd_vac M k 3)))) rfl rfl rfl (fd_biR) (fun h20 => ?_) (fun h20 => ?_)
          · have h20 := fd_biF.mp h20
            refine fd_u_blk 3 (C := fd_c161) (b := true) (L' := [fd_R 72, fd_I ((k : Nat) : Int), fd_I 0, fd_I 4]) (st' := []) (M' := M) rfl rfl (j := 26) rfl (rfl) ?_
            refine fd_u_jmp (C := fd_c161) (j := 11) (st' := []) rfl rfl (b := true) rfl rfl ?_
            refine fd_u_blk 2 (C := fd_c161) (b := true) (L' := [fd_R 72, fd_I ((k : Nat) : Int), fd_I 0, fd_I 4]) (st' := [fd_I 4, fd_I 4]) (M' := M) rfl rfl (j := 13) rfl (rfl) ?_
            refine fd_u_br (C := fd_c161) (t := 27) (e := 14) (st' := []) (c := 4 ≤ 4) (b := (fd_rng 4 && fd_rng 4)) rfl rfl rfl (fd_bA (fd_bR (by omega) (by omega)) (fd_bR (by omega) (by omega))) (fun h13 => ?_) (fun h13 => absurd h13 (by omega))
            refine fd_u_blk 1 (C := fd_c161) (b := true) (L' := [fd_R 72, fd_I ((k : Nat) : Int), fd_I 0, fd_I 4]) (st' := [fd_I 0]) (M' := M) rfl rfl (j := 28) rfl (rfl) ?_
            refine fd_u_br (C := fd_c161) (t := 31) (e := 29) (st' := []) (c := ¬ 0 = 0) (b := (fd_rng 0)) rfl rfl rfl (fd_bR (by omega) (by omega)) (fun h28 => absurd h28 (by omega)) (fun h28 => ?_)
            refine fd_u_blk 1 (C := fd_c161) (b := true) (L' := [fd_R 72, fd_I ((k : Nat) : Int), fd_I 0, fd_I 4]) (st' := [fd_I 0]) (M' := M) rfl rfl (j := 30) rfl (rfl) ?_
            refine fd_u_ret (C := fd_c161) (b := true) (r' := some (fd_I 0)) rfl rfl rfl (rfl) ?_ ?_
            · refine fd_ok0 (fun q => ?_)
              have q2 := (fd_all_iff _).mp q k (by omega)
              unfold fd_can at q2
              have q3 := of_decide_eq_true q2
              simp_all
            · rfl
          · have h20 := fd_biT.mp h20
            refine fd_u_blk 1 (C := fd_c161) (b := true) (L' := [fd_R 72, fd_I ((k : Nat) : Int), fd_I 0, fd_I 3]) (st' := [fd_I 1]) (M' := M) rfl rfl (j := 22) rfl (rfl) ?_
            refine fd_u_jmp (C := fd_c161) (j := 24) (st' := [fd_I 1]) rfl rfl (b := true) rfl rfl ?_
            refine fd_u_blk 2 (C := fd_c161) (b := true) (L' := [fd_R 72, fd_I ((k : Nat) : Int), fd_I 1, fd_I 4]) (st' := []) (M' := M) rfl rfl (j := 26) rfl (rfl) ?_
            refine fd_u_jmp (C := fd_c161) (j := 11) (st' := []) rfl rfl (b := true) rfl rfl ?_
            refine fd_u_blk 2 (C := fd_c161) (b := true) (L' := [fd_R 72, fd_I ((k : Nat) : Int), fd_I 1, fd_I 4]) (st' := [fd_I 4, fd_I 4]) (M' := M) rfl rfl (j := 13) rfl (rfl) ?_
            refine fd_u_br (C := fd_c161) (t := 27) (e := 14) (st' := []) (c := 4 ≤ 4) (b := (fd_rng 4 && fd_rng 4)) rfl rfl rfl (fd_bA (fd_bR (by omega) (by omega)) (fd_bR (by omega) (by omega))) (fun h13 => ?_) (fun h13 => absurd h13 (by omega))
            refine fd_u_blk 1 (C := fd_c161) (b := true) (L' := [fd_R 72, fd_I ((k : Nat) : Int), fd_I 1, fd_I 4]) (st' := [fd_I 1]) (M' := M) rfl rfl (j := 28) rfl (rfl) ?_
            refine fd_u_br (C := fd_c161) (t := 31) (e := 29) (st' := []) (c := ¬ 1 = 0) (b := (fd_rng 1)) rfl rfl rfl (fd_bR (by omega) (by omega)) (fun h28 => ?_) (fun h28 => absurd h28 (by omega))
            refine fd_u_blk 1 (C := fd_c161) (b := true) (L' := [fd_R 72, fd_I (((k + 1) : Nat) : Int), fd_I 1, fd_I 4]) (st' := []) (M' := M) rfl rfl (j := 32) rfl (rfl) ?_
            refine fd_u_jmp (C := fd_c161) (j := 2) (st' := []) rfl rfl (b := true) rfl rfl ?_
            refine ih (k + 1) _ _ (by omega) ?_
            show (fd_all (fd_can M) k && fd_can M k) = true
            rw [ha, Bool.true_and]
            unfold fd_can
            apply decide_eq_true
            first | exact Or.inl h20 | exact Or.inr (Or.inl h20) | exact Or.inr (Or.inr (Or.inl h20)) | exact Or.inr (Or.inr (Or.inr h20))
        · have h20 := fd_biT.mp h20
          refine fd_u_blk 1 (C := fd_c161) (b := true) (L' := [fd_R 72, fd_I ((k : Nat) : Int), fd_I 0, fd_I 2]) (st' := [fd_I 1]) (M' := M) rfl rfl (j := 22) rfl (rfl) ?_
          refine fd_u_jmp (C := fd_c161) (j := 24) (st' := [fd_I 1]) rfl rfl (b := true) rfl rfl ?_
          refine fd_u_blk 2 (C := fd_c161) (b := true) (L' := [fd_R 72, fd_I ((k : Nat) : Int), fd_I 1, fd_I 3]) (st' := []) (M' := M) rfl rfl (j := 26) rfl (rfl) ?_
          refine fd_u_jmp (C := fd_c161) (j := 11) (st' := []) rfl rfl (b := true) rfl rfl ?_
          refine fd_u_blk 2 (C := fd_c161) (b := true) (L' := [fd_R 72, fd_I ((k : Nat) : Int), fd_I 1, fd_I 3]) (st' := [fd_I 4, fd_I 3]) (M' := M) rfl rfl (j := 13) rfl (rfl) ?_
          refine fd_u_br (C := fd_c161) (t := 27) (e := 14) (st' := []) (c := 4 ≤ 3) (b := (fd_rng 3 && fd_rng 4)) rfl rfl rfl (fd_bA (fd_bR (by omega) (by omega)) (fd_bR (by omega) (by omega))) (fun h13 => absurd h13 (by omega)) (fun h13 => ?_)
          refine fd_u_blk 1 (C := fd_c161) (b := true) (L' := [fd_R 72, fd_I ((k : Nat) : Int), fd_I 1, fd_I 3]) (st' := [fd_I 1]) (M' := M) rfl rfl (j := 15) rfl (rfl) ?_
          refine fd_u_br (C := fd_c161) (t := 21) (e := 16) (st' := []) (c := ¬ 1 = 0) (b := (fd_rng 1)) rfl rfl rfl (fd_bR (by omega) (by omega)) (fun h15 => ?_) (fun h15 => absurd h15 (by omega))
          refine fd_u_blk 1 (C := fd_c161) (b := true) (L' := [fd_R 72, fd_I ((k : Nat) : Int), fd_I 1, fd_I 3]) (st' := [fd_I 1]) (M' := M) rfl rfl (j := 22) rfl (rfl) ?_
          refine fd_u_jmp (C := fd_c161) (j := 24) (st' := [fd_I 1]) rfl rfl (b := true) rfl rfl ?_
          refine fd_u_blk 2 (C := fd_c161) (b := true) (L' := [fd_R 72, fd_I ((k : Nat) : Int), fd_I 1, fd_I 4]) (st' := []) (M' := M) rfl rfl (j := 26) rfl (rfl) ?_
          refine fd_u_jmp (C := fd_c161) (j := 11) (st' := []) rfl rfl (b := true) rfl rfl ?_
          refine fd_u_blk 2 (C := fd_c161) (b := true) (L' := [fd_R 72, fd_I ((k : Nat) : Int), fd_I 1, fd_I 4]) (st' := [fd_I 4, fd_I 4]) (M' := M) rfl rfl (j := 13) rfl (rfl) ?_
          refine fd_u_br (C := fd_c161) (t := 27) (e := 14) (st' := []) (c := 4 ≤ 4) (b := (fd_rng 4 && fd_rng 4)) rfl rfl rfl (fd_bA (fd_bR (by omega) (by omega)) (fd_bR (by omega) (by omega))) (fun h13 => ?_) (fun h13 => absurd h13 (by omega))
          refine fd_u_blk 1 (C := fd_c161) (b := true) (L' := [fd_R 72, fd_I ((k : Nat) : Int), fd_I 1, fd_I 4]) (st' := [fd_I 1]) (M' := M) rfl rfl (j := 28) rfl (rfl) ?_
          refine fd_u_br (C := fd_c161) (t := 31) (e := 29) (st' := []) (c := ¬ 1 = 0) (b := (fd_rng 1)) rfl rfl rfl (fd_bR (by omega) (by omega)) (fun h28 => ?_) (fun h28 => absurd h28 (by omega))
          refine fd_u_blk 1 (C := fd_c161) (b := true) (L' := [fd_R 72, fd_I (((k + 1) : Nat) : Int), fd_I 1, fd_I 4]) (st' := []) (M' := M) rfl rfl (j := 32) rfl (rfl) ?_
          refine fd_u_jmp (C := fd_c161) (j := 2) (st' := []) rfl rfl (b := true) rfl rfl ?_
          refine ih (k + 1) _ _ (by omega) ?_
          show (fd_all (fd_can M) k && fd_can M k) = true
          rw [ha, Bool.true_and]
          unfold fd_can
          apply decide_eq_true
          first | exact Or.inl h20 | exact Or.inr (Or.inl h20) | exact Or.inr (Or.inr (Or.inl h20)) | exact Or.inr (Or.inr (Or.inr h20))
      · have h20 := fd_biT.mp h20
        refine fd_u_blk 1 (C := fd_c161) (b := true) (L' := [fd_R 72, fd_I ((k : Nat) : Int), fd_I 0, fd_I 1]) (st' := [fd_I 1]) (M' := M) rfl rfl (j := 22) rfl (rfl) ?_
        refine fd_u_jmp (C := fd_c161) (j := 24) (st' := [fd_I 1]) rfl rfl (b := true) rfl rfl ?_
        refine fd_u_blk 2 (C := fd_c161) (b := true) (L' := [fd_R 72, fd_I ((k : Nat) : Int), fd_I 1, fd_I 2]) (st' := []) (M' := M) rfl rfl (j := 26) rfl (rfl) ?_
        refine fd_u_jmp (C := fd_c161) (j := 11) (st' := []) rfl rfl (b := true) rfl rfl ?_
        refine fd_u_blk 2 (C := fd_c161) (b := true) (L' := [fd_R 72, fd_I ((k : Nat) : Int), fd_I 1, fd_I 2]) (st' := [fd_I 4, fd_I 2]) (M' := M) rfl rfl (j := 13) rfl (rfl) ?_
        refine fd_u_br (C := fd_c161) (t := 27) (e := 14) (st' := []) (c := 4 ≤ 2) (b := (fd_rng 2 && fd_rng 4)) rfl rfl rfl (fd_bA (fd_bR (by omega) (by omega)) (fd_bR (by omega) (by omega))) (fun h13 => absurd h13 (by omega)) (fun h13 => ?_)
        refine fd_u_blk 1 (C := fd_c161) (b := true) (L' := [fd_R 72, fd_I ((k : Nat) : Int), fd_I 1, fd_I 2]) (st' := [fd_I 1]) (M' := M) rfl rfl (j := 15) rfl (rfl) ?_
        refine fd_u_br (C := fd_c161) (t := 21) (e := 16) (st' := []) (c := ¬ 1 = 0) (b := (fd_rng 1)) rfl rfl rfl (fd_bR (by omega) (by omega)) (fun h15 => ?_) (fun h15 => absurd h15 (by omega))
        refine fd_u_blk 1 (C := fd_c161) (b := true) (L' := [fd_R 72, fd_I ((k : Nat) : Int), fd_I 1, fd_I 2]) (st' := [fd_I 1]) (M' := M) rfl rfl (j := 22) rfl (rfl) ?_
        refine fd_u_jmp (C := fd_c161) (j := 24) (st' := [fd_I 1]) rfl rfl (b := true) rfl rfl ?_
        refine fd_u_blk 2 (C := fd_c161) (b := true) (L' := [fd_R 72, fd_I ((k : Nat) : Int), fd_I 1, fd_I 3]) (st' := []) (M' := M) rfl rfl (j := 26) rfl (rfl) ?_
        refine fd_u_jmp (C := fd_c161) (j := 11) (st' := []) rfl rfl (b := true) rfl rfl ?_
        refine fd_u_blk 2 (C := fd_c161) (b := true) (L' := [fd_R 72, fd_I ((k : Nat) : Int), fd_I 1, fd_I 3]) (st' := [fd_I 4, fd_I 3]) (M' := M) rfl rfl (j := 13) rfl (rfl) ?_
        refine fd_u_br (C := fd_c161) (t := 27) (e := 14) (st' := []) (c := 4 ≤ 3) (b := (fd_rng 3 && fd_rng 4)) rfl rfl rfl (fd_bA (fd_bR (by omega) (by omega)) (fd_bR (by omega) (by omega))) (fun h13 => absurd h13 (by omega)) (fun h13 => ?_)
        refine fd_u_blk 1 (C := fd_c161) (b := true) (L' := [fd_R 72, fd_I ((k : Nat) : Int), fd_I 1, fd_I 3]) (st' := [fd_I 1]) (M' := M) rfl rfl (j := 15) rfl (rfl) ?_
        refine fd_u_br (C := fd_c161) (t := 21) (e := 16) (st' := []) (c := ¬ 1 = 0) (b := (fd_rng 1)) rfl rfl rfl (fd_bR (by omega) (by omega)) (fun h15 => ?_) (fun h15 => absurd h15 (by omega))
        refine fd_u_blk 1 (C := fd_c161) (b := true) (L' := [fd_R 72, fd_I ((k : Nat) : Int), fd_I 1, fd_I 3]) (st' := [fd_I 1]) (M' := M) rfl rfl (j := 22) rfl (rfl) ?_
        refine fd_u_jmp (C := fd_c161) (j := 24) (st' := [fd_I 1]) rfl rfl (b := true) rfl rfl ?_
        refine fd_u_blk 2 (C := fd_c161) (b := true) (L' := [fd_R 72, fd_I ((k : Nat) : Int), fd_I 1, fd_I 4]) (st' := []) (M' := M) rfl rfl (j := 26) rfl (rfl) ?_
        refine fd_u_jmp (C := fd_c161) (j := 11) (st' := []) rfl rfl (b := true) rfl rfl ?_
        refine fd_u_blk 2 (C := fd_c161) (b := true) (L' := [fd_R 72, fd_I ((k : Nat) : Int), fd_I 1, fd_I 4]) (st' := [fd_I 4, fd_I 4]) (M' := M) rfl rfl (j := 13) rfl (rfl) ?_
        refine fd_u_br (C := fd_c161) (t := 27) (e := 14) (st' := []) (c := 4 ≤ 4) (b := (fd_rng 4 && fd_rng 4)) rfl rfl rfl (fd_bA (fd_bR (by omega) (by omega)) (fd_bR (by omega) (by omega))) (fun h13 => ?_) (fun h13 => absurd h13 (by omega))
        refine fd_u_blk 1 (C := fd_c161) (b := true) (L' := [fd_R 72, fd_I ((k : Nat) : Int), fd_I 1, fd_I 4]) (st' := [fd_I 1]) (M' := M) rfl rfl (j := 28) rfl (rfl) ?_
        refine fd_u_br (C := fd_c161) (t := 31) (e := 29) (st' := []) (c := ¬ 1 = 0) (b := (fd_rng 1)) rfl rfl rfl (fd_bR (by omega) (by omega)) (fun h28 => ?_) (fun h28 => absurd h28 (by omega))
        refine fd_u_blk 1 (C := fd_c161) (b := true) (L' := [fd_R 72, fd_I (((k + 1) : Nat) : Int), fd_I 1, fd_I 4]) (st' := []) (M' := M) rfl rfl (j := 32) rfl (rfl) ?_
        refine fd_u_jmp (C := fd_c161) (j := 2) (st' := []) rfl rfl (b := true) rfl rfl ?_
        refine ih (k + 1) _ _ (by omega) ?_
        show (fd_all (fd_can M) k && fd_can M k) = true
        rw [ha, Bool.true_and]
        unfold fd_can
        apply decide_eq_true
        first | exact Or.inl h20 | exact Or.inr (Or.inl h20) | exact Or.inr (Or.inr (Or.inl h20)) | exact Or.inr (Or.inr (Or.inr h20))
    · have h20 := fd_biT.mp h20
      refine fd_u_blk 1 (C := fd_c161) (b := true) (L' := [fd_R 72, fd_I ((k : Nat) : Int), fd_I 0, fd_I 0]) (st' := [fd_I 1]) (M' := M) rfl rfl (j := 22) rfl (rfl) ?_
      refine fd_u_jmp (C := fd_c161) (j := 24) (st' := [fd_I 1]) rfl rfl (b := true) rfl rfl ?_
      refine fd_u_blk 2 (C := fd_c161) (b := true) (L' := [fd_R 72, fd_I ((k : Nat) : Int), fd_I 1, fd_I 1]) (st' := []) (M' := M) rfl rfl (j := 26) rfl (rfl) ?_
      refine fd_u_jmp (C := fd_c161) (j := 11) (st' := []) rfl rfl (b := true) rfl rfl ?_
      refine fd_u_blk 2 (C := fd_c161) (b := true) (L' := [fd_R 72, fd_I ((k : Nat) : Int), fd_I 1, fd_I 1]) (st' := [fd_I 4, fd_I 1]) (M' := M) rfl rfl (j := 13) rfl (rfl) ?_
      refine fd_u_br (C := fd_c161) (t := 27) (e := 14) (st' := []) (c := 4 ≤ 1) (b := (fd_rng 1 && fd_rng 4)) rfl rfl rfl (fd_bA (fd_bR (by omega) (by omega)) (fd_bR (by omega) (by omega))) (fun h13 => absurd h13 (by omega)) (fun h13 => ?_)
      refine fd_u_blk 1 (C := fd_c161) (b := true) (L' := [fd_R 72, fd_I ((k : Nat) : Int), fd_I 1, fd_I 1]) (st' := [fd_I 1]) (M' := M) rfl rfl (j := 15) rfl (rfl) ?_
      refine fd_u_br (C := fd_c161) (t := 21) (e := 16) (st' := []) (c := ¬ 1 = 0) (b := (fd_rng 1)) rfl rfl rfl (fd_bR (by omega) (by omega)) (fun h15 => ?_) (fun h15 => absurd h15 (by omega))
      refine fd_u_blk 1 (C := fd_c161) (b := true) (L' := [fd_R 72, fd_I ((k : Nat) : Int), fd_I 1, fd_I 1]) (st' := [fd_I 1]) (M' := M) rfl rfl (j := 22) rfl (rfl) ?_
      refine fd_u_jmp (C := fd_c161) (j := 24) (st' := [fd_I 1]) rfl rfl (b := true) rfl rfl ?_
      refine fd_u_blk 2 (C := fd_c161) (b := true) (L' := [fd_R 72, fd_I ((k : Nat) : Int), fd_I 1, fd_I 2]) (st' := []) (M' := M) rfl rfl (j := 26) rfl (rfl) ?_
      refine fd_u_jmp (C := fd_c161) (j := 11) (st' := []) rfl rfl (b := true) rfl rfl ?_
      refine fd_u_blk 2 (C := fd_c161) (b := true) (L' := [fd_R 72, fd_I ((k : Nat) : Int), fd_I 1, fd_I 2]) (st' := [fd_I 4, fd_I 2]) (M' := M) rfl rfl (j := 13) rfl (rfl) ?_
      refine fd_u_br (C := fd_c161) (t := 27) (e := 14) (st' := []) (c := 4 ≤ 2) (b := (fd_rng 2 && fd_rng 4)) rfl rfl rfl (fd_bA (fd_bR (by omega) (by omega)) (fd_bR (by omega) (by omega))) (fun h13 => absurd h13 (by omega)) (fun h13 => ?_)
      refine fd_u_blk 1 (C := fd_c161) (b := true) (L' := [fd_R 72, fd_I ((k : Nat) : Int), fd_I 1, fd_I 2]) (st' := [fd_I 1]) (M' := M) rfl rfl (j := 15) rfl (rfl) ?_
      refine fd_u_br (C := fd_c161) (t := 21) (e := 16) (st' := []) (c := ¬ 1 = 0) (b := (fd_rng 1)) rfl rfl rfl (fd_bR (by omega) (by omega)) (fun h15 => ?_) (fun h15 => absurd h15 (by omega))
      refine fd_u_blk 1 (C := fd_c161) (b := true) (L' := [fd_R 72, fd_I ((k : Nat) : Int), fd_I 1, fd_I 2]) (st' := [fd_I 1]) (M' := M) rfl rfl (j := 22) rfl (rfl) ?_
      refine fd_u_jmp (C := fd_c161) (j := 24) (st' := [fd_I 1]) rfl rfl (b := true) rfl rfl ?_
      refine fd_u_blk 2 (C := fd_c161) (b := true) (L' := [fd_R 72, fd_I ((k : Nat) : Int), fd_I 1, fd_I 3]) (st' := []) (M' := M) rfl rfl (j := 26) rfl (rfl) ?_
      refine fd_u_jmp (C := fd_c161) (j := 11) (st' := []) rfl rfl (b := true) rfl rfl ?_
      refine fd_u_blk 2 (C := fd_c161) (b := true) (L' := [fd_R 72, fd_I ((k : Nat) : Int), fd_I 1, fd_I 3]) (st' := [fd_I 4, fd_I 3]) (M' := M) rfl rfl (j := 13) rfl (rfl) ?_
      refine fd_u_br (C := fd_c161) (t := 27) (e := 14) (st' := []) (c := 4 ≤ 3) (b := (fd_rng 3 && fd_rng 4)) rfl rfl rfl (fd_bA (fd_bR (by omega) (by omega)) (fd_bR (by omega) (by omega))) (fun h13 => absurd h13 (by omega)) (fun h13 => ?_)
      refine fd_u_blk 1 (C := fd_c161) (b := true) (L' := [fd_R 72, fd_I ((k : Nat) : Int), fd_I 1, fd_I 3]) (st' := [fd_I 1]) (M' := M) rfl rfl (j := 15) rfl (rfl) ?_
      refine fd_u_br (C := fd_c161) (t := 21) (e := 16) (st' := []) (c := ¬ 1 = 0) (b := (fd_rng 1)) rfl rfl rfl (fd_bR (by omega) (by omega)) (fun h15 => ?_) (fun h15 => absurd h15 (by omega))
      refine fd_u_blk 1 (C := fd_c161) (b := true) (L' := [fd_R 72, fd_I ((k : Nat) : Int), fd_I 1, fd_I 3]) (st' := [fd_I 1]) (M' := M) rfl rfl (j := 22) rfl (rfl) ?_
      refine fd_u_jmp (C := fd_c161) (j := 24) (st' := [fd_I 1]) rfl rfl (b := true) rfl rfl ?_
      refine fd_u_blk 2 (C := fd_c161) (b := true) (L' := [fd_R 72, fd_I ((k : Nat) : Int), fd_I 1, fd_I 4]) (st' := []) (M' := M) rfl rfl (j := 26) rfl (rfl) ?_
      refine fd_u_jmp (C := fd_c161) (j := 11) (st' := []) rfl rfl (b := true) rfl rfl ?_
      refine fd_u_blk 2 (C := fd_c161) (b := true) (L' := [fd_R 72, fd_I ((k : Nat) : Int), fd_I 1, fd_I 4]) (st' := [fd_I 4, fd_I 4]) (M' := M) rfl rfl (j := 13) rfl (rfl) ?_
      refine fd_u_br (C := fd_c161) (t := 27) (e := 14) (st' := []) (c := 4 ≤ 4) (b := (fd_rng 4 && fd_rng 4)) rfl rfl rfl (fd_bA (fd_bR (by omega) (by omega)) (fd_bR (by omega) (by omega))) (fun h13 => ?_) (fun h13 => absurd h13 (by omega))
      refine fd_u_blk 1 (C := fd_c161) (b := true) (L' := [fd_R 72, fd_I ((k : Nat) : Int), fd_I 1, fd_I 4]) (st' := [fd_I 1]) (M' := M) rfl rfl (j := 28) rfl (rfl) ?_
      refine fd_u_br (C := fd_c161) (t := 31) (e := 29) (st' := []) (c := ¬ 1 = 0) (b := (fd_rng 1)) rfl rfl rfl (fd_bR (by omega) (by omega)) (fun h28 => ?_) (fun h28 => absurd h28 (by omega))
      refine fd_u_blk 1 (C := fd_c161) (b := true) (L' := [fd_R 72, fd_I (((k + 1) : Nat) : Int), fd_I 1, fd_I 4]) (st' := []) (M' := M) rfl rfl (j := 32) rfl (rfl) ?_
      refine fd_u_jmp (C := fd_c161) (j := 2) (st' := []) rfl rfl (b := true) rfl rfl ?_
      refine ih (k + 1) _ _ (by omega) ?_
      show (fd_all (fd_can M) k && fd_can M k) = true
      rw [ha, Bool.true_and]
      unfold fd_can
      apply decide_eq_true
      first | exact Or.inl h20 | exact Or.inr (Or.inl h20) | exact Or.inr (Or.inr (Or.inl h20)) | exact Or.inr (Or.inr (Or.inr h20))

theorem fd_s_each (M : fd_M) (hG : fd_CG M) : fd_call 5 161 [fd_R 72] M (some (fd_I (fd_bi (fd_all (fd_can M) (M 3 2).toNat = true)))) M := by
  refine fd_u_in (L := [fd_R 72, fd_R 1003, fd_R 1003, fd_R 1003]) rfl ?_
  obtain ⟨g0, g1, g2, g3, g4, g5⟩ := hG.1
  refine fd_u_blk 2 (C := fd_c161) (b := true) (L' := [fd_R 72, fd_I 0, fd_R 1003, fd_R 1003]) (st' := []) (M' := M) rfl rfl (j := 2) rfl (rfl) ?_
  exact fd_l_each M hG (M 3 2).toNat 0 _ _ (by omega) rfl

theorem fd_l_must (M : fd_M) (hG : fd_CG M) (d : Nat) (hd : d < 6) (t : Int) (ht : 0 ≤ t ∧ t < 6) : ∀ (n : Nat) (k : Nat) (hk : k + n = 4) (ha : fd_all (fun w : Nat => decide (¬ fd_vac M d (w : Int) ∨ fd_nb (fd_wsee M d (w : Int)) = t)) k = true), fd_run 5 162 2 [fd_R 72, fd_I ((d : Nat) : Int), fd_I t, fd_I ((k : Nat) : Int)] [] M (some (fd_I (fd_bi (fd_must M d t = true)))) M := by
  obtain ⟨g0, g1, g2, g3, g4, g5⟩ := hG.1
  intro n
  induction n with
  | zero =>
    intro k hk ha
    refine fd_u_blk 2 (C := fd_c162) (b := true) (L' := [fd_R 72, fd_I ((d : Nat) : Int), fd_I t, fd_I ((k : Nat) : Int)]) (st' := [fd_I 4, fd_I ((k : Nat) : Int)]) (M' := M) rfl rfl (j := 4) rfl (rfl) ?_
    refine fd_u_br (C := fd_c162) (t := 20) (e := 5) (st' := []) (c := 4 ≤ ((k : Nat) : Int)) (b := (fd_rng ((k : Nat) : Int) && fd_rng 4)) rfl rfl rfl (fd_bA (fd_bR (by omega) (by omega)) (fd_bR (by omega) (by omega))) (fun h4 => ?_) (fun h4 => absurd h4 (by omega))
    refine fd_u_blk 1 (C := fd_c162) (b := true) (L' := [fd_R 72, fd_I ((d : Nat) : Int), fd_I t, fd_I ((k : Nat) : Int)]) (st' := [fd_I 1]) (M' := M) rfl rfl (j := 21) rfl (rfl) ?_
    refine fd_u_ret (C := fd_c162) (b := true) (r' := some (fd_I 1)) rfl rfl rfl (rfl) ?_ ?_
    · refine fd_ok1 ?_
      have e4 : k = 4 := by omega
      subst e4
      exact ha
    · rfl
  | succ n ih =>
    intro k hk ha
    refine fd_u_blk 2 (C := fd_c162) (b := true) (L' := [fd_R 72, fd_I ((d : Nat) : Int), fd_I t, fd_I ((k : Nat) : Int)]) (st' := [fd_I 4, fd_I ((k : Nat) : Int)]) (M' := M) rfl rfl (j := 4) rfl (rfl) ?_
    refine fd_u_br (C := fd_c162) (t := 20) (e := 5) (st' := []) (c := 4 ≤ ((k : Nat) : Int)) (b := (fd_rng ((k : Nat) : Int) && fd_rng 4)) rfl rfl rfl (fd_bA (fd_bR (by omega) (by omega)) (fd_bR (by omega) (by omega))) (fun h4 => absurd h4 (by omega)) (fun h4 => ?_)
    refine fd_u_blk 3 (C := fd_c162) (b := true) (L' := [fd_R 72, fd_I ((d : Nat) : Int), fd_I t, fd_I ((k : Nat) : Int)]) (st' := [fd_I ((k : Nat) : Int), fd_I ((d : Nat) : Int), fd_R 72]) (M' := M) rfl rfl (j := 8) rfl (rfl) ?_
    refine fd_u_call (C := fd_c162) (d0 := 4) (mid := 159) (np := 3) (args := [fd_R 72, fd_I ((d : Nat) : Int), fd_I ((k : Nat) : Int)]) (r1 := some (fd_I (fd_bi (fd_vac M d ((k : Nat) : Int))))) (M1 := M) (st' := [fd_I (fd_bi (fd_vac M d ((k : Nat) : Int)))]) rfl rfl rfl rfl rfl rfl (rfl) (fd_s_hasWayIn M hG ((d : Nat) : Int) (by omega) ((k : Nat) : Int) (by omega)) rfl (by omega) ?_
    refine fd_u_br (C := fd_c162) (t := 18) (e := 10) (st' := []) (c := (fd_bi (fd_vac M d ((k : Nat) : Int))) = 0) (b := (fd_rng (fd_bi (fd_vac M d ((k : Nat) : Int))))) rfl rfl rfl (fd_biR) (fun h9 => ?_) (fun h9 => ?_)
    · have h9 := fd_biF.mp h9
      refine fd_u_blk 1 (C := fd_c162) (b := true) (L' := [fd_R 72, fd_I ((d : Nat) : Int), fd_I t, fd_I (((k + 1) : Nat) : Int)]) (st' := []) (M' := M) rfl rfl (j := 19) rfl (rfl) ?_
      refine fd_u_jmp (C := fd_c162) (j := 2) (st' := []) rfl rfl (b := true) rfl rfl ?_
      refine ih (k + 1) (by omega) ?_
      show (fd_all (fun w : Nat => decide (¬ fd_vac M d (w : Int) ∨ fd_nb (fd_wsee M d (w : Int)) = t)) k && decide (¬ fd_vac M d (k : Int) ∨ fd_nb (fd_wsee M d (k : Int)) = t)) = true
      rw [ha, Bool.true_and]
      apply decide_eq_true
      first | exact Or.inl h9 | exact Or.inr h15
    · have h9 := fd_biT.mp h9
      refine fd_u_blk 3 (C := fd_c162) (b := true) (L' := [fd_R 72, fd_I ((d : Nat) : Int), fd_I t, fd_I ((k : Nat) : Int)]) (st' := [fd_I ((k : Nat) : Int), fd_I ((d : Nat) : Int), fd_R 72]) (M' := M) rfl rfl (j := 13) rfl (rfl) ?_
      refine fd_u_call (C := fd_c162) (d0 := 4) (mid := 152) (np := 3) (args := [fd_R 72, fd_I ((d : Nat) : Int), fd_I ((k : Nat) : Int)]) (r1 := some (fd_I (fd_nb (fd_wsee M d ((k : Nat) : Int))))) (M1 := M) (st' := [fd_I (fd_nb (fd_wsee M d ((k : Nat) : Int)))]) rfl rfl rfl rfl rfl rfl (rfl) (fd_s_wouldSeeI M hG ((d : Nat) : Int) (by omega) ((k : Nat) : Int) (by omega)) rfl (by omega) ?_
      have qn := fd_nb_cases (fd_wsee_rng hG d ((k : Nat) : Int))
      refine fd_u_blk 1 (C := fd_c162) (b := true) (L' := [fd_R 72, fd_I ((d : Nat) : Int), fd_I t, fd_I ((k : Nat) : Int)]) (st' := [fd_I t, fd_I (fd_nb (fd_wsee M d ((k : Nat) : Int)))]) (M' := M) rfl rfl (j := 15) rfl (rfl) ?_
      refine fd_u_br (C := fd_c162) (t := 18) (e := 16) (st' := []) (c := (fd_nb (fd_wsee M d ((k : Nat) : Int))) = t) (b := (fd_rng (fd_nb (fd_wsee M d ((k : Nat) : Int))) && fd_rng t)) rfl rfl rfl (fd_bA (fd_bR (by omega) (by omega)) (fd_bR (by omega) (by omega))) (fun h15 => ?_) (fun h15 => ?_)
      · refine fd_u_blk 1 (C := fd_c162) (b := true) (L' := [fd_R 72, fd_I ((d : Nat) : Int), fd_I t, fd_I (((k + 1) : Nat) : Int)]) (st' := []) (M' := M) rfl rfl (j := 19) rfl (rfl) ?_
        refine fd_u_jmp (C := fd_c162) (j := 2) (st' := []) rfl rfl (b := true) rfl rfl ?_
        refine ih (k + 1) (by omega) ?_
        show (fd_all (fun w : Nat => decide (¬ fd_vac M d (w : Int) ∨ fd_nb (fd_wsee M d (w : Int)) = t)) k && decide (¬ fd_vac M d (k : Int) ∨ fd_nb (fd_wsee M d (k : Int)) = t)) = true
        rw [ha, Bool.true_and]
        apply decide_eq_true
        first | exact Or.inl h9 | exact Or.inr h15
      · refine fd_u_blk 1 (C := fd_c162) (b := true) (L' := [fd_R 72, fd_I ((d : Nat) : Int), fd_I t, fd_I ((k : Nat) : Int)]) (st' := [fd_I 0]) (M' := M) rfl rfl (j := 17) rfl (rfl) ?_
        refine fd_u_ret (C := fd_c162) (b := true) (r' := some (fd_I 0)) rfl rfl rfl (rfl) ?_ ?_
        · refine fd_ok0 (fun q => ?_)
          have q2 := (fd_all_iff _).mp q k (by omega)
          have q3 := of_decide_eq_true q2
          rcases q3 with q3 | q3
          · exact q3 h9
          · exact h15 q3
        · rfl

theorem fd_s_must (M : fd_M) (hG : fd_CG M) (d : Nat) (hd : d < 6) (t : Int) (ht : 0 ≤ t ∧ t < 6) : fd_call 5 162 [fd_R 72, fd_I ((d : Nat) : Int), fd_I t] M (some (fd_I (fd_bi (fd_must M d t = true)))) M := by
  refine fd_u_in (L := [fd_R 72, fd_I ((d : Nat) : Int), fd_I t, fd_R 1003]) rfl ?_
  refine fd_u_blk 2 (C := fd_c162) (b := true) (L' := [fd_R 72, fd_I ((d : Nat) : Int), fd_I t, fd_I 0]) (st' := []) (M' := M) rfl rfl (j := 2) rfl (rfl) ?_
  exact fd_l_must M hG d hd t ht 4 0 (by omega) rfl

def fd_bst (q : Nat → Nat → Bool) (a b : Nat) (s : Int × Int) : Int × Int := if q a b = true then (s.1 + 1, if s.2 = -9 then 10 * (a : Int) + (b : Int) else s.2) else s
def fd_bin (q : Nat → Nat → Bool) (a : Nat) : Nat → Nat → Int × Int → Int × Int
  | 0, _, s => s
  | n + 1, b, s => fd_bin q a n (b + 1) (fd_bst q a b s)
def fd_bou (q : Nat → Nat → Bool) (D : Nat) : Nat → Nat → Int × Int → Int × Int
  | 0, _, s => s
  | n + 1, a, s => fd_bou q D n (a + 1) (fd_bin q a (D - (a + 1)) (a + 1) s)
def fd_bq (M : fd_M) (a b : Nat) : Bool := fd_must M a (b : Int) || fd_must M b (a : Int)
theorem fd_bin_rng (q : Nat → Nat → Bool) (a : Nat) (ha : a ≤ 6) : ∀ (n b : Nat) (s : Int × Int), b + n ≤ 6 → -9 ≤ s.2 ∧ s.2 ≤ 99 → -9 ≤ (fd_bin q a n b s).2 ∧ (fd_bin q a n b s).2 ≤ 99
  | 0, _, s, _, h => h
  | n + 1, b, s, hb, h => by
    show -9 ≤ (fd_bin q a n (b + 1) (fd_bst q a b s)).2 ∧ _
    refine fd_bin_rng q a ha n (b + 1) _ (by omega) ?_
    unfold fd_bst
    split
    · dsimp only
      split <;> omega
    · exact h
def fd_X_bound (M : fd_M) (w : Int) : Int := if ¬ (w = 0 ∨ w = 1) then -1 else if ¬ fd_all (fd_can M) (M 3 2).toNat = true then -9 else if w = 0 then (fd_bou (fd_bq M) (M 3 2).toNat (M 3 2).toNat 0 (0, -9)).1 else (fd_bou (fd_bq M) (M 3 2).toNat (M 3 2).toNat 0 (0, -9)).2
theorem fd_l_bin (M : fd_M) (hG : fd_CG M) (w : Int) (hw : 0 ≤ w ∧ w ≤ 1) (a : Nat) (ha : a < 6) (s' : Int × Int) (r : Int) (cont : ∀ u, fd_run 8 17 17 [fd_R 0, fd_I w, fd_I s'.1, fd_I s'.2, fd_I ((a + 1 : Nat) : Int), u] [] M (some (fd_I r)) M) : ∀ (n : Nat) (b : Nat) (s : Int × Int) (hb : (b : Int) + n = M 3 2) (hab : a < b) (hf : -9 ≤ s.2 ∧ s.2 ≤ 99) (he : fd_bin (fd_bq M) a n b s = s'), fd_run 8 17 26 [fd_R 0, fd_I w, fd_I s.1, fd_I s.2, fd_I ((a : Nat) : Int), fd_I ((b : Nat) : Int)] [] M (some (fd_I r)) M := by
  obtain ⟨g0, g1, g2, g3, g4, g5⟩ := hG.1
  intro n
  induction n with
  | zero =>
    intro b s hb hab hf he
    refine fd_u_blk 4 (C := fd_c17) (b := true) (L' := [fd_R 0, fd_I w, fd_I s.1, fd_I s.2, fd_I ((a : Nat) : Int), fd_I ((b : Nat) : Int)]) (st' := [fd_I (M 3 2), fd_I ((b : Nat) : Int)]) (M' := M) rfl rfl (j := 30) rfl (rfl) ?_
    refine fd_u_br (C := fd_c17) (t := 57) (e := 31) (st' := []) (c := (M 3 2) ≤ ((b : Nat) : Int)) (b := (fd_rng ((b : Nat) : Int) && fd_rng (M 3 2))) rfl rfl rfl (fd_bA (fd_bR (by omega) (by omega)) (fd_bR (by omega) (by omega))) (fun h30 => ?_) (fun h30 => absurd h30 (by omega))
    refine fd_u_blk 1 (C := fd_c17) (b := true) (L' := [fd_R 0, fd_I w, fd_I s.1, fd_I s.2, fd_I (((a + 1) : Nat) : Int), fd_I ((b : Nat) : Int)]) (st' := []) (M' := M) rfl rfl (j := 58) rfl (rfl) ?_
    refine fd_u_jmp (C := fd_c17) (j := 17) (st' := []) rfl rfl (b := true) rfl rfl ?_
    have e0 : s = s' := he
    rw [e0]
    exact cont _
  | succ n ih =>
    intro b s hb hab hf he
    refine fd_u_blk 4 (C := fd_c17) (b := true) (L' := [fd_R 0, fd_I w, fd_I s.1, fd_I s.2, fd_I ((a : Nat) : Int), fd_I ((b : Nat) : Int)]) (st' := [fd_I (M 3 2), fd_I ((b : Nat) : Int)]) (M' := M) rfl rfl (j := 30) rfl (rfl) ?_
    refine fd_u_br (C := fd_c17) (t := 57) (e := 31) (st' := []) (c := (M 3 2) ≤ ((b : Nat) : Int)) (b := (fd_rng ((b : Nat) : Int) && fd_rng (M 3 2))) rfl rfl rfl (fd_bA (fd_bR (by omega) (by omega)) (fd_bR (by omega) (by omega))) (fun h30 => absurd h30 (by omega)) (fun h30 => ?_)
    refine fd_u_blk 4 (C := fd_c17) (b := true) (L' := [fd_R 0, fd_I w, fd_I s.1, fd_I s.2, fd_I ((a : Nat) : Int), fd_I ((b : Nat) : Int)]) (st' := [fd_I ((b : Nat) : Int), fd_I ((a : Nat) : Int), fd_R 72]) (M' := M) rfl rfl (j := 35) rfl (rfl) ?_
    refine fd_u_call (C := fd_c17) (d0 := 5) (mid := 162) (np := 3) (args := [fd_R 72, fd_I ((a : Nat) : Int), fd_I ((b : Nat) : Int)]) (r1 := some (fd_I (fd_bi (fd_must M a ((b : Nat) : Int) = true)))) (M1 := M) (st' := [fd_I (fd_bi (fd_must M a ((b : Nat) : Int) = true))]) rfl rfl rfl rfl rfl rfl (rfl) (fd_s_must M hG a (by omega) ((b : Nat) : Int) (by omega)) rfl (by omega) ?_
    refine fd_u_br (C := fd_c17) (t := 43) (e := 37) (st' := []) (c := ¬ (fd_bi (fd_must M a ((b : Nat) : Int) = true)) = 0) (b := (fd_rng (fd_bi (fd_must M a ((b : Nat) : Int) = true)))) rfl rfl rfl (fd_biR) (fun h36 => ?_) (fun h36 => ?_)
    · have h36 := fd_biT.mp h36
      refine fd_u_blk 3 (C := fd_c17) (b := true) (L' := [fd_R 0, fd_I w, fd_I (s.1 + 1), fd_I s.2, fd_I ((a : Nat) : Int), fd_I ((b : Nat) : Int)]) (st' := [fd_I (-9), fd_I s.2]) (M' := M) rfl rfl (j := 46) rfl (rfl) ?_
      refine fd_u_br (C := fd_c17) (t := 53) (e := 47) (st' := []) (c := ¬ s.2 = (-9)) (b := (fd_rng s.2 && fd_rng (-9))) rfl rfl rfl (fd_bA (fd_bR (by omega) (by omega)) (fd_bR (by omega) (by omega))) (fun h46 => ?_) (fun h46 => ?_)
      · refine fd_u_blk 3 (C := fd_c17) (b := true) (L' := [fd_R 0, fd_I w, fd_I (s.1 + 1), fd_I s.2, fd_I ((a : Nat) : Int), fd_I (((b + 1) : Nat) : Int)]) (st' := []) (M' := M) rfl rfl (j := 56) rfl (rfl) ?_
        refine fd_u_jmp (C := fd_c17) (j := 26) (st' := []) rfl rfl (b := true) rfl rfl ?_
        have e5 : fd_bst (fd_bq M) a b s = ((s.1 + 1), s.2) := by
          have eq : fd_bq M a b = true := by unfold fd_bq; simp_all
          unfold fd_bst
          rw [if_pos eq]
          first | rw [if_pos (by omega)] | rw [if_neg (by omega)]
        refine ih (b + 1) ((s.1 + 1), s.2) (by omega) (by omega) (by dsimp only; omega) ?_
        rw [← e5]
        exact he
      · refine fd_u_blk 5 (C := fd_c17) (b := true) (L' := [fd_R 0, fd_I w, fd_I (s.1 + 1), fd_I s.2, fd_I ((a : Nat) : Int), fd_I ((b : Nat) : Int)]) (st' := [fd_I ((10 * ((a : Nat) : Int)) + ((b : Nat) : Int))]) (M' := M) rfl rfl (j := 52) rfl (rfl) ?_
        refine fd_u_jmp (C := fd_c17) (j := 54) (st' := [fd_I ((10 * ((a : Nat) : Int)) + ((b : Nat) : Int))]) rfl rfl (b := true) rfl rfl ?_
        refine fd_u_blk 2 (C := fd_c17) (b := true) (L' := [fd_R 0, fd_I w, fd_I (s.1 + 1), fd_I ((10 * ((a : Nat) : Int)) + ((b : Nat) : Int)), fd_I ((a : Nat) : Int), fd_I (((b + 1) : Nat) : Int)]) (st' := []) (M' := M) rfl rfl (j := 56) rfl (rfl) ?_
        refine fd_u_jmp (C := fd_c17) (j := 26) (st' := []) rfl rfl (b := true) rfl rfl ?_
        have e5 : fd_bst (fd_bq M) a b s = ((s.1 + 1), ((10 * ((a : Nat) : Int)) + ((b : Nat) : Int))) := by
          have eq : fd_bq M a b = true := by unfold fd_bq; simp_all
          unfold fd_bst
          rw [if_pos eq]
          first | rw [if_pos (by omega)] | rw [if_neg (by omega)]
        refine ih (b + 1) ((s.1 + 1), ((10 * ((a : Nat) : Int)) + ((b : Nat) : Int))) (by omega) (by omega) (by dsimp only; omega) ?_
        rw [← e5]
        exact he
    · have h36 := fd_biF2  h36
      refine fd_u_blk 4 (C := fd_c17) (b := true) (L' := [fd_R 0, fd_I w, fd_I s.1, fd_I s.2, fd_I ((a : Nat) : Int), fd_I ((b : Nat) : Int)]) (st' := [fd_I ((a : Nat) : Int), fd_I ((b : Nat) : Int), fd_R 72]) (M' := M) rfl rfl (j := 41) rfl (rfl) ?_
      refine fd_u_call (C := fd_c17) (d0 := 5) (mid := 162) (np := 3) (args := [fd_R 72, fd_I ((b : Nat) : Int), fd_I ((a : Nat) : Int)]) (r1 := some (fd_I (fd_bi (fd_must M b ((a : Nat) : Int) = true)))) (M1 := M) (st' := [fd_I (fd_bi (fd_must M b ((a : Nat) : Int) = true))]) rfl rfl rfl rfl rfl rfl (rfl) (fd_s_must M hG b (by omega) ((a : Nat) : Int) (by omega)) rfl (by omega) ?_
      refine fd_u_br (C := fd_c17) (t := 55) (e := 43) (st' := []) (c := (fd_bi (fd_must M b ((a : Nat) : Int) = true)) = 0) (b := (fd_rng (fd_bi (fd_must M b ((a : Nat) : Int) = true)))) rfl rfl rfl (fd_biR) (fun h42 => ?_) (fun h42 => ?_)
      · have h42 := fd_biF.mp h42
        refine fd_u_blk 1 (C := fd_c17) (b := true) (L' := [fd_R 0, fd_I w, fd_I s.1, fd_I s.2, fd_I ((a : Nat) : Int), fd_I (((b + 1) : Nat) : Int)]) (st' := []) (M' := M) rfl rfl (j := 56) rfl (rfl) ?_
        refine fd_u_jmp (C := fd_c17) (j := 26) (st' := []) rfl rfl (b := true) rfl rfl ?_
        have e5 : fd_bst (fd_bq M) a b s = s := by
          have eq : ¬ fd_bq M a b = true := by unfold fd_bq; simp_all
          unfold fd_bst
          rw [if_neg eq]
        refine ih (b + 1) s (by omega) (by omega) hf ?_
        have he2 := he
        unfold fd_bin at he2
        rw [e5] at he2
        exact he2
      · have h42 := fd_biT.mp h42
        refine fd_u_blk 3 (C := fd_c17) (b := true) (L' := [fd_R 0, fd_I w, fd_I (s.1 + 1), fd_I s.2, fd_I ((a : Nat) : Int), fd_I ((b : Nat) : Int)]) (st' := [fd_I (-9), fd_I s.2]) (M' := M) rfl rfl (j := 46) rfl (rfl) ?_
        refine fd_u_br (C := fd_c17) (t := 53) (e := 47) (st' := []) (c := ¬ s.2 = (-9)) (b := (fd_rng s.2 && fd_rng (-9))) rfl rfl rfl (fd_bA (fd_bR (by omega) (by omega)) (fd_bR (by omega) (by omega))) (fun h46 => ?_) (fun h46 => ?_)
        · refine fd_u_blk 3 (C := fd_c17) (b := true) (L' := [fd_R 0, fd_I w, fd_I (s.1 + 1), fd_I s.2, fd_I ((a : Nat) : Int), fd_I (((b + 1) : Nat) : Int)]) (st' := []) (M' := M) rfl rfl (j := 56) rfl (rfl) ?_
          refine fd_u_jmp (C := fd_c17) (j := 26) (st' := []) rfl rfl (b := true) rfl rfl ?_
          have e5 : fd_bst (fd_bq M) a b s = ((s.1 + 1), s.2) := by
            have eq : fd_bq M a b = true := by unfold fd_bq; simp_all
            unfold fd_bst
            rw [if_pos eq]
            first | rw [if_pos (by omega)] | rw [if_neg (by omega)]
          refine ih (b + 1) ((s.1 + 1), s.2) (by omega) (by omega) (by dsimp only; omega) ?_
          rw [← e5]
          exact he
        · refine fd_u_blk 5 (C := fd_c17) (b := true) (L' := [fd_R 0, fd_I w, fd_I (s.1 + 1), fd_I s.2, fd_I ((a : Nat) : Int), fd_I ((b : Nat) : Int)]) (st' := [fd_I ((10 * ((a : Nat) : Int)) + ((b : Nat) : Int))]) (M' := M) rfl rfl (j := 52) rfl (rfl) ?_
          refine fd_u_jmp (C := fd_c17) (j := 54) (st' := [fd_I ((10 * ((a : Nat) : Int)) + ((b : Nat) : Int))]) rfl rfl (b := true) rfl rfl ?_
          refine fd_u_blk 2 (C := fd_c17) (b := true) (L' := [fd_R 0, fd_I w, fd_I (s.1 + 1), fd_I ((10 * ((a : Nat) : Int)) + ((b : Nat) : Int)), fd_I ((a : Nat) : Int), fd_I (((b + 1) : Nat) : Int)]) (st' := []) (M' := M) rfl rfl (j := 56) rfl (rfl) ?_
          refine fd_u_jmp (C := fd_c17) (j := 26) (st' := []) rfl rfl (b := true) rfl rfl ?_
          have e5 : fd_bst (fd_bq M) a b s = ((s.1 + 1), ((10 * ((a : Nat) : Int)) + ((b : Nat) : Int))) := by
            have eq : fd_bq M a b = true := by unfold fd_bq; simp_all
            unfold fd_bst
            rw [if_pos eq]
            first | rw [if_pos (by omega)] | rw [if_neg (by omega)]
          refine ih (b + 1) ((s.1 + 1), ((10 * ((a : Nat) : Int)) + ((b : Nat) : Int))) (by omega) (by omega) (by dsimp only; omega) ?_
          rw [← e5]
          exact he

theorem fd_l_bou (M : fd_M) (hG : fd_CG M) (w : Int) (hw : 0 ≤ w ∧ w ≤ 1) (s' : Int × Int) (r : Int) (hr : r = if w = 0 then s'.1 else s'.2) : ∀ (n : Nat) (a : Nat) (s : Int × Int) (u : fd_V) (hb : (a : Int) + n = M 3 2) (hf : -9 ≤ s.2 ∧ s.2 ≤ 99) (he : fd_bou (fd_bq M) (M 3 2).toNat n a s = s'), fd_run 8 17 17 [fd_R 0, fd_I w, fd_I s.1, fd_I s.2, fd_I ((a : Nat) : Int), u] [] M (some (fd_I r)) M := by
  obtain ⟨g0, g1, g2, g3, g4, g5⟩ := hG.1
  intro n
  induction n with
  | zero =>
    intro a s u hb hf he
    refine fd_u_blk 4 (C := fd_c17) (b := true) (L' := [fd_R 0, fd_I w, fd_I s.1, fd_I s.2, fd_I ((a : Nat) : Int), u]) (st' := [fd_I (M 3 2), fd_I ((a : Nat) : Int)]) (M' := M) rfl rfl (j := 21) rfl (rfl) ?_
    refine fd_u_br (C := fd_c17) (t := 59) (e := 22) (st' := []) (c := (M 3 2) ≤ ((a : Nat) : Int)) (b := (fd_rng ((a : Nat) : Int) && fd_rng (M 3 2))) rfl rfl rfl (fd_bA (fd_bR (by omega) (by omega)) (fd_bR (by omega) (by omega))) (fun h21 => ?_) (fun h21 => absurd h21 (by omega))
    refine fd_u_blk 1 (C := fd_c17) (b := true) (L' := [fd_R 0, fd_I w, fd_I s.1, fd_I s.2, fd_I ((a : Nat) : Int), u]) (st' := [fd_I w]) (M' := M) rfl rfl (j := 60) rfl (rfl) ?_
    refine fd_u_br (C := fd_c17) (t := 63) (e := 61) (st' := []) (c := ¬ w = 0) (b := (fd_rng w)) rfl rfl rfl (fd_bR (by omega) (by omega)) (fun h60 => ?_) (fun h60 => ?_)
    · refine fd_u_blk 1 (C := fd_c17) (b := true) (L' := [fd_R 0, fd_I w, fd_I s.1, fd_I s.2, fd_I ((a : Nat) : Int), u]) (st' := [fd_I s.2]) (M' := M) rfl rfl (j := 64) rfl (rfl) ?_
      refine fd_u_ret (C := fd_c17) (b := true) (r' := some (fd_I s.2)) rfl rfl rfl (rfl) ?_ ?_
      · have e0 : s = s' := he
        rw [hr, ← e0]
        first | rw [if_pos (by omega)] | rw [if_neg (by omega)]
      · rfl
    · refine fd_u_blk 1 (C := fd_c17) (b := true) (L' := [fd_R 0, fd_I w, fd_I s.1, fd_I s.2, fd_I ((a : Nat) : Int), u]) (st' := [fd_I s.1]) (M' := M) rfl rfl (j := 62) rfl (rfl) ?_
      refine fd_u_jmp (C := fd_c17) (j := 64) (st' := [fd_I s.1]) rfl rfl (b := true) rfl rfl ?_
      refine fd_u_ret (C := fd_c17) (b := true) (r' := some (fd_I s.1)) rfl rfl rfl (rfl) ?_ ?_
      · have e0 : s = s' := he
        rw [hr, ← e0]
        first | rw [if_pos (by omega)] | rw [if_neg (by omega)]
      · rfl
  | succ n ih =>
    intro a s u hb hf he
    refine fd_u_blk 4 (C := fd_c17) (b := true) (L' := [fd_R 0, fd_I w, fd_I s.1, fd_I s.2, fd_I ((a : Nat) : Int), u]) (st' := [fd_I (M 3 2), fd_I ((a : Nat) : Int)]) (M' := M) rfl rfl (j := 21) rfl (rfl) ?_
    refine fd_u_br (C := fd_c17) (t := 59) (e := 22) (st' := []) (c := (M 3 2) ≤ ((a : Nat) : Int)) (b := (fd_rng ((a : Nat) : Int) && fd_rng (M 3 2))) rfl rfl rfl (fd_bA (fd_bR (by omega) (by omega)) (fd_bR (by omega) (by omega))) (fun h21 => absurd h21 (by omega)) (fun h21 => ?_)
    refine fd_u_blk 4 (C := fd_c17) (b := true) (L' := [fd_R 0, fd_I w, fd_I s.1, fd_I s.2, fd_I ((a : Nat) : Int), fd_I (((a : Nat) : Int) + 1)]) (st' := []) (M' := M) rfl rfl (j := 26) rfl (rfl) ?_
    have r9 := fd_bin_rng (fd_bq M) a (by omega) ((M 3 2).toNat - (a + 1)) (a + 1) s (by omega) hf
    exact fd_l_bin M hG w hw a (by omega) _ r (fun u => ih (a + 1) _ u (by omega) r9 he) ((M 3 2).toNat - (a + 1)) (a + 1) s (by omega) (by omega) hf rfl

theorem fd_x_bound (M : fd_M) (hG : fd_CG M) (w : Int) (hw : -2147483648 ≤ w ∧ w < 2147483648) : fd_call 8 17 [fd_R 0, fd_I w] M (some (fd_I (fd_X_bound M w))) M := by
  refine fd_u_in (L := [fd_R 0, fd_I w, fd_R 1003, fd_R 1003, fd_R 1003, fd_R 1003]) rfl ?_
  obtain ⟨g0, g1, g2, g3, g4, g5⟩ := hG.1
  refine fd_u_blk 1 (C := fd_c17) (b := true) (L' := [fd_R 0, fd_I w, fd_R 1003, fd_R 1003, fd_R 1003, fd_R 1003]) (st' := [fd_I w]) (M' := M) rfl rfl (j := 1) rfl (rfl) ?_
  refine fd_u_call (C := fd_c17) (d0 := 0) (mid := 39) (np := 1) (args := [fd_I w]) (r1 := some (fd_I (fd_bi (w = 0 ∨ w = 1)))) (M1 := M) (st' := [fd_I (fd_bi (w = 0 ∨ w = 1))]) rfl rfl rfl rfl rfl rfl (rfl) (fd_s_isFlag M w (by omega)) rfl (by omega) ?_
  refine fd_u_br (C := fd_c17) (t := 5) (e := 3) (st' := []) (c := ¬ (fd_bi (w = 0 ∨ w = 1)) = 0) (b := (fd_rng (fd_bi (w = 0 ∨ w = 1)))) rfl rfl rfl (fd_biR) (fun h2 => ?_) (fun h2 => ?_)
  · have h2 := fd_biT.mp h2
    refine fd_u_blk 2 (C := fd_c17) (b := true) (L' := [fd_R 0, fd_I w, fd_R 1003, fd_R 1003, fd_R 1003, fd_R 1003]) (st' := [fd_R 72]) (M' := M) rfl rfl (j := 7) rfl (rfl) ?_
    refine fd_u_call (C := fd_c17) (d0 := 5) (mid := 161) (np := 1) (args := [fd_R 72]) (r1 := some (fd_I (fd_bi (fd_all (fd_can M) (M 3 2).toNat = true)))) (M1 := M) (st' := [fd_I (fd_bi (fd_all (fd_can M) (M 3 2).toNat = true))]) rfl rfl rfl rfl rfl rfl (rfl) (fd_s_each M hG) rfl (by omega) ?_
    refine fd_u_br (C := fd_c17) (t := 11) (e := 9) (st' := []) (c := ¬ (fd_bi (fd_all (fd_can M) (M 3 2).toNat = true)) = 0) (b := (fd_rng (fd_bi (fd_all (fd_can M) (M 3 2).toNat = true)))) rfl rfl rfl (fd_biR) (fun h8 => ?_) (fun h8 => ?_)
    · have h8 := fd_biT.mp h8
      refine fd_u_blk 6 (C := fd_c17) (b := true) (L' := [fd_R 0, fd_I w, fd_I 0, fd_I (-9), fd_I 0, fd_R 1003]) (st' := []) (M' := M) rfl rfl (j := 17) rfl (rfl) ?_
      rw [fd_X_bound, if_neg (show ¬ ¬ (w = 0 ∨ w = 1) by omega), if_neg (show ¬ ¬ fd_all (fd_can M) (M 3 2).toNat = true from fun q => q h8)]
      exact fd_l_bou M hG w (by omega) (fd_bou (fd_bq M) (M 3 2).toNat (M 3 2).toNat 0 (0, -9)) _ rfl (M 3 2).toNat 0 (0, -9) _ (by omega) (by decide) rfl
    · have h8 := fd_biF2  h8
      refine fd_u_blk 1 (C := fd_c17) (b := true) (L' := [fd_R 0, fd_I w, fd_R 1003, fd_R 1003, fd_R 1003, fd_R 1003]) (st' := [fd_I (-9)]) (M' := M) rfl rfl (j := 10) rfl (rfl) ?_
      refine fd_u_ret (C := fd_c17) (b := true) (r' := some (fd_I (-9))) rfl rfl rfl (rfl) ?_ ?_
      · first | rw [fd_X_bound, if_pos (show ¬ (w = 0 ∨ w = 1) by omega)] | rw [fd_X_bound, if_neg (show ¬ ¬ (w = 0 ∨ w = 1) by omega), if_pos h8]
      · rfl
  · have h2 := fd_biF2  h2
    refine fd_u_blk 1 (C := fd_c17) (b := true) (L' := [fd_R 0, fd_I w, fd_R 1003, fd_R 1003, fd_R 1003, fd_R 1003]) (st' := [fd_I (-1)]) (M' := M) rfl rfl (j := 4) rfl (rfl) ?_
    refine fd_u_ret (C := fd_c17) (b := true) (r' := some (fd_I (-1))) rfl rfl rfl (rfl) ?_ ?_
    · first | rw [fd_X_bound, if_pos (show ¬ (w = 0 ∨ w = 1) by omega)] | rw [fd_X_bound, if_neg (show ¬ ¬ (w = 0 ∨ w = 1) by omega), if_pos h8]
    · rfl


/-! the class: quarter, the call -/
/-- the end of quarter: nothing told, or all of it -/
def fd_X_quarter (tx : Nat → Int) (len : Nat) (M : fd_M) : Int := if (pz_rd tx len (fd_zc M)).1.1 = true then (pz_rd tx len (fd_zc M)).2 else -10 - (tk_ls tx len (pz_rd tx len (fd_zc M)).1.2.1 : Int)
theorem pz_a_it (tx : Nat → Int) (len : Nat) : ∀ (n : Nat) (it : Int) (p : Nat) (Z : fd_M), 0 ≤ it → it ≤ (pz_a tx len n it p Z).2 ∧ (pz_a tx len n it p Z).2 ≤ it + n
  | 0, it, p, Z, h => by
    show it ≤ it ∧ it ≤ it + ((0 : Nat) : Int)
    omega
  | n + 1, it, p, Z, h => by
    rw [pz_a]
    split
    · dsimp only; omega
    · split
      · have := pz_a_it tx len n (it + 1) (pz_i tx len it p Z).2.1 (pz_i tx len it p Z).2.2 (by omega)
        omega
      · dsimp only; omega
theorem fd_x_quarter {tx : Nat → Int} {len : Nat} (M : fd_M) (hx : tk_Tx tx len M) (hD : fd_DG M) (hI : M 71 0 = 83 ∧ M 71 1 = 141) (hq : -1000 ≤ fd_X_quarter tx len M ∧ fd_X_quarter tx len M ≤ 1000) : fd_callE 7 3 [fd_R 0] M (fun r R => ∃ K, r = some (fd_I (fd_X_quarter tx len M)) ∧ fd_zc K = (pz_rd tx len (fd_zc M)).1.2.2 ∧ pz_G (pz_rd tx len (fd_zc M)).1.2.2 ∧ (∀ c, c < 8 ∨ 14 ≤ c → K c = M c) ∧ R = if (pz_rd tx len (fd_zc M)).1.1 = true then fd_qall K else K) := by
  refine fd_e_in (L := [fd_R 0, fd_R 1003, fd_R 1003]) rfl ?_
  refine fd_e_blk 2 (C := fd_c3) (b := true) (L' := [fd_R 0, fd_R 1003, fd_R 1003]) (st' := [fd_R 13]) (M' := M) rfl rfl (j := 2) rfl (rfl) ?_
  obtain ⟨r1, K, c1, e1, hz, hG, hF⟩ := fd_p_read M hx hD
  have e1 : r1 = some (fd_I (fd_X_quarter tx len M)) := e1
  subst e1
  have hI0 : K 71 0 = 83 := by rw [hF 71 (by omega)]; exact hI.1
  have hI1 : K 71 1 = 141 := by rw [hF 71 (by omega)]; exact hI.2
  have z2 : 0 ≤ K 8 2 ∧ K 8 2 ≤ 6 := by have := hG.2.2.1; rw [← hz] at this; exact this
  have it := pz_a_it tx len (len + 1) 0 0 (pz_0 (fd_zc M)) (Int.le_refl 0)
  have ln := hx.2.2.1
  have lsr := tk_ls_rng (tx := tx) (len := len) (p := (pz_rd tx len (fd_zc M)).1.2.1)
  have qr : -1000 ≤ fd_X_quarter tx len M ∧ fd_X_quarter tx len M ≤ 1000 := hq
  refine fd_e_call (C := fd_c3) (d0 := 6) (mid := 128) (np := 1) (args := [fd_R 13]) (r1 := some (fd_I (fd_X_quarter tx len M))) (M1 := K) (st' := [fd_I (fd_X_quarter tx len M)]) rfl rfl rfl rfl rfl rfl (rfl) (c1) rfl (by omega) ?_
  refine fd_e_blk 2 (C := fd_c3) (b := true) (L' := [fd_R 0, fd_I (fd_X_quarter tx len M), fd_R 1003]) (st' := [fd_I (fd_X_quarter tx len M)]) (M' := K) rfl rfl (j := 5) rfl (rfl) ?_
  refine fd_e_br (C := fd_c3) (t := 8) (e := 6) (st' := []) (c := 0 ≤ (fd_X_quarter tx len M)) (b := (fd_rng (fd_X_quarter tx len M))) rfl rfl rfl (fd_bR (by omega) (by omega)) (fun h5 => ?_) (fun h5 => ?_)
  · refine fd_e_blk 8 (C := fd_c3) (b := true) (L' := [fd_R 0, fd_I (fd_X_quarter tx len M), fd_R 1003]) (st' := [fd_R 8, fd_R 3]) (M' := (fd_up K 1 1 0)) rfl rfl (j := 16) rfl (rfl) ?_
    refine fd_e_call (C := fd_c3) (d0 := 0) (mid := 122) (np := 2) (args := [fd_R 3, fd_R 8]) (r1 := none) (M1 := (fd_qp (fd_up K 1 1 0))) (st' := []) rfl rfl rfl rfl rfl rfl (rfl) (fd_p_copyFrom (fd_up K 1 1 0)) rfl (by omega) ?_
    refine fd_e_blk 4 (C := fd_c3) (b := true) (L' := [fd_R 0, fd_I (fd_X_quarter tx len M), fd_R 1003]) (st' := [fd_R 3, fd_R 14]) (M' := (fd_qp (fd_up K 1 1 0))) rfl rfl (j := 21) rfl (rfl) ?_
    refine fd_e_call (C := fd_c3) (d0 := 1) (mid := 142) (np := 2) (args := [fd_R 14, fd_R 3]) (r1 := none) (M1 := (fd_qs (fd_qp (fd_up K 1 1 0)))) (st' := []) rfl rfl rfl rfl rfl rfl (rfl) (fd_p_begin (fd_qp (fd_up K 1 1 0)) (by show 0 ≤ K 8 2 ∧ K 8 2 ≤ 6; exact z2)) rfl (by omega) ?_
    have hJ0 : (fd_qs (fd_qp (fd_up K 1 1 0))) 71 0 = 83 := hI0
    have hJ1 : (fd_qs (fd_qp (fd_up K 1 1 0))) 71 1 = 141 := hI1
    refine fd_e_blk 14 (C := fd_c3) (b := true) (L' := [fd_R 0, fd_I (fd_X_quarter tx len M), fd_I 0]) (st' := [fd_I 2, fd_I 0]) (M' := (fd_up (fd_up (fd_qs (fd_qp (fd_up K 1 1 0))) 19 1 0) 78 2 0)) rfl rfl (j := 36) rfl (rfl) ?_
    refine fd_e_br (C := fd_c3) (t := 45) (e := 37) (st' := []) (c := 2 ≤ 0) (b := (fd_rng 0 && fd_rng 2)) rfl rfl rfl (fd_bA (fd_bR (by omega) (by omega)) (fd_bR (by omega) (by omega))) (fun h36 => absurd h36 (by omega)) (fun h36 => ?_)
    refine fd_e_blk 4 (C := fd_c3) (b := (((false || fd_inb 0 2) && Nat.blt ((fd_qs (fd_qp (fd_up K 1 1 0))) 71 0).toNat 1000) && true)) (L' := [fd_R 0, fd_I (fd_X_quarter tx len M), fd_I 0]) (st' := [fd_R (((fd_qs (fd_qp (fd_up K 1 1 0))) 71 0).toNat)]) (M' := (fd_up (fd_up (fd_qs (fd_qp (fd_up K 1 1 0))) 19 1 0) 78 2 0)) rfl rfl (j := 41) rfl (fd_bA (fd_bA (by rw [fd_bI (i := 0) (n := 2) (by omega) (by omega)]; rfl) (by rw [Nat.blt_eq]; omega)) (rfl)) ?_
    rw [show ((fd_qs (fd_qp (fd_up K 1 1 0))) 71 0).toNat = 83 by rw [hJ0]; rfl]
    refine fd_e_blk 3 (C := fd_c3) (b := true) (L' := [fd_R 0, fd_I (fd_X_quarter tx len M), fd_I 1]) (st' := []) (M' := (fd_up (fd_up (fd_up (fd_qs (fd_qp (fd_up K 1 1 0))) 19 1 0) 78 2 0) 83 2 0)) rfl rfl (j := 44) rfl (rfl) ?_
    refine fd_e_jmp (C := fd_c3) (j := 32) (st' := []) rfl rfl (b := true) rfl rfl ?_
    refine fd_e_blk 4 (C := fd_c3) (b := true) (L' := [fd_R 0, fd_I (fd_X_quarter tx len M), fd_I 1]) (st' := [fd_I 2, fd_I 1]) (M' := (fd_up (fd_up (fd_up (fd_qs (fd_qp (fd_up K 1 1 0))) 19 1 0) 78 2 0) 83 2 0)) rfl rfl (j := 36) rfl (rfl) ?_
    refine fd_e_br (C := fd_c3) (t := 45) (e := 37) (st' := []) (c := 2 ≤ 1) (b := (fd_rng 1 && fd_rng 2)) rfl rfl rfl (fd_bA (fd_bR (by omega) (by omega)) (fd_bR (by omega) (by omega))) (fun h36 => absurd h36 (by omega)) (fun h36 => ?_)
    refine fd_e_blk 4 (C := fd_c3) (b := (((false || fd_inb 1 2) && Nat.blt ((fd_qs (fd_qp (fd_up K 1 1 0))) 71 1).toNat 1000) && true)) (L' := [fd_R 0, fd_I (fd_X_quarter tx len M), fd_I 1]) (st' := [fd_R (((fd_qs (fd_qp (fd_up K 1 1 0))) 71 1).toNat)]) (M' := (fd_up (fd_up (fd_up (fd_qs (fd_qp (fd_up K 1 1 0))) 19 1 0) 78 2 0) 83 2 0)) rfl rfl (j := 41) rfl (fd_bA (fd_bA (by rw [fd_bI (i := 1) (n := 2) (by omega) (by omega)]; rfl) (by rw [Nat.blt_eq]; omega)) (rfl)) ?_
    rw [show ((fd_qs (fd_qp (fd_up K 1 1 0))) 71 1).toNat = 141 by rw [hJ1]; rfl]
    refine fd_e_blk 3 (C := fd_c3) (b := true) (L' := [fd_R 0, fd_I (fd_X_quarter tx len M), fd_I 2]) (st' := []) (M' := (fd_up (fd_up (fd_up (fd_up (fd_qs (fd_qp (fd_up K 1 1 0))) 19 1 0) 78 2 0) 83 2 0) 141 2 0)) rfl rfl (j := 44) rfl (rfl) ?_
    refine fd_e_jmp (C := fd_c3) (j := 32) (st' := []) rfl rfl (b := true) rfl rfl ?_
    refine fd_e_blk 4 (C := fd_c3) (b := true) (L' := [fd_R 0, fd_I (fd_X_quarter tx len M), fd_I 2]) (st' := [fd_I 2, fd_I 2]) (M' := (fd_up (fd_up (fd_up (fd_up (fd_qs (fd_qp (fd_up K 1 1 0))) 19 1 0) 78 2 0) 83 2 0) 141 2 0)) rfl rfl (j := 36) rfl (rfl) ?_
    refine fd_e_br (C := fd_c3) (t := 45) (e := 37) (st' := []) (c := 2 ≤ 2) (b := (fd_rng 2 && fd_rng 2)) rfl rfl rfl (fd_bA (fd_bR (by omega) (by omega)) (fd_bR (by omega) (by omega))) (fun h36 => ?_) (fun h36 => absurd h36 (by omega))
    refine fd_e_blk 1 (C := fd_c3) (b := true) (L' := [fd_R 0, fd_I (fd_X_quarter tx len M), fd_I 2]) (st' := [fd_I (fd_X_quarter tx len M)]) (M' := (fd_up (fd_up (fd_up (fd_up (fd_qs (fd_qp (fd_up K 1 1 0))) 19 1 0) 78 2 0) 83 2 0) 141 2 0)) rfl rfl (j := 46) rfl (rfl) ?_
    refine fd_e_ret (C := fd_c3) (b := true) (r' := some (fd_I (fd_X_quarter tx len M))) rfl rfl rfl (rfl) ?_
    refine ⟨K, rfl, hz, hG, hF, ?_⟩
    have hh : (pz_rd tx len (fd_zc M)).1.1 = true := by
      apply Classical.byContradiction
      intro z
      unfold fd_X_quarter at h5
      rw [if_neg z] at h5
      omega
    rw [if_pos hh]
    rfl
  · refine fd_e_blk 1 (C := fd_c3) (b := true) (L' := [fd_R 0, fd_I (fd_X_quarter tx len M), fd_R 1003]) (st' := [fd_I (fd_X_quarter tx len M)]) (M' := K) rfl rfl (j := 7) rfl (rfl) ?_
    refine fd_e_ret (C := fd_c3) (b := true) (r' := some (fd_I (fd_X_quarter tx len M))) rfl rfl rfl (rfl) ?_
    refine ⟨K, rfl, hz, hG, hF, ?_⟩
    rw [if_neg (fun z => by unfold fd_X_quarter at h5; rw [if_pos z] at h5; have : 0 ≤ (pz_rd tx len (fd_zc M)).2 := it.1; omega)]


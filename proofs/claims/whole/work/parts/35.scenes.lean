/-! scenes copied, kept, undone -/
def fd_scn (a : Nat) : Prop := fd_SH a = (5, 8) ∧ fd_SH (a + 1) = (20, 6) ∧ fd_SH (a + 2) = (20, 6) ∧ fd_SH (a + 3) = (20, 6) ∧ fd_SH (a + 4) = (20, 6) ∧ a < 900
theorem fd_b_sc {a k t : Nat} {r0 : List Int} {is : List fd_Ins} {L st : List fd_V} {M : fd_M} (h : fd_SH a = (5, 8)) (hk : Nat.ble 4 k = false) (ht : a + 1 + k = t) : fd_bl 1 ((27, 5 :: (k : Int) :: 2 :: r0) :: is) L (fd_R a :: st) M = some (fd_isO true M a 5 && true, L, fd_R t :: st, M) := by
  have e : fd_rf true M a k = t := by
    unfold fd_rf fd_RF
    rw [h]
    simp [hk, ht]
  show some (fd_isO true M a 5 && true, L, fd_R (fd_rf true M a k) :: st, M) = _
  rw [e]
def fd_cps (M : fd_M) (a b : Nat) : fd_M := fun c k => if c = a ∧ 4 ≤ k ∧ k ≤ 7 then M b k else if a < c ∧ c ≤ a + 4 ∧ k < 6 then M (b + (c - a)) k else M c k
theorem fd_cps_eq (M : fd_M) (a b : Nat) (hab : a + 5 ≤ b ∨ b + 5 ≤ a) : fd_up (fd_up (fd_up (fd_up (fd_cp (fd_cp (fd_cp (fd_cp M (b + 1) 0 (a + 1) 0 6) (b + 2) 0 (a + 2) 0 6) (b + 3) 0 (a + 3) 0 6) (b + 4) 0 (a + 4) 0 6) a 4 (M b 4)) a 5 (M b 5)) a 6 (M b 6)) a 7 (M b 7) = fd_cps M a b := by
  funext c k
  by_cases h0 : c = a
  · subst h0
    simp only [fd_up, fd_cp, fd_cps, true_and]
    by_cases h7 : k = 7
    · subst h7; simp
    · by_cases h6 : k = 6
      · subst h6; simp
      · by_cases h5 : k = 5
        · subst h5; simp
        · by_cases h4 : k = 4
          · subst h4; simp
          · simp [h4, h5, h6, h7, show ¬ (4 ≤ k ∧ k ≤ 7) by omega]
  · have n : ¬ (c = a ∧ 4 ≤ k ∧ k ≤ 7) := fun q => h0 q.1
    simp only [fd_up, fd_cps, if_neg n, show ∀ j, ¬ (c = a ∧ k = j) from fun j q => h0 q.1, if_false]
    simp only [fd_cp, Nat.zero_add, Nat.sub_zero, Nat.zero_le, true_and]
    by_cases hk : k < 6
    · by_cases h1 : c = a + 1
      · subst h1
        simp [hk, show a < a + 1 by omega]
      · by_cases h2 : c = a + 2
        · subst h2
          have z1 : ¬ b + 2 = a + 1 := by omega
          simp [hk, z1, show a < a + 2 by omega, show a + 2 - a = 2 by omega]
        · by_cases h3 : c = a + 3
          · subst h3
            have z1 : ¬ b + 3 = a + 1 := by omega
            have z2 : ¬ b + 3 = a + 2 := by omega
            simp [hk, z1, z2, show a < a + 3 by omega, show a + 3 - a = 3 by omega]
          · by_cases h4 : c = a + 4
            · subst h4
              have z1 : ¬ b + 4 = a + 1 := by omega
              have z2 : ¬ b + 4 = a + 2 := by omega
              have z3 : ¬ b + 4 = a + 3 := by omega
              simp [hk, z1, z2, z3, show a < a + 4 by omega, show a + 4 - a = 4 by omega]
            · simp [h1, h2, h3, h4, show ¬ (a < c ∧ c ≤ a + 4) by omega]
              intro q1 q2
              omega
    · simp [hk]
set_option maxRecDepth 4000 in
theorem fd_s_copyFrom (M : fd_M) (a b : Nat) (ha : fd_scn a) (hb : fd_scn b) (hab : a + 5 ≤ b ∨ b + 5 ≤ a) (h6 : 0 ≤ M b 6 ∧ M b 6 ≤ 1) (h7 : 0 ≤ M b 7 ∧ M b 7 ≤ 1) : fd_call 0 143 [fd_R (a), fd_R (b)] M (none) (fd_cps M a b) := by
  refine fd_u_in (L := [fd_R (a), fd_R (b)]) rfl ?_
  have n0 : ¬ b = a := by omega
  have n1 : ¬ b = a + 1 := by omega
  have n2 : ¬ b = a + 2 := by omega
  have n3 : ¬ b = a + 3 := by omega
  have n4 : ¬ b = a + 4 := by omega
  refine fd_u_blk 1 (C := fd_c143) (L' := [fd_R (a), fd_R (b)]) (st' := [fd_R (b)]) (M' := M) rfl rfl (j := 1) rfl (by have e0 := hb.2.2.2.2.2; have e1 := ha.2.2.2.2.2; simp [fd_a, fd_n, fd_isO, fd_al, ha.1, hb.1, ha.2.1, ha.2.2.1, ha.2.2.2.1, ha.2.2.2.2.1, hb.2.1, hb.2.2.1, hb.2.2.2.1, hb.2.2.2.2.1, fd_inb, Nat.blt_eq, fd_up, fd_cp, n0, n1, n2, n3, n4] <;> omega) ?_
  refine fd_u_blk 1 (C := fd_c143) (L' := [fd_R (a), fd_R (b)]) (st' := [fd_R ((b + 1))]) (M' := M) rfl (fd_b_sc hb.1 rfl rfl) (j := 2) rfl (by have e0 := hb.2.2.2.2.2; have e1 := ha.2.2.2.2.2; simp [fd_a, fd_n, fd_isO, fd_al, ha.1, hb.1, ha.2.1, ha.2.2.1, ha.2.2.2.1, ha.2.2.2.2.1, hb.2.1, hb.2.2.1, hb.2.2.2.1, hb.2.2.2.2.1, fd_inb, Nat.blt_eq, fd_up, fd_cp, n0, n1, n2, n3, n4] <;> omega) ?_
  refine fd_u_blk 2 (C := fd_c143) (L' := [fd_R (a), fd_R (b)]) (st' := [fd_R (a), fd_I 0, fd_R ((b + 1))]) (M' := M) rfl rfl (j := 4) rfl (by have e0 := hb.2.2.2.2.2; have e1 := ha.2.2.2.2.2; simp [fd_a, fd_n, fd_isO, fd_al, ha.1, hb.1, ha.2.1, ha.2.2.1, ha.2.2.2.1, ha.2.2.2.2.1, hb.2.1, hb.2.2.1, hb.2.2.2.1, hb.2.2.2.2.1, fd_inb, Nat.blt_eq, fd_up, fd_cp, n0, n1, n2, n3, n4] <;> omega) ?_
  refine fd_u_blk 1 (C := fd_c143) (L' := [fd_R (a), fd_R (b)]) (st' := [fd_R ((a + 1)), fd_I 0, fd_R ((b + 1))]) (M' := M) rfl (fd_b_sc ha.1 rfl rfl) (j := 5) rfl (by have e0 := hb.2.2.2.2.2; have e1 := ha.2.2.2.2.2; simp [fd_a, fd_n, fd_isO, fd_al, ha.1, hb.1, ha.2.1, ha.2.2.1, ha.2.2.2.1, ha.2.2.2.2.1, hb.2.1, hb.2.2.1, hb.2.2.2.1, hb.2.2.2.2.1, fd_inb, Nat.blt_eq, fd_up, fd_cp, n0, n1, n2, n3, n4] <;> omega) ?_
  refine fd_u_blk 4 (C := fd_c143) (L' := [fd_R (a), fd_R (b)]) (st' := [fd_R (b)]) (M' := (fd_cp M (b + 1) 0 (a + 1) 0 6)) rfl rfl (j := 9) rfl (by have e0 := hb.2.2.2.2.2; have e1 := ha.2.2.2.2.2; simp [fd_a, fd_n, fd_isO, fd_al, ha.1, hb.1, ha.2.1, ha.2.2.1, ha.2.2.2.1, ha.2.2.2.2.1, hb.2.1, hb.2.2.1, hb.2.2.2.1, hb.2.2.2.2.1, fd_inb, Nat.blt_eq, fd_up, fd_cp, n0, n1, n2, n3, n4] <;> omega) ?_
  refine fd_u_blk 1 (C := fd_c143) (L' := [fd_R (a), fd_R (b)]) (st' := [fd_R ((b + 2))]) (M' := (fd_cp M (b + 1) 0 (a + 1) 0 6)) rfl (fd_b_sc hb.1 rfl rfl) (j := 10) rfl (by have e0 := hb.2.2.2.2.2; have e1 := ha.2.2.2.2.2; simp [fd_a, fd_n, fd_isO, fd_al, ha.1, hb.1, ha.2.1, ha.2.2.1, ha.2.2.2.1, ha.2.2.2.2.1, hb.2.1, hb.2.2.1, hb.2.2.2.1, hb.2.2.2.2.1, fd_inb, Nat.blt_eq, fd_up, fd_cp, n0, n1, n2, n3, n4] <;> omega) ?_
  refine fd_u_blk 2 (C := fd_c143) (L' := [fd_R (a), fd_R (b)]) (st' := [fd_R (a), fd_I 0, fd_R ((b + 2))]) (M' := (fd_cp M (b + 1) 0 (a + 1) 0 6)) rfl rfl (j := 12) rfl (by have e0 := hb.2.2.2.2.2; have e1 := ha.2.2.2.2.2; simp [fd_a, fd_n, fd_isO, fd_al, ha.1, hb.1, ha.2.1, ha.2.2.1, ha.2.2.2.1, ha.2.2.2.2.1, hb.2.1, hb.2.2.1, hb.2.2.2.1, hb.2.2.2.2.1, fd_inb, Nat.blt_eq, fd_up, fd_cp, n0, n1, n2, n3, n4] <;> omega) ?_
  refine fd_u_blk 1 (C := fd_c143) (L' := [fd_R (a), fd_R (b)]) (st' := [fd_R ((a + 2)), fd_I 0, fd_R ((b + 2))]) (M' := (fd_cp M (b + 1) 0 (a + 1) 0 6)) rfl (fd_b_sc ha.1 rfl rfl) (j := 13) rfl (by have e0 := hb.2.2.2.2.2; have e1 := ha.2.2.2.2.2; simp [fd_a, fd_n, fd_isO, fd_al, ha.1, hb.1, ha.2.1, ha.2.2.1, ha.2.2.2.1, ha.2.2.2.2.1, hb.2.1, hb.2.2.1, hb.2.2.2.1, hb.2.2.2.2.1, fd_inb, Nat.blt_eq, fd_up, fd_cp, n0, n1, n2, n3, n4] <;> omega) ?_
  refine fd_u_blk 4 (C := fd_c143) (L' := [fd_R (a), fd_R (b)]) (st' := [fd_R (b)]) (M' := (fd_cp (fd_cp M (b + 1) 0 (a + 1) 0 6) (b + 2) 0 (a + 2) 0 6)) rfl rfl (j := 17) rfl (by have e0 := hb.2.2.2.2.2; have e1 := ha.2.2.2.2.2; simp [fd_a, fd_n, fd_isO, fd_al, ha.1, hb.1, ha.2.1, ha.2.2.1, ha.2.2.2.1, ha.2.2.2.2.1, hb.2.1, hb.2.2.1, hb.2.2.2.1, hb.2.2.2.2.1, fd_inb, Nat.blt_eq, fd_up, fd_cp, n0, n1, n2, n3, n4] <;> omega) ?_
  refine fd_u_blk 1 (C := fd_c143) (L' := [fd_R (a), fd_R (b)]) (st' := [fd_R ((b + 3))]) (M' := (fd_cp (fd_cp M (b + 1) 0 (a + 1) 0 6) (b + 2) 0 (a + 2) 0 6)) rfl (fd_b_sc hb.1 rfl rfl) (j := 18) rfl (by have e0 := hb.2.2.2.2.2; have e1 := ha.2.2.2.2.2; simp [fd_a, fd_n, fd_isO, fd_al, ha.1, hb.1, ha.2.1, ha.2.2.1, ha.2.2.2.1, ha.2.2.2.2.1, hb.2.1, hb.2.2.1, hb.2.2.2.1, hb.2.2.2.2.1, fd_inb, Nat.blt_eq, fd_up, fd_cp, n0, n1, n2, n3, n4] <;> omega) ?_
  refine fd_u_blk 2 (C := fd_c143) (L' := [fd_R (a), fd_R (b)]) (st' := [fd_R (a), fd_I 0, fd_R ((b + 3))]) (M' := (fd_cp (fd_cp M (b + 1) 0 (a + 1) 0 6) (b + 2) 0 (a + 2) 0 6)) rfl rfl (j := 20) rfl (by have e0 := hb.2.2.2.2.2; have e1 := ha.2.2.2.2.2; simp [fd_a, fd_n, fd_isO, fd_al, ha.1, hb.1, ha.2.1, ha.2.2.1, ha.2.2.2.1, ha.2.2.2.2.1, hb.2.1, hb.2.2.1, hb.2.2.2.1, hb.2.2.2.2.1, fd_inb, Nat.blt_eq, fd_up, fd_cp, n0, n1, n2, n3, n4] <;> omega) ?_
  refine fd_u_blk 1 (C := fd_c143) (L' := [fd_R (a), fd_R (b)]) (st' := [fd_R ((a + 3)), fd_I 0, fd_R ((b + 3))]) (M' := (fd_cp (fd_cp M (b + 1) 0 (a + 1) 0 6) (b + 2) 0 (a + 2) 0 6)) rfl (fd_b_sc ha.1 rfl rfl) (j := 21) rfl (by have e0 := hb.2.2.2.2.2; have e1 := ha.2.2.2.2.2; simp [fd_a, fd_n, fd_isO, fd_al, ha.1, hb.1, ha.2.1, ha.2.2.1, ha.2.2.2.1, ha.2.2.2.2.1, hb.2.1, hb.2.2.1, hb.2.2.2.1, hb.2.2.2.2.1, fd_inb, Nat.blt_eq, fd_up, fd_cp, n0, n1, n2, n3, n4] <;> omega) ?_
  refine fd_u_blk 4 (C := fd_c143) (L' := [fd_R (a), fd_R (b)]) (st' := [fd_R (b)]) (M' := (fd_cp (fd_cp (fd_cp M (b + 1) 0 (a + 1) 0 6) (b + 2) 0 (a + 2) 0 6) (b + 3) 0 (a + 3) 0 6)) rfl rfl (j := 25) rfl (by have e0 := hb.2.2.2.2.2; have e1 := ha.2.2.2.2.2; simp [fd_a, fd_n, fd_isO, fd_al, ha.1, hb.1, ha.2.1, ha.2.2.1, ha.2.2.2.1, ha.2.2.2.2.1, hb.2.1, hb.2.2.1, hb.2.2.2.1, hb.2.2.2.2.1, fd_inb, Nat.blt_eq, fd_up, fd_cp, n0, n1, n2, n3, n4] <;> omega) ?_
  refine fd_u_blk 1 (C := fd_c143) (L' := [fd_R (a), fd_R (b)]) (st' := [fd_R ((b + 4))]) (M' := (fd_cp (fd_cp (fd_cp M (b + 1) 0 (a + 1) 0 6) (b + 2) 0 (a + 2) 0 6) (b + 3) 0 (a + 3) 0 6)) rfl (fd_b_sc hb.1 rfl rfl) (j := 26) rfl (by have e0 := hb.2.2.2.2.2; have e1 := ha.2.2.2.2.2; simp [fd_a, fd_n, fd_isO, fd_al, ha.1, hb.1, ha.2.1, ha.2.2.1, ha.2.2.2.1, ha.2.2.2.2.1, hb.2.1, hb.2.2.1, hb.2.2.2.1, hb.2.2.2.2.1, fd_inb, Nat.blt_eq, fd_up, fd_cp, n0, n1, n2, n3, n4] <;> omega) ?_
  refine fd_u_blk 2 (C := fd_c143) (L' := [fd_R (a), fd_R (b)]) (st' := [fd_R (a), fd_I 0, fd_R ((b + 4))]) (M' := (fd_cp (fd_cp (fd_cp M (b + 1) 0 (a + 1) 0 6) (b + 2) 0 (a + 2) 0 6) (b + 3) 0 (a + 3) 0 6)) rfl rfl (j := 28) rfl (by have e0 := hb.2.2.2.2.2; have e1 := ha.2.2.2.2.2; simp [fd_a, fd_n, fd_isO, fd_al, ha.1, hb.1, ha.2.1, ha.2.2.1, ha.2.2.2.1, ha.2.2.2.2.1, hb.2.1, hb.2.2.1, hb.2.2.2.1, hb.2.2.2.2.1, fd_inb, Nat.blt_eq, fd_up, fd_cp, n0, n1, n2, n3, n4] <;> omega) ?_
  refine fd_u_blk 1 (C := fd_c143) (L' := [fd_R (a), fd_R (b)]) (st' := [fd_R ((a + 4)), fd_I 0, fd_R ((b + 4))]) (M' := (fd_cp (fd_cp (fd_cp M (b + 1) 0 (a + 1) 0 6) (b + 2) 0 (a + 2) 0 6) (b + 3) 0 (a + 3) 0 6)) rfl (fd_b_sc ha.1 rfl rfl) (j := 29) rfl (by have e0 := hb.2.2.2.2.2; have e1 := ha.2.2.2.2.2; simp [fd_a, fd_n, fd_isO, fd_al, ha.1, hb.1, ha.2.1, ha.2.2.1, ha.2.2.2.1, ha.2.2.2.2.1, hb.2.1, hb.2.2.1, hb.2.2.2.1, hb.2.2.2.2.1, fd_inb, Nat.blt_eq, fd_up, fd_cp, n0, n1, n2, n3, n4] <;> omega) ?_
  refine fd_u_blk 19 (C := fd_c143) (L' := [fd_R (a), fd_R (b)]) (st' := []) (M' := (fd_up (fd_up (fd_up (fd_up (fd_cp (fd_cp (fd_cp (fd_cp M (b + 1) 0 (a + 1) 0 6) (b + 2) 0 (a + 2) 0 6) (b + 3) 0 (a + 3) 0 6) (b + 4) 0 (a + 4) 0 6) a 4 ((fd_cp (fd_cp (fd_cp (fd_cp M (b + 1) 0 (a + 1) 0 6) (b + 2) 0 (a + 2) 0 6) (b + 3) 0 (a + 3) 0 6) (b + 4) 0 (a + 4) 0 6) b 4)) a 5 ((fd_up (fd_cp (fd_cp (fd_cp (fd_cp M (b + 1) 0 (a + 1) 0 6) (b + 2) 0 (a + 2) 0 6) (b + 3) 0 (a + 3) 0 6) (b + 4) 0 (a + 4) 0 6) a 4 ((fd_cp (fd_cp (fd_cp (fd_cp M (b + 1) 0 (a + 1) 0 6) (b + 2) 0 (a + 2) 0 6) (b + 3) 0 (a + 3) 0 6) (b + 4) 0 (a + 4) 0 6) b 4)) b 5)) a 6 ((fd_up (fd_up (fd_cp (fd_cp (fd_cp (fd_cp M (b + 1) 0 (a + 1) 0 6) (b + 2) 0 (a + 2) 0 6) (b + 3) 0 (a + 3) 0 6) (b + 4) 0 (a + 4) 0 6) a 4 ((fd_cp (fd_cp (fd_cp (fd_cp M (b + 1) 0 (a + 1) 0 6) (b + 2) 0 (a + 2) 0 6) (b + 3) 0 (a + 3) 0 6) (b + 4) 0 (a + 4) 0 6) b 4)) a 5 ((fd_up (fd_cp (fd_cp (fd_cp (fd_cp M (b + 1) 0 (a + 1) 0 6) (b + 2) 0 (a + 2) 0 6) (b + 3) 0 (a + 3) 0 6) (b + 4) 0 (a + 4) 0 6) a 4 ((fd_cp (fd_cp (fd_cp (fd_cp M (b + 1) 0 (a + 1) 0 6) (b + 2) 0 (a + 2) 0 6) (b + 3) 0 (a + 3) 0 6) (b + 4) 0 (a + 4) 0 6) b 4)) b 5)) b 6)) a 7 ((fd_up (fd_up (fd_up (fd_cp (fd_cp (fd_cp (fd_cp M (b + 1) 0 (a + 1) 0 6) (b + 2) 0 (a + 2) 0 6) (b + 3) 0 (a + 3) 0 6) (b + 4) 0 (a + 4) 0 6) a 4 ((fd_cp (fd_cp (fd_cp (fd_cp M (b + 1) 0 (a + 1) 0 6) (b + 2) 0 (a + 2) 0 6) (b + 3) 0 (a + 3) 0 6) (b + 4) 0 (a + 4) 0 6) b 4)) a 5 ((fd_up (fd_cp (fd_cp (fd_cp (fd_cp M (b + 1) 0 (a + 1) 0 6) (b + 2) 0 (a + 2) 0 6) (b + 3) 0 (a + 3) 0 6) (b + 4) 0 (a + 4) 0 6) a 4 ((fd_cp (fd_cp (fd_cp (fd_cp M (b + 1) 0 (a + 1) 0 6) (b + 2) 0 (a + 2) 0 6) (b + 3) 0 (a + 3) 0 6) (b + 4) 0 (a + 4) 0 6) b 4)) b 5)) a 6 ((fd_up (fd_up (fd_cp (fd_cp (fd_cp (fd_cp M (b + 1) 0 (a + 1) 0 6) (b + 2) 0 (a + 2) 0 6) (b + 3) 0 (a + 3) 0 6) (b + 4) 0 (a + 4) 0 6) a 4 ((fd_cp (fd_cp (fd_cp (fd_cp M (b + 1) 0 (a + 1) 0 6) (b + 2) 0 (a + 2) 0 6) (b + 3) 0 (a + 3) 0 6) (b + 4) 0 (a + 4) 0 6) b 4)) a 5 ((fd_up (fd_cp (fd_cp (fd_cp (fd_cp M (b + 1) 0 (a + 1) 0 6) (b + 2) 0 (a + 2) 0 6) (b + 3) 0 (a + 3) 0 6) (b + 4) 0 (a + 4) 0 6) a 4 ((fd_cp (fd_cp (fd_cp (fd_cp M (b + 1) 0 (a + 1) 0 6) (b + 2) 0 (a + 2) 0 6) (b + 3) 0 (a + 3) 0 6) (b + 4) 0 (a + 4) 0 6) b 4)) b 5)) b 6)) b 7))) rfl rfl (j := 48) rfl (by have e0 := hb.2.2.2.2.2; have e1 := ha.2.2.2.2.2; simp [fd_a, fd_n, fd_isO, fd_al, ha.1, hb.1, ha.2.1, ha.2.2.1, ha.2.2.2.1, ha.2.2.2.2.1, hb.2.1, hb.2.2.1, hb.2.2.2.1, hb.2.2.2.2.1, fd_inb, Nat.blt_eq, fd_up, fd_cp, n0, n1, n2, n3, n4] <;> omega) ?_
  refine fd_u_ret (C := fd_c143) (b := true) (r' := none) rfl rfl rfl (rfl) ?_ ?_
  · rfl
  · rw [← fd_cps_eq M a b hab]
    simp [fd_up, fd_cp, n0, n1, n2, n3, n4]


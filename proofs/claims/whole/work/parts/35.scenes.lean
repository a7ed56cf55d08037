/-! scenes copied, kept, undone -/
abbrev fd_scn (a : Nat) : Prop := fd_SH a = (5, 8) ∧ fd_SH (a + 1) = (20, 6) ∧ fd_SH (a + 2) = (20, 6) ∧ fd_SH (a + 3) = (20, 6) ∧ fd_SH (a + 4) = (20, 6) ∧ a < 900
theorem fd_b_sc {a k t : Nat} {r0 : List Int} {is : List fd_Ins} {L st : List fd_V} {M : fd_M} (h : fd_SH a = (5, 8)) (hk : Nat.ble 4 k = false) (ht : a + 1 + k = t) : fd_bl 1 ((27, 5 :: (k : Int) :: 2 :: r0) :: is) L (fd_R a :: st) M = some (fd_isO true M a 5 && true, L, fd_R t :: st, M) := by
  have e : fd_rf true M a k = t := by
    unfold fd_rf fd_RF
    rw [h]
    simp [hk, ht]
  show some (fd_isO true M a 5 && true, L, fd_R (fd_rf true M a k) :: st, M) = _
  rw [e]
def fd_cps (M : fd_M) (a b : Nat) : fd_M := fun c k => if c = a ∧ 4 ≤ k ∧ k ≤ 7 then M b k else if a < c ∧ c ≤ a + 4 ∧ k < 6 then M (b + (c - a)) k else M c k
theorem fd_cps_eq (M : fd_M) (a b : Nat) (hab : a + 5 ≤ b ∨ b + 5 ≤ a) : fd_up (fd_up (fd_up (fd_up (fd_cp (fd_cp (fd_cp (fd_cp M (b + 1) 0 (a + 1) 0 6) (b + 2) 0 (a + 2) 0 6) (b + 3) 0 (a + 3) 0 6) (b + 4) 0 (a + 4) 0 6) a 4 (M b 4)) a 5 (M b 5)) a 6 (M b 6)) a 7 (M b 7) = fd_cps M a b := by
  funext c k
  by_cases h0 : c = a
  · subst h0
    simp only [fd_up, fd_cp, fd_cps, true_and]
    by_cases h7 : k = 7
    · subst h7; simp
    · by_cases h6 : k = 6
      · subst h6; simp
      · by_cases h5 : k = 5
        · subst h5; simp
        · by_cases h4 : k = 4
          · subst h4; simp
          · simp [h4, h5, h6, h7, show ¬ (4 ≤ k ∧ k ≤ 7) by omega]
  · have n : ¬ (c = a ∧ 4 ≤ k ∧ k ≤ 7) := fun q => h0 q.1
    simp only [fd_up, fd_cps, if_neg n, show ∀ j, ¬ (c = a ∧ k = j) from fun j q => h0 q.1, if_false]
    simp only [fd_cp, Nat.zero_add, Nat.sub_zero, Nat.zero_le, true_and]
    by_cases hk : k < 6
    · by_cases h1 : c = a + 1
      · subst h1
        simp [hk, show a < a + 1 by omega]
      · by_cases h2 : c = a + 2
        · subst h2
          have z1 : ¬ b + 2 = a + 1 := by omega
          simp [hk, z1, show a < a + 2 by omega, show a + 2 - a = 2 by omega]
        · by_cases h3 : c = a + 3
          · subst h3
            have z1 : ¬ b + 3 = a + 1 := by omega
            have z2 : ¬ b + 3 = a + 2 := by omega
            simp [hk, z1, z2, show a < a + 3 by omega, show a + 3 - a = 3 by omega]
          · by_cases h4 : c = a + 4
            · subst h4
              have z1 : ¬ b + 4 = a + 1 := by omega
              have z2 : ¬ b + 4 = a + 2 := by omega
              have z3 : ¬ b + 4 = a + 3 := by omega
              simp [hk, z1, z2, z3, show a < a + 4 by omega, show a + 4 - a = 4 by omega]
            · simp [h1, h2, h3, h4, show ¬ (a < c ∧ c ≤ a + 4) by omega]
              intro q1 q2
              omega
    · simp [hk]
set_option maxRecDepth 4000 in
theorem fd_s_copyFrom (M : fd_M) (a b : Nat) (ha : fd_scn a) (hb : fd_scn b) (hab : a + 5 ≤ b ∨ b + 5 ≤ a) (h6 : 0 ≤ M b 6 ∧ M b 6 ≤ 1) (h7 : 0 ≤ M b 7 ∧ M b 7 ≤ 1) : fd_call 0 143 [fd_R (a), fd_R (b)] M (none) (fd_cps M a b) := by
  refine fd_u_in (L := [fd_R (a), fd_R (b)]) rfl ?_
  have n0 : ¬ b = a := by omega
  have n1 : ¬ b = a + 1 := by omega
  have n2 : ¬ b = a + 2 := by omega
  have n3 : ¬ b = a + 3 := by omega
  have n4 : ¬ b = a + 4 := by omega
  refine fd_u_blk 1 (C := fd_c143) (L' := [fd_R (a), fd_R (b)]) (st' := [fd_R (b)]) (M' := M) rfl rfl (j := 1) rfl (by have e0 := hb.2.2.2.2.2; have e1 := ha.2.2.2.2.2; simp [fd_a, fd_n, fd_isO, fd_al, ha.1, hb.1, ha.2.1, ha.2.2.1, ha.2.2.2.1, ha.2.2.2.2.1, hb.2.1, hb.2.2.1, hb.2.2.2.1, hb.2.2.2.2.1, fd_inb, Nat.blt_eq, fd_up, fd_cp, n0, n1, n2, n3, n4] <;> omega) ?_
  refine fd_u_blk 1 (C := fd_c143) (L' := [fd_R (a), fd_R (b)]) (st' := [fd_R ((b + 1))]) (M' := M) rfl (fd_b_sc hb.1 rfl rfl) (j := 2) rfl (by have e0 := hb.2.2.2.2.2; have e1 := ha.2.2.2.2.2; simp [fd_a, fd_n, fd_isO, fd_al, ha.1, hb.1, ha.2.1, ha.2.2.1, ha.2.2.2.1, ha.2.2.2.2.1, hb.2.1, hb.2.2.1, hb.2.2.2.1, hb.2.2.2.2.1, fd_inb, Nat.blt_eq, fd_up, fd_cp, n0, n1, n2, n3, n4] <;> omega) ?_
  refine fd_u_blk 2 (C := fd_c143) (L' := [fd_R (a), fd_R (b)]) (st' := [fd_R (a), fd_I 0, fd_R ((b + 1))]) (M' := M) rfl rfl (j := 4) rfl (by have e0 := hb.2.2.2.2.2; have e1 := ha.2.2.2.2.2; simp [fd_a, fd_n, fd_isO, fd_al, ha.1, hb.1, ha.2.1, ha.2.2.1, ha.2.2.2.1, ha.2.2.2.2.1, hb.2.1, hb.2.2.1, hb.2.2.2.1, hb.2.2.2.2.1, fd_inb, Nat.blt_eq, fd_up, fd_cp, n0, n1, n2, n3, n4] <;> omega) ?_
  refine fd_u_blk 1 (C := fd_c143) (L' := [fd_R (a), fd_R (b)]) (st' := [fd_R ((a + 1)), fd_I 0, fd_R ((b + 1))]) (M' := M) rfl (fd_b_sc ha.1 rfl rfl) (j := 5) rfl (by have e0 := hb.2.2.2.2.2; have e1 := ha.2.2.2.2.2; simp [fd_a, fd_n, fd_isO, fd_al, ha.1, hb.1, ha.2.1, ha.2.2.1, ha.2.2.2.1, ha.2.2.2.2.1, hb.2.1, hb.2.2.1, hb.2.2.2.1, hb.2.2.2.2.1, fd_inb, Nat.blt_eq, fd_up, fd_cp, n0, n1, n2, n3, n4] <;> omega) ?_
  refine fd_u_blk 4 (C := fd_c143) (L' := [fd_R (a), fd_R (b)]) (st' := [fd_R (b)]) (M' := (fd_cp M (b + 1) 0 (a + 1) 0 6)) rfl rfl (j := 9) rfl (by have e0 := hb.2.2.2.2.2; have e1 := ha.2.2.2.2.2; simp [fd_a, fd_n, fd_isO, fd_al, ha.1, hb.1, ha.2.1, ha.2.2.1, ha.2.2.2.1, ha.2.2.2.2.1, hb.2.1, hb.2.2.1, hb.2.2.2.1, hb.2.2.2.2.1, fd_inb, Nat.blt_eq, fd_up, fd_cp, n0, n1, n2, n3, n4] <;> omega) ?_
  refine fd_u_blk 1 (C := fd_c143) (L' := [fd_R (a), fd_R (b)]) (st' := [fd_R ((b + 2))]) (M' := (fd_cp M (b + 1) 0 (a + 1) 0 6)) rfl (fd_b_sc hb.1 rfl rfl) (j := 10) rfl (by have e0 := hb.2.2.2.2.2; have e1 := ha.2.2.2.2.2; simp [fd_a, fd_n, fd_isO, fd_al, ha.1, hb.1, ha.2.1, ha.2.2.1, ha.2.2.2.1, ha.2.2.2.2.1, hb.2.1, hb.2.2.1, hb.2.2.2.1, hb.2.2.2.2.1, fd_inb, Nat.blt_eq, fd_up, fd_cp, n0, n1, n2, n3, n4] <;> omega) ?_
  refine fd_u_blk 2 (C := fd_c143) (L' := [fd_R (a), fd_R (b)]) (st' := [fd_R (a), fd_I 0, fd_R ((b + 2))]) (M' := (fd_cp M (b + 1) 0 (a + 1) 0 6)) rfl rfl (j := 12) rfl (by have e0 := hb.2.2.2.2.2; have e1 := ha.2.2.2.2.2; simp [fd_a, fd_n, fd_isO, fd_al, ha.1, hb.1, ha.2.1, ha.2.2.1, ha.2.2.2.1, ha.2.2.2.2.1, hb.2.1, hb.2.2.1, hb.2.2.2.1, hb.2.2.2.2.1, fd_inb, Nat.blt_eq, fd_up, fd_cp, n0, n1, n2, n3, n4] <;> omega) ?_
  refine fd_u_blk 1 (C := fd_c143) (L' := [fd_R (a), fd_R (b)]) (st' := [fd_R ((a + 2)), fd_I 0, fd_R ((b + 2))]) (M' := (fd_cp M (b + 1) 0 (a + 1) 0 6)) rfl (fd_b_sc ha.1 rfl rfl) (j := 13) rfl (by have e0 := hb.2.2.2.2.2; have e1 := ha.2.2.2.2.2; simp [fd_a, fd_n, fd_isO, fd_al, ha.1, hb.1, ha.2.1, ha.2.2.1, ha.2.2.2.1, ha.2.2.2.2.1, hb.2.1, hb.2.2.1, hb.2.2.2.1, hb.2.2.2.2.1, fd_inb, Nat.blt_eq, fd_up, fd_cp, n0, n1, n2, n3, n4] <;> omega) ?_
  refine fd_u_blk 4 (C := fd_c143) (L' := [fd_R (a), fd_R (b)]) (st' := [fd_R (b)]) (M' := (fd_cp (fd_cp M (b + 1) 0 (a + 1) 0 6) (b + 2) 0 (a + 2) 0 6)) rfl rfl (j := 17) rfl (by have e0 := hb.2.2.2.2.2; have e1 := ha.2.2.2.2.2; simp [fd_a, fd_n, fd_isO, fd_al, ha.1, hb.1, ha.2.1, ha.2.2.1, ha.2.2.2.1, ha.2.2.2.2.1, hb.2.1, hb.2.2.1, hb.2.2.2.1, hb.2.2.2.2.1, fd_inb, Nat.blt_eq, fd_up, fd_cp, n0, n1, n2, n3, n4] <;> omega) ?_
  refine fd_u_blk 1 (C := fd_c143) (L' := [fd_R (a), fd_R (b)]) (st' := [fd_R ((b + 3))]) (M' := (fd_cp (fd_cp M (b + 1) 0 (a + 1) 0 6) (b + 2) 0 (a + 2) 0 6)) rfl (fd_b_sc hb.1 rfl rfl) (j := 18) rfl (by have e0 := hb.2.2.2.2.2; have e1 := ha.2.2.2.2.2; simp [fd_a, fd_n, fd_isO, fd_al, ha.1, hb.1, ha.2.1, ha.2.2.1, ha.2.2.2.1, ha.2.2.2.2.1, hb.2.1, hb.2.2.1, hb.2.2.2.1, hb.2.2.2.2.1, fd_inb, Nat.blt_eq, fd_up, fd_cp, n0, n1, n2, n3, n4] <;> omega) ?_
  refine fd_u_blk 2 (C := fd_c143) (L' := [fd_R (a), fd_R (b)]) (st' := [fd_R (a), fd_I 0, fd_R ((b + 3))]) (M' := (fd_cp (fd_cp M (b + 1) 0 (a + 1) 0 6) (b + 2) 0 (a + 2) 0 6)) rfl rfl (j := 20) rfl (by have e0 := hb.2.2.2.2.2; have e1 := ha.2.2.2.2.2; simp [fd_a, fd_n, fd_isO, fd_al, ha.1, hb.1, ha.2.1, ha.2.2.1, ha.2.2.2.1, ha.2.2.2.2.1, hb.2.1, hb.2.2.1, hb.2.2.2.1, hb.2.2.2.2.1, fd_inb, Nat.blt_eq, fd_up, fd_cp, n0, n1, n2, n3, n4] <;> omega) ?_
  refine fd_u_blk 1 (C := fd_c143) (L' := [fd_R (a), fd_R (b)]) (st' := [fd_R ((a + 3)), fd_I 0, fd_R ((b + 3))]) (M' := (fd_cp (fd_cp M (b + 1) 0 (a + 1) 0 6) (b + 2) 0 (a + 2) 0 6)) rfl (fd_b_sc ha.1 rfl rfl) (j := 21) rfl (by have e0 := hb.2.2.2.2.2; have e1 := ha.2.2.2.2.2; simp [fd_a, fd_n, fd_isO, fd_al, ha.1, hb.1, ha.2.1, ha.2.2.1, ha.2.2.2.1, ha.2.2.2.2.1, hb.2.1, hb.2.2.1, hb.2.2.2.1, hb.2.2.2.2.1, fd_inb, Nat.blt_eq, fd_up, fd_cp, n0, n1, n2, n3, n4] <;> omega) ?_
  refine fd_u_blk 4 (C := fd_c143) (L' := [fd_R (a), fd_R (b)]) (st' := [fd_R (b)]) (M' := (fd_cp (fd_cp (fd_cp M (b + 1) 0 (a + 1) 0 6) (b + 2) 0 (a + 2) 0 6) (b + 3) 0 (a + 3) 0 6)) rfl rfl (j := 25) rfl (by have e0 := hb.2.2.2.2.2; have e1 := ha.2.2.2.2.2; simp [fd_a, fd_n, fd_isO, fd_al, ha.1, hb.1, ha.2.1, ha.2.2.1, ha.2.2.2.1, ha.2.2.2.2.1, hb.2.1, hb.2.2.1, hb.2.2.2.1, hb.2.2.2.2.1, fd_inb, Nat.blt_eq, fd_up, fd_cp, n0, n1, n2, n3, n4] <;> omega) ?_
  refine fd_u_blk 1 (C := fd_c143) (L' := [fd_R (a), fd_R (b)]) (st' := [fd_R ((b + 4))]) (M' := (fd_cp (fd_cp (fd_cp M (b + 1) 0 (a + 1) 0 6) (b + 2) 0 (a + 2) 0 6) (b + 3) 0 (a + 3) 0 6)) rfl (fd_b_sc hb.1 rfl rfl) (j := 26) rfl (by have e0 := hb.2.2.2.2.2; have e1 := ha.2.2.2.2.2; simp [fd_a, fd_n, fd_isO, fd_al, ha.1, hb.1, ha.2.1, ha.2.2.1, ha.2.2.2.1, ha.2.2.2.2.1, hb.2.1, hb.2.2.1, hb.2.2.2.1, hb.2.2.2.2.1, fd_inb, Nat.blt_eq, fd_up, fd_cp, n0, n1, n2, n3, n4] <;> omega) ?_
  refine fd_u_blk 2 (C := fd_c143) (L' := [fd_R (a), fd_R (b)]) (st' := [fd_R (a), fd_I 0, fd_R ((b + 4))]) (M' := (fd_cp (fd_cp (fd_cp M (b + 1) 0 (a + 1) 0 6) (b + 2) 0 (a + 2) 0 6) (b + 3) 0 (a + 3) 0 6)) rfl rfl (j := 28) rfl (by have e0 := hb.2.2.2.2.2; have e1 := ha.2.2.2.2.2; simp [fd_a, fd_n, fd_isO, fd_al, ha.1, hb.1, ha.2.1, ha.2.2.1, ha.2.2.2.1, ha.2.2.2.2.1, hb.2.1, hb.2.2.1, hb.2.2.2.1, hb.2.2.2.2.1, fd_inb, Nat.blt_eq, fd_up, fd_cp, n0, n1, n2, n3, n4] <;> omega) ?_
  refine fd_u_blk 1 (C := fd_c143) (L' := [fd_R (a), fd_R (b)]) (st' := [fd_R ((a + 4)), fd_I 0, fd_R ((b + 4))]) (M' := (fd_cp (fd_cp (fd_cp M (b + 1) 0 (a + 1) 0 6) (b + 2) 0 (a + 2) 0 6) (b + 3) 0 (a + 3) 0 6)) rfl (fd_b_sc ha.1 rfl rfl) (j := 29) rfl (by have e0 := hb.2.2.2.2.2; have e1 := ha.2.2.2.2.2; simp [fd_a, fd_n, fd_isO, fd_al, ha.1, hb.1, ha.2.1, ha.2.2.1, ha.2.2.2.1, ha.2.2.2.2.1, hb.2.1, hb.2.2.1, hb.2.2.2.1, hb.2.2.2.2.1, fd_inb, Nat.blt_eq, fd_up, fd_cp, n0, n1, n2, n3, n4] <;> omega) ?_
  refine fd_u_blk 19 (C := fd_c143) (L' := [fd_R (a), fd_R (b)]) (st' := []) (M' := (fd_up (fd_up (fd_up (fd_up (fd_cp (fd_cp (fd_cp (fd_cp M (b + 1) 0 (a + 1) 0 6) (b + 2) 0 (a + 2) 0 6) (b + 3) 0 (a + 3) 0 6) (b + 4) 0 (a + 4) 0 6) a 4 ((fd_cp (fd_cp (fd_cp (fd_cp M (b + 1) 0 (a + 1) 0 6) (b + 2) 0 (a + 2) 0 6) (b + 3) 0 (a + 3) 0 6) (b + 4) 0 (a + 4) 0 6) b 4)) a 5 ((fd_up (fd_cp (fd_cp (fd_cp (fd_cp M (b + 1) 0 (a + 1) 0 6) (b + 2) 0 (a + 2) 0 6) (b + 3) 0 (a + 3) 0 6) (b + 4) 0 (a + 4) 0 6) a 4 ((fd_cp (fd_cp (fd_cp (fd_cp M (b + 1) 0 (a + 1) 0 6) (b + 2) 0 (a + 2) 0 6) (b + 3) 0 (a + 3) 0 6) (b + 4) 0 (a + 4) 0 6) b 4)) b 5)) a 6 ((fd_up (fd_up (fd_cp (fd_cp (fd_cp (fd_cp M (b + 1) 0 (a + 1) 0 6) (b + 2) 0 (a + 2) 0 6) (b + 3) 0 (a + 3) 0 6) (b + 4) 0 (a + 4) 0 6) a 4 ((fd_cp (fd_cp (fd_cp (fd_cp M (b + 1) 0 (a + 1) 0 6) (b + 2) 0 (a + 2) 0 6) (b + 3) 0 (a + 3) 0 6) (b + 4) 0 (a + 4) 0 6) b 4)) a 5 ((fd_up (fd_cp (fd_cp (fd_cp (fd_cp M (b + 1) 0 (a + 1) 0 6) (b + 2) 0 (a + 2) 0 6) (b + 3) 0 (a + 3) 0 6) (b + 4) 0 (a + 4) 0 6) a 4 ((fd_cp (fd_cp (fd_cp (fd_cp M (b + 1) 0 (a + 1) 0 6) (b + 2) 0 (a + 2) 0 6) (b + 3) 0 (a + 3) 0 6) (b + 4) 0 (a + 4) 0 6) b 4)) b 5)) b 6)) a 7 ((fd_up (fd_up (fd_up (fd_cp (fd_cp (fd_cp (fd_cp M (b + 1) 0 (a + 1) 0 6) (b + 2) 0 (a + 2) 0 6) (b + 3) 0 (a + 3) 0 6) (b + 4) 0 (a + 4) 0 6) a 4 ((fd_cp (fd_cp (fd_cp (fd_cp M (b + 1) 0 (a + 1) 0 6) (b + 2) 0 (a + 2) 0 6) (b + 3) 0 (a + 3) 0 6) (b + 4) 0 (a + 4) 0 6) b 4)) a 5 ((fd_up (fd_cp (fd_cp (fd_cp (fd_cp M (b + 1) 0 (a + 1) 0 6) (b + 2) 0 (a + 2) 0 6) (b + 3) 0 (a + 3) 0 6) (b + 4) 0 (a + 4) 0 6) a 4 ((fd_cp (fd_cp (fd_cp (fd_cp M (b + 1) 0 (a + 1) 0 6) (b + 2) 0 (a + 2) 0 6) (b + 3) 0 (a + 3) 0 6) (b + 4) 0 (a + 4) 0 6) b 4)) b 5)) a 6 ((fd_up (fd_up (fd_cp (fd_cp (fd_cp (fd_cp M (b + 1) 0 (a + 1) 0 6) (b + 2) 0 (a + 2) 0 6) (b + 3) 0 (a + 3) 0 6) (b + 4) 0 (a + 4) 0 6) a 4 ((fd_cp (fd_cp (fd_cp (fd_cp M (b + 1) 0 (a + 1) 0 6) (b + 2) 0 (a + 2) 0 6) (b + 3) 0 (a + 3) 0 6) (b + 4) 0 (a + 4) 0 6) b 4)) a 5 ((fd_up (fd_cp (fd_cp (fd_cp (fd_cp M (b + 1) 0 (a + 1) 0 6) (b + 2) 0 (a + 2) 0 6) (b + 3) 0 (a + 3) 0 6) (b + 4) 0 (a + 4) 0 6) a 4 ((fd_cp (fd_cp (fd_cp (fd_cp M (b + 1) 0 (a + 1) 0 6) (b + 2) 0 (a + 2) 0 6) (b + 3) 0 (a + 3) 0 6) (b + 4) 0 (a + 4) 0 6) b 4)) b 5)) b 6)) b 7))) rfl rfl (j := 48) rfl (by have e0 := hb.2.2.2.2.2; have e1 := ha.2.2.2.2.2; simp [fd_a, fd_n, fd_isO, fd_al, ha.1, hb.1, ha.2.1, ha.2.2.1, ha.2.2.2.1, ha.2.2.2.2.1, hb.2.1, hb.2.2.1, hb.2.2.2.1, hb.2.2.2.2.1, fd_inb, Nat.blt_eq, fd_up, fd_cp, n0, n1, n2, n3, n4] <;> omega) ?_
  refine fd_u_ret (C := fd_c143) (b := true) (r' := none) rfl rfl rfl (rfl) ?_ ?_
  · rfl
  · rw [← fd_cps_eq M a b hab]
    simp [fd_up, fd_cp, n0, n1, n2, n3, n4]

theorem fd_scn_h : ∀ j, j < 10 → fd_scn (21 + 5 * j) := by decide +kernel
theorem fd_scn_i : ∀ j, j < 10 → fd_scn (91 + 5 * j) ∧ fd_scn (149 + 5 * j) := by decide +kernel
theorem fd_scn_n : fd_scn 14 ∧ fd_scn 84 ∧ fd_scn 142 := by decide +kernel
def fd_HS (M : fd_M) : Prop := ∀ i : Nat, i < 10 → ∃ j : Nat, j < 10 ∧ M 20 i = ((21 + 5 * j : Nat) : Int)
def fd_ls (M : fd_M) (i : Nat) : fd_M := fun c k => if c = 20 ∧ k + 1 < i then M 20 (k + 1) else M c k
def fd_lose (M : fd_M) : fd_M := fun c k => if c = 20 ∧ k < 9 then M 20 (k + 1) else if c = 20 ∧ k = 9 then M 20 0 else if c = 19 ∧ k = 1 then 9 else M c k
theorem fd_ls_step (M : fd_M) (i : Nat) (h1 : 1 ≤ i) (hv : 0 ≤ M 20 i) : fd_up (fd_ls M i) 20 ((i : Int) - 1).toNat (((fd_ls M i 20 i).toNat : Nat) : Int) = fd_ls M (i + 1) := by
  have e : fd_ls M i 20 i = M 20 i := by
    show (if 20 = 20 ∧ i + 1 < i then M 20 (i + 1) else M 20 i) = M 20 i
    rw [if_neg (by omega)]
  rw [e, Int.toNat_of_nonneg hv]
  funext c k
  simp only [fd_up, fd_ls]
  have ek : ((i : Int) - 1).toNat = i - 1 := by omega
  rw [ek]
  by_cases hc : c = 20
  · subst hc
    by_cases hk : k = i - 1
    · rw [if_pos ⟨rfl, hk⟩, if_pos ⟨rfl, by omega⟩]
      rw [show k + 1 = i by omega]
    · rw [if_neg (fun q => hk q.2)]
      by_cases hk2 : k + 1 < i
      · rw [if_pos ⟨rfl, hk2⟩, if_pos ⟨rfl, by omega⟩]
      · rw [if_neg (fun q => hk2 q.2), if_neg (fun q => by omega)]
  · simp [hc]
theorem fd_lose_eq (M : fd_M) (hv : 0 ≤ M 20 0) : fd_up (fd_up (fd_ls M 10) 20 9 (((M 20 0).toNat : Nat) : Int)) 19 1 9 = fd_lose M := by
  rw [Int.toNat_of_nonneg hv]
  funext c k
  simp only [fd_up, fd_ls, fd_lose]
  by_cases hc : c = 20
  · subst hc
    by_cases hk : k = 9
    · subst hk; simp
    · by_cases hk2 : k < 9
      · simp [hk, hk2, show k + 1 < 10 by omega]
      · simp [hk, hk2, show ¬ k + 1 < 10 by omega]
  · simp [hc]
theorem fd_l_lose (M : fd_M) (hs : fd_HS M) : ∀ (n : Nat) (i : Nat) (hi : i + n = 10) (h1 : 1 ≤ i), fd_run 0 114 7 [fd_R 19, fd_R ((M 20 0).toNat), fd_I ((i : Nat) : Int)] [] (fd_ls M i) (none) (fd_lose M) := by
  obtain ⟨j0, hj0, ej0⟩ := hs 0 (by omega)
  have hx0 := (fd_scn_h j0 hj0).1
  intro n
  induction n with
  | zero =>
    intro i hi h1
    have ex := ej0
    have hx := hx0
    have hx9 : fd_SH (M 20 0).toNat = (5, 8) := by rw [ej0]; exact hx0
    have hx9L : (M 20 0).toNat < 1000 := by omega
    have hxT := hx9
    have hxL := hx9L
    refine fd_u_blk 4 (C := fd_c114) (b := true) (L' := [fd_R 19, fd_R ((M 20 0).toNat), fd_I ((i : Nat) : Int)]) (st' := [fd_I 10, fd_I ((i : Nat) : Int)]) (M' := (fd_ls M i)) rfl rfl (j := 11) rfl (rfl) ?_
    refine fd_u_br (C := fd_c114) (t := 24) (e := 12) (st' := []) (c := 10 ≤ ((i : Nat) : Int)) (b := (fd_rng ((i : Nat) : Int) && fd_rng 10)) rfl rfl rfl (fd_bA (fd_bR (by omega) (by omega)) (fd_bR (by omega) (by omega))) (fun h11 => ?_) (fun h11 => absurd h11 (by omega))
    refine fd_u_blk 12 (C := fd_c114) (L' := [fd_R 19, fd_R ((M 20 0).toNat), fd_I ((i : Nat) : Int)]) (st' := []) (M' := (fd_up (fd_up (fd_ls M i) 20 9 (((M 20 0).toNat : Nat) : Int)) 19 1 9)) rfl rfl (j := 36) rfl (by simp [fd_a, fd_n, fd_isA, fd_isO, fd_al, fd_tt, fd_inb, Nat.blt_eq, hxT, hxL, hx9L, hx9, show fd_SH 20 = (23, 10) from rfl, show fd_SH 19 = (1, 2) from rfl, show ∀ Mx : fd_M, fd_rf true Mx 19 0 = 20 from fun _ => rfl, fd_gf] <;> omega) ?_
    refine fd_u_ret (C := fd_c114) (b := true) (r' := none) rfl rfl rfl (rfl) ?_ ?_
    · rfl
    · have e9 := fd_lose_eq M (by omega)
      have ei : i = 10 := by omega
      subst ei
      exact e9
  | succ n ih =>
    intro i hi h1
    obtain ⟨j, hj, ej⟩ := hs i (by omega)
    have ex : fd_ls M i 20 i = ((21 + 5 * j : Nat) : Int) := by rw [← ej]; show (if 20 = 20 ∧ i + 1 < i then M 20 (i + 1) else M 20 i) = M 20 i; rw [if_neg (by omega)]
    have hx := (fd_scn_h j hj).1
    have hx9 : fd_SH (M 20 0).toNat = (5, 8) := by rw [ej0]; exact hx0
    have hx9L : (M 20 0).toNat < 1000 := by omega
    have hxT : fd_SH (fd_ls M i 20 i).toNat = (5, 8) := by rw [ex]; exact hx
    have hxL : (fd_ls M i 20 i).toNat < 1000 := by omega
    refine fd_u_blk 4 (C := fd_c114) (b := true) (L' := [fd_R 19, fd_R ((M 20 0).toNat), fd_I ((i : Nat) : Int)]) (st' := [fd_I 10, fd_I ((i : Nat) : Int)]) (M' := (fd_ls M i)) rfl rfl (j := 11) rfl (rfl) ?_
    refine fd_u_br (C := fd_c114) (t := 24) (e := 12) (st' := []) (c := 10 ≤ ((i : Nat) : Int)) (b := (fd_rng ((i : Nat) : Int) && fd_rng 10)) rfl rfl rfl (fd_bA (fd_bR (by omega) (by omega)) (fd_bR (by omega) (by omega))) (fun h11 => absurd h11 (by omega)) (fun h11 => ?_)
    refine fd_u_blk 11 (C := fd_c114) (L' := [fd_R 19, fd_R ((M 20 0).toNat), fd_I (((i + 1) : Nat) : Int)]) (st' := []) (M' := (fd_up (fd_ls M i) 20 (((i : Nat) : Int) - 1).toNat ((((fd_ls M i) 20 i).toNat : Nat) : Int))) rfl rfl (j := 23) rfl (by simp [fd_a, fd_n, fd_isA, fd_isO, fd_al, fd_tt, fd_inb, Nat.blt_eq, hxT, hxL, hx9L, hx9, show fd_SH 20 = (23, 10) from rfl, show fd_SH 19 = (1, 2) from rfl, show ∀ Mx : fd_M, fd_rf true Mx 19 0 = 20 from fun _ => rfl, fd_gf] <;> omega) ?_
    refine fd_u_jmp (C := fd_c114) (j := 7) (st' := []) rfl rfl (b := true) rfl rfl ?_
    rw [fd_ls_step M i h1 (by omega)]
    exact ih (i + 1) (by omega) (by omega)

theorem fd_s_loseOldest (M : fd_M) (hs : fd_HS M) : fd_call 0 114 [fd_R 19] M (none) (fd_lose M) := by
  refine fd_u_in (L := [fd_R 19, fd_R 1003, fd_R 1003]) rfl ?_
  obtain ⟨j0, hj0, ej0⟩ := hs 0 (by omega)
  refine fd_u_blk 7 (C := fd_c114) (L' := [fd_R 19, fd_R ((M 20 0).toNat), fd_I 1]) (st' := []) (M' := M) rfl rfl (j := 7) rfl (by simp [fd_a, fd_n, fd_isA, fd_isO, fd_al, fd_inb, Nat.blt_eq, ej0, show fd_SH 20 = (23, 10) from rfl, show fd_SH 19 = (1, 2) from rfl, show ∀ Mx : fd_M, fd_rf true Mx 19 0 = 20 from fun _ => rfl, fd_gf] <;> omega) ?_
  have e9 : fd_ls M 1 = M := by
    funext c k
    simp [fd_ls]
  have k9 := fd_l_lose M hs 9 1 (by omega) (by omega)
  rw [e9] at k9
  exact k9

def fd_psh (M : fd_M) : fd_M := fd_up (fd_cps M (M 20 (M 19 1).toNat).toNat 14) 19 1 (fd_cps M (M 20 (M 19 1).toNat).toNat 14 19 1 + 1)
def fd_push (M : fd_M) : fd_M := if M 19 1 = 10 then fd_psh (fd_lose M) else fd_psh M
theorem fd_HS_lose {M : fd_M} (h : fd_HS M) : fd_HS (fd_lose M) := by
  intro i hi
  by_cases h9 : i < 9
  · obtain ⟨j, hj, e⟩ := h (i + 1) (by omega)
    exact ⟨j, hj, by show (if 20 = 20 ∧ i < 9 then M 20 (i + 1) else _) = _; rw [if_pos ⟨rfl, h9⟩]; exact e⟩
  · obtain ⟨j, hj, e⟩ := h 0 (by omega)
    refine ⟨j, hj, ?_⟩
    show (if 20 = 20 ∧ i < 9 then M 20 (i + 1) else if 20 = 20 ∧ i = 9 then M 20 0 else _) = _
    rw [if_neg (fun q => h9 q.2), if_pos ⟨rfl, by omega⟩]
    exact e
theorem fd_f_push (M : fd_M) (hs : fd_HS M) (h19 : 0 ≤ M 19 1 ∧ M 19 1 ≤ 9) (h6 : 0 ≤ M 14 6 ∧ M 14 6 ≤ 1) (h7 : 0 ≤ M 14 7 ∧ M 14 7 ≤ 1) : fd_run 2 113 6 [fd_R 19, fd_R 14] [] M (none) (fd_psh M) := by
  obtain ⟨j, hj, ej⟩ := hs (M 19 1).toNat (by omega)
  have hsc : fd_scn (M 20 (M 19 1).toNat).toNat := by rw [ej]; exact fd_scn_h j hj
  refine fd_u_blk 6 (C := fd_c113) (b := (((fd_inb (M 19 1) 10 || fd_isA true M 20 24 (M 19 1)) && Nat.blt (M 20 (M 19 1).toNat).toNat 1000) && true)) (L' := [fd_R 19, fd_R 14]) (st' := [fd_R 14, fd_R ((M 20 (M 19 1).toNat).toNat)]) (M' := M) rfl rfl (j := 12) rfl (fd_bA (fd_bA (by rw [fd_bI (i := (M 19 1)) (n := 10) (by omega) (by omega)]; rfl) (by rw [Nat.blt_eq]; omega)) (rfl)) ?_
  refine fd_u_call (C := fd_c113) (d0 := 0) (mid := 143) (np := 2) (args := [fd_R ((M 20 (M 19 1).toNat).toNat), fd_R 14]) (r1 := none) (M1 := (fd_cps M (M 20 (M 19 1).toNat).toNat 14)) (st' := []) rfl rfl rfl rfl rfl rfl (by simp [fd_inv, fd_n1, fd_cw, fd_isO, fd_al, hsc.1, Nat.blt_eq, show fd_mc 143 = 5 from rfl]; omega) (fd_s_copyFrom M (M 20 (M 19 1).toNat).toNat 14 hsc fd_scn_n.1 (by omega) h6 h7) rfl (by omega) ?_
  refine fd_u_blk 6 (C := fd_c113) (b := true) (L' := [fd_R 19, fd_R 14]) (st' := []) (M' := (fd_up (fd_cps M (M 20 (M 19 1).toNat).toNat 14) 19 1 (((fd_cps M (M 20 (M 19 1).toNat).toNat 14) 19 1) + 1))) rfl rfl (j := 19) rfl (rfl) ?_
  refine fd_u_ret (C := fd_c113) (b := true) (r' := none) rfl rfl rfl (rfl) ?_ ?_
  · rfl
  · rfl

theorem fd_s_push (M : fd_M) (hs : fd_HS M) (h19 : 0 ≤ M 19 1 ∧ M 19 1 ≤ 10) (h6 : 0 ≤ M 14 6 ∧ M 14 6 ≤ 1) (h7 : 0 ≤ M 14 7 ∧ M 14 7 ≤ 1) : fd_call 2 113 [fd_R 19, fd_R 14] M (none) (fd_push M) := by
  refine fd_u_in (L := [fd_R 19, fd_R 14]) rfl ?_
  refine fd_u_blk 3 (C := fd_c113) (b := true) (L' := [fd_R 19, fd_R 14]) (st' := [fd_I 10, fd_I (M 19 1)]) (M' := M) rfl rfl (j := 3) rfl (rfl) ?_
  refine fd_u_br (C := fd_c113) (t := 6) (e := 4) (st' := []) (c := (M 19 1) < 10) (b := (fd_rng (M 19 1) && fd_rng 10)) rfl rfl rfl (fd_bA (fd_bR (by omega) (by omega)) (fd_bR (by omega) (by omega))) (fun h3 => ?_) (fun h3 => ?_)
  · rw [fd_push, if_neg (by omega)]
    exact fd_f_push M hs (by omega) h6 h7
  · refine fd_u_blk 1 (C := fd_c113) (b := true) (L' := [fd_R 19, fd_R 14]) (st' := [fd_R 19]) (M' := M) rfl rfl (j := 5) rfl (rfl) ?_
    refine fd_u_call (C := fd_c113) (d0 := 0) (mid := 114) (np := 1) (args := [fd_R 19]) (r1 := none) (M1 := (fd_lose M)) (st' := []) rfl rfl rfl rfl rfl rfl (rfl) (fd_s_loseOldest M hs) rfl (by omega) ?_
    rw [fd_push, if_pos (by omega)]
    exact fd_f_push (fd_lose M) (fd_HS_lose hs) (by simp [fd_lose]) (by simpa [fd_lose] using h6) (by simpa [fd_lose] using h7)

def fd_pop (M : fd_M) : fd_M := fd_cps (fd_up M 19 1 (M 19 1 - 1)) 14 (M 20 (M 19 1 - 1).toNat).toNat
theorem fd_s_pop (M : fd_M) (hs : fd_HS M) (h19 : 1 ≤ M 19 1 ∧ M 19 1 ≤ 10) (h6 : 0 ≤ M (M 20 (M 19 1 - 1).toNat).toNat 6 ∧ M (M 20 (M 19 1 - 1).toNat).toNat 6 ≤ 1) (h7 : 0 ≤ M (M 20 (M 19 1 - 1).toNat).toNat 7 ∧ M (M 20 (M 19 1 - 1).toNat).toNat 7 ≤ 1) : fd_call 2 115 [fd_R 19, fd_R 14] M (none) (fd_pop M) := by
  refine fd_u_in (L := [fd_R 19, fd_R 14]) rfl ?_
  obtain ⟨j, hj, ej⟩ := hs (M 19 1 - 1).toNat (by omega)
  have hsc : fd_scn (M 20 (M 19 1 - 1).toNat).toNat := by rw [ej]; exact fd_scn_h j hj
  have hb6 : (fd_up M 19 1 (M 19 1 - 1)) (M 20 (M 19 1 - 1).toNat).toNat 6 = M (M 20 (M 19 1 - 1).toNat).toNat 6 := by rw [fd_up_ne (by omega)]
  have hb7 : (fd_up M 19 1 (M 19 1 - 1)) (M 20 (M 19 1 - 1).toNat).toNat 7 = M (M 20 (M 19 1 - 1).toNat).toNat 7 := by rw [fd_up_ne (by omega)]
  refine fd_u_blk 2 (C := fd_c115) (b := true) (L' := [fd_R 19, fd_R 14]) (st' := [fd_I (M 19 1)]) (M' := M) rfl rfl (j := 2) rfl (rfl) ?_
  refine fd_u_br (C := fd_c115) (t := 16) (e := 3) (st' := []) (c := (M 19 1) ≤ 0) (b := (fd_rng (M 19 1))) rfl rfl rfl (fd_bR (by omega) (by omega)) (fun h2 => absurd h2 (by omega)) (fun h2 => ?_)
  refine fd_u_blk 12 (C := fd_c115) (b := (((fd_inb ((M 19 1) - 1) 10 || fd_isA true (fd_up M 19 1 ((M 19 1) - 1)) 20 24 ((M 19 1) - 1)) && Nat.blt (M 20 ((M 19 1) - 1).toNat).toNat 1000) && true)) (L' := [fd_R 19, fd_R 14]) (st' := [fd_R ((M 20 ((M 19 1) - 1).toNat).toNat), fd_R 14]) (M' := (fd_up M 19 1 ((M 19 1) - 1))) rfl rfl (j := 15) rfl (fd_bA (fd_bA (by rw [fd_bI (i := ((M 19 1) - 1)) (n := 10) (by omega) (by omega)]; rfl) (by rw [Nat.blt_eq]; omega)) (rfl)) ?_
  refine fd_u_call (C := fd_c115) (d0 := 0) (mid := 143) (np := 2) (args := [fd_R 14, fd_R ((M 20 ((M 19 1) - 1).toNat).toNat)]) (r1 := none) (M1 := (fd_cps (fd_up M 19 1 ((M 19 1) - 1)) 14 (M 20 ((M 19 1) - 1).toNat).toNat)) (st' := []) rfl rfl rfl rfl rfl rfl (by have e1 := hsc.2.2.2.2.2; simp only [fd_inv, fd_n1, fd_cw, fd_isO, fd_al, List.take_succ_cons, List.take_zero, List.drop_succ_cons, List.drop_zero, List.all_cons, List.all_nil, List.reverse_cons, List.reverse_nil, List.nil_append, List.singleton_append, List.length_cons, List.length_nil, List.map_nil, List.sum_nil, show Nat.blt (M 20 ((M 19 1) - 1).toNat).toNat 1000 = true by rw [Nat.blt_eq]; omega]; rfl) (fd_s_copyFrom (fd_up M 19 1 ((M 19 1) - 1)) 14 (M 20 ((M 19 1) - 1).toNat).toNat fd_scn_n.1 hsc (by omega) (by rw [hb6]; exact h6) (by rw [hb7]; exact h7)) rfl (by omega) ?_
  refine fd_u_ret (C := fd_c115) (b := true) (r' := none) rfl rfl rfl (rfl) ?_ ?_
  · rfl
  · rfl


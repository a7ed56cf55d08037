/-! the class: quarter -/
def fd_qp (K : fd_M) : fd_M := fun c k => if c = 3 ∧ k < 5 then K 8 k else if c = 4 ∧ k < 49 then K 9 k else if c = 5 ∧ k < 6 then K 10 k else if c = 6 ∧ k < 6 then K 11 k else if c = 7 ∧ k < 6 then K 12 k else K c k
theorem fd_qp_eq (K : fd_M) : fd_cp (fd_cp (fd_cp (fd_cp (fd_up (fd_up (fd_up (fd_up (fd_up K 3 0 (K 8 0)) 3 1 (K 8 1)) 3 2 (K 8 2)) 3 3 (K 8 3)) 3 4 (K 8 4)) 9 0 4 0 49) 10 0 5 0 6) 11 0 6 0 6) 12 0 7 0 6 = fd_qp K := by
  funext c k
  unfold fd_cp fd_up fd_qp
  by_cases h3 : c = 3
  · subst h3
    by_cases k0 : k = 0
    · subst k0; simp
    by_cases k1 : k = 1
    · subst k1; simp
    by_cases k2 : k = 2
    · subst k2; simp
    by_cases k3 : k = 3
    · subst k3; simp
    by_cases k4 : k = 4
    · subst k4; simp
    simp [k0, k1, k2, k3, k4]
    omega
  · by_cases h4 : c = 4
    · subst h4; simp
    · by_cases h5 : c = 5
      · subst h5; simp
      · by_cases h6 : c = 6
        · subst h6; simp
        · by_cases h7 : c = 7
          · subst h7; simp
          · simp [h3, h4, h5, h6, h7]
def fd_qb (K : fd_M) (j : Nat) : fd_M := fun c k => if c = 15 ∧ k < j then K 5 k else if c = 16 ∧ k < j then K 6 k else if c = 17 ∧ k < j then K 7 k else if c = 18 ∧ k < j then 0 else K c k
theorem fd_qb_0 (K : fd_M) : fd_qb K 0 = K := by
  funext c k
  unfold fd_qb
  rw [if_neg (by omega), if_neg (by omega), if_neg (by omega), if_neg (by omega)]
theorem fd_qb_fr {K : fd_M} {j c : Nat} (h : c < 15 ∨ 19 ≤ c) : fd_qb K j c = K c := by
  funext k
  unfold fd_qb
  rw [if_neg (by omega), if_neg (by omega), if_neg (by omega), if_neg (by omega)]
theorem fd_qb_S (K : fd_M) (j : Nat) : fd_up (fd_up (fd_up (fd_up (fd_qb K j) 15 j (K 5 j)) 16 j (K 6 j)) 17 j (K 7 j)) 18 j 0 = fd_qb K (j + 1) := by
  funext c k
  unfold fd_up fd_qb
  by_cases h5 : c = 15
  · subst h5
    by_cases hk : k = j
    · subst hk; simp
    · have e : (k < j + 1) = (k < j) := by simp; omega
      simp [hk, e]
  · by_cases h6 : c = 16
    · subst h6
      by_cases hk : k = j
      · subst hk; simp
      · have e : (k < j + 1) = (k < j) := by simp; omega
        simp [hk, e]
    · by_cases h7 : c = 17
      · subst h7
        by_cases hk : k = j
        · subst hk; simp
        · have e : (k < j + 1) = (k < j) := by simp; omega
          simp [hk, e]
      · by_cases h8 : c = 18
        · subst h8
          by_cases hk : k = j
          · subst hk; simp
          · have e : (k < j + 1) = (k < j) := by simp; omega
            simp [hk, e]
        · simp [h5, h6, h7, h8]
def fd_qs (K : fd_M) : fd_M := fd_up (fd_up (fd_up (fd_up (fd_qb K 6) 14 4 (2 ^ (K 3 2).toNat - 1)) 14 5 0) 14 6 1) 14 7 0
def fd_qall (K : fd_M) : fd_M := fd_up (fd_up (fd_up (fd_up (fd_qs (fd_qp (fd_up K 1 1 0))) 19 1 0) 78 2 0) 83 2 0) 141 2 0
theorem fd_p_copyFrom (M : fd_M) : fd_call 0 122 [fd_R 3, fd_R 8] M (none) (fd_qp M) := by
  refine fd_u_in (L := [fd_R 3, fd_R 8]) rfl ?_
  refine fd_u_blk 52 (C := fd_c122) (b := true) (L' := [fd_R 3, fd_R 8]) (st' := []) (M' := (fd_cp (fd_cp (fd_cp (fd_cp (fd_up (fd_up (fd_up (fd_up (fd_up M 3 0 (M 8 0)) 3 1 (M 8 1)) 3 2 (M 8 2)) 3 3 (M 8 3)) 3 4 (M 8 4)) 9 0 4 0 49) 10 0 5 0 6) 11 0 6 0 6) 12 0 7 0 6)) rfl rfl (j := 52) rfl (rfl) ?_
  refine fd_u_ret (C := fd_c122) (b := true) (r' := none) rfl rfl rfl (rfl) ?_ ?_
  · rfl
  · exact fd_qp_eq M

theorem fd_f_begin (K : fd_M) (h2 : 0 ≤ K 3 2 ∧ K 3 2 ≤ 6) (u : fd_V) : fd_run 1 142 36 [fd_R 14, fd_R 3, u] [] (fd_qb K 6) (none) (fd_qs K) := by
  refine fd_u_blk 3 (C := fd_c142) (b := true) (L' := [fd_R 14, fd_R 3, u]) (st' := [fd_I (K 3 2), fd_R 14]) (M' := (fd_qb K 6)) rfl rfl (j := 39) rfl (rfl) ?_
  refine fd_u_call (C := fd_c142) (d0 := 0) (mid := 45) (np := 1) (args := [fd_I (K 3 2)]) (r1 := some (fd_I (2 ^ (K 3 2).toNat))) (M1 := (fd_qb K 6)) (st' := [fd_I (2 ^ (K 3 2).toNat), fd_R 14]) rfl rfl rfl rfl rfl rfl (rfl) (by have z := fd_s_bitOf (fd_qb K 6) (K 3 2) (by omega); rw [if_neg (show ¬ K 3 2 = -1 by omega)] at z; exact z) rfl (by omega) ?_
  refine fd_u_blk 12 (C := fd_c142) (b := true) (L' := [fd_R 14, fd_R 3, u]) (st' := []) (M' := (fd_up (fd_up (fd_up (fd_up (fd_qb K 6) 14 4 ((2 ^ (K 3 2).toNat) - 1)) 14 5 0) 14 6 1) 14 7 0)) rfl rfl (j := 52) rfl (rfl) ?_
  refine fd_u_ret (C := fd_c142) (b := true) (r' := none) rfl rfl rfl (rfl) ?_ ?_
  · rfl
  · rfl

theorem fd_l_begin (K : fd_M) (h2 : 0 ≤ K 3 2 ∧ K 3 2 ≤ 6) : ∀ (n : Nat) (k : Nat) (hk : k + n = 6), fd_run 1 142 2 [fd_R 14, fd_R 3, fd_I ((k : Nat) : Int)] [] (fd_qb K k) (none) (fd_qs K) := by
  intro n
  induction n with
  | zero =>
    intro k hk
    have hB : ∀ (q0 : Int), fd_bl 2 (List.drop 2 fd_c142) [fd_R 14, fd_R 3, fd_I q0] [] (fd_qb K k) = some (true, [fd_R 14, fd_R 3, fd_I q0], [fd_I 6, fd_I q0], (fd_qb K k)) := fun _ => rfl
    refine fd_u_blk 2 (C := fd_c142) (b := true) (L' := [fd_R 14, fd_R 3, fd_I ((k : Nat) : Int)]) (st' := [fd_I 6, fd_I ((k : Nat) : Int)]) (M' := (fd_qb K k)) rfl (hB ((k : Nat) : Int)) (j := 4) rfl (rfl) ?_
    clear hB
    refine fd_u_br (C := fd_c142) (t := 36) (e := 5) (st' := []) (c := 6 ≤ ((k : Nat) : Int)) (b := (fd_rng ((k : Nat) : Int) && fd_rng 6)) rfl rfl rfl (fd_bA (fd_bR (by omega) (by omega)) (fd_bR (by omega) (by omega))) (fun h4 => ?_) (fun h4 => absurd h4 (by omega))
    have e : k = 6 := by omega
    subst e
    exact fd_f_begin K h2 _
  | succ n ih =>
    intro k hk
    have hB : ∀ (q0 : Int), fd_bl 2 (List.drop 2 fd_c142) [fd_R 14, fd_R 3, fd_I q0] [] (fd_qb K k) = some (true, [fd_R 14, fd_R 3, fd_I q0], [fd_I 6, fd_I q0], (fd_qb K k)) := fun _ => rfl
    refine fd_u_blk 2 (C := fd_c142) (b := true) (L' := [fd_R 14, fd_R 3, fd_I ((k : Nat) : Int)]) (st' := [fd_I 6, fd_I ((k : Nat) : Int)]) (M' := (fd_qb K k)) rfl (hB ((k : Nat) : Int)) (j := 4) rfl (rfl) ?_
    clear hB
    refine fd_u_br (C := fd_c142) (t := 36) (e := 5) (st' := []) (c := 6 ≤ ((k : Nat) : Int)) (b := (fd_rng ((k : Nat) : Int) && fd_rng 6)) rfl rfl rfl (fd_bA (fd_bR (by omega) (by omega)) (fd_bR (by omega) (by omega))) (fun h4 => absurd h4 (by omega)) (fun h4 => ?_)
    have hB : ∀ (q0 : Int), fd_bl 30 (List.drop 5 fd_c142) [fd_R 14, fd_R 3, fd_I q0] [] (fd_qb K k) = some ((fd_inb q0 6 && (fd_inb q0 6 && (fd_inb q0 6 && (fd_inb q0 6 && (fd_inb q0 6 && (fd_inb q0 6 && (fd_inb q0 6 && true))))))), [fd_R 14, fd_R 3, fd_I (q0 + 1)], [], (fd_up (fd_up (fd_up (fd_up (fd_qb K k) 15 (q0).toNat ((fd_qb K k) 5 (q0).toNat)) 16 (q0).toNat ((fd_qb K k) 6 (q0).toNat)) 17 (q0).toNat ((fd_qb K k) 7 (q0).toNat)) 18 (q0).toNat 0)) := fun _ => rfl
    refine fd_u_blk 30 (C := fd_c142) (b := (fd_inb ((k : Nat) : Int) 6 && (fd_inb ((k : Nat) : Int) 6 && (fd_inb ((k : Nat) : Int) 6 && (fd_inb ((k : Nat) : Int) 6 && (fd_inb ((k : Nat) : Int) 6 && (fd_inb ((k : Nat) : Int) 6 && (fd_inb ((k : Nat) : Int) 6 && true)))))))) (L' := [fd_R 14, fd_R 3, fd_I (((k + 1) : Nat) : Int)]) (st' := []) (M' := (fd_up (fd_up (fd_up (fd_up (fd_qb K k) 15 k ((fd_qb K k) 5 k)) 16 k ((fd_qb K k) 6 k)) 17 k ((fd_qb K k) 7 k)) 18 k 0)) rfl (hB ((k : Nat) : Int)) (j := 35) rfl (fd_bA (fd_bI (by omega) (by omega)) (fd_bA (fd_bI (by omega) (by omega)) (fd_bA (fd_bI (by omega) (by omega)) (fd_bA (fd_bI (by omega) (by omega)) (fd_bA (fd_bI (by omega) (by omega)) (fd_bA (fd_bI (by omega) (by omega)) (fd_bA (fd_bI (by omega) (by omega)) (rfl)))))))) ?_
    clear hB
    refine fd_u_jmp (C := fd_c142) (j := 2) (st' := []) rfl rfl (b := true) rfl rfl ?_
    have e5 : fd_qb K k 5 k = K 5 k := by rw [fd_qb_fr (by omega)]
    have e6 : fd_qb K k 6 k = K 6 k := by rw [fd_qb_fr (by omega)]
    have e7 : fd_qb K k 7 k = K 7 k := by rw [fd_qb_fr (by omega)]
    rw [e5, e6, e7, fd_qb_S]
    exact ih (k + 1) (by omega)

theorem fd_p_begin (K : fd_M) (h2 : 0 ≤ K 3 2 ∧ K 3 2 ≤ 6) : fd_call 1 142 [fd_R 14, fd_R 3] K (none) (fd_qs K) := by
  refine fd_u_in (L := [fd_R 14, fd_R 3, fd_R 1003]) rfl ?_
  refine fd_u_blk 2 (C := fd_c142) (b := true) (L' := [fd_R 14, fd_R 3, fd_I 0]) (st' := []) (M' := K) rfl rfl (j := 2) rfl (rfl) ?_
  have z := fd_l_begin K h2 6 0 (by omega)
  rw [fd_qb_0] at z
  exact z


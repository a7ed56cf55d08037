/-! the reference: bills, undo, now, the text, what was told, marks, images -/
def fd_rbl (M : fd_M) (k : Nat) : fd_M := fun c j => if c = 208 ∧ 15 ≤ j ∧ j < 15 + k then (if 9999 < M 208 j + fd_dR M (j - 15) then 9999 else M 208 j + fd_dR M (j - 15)) else M c j
theorem fd_rbl_fr {M : fd_M} {k c : Nat} (h : c ≠ 208) : fd_rbl M k c = M c := by
  funext j
  unfold fd_rbl
  rw [if_neg (fun q => h q.1)]
theorem fd_rbl_out {M : fd_M} {k j : Nat} (h : j < 15 ∨ 15 + k ≤ j) : fd_rbl M k 208 j = M 208 j := by
  unfold fd_rbl
  rw [if_neg (by omega)]
theorem fd_rbl_0 (M : fd_M) : fd_rbl M 0 = M := by
  funext c j
  unfold fd_rbl
  rw [if_neg (by omega)]
theorem fd_rbl_S (M : fd_M) (k : Nat) : fd_up (fd_rbl M k) 208 (15 + k) (if 9999 < M 208 (15 + k) + fd_dR M k then 9999 else M 208 (15 + k) + fd_dR M k) = fd_rbl M (k + 1) := by
  funext c j
  unfold fd_up fd_rbl
  by_cases h : c = 208 ∧ j = 15 + k
  · obtain ⟨rfl, rfl⟩ := h
    rw [if_pos ⟨rfl, rfl⟩, if_pos (show 208 = 208 ∧ 15 ≤ 15 + k ∧ 15 + k < 15 + (k + 1) by omega), show 15 + k - 15 = k by omega]
  · rw [if_neg h]
    by_cases h2 : c = 208 ∧ 15 ≤ j ∧ j < 15 + k
    · rw [if_pos h2, if_pos (show c = 208 ∧ 15 ≤ j ∧ j < 15 + (k + 1) by omega)]
    · rw [if_neg h2, if_neg (show ¬ (c = 208 ∧ 15 ≤ j ∧ j < 15 + (k + 1)) by omega)]
theorem fd_cvR_of {M N : fd_M} (e1 : N 201 = M 201) (e2 : N 202 = M 202) (e3 : N 203 = M 203) (e4 : N 204 = M 204) (hD : M 204 0 ≤ 6) (h1 : ∀ d, d < 6 → N 208 d = M 208 d) (h2 : ∀ y, 21 ≤ y → y < 28 → N 208 y = M 208 y) (h7 : M 202 0 ≤ 7) : fd_cvR N = fd_cvR M := by
  have hdp : ∀ (p : Int) (n k : Nat), k + n ≤ 6 → fd_dp (N 208) p n k = fd_dp (M 208) p n k := by
    intro p n
    induction n with
    | zero => intro k _; rfl
    | succ n ih =>
      intro k hk
      unfold fd_dp
      rw [h1 k (by omega), ih (k + 1) (by omega)]
  funext x y
  unfold fd_cvR fd_dpR
  rw [e1, e2, e3, e4]
  by_cases h : 0 ≤ x ∧ x < M 201 0 ∧ 0 ≤ y ∧ y < M 202 0
  · rw [if_pos h, if_pos h, hdp _ _ _ (by omega), h2 (21 + y.toNat) (by omega) (by omega)]
  · rw [if_neg h, if_neg h]
theorem fd_wR_of {M N : fd_M} (hc : fd_cvR N = fd_cvR M) (e7 : N 207 = M 207) (h13 : N 208 13 = M 208 13) {d : Nat} (hd : N 208 d = M 208 d) (w : Int) : fd_wR N d w = fd_wR M d w := by
  unfold fd_wR
  rw [hc, e7, h13, hd]
theorem fd_sR_of {M N : fd_M} (hc : fd_cvR N = fd_cvR M) (e7 : N 207 = M 207) (h13 : N 208 13 = M 208 13) {d : Nat} (hd : N 208 d = M 208 d) (e9 : N 199 19 = M 199 19) (e20 : N 199 20 = M 199 20) (ew : N 210 = M 210) : fd_sR N d = fd_sR M d := by
  unfold fd_sR
  rw [e9, e20, ew, fd_wR_of hc e7 h13 hd]
theorem fd_dR_of {M N : fd_M} (hc : fd_cvR N = fd_cvR M) (e7 : N 207 = M 207) (h13 : N 208 13 = M 208 13) {d : Nat} (hd : N 208 d = M 208 d) (e9 : N 199 19 = M 199 19) (e20 : N 199 20 = M 199 20) (ew : N 210 = M 210) : fd_dR N d = fd_dR M d := by
  unfold fd_dR
  rw [e7, ew, fd_sR_of hc e7 h13 hd e9 e20 ew]
theorem fd_rbl_cv {M : fd_M} (hP : fd_RP M) {k : Nat} (hk : k ≤ 6) : fd_cvR (fd_rbl M k) = fd_cvR M := fd_cvR_of (fd_rbl_fr (by decide)) (fd_rbl_fr (by decide)) (fd_rbl_fr (by decide)) (fd_rbl_fr (by decide)) hP.2.2.1.2 (fun d hd => fd_rbl_out (by omega)) (fun y h1 h2 => fd_rbl_out (by omega)) hP.2.1.2
theorem fd_rbl_dR {M : fd_M} (hP : fd_RP M) {k d : Nat} (hk : k ≤ 6) (hd : d < 6) : fd_dR (fd_rbl M k) d = fd_dR M d :=
  fd_dR_of (fd_rbl_cv hP hk) (fd_rbl_fr (by decide)) (fd_rbl_out (by omega)) (fd_rbl_out (by omega)) (by rw [fd_rbl_fr (by decide)]) (by rw [fd_rbl_fr (by decide)]) (fd_rbl_fr (by decide))
theorem fd_RP_rbl {M : fd_M} (h : fd_RP M) (k : Nat) : fd_RP (fd_rbl M k) := fd_RP_of h (fd_rbl_fr (by decide)) (fd_rbl_fr (by decide)) (fd_rbl_fr (by decide)) (fd_rbl_fr (by decide)) (fd_rbl_fr (by decide))
theorem fd_RW_rbl {M : fd_M} (h : fd_RW M) (k : Nat) : fd_RW (fd_rbl M k) := by
  unfold fd_RW at h ⊢
  rw [fd_rbl_fr (c := 204) (by decide), fd_rbl_fr (c := 210) (by decide), fd_rbl_fr (c := 199) (by decide)]
  exact h
theorem fd_RS_rbl {M : fd_M} (hP : fd_RP M) (h : fd_RS M) {k : Nat} (hk : k ≤ 6) (hk2 : (k : Int) ≤ M 204 0) : fd_RS (fd_rbl M k) := by
  have hD := hP.2.2.1
  obtain ⟨s1, s2, s3, s4, s5, s6⟩ := h
  refine ⟨fun d hd => ?_, fun y hy => ?_, ?_, ?_, ?_, ?_⟩
  · rw [fd_rbl_fr (by decide)] at hd
    have q := s1 d hd
    rw [fd_rbl_out (j := d) (by omega), fd_rbl_out (j := 6 + d) (by omega)]
    refine ⟨q.1, q.2.1, ?_⟩
    unfold fd_rbl
    by_cases hh : 208 = 208 ∧ 15 ≤ 15 + d ∧ 15 + d < 15 + k
    · rw [if_pos hh, show 15 + d - 15 = d by omega]
      have qd := fd_due_rng (wy := M 210) hP.2.2.2.1 (fd_sR M d) d
      have q3 : 0 ≤ fd_dR M d ∧ fd_dR M d ≤ 18 := qd
      split <;> omega
    · rw [if_neg hh]
      exact q.2.2
  · rw [fd_rbl_out (by omega)]; exact s2 y hy
  · rw [fd_rbl_out (by omega)]; exact s3
  · rw [fd_rbl_out (by omega)]; exact s4
  · rw [fd_rbl_out (by omega)]; exact s5
  · rw [fd_rbl_out (by omega)]; exact s6
theorem fd_l_rbills (M : fd_M) (hP : fd_RP M) (hS : fd_RS M) (hW : fd_RW M) : ∀ (n : Nat) (k : Nat) (u : fd_V) (hk : (k : Int) + n = M 204 0), fd_run 6 91 6 [fd_R 199, fd_I ((k : Nat) : Int), u] [] (fd_rbl M k) (some (fd_I (fd_sum (fd_dR M) (M 204 0).toNat))) (fd_rbl M (M 204 0).toNat) := by
  obtain ⟨g0, g1, g2, g3, g4, g5⟩ := id hP
  obtain ⟨s1, s2, s3, s4, s5, s6⟩ := id hS
  intro n
  induction n with
  | zero =>
    intro k u hk
    have e4 : (fd_rbl M k) 204 0 = M 204 0 := by rw [fd_rbl_fr (by decide)]
    have e15 : (fd_rbl M k) 208 (15 + k) = M 208 (15 + k) := fd_rbl_out (by omega)
    have hB : ∀ (q0 : Int), fd_bl 5 (List.drop 6 fd_c91) [fd_R 199, fd_I q0, u] [] (fd_rbl M k) = some (true, [fd_R 199, fd_I q0, u], [fd_I ((fd_rbl M k) 204 0), fd_I q0], (fd_rbl M k)) := fun _ => rfl
    refine fd_u_blk 5 (C := fd_c91) (b := true) (L' := [fd_R 199, fd_I ((k : Nat) : Int), u]) (st' := [fd_I ((fd_rbl M k) 204 0), fd_I ((k : Nat) : Int)]) (M' := (fd_rbl M k)) rfl (hB ((k : Nat) : Int)) (j := 11) rfl (rfl) ?_
    clear hB
    refine fd_u_br (C := fd_c91) (t := 37) (e := 12) (st' := []) (c := ((fd_rbl M k) 204 0) ≤ ((k : Nat) : Int)) (b := (fd_rng ((k : Nat) : Int) && fd_rng ((fd_rbl M k) 204 0))) rfl rfl rfl (fd_bA (fd_bR (by omega) (by omega)) (fd_bR (by omega) (by omega))) (fun h11 => ?_) (fun h11 => absurd h11 (by omega))
    have hB : ∀ (q0 : Int), fd_bl 1 (List.drop 37 fd_c91) [fd_R 199, fd_I q0, u] [] (fd_rbl M k) = some (true, [fd_R 199, fd_I q0, u], [fd_R 199], (fd_rbl M k)) := fun _ => rfl
    refine fd_u_blk 1 (C := fd_c91) (b := true) (L' := [fd_R 199, fd_I ((k : Nat) : Int), u]) (st' := [fd_R 199]) (M' := (fd_rbl M k)) rfl (hB ((k : Nat) : Int)) (j := 38) rfl (rfl) ?_
    clear hB
    refine fd_u_call (C := fd_c91) (d0 := 5) (mid := 77) (np := 1) (args := [fd_R 199]) (r1 := some (fd_I (fd_sum (fd_dR (fd_rbl M k)) ((fd_rbl M k) 204 0).toNat))) (M1 := (fd_rbl M k)) (st' := [fd_I (fd_sum (fd_dR (fd_rbl M k)) ((fd_rbl M k) 204 0).toNat)]) rfl rfl rfl rfl rfl rfl (rfl) (fd_r_dues (fd_rbl M k) (fd_RP_rbl hP k) (fd_RS_rbl hP hS (by omega) (by omega)) (fd_RW_rbl hW k)) rfl (by omega) ?_
    refine fd_u_ret (C := fd_c91) (b := true) (r' := some (fd_I (fd_sum (fd_dR (fd_rbl M k)) ((fd_rbl M k) 204 0).toNat))) rfl rfl rfl (rfl) ?_ ?_
    · rw [e4, show (M 204 0).toNat = k by omega]
      congr 2
      exact fd_sum_congr k (fun j hj => fd_rbl_dR hP (by omega) (by omega))
    · rw [show (M 204 0).toNat = k by omega]
  | succ n ih =>
    intro k u hk
    have qs := (s1 k (by omega)).2.2
    have e4 : (fd_rbl M k) 204 0 = M 204 0 := by rw [fd_rbl_fr (by decide)]
    have e15 : (fd_rbl M k) 208 (15 + k) = M 208 (15 + k) := fd_rbl_out (by omega)
    have hB : ∀ (q0 : Int), fd_bl 5 (List.drop 6 fd_c91) [fd_R 199, fd_I q0, u] [] (fd_rbl M k) = some (true, [fd_R 199, fd_I q0, u], [fd_I ((fd_rbl M k) 204 0), fd_I q0], (fd_rbl M k)) := fun _ => rfl
    refine fd_u_blk 5 (C := fd_c91) (b := true) (L' := [fd_R 199, fd_I ((k : Nat) : Int), u]) (st' := [fd_I ((fd_rbl M k) 204 0), fd_I ((k : Nat) : Int)]) (M' := (fd_rbl M k)) rfl (hB ((k : Nat) : Int)) (j := 11) rfl (rfl) ?_
    clear hB
    refine fd_u_br (C := fd_c91) (t := 37) (e := 12) (st' := []) (c := ((fd_rbl M k) 204 0) ≤ ((k : Nat) : Int)) (b := (fd_rng ((k : Nat) : Int) && fd_rng ((fd_rbl M k) 204 0))) rfl rfl rfl (fd_bA (fd_bR (by omega) (by omega)) (fd_bR (by omega) (by omega))) (fun h11 => absurd h11 (by omega)) (fun h11 => ?_)
    have hB : ∀ (q0 : Int), fd_bl 6 (List.drop 12 fd_c91) [fd_R 199, fd_I q0, u] [] (fd_rbl M k) = some ((fd_isA true (fd_rbl M k) 208 20 (15 + q0) && true), [fd_R 199, fd_I q0, u], [fd_I ((fd_rbl M k) 208 (15 + q0).toNat)], (fd_rbl M k)) := fun _ => rfl
    refine fd_u_blk 6 (C := fd_c91) (b := (fd_isA true (fd_rbl M k) 208 20 (15 + ((k : Nat) : Int)) && true)) (L' := [fd_R 199, fd_I ((k : Nat) : Int), u]) (st' := [fd_I ((fd_rbl M k) 208 (15 + ((k : Nat) : Int)).toNat)]) (M' := (fd_rbl M k)) rfl (hB ((k : Nat) : Int)) (j := 18) rfl (fd_bA (fd_iA fd_sh208 (by omega) (by omega)) (rfl)) ?_
    clear hB
    rw [show (15 + ((k : Nat) : Int)).toNat = 15 + k by omega]
    have hB : ∀ (q0 : Int), fd_bl 2 (List.drop 18 fd_c91) [fd_R 199, fd_I q0, u] [fd_I ((fd_rbl M k) 208 (15 + k))] (fd_rbl M k) = some (true, [fd_R 199, fd_I q0, u], [fd_I q0, fd_R 199, fd_I ((fd_rbl M k) 208 (15 + k))], (fd_rbl M k)) := fun _ => rfl
    refine fd_u_blk 2 (C := fd_c91) (b := true) (L' := [fd_R 199, fd_I ((k : Nat) : Int), u]) (st' := [fd_I ((k : Nat) : Int), fd_R 199, fd_I ((fd_rbl M k) 208 (15 + k))]) (M' := (fd_rbl M k)) rfl (hB ((k : Nat) : Int)) (j := 20) rfl (rfl) ?_
    clear hB
    refine fd_u_call (C := fd_c91) (d0 := 4) (mid := 76) (np := 2) (args := [fd_R 199, fd_I ((k : Nat) : Int)]) (r1 := some (fd_I (fd_dR M k))) (M1 := (fd_rbl M k)) (st' := [fd_I (fd_dR M k), fd_I ((fd_rbl M k) 208 (15 + k))]) rfl rfl rfl rfl rfl rfl (rfl) (by rw [← fd_rbl_dR hP (k := k) (d := k) (by omega) (by omega)]; exact fd_r_dueOf (fd_rbl M k) (fd_RP_rbl hP k) (fd_RS_rbl hP hS (by omega) (by omega)) (fd_RW_rbl hW k) k (by omega)) rfl (by omega) ?_
    have qo : 0 ≤ fd_dR M k ∧ fd_dR M k ≤ 18 := fd_due_rng (wy := M 210) hP.2.2.2.1 (fd_sR M k) k
    have hB : ∀ (q0 : Int), fd_bl 9 (List.drop 21 fd_c91) [fd_R 199, fd_I q0, u] [fd_I (fd_dR M k), fd_I ((fd_rbl M k) 208 (15 + k))] (fd_rbl M k) = some (true, [fd_R 199, fd_I q0, fd_I (((fd_rbl M k) 208 (15 + k)) + (fd_dR M k))], [fd_I 9999, fd_I (((fd_rbl M k) 208 (15 + k)) + (fd_dR M k)), fd_I (15 + q0), fd_R 208], (fd_rbl M k)) := fun _ => rfl
    refine fd_u_blk 9 (C := fd_c91) (b := true) (L' := [fd_R 199, fd_I ((k : Nat) : Int), fd_I (((fd_rbl M k) 208 (15 + k)) + (fd_dR M k))]) (st' := [fd_I 9999, fd_I (((fd_rbl M k) 208 (15 + k)) + (fd_dR M k)), fd_I (15 + ((k : Nat) : Int)), fd_R 208]) (M' := (fd_rbl M k)) rfl (hB ((k : Nat) : Int)) (j := 30) rfl (rfl) ?_
    clear hB
    refine fd_u_br (C := fd_c91) (t := 33) (e := 31) (st' := [fd_I (15 + ((k : Nat) : Int)), fd_R 208]) (c := (((fd_rbl M k) 208 (15 + k)) + (fd_dR M k)) ≤ 9999) (b := (fd_rng (((fd_rbl M k) 208 (15 + k)) + (fd_dR M k)) && fd_rng 9999)) rfl rfl rfl (fd_bA (fd_bR (by omega) (by omega)) (fd_bR (by omega) (by omega))) (fun h30 => ?_) (fun h30 => ?_)
    · have hB : ∀ (q0 : Int) (q1 : Int), fd_bl 3 (List.drop 33 fd_c91) [fd_R 199, fd_I q0, fd_I (((fd_rbl M k) 208 (15 + k)) + (fd_dR M k))] [fd_I q1, fd_R 208] (fd_rbl M k) = some ((fd_isA true (fd_rbl M k) 208 20 q1 && true), [fd_R 199, fd_I (q0 + 1), fd_I (((fd_rbl M k) 208 (15 + k)) + (fd_dR M k))], [], (fd_up (fd_rbl M k) 208 (q1).toNat (((fd_rbl M k) 208 (15 + k)) + (fd_dR M k)))) := fun _ _ => rfl
      refine fd_u_blk 3 (C := fd_c91) (b := (fd_isA true (fd_rbl M k) 208 20 (15 + ((k : Nat) : Int)) && true)) (L' := [fd_R 199, fd_I (((k + 1) : Nat) : Int), fd_I (((fd_rbl M k) 208 (15 + k)) + (fd_dR M k))]) (st' := []) (M' := (fd_up (fd_rbl M k) 208 (15 + ((k : Nat) : Int)).toNat (((fd_rbl M k) 208 (15 + k)) + (fd_dR M k)))) rfl (hB ((k : Nat) : Int) (15 + ((k : Nat) : Int))) (j := 36) rfl (fd_bA (fd_iA fd_sh208 (by omega) (by omega)) (rfl)) ?_
      clear hB
      rw [show (15 + ((k : Nat) : Int)).toNat = 15 + k by omega]
      refine fd_u_jmp (C := fd_c91) (j := 6) (st' := []) rfl rfl (b := true) rfl rfl ?_
      have e5 : (if 9999 < M 208 (15 + k) + fd_dR M k then 9999 else M 208 (15 + k) + fd_dR M k) = (((fd_rbl M k) 208 (15 + k)) + (fd_dR M k)) := by
        rw [e15] at *
        first | rw [if_pos (by omega)] | rw [if_neg (by omega)]
      rw [← e5, fd_rbl_S]
      exact ih (k + 1) _ (by omega)
    · have hB : ∀ (q0 : Int) (q1 : Int), fd_bl 1 (List.drop 31 fd_c91) [fd_R 199, fd_I q0, fd_I (((fd_rbl M k) 208 (15 + k)) + (fd_dR M k))] [fd_I q1, fd_R 208] (fd_rbl M k) = some (true, [fd_R 199, fd_I q0, fd_I (((fd_rbl M k) 208 (15 + k)) + (fd_dR M k))], [fd_I 9999, fd_I q1, fd_R 208], (fd_rbl M k)) := fun _ _ => rfl
      refine fd_u_blk 1 (C := fd_c91) (b := true) (L' := [fd_R 199, fd_I ((k : Nat) : Int), fd_I (((fd_rbl M k) 208 (15 + k)) + (fd_dR M k))]) (st' := [fd_I 9999, fd_I (15 + ((k : Nat) : Int)), fd_R 208]) (M' := (fd_rbl M k)) rfl (hB ((k : Nat) : Int) (15 + ((k : Nat) : Int))) (j := 32) rfl (rfl) ?_
      clear hB
      refine fd_u_jmp (C := fd_c91) (j := 34) (st' := [fd_I 9999, fd_I (15 + ((k : Nat) : Int)), fd_R 208]) rfl rfl (b := true) rfl rfl ?_
      have hB : ∀ (q0 : Int) (q1 : Int), fd_bl 2 (List.drop 34 fd_c91) [fd_R 199, fd_I q0, fd_I (((fd_rbl M k) 208 (15 + k)) + (fd_dR M k))] [fd_I 9999, fd_I q1, fd_R 208] (fd_rbl M k) = some ((fd_isA true (fd_rbl M k) 208 20 q1 && true), [fd_R 199, fd_I (q0 + 1), fd_I (((fd_rbl M k) 208 (15 + k)) + (fd_dR M k))], [], (fd_up (fd_rbl M k) 208 (q1).toNat 9999)) := fun _ _ => rfl
      refine fd_u_blk 2 (C := fd_c91) (b := (fd_isA true (fd_rbl M k) 208 20 (15 + ((k : Nat) : Int)) && true)) (L' := [fd_R 199, fd_I (((k + 1) : Nat) : Int), fd_I (((fd_rbl M k) 208 (15 + k)) + (fd_dR M k))]) (st' := []) (M' := (fd_up (fd_rbl M k) 208 (15 + ((k : Nat) : Int)).toNat 9999)) rfl (hB ((k : Nat) : Int) (15 + ((k : Nat) : Int))) (j := 36) rfl (fd_bA (fd_iA fd_sh208 (by omega) (by omega)) (rfl)) ?_
      clear hB
      rw [show (15 + ((k : Nat) : Int)).toNat = 15 + k by omega]
      refine fd_u_jmp (C := fd_c91) (j := 6) (st' := []) rfl rfl (b := true) rfl rfl ?_
      have e5 : (if 9999 < M 208 (15 + k) + fd_dR M k then 9999 else M 208 (15 + k) + fd_dR M k) = 9999 := by
        rw [e15] at *
        first | rw [if_pos (by omega)] | rw [if_neg (by omega)]
      rw [← e5, fd_rbl_S]
      exact ih (k + 1) _ (by omega)

def fd_B_bills (M : fd_M) : fd_M := fd_rbl (fd_tak (fd_know M)) (M 204 0).toNat
def fd_A_bills (M : fd_M) : Int := fd_sum (fd_dR (fd_tak (fd_know M))) (M 204 0).toNat
theorem fd_r_bills (M : fd_M) (hP : fd_RP M) (hS : fd_RS M) : fd_call 6 91 [fd_R 199] M (some (fd_I (fd_A_bills M))) (fd_B_bills M) := by
  refine fd_u_in (L := [fd_R 199, fd_R 1003, fd_R 1003]) rfl ?_
  obtain ⟨g0, g1, g2, g3, g4, g5⟩ := id hP
  obtain ⟨s1, s2, s3, s4, s5, s6⟩ := id hS
  refine fd_u_blk 1 (C := fd_c91) (b := true) (L' := [fd_R 199, fd_R 1003, fd_R 1003]) (st' := [fd_R 199]) (M' := M) rfl rfl (j := 1) rfl (rfl) ?_
  refine fd_u_call (C := fd_c91) (d0 := 0) (mid := 81) (np := 1) (args := [fd_R 199]) (r1 := none) (M1 := (fd_know M)) (st' := []) rfl rfl rfl rfl rfl rfl (rfl) (fd_r_know M hS.2.2.2.2.2) rfl (by omega) ?_
  refine fd_u_blk 1 (C := fd_c91) (b := true) (L' := [fd_R 199, fd_R 1003, fd_R 1003]) (st' := [fd_R 199]) (M' := (fd_know M)) rfl rfl (j := 3) rfl (rfl) ?_
  refine fd_u_call (C := fd_c91) (d0 := 0) (mid := 72) (np := 1) (args := [fd_R 199]) (r1 := none) (M1 := (fd_tak (fd_know M))) (st' := []) rfl rfl rfl rfl rfl rfl (rfl) (fd_r_take (fd_know M) (fd_RS_know hP hS).2.2.2.2.1) rfl (by omega) ?_
  refine fd_u_blk 2 (C := fd_c91) (b := true) (L' := [fd_R 199, fd_I 0, fd_R 1003]) (st' := []) (M' := (fd_tak (fd_know M))) rfl rfl (j := 6) rfl (rfl) ?_
  have z := fd_l_rbills (fd_tak (fd_know M)) (fd_RP_tak (fd_RP_know hP)) (fd_RS_tak (fd_RS_know hP hS)) (fd_RW_tak (fd_RP_know hP) (fd_RS_know hP hS)) (M 204 0).toNat 0 (fd_R 1003) (by rw [fd_tak_fr (by decide) (by decide), fd_know_fr (by decide)]; omega)
  rw [fd_rbl_0, show fd_tak (fd_know M) 204 0 = M 204 0 by rw [fd_tak_fr (by decide) (by decide), fd_know_fr (by decide)]] at z
  exact z

def fd_un0 (M : fd_M) : fd_M := fd_up M 208 28 (M 208 28 - 1)
def fd_B_undo (M : fd_M) : fd_M := if M 208 28 = 0 then M else fd_cp (fd_un0 M) 208 (29 + 28 * (M 208 28 - 1).toNat) 208 0 28
def fd_A_undo (M : fd_M) : Int := if M 208 28 = 0 then -2 else M 208 28 - 1
theorem fd_l_undo (M : fd_M) (h28 : 0 ≤ M 208 28 ∧ M 208 28 ≤ 9) : ∀ (n : Nat) (k : Nat) (hk : k + n = 28), fd_run 0 92 17 [fd_R 199, fd_I ((k : Nat) : Int)] [] (fd_cp M 208 (29 + 28 * (M 208 28).toNat) 208 0 k) (some (fd_I (M 208 28))) (fd_cp M 208 (29 + 28 * (M 208 28).toNat) 208 0 28) := by
  intro n
  induction n with
  | zero =>
    intro k hk
    have e28 : (fd_cp M 208 (29 + 28 * (M 208 28).toNat) 208 0 k) 208 28 = M 208 28 := fd_cp_out (by omega)
    have hB : ∀ (q0 : Int), fd_bl 2 (List.drop 17 fd_c92) [fd_R 199, fd_I q0] [] (fd_cp M 208 (29 + 28 * (M 208 28).toNat) 208 0 k) = some (true, [fd_R 199, fd_I q0], [fd_I 28, fd_I q0], (fd_cp M 208 (29 + 28 * (M 208 28).toNat) 208 0 k)) := fun _ => rfl
    refine fd_u_blk 2 (C := fd_c92) (b := true) (L' := [fd_R 199, fd_I ((k : Nat) : Int)]) (st' := [fd_I 28, fd_I ((k : Nat) : Int)]) (M' := (fd_cp M 208 (29 + 28 * (M 208 28).toNat) 208 0 k)) rfl (hB ((k : Nat) : Int)) (j := 19) rfl (rfl) ?_
    clear hB
    refine fd_u_br (C := fd_c92) (t := 39) (e := 20) (st' := []) (c := 28 ≤ ((k : Nat) : Int)) (b := (fd_rng ((k : Nat) : Int) && fd_rng 28)) rfl rfl rfl (fd_bA (fd_bR (by omega) (by omega)) (fd_bR (by omega) (by omega))) (fun h19 => ?_) (fun h19 => absurd h19 (by omega))
    have hB : ∀ (q0 : Int), fd_bl 4 (List.drop 39 fd_c92) [fd_R 199, fd_I q0] [] (fd_cp M 208 (29 + 28 * (M 208 28).toNat) 208 0 k) = some (true, [fd_R 199, fd_I q0], [fd_I ((fd_cp M 208 (29 + 28 * (M 208 28).toNat) 208 0 k) 208 28)], (fd_cp M 208 (29 + 28 * (M 208 28).toNat) 208 0 k)) := fun _ => rfl
    refine fd_u_blk 4 (C := fd_c92) (b := true) (L' := [fd_R 199, fd_I ((k : Nat) : Int)]) (st' := [fd_I ((fd_cp M 208 (29 + 28 * (M 208 28).toNat) 208 0 k) 208 28)]) (M' := (fd_cp M 208 (29 + 28 * (M 208 28).toNat) 208 0 k)) rfl (hB ((k : Nat) : Int)) (j := 43) rfl (rfl) ?_
    clear hB
    refine fd_u_ret (C := fd_c92) (b := true) (r' := some (fd_I ((fd_cp M 208 (29 + 28 * (M 208 28).toNat) 208 0 k) 208 28))) rfl rfl rfl (rfl) ?_ ?_
    · rw [e28]
    · rw [show 28 = k by omega]
  | succ n ih =>
    intro k hk
    have e28 : (fd_cp M 208 (29 + 28 * (M 208 28).toNat) 208 0 k) 208 28 = M 208 28 := fd_cp_out (by omega)
    have hB : ∀ (q0 : Int), fd_bl 2 (List.drop 17 fd_c92) [fd_R 199, fd_I q0] [] (fd_cp M 208 (29 + 28 * (M 208 28).toNat) 208 0 k) = some (true, [fd_R 199, fd_I q0], [fd_I 28, fd_I q0], (fd_cp M 208 (29 + 28 * (M 208 28).toNat) 208 0 k)) := fun _ => rfl
    refine fd_u_blk 2 (C := fd_c92) (b := true) (L' := [fd_R 199, fd_I ((k : Nat) : Int)]) (st' := [fd_I 28, fd_I ((k : Nat) : Int)]) (M' := (fd_cp M 208 (29 + 28 * (M 208 28).toNat) 208 0 k)) rfl (hB ((k : Nat) : Int)) (j := 19) rfl (rfl) ?_
    clear hB
    refine fd_u_br (C := fd_c92) (t := 39) (e := 20) (st' := []) (c := 28 ≤ ((k : Nat) : Int)) (b := (fd_rng ((k : Nat) : Int) && fd_rng 28)) rfl rfl rfl (fd_bA (fd_bR (by omega) (by omega)) (fd_bR (by omega) (by omega))) (fun h19 => absurd h19 (by omega)) (fun h19 => ?_)
    have hB : ∀ (q0 : Int), fd_bl 16 (List.drop 20 fd_c92) [fd_R 199, fd_I q0] [] (fd_cp M 208 (29 + 28 * (M 208 28).toNat) 208 0 k) = some ((fd_isA true (fd_cp M 208 (29 + 28 * (M 208 28).toNat) 208 0 k) 208 20 ((29 + (28 * ((fd_cp M 208 (29 + 28 * (M 208 28).toNat) 208 0 k) 208 28))) + q0) && true), [fd_R 199, fd_I q0], [fd_I ((fd_cp M 208 (29 + 28 * (M 208 28).toNat) 208 0 k) 208 ((29 + (28 * ((fd_cp M 208 (29 + 28 * (M 208 28).toNat) 208 0 k) 208 28))) + q0).toNat), fd_I q0, fd_R 208], (fd_cp M 208 (29 + 28 * (M 208 28).toNat) 208 0 k)) := fun _ => rfl
    refine fd_u_blk 16 (C := fd_c92) (b := (fd_isA true (fd_cp M 208 (29 + 28 * (M 208 28).toNat) 208 0 k) 208 20 ((29 + (28 * ((fd_cp M 208 (29 + 28 * (M 208 28).toNat) 208 0 k) 208 28))) + ((k : Nat) : Int)) && true)) (L' := [fd_R 199, fd_I ((k : Nat) : Int)]) (st' := [fd_I ((fd_cp M 208 (29 + 28 * (M 208 28).toNat) 208 0 k) 208 ((29 + (28 * ((fd_cp M 208 (29 + 28 * (M 208 28).toNat) 208 0 k) 208 28))) + ((k : Nat) : Int)).toNat), fd_I ((k : Nat) : Int), fd_R 208]) (M' := (fd_cp M 208 (29 + 28 * (M 208 28).toNat) 208 0 k)) rfl (hB ((k : Nat) : Int)) (j := 36) rfl (fd_bA (fd_iA fd_sh208 (by omega) (by omega)) (rfl)) ?_
    clear hB
    have hB : ∀ (q0 : Int) (q1 : Int), fd_bl 2 (List.drop 36 fd_c92) [fd_R 199, fd_I q0] [fd_I q1, fd_I q0, fd_R 208] (fd_cp M 208 (29 + 28 * (M 208 28).toNat) 208 0 k) = some ((fd_isA true (fd_cp M 208 (29 + 28 * (M 208 28).toNat) 208 0 k) 208 20 q0 && true), [fd_R 199, fd_I (q0 + 1)], [], (fd_up (fd_cp M 208 (29 + 28 * (M 208 28).toNat) 208 0 k) 208 (q0).toNat q1)) := fun _ _ => rfl
    refine fd_u_blk 2 (C := fd_c92) (b := (fd_isA true (fd_cp M 208 (29 + 28 * (M 208 28).toNat) 208 0 k) 208 20 ((k : Nat) : Int) && true)) (L' := [fd_R 199, fd_I (((k + 1) : Nat) : Int)]) (st' := []) (M' := (fd_up (fd_cp M 208 (29 + 28 * (M 208 28).toNat) 208 0 k) 208 k ((fd_cp M 208 (29 + 28 * (M 208 28).toNat) 208 0 k) 208 ((29 + (28 * ((fd_cp M 208 (29 + 28 * (M 208 28).toNat) 208 0 k) 208 28))) + ((k : Nat) : Int)).toNat))) rfl (hB ((k : Nat) : Int) ((fd_cp M 208 (29 + 28 * (M 208 28).toNat) 208 0 k) 208 ((29 + (28 * ((fd_cp M 208 (29 + 28 * (M 208 28).toNat) 208 0 k) 208 28))) + ((k : Nat) : Int)).toNat)) (j := 38) rfl (fd_bA (fd_iA fd_sh208 (by omega) (by omega)) (rfl)) ?_
    clear hB
    refine fd_u_jmp (C := fd_c92) (j := 17) (st' := []) rfl rfl (b := true) rfl rfl ?_
    have z := fd_cpS M 208 (29 + 28 * (M 208 28).toNat) 0 k (by omega)
    rw [Nat.zero_add] at z
    rw [show ((29 + (28 * ((fd_cp M 208 (29 + 28 * (M 208 28).toNat) 208 0 k) 208 28))) + ((k : Nat) : Int)).toNat = (29 + 28 * (M 208 28).toNat) + k by omega, z]
    exact ih (k + 1) (by omega)

theorem fd_r_undo (M : fd_M) (h28 : 0 ≤ M 208 28 ∧ M 208 28 ≤ 10) : fd_call 0 92 [fd_R 199] M (some (fd_I (fd_A_undo M))) (fd_B_undo M) := by
  refine fd_u_in (L := [fd_R 199, fd_R 1003]) rfl ?_
  refine fd_u_blk 4 (C := fd_c92) (b := true) (L' := [fd_R 199, fd_R 1003]) (st' := [fd_I (M 208 28)]) (M' := M) rfl rfl (j := 4) rfl (rfl) ?_
  refine fd_u_br (C := fd_c92) (t := 7) (e := 5) (st' := []) (c := ¬ (M 208 28) = 0) (b := (fd_rng (M 208 28))) rfl rfl rfl (fd_bR (by omega) (by omega)) (fun h4 => ?_) (fun h4 => ?_)
  · refine fd_u_blk 10 (C := fd_c92) (b := true) (L' := [fd_R 199, fd_I 0]) (st' := []) (M' := (fd_up M 208 28 ((M 208 28) - 1))) rfl rfl (j := 17) rfl (rfl) ?_
    have e1 : fd_un0 M 208 28 = M 208 28 - 1 := by unfold fd_un0; rw [fd_up_at, if_pos rfl]
    have z := fd_l_undo (fd_un0 M) (by omega) 28 0 (by omega)
    rw [fd_cp0, e1] at z
    rw [fd_A_undo, fd_B_undo, if_neg h4, if_neg h4]
    exact z
  · refine fd_u_blk 1 (C := fd_c92) (b := true) (L' := [fd_R 199, fd_R 1003]) (st' := [fd_I (-2)]) (M' := M) rfl rfl (j := 6) rfl (rfl) ?_
    refine fd_u_ret (C := fd_c92) (b := true) (r' := some (fd_I (-2))) rfl rfl rfl (rfl) ?_ ?_
    · rw [fd_A_undo, if_pos (by omega)]
    · rw [fd_B_undo, if_pos (by omega)]

def fd_A_now (M : fd_M) (w : Int) : Int := if w = 0 then fd_sum (fd_dR M) (M 204 0).toNat else if w = 1 then M 208 12 else if w = 2 then fd_bits (fun j => fd_vR M j (M 210 j)) (M 204 0).toNat else if w = 3 then fd_sum (fun j => if fd_sR M j > j ∧ fd_sR M (fd_sR M j).toNat = j then 1 else 0) (M 204 0).toNat else if w = 4 then fd_sum (fun y => fd_many (M 208 (21 + y))) 7 else if w = 5 then M 208 13 else if w = 6 then M 208 14 else if w = 7 then fd_sum (fun j => M 208 (15 + j)) (M 204 0).toNat else -1
theorem fd_l_now2 (M : fd_M) (hP : fd_RP M) (hS : fd_RS M) (hW : fd_RW M) (u1 : fd_V) : ∀ (n : Nat) (k : Nat) (u : fd_V) (hk : (k : Int) + n = M 204 0), fd_run 7 94 16 [fd_R 199, u1, fd_I (fd_bits (fun j => fd_vR M j (M 210 j)) k), fd_I ((k : Nat) : Int), u] [] M (some (fd_I (fd_bits (fun j => fd_vR M j (M 210 j)) (M 204 0).toNat))) M := by
  obtain ⟨g0, g1, g2, g3, g4, g5⟩ := id hP
  intro n
  induction n with
  | zero =>
    intro k u hk
    have hB : ∀ (q0 : Int), fd_bl 5 (List.drop 16 fd_c94) [fd_R 199, u1, fd_I (fd_bits (fun j => fd_vR M j (M 210 j)) k), fd_I q0, u] [] M = some (true, [fd_R 199, u1, fd_I (fd_bits (fun j => fd_vR M j (M 210 j)) k), fd_I q0, u], [fd_I (M 204 0), fd_I q0], M) := fun _ => rfl
    refine fd_u_blk 5 (C := fd_c94) (b := true) (L' := [fd_R 199, u1, fd_I (fd_bits (fun j => fd_vR M j (M 210 j)) k), fd_I ((k : Nat) : Int), u]) (st' := [fd_I (M 204 0), fd_I ((k : Nat) : Int)]) (M' := M) rfl (hB ((k : Nat) : Int)) (j := 21) rfl (rfl) ?_
    clear hB
    refine fd_u_br (C := fd_c94) (t := 36) (e := 22) (st' := []) (c := (M 204 0) ≤ ((k : Nat) : Int)) (b := (fd_rng ((k : Nat) : Int) && fd_rng (M 204 0))) rfl rfl rfl (fd_bA (fd_bR (by omega) (by omega)) (fd_bR (by omega) (by omega))) (fun h21 => ?_) (fun h21 => absurd h21 (by omega))
    have hB : ∀ (q0 : Int), fd_bl 1 (List.drop 36 fd_c94) [fd_R 199, u1, fd_I (fd_bits (fun j => fd_vR M j (M 210 j)) k), fd_I q0, u] [] M = some (true, [fd_R 199, u1, fd_I (fd_bits (fun j => fd_vR M j (M 210 j)) k), fd_I q0, u], [fd_I (fd_bits (fun j => fd_vR M j (M 210 j)) k)], M) := fun _ => rfl
    refine fd_u_blk 1 (C := fd_c94) (b := true) (L' := [fd_R 199, u1, fd_I (fd_bits (fun j => fd_vR M j (M 210 j)) k), fd_I ((k : Nat) : Int), u]) (st' := [fd_I (fd_bits (fun j => fd_vR M j (M 210 j)) k)]) (M' := M) rfl (hB ((k : Nat) : Int)) (j := 37) rfl (rfl) ?_
    clear hB
    refine fd_u_ret (C := fd_c94) (b := true) (r' := some (fd_I (fd_bits (fun j => fd_vR M j (M 210 j)) k))) rfl rfl rfl (rfl) ?_ ?_
    · rw [show (M 204 0).toNat = k by omega]
    · rfl
  | succ n ih =>
    intro k u hk
    have hB : ∀ (q0 : Int), fd_bl 5 (List.drop 16 fd_c94) [fd_R 199, u1, fd_I (fd_bits (fun j => fd_vR M j (M 210 j)) k), fd_I q0, u] [] M = some (true, [fd_R 199, u1, fd_I (fd_bits (fun j => fd_vR M j (M 210 j)) k), fd_I q0, u], [fd_I (M 204 0), fd_I q0], M) := fun _ => rfl
    refine fd_u_blk 5 (C := fd_c94) (b := true) (L' := [fd_R 199, u1, fd_I (fd_bits (fun j => fd_vR M j (M 210 j)) k), fd_I ((k : Nat) : Int), u]) (st' := [fd_I (M 204 0), fd_I ((k : Nat) : Int)]) (M' := M) rfl (hB ((k : Nat) : Int)) (j := 21) rfl (rfl) ?_
    clear hB
    refine fd_u_br (C := fd_c94) (t := 36) (e := 22) (st' := []) (c := (M 204 0) ≤ ((k : Nat) : Int)) (b := (fd_rng ((k : Nat) : Int) && fd_rng (M 204 0))) rfl rfl rfl (fd_bA (fd_bR (by omega) (by omega)) (fd_bR (by omega) (by omega))) (fun h21 => absurd h21 (by omega)) (fun h21 => ?_)
    have hB : ∀ (q0 : Int), fd_bl 3 (List.drop 22 fd_c94) [fd_R 199, u1, fd_I (fd_bits (fun j => fd_vR M j (M 210 j)) k), fd_I q0, u] [] M = some (true, [fd_R 199, u1, fd_I (fd_bits (fun j => fd_vR M j (M 210 j)) k), fd_I q0, u], [fd_I q0, fd_R 199, fd_I (fd_bits (fun j => fd_vR M j (M 210 j)) k)], M) := fun _ => rfl
    refine fd_u_blk 3 (C := fd_c94) (b := true) (L' := [fd_R 199, u1, fd_I (fd_bits (fun j => fd_vR M j (M 210 j)) k), fd_I ((k : Nat) : Int), u]) (st' := [fd_I ((k : Nat) : Int), fd_R 199, fd_I (fd_bits (fun j => fd_vR M j (M 210 j)) k)]) (M' := M) rfl (hB ((k : Nat) : Int)) (j := 25) rfl (rfl) ?_
    clear hB
    refine fd_u_call (C := fd_c94) (d0 := 3) (mid := 78) (np := 2) (args := [fd_R 199, fd_I ((k : Nat) : Int)]) (r1 := some (fd_I (fd_bi (fd_vR M k (M 210 k))))) (M1 := M) (st' := [fd_I (fd_bi (fd_vR M k (M 210 k))), fd_I (fd_bits (fun j => fd_vR M j (M 210 j)) k)]) rfl rfl rfl rfl rfl rfl (rfl) (fd_r_hasWay M hP hS hW k (by omega)) rfl (by omega) ?_
    refine fd_u_br (C := fd_c94) (t := 31) (e := 27) (st' := [fd_I (fd_bits (fun j => fd_vR M j (M 210 j)) k)]) (c := (fd_bi (fd_vR M k (M 210 k))) = 0) (b := (fd_rng (fd_bi (fd_vR M k (M 210 k))))) rfl rfl rfl (fd_biR) (fun h26 => ?_) (fun h26 => ?_)
    · have h26 := fd_biF.mp h26
      have hB : ∀ (q0 : Int), fd_bl 4 (List.drop 31 fd_c94) [fd_R 199, u1, fd_I (fd_bits (fun j => fd_vR M j (M 210 j)) k), fd_I q0, u] [fd_I (fd_bits (fun j => fd_vR M j (M 210 j)) k)] M = some (true, [fd_R 199, u1, fd_I (fd_or (fd_bits (fun j => fd_vR M j (M 210 j)) k) 0), fd_I (q0 + 1), u], [], M) := fun _ => rfl
      refine fd_u_blk 4 (C := fd_c94) (b := true) (L' := [fd_R 199, u1, fd_I (fd_or (fd_bits (fun j => fd_vR M j (M 210 j)) k) 0), fd_I (((k + 1) : Nat) : Int), u]) (st' := []) (M' := M) rfl (hB ((k : Nat) : Int)) (j := 35) rfl (rfl) ?_
      clear hB
      refine fd_u_jmp (C := fd_c94) (j := 16) (st' := []) rfl rfl (b := true) rfl rfl ?_
      have qb := fd_bits_rng (fun j => fd_vR M j (M 210 j)) k
      have q6 : (2 : Int) ^ k ≤ 64 := by have := fd_pw6 (n := k) (by omega); have := fd_pw k; omega
      have e5 : (fd_or (fd_bits (fun j => fd_vR M j (M 210 j)) k) 0) = (fd_bits (fun j => fd_vR M j (M 210 j)) (k + 1)) := by
        show fd_or _ 0 = fd_bits (fun j => fd_vR M j (M 210 j)) k + (if fd_vR M k (M 210 k) then 2 ^ k else 0)
        rw [fd_or0 (by omega), if_neg h26]; omega
      rw [e5]
      exact ih (k + 1) _ (by omega)
    · have h26 := fd_biT.mp h26
      have hB : ∀ (q0 : Int), fd_bl 3 (List.drop 27 fd_c94) [fd_R 199, u1, fd_I (fd_bits (fun j => fd_vR M j (M 210 j)) k), fd_I q0, u] [fd_I (fd_bits (fun j => fd_vR M j (M 210 j)) k)] M = some ((fd_inb q0 32 && true), [fd_R 199, u1, fd_I (fd_bits (fun j => fd_vR M j (M 210 j)) k), fd_I q0, u], [fd_I (2 ^ (q0).toNat), fd_I (fd_bits (fun j => fd_vR M j (M 210 j)) k)], M) := fun _ => rfl
      refine fd_u_blk 3 (C := fd_c94) (b := (fd_inb ((k : Nat) : Int) 32 && true)) (L' := [fd_R 199, u1, fd_I (fd_bits (fun j => fd_vR M j (M 210 j)) k), fd_I ((k : Nat) : Int), u]) (st' := [fd_I (2 ^ k), fd_I (fd_bits (fun j => fd_vR M j (M 210 j)) k)]) (M' := M) rfl (hB ((k : Nat) : Int)) (j := 30) rfl (fd_bA (fd_bI (by omega) (by omega)) (rfl)) ?_
      clear hB
      refine fd_u_jmp (C := fd_c94) (j := 32) (st' := [fd_I (2 ^ k), fd_I (fd_bits (fun j => fd_vR M j (M 210 j)) k)]) rfl rfl (b := true) rfl rfl ?_
      have hB : ∀ (q0 : Int), fd_bl 3 (List.drop 32 fd_c94) [fd_R 199, u1, fd_I (fd_bits (fun j => fd_vR M j (M 210 j)) k), fd_I q0, u] [fd_I (2 ^ k), fd_I (fd_bits (fun j => fd_vR M j (M 210 j)) k)] M = some (true, [fd_R 199, u1, fd_I (fd_or (fd_bits (fun j => fd_vR M j (M 210 j)) k) (2 ^ k)), fd_I (q0 + 1), u], [], M) := fun _ => rfl
      refine fd_u_blk 3 (C := fd_c94) (b := true) (L' := [fd_R 199, u1, fd_I (fd_or (fd_bits (fun j => fd_vR M j (M 210 j)) k) (2 ^ k)), fd_I (((k + 1) : Nat) : Int), u]) (st' := []) (M' := M) rfl (hB ((k : Nat) : Int)) (j := 35) rfl (rfl) ?_
      clear hB
      refine fd_u_jmp (C := fd_c94) (j := 16) (st' := []) rfl rfl (b := true) rfl rfl ?_
      have qb := fd_bits_rng (fun j => fd_vR M j (M 210 j)) k
      have q6 : (2 : Int) ^ k ≤ 64 := by have := fd_pw6 (n := k) (by omega); have := fd_pw k; omega
      have e5 : (fd_or (fd_bits (fun j => fd_vR M j (M 210 j)) k) (2 ^ k)) = (fd_bits (fun j => fd_vR M j (M 210 j)) (k + 1)) := by
        show fd_or _ (2 ^ k) = fd_bits (fun j => fd_vR M j (M 210 j)) k + (if fd_vR M k (M 210 k) then 2 ^ k else 0)
        rw [fd_orS (by omega) qb.1 qb.2, if_pos h26]
      rw [e5]
      exact ih (k + 1) _ (by omega)

theorem fd_l_now3 (M : fd_M) (hP : fd_RP M) (hS : fd_RS M) (hW : fd_RW M) (u1 : fd_V) : ∀ (n : Nat) (k : Nat) (u : fd_V) (hk : (k : Int) + n = M 204 0), fd_run 7 94 40 [fd_R 199, u1, fd_I (fd_sum (fun j => if fd_sR M j > j ∧ fd_sR M (fd_sR M j).toNat = j then 1 else 0) k), fd_I ((k : Nat) : Int), u] [] M (some (fd_I (fd_sum (fun j => if fd_sR M j > j ∧ fd_sR M (fd_sR M j).toNat = j then 1 else 0) (M 204 0).toNat))) M := by
  obtain ⟨g0, g1, g2, g3, g4, g5⟩ := id hP
  intro n
  induction n with
  | zero =>
    intro k u hk
    have hB : ∀ (q0 : Int), fd_bl 5 (List.drop 40 fd_c94) [fd_R 199, u1, fd_I (fd_sum (fun j => if fd_sR M j > j ∧ fd_sR M (fd_sR M j).toNat = j then 1 else 0) k), fd_I q0, u] [] M = some (true, [fd_R 199, u1, fd_I (fd_sum (fun j => if fd_sR M j > j ∧ fd_sR M (fd_sR M j).toNat = j then 1 else 0) k), fd_I q0, u], [fd_I (M 204 0), fd_I q0], M) := fun _ => rfl
    refine fd_u_blk 5 (C := fd_c94) (b := true) (L' := [fd_R 199, u1, fd_I (fd_sum (fun j => if fd_sR M j > j ∧ fd_sR M (fd_sR M j).toNat = j then 1 else 0) k), fd_I ((k : Nat) : Int), u]) (st' := [fd_I (M 204 0), fd_I ((k : Nat) : Int)]) (M' := M) rfl (hB ((k : Nat) : Int)) (j := 45) rfl (rfl) ?_
    clear hB
    refine fd_u_br (C := fd_c94) (t := 66) (e := 46) (st' := []) (c := (M 204 0) ≤ ((k : Nat) : Int)) (b := (fd_rng ((k : Nat) : Int) && fd_rng (M 204 0))) rfl rfl rfl (fd_bA (fd_bR (by omega) (by omega)) (fd_bR (by omega) (by omega))) (fun h45 => ?_) (fun h45 => absurd h45 (by omega))
    have hB : ∀ (q0 : Int), fd_bl 1 (List.drop 66 fd_c94) [fd_R 199, u1, fd_I (fd_sum (fun j => if fd_sR M j > j ∧ fd_sR M (fd_sR M j).toNat = j then 1 else 0) k), fd_I q0, u] [] M = some (true, [fd_R 199, u1, fd_I (fd_sum (fun j => if fd_sR M j > j ∧ fd_sR M (fd_sR M j).toNat = j then 1 else 0) k), fd_I q0, u], [fd_I (fd_sum (fun j => if fd_sR M j > j ∧ fd_sR M (fd_sR M j).toNat = j then 1 else 0) k)], M) := fun _ => rfl
    refine fd_u_blk 1 (C := fd_c94) (b := true) (L' := [fd_R 199, u1, fd_I (fd_sum (fun j => if fd_sR M j > j ∧ fd_sR M (fd_sR M j).toNat = j then 1 else 0) k), fd_I ((k : Nat) : Int), u]) (st' := [fd_I (fd_sum (fun j => if fd_sR M j > j ∧ fd_sR M (fd_sR M j).toNat = j then 1 else 0) k)]) (M' := M) rfl (hB ((k : Nat) : Int)) (j := 67) rfl (rfl) ?_
    clear hB
    refine fd_u_ret (C := fd_c94) (b := true) (r' := some (fd_I (fd_sum (fun j => if fd_sR M j > j ∧ fd_sR M (fd_sR M j).toNat = j then 1 else 0) k))) rfl rfl rfl (rfl) ?_ ?_
    · rw [show (M 204 0).toNat = k by omega]
    · rfl
  | succ n ih =>
    intro k u hk
    have hB : ∀ (q0 : Int), fd_bl 5 (List.drop 40 fd_c94) [fd_R 199, u1, fd_I (fd_sum (fun j => if fd_sR M j > j ∧ fd_sR M (fd_sR M j).toNat = j then 1 else 0) k), fd_I q0, u] [] M = some (true, [fd_R 199, u1, fd_I (fd_sum (fun j => if fd_sR M j > j ∧ fd_sR M (fd_sR M j).toNat = j then 1 else 0) k), fd_I q0, u], [fd_I (M 204 0), fd_I q0], M) := fun _ => rfl
    refine fd_u_blk 5 (C := fd_c94) (b := true) (L' := [fd_R 199, u1, fd_I (fd_sum (fun j => if fd_sR M j > j ∧ fd_sR M (fd_sR M j).toNat = j then 1 else 0) k), fd_I ((k : Nat) : Int), u]) (st' := [fd_I (M 204 0), fd_I ((k : Nat) : Int)]) (M' := M) rfl (hB ((k : Nat) : Int)) (j := 45) rfl (rfl) ?_
    clear hB
    refine fd_u_br (C := fd_c94) (t := 66) (e := 46) (st' := []) (c := (M 204 0) ≤ ((k : Nat) : Int)) (b := (fd_rng ((k : Nat) : Int) && fd_rng (M 204 0))) rfl rfl rfl (fd_bA (fd_bR (by omega) (by omega)) (fd_bR (by omega) (by omega))) (fun h45 => absurd h45 (by omega)) (fun h45 => ?_)
    have hB : ∀ (q0 : Int), fd_bl 2 (List.drop 46 fd_c94) [fd_R 199, u1, fd_I (fd_sum (fun j => if fd_sR M j > j ∧ fd_sR M (fd_sR M j).toNat = j then 1 else 0) k), fd_I q0, u] [] M = some (true, [fd_R 199, u1, fd_I (fd_sum (fun j => if fd_sR M j > j ∧ fd_sR M (fd_sR M j).toNat = j then 1 else 0) k), fd_I q0, u], [fd_I q0, fd_R 199], M) := fun _ => rfl
    refine fd_u_blk 2 (C := fd_c94) (b := true) (L' := [fd_R 199, u1, fd_I (fd_sum (fun j => if fd_sR M j > j ∧ fd_sR M (fd_sR M j).toNat = j then 1 else 0) k), fd_I ((k : Nat) : Int), u]) (st' := [fd_I ((k : Nat) : Int), fd_R 199]) (M' := M) rfl (hB ((k : Nat) : Int)) (j := 48) rfl (rfl) ?_
    clear hB
    refine fd_u_call (C := fd_c94) (d0 := 3) (mid := 75) (np := 2) (args := [fd_R 199, fd_I ((k : Nat) : Int)]) (r1 := some (fd_I (fd_sR M k))) (M1 := M) (st' := [fd_I (fd_sR M k)]) rfl rfl rfl rfl rfl rfl (rfl) (fd_r_sees M hP hS hW k (by omega)) rfl (by omega) ?_
    have qs5 := fd_sR_rng hP k
    have hB : ∀ (q0 : Int), fd_bl 4 (List.drop 49 fd_c94) [fd_R 199, u1, fd_I (fd_sum (fun j => if fd_sR M j > j ∧ fd_sR M (fd_sR M j).toNat = j then 1 else 0) k), fd_I q0, u] [fd_I (fd_sR M k)] M = some (true, [fd_R 199, u1, fd_I (fd_sum (fun j => if fd_sR M j > j ∧ fd_sR M (fd_sR M j).toNat = j then 1 else 0) k), fd_I q0, fd_I (fd_sR M k)], [fd_I q0, fd_I (fd_sR M k), fd_I (fd_sum (fun j => if fd_sR M j > j ∧ fd_sR M (fd_sR M j).toNat = j then 1 else 0) k)], M) := fun _ => rfl
    refine fd_u_blk 4 (C := fd_c94) (b := true) (L' := [fd_R 199, u1, fd_I (fd_sum (fun j => if fd_sR M j > j ∧ fd_sR M (fd_sR M j).toNat = j then 1 else 0) k), fd_I ((k : Nat) : Int), fd_I (fd_sR M k)]) (st' := [fd_I ((k : Nat) : Int), fd_I (fd_sR M k), fd_I (fd_sum (fun j => if fd_sR M j > j ∧ fd_sR M (fd_sR M j).toNat = j then 1 else 0) k)]) (M' := M) rfl (hB ((k : Nat) : Int)) (j := 53) rfl (rfl) ?_
    clear hB
    refine fd_u_br (C := fd_c94) (t := 61) (e := 54) (st' := [fd_I (fd_sum (fun j => if fd_sR M j > j ∧ fd_sR M (fd_sR M j).toNat = j then 1 else 0) k)]) (c := (fd_sR M k) ≤ ((k : Nat) : Int)) (b := (fd_rng (fd_sR M k) && fd_rng ((k : Nat) : Int))) rfl rfl rfl (fd_bA (fd_bR (by omega) (by omega)) (fd_bR (by omega) (by omega))) (fun h53 => ?_) (fun h53 => ?_)
    · have hB : ∀ (q0 : Int), fd_bl 4 (List.drop 61 fd_c94) [fd_R 199, u1, fd_I (fd_sum (fun j => if fd_sR M j > j ∧ fd_sR M (fd_sR M j).toNat = j then 1 else 0) k), fd_I q0, fd_I (fd_sR M k)] [fd_I (fd_sum (fun j => if fd_sR M j > j ∧ fd_sR M (fd_sR M j).toNat = j then 1 else 0) k)] M = some (true, [fd_R 199, u1, fd_I ((fd_sum (fun j => if fd_sR M j > j ∧ fd_sR M (fd_sR M j).toNat = j then 1 else 0) k) + 0), fd_I (q0 + 1), fd_I (fd_sR M k)], [], M) := fun _ => rfl
      refine fd_u_blk 4 (C := fd_c94) (b := true) (L' := [fd_R 199, u1, fd_I ((fd_sum (fun j => if fd_sR M j > j ∧ fd_sR M (fd_sR M j).toNat = j then 1 else 0) k) + 0), fd_I (((k + 1) : Nat) : Int), fd_I (fd_sR M k)]) (st' := []) (M' := M) rfl (hB ((k : Nat) : Int)) (j := 65) rfl (rfl) ?_
      clear hB
      refine fd_u_jmp (C := fd_c94) (j := 40) (st' := []) rfl rfl (b := true) rfl rfl ?_
      have e5 : ((fd_sum (fun j => if fd_sR M j > j ∧ fd_sR M (fd_sR M j).toNat = j then 1 else 0) k) + 0) = (fd_sum (fun j => if fd_sR M j > j ∧ fd_sR M (fd_sR M j).toNat = j then 1 else 0) (k + 1)) := by
        show _ = fd_sum (fun j => if fd_sR M j > j ∧ fd_sR M (fd_sR M j).toNat = j then 1 else 0) k + (if fd_sR M k > (k : Int) ∧ _ then 1 else 0)
        rw [if_neg (fun z => by first | exact absurd z.1 (by omega) | exact h58 z.2)]
      rw [e5]
      exact ih (k + 1) _ (by omega)
    · have hB : ∀ (q0 : Int), fd_bl 2 (List.drop 54 fd_c94) [fd_R 199, u1, fd_I (fd_sum (fun j => if fd_sR M j > j ∧ fd_sR M (fd_sR M j).toNat = j then 1 else 0) k), fd_I q0, fd_I (fd_sR M k)] [fd_I (fd_sum (fun j => if fd_sR M j > j ∧ fd_sR M (fd_sR M j).toNat = j then 1 else 0) k)] M = some (true, [fd_R 199, u1, fd_I (fd_sum (fun j => if fd_sR M j > j ∧ fd_sR M (fd_sR M j).toNat = j then 1 else 0) k), fd_I q0, fd_I (fd_sR M k)], [fd_I (fd_sR M k), fd_R 199, fd_I (fd_sum (fun j => if fd_sR M j > j ∧ fd_sR M (fd_sR M j).toNat = j then 1 else 0) k)], M) := fun _ => rfl
      refine fd_u_blk 2 (C := fd_c94) (b := true) (L' := [fd_R 199, u1, fd_I (fd_sum (fun j => if fd_sR M j > j ∧ fd_sR M (fd_sR M j).toNat = j then 1 else 0) k), fd_I ((k : Nat) : Int), fd_I (fd_sR M k)]) (st' := [fd_I (fd_sR M k), fd_R 199, fd_I (fd_sum (fun j => if fd_sR M j > j ∧ fd_sR M (fd_sR M j).toNat = j then 1 else 0) k)]) (M' := M) rfl (hB ((k : Nat) : Int)) (j := 56) rfl (rfl) ?_
      clear hB
      refine fd_u_call (C := fd_c94) (d0 := 3) (mid := 75) (np := 2) (args := [fd_R 199, fd_I (fd_sR M k)]) (r1 := some (fd_I (fd_sR M (fd_sR M k).toNat))) (M1 := M) (st' := [fd_I (fd_sR M (fd_sR M k).toNat), fd_I (fd_sum (fun j => if fd_sR M j > j ∧ fd_sR M (fd_sR M j).toNat = j then 1 else 0) k)]) rfl rfl rfl rfl rfl rfl (rfl) (by have zz := fd_r_sees M hP hS hW (fd_sR M k).toNat (by omega); rw [Int.toNat_of_nonneg (by omega)] at zz; exact zz) rfl (by omega) ?_
      have qs12 := fd_sR_rng hP (fd_sR M k).toNat
      have hB : ∀ (q0 : Int), fd_bl 1 (List.drop 57 fd_c94) [fd_R 199, u1, fd_I (fd_sum (fun j => if fd_sR M j > j ∧ fd_sR M (fd_sR M j).toNat = j then 1 else 0) k), fd_I q0, fd_I (fd_sR M k)] [fd_I (fd_sR M (fd_sR M k).toNat), fd_I (fd_sum (fun j => if fd_sR M j > j ∧ fd_sR M (fd_sR M j).toNat = j then 1 else 0) k)] M = some (true, [fd_R 199, u1, fd_I (fd_sum (fun j => if fd_sR M j > j ∧ fd_sR M (fd_sR M j).toNat = j then 1 else 0) k), fd_I q0, fd_I (fd_sR M k)], [fd_I q0, fd_I (fd_sR M (fd_sR M k).toNat), fd_I (fd_sum (fun j => if fd_sR M j > j ∧ fd_sR M (fd_sR M j).toNat = j then 1 else 0) k)], M) := fun _ => rfl
      refine fd_u_blk 1 (C := fd_c94) (b := true) (L' := [fd_R 199, u1, fd_I (fd_sum (fun j => if fd_sR M j > j ∧ fd_sR M (fd_sR M j).toNat = j then 1 else 0) k), fd_I ((k : Nat) : Int), fd_I (fd_sR M k)]) (st' := [fd_I ((k : Nat) : Int), fd_I (fd_sR M (fd_sR M k).toNat), fd_I (fd_sum (fun j => if fd_sR M j > j ∧ fd_sR M (fd_sR M j).toNat = j then 1 else 0) k)]) (M' := M) rfl (hB ((k : Nat) : Int)) (j := 58) rfl (rfl) ?_
      clear hB
      refine fd_u_br (C := fd_c94) (t := 61) (e := 59) (st' := [fd_I (fd_sum (fun j => if fd_sR M j > j ∧ fd_sR M (fd_sR M j).toNat = j then 1 else 0) k)]) (c := ¬ (fd_sR M (fd_sR M k).toNat) = ((k : Nat) : Int)) (b := (fd_rng (fd_sR M (fd_sR M k).toNat) && fd_rng ((k : Nat) : Int))) rfl rfl rfl (fd_bA (fd_bR (by omega) (by omega)) (fd_bR (by omega) (by omega))) (fun h58 => ?_) (fun h58 => ?_)
      · have hB : ∀ (q0 : Int), fd_bl 4 (List.drop 61 fd_c94) [fd_R 199, u1, fd_I (fd_sum (fun j => if fd_sR M j > j ∧ fd_sR M (fd_sR M j).toNat = j then 1 else 0) k), fd_I q0, fd_I (fd_sR M k)] [fd_I (fd_sum (fun j => if fd_sR M j > j ∧ fd_sR M (fd_sR M j).toNat = j then 1 else 0) k)] M = some (true, [fd_R 199, u1, fd_I ((fd_sum (fun j => if fd_sR M j > j ∧ fd_sR M (fd_sR M j).toNat = j then 1 else 0) k) + 0), fd_I (q0 + 1), fd_I (fd_sR M k)], [], M) := fun _ => rfl
        refine fd_u_blk 4 (C := fd_c94) (b := true) (L' := [fd_R 199, u1, fd_I ((fd_sum (fun j => if fd_sR M j > j ∧ fd_sR M (fd_sR M j).toNat = j then 1 else 0) k) + 0), fd_I (((k + 1) : Nat) : Int), fd_I (fd_sR M k)]) (st' := []) (M' := M) rfl (hB ((k : Nat) : Int)) (j := 65) rfl (rfl) ?_
        clear hB
        refine fd_u_jmp (C := fd_c94) (j := 40) (st' := []) rfl rfl (b := true) rfl rfl ?_
        have e5 : ((fd_sum (fun j => if fd_sR M j > j ∧ fd_sR M (fd_sR M j).toNat = j then 1 else 0) k) + 0) = (fd_sum (fun j => if fd_sR M j > j ∧ fd_sR M (fd_sR M j).toNat = j then 1 else 0) (k + 1)) := by
          show _ = fd_sum (fun j => if fd_sR M j > j ∧ fd_sR M (fd_sR M j).toNat = j then 1 else 0) k + (if fd_sR M k > (k : Int) ∧ _ then 1 else 0)
          rw [if_neg (fun z => by first | exact absurd z.1 (by omega) | exact h58 z.2)]
        rw [e5]
        exact ih (k + 1) _ (by omega)
      · have hB : ∀ (q0 : Int), fd_bl 1 (List.drop 59 fd_c94) [fd_R 199, u1, fd_I (fd_sum (fun j => if fd_sR M j > j ∧ fd_sR M (fd_sR M j).toNat = j then 1 else 0) k), fd_I q0, fd_I (fd_sR M k)] [fd_I (fd_sum (fun j => if fd_sR M j > j ∧ fd_sR M (fd_sR M j).toNat = j then 1 else 0) k)] M = some (true, [fd_R 199, u1, fd_I (fd_sum (fun j => if fd_sR M j > j ∧ fd_sR M (fd_sR M j).toNat = j then 1 else 0) k), fd_I q0, fd_I (fd_sR M k)], [fd_I 1, fd_I (fd_sum (fun j => if fd_sR M j > j ∧ fd_sR M (fd_sR M j).toNat = j then 1 else 0) k)], M) := fun _ => rfl
        refine fd_u_blk 1 (C := fd_c94) (b := true) (L' := [fd_R 199, u1, fd_I (fd_sum (fun j => if fd_sR M j > j ∧ fd_sR M (fd_sR M j).toNat = j then 1 else 0) k), fd_I ((k : Nat) : Int), fd_I (fd_sR M k)]) (st' := [fd_I 1, fd_I (fd_sum (fun j => if fd_sR M j > j ∧ fd_sR M (fd_sR M j).toNat = j then 1 else 0) k)]) (M' := M) rfl (hB ((k : Nat) : Int)) (j := 60) rfl (rfl) ?_
        clear hB
        refine fd_u_jmp (C := fd_c94) (j := 62) (st' := [fd_I 1, fd_I (fd_sum (fun j => if fd_sR M j > j ∧ fd_sR M (fd_sR M j).toNat = j then 1 else 0) k)]) rfl rfl (b := true) rfl rfl ?_
        have hB : ∀ (q0 : Int), fd_bl 3 (List.drop 62 fd_c94) [fd_R 199, u1, fd_I (fd_sum (fun j => if fd_sR M j > j ∧ fd_sR M (fd_sR M j).toNat = j then 1 else 0) k), fd_I q0, fd_I (fd_sR M k)] [fd_I 1, fd_I (fd_sum (fun j => if fd_sR M j > j ∧ fd_sR M (fd_sR M j).toNat = j then 1 else 0) k)] M = some (true, [fd_R 199, u1, fd_I ((fd_sum (fun j => if fd_sR M j > j ∧ fd_sR M (fd_sR M j).toNat = j then 1 else 0) k) + 1), fd_I (q0 + 1), fd_I (fd_sR M k)], [], M) := fun _ => rfl
        refine fd_u_blk 3 (C := fd_c94) (b := true) (L' := [fd_R 199, u1, fd_I ((fd_sum (fun j => if fd_sR M j > j ∧ fd_sR M (fd_sR M j).toNat = j then 1 else 0) k) + 1), fd_I (((k + 1) : Nat) : Int), fd_I (fd_sR M k)]) (st' := []) (M' := M) rfl (hB ((k : Nat) : Int)) (j := 65) rfl (rfl) ?_
        clear hB
        refine fd_u_jmp (C := fd_c94) (j := 40) (st' := []) rfl rfl (b := true) rfl rfl ?_
        have e5 : ((fd_sum (fun j => if fd_sR M j > j ∧ fd_sR M (fd_sR M j).toNat = j then 1 else 0) k) + 1) = (fd_sum (fun j => if fd_sR M j > j ∧ fd_sR M (fd_sR M j).toNat = j then 1 else 0) (k + 1)) := by
          show _ = fd_sum (fun j => if fd_sR M j > j ∧ fd_sR M (fd_sR M j).toNat = j then 1 else 0) k + (if fd_sR M k > (k : Int) ∧ _ then 1 else 0)
          rw [if_pos ⟨by omega, Classical.not_not.mp h58⟩]
        rw [e5]
        exact ih (k + 1) _ (by omega)

theorem fd_l_now7 (M : fd_M) (hP : fd_RP M) (hS : fd_RS M) (hW : fd_RW M) (u1 : fd_V) : ∀ (n : Nat) (k : Nat) (u : fd_V) (hk : (k : Int) + n = M 204 0), fd_run 7 94 83 [fd_R 199, u1, fd_I (fd_sum (fun j => M 208 (15 + j)) k), fd_I ((k : Nat) : Int), u] [] M (some (fd_I (fd_sum (fun j => M 208 (15 + j)) (M 204 0).toNat))) M := by
  obtain ⟨g0, g1, g2, g3, g4, g5⟩ := id hP
  intro n
  induction n with
  | zero =>
    intro k u hk
    have hB : ∀ (q0 : Int), fd_bl 5 (List.drop 83 fd_c94) [fd_R 199, u1, fd_I (fd_sum (fun j => M 208 (15 + j)) k), fd_I q0, u] [] M = some (true, [fd_R 199, u1, fd_I (fd_sum (fun j => M 208 (15 + j)) k), fd_I q0, u], [fd_I (M 204 0), fd_I q0], M) := fun _ => rfl
    refine fd_u_blk 5 (C := fd_c94) (b := true) (L' := [fd_R 199, u1, fd_I (fd_sum (fun j => M 208 (15 + j)) k), fd_I ((k : Nat) : Int), u]) (st' := [fd_I (M 204 0), fd_I ((k : Nat) : Int)]) (M' := M) rfl (hB ((k : Nat) : Int)) (j := 88) rfl (rfl) ?_
    clear hB
    refine fd_u_br (C := fd_c94) (t := 100) (e := 89) (st' := []) (c := (M 204 0) ≤ ((k : Nat) : Int)) (b := (fd_rng ((k : Nat) : Int) && fd_rng (M 204 0))) rfl rfl rfl (fd_bA (fd_bR (by omega) (by omega)) (fd_bR (by omega) (by omega))) (fun h88 => ?_) (fun h88 => absurd h88 (by omega))
    have hB : ∀ (q0 : Int), fd_bl 1 (List.drop 100 fd_c94) [fd_R 199, u1, fd_I (fd_sum (fun j => M 208 (15 + j)) k), fd_I q0, u] [] M = some (true, [fd_R 199, u1, fd_I (fd_sum (fun j => M 208 (15 + j)) k), fd_I q0, u], [fd_I (fd_sum (fun j => M 208 (15 + j)) k)], M) := fun _ => rfl
    refine fd_u_blk 1 (C := fd_c94) (b := true) (L' := [fd_R 199, u1, fd_I (fd_sum (fun j => M 208 (15 + j)) k), fd_I ((k : Nat) : Int), u]) (st' := [fd_I (fd_sum (fun j => M 208 (15 + j)) k)]) (M' := M) rfl (hB ((k : Nat) : Int)) (j := 101) rfl (rfl) ?_
    clear hB
    refine fd_u_ret (C := fd_c94) (b := true) (r' := some (fd_I (fd_sum (fun j => M 208 (15 + j)) k))) rfl rfl rfl (rfl) ?_ ?_
    · rw [show (M 204 0).toNat = k by omega]
    · rfl
  | succ n ih =>
    intro k u hk
    have hB : ∀ (q0 : Int), fd_bl 5 (List.drop 83 fd_c94) [fd_R 199, u1, fd_I (fd_sum (fun j => M 208 (15 + j)) k), fd_I q0, u] [] M = some (true, [fd_R 199, u1, fd_I (fd_sum (fun j => M 208 (15 + j)) k), fd_I q0, u], [fd_I (M 204 0), fd_I q0], M) := fun _ => rfl
    refine fd_u_blk 5 (C := fd_c94) (b := true) (L' := [fd_R 199, u1, fd_I (fd_sum (fun j => M 208 (15 + j)) k), fd_I ((k : Nat) : Int), u]) (st' := [fd_I (M 204 0), fd_I ((k : Nat) : Int)]) (M' := M) rfl (hB ((k : Nat) : Int)) (j := 88) rfl (rfl) ?_
    clear hB
    refine fd_u_br (C := fd_c94) (t := 100) (e := 89) (st' := []) (c := (M 204 0) ≤ ((k : Nat) : Int)) (b := (fd_rng ((k : Nat) : Int) && fd_rng (M 204 0))) rfl rfl rfl (fd_bA (fd_bR (by omega) (by omega)) (fd_bR (by omega) (by omega))) (fun h88 => absurd h88 (by omega)) (fun h88 => ?_)
    have hB : ∀ (q0 : Int), fd_bl 7 (List.drop 89 fd_c94) [fd_R 199, u1, fd_I (fd_sum (fun j => M 208 (15 + j)) k), fd_I q0, u] [] M = some ((fd_isA true M 208 20 (15 + q0) && true), [fd_R 199, u1, fd_I (fd_sum (fun j => M 208 (15 + j)) k), fd_I q0, u], [fd_I (M 208 (15 + q0).toNat), fd_I (fd_sum (fun j => M 208 (15 + j)) k)], M) := fun _ => rfl
    refine fd_u_blk 7 (C := fd_c94) (b := (fd_isA true M 208 20 (15 + ((k : Nat) : Int)) && true)) (L' := [fd_R 199, u1, fd_I (fd_sum (fun j => M 208 (15 + j)) k), fd_I ((k : Nat) : Int), u]) (st' := [fd_I (M 208 (15 + ((k : Nat) : Int)).toNat), fd_I (fd_sum (fun j => M 208 (15 + j)) k)]) (M' := M) rfl (hB ((k : Nat) : Int)) (j := 96) rfl (fd_bA (fd_iA fd_sh208 (by omega) (by omega)) (rfl)) ?_
    clear hB
    rw [show (15 + ((k : Nat) : Int)).toNat = 15 + k by omega]
    have hB : ∀ (q0 : Int), fd_bl 3 (List.drop 96 fd_c94) [fd_R 199, u1, fd_I (fd_sum (fun j => M 208 (15 + j)) k), fd_I q0, u] [fd_I (M 208 (15 + k)), fd_I (fd_sum (fun j => M 208 (15 + j)) k)] M = some (true, [fd_R 199, u1, fd_I ((fd_sum (fun j => M 208 (15 + j)) k) + (M 208 (15 + k))), fd_I (q0 + 1), u], [], M) := fun _ => rfl
    refine fd_u_blk 3 (C := fd_c94) (b := true) (L' := [fd_R 199, u1, fd_I ((fd_sum (fun j => M 208 (15 + j)) k) + (M 208 (15 + k))), fd_I (((k + 1) : Nat) : Int), u]) (st' := []) (M' := M) rfl (hB ((k : Nat) : Int)) (j := 99) rfl (rfl) ?_
    clear hB
    refine fd_u_jmp (C := fd_c94) (j := 83) (st' := []) rfl rfl (b := true) rfl rfl ?_
    exact ih (k + 1) _ (by omega)

theorem fd_f_now (M : fd_M) (hP : fd_RP M) (hS : fd_RS M) (hW : fd_RW M) (w : Int) (hw : -2147483648 ≤ w ∧ w < 2147483648) (u2 u3 u4 : fd_V) : fd_run 7 94 2 [fd_R 199, fd_I w, u2, u3, u4] [] M (some (fd_I (fd_A_now M w))) M := by
  obtain ⟨g0, g1, g2, g3, g4, g5⟩ := id hP
  obtain ⟨s1, s2, s3, s4, s5, s6⟩ := id hS
  refine fd_u_blk 3 (C := fd_c94) (b := true) (L' := [fd_R 199, fd_I w, fd_I 0, u3, u4]) (st' := [fd_I w]) (M' := M) rfl rfl (j := 5) rfl (rfl) ?_
  by_cases h5_0 : w = 0
  · refine fd_u_jmp (C := fd_c94) (j := 6) (st' := []) rfl rfl (b := fd_rng w) (by rw [h5_0]; rfl) (fd_bR (by omega) (by omega)) ?_
    refine fd_u_blk 1 (C := fd_c94) (b := true) (L' := [fd_R 199, fd_I w, fd_I 0, u3, u4]) (st' := [fd_R 199]) (M' := M) rfl rfl (j := 7) rfl (rfl) ?_
    refine fd_u_call (C := fd_c94) (d0 := 5) (mid := 77) (np := 1) (args := [fd_R 199]) (r1 := some (fd_I (fd_sum (fd_dR M) (M 204 0).toNat))) (M1 := M) (st' := [fd_I (fd_sum (fd_dR M) (M 204 0).toNat)]) rfl rfl rfl rfl rfl rfl (rfl) (fd_r_dues M hP hS hW) rfl (by omega) ?_
    refine fd_u_ret (C := fd_c94) (b := true) (r' := some (fd_I (fd_sum (fd_dR M) (M 204 0).toNat))) rfl rfl rfl (rfl) ?_ ?_
    · first | (rw [fd_A_now, if_pos h5_0]; done) | (rw [fd_A_now, if_pos h5_0]; rfl) | (rw [fd_A_now, if_pos h5_0, h5_0]; rfl) | (rw [fd_A_now, if_neg h5_0, if_pos h5_1]; done) | (rw [fd_A_now, if_neg h5_0, if_pos h5_1]; rfl) | (rw [fd_A_now, if_neg h5_0, if_pos h5_1, h5_1]; rfl) | (rw [fd_A_now, if_neg h5_0, if_neg h5_1, if_pos h5_2]; done) | (rw [fd_A_now, if_neg h5_0, if_neg h5_1, if_pos h5_2]; rfl) | (rw [fd_A_now, if_neg h5_0, if_neg h5_1, if_pos h5_2, h5_2]; rfl) | (rw [fd_A_now, if_neg h5_0, if_neg h5_1, if_neg h5_2, if_pos h5_3]; done) | (rw [fd_A_now, if_neg h5_0, if_neg h5_1, if_neg h5_2, if_pos h5_3]; rfl) | (rw [fd_A_now, if_neg h5_0, if_neg h5_1, if_neg h5_2, if_pos h5_3, h5_3]; rfl) | (rw [fd_A_now, if_neg h5_0, if_neg h5_1, if_neg h5_2, if_neg h5_3, if_pos h5_4]; done) | (rw [fd_A_now, if_neg h5_0, if_neg h5_1, if_neg h5_2, if_neg h5_3, if_pos h5_4]; rfl) | (rw [fd_A_now, if_neg h5_0, if_neg h5_1, if_neg h5_2, if_neg h5_3, if_pos h5_4, h5_4]; rfl) | (rw [fd_A_now, if_neg h5_0, if_neg h5_1, if_neg h5_2, if_neg h5_3, if_neg h5_4, if_pos h5_5]; done) | (rw [fd_A_now, if_neg h5_0, if_neg h5_1, if_neg h5_2, if_neg h5_3, if_neg h5_4, if_pos h5_5]; rfl) | (rw [fd_A_now, if_neg h5_0, if_neg h5_1, if_neg h5_2, if_neg h5_3, if_neg h5_4, if_pos h5_5, h5_5]; rfl) | (rw [fd_A_now, if_neg h5_0, if_neg h5_1, if_neg h5_2, if_neg h5_3, if_neg h5_4, if_neg h5_5, if_pos h5_6]; done) | (rw [fd_A_now, if_neg h5_0, if_neg h5_1, if_neg h5_2, if_neg h5_3, if_neg h5_4, if_neg h5_5, if_pos h5_6]; rfl) | (rw [fd_A_now, if_neg h5_0, if_neg h5_1, if_neg h5_2, if_neg h5_3, if_neg h5_4, if_neg h5_5, if_pos h5_6, h5_6]; rfl) | (rw [fd_A_now, if_neg h5_0, if_neg h5_1, if_neg h5_2, if_neg h5_3, if_neg h5_4, if_neg h5_5, if_neg h5_6, if_pos h5_7]; done) | (rw [fd_A_now, if_neg h5_0, if_neg h5_1, if_neg h5_2, if_neg h5_3, if_neg h5_4, if_neg h5_5, if_neg h5_6, if_pos h5_7]; rfl) | (rw [fd_A_now, if_neg h5_0, if_neg h5_1, if_neg h5_2, if_neg h5_3, if_neg h5_4, if_neg h5_5, if_neg h5_6, if_pos h5_7, h5_7]; rfl) | (rw [fd_A_now, if_neg h5_0, if_neg h5_1, if_neg h5_2, if_neg h5_3, if_neg h5_4, if_neg h5_5, if_neg h5_6, if_neg h5_7]; done) | (rw [fd_A_now, if_neg h5_0, if_neg h5_1, if_neg h5_2, if_neg h5_3, if_neg h5_4, if_neg h5_5, if_neg h5_6, if_neg h5_7]; rfl)
    · rfl
  by_cases h5_1 : w = 1
  · refine fd_u_jmp (C := fd_c94) (j := 9) (st' := []) rfl rfl (b := fd_rng w) (by rw [h5_1]; rfl) (fd_bR (by omega) (by omega)) ?_
    refine fd_u_blk 4 (C := fd_c94) (b := true) (L' := [fd_R 199, fd_I w, fd_I 0, u3, u4]) (st' := [fd_I (M 208 12)]) (M' := M) rfl rfl (j := 13) rfl (rfl) ?_
    refine fd_u_ret (C := fd_c94) (b := true) (r' := some (fd_I (M 208 12))) rfl rfl rfl (rfl) ?_ ?_
    · first | (rw [fd_A_now, if_pos h5_0]; done) | (rw [fd_A_now, if_pos h5_0]; rfl) | (rw [fd_A_now, if_pos h5_0, h5_0]; rfl) | (rw [fd_A_now, if_neg h5_0, if_pos h5_1]; done) | (rw [fd_A_now, if_neg h5_0, if_pos h5_1]; rfl) | (rw [fd_A_now, if_neg h5_0, if_pos h5_1, h5_1]; rfl) | (rw [fd_A_now, if_neg h5_0, if_neg h5_1, if_pos h5_2]; done) | (rw [fd_A_now, if_neg h5_0, if_neg h5_1, if_pos h5_2]; rfl) | (rw [fd_A_now, if_neg h5_0, if_neg h5_1, if_pos h5_2, h5_2]; rfl) | (rw [fd_A_now, if_neg h5_0, if_neg h5_1, if_neg h5_2, if_pos h5_3]; done) | (rw [fd_A_now, if_neg h5_0, if_neg h5_1, if_neg h5_2, if_pos h5_3]; rfl) | (rw [fd_A_now, if_neg h5_0, if_neg h5_1, if_neg h5_2, if_pos h5_3, h5_3]; rfl) | (rw [fd_A_now, if_neg h5_0, if_neg h5_1, if_neg h5_2, if_neg h5_3, if_pos h5_4]; done) | (rw [fd_A_now, if_neg h5_0, if_neg h5_1, if_neg h5_2, if_neg h5_3, if_pos h5_4]; rfl) | (rw [fd_A_now, if_neg h5_0, if_neg h5_1, if_neg h5_2, if_neg h5_3, if_pos h5_4, h5_4]; rfl) | (rw [fd_A_now, if_neg h5_0, if_neg h5_1, if_neg h5_2, if_neg h5_3, if_neg h5_4, if_pos h5_5]; done) | (rw [fd_A_now, if_neg h5_0, if_neg h5_1, if_neg h5_2, if_neg h5_3, if_neg h5_4, if_pos h5_5]; rfl) | (rw [fd_A_now, if_neg h5_0, if_neg h5_1, if_neg h5_2, if_neg h5_3, if_neg h5_4, if_pos h5_5, h5_5]; rfl) | (rw [fd_A_now, if_neg h5_0, if_neg h5_1, if_neg h5_2, if_neg h5_3, if_neg h5_4, if_neg h5_5, if_pos h5_6]; done) | (rw [fd_A_now, if_neg h5_0, if_neg h5_1, if_neg h5_2, if_neg h5_3, if_neg h5_4, if_neg h5_5, if_pos h5_6]; rfl) | (rw [fd_A_now, if_neg h5_0, if_neg h5_1, if_neg h5_2, if_neg h5_3, if_neg h5_4, if_neg h5_5, if_pos h5_6, h5_6]; rfl) | (rw [fd_A_now, if_neg h5_0, if_neg h5_1, if_neg h5_2, if_neg h5_3, if_neg h5_4, if_neg h5_5, if_neg h5_6, if_pos h5_7]; done) | (rw [fd_A_now, if_neg h5_0, if_neg h5_1, if_neg h5_2, if_neg h5_3, if_neg h5_4, if_neg h5_5, if_neg h5_6, if_pos h5_7]; rfl) | (rw [fd_A_now, if_neg h5_0, if_neg h5_1, if_neg h5_2, if_neg h5_3, if_neg h5_4, if_neg h5_5, if_neg h5_6, if_pos h5_7, h5_7]; rfl) | (rw [fd_A_now, if_neg h5_0, if_neg h5_1, if_neg h5_2, if_neg h5_3, if_neg h5_4, if_neg h5_5, if_neg h5_6, if_neg h5_7]; done) | (rw [fd_A_now, if_neg h5_0, if_neg h5_1, if_neg h5_2, if_neg h5_3, if_neg h5_4, if_neg h5_5, if_neg h5_6, if_neg h5_7]; rfl)
    · rfl
  by_cases h5_2 : w = 2
  · refine fd_u_jmp (C := fd_c94) (j := 14) (st' := []) rfl rfl (b := fd_rng w) (by rw [h5_2]; rfl) (fd_bR (by omega) (by omega)) ?_
    refine fd_u_blk 2 (C := fd_c94) (b := true) (L' := [fd_R 199, fd_I w, fd_I 0, fd_I 0, u4]) (st' := []) (M' := M) rfl rfl (j := 16) rfl (rfl) ?_
    rw [fd_A_now, if_neg h5_0, if_neg h5_1, if_pos h5_2]
    exact fd_l_now2 M hP hS hW _ (M 204 0).toNat 0 _ (by omega)
  by_cases h5_3 : w = 3
  · refine fd_u_jmp (C := fd_c94) (j := 38) (st' := []) rfl rfl (b := fd_rng w) (by rw [h5_3]; rfl) (fd_bR (by omega) (by omega)) ?_
    refine fd_u_blk 2 (C := fd_c94) (b := true) (L' := [fd_R 199, fd_I w, fd_I 0, fd_I 0, u4]) (st' := []) (M' := M) rfl rfl (j := 40) rfl (rfl) ?_
    rw [fd_A_now, if_neg h5_0, if_neg h5_1, if_neg h5_2, if_pos h5_3]
    exact fd_l_now3 M hP hS hW _ (M 204 0).toNat 0 _ (by omega)
  by_cases h5_4 : w = 4
  · refine fd_u_jmp (C := fd_c94) (j := 68) (st' := []) rfl rfl (b := fd_rng w) (by rw [h5_4]; rfl) (fd_bR (by omega) (by omega)) ?_
    refine fd_u_blk 1 (C := fd_c94) (b := true) (L' := [fd_R 199, fd_I w, fd_I 0, u3, u4]) (st' := [fd_R 199]) (M' := M) rfl rfl (j := 69) rfl (rfl) ?_
    refine fd_u_call (C := fd_c94) (d0 := 1) (mid := 86) (np := 1) (args := [fd_R 199]) (r1 := some (fd_I (fd_sum (fun y => fd_many (M 208 (21 + y))) 7))) (M1 := M) (st' := [fd_I (fd_sum (fun y => fd_many (M 208 (21 + y))) 7)]) rfl rfl rfl rfl rfl rfl (rfl) (fd_r_carts M hS) rfl (by omega) ?_
    refine fd_u_ret (C := fd_c94) (b := true) (r' := some (fd_I (fd_sum (fun y => fd_many (M 208 (21 + y))) 7))) rfl rfl rfl (rfl) ?_ ?_
    · first | (rw [fd_A_now, if_pos h5_0]; done) | (rw [fd_A_now, if_pos h5_0]; rfl) | (rw [fd_A_now, if_pos h5_0, h5_0]; rfl) | (rw [fd_A_now, if_neg h5_0, if_pos h5_1]; done) | (rw [fd_A_now, if_neg h5_0, if_pos h5_1]; rfl) | (rw [fd_A_now, if_neg h5_0, if_pos h5_1, h5_1]; rfl) | (rw [fd_A_now, if_neg h5_0, if_neg h5_1, if_pos h5_2]; done) | (rw [fd_A_now, if_neg h5_0, if_neg h5_1, if_pos h5_2]; rfl) | (rw [fd_A_now, if_neg h5_0, if_neg h5_1, if_pos h5_2, h5_2]; rfl) | (rw [fd_A_now, if_neg h5_0, if_neg h5_1, if_neg h5_2, if_pos h5_3]; done) | (rw [fd_A_now, if_neg h5_0, if_neg h5_1, if_neg h5_2, if_pos h5_3]; rfl) | (rw [fd_A_now, if_neg h5_0, if_neg h5_1, if_neg h5_2, if_pos h5_3, h5_3]; rfl) | (rw [fd_A_now, if_neg h5_0, if_neg h5_1, if_neg h5_2, if_neg h5_3, if_pos h5_4]; done) | (rw [fd_A_now, if_neg h5_0, if_neg h5_1, if_neg h5_2, if_neg h5_3, if_pos h5_4]; rfl) | (rw [fd_A_now, if_neg h5_0, if_neg h5_1, if_neg h5_2, if_neg h5_3, if_pos h5_4, h5_4]; rfl) | (rw [fd_A_now, if_neg h5_0, if_neg h5_1, if_neg h5_2, if_neg h5_3, if_neg h5_4, if_pos h5_5]; done) | (rw [fd_A_now, if_neg h5_0, if_neg h5_1, if_neg h5_2, if_neg h5_3, if_neg h5_4, if_pos h5_5]; rfl) | (rw [fd_A_now, if_neg h5_0, if_neg h5_1, if_neg h5_2, if_neg h5_3, if_neg h5_4, if_pos h5_5, h5_5]; rfl) | (rw [fd_A_now, if_neg h5_0, if_neg h5_1, if_neg h5_2, if_neg h5_3, if_neg h5_4, if_neg h5_5, if_pos h5_6]; done) | (rw [fd_A_now, if_neg h5_0, if_neg h5_1, if_neg h5_2, if_neg h5_3, if_neg h5_4, if_neg h5_5, if_pos h5_6]; rfl) | (rw [fd_A_now, if_neg h5_0, if_neg h5_1, if_neg h5_2, if_neg h5_3, if_neg h5_4, if_neg h5_5, if_pos h5_6, h5_6]; rfl) | (rw [fd_A_now, if_neg h5_0, if_neg h5_1, if_neg h5_2, if_neg h5_3, if_neg h5_4, if_neg h5_5, if_neg h5_6, if_pos h5_7]; done) | (rw [fd_A_now, if_neg h5_0, if_neg h5_1, if_neg h5_2, if_neg h5_3, if_neg h5_4, if_neg h5_5, if_neg h5_6, if_pos h5_7]; rfl) | (rw [fd_A_now, if_neg h5_0, if_neg h5_1, if_neg h5_2, if_neg h5_3, if_neg h5_4, if_neg h5_5, if_neg h5_6, if_pos h5_7, h5_7]; rfl) | (rw [fd_A_now, if_neg h5_0, if_neg h5_1, if_neg h5_2, if_neg h5_3, if_neg h5_4, if_neg h5_5, if_neg h5_6, if_neg h5_7]; done) | (rw [fd_A_now, if_neg h5_0, if_neg h5_1, if_neg h5_2, if_neg h5_3, if_neg h5_4, if_neg h5_5, if_neg h5_6, if_neg h5_7]; rfl)
    · rfl
  by_cases h5_5 : w = 5
  · refine fd_u_jmp (C := fd_c94) (j := 71) (st' := []) rfl rfl (b := fd_rng w) (by rw [h5_5]; rfl) (fd_bR (by omega) (by omega)) ?_
    refine fd_u_blk 4 (C := fd_c94) (b := true) (L' := [fd_R 199, fd_I w, fd_I 0, u3, u4]) (st' := [fd_I (M 208 13)]) (M' := M) rfl rfl (j := 75) rfl (rfl) ?_
    refine fd_u_ret (C := fd_c94) (b := true) (r' := some (fd_I (M 208 13))) rfl rfl rfl (rfl) ?_ ?_
    · first | (rw [fd_A_now, if_pos h5_0]; done) | (rw [fd_A_now, if_pos h5_0]; rfl) | (rw [fd_A_now, if_pos h5_0, h5_0]; rfl) | (rw [fd_A_now, if_neg h5_0, if_pos h5_1]; done) | (rw [fd_A_now, if_neg h5_0, if_pos h5_1]; rfl) | (rw [fd_A_now, if_neg h5_0, if_pos h5_1, h5_1]; rfl) | (rw [fd_A_now, if_neg h5_0, if_neg h5_1, if_pos h5_2]; done) | (rw [fd_A_now, if_neg h5_0, if_neg h5_1, if_pos h5_2]; rfl) | (rw [fd_A_now, if_neg h5_0, if_neg h5_1, if_pos h5_2, h5_2]; rfl) | (rw [fd_A_now, if_neg h5_0, if_neg h5_1, if_neg h5_2, if_pos h5_3]; done) | (rw [fd_A_now, if_neg h5_0, if_neg h5_1, if_neg h5_2, if_pos h5_3]; rfl) | (rw [fd_A_now, if_neg h5_0, if_neg h5_1, if_neg h5_2, if_pos h5_3, h5_3]; rfl) | (rw [fd_A_now, if_neg h5_0, if_neg h5_1, if_neg h5_2, if_neg h5_3, if_pos h5_4]; done) | (rw [fd_A_now, if_neg h5_0, if_neg h5_1, if_neg h5_2, if_neg h5_3, if_pos h5_4]; rfl) | (rw [fd_A_now, if_neg h5_0, if_neg h5_1, if_neg h5_2, if_neg h5_3, if_pos h5_4, h5_4]; rfl) | (rw [fd_A_now, if_neg h5_0, if_neg h5_1, if_neg h5_2, if_neg h5_3, if_neg h5_4, if_pos h5_5]; done) | (rw [fd_A_now, if_neg h5_0, if_neg h5_1, if_neg h5_2, if_neg h5_3, if_neg h5_4, if_pos h5_5]; rfl) | (rw [fd_A_now, if_neg h5_0, if_neg h5_1, if_neg h5_2, if_neg h5_3, if_neg h5_4, if_pos h5_5, h5_5]; rfl) | (rw [fd_A_now, if_neg h5_0, if_neg h5_1, if_neg h5_2, if_neg h5_3, if_neg h5_4, if_neg h5_5, if_pos h5_6]; done) | (rw [fd_A_now, if_neg h5_0, if_neg h5_1, if_neg h5_2, if_neg h5_3, if_neg h5_4, if_neg h5_5, if_pos h5_6]; rfl) | (rw [fd_A_now, if_neg h5_0, if_neg h5_1, if_neg h5_2, if_neg h5_3, if_neg h5_4, if_neg h5_5, if_pos h5_6, h5_6]; rfl) | (rw [fd_A_now, if_neg h5_0, if_neg h5_1, if_neg h5_2, if_neg h5_3, if_neg h5_4, if_neg h5_5, if_neg h5_6, if_pos h5_7]; done) | (rw [fd_A_now, if_neg h5_0, if_neg h5_1, if_neg h5_2, if_neg h5_3, if_neg h5_4, if_neg h5_5, if_neg h5_6, if_pos h5_7]; rfl) | (rw [fd_A_now, if_neg h5_0, if_neg h5_1, if_neg h5_2, if_neg h5_3, if_neg h5_4, if_neg h5_5, if_neg h5_6, if_pos h5_7, h5_7]; rfl) | (rw [fd_A_now, if_neg h5_0, if_neg h5_1, if_neg h5_2, if_neg h5_3, if_neg h5_4, if_neg h5_5, if_neg h5_6, if_neg h5_7]; done) | (rw [fd_A_now, if_neg h5_0, if_neg h5_1, if_neg h5_2, if_neg h5_3, if_neg h5_4, if_neg h5_5, if_neg h5_6, if_neg h5_7]; rfl)
    · rfl
  by_cases h5_6 : w = 6
  · refine fd_u_jmp (C := fd_c94) (j := 76) (st' := []) rfl rfl (b := fd_rng w) (by rw [h5_6]; rfl) (fd_bR (by omega) (by omega)) ?_
    refine fd_u_blk 4 (C := fd_c94) (b := true) (L' := [fd_R 199, fd_I w, fd_I 0, u3, u4]) (st' := [fd_I (M 208 14)]) (M' := M) rfl rfl (j := 80) rfl (rfl) ?_
    refine fd_u_ret (C := fd_c94) (b := true) (r' := some (fd_I (M 208 14))) rfl rfl rfl (rfl) ?_ ?_
    · first | (rw [fd_A_now, if_pos h5_0]; done) | (rw [fd_A_now, if_pos h5_0]; rfl) | (rw [fd_A_now, if_pos h5_0, h5_0]; rfl) | (rw [fd_A_now, if_neg h5_0, if_pos h5_1]; done) | (rw [fd_A_now, if_neg h5_0, if_pos h5_1]; rfl) | (rw [fd_A_now, if_neg h5_0, if_pos h5_1, h5_1]; rfl) | (rw [fd_A_now, if_neg h5_0, if_neg h5_1, if_pos h5_2]; done) | (rw [fd_A_now, if_neg h5_0, if_neg h5_1, if_pos h5_2]; rfl) | (rw [fd_A_now, if_neg h5_0, if_neg h5_1, if_pos h5_2, h5_2]; rfl) | (rw [fd_A_now, if_neg h5_0, if_neg h5_1, if_neg h5_2, if_pos h5_3]; done) | (rw [fd_A_now, if_neg h5_0, if_neg h5_1, if_neg h5_2, if_pos h5_3]; rfl) | (rw [fd_A_now, if_neg h5_0, if_neg h5_1, if_neg h5_2, if_pos h5_3, h5_3]; rfl) | (rw [fd_A_now, if_neg h5_0, if_neg h5_1, if_neg h5_2, if_neg h5_3, if_pos h5_4]; done) | (rw [fd_A_now, if_neg h5_0, if_neg h5_1, if_neg h5_2, if_neg h5_3, if_pos h5_4]; rfl) | (rw [fd_A_now, if_neg h5_0, if_neg h5_1, if_neg h5_2, if_neg h5_3, if_pos h5_4, h5_4]; rfl) | (rw [fd_A_now, if_neg h5_0, if_neg h5_1, if_neg h5_2, if_neg h5_3, if_neg h5_4, if_pos h5_5]; done) | (rw [fd_A_now, if_neg h5_0, if_neg h5_1, if_neg h5_2, if_neg h5_3, if_neg h5_4, if_pos h5_5]; rfl) | (rw [fd_A_now, if_neg h5_0, if_neg h5_1, if_neg h5_2, if_neg h5_3, if_neg h5_4, if_pos h5_5, h5_5]; rfl) | (rw [fd_A_now, if_neg h5_0, if_neg h5_1, if_neg h5_2, if_neg h5_3, if_neg h5_4, if_neg h5_5, if_pos h5_6]; done) | (rw [fd_A_now, if_neg h5_0, if_neg h5_1, if_neg h5_2, if_neg h5_3, if_neg h5_4, if_neg h5_5, if_pos h5_6]; rfl) | (rw [fd_A_now, if_neg h5_0, if_neg h5_1, if_neg h5_2, if_neg h5_3, if_neg h5_4, if_neg h5_5, if_pos h5_6, h5_6]; rfl) | (rw [fd_A_now, if_neg h5_0, if_neg h5_1, if_neg h5_2, if_neg h5_3, if_neg h5_4, if_neg h5_5, if_neg h5_6, if_pos h5_7]; done) | (rw [fd_A_now, if_neg h5_0, if_neg h5_1, if_neg h5_2, if_neg h5_3, if_neg h5_4, if_neg h5_5, if_neg h5_6, if_pos h5_7]; rfl) | (rw [fd_A_now, if_neg h5_0, if_neg h5_1, if_neg h5_2, if_neg h5_3, if_neg h5_4, if_neg h5_5, if_neg h5_6, if_pos h5_7, h5_7]; rfl) | (rw [fd_A_now, if_neg h5_0, if_neg h5_1, if_neg h5_2, if_neg h5_3, if_neg h5_4, if_neg h5_5, if_neg h5_6, if_neg h5_7]; done) | (rw [fd_A_now, if_neg h5_0, if_neg h5_1, if_neg h5_2, if_neg h5_3, if_neg h5_4, if_neg h5_5, if_neg h5_6, if_neg h5_7]; rfl)
    · rfl
  by_cases h5_7 : w = 7
  · refine fd_u_jmp (C := fd_c94) (j := 81) (st' := []) rfl rfl (b := fd_rng w) (by rw [h5_7]; rfl) (fd_bR (by omega) (by omega)) ?_
    refine fd_u_blk 2 (C := fd_c94) (b := true) (L' := [fd_R 199, fd_I w, fd_I 0, fd_I 0, u4]) (st' := []) (M' := M) rfl rfl (j := 83) rfl (rfl) ?_
    rw [fd_A_now, if_neg h5_0, if_neg h5_1, if_neg h5_2, if_neg h5_3, if_neg h5_4, if_neg h5_5, if_neg h5_6, if_pos h5_7]
    exact fd_l_now7 M hP hS hW _ (M 204 0).toNat 0 _ (by omega)
  refine fd_u_jmp (C := fd_c94) (j := 102) (st' := []) rfl rfl (b := fd_rng w) (fd_sw_out (by simp only [fd_a, List.getD_cons_succ, List.getD_cons_zero, List.length_cons, List.length_nil]; omega)) (fd_bR (by omega) (by omega)) ?_
  refine fd_u_blk 1 (C := fd_c94) (b := true) (L' := [fd_R 199, fd_I w, fd_I 0, u3, u4]) (st' := [fd_I (-1)]) (M' := M) rfl rfl (j := 103) rfl (rfl) ?_
  refine fd_u_ret (C := fd_c94) (b := true) (r' := some (fd_I (-1))) rfl rfl rfl (rfl) ?_ ?_
  · first | (rw [fd_A_now, if_pos h5_0]; done) | (rw [fd_A_now, if_pos h5_0]; rfl) | (rw [fd_A_now, if_pos h5_0, h5_0]; rfl) | (rw [fd_A_now, if_neg h5_0, if_pos h5_1]; done) | (rw [fd_A_now, if_neg h5_0, if_pos h5_1]; rfl) | (rw [fd_A_now, if_neg h5_0, if_pos h5_1, h5_1]; rfl) | (rw [fd_A_now, if_neg h5_0, if_neg h5_1, if_pos h5_2]; done) | (rw [fd_A_now, if_neg h5_0, if_neg h5_1, if_pos h5_2]; rfl) | (rw [fd_A_now, if_neg h5_0, if_neg h5_1, if_pos h5_2, h5_2]; rfl) | (rw [fd_A_now, if_neg h5_0, if_neg h5_1, if_neg h5_2, if_pos h5_3]; done) | (rw [fd_A_now, if_neg h5_0, if_neg h5_1, if_neg h5_2, if_pos h5_3]; rfl) | (rw [fd_A_now, if_neg h5_0, if_neg h5_1, if_neg h5_2, if_pos h5_3, h5_3]; rfl) | (rw [fd_A_now, if_neg h5_0, if_neg h5_1, if_neg h5_2, if_neg h5_3, if_pos h5_4]; done) | (rw [fd_A_now, if_neg h5_0, if_neg h5_1, if_neg h5_2, if_neg h5_3, if_pos h5_4]; rfl) | (rw [fd_A_now, if_neg h5_0, if_neg h5_1, if_neg h5_2, if_neg h5_3, if_pos h5_4, h5_4]; rfl) | (rw [fd_A_now, if_neg h5_0, if_neg h5_1, if_neg h5_2, if_neg h5_3, if_neg h5_4, if_pos h5_5]; done) | (rw [fd_A_now, if_neg h5_0, if_neg h5_1, if_neg h5_2, if_neg h5_3, if_neg h5_4, if_pos h5_5]; rfl) | (rw [fd_A_now, if_neg h5_0, if_neg h5_1, if_neg h5_2, if_neg h5_3, if_neg h5_4, if_pos h5_5, h5_5]; rfl) | (rw [fd_A_now, if_neg h5_0, if_neg h5_1, if_neg h5_2, if_neg h5_3, if_neg h5_4, if_neg h5_5, if_pos h5_6]; done) | (rw [fd_A_now, if_neg h5_0, if_neg h5_1, if_neg h5_2, if_neg h5_3, if_neg h5_4, if_neg h5_5, if_pos h5_6]; rfl) | (rw [fd_A_now, if_neg h5_0, if_neg h5_1, if_neg h5_2, if_neg h5_3, if_neg h5_4, if_neg h5_5, if_pos h5_6, h5_6]; rfl) | (rw [fd_A_now, if_neg h5_0, if_neg h5_1, if_neg h5_2, if_neg h5_3, if_neg h5_4, if_neg h5_5, if_neg h5_6, if_pos h5_7]; done) | (rw [fd_A_now, if_neg h5_0, if_neg h5_1, if_neg h5_2, if_neg h5_3, if_neg h5_4, if_neg h5_5, if_neg h5_6, if_pos h5_7]; rfl) | (rw [fd_A_now, if_neg h5_0, if_neg h5_1, if_neg h5_2, if_neg h5_3, if_neg h5_4, if_neg h5_5, if_neg h5_6, if_pos h5_7, h5_7]; rfl) | (rw [fd_A_now, if_neg h5_0, if_neg h5_1, if_neg h5_2, if_neg h5_3, if_neg h5_4, if_neg h5_5, if_neg h5_6, if_neg h5_7]; done) | (rw [fd_A_now, if_neg h5_0, if_neg h5_1, if_neg h5_2, if_neg h5_3, if_neg h5_4, if_neg h5_5, if_neg h5_6, if_neg h5_7]; rfl)
  · rfl

theorem fd_r_now (M : fd_M) (hP : fd_RP M) (hS : fd_RS M) (w : Int) (hw : -2147483648 ≤ w ∧ w < 2147483648) : fd_call 7 94 [fd_R 199, fd_I w] M (some (fd_I (fd_A_now (fd_tak M) w))) (fd_tak M) := by
  refine fd_u_in (L := [fd_R 199, fd_I w, fd_R 1003, fd_R 1003, fd_R 1003]) rfl ?_
  refine fd_u_blk 1 (C := fd_c94) (b := true) (L' := [fd_R 199, fd_I w, fd_R 1003, fd_R 1003, fd_R 1003]) (st' := [fd_R 199]) (M' := M) rfl rfl (j := 1) rfl (rfl) ?_
  refine fd_u_call (C := fd_c94) (d0 := 0) (mid := 72) (np := 1) (args := [fd_R 199]) (r1 := none) (M1 := (fd_tak M)) (st' := []) rfl rfl rfl rfl rfl rfl (rfl) (fd_r_take M hS.2.2.2.2.1) rfl (by omega) ?_
  exact fd_f_now (fd_tak M) (fd_RP_tak hP) (fd_RS_tak hS) (fd_RW_tak hP hS) w hw _ _ _

def fd_TXR (M : fd_M) : Prop := 0 ≤ M 199 2 ∧ M 199 2 ≤ 150
def fd_A_type (M : fd_M) (c : Int) : Int := if ¬ (0 ≤ c ∧ c ≤ 255) then -1 else if M 199 2 = 150 then -3 else M 199 2 + 1
def fd_B_type (M : fd_M) (c : Int) : fd_M := if ¬ (0 ≤ c ∧ c ≤ 255) then M else if M 199 2 = 150 then M else fd_up (fd_up M 200 (M 199 2).toNat (fd_i2b c)) 199 2 (M 199 2 + 1)
theorem fd_i2bP : ∀ n : Fin 256, fd_i2b (n.val : Int) = if n.val < 128 then (n.val : Int) else (n.val : Int) - 256 := by decide +kernel
theorem fd_i2b_eq {c : Int} (h : 0 ≤ c ∧ c ≤ 255) : fd_i2b c = if c < 128 then c else c - 256 := by
  obtain ⟨n, rfl⟩ := Int.eq_ofNat_of_zero_le h.1
  have z := fd_i2bP ⟨n, by omega⟩
  rw [z]
  by_cases h2 : n < 128
  · rw [if_pos h2, if_pos (by omega)]
  · rw [if_neg h2, if_neg (by omega)]
theorem fd_i2b_rng {c : Int} (h : 0 ≤ c ∧ c ≤ 255) : -128 ≤ fd_i2b c ∧ fd_i2b c ≤ 127 := by
  rw [fd_i2b_eq h]
  split <;> omega
theorem fd_r_type (M : fd_M) (h2 : 0 ≤ M 199 2 ∧ M 199 2 ≤ 150) (c : Int) (hc : -2147483648 ≤ c ∧ c < 2147483648) : fd_call 1 53 [fd_R 199, fd_I c] M (some (fd_I (fd_A_type M c))) (fd_B_type M c) := by
  refine fd_u_in (L := [fd_R 199, fd_I c]) rfl ?_
  refine fd_u_blk 3 (C := fd_c53) (b := true) (L' := [fd_R 199, fd_I c]) (st' := [fd_I 255, fd_I 0, fd_I c]) (M' := M) rfl rfl (j := 3) rfl (rfl) ?_
  refine fd_u_call (C := fd_c53) (d0 := 0) (mid := 52) (np := 3) (args := [fd_I c, fd_I 0, fd_I 255]) (r1 := some (fd_I (fd_bi (0 ≤ c ∧ c ≤ 255)))) (M1 := M) (st' := [fd_I (fd_bi (0 ≤ c ∧ c ≤ 255))]) rfl rfl rfl rfl rfl rfl (rfl) (fd_r_in M c 0 255 (by omega) (by omega) (by omega)) rfl (by omega) ?_
  refine fd_u_br (C := fd_c53) (t := 7) (e := 5) (st' := []) (c := ¬ (fd_bi (0 ≤ c ∧ c ≤ 255)) = 0) (b := (fd_rng (fd_bi (0 ≤ c ∧ c ≤ 255)))) rfl rfl rfl (fd_biR) (fun h4 => ?_) (fun h4 => ?_)
  · have h4 := fd_biT.mp h4
    refine fd_u_blk 3 (C := fd_c53) (b := true) (L' := [fd_R 199, fd_I c]) (st' := [fd_I 150, fd_I (M 199 2)]) (M' := M) rfl rfl (j := 10) rfl (rfl) ?_
    refine fd_u_br (C := fd_c53) (t := 13) (e := 11) (st' := []) (c := ¬ (M 199 2) = 150) (b := (fd_rng (M 199 2) && fd_rng 150)) rfl rfl rfl (fd_bA (fd_bR (by omega) (by omega)) (fd_bR (by omega) (by omega))) (fun h10 => ?_) (fun h10 => ?_)
    · have qi := fd_i2b_rng h4
      refine fd_u_blk 15 (C := fd_c53) (b := (((fd_inb (M 199 2) 150 && fd_inb ((fd_i2b c) + 128) 256) || (fd_isA true M 200 22 (M 199 2) && fd_inb (fd_i2b c) 2)) && true)) (L' := [fd_R 199, fd_I c]) (st' := [fd_I ((M 199 2) + 1)]) (M' := (fd_up (fd_up M 200 (M 199 2).toNat (fd_i2b c)) 199 2 ((M 199 2) + 1))) rfl rfl (j := 28) rfl (fd_bA (by rw [fd_bA (fd_bI (i := (M 199 2)) (n := 150) (by omega) (by omega)) (fd_bI (i := (fd_i2b c) + 128) (n := 256) (by omega) (by omega))]; rfl) (rfl)) ?_
      refine fd_u_ret (C := fd_c53) (b := true) (r' := some (fd_I ((M 199 2) + 1))) rfl rfl rfl (rfl) ?_ ?_
      · rw [fd_A_type, if_neg (show ¬ ¬ (0 ≤ c ∧ c ≤ 255) by omega), if_neg (show ¬ (M 199 2 = 150) from by omega)]
      · rw [fd_B_type, if_neg (show ¬ ¬ (0 ≤ c ∧ c ≤ 255) by omega), if_neg (show ¬ (M 199 2 = 150) from by omega)]
    · refine fd_u_blk 1 (C := fd_c53) (b := true) (L' := [fd_R 199, fd_I c]) (st' := [fd_I (-3)]) (M' := M) rfl rfl (j := 12) rfl (rfl) ?_
      refine fd_u_ret (C := fd_c53) (b := true) (r' := some (fd_I (-3))) rfl rfl rfl (rfl) ?_ ?_
      · rw [fd_A_type, if_neg (show ¬ ¬ (0 ≤ c ∧ c ≤ 255) by omega), if_pos (show M 199 2 = 150 from by omega)]
      · rw [fd_B_type, if_neg (show ¬ ¬ (0 ≤ c ∧ c ≤ 255) by omega), if_pos (show M 199 2 = 150 from by omega)]
  · have h4 := fd_biF2  h4
    refine fd_u_blk 1 (C := fd_c53) (b := true) (L' := [fd_R 199, fd_I c]) (st' := [fd_I (-1)]) (M' := M) rfl rfl (j := 6) rfl (rfl) ?_
    refine fd_u_ret (C := fd_c53) (b := true) (r' := some (fd_I (-1))) rfl rfl rfl (rfl) ?_ ?_
    · rw [fd_A_type, if_pos (show ¬ (0 ≤ c ∧ c ≤ 255) by omega)]
    · rw [fd_B_type, if_pos (show ¬ (0 ≤ c ∧ c ≤ 255) by omega)]

theorem fd_r_clear (M : fd_M) : fd_call 0 54 [fd_R 199] M (some (fd_I (M 199 2))) (fd_up M 199 2 0) := by
  refine fd_u_in (L := [fd_R 199, fd_R 1003]) rfl ?_
  refine fd_u_blk 7 (C := fd_c54) (b := true) (L' := [fd_R 199, fd_I (M 199 2)]) (st' := [fd_I (M 199 2)]) (M' := (fd_up M 199 2 0)) rfl rfl (j := 7) rfl (rfl) ?_
  refine fd_u_ret (C := fd_c54) (b := true) (r' := some (fd_I (M 199 2))) rfl rfl rfl (rfl) ?_ ?_
  · rfl
  · rfl

theorem fd_r_forget (M : fd_M) : fd_call 0 101 [fd_R 199] M (some (fd_I (M 199 23))) (fd_up M 199 23 0) := by
  refine fd_u_in (L := [fd_R 199, fd_R 1003]) rfl ?_
  refine fd_u_blk 7 (C := fd_c101) (b := true) (L' := [fd_R 199, fd_I (M 199 23)]) (st' := [fd_I (M 199 23)]) (M' := (fd_up M 199 23 0)) rfl rfl (j := 7) rfl (rfl) ?_
  refine fd_u_ret (C := fd_c101) (b := true) (r' := some (fd_I (M 199 23))) rfl rfl rfl (rfl) ?_ ?_
  · rfl
  · rfl

theorem fd_r_trace (M : fd_M) : fd_call 0 111 [fd_R 199] M (some (fd_J (M 199 0))) M := by
  refine fd_u_in (L := [fd_R 199]) rfl ?_
  refine fd_u_blk 2 (C := fd_c111) (b := true) (L' := [fd_R 199]) (st' := [fd_J (M 199 0)]) (M' := M) rfl rfl (j := 2) rfl (rfl) ?_
  refine fd_u_ret (C := fd_c111) (b := true) (r' := some (fd_J (M 199 0))) rfl rfl rfl (rfl) ?_ ?_
  · rfl
  · rfl

def fd_A_tells (M : fd_M) (d w : Int) : Int := if ¬ (0 ≤ d ∧ d < M 204 0 ∧ 0 ≤ w ∧ w ≤ 99) then -1 else if M 199 23 = 6 then -3 else M 199 23 + 1
def fd_B_tells (M : fd_M) (d w : Int) : fd_M := if ¬ (0 ≤ d ∧ d < M 204 0 ∧ 0 ≤ w ∧ w ≤ 99) then M else if M 199 23 = 6 then M else fd_up (fd_up (fd_up M 211 (M 199 23).toNat d) 212 (M 199 23).toNat w) 199 23 (M 199 23 + 1)
theorem fd_r_tells (M : fd_M) (hP : fd_RP M) (h23 : 0 ≤ M 199 23 ∧ M 199 23 ≤ 6) (d : Int) (hd : -2147483648 ≤ d ∧ d < 2147483648) (w : Int) (hw : -2147483648 ≤ w ∧ w < 2147483648) : fd_call 2 100 [fd_R 199, fd_I d, fd_I w] M (some (fd_I (fd_A_tells M d w))) (fd_B_tells M d w) := by
  refine fd_u_in (L := [fd_R 199, fd_I d, fd_I w]) rfl ?_
  obtain ⟨g0, g1, g2, g3, g4, g5⟩ := id hP
  refine fd_u_blk 2 (C := fd_c100) (b := true) (L' := [fd_R 199, fd_I d, fd_I w]) (st' := [fd_I d, fd_R 199]) (M' := M) rfl rfl (j := 2) rfl (rfl) ?_
  refine fd_u_call (C := fd_c100) (d0 := 1) (mid := 66) (np := 2) (args := [fd_R 199, fd_I d]) (r1 := some (fd_I (fd_bi (0 ≤ d ∧ d < M 204 0)))) (M1 := M) (st' := [fd_I (fd_bi (0 ≤ d ∧ d < M 204 0))]) rfl rfl rfl rfl rfl rfl (rfl) (fd_r_isDoor M hP d (by omega)) rfl (by omega) ?_
  refine fd_u_br (C := fd_c100) (t := 9) (e := 4) (st' := []) (c := (fd_bi (0 ≤ d ∧ d < M 204 0)) = 0) (b := (fd_rng (fd_bi (0 ≤ d ∧ d < M 204 0)))) rfl rfl rfl (fd_biR) (fun h3 => ?_) (fun h3 => ?_)
  · have h3 := fd_biF.mp h3
    refine fd_u_blk 1 (C := fd_c100) (b := true) (L' := [fd_R 199, fd_I d, fd_I w]) (st' := [fd_I (-1)]) (M' := M) rfl rfl (j := 10) rfl (rfl) ?_
    refine fd_u_ret (C := fd_c100) (b := true) (r' := some (fd_I (-1))) rfl rfl rfl (rfl) ?_ ?_
    · rw [fd_A_tells, if_pos (show ¬ (0 ≤ d ∧ d < M 204 0 ∧ 0 ≤ w ∧ w ≤ 99) by omega)]
    · rw [fd_B_tells, if_pos (show ¬ (0 ≤ d ∧ d < M 204 0 ∧ 0 ≤ w ∧ w ≤ 99) by omega)]
  · have h3 := fd_biT.mp h3
    refine fd_u_blk 3 (C := fd_c100) (b := true) (L' := [fd_R 199, fd_I d, fd_I w]) (st' := [fd_I 99, fd_I 0, fd_I w]) (M' := M) rfl rfl (j := 7) rfl (rfl) ?_
    refine fd_u_call (C := fd_c100) (d0 := 0) (mid := 52) (np := 3) (args := [fd_I w, fd_I 0, fd_I 99]) (r1 := some (fd_I (fd_bi (0 ≤ w ∧ w ≤ 99)))) (M1 := M) (st' := [fd_I (fd_bi (0 ≤ w ∧ w ≤ 99))]) rfl rfl rfl rfl rfl rfl (rfl) (fd_r_in M w 0 99 (by omega) (by omega) (by omega)) rfl (by omega) ?_
    refine fd_u_br (C := fd_c100) (t := 11) (e := 9) (st' := []) (c := ¬ (fd_bi (0 ≤ w ∧ w ≤ 99)) = 0) (b := (fd_rng (fd_bi (0 ≤ w ∧ w ≤ 99)))) rfl rfl rfl (fd_biR) (fun h8 => ?_) (fun h8 => ?_)
    · have h8 := fd_biT.mp h8
      refine fd_u_blk 3 (C := fd_c100) (b := true) (L' := [fd_R 199, fd_I d, fd_I w]) (st' := [fd_I 6, fd_I (M 199 23)]) (M' := M) rfl rfl (j := 14) rfl (rfl) ?_
      refine fd_u_br (C := fd_c100) (t := 17) (e := 15) (st' := []) (c := ¬ (M 199 23) = 6) (b := (fd_rng (M 199 23) && fd_rng 6)) rfl rfl rfl (fd_bA (fd_bR (by omega) (by omega)) (fd_bR (by omega) (by omega))) (fun h14 => ?_) (fun h14 => ?_)
      · refine fd_u_blk 20 (C := fd_c100) (b := (fd_isA true M 211 20 (M 199 23) && (fd_isA true (fd_up M 211 (M 199 23).toNat d) 212 20 (M 199 23) && true))) (L' := [fd_R 199, fd_I d, fd_I w]) (st' := [fd_I ((M 199 23) + 1)]) (M' := (fd_up (fd_up (fd_up M 211 (M 199 23).toNat d) 212 (M 199 23).toNat w) 199 23 ((M 199 23) + 1))) rfl rfl (j := 37) rfl (fd_bA (fd_iA fd_sh211 (by omega) (by omega)) (fd_bA (fd_iA fd_sh212 (by omega) (by omega)) (rfl))) ?_
        refine fd_u_ret (C := fd_c100) (b := true) (r' := some (fd_I ((M 199 23) + 1))) rfl rfl rfl (rfl) ?_ ?_
        · rw [fd_A_tells, if_neg (show ¬ ¬ (0 ≤ d ∧ d < M 204 0 ∧ 0 ≤ w ∧ w ≤ 99) by omega), if_neg (show ¬ (M 199 23 = 6) from by omega)]
        · rw [fd_B_tells, if_neg (show ¬ ¬ (0 ≤ d ∧ d < M 204 0 ∧ 0 ≤ w ∧ w ≤ 99) by omega), if_neg (show ¬ (M 199 23 = 6) from by omega)]
      · refine fd_u_blk 1 (C := fd_c100) (b := true) (L' := [fd_R 199, fd_I d, fd_I w]) (st' := [fd_I (-3)]) (M' := M) rfl rfl (j := 16) rfl (rfl) ?_
        refine fd_u_ret (C := fd_c100) (b := true) (r' := some (fd_I (-3))) rfl rfl rfl (rfl) ?_ ?_
        · rw [fd_A_tells, if_neg (show ¬ ¬ (0 ≤ d ∧ d < M 204 0 ∧ 0 ≤ w ∧ w ≤ 99) by omega), if_pos (show M 199 23 = 6 from by omega)]
        · rw [fd_B_tells, if_neg (show ¬ ¬ (0 ≤ d ∧ d < M 204 0 ∧ 0 ≤ w ∧ w ≤ 99) by omega), if_pos (show M 199 23 = 6 from by omega)]
    · have h8 := fd_biF2  h8
      refine fd_u_blk 1 (C := fd_c100) (b := true) (L' := [fd_R 199, fd_I d, fd_I w]) (st' := [fd_I (-1)]) (M' := M) rfl rfl (j := 10) rfl (rfl) ?_
      refine fd_u_ret (C := fd_c100) (b := true) (r' := some (fd_I (-1))) rfl rfl rfl (rfl) ?_ ?_
      · rw [fd_A_tells, if_pos (show ¬ (0 ≤ d ∧ d < M 204 0 ∧ 0 ≤ w ∧ w ≤ 99) by omega)]
      · rw [fd_B_tells, if_pos (show ¬ (0 ≤ d ∧ d < M 204 0 ∧ 0 ≤ w ∧ w ≤ 99) by omega)]

def fd_A_count (M : fd_M) (w : Int) : Int := if w = 0 then M 201 0 else if w = 1 then M 202 0 else if w = 2 then M 204 0 else if w = 3 then M 207 0 else if w = 4 then M 207 1 else if w = 5 then M 199 23 else if w = 6 then M 208 28 else if w = 7 then M 199 2 else -1
theorem fd_r_count (M : fd_M) (w : Int) (hw : -2147483648 ≤ w ∧ w < 2147483648) : fd_call 0 110 [fd_R 199, fd_I w] M (some (fd_I (fd_A_count M w))) M := by
  refine fd_u_in (L := [fd_R 199, fd_I w]) rfl ?_
  refine fd_u_blk 1 (C := fd_c110) (b := true) (L' := [fd_R 199, fd_I w]) (st' := [fd_I w]) (M' := M) rfl rfl (j := 1) rfl (rfl) ?_
  by_cases h1_0 : w = 0
  · refine fd_u_jmp (C := fd_c110) (j := 2) (st' := []) rfl rfl (b := fd_rng w) (by rw [h1_0]; rfl) (fd_bR (by omega) (by omega)) ?_
    refine fd_u_blk 4 (C := fd_c110) (b := true) (L' := [fd_R 199, fd_I w]) (st' := [fd_I (M 201 0)]) (M' := M) rfl rfl (j := 6) rfl (rfl) ?_
    refine fd_u_ret (C := fd_c110) (b := true) (r' := some (fd_I (M 201 0))) rfl rfl rfl (rfl) ?_ ?_
    · first | (rw [fd_A_count, if_pos h1_0]; done) | (rw [fd_A_count, if_pos h1_0]; rfl) | (rw [fd_A_count, if_pos h1_0, h1_0]; rfl) | (rw [fd_A_count, if_neg h1_0, if_pos h1_1]; done) | (rw [fd_A_count, if_neg h1_0, if_pos h1_1]; rfl) | (rw [fd_A_count, if_neg h1_0, if_pos h1_1, h1_1]; rfl) | (rw [fd_A_count, if_neg h1_0, if_neg h1_1, if_pos h1_2]; done) | (rw [fd_A_count, if_neg h1_0, if_neg h1_1, if_pos h1_2]; rfl) | (rw [fd_A_count, if_neg h1_0, if_neg h1_1, if_pos h1_2, h1_2]; rfl) | (rw [fd_A_count, if_neg h1_0, if_neg h1_1, if_neg h1_2, if_pos h1_3]; done) | (rw [fd_A_count, if_neg h1_0, if_neg h1_1, if_neg h1_2, if_pos h1_3]; rfl) | (rw [fd_A_count, if_neg h1_0, if_neg h1_1, if_neg h1_2, if_pos h1_3, h1_3]; rfl) | (rw [fd_A_count, if_neg h1_0, if_neg h1_1, if_neg h1_2, if_neg h1_3, if_pos h1_4]; done) | (rw [fd_A_count, if_neg h1_0, if_neg h1_1, if_neg h1_2, if_neg h1_3, if_pos h1_4]; rfl) | (rw [fd_A_count, if_neg h1_0, if_neg h1_1, if_neg h1_2, if_neg h1_3, if_pos h1_4, h1_4]; rfl) | (rw [fd_A_count, if_neg h1_0, if_neg h1_1, if_neg h1_2, if_neg h1_3, if_neg h1_4, if_pos h1_5]; done) | (rw [fd_A_count, if_neg h1_0, if_neg h1_1, if_neg h1_2, if_neg h1_3, if_neg h1_4, if_pos h1_5]; rfl) | (rw [fd_A_count, if_neg h1_0, if_neg h1_1, if_neg h1_2, if_neg h1_3, if_neg h1_4, if_pos h1_5, h1_5]; rfl) | (rw [fd_A_count, if_neg h1_0, if_neg h1_1, if_neg h1_2, if_neg h1_3, if_neg h1_4, if_neg h1_5, if_pos h1_6]; done) | (rw [fd_A_count, if_neg h1_0, if_neg h1_1, if_neg h1_2, if_neg h1_3, if_neg h1_4, if_neg h1_5, if_pos h1_6]; rfl) | (rw [fd_A_count, if_neg h1_0, if_neg h1_1, if_neg h1_2, if_neg h1_3, if_neg h1_4, if_neg h1_5, if_pos h1_6, h1_6]; rfl) | (rw [fd_A_count, if_neg h1_0, if_neg h1_1, if_neg h1_2, if_neg h1_3, if_neg h1_4, if_neg h1_5, if_neg h1_6, if_pos h1_7]; done) | (rw [fd_A_count, if_neg h1_0, if_neg h1_1, if_neg h1_2, if_neg h1_3, if_neg h1_4, if_neg h1_5, if_neg h1_6, if_pos h1_7]; rfl) | (rw [fd_A_count, if_neg h1_0, if_neg h1_1, if_neg h1_2, if_neg h1_3, if_neg h1_4, if_neg h1_5, if_neg h1_6, if_pos h1_7, h1_7]; rfl) | (rw [fd_A_count, if_neg h1_0, if_neg h1_1, if_neg h1_2, if_neg h1_3, if_neg h1_4, if_neg h1_5, if_neg h1_6, if_neg h1_7]; done) | (rw [fd_A_count, if_neg h1_0, if_neg h1_1, if_neg h1_2, if_neg h1_3, if_neg h1_4, if_neg h1_5, if_neg h1_6, if_neg h1_7]; rfl)
    · rfl
  by_cases h1_1 : w = 1
  · refine fd_u_jmp (C := fd_c110) (j := 7) (st' := []) rfl rfl (b := fd_rng w) (by rw [h1_1]; rfl) (fd_bR (by omega) (by omega)) ?_
    refine fd_u_blk 4 (C := fd_c110) (b := true) (L' := [fd_R 199, fd_I w]) (st' := [fd_I (M 202 0)]) (M' := M) rfl rfl (j := 11) rfl (rfl) ?_
    refine fd_u_ret (C := fd_c110) (b := true) (r' := some (fd_I (M 202 0))) rfl rfl rfl (rfl) ?_ ?_
    · first | (rw [fd_A_count, if_pos h1_0]; done) | (rw [fd_A_count, if_pos h1_0]; rfl) | (rw [fd_A_count, if_pos h1_0, h1_0]; rfl) | (rw [fd_A_count, if_neg h1_0, if_pos h1_1]; done) | (rw [fd_A_count, if_neg h1_0, if_pos h1_1]; rfl) | (rw [fd_A_count, if_neg h1_0, if_pos h1_1, h1_1]; rfl) | (rw [fd_A_count, if_neg h1_0, if_neg h1_1, if_pos h1_2]; done) | (rw [fd_A_count, if_neg h1_0, if_neg h1_1, if_pos h1_2]; rfl) | (rw [fd_A_count, if_neg h1_0, if_neg h1_1, if_pos h1_2, h1_2]; rfl) | (rw [fd_A_count, if_neg h1_0, if_neg h1_1, if_neg h1_2, if_pos h1_3]; done) | (rw [fd_A_count, if_neg h1_0, if_neg h1_1, if_neg h1_2, if_pos h1_3]; rfl) | (rw [fd_A_count, if_neg h1_0, if_neg h1_1, if_neg h1_2, if_pos h1_3, h1_3]; rfl) | (rw [fd_A_count, if_neg h1_0, if_neg h1_1, if_neg h1_2, if_neg h1_3, if_pos h1_4]; done) | (rw [fd_A_count, if_neg h1_0, if_neg h1_1, if_neg h1_2, if_neg h1_3, if_pos h1_4]; rfl) | (rw [fd_A_count, if_neg h1_0, if_neg h1_1, if_neg h1_2, if_neg h1_3, if_pos h1_4, h1_4]; rfl) | (rw [fd_A_count, if_neg h1_0, if_neg h1_1, if_neg h1_2, if_neg h1_3, if_neg h1_4, if_pos h1_5]; done) | (rw [fd_A_count, if_neg h1_0, if_neg h1_1, if_neg h1_2, if_neg h1_3, if_neg h1_4, if_pos h1_5]; rfl) | (rw [fd_A_count, if_neg h1_0, if_neg h1_1, if_neg h1_2, if_neg h1_3, if_neg h1_4, if_pos h1_5, h1_5]; rfl) | (rw [fd_A_count, if_neg h1_0, if_neg h1_1, if_neg h1_2, if_neg h1_3, if_neg h1_4, if_neg h1_5, if_pos h1_6]; done) | (rw [fd_A_count, if_neg h1_0, if_neg h1_1, if_neg h1_2, if_neg h1_3, if_neg h1_4, if_neg h1_5, if_pos h1_6]; rfl) | (rw [fd_A_count, if_neg h1_0, if_neg h1_1, if_neg h1_2, if_neg h1_3, if_neg h1_4, if_neg h1_5, if_pos h1_6, h1_6]; rfl) | (rw [fd_A_count, if_neg h1_0, if_neg h1_1, if_neg h1_2, if_neg h1_3, if_neg h1_4, if_neg h1_5, if_neg h1_6, if_pos h1_7]; done) | (rw [fd_A_count, if_neg h1_0, if_neg h1_1, if_neg h1_2, if_neg h1_3, if_neg h1_4, if_neg h1_5, if_neg h1_6, if_pos h1_7]; rfl) | (rw [fd_A_count, if_neg h1_0, if_neg h1_1, if_neg h1_2, if_neg h1_3, if_neg h1_4, if_neg h1_5, if_neg h1_6, if_pos h1_7, h1_7]; rfl) | (rw [fd_A_count, if_neg h1_0, if_neg h1_1, if_neg h1_2, if_neg h1_3, if_neg h1_4, if_neg h1_5, if_neg h1_6, if_neg h1_7]; done) | (rw [fd_A_count, if_neg h1_0, if_neg h1_1, if_neg h1_2, if_neg h1_3, if_neg h1_4, if_neg h1_5, if_neg h1_6, if_neg h1_7]; rfl)
    · rfl
  by_cases h1_2 : w = 2
  · refine fd_u_jmp (C := fd_c110) (j := 12) (st' := []) rfl rfl (b := fd_rng w) (by rw [h1_2]; rfl) (fd_bR (by omega) (by omega)) ?_
    refine fd_u_blk 4 (C := fd_c110) (b := true) (L' := [fd_R 199, fd_I w]) (st' := [fd_I (M 204 0)]) (M' := M) rfl rfl (j := 16) rfl (rfl) ?_
    refine fd_u_ret (C := fd_c110) (b := true) (r' := some (fd_I (M 204 0))) rfl rfl rfl (rfl) ?_ ?_
    · first | (rw [fd_A_count, if_pos h1_0]; done) | (rw [fd_A_count, if_pos h1_0]; rfl) | (rw [fd_A_count, if_pos h1_0, h1_0]; rfl) | (rw [fd_A_count, if_neg h1_0, if_pos h1_1]; done) | (rw [fd_A_count, if_neg h1_0, if_pos h1_1]; rfl) | (rw [fd_A_count, if_neg h1_0, if_pos h1_1, h1_1]; rfl) | (rw [fd_A_count, if_neg h1_0, if_neg h1_1, if_pos h1_2]; done) | (rw [fd_A_count, if_neg h1_0, if_neg h1_1, if_pos h1_2]; rfl) | (rw [fd_A_count, if_neg h1_0, if_neg h1_1, if_pos h1_2, h1_2]; rfl) | (rw [fd_A_count, if_neg h1_0, if_neg h1_1, if_neg h1_2, if_pos h1_3]; done) | (rw [fd_A_count, if_neg h1_0, if_neg h1_1, if_neg h1_2, if_pos h1_3]; rfl) | (rw [fd_A_count, if_neg h1_0, if_neg h1_1, if_neg h1_2, if_pos h1_3, h1_3]; rfl) | (rw [fd_A_count, if_neg h1_0, if_neg h1_1, if_neg h1_2, if_neg h1_3, if_pos h1_4]; done) | (rw [fd_A_count, if_neg h1_0, if_neg h1_1, if_neg h1_2, if_neg h1_3, if_pos h1_4]; rfl) | (rw [fd_A_count, if_neg h1_0, if_neg h1_1, if_neg h1_2, if_neg h1_3, if_pos h1_4, h1_4]; rfl) | (rw [fd_A_count, if_neg h1_0, if_neg h1_1, if_neg h1_2, if_neg h1_3, if_neg h1_4, if_pos h1_5]; done) | (rw [fd_A_count, if_neg h1_0, if_neg h1_1, if_neg h1_2, if_neg h1_3, if_neg h1_4, if_pos h1_5]; rfl) | (rw [fd_A_count, if_neg h1_0, if_neg h1_1, if_neg h1_2, if_neg h1_3, if_neg h1_4, if_pos h1_5, h1_5]; rfl) | (rw [fd_A_count, if_neg h1_0, if_neg h1_1, if_neg h1_2, if_neg h1_3, if_neg h1_4, if_neg h1_5, if_pos h1_6]; done) | (rw [fd_A_count, if_neg h1_0, if_neg h1_1, if_neg h1_2, if_neg h1_3, if_neg h1_4, if_neg h1_5, if_pos h1_6]; rfl) | (rw [fd_A_count, if_neg h1_0, if_neg h1_1, if_neg h1_2, if_neg h1_3, if_neg h1_4, if_neg h1_5, if_pos h1_6, h1_6]; rfl) | (rw [fd_A_count, if_neg h1_0, if_neg h1_1, if_neg h1_2, if_neg h1_3, if_neg h1_4, if_neg h1_5, if_neg h1_6, if_pos h1_7]; done) | (rw [fd_A_count, if_neg h1_0, if_neg h1_1, if_neg h1_2, if_neg h1_3, if_neg h1_4, if_neg h1_5, if_neg h1_6, if_pos h1_7]; rfl) | (rw [fd_A_count, if_neg h1_0, if_neg h1_1, if_neg h1_2, if_neg h1_3, if_neg h1_4, if_neg h1_5, if_neg h1_6, if_pos h1_7, h1_7]; rfl) | (rw [fd_A_count, if_neg h1_0, if_neg h1_1, if_neg h1_2, if_neg h1_3, if_neg h1_4, if_neg h1_5, if_neg h1_6, if_neg h1_7]; done) | (rw [fd_A_count, if_neg h1_0, if_neg h1_1, if_neg h1_2, if_neg h1_3, if_neg h1_4, if_neg h1_5, if_neg h1_6, if_neg h1_7]; rfl)
    · rfl
  by_cases h1_3 : w = 3
  · refine fd_u_jmp (C := fd_c110) (j := 17) (st' := []) rfl rfl (b := fd_rng w) (by rw [h1_3]; rfl) (fd_bR (by omega) (by omega)) ?_
    refine fd_u_blk 6 (C := fd_c110) (b := (fd_isA true M 207 20 (w - 3) && true)) (L' := [fd_R 199, fd_I w]) (st' := [fd_I (M 207 (w - 3).toNat)]) (M' := M) rfl rfl (j := 23) rfl (fd_bA (fd_iA fd_sh207 (by omega) (by omega)) (rfl)) ?_
    refine fd_u_ret (C := fd_c110) (b := true) (r' := some (fd_I (M 207 (w - 3).toNat))) rfl rfl rfl (rfl) ?_ ?_
    · first | (rw [fd_A_count, if_pos h1_0]; done) | (rw [fd_A_count, if_pos h1_0]; rfl) | (rw [fd_A_count, if_pos h1_0, h1_0]; rfl) | (rw [fd_A_count, if_neg h1_0, if_pos h1_1]; done) | (rw [fd_A_count, if_neg h1_0, if_pos h1_1]; rfl) | (rw [fd_A_count, if_neg h1_0, if_pos h1_1, h1_1]; rfl) | (rw [fd_A_count, if_neg h1_0, if_neg h1_1, if_pos h1_2]; done) | (rw [fd_A_count, if_neg h1_0, if_neg h1_1, if_pos h1_2]; rfl) | (rw [fd_A_count, if_neg h1_0, if_neg h1_1, if_pos h1_2, h1_2]; rfl) | (rw [fd_A_count, if_neg h1_0, if_neg h1_1, if_neg h1_2, if_pos h1_3]; done) | (rw [fd_A_count, if_neg h1_0, if_neg h1_1, if_neg h1_2, if_pos h1_3]; rfl) | (rw [fd_A_count, if_neg h1_0, if_neg h1_1, if_neg h1_2, if_pos h1_3, h1_3]; rfl) | (rw [fd_A_count, if_neg h1_0, if_neg h1_1, if_neg h1_2, if_neg h1_3, if_pos h1_4]; done) | (rw [fd_A_count, if_neg h1_0, if_neg h1_1, if_neg h1_2, if_neg h1_3, if_pos h1_4]; rfl) | (rw [fd_A_count, if_neg h1_0, if_neg h1_1, if_neg h1_2, if_neg h1_3, if_pos h1_4, h1_4]; rfl) | (rw [fd_A_count, if_neg h1_0, if_neg h1_1, if_neg h1_2, if_neg h1_3, if_neg h1_4, if_pos h1_5]; done) | (rw [fd_A_count, if_neg h1_0, if_neg h1_1, if_neg h1_2, if_neg h1_3, if_neg h1_4, if_pos h1_5]; rfl) | (rw [fd_A_count, if_neg h1_0, if_neg h1_1, if_neg h1_2, if_neg h1_3, if_neg h1_4, if_pos h1_5, h1_5]; rfl) | (rw [fd_A_count, if_neg h1_0, if_neg h1_1, if_neg h1_2, if_neg h1_3, if_neg h1_4, if_neg h1_5, if_pos h1_6]; done) | (rw [fd_A_count, if_neg h1_0, if_neg h1_1, if_neg h1_2, if_neg h1_3, if_neg h1_4, if_neg h1_5, if_pos h1_6]; rfl) | (rw [fd_A_count, if_neg h1_0, if_neg h1_1, if_neg h1_2, if_neg h1_3, if_neg h1_4, if_neg h1_5, if_pos h1_6, h1_6]; rfl) | (rw [fd_A_count, if_neg h1_0, if_neg h1_1, if_neg h1_2, if_neg h1_3, if_neg h1_4, if_neg h1_5, if_neg h1_6, if_pos h1_7]; done) | (rw [fd_A_count, if_neg h1_0, if_neg h1_1, if_neg h1_2, if_neg h1_3, if_neg h1_4, if_neg h1_5, if_neg h1_6, if_pos h1_7]; rfl) | (rw [fd_A_count, if_neg h1_0, if_neg h1_1, if_neg h1_2, if_neg h1_3, if_neg h1_4, if_neg h1_5, if_neg h1_6, if_pos h1_7, h1_7]; rfl) | (rw [fd_A_count, if_neg h1_0, if_neg h1_1, if_neg h1_2, if_neg h1_3, if_neg h1_4, if_neg h1_5, if_neg h1_6, if_neg h1_7]; done) | (rw [fd_A_count, if_neg h1_0, if_neg h1_1, if_neg h1_2, if_neg h1_3, if_neg h1_4, if_neg h1_5, if_neg h1_6, if_neg h1_7]; rfl)
    · rfl
  by_cases h1_4 : w = 4
  · refine fd_u_jmp (C := fd_c110) (j := 17) (st' := []) rfl rfl (b := fd_rng w) (by rw [h1_4]; rfl) (fd_bR (by omega) (by omega)) ?_
    refine fd_u_blk 6 (C := fd_c110) (b := (fd_isA true M 207 20 (w - 3) && true)) (L' := [fd_R 199, fd_I w]) (st' := [fd_I (M 207 (w - 3).toNat)]) (M' := M) rfl rfl (j := 23) rfl (fd_bA (fd_iA fd_sh207 (by omega) (by omega)) (rfl)) ?_
    refine fd_u_ret (C := fd_c110) (b := true) (r' := some (fd_I (M 207 (w - 3).toNat))) rfl rfl rfl (rfl) ?_ ?_
    · first | (rw [fd_A_count, if_pos h1_0]; done) | (rw [fd_A_count, if_pos h1_0]; rfl) | (rw [fd_A_count, if_pos h1_0, h1_0]; rfl) | (rw [fd_A_count, if_neg h1_0, if_pos h1_1]; done) | (rw [fd_A_count, if_neg h1_0, if_pos h1_1]; rfl) | (rw [fd_A_count, if_neg h1_0, if_pos h1_1, h1_1]; rfl) | (rw [fd_A_count, if_neg h1_0, if_neg h1_1, if_pos h1_2]; done) | (rw [fd_A_count, if_neg h1_0, if_neg h1_1, if_pos h1_2]; rfl) | (rw [fd_A_count, if_neg h1_0, if_neg h1_1, if_pos h1_2, h1_2]; rfl) | (rw [fd_A_count, if_neg h1_0, if_neg h1_1, if_neg h1_2, if_pos h1_3]; done) | (rw [fd_A_count, if_neg h1_0, if_neg h1_1, if_neg h1_2, if_pos h1_3]; rfl) | (rw [fd_A_count, if_neg h1_0, if_neg h1_1, if_neg h1_2, if_pos h1_3, h1_3]; rfl) | (rw [fd_A_count, if_neg h1_0, if_neg h1_1, if_neg h1_2, if_neg h1_3, if_pos h1_4]; done) | (rw [fd_A_count, if_neg h1_0, if_neg h1_1, if_neg h1_2, if_neg h1_3, if_pos h1_4]; rfl) | (rw [fd_A_count, if_neg h1_0, if_neg h1_1, if_neg h1_2, if_neg h1_3, if_pos h1_4, h1_4]; rfl) | (rw [fd_A_count, if_neg h1_0, if_neg h1_1, if_neg h1_2, if_neg h1_3, if_neg h1_4, if_pos h1_5]; done) | (rw [fd_A_count, if_neg h1_0, if_neg h1_1, if_neg h1_2, if_neg h1_3, if_neg h1_4, if_pos h1_5]; rfl) | (rw [fd_A_count, if_neg h1_0, if_neg h1_1, if_neg h1_2, if_neg h1_3, if_neg h1_4, if_pos h1_5, h1_5]; rfl) | (rw [fd_A_count, if_neg h1_0, if_neg h1_1, if_neg h1_2, if_neg h1_3, if_neg h1_4, if_neg h1_5, if_pos h1_6]; done) | (rw [fd_A_count, if_neg h1_0, if_neg h1_1, if_neg h1_2, if_neg h1_3, if_neg h1_4, if_neg h1_5, if_pos h1_6]; rfl) | (rw [fd_A_count, if_neg h1_0, if_neg h1_1, if_neg h1_2, if_neg h1_3, if_neg h1_4, if_neg h1_5, if_pos h1_6, h1_6]; rfl) | (rw [fd_A_count, if_neg h1_0, if_neg h1_1, if_neg h1_2, if_neg h1_3, if_neg h1_4, if_neg h1_5, if_neg h1_6, if_pos h1_7]; done) | (rw [fd_A_count, if_neg h1_0, if_neg h1_1, if_neg h1_2, if_neg h1_3, if_neg h1_4, if_neg h1_5, if_neg h1_6, if_pos h1_7]; rfl) | (rw [fd_A_count, if_neg h1_0, if_neg h1_1, if_neg h1_2, if_neg h1_3, if_neg h1_4, if_neg h1_5, if_neg h1_6, if_pos h1_7, h1_7]; rfl) | (rw [fd_A_count, if_neg h1_0, if_neg h1_1, if_neg h1_2, if_neg h1_3, if_neg h1_4, if_neg h1_5, if_neg h1_6, if_neg h1_7]; done) | (rw [fd_A_count, if_neg h1_0, if_neg h1_1, if_neg h1_2, if_neg h1_3, if_neg h1_4, if_neg h1_5, if_neg h1_6, if_neg h1_7]; rfl)
    · rfl
  by_cases h1_5 : w = 5
  · refine fd_u_jmp (C := fd_c110) (j := 24) (st' := []) rfl rfl (b := fd_rng w) (by rw [h1_5]; rfl) (fd_bR (by omega) (by omega)) ?_
    refine fd_u_blk 2 (C := fd_c110) (b := true) (L' := [fd_R 199, fd_I w]) (st' := [fd_I (M 199 23)]) (M' := M) rfl rfl (j := 26) rfl (rfl) ?_
    refine fd_u_ret (C := fd_c110) (b := true) (r' := some (fd_I (M 199 23))) rfl rfl rfl (rfl) ?_ ?_
    · first | (rw [fd_A_count, if_pos h1_0]; done) | (rw [fd_A_count, if_pos h1_0]; rfl) | (rw [fd_A_count, if_pos h1_0, h1_0]; rfl) | (rw [fd_A_count, if_neg h1_0, if_pos h1_1]; done) | (rw [fd_A_count, if_neg h1_0, if_pos h1_1]; rfl) | (rw [fd_A_count, if_neg h1_0, if_pos h1_1, h1_1]; rfl) | (rw [fd_A_count, if_neg h1_0, if_neg h1_1, if_pos h1_2]; done) | (rw [fd_A_count, if_neg h1_0, if_neg h1_1, if_pos h1_2]; rfl) | (rw [fd_A_count, if_neg h1_0, if_neg h1_1, if_pos h1_2, h1_2]; rfl) | (rw [fd_A_count, if_neg h1_0, if_neg h1_1, if_neg h1_2, if_pos h1_3]; done) | (rw [fd_A_count, if_neg h1_0, if_neg h1_1, if_neg h1_2, if_pos h1_3]; rfl) | (rw [fd_A_count, if_neg h1_0, if_neg h1_1, if_neg h1_2, if_pos h1_3, h1_3]; rfl) | (rw [fd_A_count, if_neg h1_0, if_neg h1_1, if_neg h1_2, if_neg h1_3, if_pos h1_4]; done) | (rw [fd_A_count, if_neg h1_0, if_neg h1_1, if_neg h1_2, if_neg h1_3, if_pos h1_4]; rfl) | (rw [fd_A_count, if_neg h1_0, if_neg h1_1, if_neg h1_2, if_neg h1_3, if_pos h1_4, h1_4]; rfl) | (rw [fd_A_count, if_neg h1_0, if_neg h1_1, if_neg h1_2, if_neg h1_3, if_neg h1_4, if_pos h1_5]; done) | (rw [fd_A_count, if_neg h1_0, if_neg h1_1, if_neg h1_2, if_neg h1_3, if_neg h1_4, if_pos h1_5]; rfl) | (rw [fd_A_count, if_neg h1_0, if_neg h1_1, if_neg h1_2, if_neg h1_3, if_neg h1_4, if_pos h1_5, h1_5]; rfl) | (rw [fd_A_count, if_neg h1_0, if_neg h1_1, if_neg h1_2, if_neg h1_3, if_neg h1_4, if_neg h1_5, if_pos h1_6]; done) | (rw [fd_A_count, if_neg h1_0, if_neg h1_1, if_neg h1_2, if_neg h1_3, if_neg h1_4, if_neg h1_5, if_pos h1_6]; rfl) | (rw [fd_A_count, if_neg h1_0, if_neg h1_1, if_neg h1_2, if_neg h1_3, if_neg h1_4, if_neg h1_5, if_pos h1_6, h1_6]; rfl) | (rw [fd_A_count, if_neg h1_0, if_neg h1_1, if_neg h1_2, if_neg h1_3, if_neg h1_4, if_neg h1_5, if_neg h1_6, if_pos h1_7]; done) | (rw [fd_A_count, if_neg h1_0, if_neg h1_1, if_neg h1_2, if_neg h1_3, if_neg h1_4, if_neg h1_5, if_neg h1_6, if_pos h1_7]; rfl) | (rw [fd_A_count, if_neg h1_0, if_neg h1_1, if_neg h1_2, if_neg h1_3, if_neg h1_4, if_neg h1_5, if_neg h1_6, if_pos h1_7, h1_7]; rfl) | (rw [fd_A_count, if_neg h1_0, if_neg h1_1, if_neg h1_2, if_neg h1_3, if_neg h1_4, if_neg h1_5, if_neg h1_6, if_neg h1_7]; done) | (rw [fd_A_count, if_neg h1_0, if_neg h1_1, if_neg h1_2, if_neg h1_3, if_neg h1_4, if_neg h1_5, if_neg h1_6, if_neg h1_7]; rfl)
    · rfl
  by_cases h1_6 : w = 6
  · refine fd_u_jmp (C := fd_c110) (j := 27) (st' := []) rfl rfl (b := fd_rng w) (by rw [h1_6]; rfl) (fd_bR (by omega) (by omega)) ?_
    refine fd_u_blk 4 (C := fd_c110) (b := true) (L' := [fd_R 199, fd_I w]) (st' := [fd_I (M 208 28)]) (M' := M) rfl rfl (j := 31) rfl (rfl) ?_
    refine fd_u_ret (C := fd_c110) (b := true) (r' := some (fd_I (M 208 28))) rfl rfl rfl (rfl) ?_ ?_
    · first | (rw [fd_A_count, if_pos h1_0]; done) | (rw [fd_A_count, if_pos h1_0]; rfl) | (rw [fd_A_count, if_pos h1_0, h1_0]; rfl) | (rw [fd_A_count, if_neg h1_0, if_pos h1_1]; done) | (rw [fd_A_count, if_neg h1_0, if_pos h1_1]; rfl) | (rw [fd_A_count, if_neg h1_0, if_pos h1_1, h1_1]; rfl) | (rw [fd_A_count, if_neg h1_0, if_neg h1_1, if_pos h1_2]; done) | (rw [fd_A_count, if_neg h1_0, if_neg h1_1, if_pos h1_2]; rfl) | (rw [fd_A_count, if_neg h1_0, if_neg h1_1, if_pos h1_2, h1_2]; rfl) | (rw [fd_A_count, if_neg h1_0, if_neg h1_1, if_neg h1_2, if_pos h1_3]; done) | (rw [fd_A_count, if_neg h1_0, if_neg h1_1, if_neg h1_2, if_pos h1_3]; rfl) | (rw [fd_A_count, if_neg h1_0, if_neg h1_1, if_neg h1_2, if_pos h1_3, h1_3]; rfl) | (rw [fd_A_count, if_neg h1_0, if_neg h1_1, if_neg h1_2, if_neg h1_3, if_pos h1_4]; done) | (rw [fd_A_count, if_neg h1_0, if_neg h1_1, if_neg h1_2, if_neg h1_3, if_pos h1_4]; rfl) | (rw [fd_A_count, if_neg h1_0, if_neg h1_1, if_neg h1_2, if_neg h1_3, if_pos h1_4, h1_4]; rfl) | (rw [fd_A_count, if_neg h1_0, if_neg h1_1, if_neg h1_2, if_neg h1_3, if_neg h1_4, if_pos h1_5]; done) | (rw [fd_A_count, if_neg h1_0, if_neg h1_1, if_neg h1_2, if_neg h1_3, if_neg h1_4, if_pos h1_5]; rfl) | (rw [fd_A_count, if_neg h1_0, if_neg h1_1, if_neg h1_2, if_neg h1_3, if_neg h1_4, if_pos h1_5, h1_5]; rfl) | (rw [fd_A_count, if_neg h1_0, if_neg h1_1, if_neg h1_2, if_neg h1_3, if_neg h1_4, if_neg h1_5, if_pos h1_6]; done) | (rw [fd_A_count, if_neg h1_0, if_neg h1_1, if_neg h1_2, if_neg h1_3, if_neg h1_4, if_neg h1_5, if_pos h1_6]; rfl) | (rw [fd_A_count, if_neg h1_0, if_neg h1_1, if_neg h1_2, if_neg h1_3, if_neg h1_4, if_neg h1_5, if_pos h1_6, h1_6]; rfl) | (rw [fd_A_count, if_neg h1_0, if_neg h1_1, if_neg h1_2, if_neg h1_3, if_neg h1_4, if_neg h1_5, if_neg h1_6, if_pos h1_7]; done) | (rw [fd_A_count, if_neg h1_0, if_neg h1_1, if_neg h1_2, if_neg h1_3, if_neg h1_4, if_neg h1_5, if_neg h1_6, if_pos h1_7]; rfl) | (rw [fd_A_count, if_neg h1_0, if_neg h1_1, if_neg h1_2, if_neg h1_3, if_neg h1_4, if_neg h1_5, if_neg h1_6, if_pos h1_7, h1_7]; rfl) | (rw [fd_A_count, if_neg h1_0, if_neg h1_1, if_neg h1_2, if_neg h1_3, if_neg h1_4, if_neg h1_5, if_neg h1_6, if_neg h1_7]; done) | (rw [fd_A_count, if_neg h1_0, if_neg h1_1, if_neg h1_2, if_neg h1_3, if_neg h1_4, if_neg h1_5, if_neg h1_6, if_neg h1_7]; rfl)
    · rfl
  by_cases h1_7 : w = 7
  · refine fd_u_jmp (C := fd_c110) (j := 32) (st' := []) rfl rfl (b := fd_rng w) (by rw [h1_7]; rfl) (fd_bR (by omega) (by omega)) ?_
    refine fd_u_blk 2 (C := fd_c110) (b := true) (L' := [fd_R 199, fd_I w]) (st' := [fd_I (M 199 2)]) (M' := M) rfl rfl (j := 34) rfl (rfl) ?_
    refine fd_u_ret (C := fd_c110) (b := true) (r' := some (fd_I (M 199 2))) rfl rfl rfl (rfl) ?_ ?_
    · first | (rw [fd_A_count, if_pos h1_0]; done) | (rw [fd_A_count, if_pos h1_0]; rfl) | (rw [fd_A_count, if_pos h1_0, h1_0]; rfl) | (rw [fd_A_count, if_neg h1_0, if_pos h1_1]; done) | (rw [fd_A_count, if_neg h1_0, if_pos h1_1]; rfl) | (rw [fd_A_count, if_neg h1_0, if_pos h1_1, h1_1]; rfl) | (rw [fd_A_count, if_neg h1_0, if_neg h1_1, if_pos h1_2]; done) | (rw [fd_A_count, if_neg h1_0, if_neg h1_1, if_pos h1_2]; rfl) | (rw [fd_A_count, if_neg h1_0, if_neg h1_1, if_pos h1_2, h1_2]; rfl) | (rw [fd_A_count, if_neg h1_0, if_neg h1_1, if_neg h1_2, if_pos h1_3]; done) | (rw [fd_A_count, if_neg h1_0, if_neg h1_1, if_neg h1_2, if_pos h1_3]; rfl) | (rw [fd_A_count, if_neg h1_0, if_neg h1_1, if_neg h1_2, if_pos h1_3, h1_3]; rfl) | (rw [fd_A_count, if_neg h1_0, if_neg h1_1, if_neg h1_2, if_neg h1_3, if_pos h1_4]; done) | (rw [fd_A_count, if_neg h1_0, if_neg h1_1, if_neg h1_2, if_neg h1_3, if_pos h1_4]; rfl) | (rw [fd_A_count, if_neg h1_0, if_neg h1_1, if_neg h1_2, if_neg h1_3, if_pos h1_4, h1_4]; rfl) | (rw [fd_A_count, if_neg h1_0, if_neg h1_1, if_neg h1_2, if_neg h1_3, if_neg h1_4, if_pos h1_5]; done) | (rw [fd_A_count, if_neg h1_0, if_neg h1_1, if_neg h1_2, if_neg h1_3, if_neg h1_4, if_pos h1_5]; rfl) | (rw [fd_A_count, if_neg h1_0, if_neg h1_1, if_neg h1_2, if_neg h1_3, if_neg h1_4, if_pos h1_5, h1_5]; rfl) | (rw [fd_A_count, if_neg h1_0, if_neg h1_1, if_neg h1_2, if_neg h1_3, if_neg h1_4, if_neg h1_5, if_pos h1_6]; done) | (rw [fd_A_count, if_neg h1_0, if_neg h1_1, if_neg h1_2, if_neg h1_3, if_neg h1_4, if_neg h1_5, if_pos h1_6]; rfl) | (rw [fd_A_count, if_neg h1_0, if_neg h1_1, if_neg h1_2, if_neg h1_3, if_neg h1_4, if_neg h1_5, if_pos h1_6, h1_6]; rfl) | (rw [fd_A_count, if_neg h1_0, if_neg h1_1, if_neg h1_2, if_neg h1_3, if_neg h1_4, if_neg h1_5, if_neg h1_6, if_pos h1_7]; done) | (rw [fd_A_count, if_neg h1_0, if_neg h1_1, if_neg h1_2, if_neg h1_3, if_neg h1_4, if_neg h1_5, if_neg h1_6, if_pos h1_7]; rfl) | (rw [fd_A_count, if_neg h1_0, if_neg h1_1, if_neg h1_2, if_neg h1_3, if_neg h1_4, if_neg h1_5, if_neg h1_6, if_pos h1_7, h1_7]; rfl) | (rw [fd_A_count, if_neg h1_0, if_neg h1_1, if_neg h1_2, if_neg h1_3, if_neg h1_4, if_neg h1_5, if_neg h1_6, if_neg h1_7]; done) | (rw [fd_A_count, if_neg h1_0, if_neg h1_1, if_neg h1_2, if_neg h1_3, if_neg h1_4, if_neg h1_5, if_neg h1_6, if_neg h1_7]; rfl)
    · rfl
  refine fd_u_jmp (C := fd_c110) (j := 35) (st' := []) rfl rfl (b := fd_rng w) (fd_sw_out (by simp only [fd_a, List.getD_cons_succ, List.getD_cons_zero, List.length_cons, List.length_nil]; omega)) (fd_bR (by omega) (by omega)) ?_
  refine fd_u_blk 1 (C := fd_c110) (b := true) (L' := [fd_R 199, fd_I w]) (st' := [fd_I (-1)]) (M' := M) rfl rfl (j := 36) rfl (rfl) ?_
  refine fd_u_ret (C := fd_c110) (b := true) (r' := some (fd_I (-1))) rfl rfl rfl (rfl) ?_ ?_
  · first | (rw [fd_A_count, if_pos h1_0]; done) | (rw [fd_A_count, if_pos h1_0]; rfl) | (rw [fd_A_count, if_pos h1_0, h1_0]; rfl) | (rw [fd_A_count, if_neg h1_0, if_pos h1_1]; done) | (rw [fd_A_count, if_neg h1_0, if_pos h1_1]; rfl) | (rw [fd_A_count, if_neg h1_0, if_pos h1_1, h1_1]; rfl) | (rw [fd_A_count, if_neg h1_0, if_neg h1_1, if_pos h1_2]; done) | (rw [fd_A_count, if_neg h1_0, if_neg h1_1, if_pos h1_2]; rfl) | (rw [fd_A_count, if_neg h1_0, if_neg h1_1, if_pos h1_2, h1_2]; rfl) | (rw [fd_A_count, if_neg h1_0, if_neg h1_1, if_neg h1_2, if_pos h1_3]; done) | (rw [fd_A_count, if_neg h1_0, if_neg h1_1, if_neg h1_2, if_pos h1_3]; rfl) | (rw [fd_A_count, if_neg h1_0, if_neg h1_1, if_neg h1_2, if_pos h1_3, h1_3]; rfl) | (rw [fd_A_count, if_neg h1_0, if_neg h1_1, if_neg h1_2, if_neg h1_3, if_pos h1_4]; done) | (rw [fd_A_count, if_neg h1_0, if_neg h1_1, if_neg h1_2, if_neg h1_3, if_pos h1_4]; rfl) | (rw [fd_A_count, if_neg h1_0, if_neg h1_1, if_neg h1_2, if_neg h1_3, if_pos h1_4, h1_4]; rfl) | (rw [fd_A_count, if_neg h1_0, if_neg h1_1, if_neg h1_2, if_neg h1_3, if_neg h1_4, if_pos h1_5]; done) | (rw [fd_A_count, if_neg h1_0, if_neg h1_1, if_neg h1_2, if_neg h1_3, if_neg h1_4, if_pos h1_5]; rfl) | (rw [fd_A_count, if_neg h1_0, if_neg h1_1, if_neg h1_2, if_neg h1_3, if_neg h1_4, if_pos h1_5, h1_5]; rfl) | (rw [fd_A_count, if_neg h1_0, if_neg h1_1, if_neg h1_2, if_neg h1_3, if_neg h1_4, if_neg h1_5, if_pos h1_6]; done) | (rw [fd_A_count, if_neg h1_0, if_neg h1_1, if_neg h1_2, if_neg h1_3, if_neg h1_4, if_neg h1_5, if_pos h1_6]; rfl) | (rw [fd_A_count, if_neg h1_0, if_neg h1_1, if_neg h1_2, if_neg h1_3, if_neg h1_4, if_neg h1_5, if_pos h1_6, h1_6]; rfl) | (rw [fd_A_count, if_neg h1_0, if_neg h1_1, if_neg h1_2, if_neg h1_3, if_neg h1_4, if_neg h1_5, if_neg h1_6, if_pos h1_7]; done) | (rw [fd_A_count, if_neg h1_0, if_neg h1_1, if_neg h1_2, if_neg h1_3, if_neg h1_4, if_neg h1_5, if_neg h1_6, if_pos h1_7]; rfl) | (rw [fd_A_count, if_neg h1_0, if_neg h1_1, if_neg h1_2, if_neg h1_3, if_neg h1_4, if_neg h1_5, if_neg h1_6, if_pos h1_7, h1_7]; rfl) | (rw [fd_A_count, if_neg h1_0, if_neg h1_1, if_neg h1_2, if_neg h1_3, if_neg h1_4, if_neg h1_5, if_neg h1_6, if_neg h1_7]; done) | (rw [fd_A_count, if_neg h1_0, if_neg h1_1, if_neg h1_2, if_neg h1_3, if_neg h1_4, if_neg h1_5, if_neg h1_6, if_neg h1_7]; rfl)
  · rfl


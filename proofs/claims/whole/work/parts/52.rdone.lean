/-! the reference: what is done -/
theorem fd_cpS (M : fd_M) (c s t k : Nat) (h : s + k < t ∨ t ≤ s) : fd_up (fd_cp M c s c t k) c (t + k) (fd_cp M c s c t k c (s + k)) = fd_cp M c s c t (k + 1) := by
  have e : fd_cp M c s c t k c (s + k) = M c (s + k) := by
    unfold fd_cp
    rw [if_neg (by omega)]
  rw [e]
  funext a b
  unfold fd_up fd_cp
  by_cases h1 : a = c ∧ b = t + k
  · obtain ⟨rfl, rfl⟩ := h1
    rw [if_pos ⟨rfl, rfl⟩, if_pos ⟨rfl, by omega, by omega⟩]
    congr 1
    omega
  · rw [if_neg h1]
    by_cases h2 : a = c ∧ t ≤ b ∧ b < t + k
    · rw [if_pos h2, if_pos ⟨h2.1, h2.2.1, by omega⟩]
    · rw [if_neg h2, if_neg (by omega)]
theorem fd_cp0 (M : fd_M) (c s t : Nat) : fd_cp M c s c t 0 = M := by
  funext a b
  unfold fd_cp
  rw [if_neg (by omega)]
theorem fd_cp_out {M : fd_M} {c s t n a b : Nat} (h : a ≠ c ∨ b < t ∨ t + n ≤ b) : fd_cp M c s c t n a b = M a b := by
  unfold fd_cp
  rw [if_neg (by omega)]
theorem fd_cp_fr {M : fd_M} {c s t n a : Nat} (h : a ≠ c) : fd_cp M c s c t n a = M a := by
  funext b
  exact fd_cp_out (Or.inl h)
theorem fd_cp_in {M : fd_M} {c s t n b : Nat} (h : t ≤ b ∧ b < t + n) : fd_cp M c s c t n c b = M c (s + (b - t)) := by
  unfold fd_cp
  rw [if_pos ⟨rfl, h⟩]
def fd_kn1 (M : fd_M) : fd_M := fd_up (fd_cp M 208 0 208 (29 + 28 * (M 208 28).toNat) 28) 208 28 (M 208 28 + 1)
def fd_kn0 (M : fd_M) : fd_M := fd_up (fd_cp M 208 57 208 29 252) 208 28 9
def fd_know (M : fd_M) : fd_M := if M 208 28 = 10 then fd_kn1 (fd_kn0 M) else fd_kn1 M
theorem fd_l_know2 (M : fd_M) (h28 : 0 ≤ M 208 28 ∧ M 208 28 ≤ 9) : ∀ (n : Nat) (k : Nat) (hk : k + n = 28), fd_run 0 81 35 [fd_R 199, fd_I ((k : Nat) : Int)] [] (fd_cp M 208 0 208 (29 + 28 * (M 208 28).toNat) k) (none) (fd_kn1 M) := by
  intro n
  induction n with
  | zero =>
    intro k hk
    have e28 : (fd_cp M 208 0 208 (29 + 28 * (M 208 28).toNat) k) 208 28 = M 208 28 := fd_cp_out (by omega)
    have hB : ∀ (q0 : Int), fd_bl 2 (List.drop 35 fd_c81) [fd_R 199, fd_I q0] [] (fd_cp M 208 0 208 (29 + 28 * (M 208 28).toNat) k) = some (true, [fd_R 199, fd_I q0], [fd_I 28, fd_I q0], (fd_cp M 208 0 208 (29 + 28 * (M 208 28).toNat) k)) := fun _ => rfl
    refine fd_u_blk 2 (C := fd_c81) (b := true) (L' := [fd_R 199, fd_I ((k : Nat) : Int)]) (st' := [fd_I 28, fd_I ((k : Nat) : Int)]) (M' := (fd_cp M 208 0 208 (29 + 28 * (M 208 28).toNat) k)) rfl (hB ((k : Nat) : Int)) (j := 37) rfl (rfl) ?_
    clear hB
    refine fd_u_br (C := fd_c81) (t := 57) (e := 38) (st' := []) (c := 28 ≤ ((k : Nat) : Int)) (b := (fd_rng ((k : Nat) : Int) && fd_rng 28)) rfl rfl rfl (fd_bA (fd_bR (by omega) (by omega)) (fd_bR (by omega) (by omega))) (fun h37 => ?_) (fun h37 => absurd h37 (by omega))
    have hB : ∀ (q0 : Int), fd_bl 8 (List.drop 57 fd_c81) [fd_R 199, fd_I q0] [] (fd_cp M 208 0 208 (29 + 28 * (M 208 28).toNat) k) = some (true, [fd_R 199, fd_I q0], [], (fd_up (fd_cp M 208 0 208 (29 + 28 * (M 208 28).toNat) k) 208 28 (((fd_cp M 208 0 208 (29 + 28 * (M 208 28).toNat) k) 208 28) + 1))) := fun _ => rfl
    refine fd_u_blk 8 (C := fd_c81) (b := true) (L' := [fd_R 199, fd_I ((k : Nat) : Int)]) (st' := []) (M' := (fd_up (fd_cp M 208 0 208 (29 + 28 * (M 208 28).toNat) k) 208 28 (((fd_cp M 208 0 208 (29 + 28 * (M 208 28).toNat) k) 208 28) + 1))) rfl (hB ((k : Nat) : Int)) (j := 65) rfl (rfl) ?_
    clear hB
    refine fd_u_ret (C := fd_c81) (b := true) (r' := none) rfl rfl rfl (rfl) ?_ ?_
    · rfl
    · have e : k = 28 := by omega
      subst e
      rw [e28]; rfl
  | succ n ih =>
    intro k hk
    have e28 : (fd_cp M 208 0 208 (29 + 28 * (M 208 28).toNat) k) 208 28 = M 208 28 := fd_cp_out (by omega)
    have hB : ∀ (q0 : Int), fd_bl 2 (List.drop 35 fd_c81) [fd_R 199, fd_I q0] [] (fd_cp M 208 0 208 (29 + 28 * (M 208 28).toNat) k) = some (true, [fd_R 199, fd_I q0], [fd_I 28, fd_I q0], (fd_cp M 208 0 208 (29 + 28 * (M 208 28).toNat) k)) := fun _ => rfl
    refine fd_u_blk 2 (C := fd_c81) (b := true) (L' := [fd_R 199, fd_I ((k : Nat) : Int)]) (st' := [fd_I 28, fd_I ((k : Nat) : Int)]) (M' := (fd_cp M 208 0 208 (29 + 28 * (M 208 28).toNat) k)) rfl (hB ((k : Nat) : Int)) (j := 37) rfl (rfl) ?_
    clear hB
    refine fd_u_br (C := fd_c81) (t := 57) (e := 38) (st' := []) (c := 28 ≤ ((k : Nat) : Int)) (b := (fd_rng ((k : Nat) : Int) && fd_rng 28)) rfl rfl rfl (fd_bA (fd_bR (by omega) (by omega)) (fd_bR (by omega) (by omega))) (fun h37 => absurd h37 (by omega)) (fun h37 => ?_)
    have hB : ∀ (q0 : Int), fd_bl 18 (List.drop 38 fd_c81) [fd_R 199, fd_I q0] [] (fd_cp M 208 0 208 (29 + 28 * (M 208 28).toNat) k) = some ((fd_isA true (fd_cp M 208 0 208 (29 + 28 * (M 208 28).toNat) k) 208 20 q0 && (fd_isA true (fd_cp M 208 0 208 (29 + 28 * (M 208 28).toNat) k) 208 20 ((29 + (28 * ((fd_cp M 208 0 208 (29 + 28 * (M 208 28).toNat) k) 208 28))) + q0) && true)), [fd_R 199, fd_I (q0 + 1)], [], (fd_up (fd_cp M 208 0 208 (29 + 28 * (M 208 28).toNat) k) 208 ((29 + (28 * ((fd_cp M 208 0 208 (29 + 28 * (M 208 28).toNat) k) 208 28))) + q0).toNat ((fd_cp M 208 0 208 (29 + 28 * (M 208 28).toNat) k) 208 (q0).toNat))) := fun _ => rfl
    refine fd_u_blk 18 (C := fd_c81) (b := (fd_isA true (fd_cp M 208 0 208 (29 + 28 * (M 208 28).toNat) k) 208 20 ((k : Nat) : Int) && (fd_isA true (fd_cp M 208 0 208 (29 + 28 * (M 208 28).toNat) k) 208 20 ((29 + (28 * ((fd_cp M 208 0 208 (29 + 28 * (M 208 28).toNat) k) 208 28))) + ((k : Nat) : Int)) && true))) (L' := [fd_R 199, fd_I (((k + 1) : Nat) : Int)]) (st' := []) (M' := (fd_up (fd_cp M 208 0 208 (29 + 28 * (M 208 28).toNat) k) 208 ((29 + (28 * ((fd_cp M 208 0 208 (29 + 28 * (M 208 28).toNat) k) 208 28))) + ((k : Nat) : Int)).toNat ((fd_cp M 208 0 208 (29 + 28 * (M 208 28).toNat) k) 208 k))) rfl (hB ((k : Nat) : Int)) (j := 56) rfl (fd_bA (fd_iA fd_sh208 (by omega) (by omega)) (fd_bA (fd_iA fd_sh208 (by omega) (by omega)) (rfl))) ?_
    clear hB
    refine fd_u_jmp (C := fd_c81) (j := 35) (st' := []) rfl rfl (b := true) rfl rfl ?_
    have z := fd_cpS M 208 0 (29 + 28 * (M 208 28).toNat) k (by omega)
    rw [Nat.zero_add] at z
    rw [show ((29 + (28 * ((fd_cp M 208 0 208 (29 + 28 * (M 208 28).toNat) k) 208 28))) + ((k : Nat) : Int)).toNat = (29 + 28 * (M 208 28).toNat) + k by omega, z]
    exact ih (k + 1) (by omega)

theorem fd_f_know2 (M : fd_M) (h28 : 0 ≤ M 208 28 ∧ M 208 28 ≤ 9) (u : fd_V) : fd_run 0 81 33 [fd_R 199, u] [] M (none) (fd_kn1 M) := by
  refine fd_u_blk 2 (C := fd_c81) (b := true) (L' := [fd_R 199, fd_I 0]) (st' := []) (M' := M) rfl rfl (j := 35) rfl (rfl) ?_
  have z := fd_l_know2 M h28 28 0 (by omega)
  rw [fd_cp0] at z
  exact z

theorem fd_l_know1 (M : fd_M) (h28 : M 208 28 = 10) : ∀ (n : Nat) (k : Nat) (hk : k + n = 252), fd_run 0 81 8 [fd_R 199, fd_I ((k : Nat) : Int)] [] (fd_cp M 208 57 208 29 k) (none) (fd_kn1 (fd_kn0 M)) := by
  intro n
  induction n with
  | zero =>
    intro k hk
    have e28 : (fd_cp M 208 57 208 29 k) 208 28 = M 208 28 := fd_cp_out (by omega)
    have hB : ∀ (q0 : Int), fd_bl 2 (List.drop 8 fd_c81) [fd_R 199, fd_I q0] [] (fd_cp M 208 57 208 29 k) = some (true, [fd_R 199, fd_I q0], [fd_I 252, fd_I q0], (fd_cp M 208 57 208 29 k)) := fun _ => rfl
    refine fd_u_blk 2 (C := fd_c81) (b := true) (L' := [fd_R 199, fd_I ((k : Nat) : Int)]) (st' := [fd_I 252, fd_I ((k : Nat) : Int)]) (M' := (fd_cp M 208 57 208 29 k)) rfl (hB ((k : Nat) : Int)) (j := 10) rfl (rfl) ?_
    clear hB
    refine fd_u_br (C := fd_c81) (t := 25) (e := 11) (st' := []) (c := 252 ≤ ((k : Nat) : Int)) (b := (fd_rng ((k : Nat) : Int) && fd_rng 252)) rfl rfl rfl (fd_bA (fd_bR (by omega) (by omega)) (fd_bR (by omega) (by omega))) (fun h10 => ?_) (fun h10 => absurd h10 (by omega))
    have hB : ∀ (q0 : Int), fd_bl 8 (List.drop 25 fd_c81) [fd_R 199, fd_I q0] [] (fd_cp M 208 57 208 29 k) = some (true, [fd_R 199, fd_I q0], [], (fd_up (fd_cp M 208 57 208 29 k) 208 28 (((fd_cp M 208 57 208 29 k) 208 28) - 1))) := fun _ => rfl
    refine fd_u_blk 8 (C := fd_c81) (b := true) (L' := [fd_R 199, fd_I ((k : Nat) : Int)]) (st' := []) (M' := (fd_up (fd_cp M 208 57 208 29 k) 208 28 (((fd_cp M 208 57 208 29 k) 208 28) - 1))) rfl (hB ((k : Nat) : Int)) (j := 33) rfl (rfl) ?_
    clear hB
    have e : k = 252 := by omega
    subst e
    have e9 : fd_cp M 208 57 208 29 252 208 28 - 1 = 9 := by rw [e28, h28]; rfl
    rw [e9]
    exact fd_f_know2 (fd_kn0 M) (by rw [show fd_kn0 M 208 28 = 9 by unfold fd_kn0; rw [fd_up_at, if_pos rfl]]; decide) _
  | succ n ih =>
    intro k hk
    have e28 : (fd_cp M 208 57 208 29 k) 208 28 = M 208 28 := fd_cp_out (by omega)
    have hB : ∀ (q0 : Int), fd_bl 2 (List.drop 8 fd_c81) [fd_R 199, fd_I q0] [] (fd_cp M 208 57 208 29 k) = some (true, [fd_R 199, fd_I q0], [fd_I 252, fd_I q0], (fd_cp M 208 57 208 29 k)) := fun _ => rfl
    refine fd_u_blk 2 (C := fd_c81) (b := true) (L' := [fd_R 199, fd_I ((k : Nat) : Int)]) (st' := [fd_I 252, fd_I ((k : Nat) : Int)]) (M' := (fd_cp M 208 57 208 29 k)) rfl (hB ((k : Nat) : Int)) (j := 10) rfl (rfl) ?_
    clear hB
    refine fd_u_br (C := fd_c81) (t := 25) (e := 11) (st' := []) (c := 252 ≤ ((k : Nat) : Int)) (b := (fd_rng ((k : Nat) : Int) && fd_rng 252)) rfl rfl rfl (fd_bA (fd_bR (by omega) (by omega)) (fd_bR (by omega) (by omega))) (fun h10 => absurd h10 (by omega)) (fun h10 => ?_)
    have hB : ∀ (q0 : Int), fd_bl 11 (List.drop 11 fd_c81) [fd_R 199, fd_I q0] [] (fd_cp M 208 57 208 29 k) = some ((fd_isA true (fd_cp M 208 57 208 29 k) 208 20 (57 + q0) && true), [fd_R 199, fd_I q0], [fd_I ((fd_cp M 208 57 208 29 k) 208 (57 + q0).toNat), fd_I (29 + q0), fd_R 208], (fd_cp M 208 57 208 29 k)) := fun _ => rfl
    refine fd_u_blk 11 (C := fd_c81) (b := (fd_isA true (fd_cp M 208 57 208 29 k) 208 20 (57 + ((k : Nat) : Int)) && true)) (L' := [fd_R 199, fd_I ((k : Nat) : Int)]) (st' := [fd_I ((fd_cp M 208 57 208 29 k) 208 (57 + ((k : Nat) : Int)).toNat), fd_I (29 + ((k : Nat) : Int)), fd_R 208]) (M' := (fd_cp M 208 57 208 29 k)) rfl (hB ((k : Nat) : Int)) (j := 22) rfl (fd_bA (fd_iA fd_sh208 (by omega) (by omega)) (rfl)) ?_
    clear hB
    rw [show (57 + ((k : Nat) : Int)).toNat = 57 + k by omega]
    have hB : ∀ (q0 : Int) (q1 : Int), fd_bl 2 (List.drop 22 fd_c81) [fd_R 199, fd_I q0] [fd_I ((fd_cp M 208 57 208 29 k) 208 (57 + k)), fd_I q1, fd_R 208] (fd_cp M 208 57 208 29 k) = some ((fd_isA true (fd_cp M 208 57 208 29 k) 208 20 q1 && true), [fd_R 199, fd_I (q0 + 1)], [], (fd_up (fd_cp M 208 57 208 29 k) 208 (q1).toNat ((fd_cp M 208 57 208 29 k) 208 (57 + k)))) := fun _ _ => rfl
    refine fd_u_blk 2 (C := fd_c81) (b := (fd_isA true (fd_cp M 208 57 208 29 k) 208 20 (29 + ((k : Nat) : Int)) && true)) (L' := [fd_R 199, fd_I (((k + 1) : Nat) : Int)]) (st' := []) (M' := (fd_up (fd_cp M 208 57 208 29 k) 208 (29 + ((k : Nat) : Int)).toNat ((fd_cp M 208 57 208 29 k) 208 (57 + k)))) rfl (hB ((k : Nat) : Int) (29 + ((k : Nat) : Int))) (j := 24) rfl (fd_bA (fd_iA fd_sh208 (by omega) (by omega)) (rfl)) ?_
    clear hB
    rw [show (29 + ((k : Nat) : Int)).toNat = 29 + k by omega]
    refine fd_u_jmp (C := fd_c81) (j := 8) (st' := []) rfl rfl (b := true) rfl rfl ?_
    rw [fd_cpS M 208 57 29 k (by omega)]
    exact ih (k + 1) (by omega)

theorem fd_r_know (M : fd_M) (h28 : 0 ≤ M 208 28 ∧ M 208 28 ≤ 10) : fd_call 0 81 [fd_R 199] M (none) (fd_know M) := by
  refine fd_u_in (L := [fd_R 199, fd_R 1003]) rfl ?_
  refine fd_u_blk 5 (C := fd_c81) (b := true) (L' := [fd_R 199, fd_R 1003]) (st' := [fd_I 10, fd_I (M 208 28)]) (M' := M) rfl rfl (j := 5) rfl (rfl) ?_
  refine fd_u_br (C := fd_c81) (t := 33) (e := 6) (st' := []) (c := ¬ (M 208 28) = 10) (b := (fd_rng (M 208 28) && fd_rng 10)) rfl rfl rfl (fd_bA (fd_bR (by omega) (by omega)) (fd_bR (by omega) (by omega))) (fun h5 => ?_) (fun h5 => ?_)
  · rw [fd_know, if_neg h5]
    exact fd_f_know2 M (by omega) _
  · refine fd_u_blk 2 (C := fd_c81) (b := true) (L' := [fd_R 199, fd_I 0]) (st' := []) (M' := M) rfl rfl (j := 8) rfl (rfl) ?_
    rw [fd_know, if_pos (Classical.not_not.mp h5)]
    have z := fd_l_know1 M (Classical.not_not.mp h5) 252 0 (by omega)
    rw [fd_cp0] at z
    exact z

theorem fd_know_fr {M : fd_M} {c : Nat} (h : c ≠ 208) : fd_know M c = M c := by
  have a : ∀ N : fd_M, fd_kn1 N c = N c := fun N => by
    unfold fd_kn1
    rw [fd_up_ne h, fd_cp_fr h]
  have b : fd_kn0 M c = M c := by
    unfold fd_kn0
    rw [fd_up_ne h, fd_cp_fr h]
  unfold fd_know
  split
  · rw [a, b]
  · rw [a]
theorem fd_kn1_lo {M : fd_M} {k : Nat} (h : k < 28) : fd_kn1 M 208 k = M 208 k := by
  unfold fd_kn1
  rw [fd_up_at, if_neg (by omega), fd_cp_out (by omega)]
theorem fd_know_lo {M : fd_M} {k : Nat} (h : k < 28) : fd_know M 208 k = M 208 k := by
  unfold fd_know
  split
  · rw [fd_kn1_lo h]
    unfold fd_kn0
    rw [fd_up_at, if_neg (by omega), fd_cp_out (by omega)]
  · exact fd_kn1_lo h
theorem fd_kn1_28 (M : fd_M) : fd_kn1 M 208 28 = M 208 28 + 1 := by
  unfold fd_kn1
  rw [fd_up_at, if_pos rfl]
theorem fd_know_28 (M : fd_M) : fd_know M 208 28 = if M 208 28 = 10 then 10 else M 208 28 + 1 := by
  unfold fd_know
  split
  · rw [fd_kn1_28]
    unfold fd_kn0
    rw [fd_up_at, if_pos rfl]
    rfl
  · exact fd_kn1_28 M
theorem fd_RP_know {M : fd_M} (h : fd_RP M) : fd_RP (fd_know M) := fd_RP_of h (fd_know_fr (by decide)) (fd_know_fr (by decide)) (fd_know_fr (by decide)) (fd_know_fr (by decide)) (fd_know_fr (by decide))
theorem fd_RS_lo {M N : fd_M} (h : fd_RS M) (hD : M 204 0 ≤ 6) (e4 : N 204 0 = M 204 0) (e : ∀ k, k < 28 → N 208 k = M 208 k) (e28 : 0 ≤ N 208 28 ∧ N 208 28 ≤ 10) : fd_RS N := by
  obtain ⟨s1, s2, s3, s4, s5, s6⟩ := h
  refine ⟨fun d hd => ?_, fun y hy => ?_, ?_, ?_, ?_, e28⟩
  · rw [e4] at hd
    rw [e d (by omega), e (6 + d) (by omega), e (15 + d) (by omega)]
    exact s1 d hd
  · rw [e _ (by omega)]
    exact s2 y hy
  · rw [e _ (by omega)]; exact s3
  · rw [e _ (by omega)]; exact s4
  · rw [e _ (by omega)]; exact s5
theorem fd_RS_know {M : fd_M} (hP : fd_RP M) (h : fd_RS M) : fd_RS (fd_know M) := by
  refine fd_RS_lo h hP.2.2.1.2 (by rw [fd_know_fr (by decide)]) (fun k hk => fd_know_lo hk) ?_
  have := h.2.2.2.2.2
  rw [fd_know_28]
  split <;> omega
theorem fd_RP_up {M : fd_M} (h : fd_RP M) (k : Nat) (v : Int) : fd_RP (fd_up M 208 k v) := fd_RP_of h (fd_up_ne (by decide)) (fd_up_ne (by decide)) (fd_up_ne (by decide)) (fd_up_ne (by decide)) (fd_up_ne (by decide))
theorem fd_RS_up {M : fd_M} (h : fd_RS M) {k : Nat} {v : Int} (hv : (k < 6 → 0 ≤ v ∧ v ≤ 48) ∧ (6 ≤ k ∧ k < 12 → 0 ≤ v ∧ v ≤ 3) ∧ (k = 12 → 0 ≤ v ∧ v < 64) ∧ (13 ≤ k ∧ k ≤ 14 → 0 ≤ v ∧ v ≤ 1) ∧ (15 ≤ k ∧ k < 21 → 0 ≤ v ∧ v ≤ 9999) ∧ (21 ≤ k ∧ k < 28 → 0 ≤ v ∧ v < 128) ∧ (k = 28 → 0 ≤ v ∧ v ≤ 10)) (hD : M 204 0 ≤ 6) : fd_RS (fd_up M 208 k v) := by
  obtain ⟨s1, s2, s3, s4, s5, s6⟩ := h
  have e : ∀ j, fd_up M 208 k v 208 j = if j = k then v else M 208 j := fun j => fd_up_at ..
  refine ⟨fun d hd => ?_, fun y hy => ?_, ?_, ?_, ?_, ?_⟩
  · have hd2 : (d : Int) < M 204 0 := hd
    have := s1 d hd2
    rw [e, e, e]
    refine ⟨?_, ?_, ?_⟩ <;> split <;> omega
  · have := s2 y hy
    rw [e]
    split <;> omega
  all_goals rw [e]; split <;> omega
def fd_A_hinges (M : fd_M) (d w : Int) : Int := if ¬ (0 ≤ d ∧ d < M 204 0 ∧ 0 ≤ w ∧ w ≤ 3) then -1 else if M 208 (6 + d.toNat) = w then -2 else M 208 (6 + d.toNat)
def fd_B_hinges (M : fd_M) (d w : Int) : fd_M := if ¬ (0 ≤ d ∧ d < M 204 0 ∧ 0 ≤ w ∧ w ≤ 3) then M else if M 208 (6 + d.toNat) = w then M else fd_up (fd_know M) 208 (6 + d.toNat) w
theorem fd_r_hinges (M : fd_M) (hP : fd_RP M) (hS : fd_RS M) (d : Int) (hd : -2147483648 ≤ d ∧ d < 2147483648) (w : Int) (hw : -2147483648 ≤ w ∧ w < 2147483648) : fd_call 2 83 [fd_R 199, fd_I d, fd_I w] M (some (fd_I (fd_A_hinges M d w))) (fd_B_hinges M d w) := by
  refine fd_u_in (L := [fd_R 199, fd_I d, fd_I w, fd_R 1003]) rfl ?_
  obtain ⟨g0, g1, g2, g3, g4, g5⟩ := id hP
  obtain ⟨s1, s2, s3, s4, s5, s6⟩ := id hS
  refine fd_u_blk 2 (C := fd_c83) (b := true) (L' := [fd_R 199, fd_I d, fd_I w, fd_R 1003]) (st' := [fd_I d, fd_R 199]) (M' := M) rfl rfl (j := 2) rfl (rfl) ?_
  refine fd_u_call (C := fd_c83) (d0 := 1) (mid := 66) (np := 2) (args := [fd_R 199, fd_I d]) (r1 := some (fd_I (fd_bi (0 ≤ d ∧ d < M 204 0)))) (M1 := M) (st' := [fd_I (fd_bi (0 ≤ d ∧ d < M 204 0))]) rfl rfl rfl rfl rfl rfl (rfl) (fd_r_isDoor M hP d (by omega)) rfl (by omega) ?_
  refine fd_u_br (C := fd_c83) (t := 9) (e := 4) (st' := []) (c := (fd_bi (0 ≤ d ∧ d < M 204 0)) = 0) (b := (fd_rng (fd_bi (0 ≤ d ∧ d < M 204 0)))) rfl rfl rfl (fd_biR) (fun h3 => ?_) (fun h3 => ?_)
  · have h3 := fd_biF.mp h3
    refine fd_u_blk 1 (C := fd_c83) (b := true) (L' := [fd_R 199, fd_I d, fd_I w, fd_R 1003]) (st' := [fd_I (-1)]) (M' := M) rfl rfl (j := 10) rfl (rfl) ?_
    refine fd_u_ret (C := fd_c83) (b := true) (r' := some (fd_I (-1))) rfl rfl rfl (rfl) ?_ ?_
    · rw [fd_A_hinges, if_pos (show ¬ (0 ≤ d ∧ d < M 204 0 ∧ 0 ≤ w ∧ w ≤ 3) by omega)]
    · rw [fd_B_hinges, if_pos (show ¬ (0 ≤ d ∧ d < M 204 0 ∧ 0 ≤ w ∧ w ≤ 3) by omega)]
  · have h3 := fd_biT.mp h3
    refine fd_u_blk 3 (C := fd_c83) (b := true) (L' := [fd_R 199, fd_I d, fd_I w, fd_R 1003]) (st' := [fd_I 3, fd_I 0, fd_I w]) (M' := M) rfl rfl (j := 7) rfl (rfl) ?_
    refine fd_u_call (C := fd_c83) (d0 := 0) (mid := 52) (np := 3) (args := [fd_I w, fd_I 0, fd_I 3]) (r1 := some (fd_I (fd_bi (0 ≤ w ∧ w ≤ 3)))) (M1 := M) (st' := [fd_I (fd_bi (0 ≤ w ∧ w ≤ 3))]) rfl rfl rfl rfl rfl rfl (rfl) (fd_r_in M w 0 3 (by omega) (by omega) (by omega)) rfl (by omega) ?_
    refine fd_u_br (C := fd_c83) (t := 11) (e := 9) (st' := []) (c := ¬ (fd_bi (0 ≤ w ∧ w ≤ 3)) = 0) (b := (fd_rng (fd_bi (0 ≤ w ∧ w ≤ 3)))) rfl rfl rfl (fd_biR) (fun h8 => ?_) (fun h8 => ?_)
    · have h8 := fd_biT.mp h8
      obtain ⟨e, rfl⟩ := Int.eq_ofNat_of_zero_le (show 0 ≤ d by omega)
      have qs := s1 e (by omega)
      have hB : ∀ (q0 : Int), fd_bl 6 (List.drop 11 fd_c83) [fd_R 199, fd_I q0, fd_I w, fd_R 1003] [] M = some ((fd_isA true M 208 20 (6 + q0) && true), [fd_R 199, fd_I q0, fd_I w, fd_R 1003], [fd_I (M 208 (6 + q0).toNat)], M) := fun _ => rfl
      refine fd_u_blk 6 (C := fd_c83) (b := (fd_isA true M 208 20 (6 + ((e : Nat) : Int)) && true)) (L' := [fd_R 199, fd_I ((e : Nat) : Int), fd_I w, fd_R 1003]) (st' := [fd_I (M 208 (6 + ((e : Nat) : Int)).toNat)]) (M' := M) rfl (hB ((e : Nat) : Int)) (j := 17) rfl (fd_bA (fd_iA fd_sh208 (by omega) (by omega)) (rfl)) ?_
      clear hB
      rw [show (6 + ((e : Nat) : Int)).toNat = 6 + e by omega]
      have hB : ∀ (q0 : Int), fd_bl 3 (List.drop 17 fd_c83) [fd_R 199, fd_I q0, fd_I w, fd_R 1003] [fd_I (M 208 (6 + e))] M = some (true, [fd_R 199, fd_I q0, fd_I w, fd_I (M 208 (6 + e))], [fd_I w, fd_I (M 208 (6 + e))], M) := fun _ => rfl
      refine fd_u_blk 3 (C := fd_c83) (b := true) (L' := [fd_R 199, fd_I ((e : Nat) : Int), fd_I w, fd_I (M 208 (6 + e))]) (st' := [fd_I w, fd_I (M 208 (6 + e))]) (M' := M) rfl (hB ((e : Nat) : Int)) (j := 20) rfl (rfl) ?_
      clear hB
      refine fd_u_br (C := fd_c83) (t := 23) (e := 21) (st' := []) (c := ¬ (M 208 (6 + e)) = w) (b := (fd_rng (M 208 (6 + e)) && fd_rng w)) rfl rfl rfl (fd_bA (fd_bR (by omega) (by omega)) (fd_bR (by omega) (by omega))) (fun h20 => ?_) (fun h20 => ?_)
      · have hB : ∀ (q0 : Int), fd_bl 1 (List.drop 23 fd_c83) [fd_R 199, fd_I q0, fd_I w, fd_I (M 208 (6 + e))] [] M = some (true, [fd_R 199, fd_I q0, fd_I w, fd_I (M 208 (6 + e))], [fd_R 199], M) := fun _ => rfl
        refine fd_u_blk 1 (C := fd_c83) (b := true) (L' := [fd_R 199, fd_I ((e : Nat) : Int), fd_I w, fd_I (M 208 (6 + e))]) (st' := [fd_R 199]) (M' := M) rfl (hB ((e : Nat) : Int)) (j := 24) rfl (rfl) ?_
        clear hB
        refine fd_u_call (C := fd_c83) (d0 := 0) (mid := 81) (np := 1) (args := [fd_R 199]) (r1 := none) (M1 := (fd_know M)) (st' := []) rfl rfl rfl rfl rfl rfl (rfl) (fd_r_know M hS.2.2.2.2.2) rfl (by omega) ?_
        have hB : ∀ (q0 : Int), fd_bl 8 (List.drop 25 fd_c83) [fd_R 199, fd_I q0, fd_I w, fd_I (M 208 (6 + e))] [] (fd_know M) = some ((fd_isA true (fd_know M) 208 20 (6 + q0) && true), [fd_R 199, fd_I q0, fd_I w, fd_I (M 208 (6 + e))], [fd_I (M 208 (6 + e))], (fd_up (fd_know M) 208 (6 + q0).toNat w)) := fun _ => rfl
        refine fd_u_blk 8 (C := fd_c83) (b := (fd_isA true (fd_know M) 208 20 (6 + ((e : Nat) : Int)) && true)) (L' := [fd_R 199, fd_I ((e : Nat) : Int), fd_I w, fd_I (M 208 (6 + e))]) (st' := [fd_I (M 208 (6 + e))]) (M' := (fd_up (fd_know M) 208 (6 + ((e : Nat) : Int)).toNat w)) rfl (hB ((e : Nat) : Int)) (j := 33) rfl (fd_bA (fd_iA fd_sh208 (by omega) (by omega)) (rfl)) ?_
        clear hB
        rw [show (6 + ((e : Nat) : Int)).toNat = 6 + e by omega]
        refine fd_u_ret (C := fd_c83) (b := true) (r' := some (fd_I (M 208 (6 + e)))) rfl rfl rfl (rfl) ?_ ?_
        · rw [fd_A_hinges, if_neg (show ¬ ¬ (0 ≤ (e : Int) ∧ (e : Int) < M 204 0 ∧ 0 ≤ w ∧ w ≤ 3) by omega), if_neg (show ¬ (M 208 (6 + (e : Int).toNat) = w) from h20)]; rfl
        · rw [fd_B_hinges, if_neg (show ¬ ¬ (0 ≤ (e : Int) ∧ (e : Int) < M 204 0 ∧ 0 ≤ w ∧ w ≤ 3) by omega), if_neg (show ¬ (M 208 (6 + (e : Int).toNat) = w) from h20)]; rfl
      · have hB : ∀ (q0 : Int), fd_bl 1 (List.drop 21 fd_c83) [fd_R 199, fd_I q0, fd_I w, fd_I (M 208 (6 + e))] [] M = some (true, [fd_R 199, fd_I q0, fd_I w, fd_I (M 208 (6 + e))], [fd_I (-2)], M) := fun _ => rfl
        refine fd_u_blk 1 (C := fd_c83) (b := true) (L' := [fd_R 199, fd_I ((e : Nat) : Int), fd_I w, fd_I (M 208 (6 + e))]) (st' := [fd_I (-2)]) (M' := M) rfl (hB ((e : Nat) : Int)) (j := 22) rfl (rfl) ?_
        clear hB
        refine fd_u_ret (C := fd_c83) (b := true) (r' := some (fd_I (-2))) rfl rfl rfl (rfl) ?_ ?_
        · rw [fd_A_hinges, if_neg (show ¬ ¬ (0 ≤ (e : Int) ∧ (e : Int) < M 204 0 ∧ 0 ≤ w ∧ w ≤ 3) by omega), if_pos (show M 208 (6 + (e : Int).toNat) = w from Classical.not_not.mp h20)]
        · rw [fd_B_hinges, if_neg (show ¬ ¬ (0 ≤ (e : Int) ∧ (e : Int) < M 204 0 ∧ 0 ≤ w ∧ w ≤ 3) by omega), if_pos (show M 208 (6 + (e : Int).toNat) = w from Classical.not_not.mp h20)]
    · have h8 := fd_biF2  h8
      refine fd_u_blk 1 (C := fd_c83) (b := true) (L' := [fd_R 199, fd_I d, fd_I w, fd_R 1003]) (st' := [fd_I (-1)]) (M' := M) rfl rfl (j := 10) rfl (rfl) ?_
      refine fd_u_ret (C := fd_c83) (b := true) (r' := some (fd_I (-1))) rfl rfl rfl (rfl) ?_ ?_
      · rw [fd_A_hinges, if_pos (show ¬ (0 ≤ d ∧ d < M 204 0 ∧ 0 ≤ w ∧ w ≤ 3) by omega)]
      · rw [fd_B_hinges, if_pos (show ¬ (0 ≤ d ∧ d < M 204 0 ∧ 0 ≤ w ∧ w ≤ 3) by omega)]

def fd_A_moves (M : fd_M) (d w : Int) : Int := if ¬ (0 ≤ d ∧ d < M 204 0 ∧ 0 ≤ w ∧ w ≤ 3) then -1 else if ¬ fd_cvR M (M 208 d.toNat % 7 + fd_sx w) (M 208 d.toNat / 7 + fd_sy w) = 0 then -2 else fd_know M 208 28
def fd_B_moves (M : fd_M) (d w : Int) : fd_M := if ¬ (0 ≤ d ∧ d < M 204 0 ∧ 0 ≤ w ∧ w ≤ 3) then M else if ¬ fd_cvR M (M 208 d.toNat % 7 + fd_sx w) (M 208 d.toNat / 7 + fd_sy w) = 0 then M else fd_up (fd_know M) 208 d.toNat (7 * (M 208 d.toNat / 7 + fd_sy w) + (M 208 d.toNat % 7 + fd_sx w))
theorem fd_r_moves (M : fd_M) (hP : fd_RP M) (hS : fd_RS M) (d : Int) (hd : -2147483648 ≤ d ∧ d < 2147483648) (w : Int) (hw : -2147483648 ≤ w ∧ w < 2147483648) : fd_call 3 84 [fd_R 199, fd_I d, fd_I w] M (some (fd_I (fd_A_moves M d w))) (fd_B_moves M d w) := by
  refine fd_u_in (L := [fd_R 199, fd_I d, fd_I w, fd_R 1003, fd_R 1003]) rfl ?_
  obtain ⟨g0, g1, g2, g3, g4, g5⟩ := id hP
  obtain ⟨s1, s2, s3, s4, s5, s6⟩ := id hS
  refine fd_u_blk 2 (C := fd_c84) (b := true) (L' := [fd_R 199, fd_I d, fd_I w, fd_R 1003, fd_R 1003]) (st' := [fd_I d, fd_R 199]) (M' := M) rfl rfl (j := 2) rfl (rfl) ?_
  refine fd_u_call (C := fd_c84) (d0 := 1) (mid := 66) (np := 2) (args := [fd_R 199, fd_I d]) (r1 := some (fd_I (fd_bi (0 ≤ d ∧ d < M 204 0)))) (M1 := M) (st' := [fd_I (fd_bi (0 ≤ d ∧ d < M 204 0))]) rfl rfl rfl rfl rfl rfl (rfl) (fd_r_isDoor M hP d (by omega)) rfl (by omega) ?_
  refine fd_u_br (C := fd_c84) (t := 9) (e := 4) (st' := []) (c := (fd_bi (0 ≤ d ∧ d < M 204 0)) = 0) (b := (fd_rng (fd_bi (0 ≤ d ∧ d < M 204 0)))) rfl rfl rfl (fd_biR) (fun h3 => ?_) (fun h3 => ?_)
  · have h3 := fd_biF.mp h3
    refine fd_u_blk 1 (C := fd_c84) (b := true) (L' := [fd_R 199, fd_I d, fd_I w, fd_R 1003, fd_R 1003]) (st' := [fd_I (-1)]) (M' := M) rfl rfl (j := 10) rfl (rfl) ?_
    refine fd_u_ret (C := fd_c84) (b := true) (r' := some (fd_I (-1))) rfl rfl rfl (rfl) ?_ ?_
    · rw [fd_A_moves, if_pos (show ¬ (0 ≤ d ∧ d < M 204 0 ∧ 0 ≤ w ∧ w ≤ 3) by omega)]
    · rw [fd_B_moves, if_pos (show ¬ (0 ≤ d ∧ d < M 204 0 ∧ 0 ≤ w ∧ w ≤ 3) by omega)]
  · have h3 := fd_biT.mp h3
    refine fd_u_blk 3 (C := fd_c84) (b := true) (L' := [fd_R 199, fd_I d, fd_I w, fd_R 1003, fd_R 1003]) (st' := [fd_I 3, fd_I 0, fd_I w]) (M' := M) rfl rfl (j := 7) rfl (rfl) ?_
    refine fd_u_call (C := fd_c84) (d0 := 0) (mid := 52) (np := 3) (args := [fd_I w, fd_I 0, fd_I 3]) (r1 := some (fd_I (fd_bi (0 ≤ w ∧ w ≤ 3)))) (M1 := M) (st' := [fd_I (fd_bi (0 ≤ w ∧ w ≤ 3))]) rfl rfl rfl rfl rfl rfl (rfl) (fd_r_in M w 0 3 (by omega) (by omega) (by omega)) rfl (by omega) ?_
    refine fd_u_br (C := fd_c84) (t := 11) (e := 9) (st' := []) (c := ¬ (fd_bi (0 ≤ w ∧ w ≤ 3)) = 0) (b := (fd_rng (fd_bi (0 ≤ w ∧ w ≤ 3)))) rfl rfl rfl (fd_biR) (fun h8 => ?_) (fun h8 => ?_)
    · have h8 := fd_biT.mp h8
      obtain ⟨e, rfl⟩ := Int.eq_ofNat_of_zero_le (show 0 ≤ d by omega)
      have qs := s1 e (by omega)
      have hB : ∀ (q0 : Int), fd_bl 6 (List.drop 11 fd_c84) [fd_R 199, fd_I q0, fd_I w, fd_R 1003, fd_R 1003] [] M = some ((fd_isA true M 208 20 (0 + q0) && true), [fd_R 199, fd_I q0, fd_I w, fd_R 1003, fd_R 1003], [fd_I (M 208 (0 + q0).toNat)], M) := fun _ => rfl
      refine fd_u_blk 6 (C := fd_c84) (b := (fd_isA true M 208 20 (0 + ((e : Nat) : Int)) && true)) (L' := [fd_R 199, fd_I ((e : Nat) : Int), fd_I w, fd_R 1003, fd_R 1003]) (st' := [fd_I (M 208 (0 + ((e : Nat) : Int)).toNat)]) (M' := M) rfl (hB ((e : Nat) : Int)) (j := 17) rfl (fd_bA (fd_iA fd_sh208 (by omega) (by omega)) (rfl)) ?_
      clear hB
      rw [show (0 + ((e : Nat) : Int)).toNat = e by omega]
      have hB : ∀ (q0 : Int), fd_bl 1 (List.drop 17 fd_c84) [fd_R 199, fd_I q0, fd_I w, fd_R 1003, fd_R 1003] [fd_I (M 208 e)] M = some (true, [fd_R 199, fd_I q0, fd_I w, fd_R 1003, fd_R 1003], [fd_I 7, fd_I (M 208 e)], M) := fun _ => rfl
      refine fd_u_blk 1 (C := fd_c84) (b := true) (L' := [fd_R 199, fd_I ((e : Nat) : Int), fd_I w, fd_R 1003, fd_R 1003]) (st' := [fd_I 7, fd_I (M 208 e)]) (M' := M) rfl (hB ((e : Nat) : Int)) (j := 18) rfl (rfl) ?_
      clear hB
      have hB : ∀ (q0 : Int), fd_bl 1 (List.drop 18 fd_c84) [fd_R 199, fd_I q0, fd_I w, fd_R 1003, fd_R 1003] [fd_I 7, fd_I (M 208 e)] M = some (((fd_inb (M 208 e) 2147483648 && fd_inb (7 - 1) 2147483647) && true), [fd_R 199, fd_I q0, fd_I w, fd_R 1003, fd_R 1003], [fd_I ((M 208 e) % 7)], M) := fun _ => rfl
      refine fd_u_blk 1 (C := fd_c84) (b := ((fd_inb (M 208 e) 2147483648 && fd_inb (7 - 1) 2147483647) && true)) (L' := [fd_R 199, fd_I ((e : Nat) : Int), fd_I w, fd_R 1003, fd_R 1003]) (st' := [fd_I ((M 208 e) % 7)]) (M' := M) rfl (hB ((e : Nat) : Int)) (j := 19) rfl (fd_bA (fd_bA (fd_bI (by omega) (by omega)) (fd_bI (by omega) (by omega))) (rfl)) ?_
      clear hB
      have hB : ∀ (q0 : Int), fd_bl 1 (List.drop 19 fd_c84) [fd_R 199, fd_I q0, fd_I w, fd_R 1003, fd_R 1003] [fd_I ((M 208 e) % 7)] M = some (true, [fd_R 199, fd_I q0, fd_I w, fd_R 1003, fd_R 1003], [fd_I w, fd_I ((M 208 e) % 7)], M) := fun _ => rfl
      refine fd_u_blk 1 (C := fd_c84) (b := true) (L' := [fd_R 199, fd_I ((e : Nat) : Int), fd_I w, fd_R 1003, fd_R 1003]) (st' := [fd_I w, fd_I ((M 208 e) % 7)]) (M' := M) rfl (hB ((e : Nat) : Int)) (j := 20) rfl (rfl) ?_
      clear hB
      refine fd_u_call (C := fd_c84) (d0 := 0) (mid := 73) (np := 1) (args := [fd_I w]) (r1 := some (fd_I (fd_sx w))) (M1 := M) (st' := [fd_I (fd_sx w), fd_I ((M 208 e) % 7)]) rfl rfl rfl rfl rfl rfl (rfl) (fd_r_stepX M w (by omega)) rfl (by omega) ?_
      have qx := fd_sx_rng w
      have hB : ∀ (q0 : Int), fd_bl 8 (List.drop 21 fd_c84) [fd_R 199, fd_I q0, fd_I w, fd_R 1003, fd_R 1003] [fd_I (fd_sx w), fd_I ((M 208 e) % 7)] M = some ((fd_isA true M 208 20 (0 + q0) && true), [fd_R 199, fd_I q0, fd_I w, fd_I (((M 208 e) % 7) + (fd_sx w)), fd_R 1003], [fd_I (M 208 (0 + q0).toNat)], M) := fun _ => rfl
      refine fd_u_blk 8 (C := fd_c84) (b := (fd_isA true M 208 20 (0 + ((e : Nat) : Int)) && true)) (L' := [fd_R 199, fd_I ((e : Nat) : Int), fd_I w, fd_I (((M 208 e) % 7) + (fd_sx w)), fd_R 1003]) (st' := [fd_I (M 208 (0 + ((e : Nat) : Int)).toNat)]) (M' := M) rfl (hB ((e : Nat) : Int)) (j := 29) rfl (fd_bA (fd_iA fd_sh208 (by omega) (by omega)) (rfl)) ?_
      clear hB
      rw [show (0 + ((e : Nat) : Int)).toNat = e by omega]
      have hB : ∀ (q0 : Int), fd_bl 1 (List.drop 29 fd_c84) [fd_R 199, fd_I q0, fd_I w, fd_I (((M 208 e) % 7) + (fd_sx w)), fd_R 1003] [fd_I (M 208 e)] M = some (true, [fd_R 199, fd_I q0, fd_I w, fd_I (((M 208 e) % 7) + (fd_sx w)), fd_R 1003], [fd_I 7, fd_I (M 208 e)], M) := fun _ => rfl
      refine fd_u_blk 1 (C := fd_c84) (b := true) (L' := [fd_R 199, fd_I ((e : Nat) : Int), fd_I w, fd_I (((M 208 e) % 7) + (fd_sx w)), fd_R 1003]) (st' := [fd_I 7, fd_I (M 208 e)]) (M' := M) rfl (hB ((e : Nat) : Int)) (j := 30) rfl (rfl) ?_
      clear hB
      have hB : ∀ (q0 : Int), fd_bl 1 (List.drop 30 fd_c84) [fd_R 199, fd_I q0, fd_I w, fd_I (((M 208 e) % 7) + (fd_sx w)), fd_R 1003] [fd_I 7, fd_I (M 208 e)] M = some (((fd_inb (M 208 e) 2147483648 && fd_inb (7 - 1) 2147483647) && true), [fd_R 199, fd_I q0, fd_I w, fd_I (((M 208 e) % 7) + (fd_sx w)), fd_R 1003], [fd_I ((M 208 e) / 7)], M) := fun _ => rfl
      refine fd_u_blk 1 (C := fd_c84) (b := ((fd_inb (M 208 e) 2147483648 && fd_inb (7 - 1) 2147483647) && true)) (L' := [fd_R 199, fd_I ((e : Nat) : Int), fd_I w, fd_I (((M 208 e) % 7) + (fd_sx w)), fd_R 1003]) (st' := [fd_I ((M 208 e) / 7)]) (M' := M) rfl (hB ((e : Nat) : Int)) (j := 31) rfl (fd_bA (fd_bA (fd_bI (by omega) (by omega)) (fd_bI (by omega) (by omega))) (rfl)) ?_
      clear hB
      have hB : ∀ (q0 : Int), fd_bl 1 (List.drop 31 fd_c84) [fd_R 199, fd_I q0, fd_I w, fd_I (((M 208 e) % 7) + (fd_sx w)), fd_R 1003] [fd_I ((M 208 e) / 7)] M = some (true, [fd_R 199, fd_I q0, fd_I w, fd_I (((M 208 e) % 7) + (fd_sx w)), fd_R 1003], [fd_I w, fd_I ((M 208 e) / 7)], M) := fun _ => rfl
      refine fd_u_blk 1 (C := fd_c84) (b := true) (L' := [fd_R 199, fd_I ((e : Nat) : Int), fd_I w, fd_I (((M 208 e) % 7) + (fd_sx w)), fd_R 1003]) (st' := [fd_I w, fd_I ((M 208 e) / 7)]) (M' := M) rfl (hB ((e : Nat) : Int)) (j := 32) rfl (rfl) ?_
      clear hB
      refine fd_u_call (C := fd_c84) (d0 := 0) (mid := 74) (np := 1) (args := [fd_I w]) (r1 := some (fd_I (fd_sy w))) (M1 := M) (st' := [fd_I (fd_sy w), fd_I ((M 208 e) / 7)]) rfl rfl rfl rfl rfl rfl (rfl) (fd_r_stepY M w (by omega)) rfl (by omega) ?_
      have qy := fd_sy_rng w
      have hB : ∀ (q0 : Int), fd_bl 5 (List.drop 33 fd_c84) [fd_R 199, fd_I q0, fd_I w, fd_I (((M 208 e) % 7) + (fd_sx w)), fd_R 1003] [fd_I (fd_sy w), fd_I ((M 208 e) / 7)] M = some (true, [fd_R 199, fd_I q0, fd_I w, fd_I (((M 208 e) % 7) + (fd_sx w)), fd_I (((M 208 e) / 7) + (fd_sy w))], [fd_I (((M 208 e) / 7) + (fd_sy w)), fd_I (((M 208 e) % 7) + (fd_sx w)), fd_R 199], M) := fun _ => rfl
      refine fd_u_blk 5 (C := fd_c84) (b := true) (L' := [fd_R 199, fd_I ((e : Nat) : Int), fd_I w, fd_I (((M 208 e) % 7) + (fd_sx w)), fd_I (((M 208 e) / 7) + (fd_sy w))]) (st' := [fd_I (((M 208 e) / 7) + (fd_sy w)), fd_I (((M 208 e) % 7) + (fd_sx w)), fd_R 199]) (M' := M) rfl (hB ((e : Nat) : Int)) (j := 38) rfl (rfl) ?_
      clear hB
      refine fd_u_call (C := fd_c84) (d0 := 2) (mid := 70) (np := 3) (args := [fd_R 199, fd_I (((M 208 e) % 7) + (fd_sx w)), fd_I (((M 208 e) / 7) + (fd_sy w))]) (r1 := some (fd_I (fd_cvR M (((M 208 e) % 7) + (fd_sx w)) (((M 208 e) / 7) + (fd_sy w))))) (M1 := M) (st' := [fd_I (fd_cvR M (((M 208 e) % 7) + (fd_sx w)) (((M 208 e) / 7) + (fd_sy w)))]) rfl rfl rfl rfl rfl rfl (rfl) (fd_r_cell M hP hS (((M 208 e) % 7) + (fd_sx w)) (((M 208 e) / 7) + (fd_sy w)) (by omega) (by omega)) rfl (by omega) ?_
      have qc := fd_cvR_rng hP (((M 208 e) % 7) + (fd_sx w)) (((M 208 e) / 7) + (fd_sy w))
      refine fd_u_br (C := fd_c84) (t := 42) (e := 40) (st' := []) (c := (fd_cvR M (((M 208 e) % 7) + (fd_sx w)) (((M 208 e) / 7) + (fd_sy w))) = 0) (b := (fd_rng (fd_cvR M (((M 208 e) % 7) + (fd_sx w)) (((M 208 e) / 7) + (fd_sy w))))) rfl rfl rfl (fd_bR (by omega) (by omega)) (fun h39 => ?_) (fun h39 => ?_)
      · have hB : ∀ (q0 : Int), fd_bl 1 (List.drop 42 fd_c84) [fd_R 199, fd_I q0, fd_I w, fd_I (((M 208 e) % 7) + (fd_sx w)), fd_I (((M 208 e) / 7) + (fd_sy w))] [] M = some (true, [fd_R 199, fd_I q0, fd_I w, fd_I (((M 208 e) % 7) + (fd_sx w)), fd_I (((M 208 e) / 7) + (fd_sy w))], [fd_R 199], M) := fun _ => rfl
        refine fd_u_blk 1 (C := fd_c84) (b := true) (L' := [fd_R 199, fd_I ((e : Nat) : Int), fd_I w, fd_I (((M 208 e) % 7) + (fd_sx w)), fd_I (((M 208 e) / 7) + (fd_sy w))]) (st' := [fd_R 199]) (M' := M) rfl (hB ((e : Nat) : Int)) (j := 43) rfl (rfl) ?_
        clear hB
        refine fd_u_call (C := fd_c84) (d0 := 0) (mid := 81) (np := 1) (args := [fd_R 199]) (r1 := none) (M1 := (fd_know M)) (st' := []) rfl rfl rfl rfl rfl rfl (rfl) (fd_r_know M hS.2.2.2.2.2) rfl (by omega) ?_
        have hB : ∀ (q0 : Int), fd_bl 15 (List.drop 44 fd_c84) [fd_R 199, fd_I q0, fd_I w, fd_I (((M 208 e) % 7) + (fd_sx w)), fd_I (((M 208 e) / 7) + (fd_sy w))] [] (fd_know M) = some ((fd_isA true (fd_know M) 208 20 (0 + q0) && true), [fd_R 199, fd_I q0, fd_I w, fd_I (((M 208 e) % 7) + (fd_sx w)), fd_I (((M 208 e) / 7) + (fd_sy w))], [fd_I ((fd_up (fd_know M) 208 (0 + q0).toNat ((7 * (((M 208 e) / 7) + (fd_sy w))) + (((M 208 e) % 7) + (fd_sx w)))) 208 28)], (fd_up (fd_know M) 208 (0 + q0).toNat ((7 * (((M 208 e) / 7) + (fd_sy w))) + (((M 208 e) % 7) + (fd_sx w))))) := fun _ => rfl
        refine fd_u_blk 15 (C := fd_c84) (b := (fd_isA true (fd_know M) 208 20 (0 + ((e : Nat) : Int)) && true)) (L' := [fd_R 199, fd_I ((e : Nat) : Int), fd_I w, fd_I (((M 208 e) % 7) + (fd_sx w)), fd_I (((M 208 e) / 7) + (fd_sy w))]) (st' := [fd_I ((fd_up (fd_know M) 208 (0 + ((e : Nat) : Int)).toNat ((7 * (((M 208 e) / 7) + (fd_sy w))) + (((M 208 e) % 7) + (fd_sx w)))) 208 28)]) (M' := (fd_up (fd_know M) 208 (0 + ((e : Nat) : Int)).toNat ((7 * (((M 208 e) / 7) + (fd_sy w))) + (((M 208 e) % 7) + (fd_sx w))))) rfl (hB ((e : Nat) : Int)) (j := 59) rfl (fd_bA (fd_iA fd_sh208 (by omega) (by omega)) (rfl)) ?_
        clear hB
        rw [show (0 + ((e : Nat) : Int)).toNat = e by omega]
        refine fd_u_ret (C := fd_c84) (b := true) (r' := some (fd_I ((fd_up (fd_know M) 208 e ((7 * (((M 208 e) / 7) + (fd_sy w))) + (((M 208 e) % 7) + (fd_sx w)))) 208 28))) rfl rfl rfl (rfl) ?_ ?_
        · rw [fd_A_moves, if_neg (show ¬ ¬ (0 ≤ (e : Int) ∧ (e : Int) < M 204 0 ∧ 0 ≤ w ∧ w ≤ 3) by omega), if_neg (show ¬ (¬ fd_cvR M (M 208 (e : Int).toNat % 7 + fd_sx w) (M 208 (e : Int).toNat / 7 + fd_sy w) = 0) from fun q => q h39)]; rw [fd_up_at, if_neg (by omega)]
        · rw [fd_B_moves, if_neg (show ¬ ¬ (0 ≤ (e : Int) ∧ (e : Int) < M 204 0 ∧ 0 ≤ w ∧ w ≤ 3) by omega), if_neg (show ¬ (¬ fd_cvR M (M 208 (e : Int).toNat % 7 + fd_sx w) (M 208 (e : Int).toNat / 7 + fd_sy w) = 0) from fun q => q h39)]; rfl
      · have hB : ∀ (q0 : Int), fd_bl 1 (List.drop 40 fd_c84) [fd_R 199, fd_I q0, fd_I w, fd_I (((M 208 e) % 7) + (fd_sx w)), fd_I (((M 208 e) / 7) + (fd_sy w))] [] M = some (true, [fd_R 199, fd_I q0, fd_I w, fd_I (((M 208 e) % 7) + (fd_sx w)), fd_I (((M 208 e) / 7) + (fd_sy w))], [fd_I (-2)], M) := fun _ => rfl
        refine fd_u_blk 1 (C := fd_c84) (b := true) (L' := [fd_R 199, fd_I ((e : Nat) : Int), fd_I w, fd_I (((M 208 e) % 7) + (fd_sx w)), fd_I (((M 208 e) / 7) + (fd_sy w))]) (st' := [fd_I (-2)]) (M' := M) rfl (hB ((e : Nat) : Int)) (j := 41) rfl (rfl) ?_
        clear hB
        refine fd_u_ret (C := fd_c84) (b := true) (r' := some (fd_I (-2))) rfl rfl rfl (rfl) ?_ ?_
        · rw [fd_A_moves, if_neg (show ¬ ¬ (0 ≤ (e : Int) ∧ (e : Int) < M 204 0 ∧ 0 ≤ w ∧ w ≤ 3) by omega), if_pos (show ¬ fd_cvR M (M 208 (e : Int).toNat % 7 + fd_sx w) (M 208 (e : Int).toNat / 7 + fd_sy w) = 0 from h39)]
        · rw [fd_B_moves, if_neg (show ¬ ¬ (0 ≤ (e : Int) ∧ (e : Int) < M 204 0 ∧ 0 ≤ w ∧ w ≤ 3) by omega), if_pos (show ¬ fd_cvR M (M 208 (e : Int).toNat % 7 + fd_sx w) (M 208 (e : Int).toNat / 7 + fd_sy w) = 0 from h39)]
    · have h8 := fd_biF2  h8
      refine fd_u_blk 1 (C := fd_c84) (b := true) (L' := [fd_R 199, fd_I d, fd_I w, fd_R 1003, fd_R 1003]) (st' := [fd_I (-1)]) (M' := M) rfl rfl (j := 10) rfl (rfl) ?_
      refine fd_u_ret (C := fd_c84) (b := true) (r' := some (fd_I (-1))) rfl rfl rfl (rfl) ?_ ?_
      · rw [fd_A_moves, if_pos (show ¬ (0 ≤ d ∧ d < M 204 0 ∧ 0 ≤ w ∧ w ≤ 3) by omega)]
      · rw [fd_B_moves, if_pos (show ¬ (0 ≤ d ∧ d < M 204 0 ∧ 0 ≤ w ∧ w ≤ 3) by omega)]

def fd_A_opens (M : fd_M) (d w : Int) : Int := if ¬ (0 ≤ d ∧ d < M 204 0 ∧ 0 ≤ w ∧ w ≤ 1) then -1 else if M 208 12 / 2 ^ d.toNat % 2 = w then -2 else fd_dR (fd_tak (fd_up (fd_know M) 208 12 (fd_xor (M 208 12) (2 ^ d.toNat)))) d.toNat
def fd_B_opens (M : fd_M) (d w : Int) : fd_M := if ¬ (0 ≤ d ∧ d < M 204 0 ∧ 0 ≤ w ∧ w ≤ 1) then M else if M 208 12 / 2 ^ d.toNat % 2 = w then M else fd_tak (fd_up (fd_know M) 208 12 (fd_xor (M 208 12) (2 ^ d.toNat)))
theorem fd_g_opens (M : fd_M) (hP : fd_RP M) (hS : fd_RS M) (d : Nat) (hd : (d : Int) < M 204 0) (u : fd_V) : fd_run 5 85 35 [fd_R 199, fd_I ((d : Nat) : Int), u] [] M (some (fd_I (fd_dR (fd_tak M) d))) (fd_tak M) := by
  have hB : ∀ (q0 : Int), fd_bl 1 (List.drop 35 fd_c85) [fd_R 199, fd_I q0, u] [] M = some (true, [fd_R 199, fd_I q0, u], [fd_R 199], M) := fun _ => rfl
  refine fd_u_blk 1 (C := fd_c85) (b := true) (L' := [fd_R 199, fd_I ((d : Nat) : Int), u]) (st' := [fd_R 199]) (M' := M) rfl (hB ((d : Nat) : Int)) (j := 36) rfl (rfl) ?_
  clear hB
  refine fd_u_call (C := fd_c85) (d0 := 0) (mid := 72) (np := 1) (args := [fd_R 199]) (r1 := none) (M1 := (fd_tak M)) (st' := []) rfl rfl rfl rfl rfl rfl (rfl) (fd_r_take M hS.2.2.2.2.1) rfl (by omega) ?_
  have hB : ∀ (q0 : Int), fd_bl 2 (List.drop 37 fd_c85) [fd_R 199, fd_I q0, u] [] (fd_tak M) = some (true, [fd_R 199, fd_I q0, u], [fd_I q0, fd_R 199], (fd_tak M)) := fun _ => rfl
  refine fd_u_blk 2 (C := fd_c85) (b := true) (L' := [fd_R 199, fd_I ((d : Nat) : Int), u]) (st' := [fd_I ((d : Nat) : Int), fd_R 199]) (M' := (fd_tak M)) rfl (hB ((d : Nat) : Int)) (j := 39) rfl (rfl) ?_
  clear hB
  refine fd_u_call (C := fd_c85) (d0 := 4) (mid := 76) (np := 2) (args := [fd_R 199, fd_I ((d : Nat) : Int)]) (r1 := some (fd_I (fd_dR (fd_tak M) d))) (M1 := (fd_tak M)) (st' := [fd_I (fd_dR (fd_tak M) d)]) rfl rfl rfl rfl rfl rfl (rfl) (fd_r_dueOf (fd_tak M) (fd_RP_tak hP) (fd_RS_tak hS) (fd_RW_tak hP hS) d hd) rfl (by omega) ?_
  have qo := fd_due_rng (wy := (fd_tak M) 210) (fd_RP_tak hP).2.2.2.1 (fd_sR (fd_tak M) d) d
  refine fd_u_ret (C := fd_c85) (b := true) (r' := some (fd_I (fd_dR (fd_tak M) d))) rfl rfl rfl (rfl) ?_ ?_
  · rfl
  · rfl

theorem fd_r_opens (M : fd_M) (hP : fd_RP M) (hS : fd_RS M) (d : Int) (hd : -2147483648 ≤ d ∧ d < 2147483648) (w : Int) (hw : -2147483648 ≤ w ∧ w < 2147483648) : fd_call 5 85 [fd_R 199, fd_I d, fd_I w] M (some (fd_I (fd_A_opens M d w))) (fd_B_opens M d w) := by
  refine fd_u_in (L := [fd_R 199, fd_I d, fd_I w]) rfl ?_
  obtain ⟨g0, g1, g2, g3, g4, g5⟩ := id hP
  obtain ⟨s1, s2, s3, s4, s5, s6⟩ := id hS
  have e1 := fun e : Nat => fd_and1 (fd_div_rng (a := M 208 12) e (by omega))
  refine fd_u_blk 2 (C := fd_c85) (b := true) (L' := [fd_R 199, fd_I d, fd_I w]) (st' := [fd_I d, fd_R 199]) (M' := M) rfl rfl (j := 2) rfl (rfl) ?_
  refine fd_u_call (C := fd_c85) (d0 := 1) (mid := 66) (np := 2) (args := [fd_R 199, fd_I d]) (r1 := some (fd_I (fd_bi (0 ≤ d ∧ d < M 204 0)))) (M1 := M) (st' := [fd_I (fd_bi (0 ≤ d ∧ d < M 204 0))]) rfl rfl rfl rfl rfl rfl (rfl) (fd_r_isDoor M hP d (by omega)) rfl (by omega) ?_
  refine fd_u_br (C := fd_c85) (t := 9) (e := 4) (st' := []) (c := (fd_bi (0 ≤ d ∧ d < M 204 0)) = 0) (b := (fd_rng (fd_bi (0 ≤ d ∧ d < M 204 0)))) rfl rfl rfl (fd_biR) (fun h3 => ?_) (fun h3 => ?_)
  · have h3 := fd_biF.mp h3
    refine fd_u_blk 1 (C := fd_c85) (b := true) (L' := [fd_R 199, fd_I d, fd_I w]) (st' := [fd_I (-1)]) (M' := M) rfl rfl (j := 10) rfl (rfl) ?_
    refine fd_u_ret (C := fd_c85) (b := true) (r' := some (fd_I (-1))) rfl rfl rfl (rfl) ?_ ?_
    · rw [fd_A_opens, if_pos (show ¬ (0 ≤ d ∧ d < M 204 0 ∧ 0 ≤ w ∧ w ≤ 1) by omega)]
    · rw [fd_B_opens, if_pos (show ¬ (0 ≤ d ∧ d < M 204 0 ∧ 0 ≤ w ∧ w ≤ 1) by omega)]
  · have h3 := fd_biT.mp h3
    refine fd_u_blk 3 (C := fd_c85) (b := true) (L' := [fd_R 199, fd_I d, fd_I w]) (st' := [fd_I 1, fd_I 0, fd_I w]) (M' := M) rfl rfl (j := 7) rfl (rfl) ?_
    refine fd_u_call (C := fd_c85) (d0 := 0) (mid := 52) (np := 3) (args := [fd_I w, fd_I 0, fd_I 1]) (r1 := some (fd_I (fd_bi (0 ≤ w ∧ w ≤ 1)))) (M1 := M) (st' := [fd_I (fd_bi (0 ≤ w ∧ w ≤ 1))]) rfl rfl rfl rfl rfl rfl (rfl) (fd_r_in M w 0 1 (by omega) (by omega) (by omega)) rfl (by omega) ?_
    refine fd_u_br (C := fd_c85) (t := 11) (e := 9) (st' := []) (c := ¬ (fd_bi (0 ≤ w ∧ w ≤ 1)) = 0) (b := (fd_rng (fd_bi (0 ≤ w ∧ w ≤ 1)))) rfl rfl rfl (fd_biR) (fun h8 => ?_) (fun h8 => ?_)
    · have h8 := fd_biT.mp h8
      obtain ⟨e, rfl⟩ := Int.eq_ofNat_of_zero_le (show 0 ≤ d by omega)
      have qs := s1 e (by omega)
      have ee := e1 e
      have hB : ∀ (q0 : Int), fd_bl 9 (List.drop 11 fd_c85) [fd_R 199, fd_I q0, fd_I w] [] M = some (((fd_inb (M 208 12) 2147483648 && fd_inb q0 32) && true), [fd_R 199, fd_I q0, fd_I w], [fd_I w, fd_I (fd_and ((M 208 12) / 2 ^ (q0).toNat) 1)], M) := fun _ => rfl
      refine fd_u_blk 9 (C := fd_c85) (b := ((fd_inb (M 208 12) 2147483648 && fd_inb ((e : Nat) : Int) 32) && true)) (L' := [fd_R 199, fd_I ((e : Nat) : Int), fd_I w]) (st' := [fd_I w, fd_I (fd_and ((M 208 12) / 2 ^ e) 1)]) (M' := M) rfl (hB ((e : Nat) : Int)) (j := 20) rfl (fd_bA (fd_bA (fd_bI (by omega) (by omega)) (fd_bI (by omega) (by omega))) (rfl)) ?_
      clear hB
      refine fd_u_br (C := fd_c85) (t := 23) (e := 21) (st' := []) (c := ¬ (fd_and ((M 208 12) / 2 ^ e) 1) = w) (b := (fd_rng (fd_and ((M 208 12) / 2 ^ e) 1) && fd_rng w)) rfl rfl rfl (fd_bA (fd_bR (by omega) (by omega)) (fd_bR (by omega) (by omega))) (fun h20 => ?_) (fun h20 => ?_)
      · have hB : ∀ (q0 : Int), fd_bl 1 (List.drop 23 fd_c85) [fd_R 199, fd_I q0, fd_I w] [] M = some (true, [fd_R 199, fd_I q0, fd_I w], [fd_R 199], M) := fun _ => rfl
        refine fd_u_blk 1 (C := fd_c85) (b := true) (L' := [fd_R 199, fd_I ((e : Nat) : Int), fd_I w]) (st' := [fd_R 199]) (M' := M) rfl (hB ((e : Nat) : Int)) (j := 24) rfl (rfl) ?_
        clear hB
        refine fd_u_call (C := fd_c85) (d0 := 0) (mid := 81) (np := 1) (args := [fd_R 199]) (r1 := none) (M1 := (fd_know M)) (st' := []) rfl rfl rfl rfl rfl rfl (rfl) (fd_r_know M hS.2.2.2.2.2) rfl (by omega) ?_
        have hB : ∀ (q0 : Int), fd_bl 10 (List.drop 25 fd_c85) [fd_R 199, fd_I q0, fd_I w] [] (fd_know M) = some ((fd_inb q0 32 && true), [fd_R 199, fd_I q0, fd_I w], [], (fd_up (fd_know M) 208 12 (fd_xor ((fd_know M) 208 12) (2 ^ (q0).toNat)))) := fun _ => rfl
        refine fd_u_blk 10 (C := fd_c85) (b := (fd_inb ((e : Nat) : Int) 32 && true)) (L' := [fd_R 199, fd_I ((e : Nat) : Int), fd_I w]) (st' := []) (M' := (fd_up (fd_know M) 208 12 (fd_xor ((fd_know M) 208 12) (2 ^ e)))) rfl (hB ((e : Nat) : Int)) (j := 35) rfl (fd_bA (fd_bI (by omega) (by omega)) (rfl)) ?_
        clear hB
        have e1 := fd_know_lo (M := M) (k := 12) (by omega)
        rw [fd_A_opens, if_neg (show ¬ ¬ (0 ≤ (e : Int) ∧ (e : Int) < M 204 0 ∧ 0 ≤ w ∧ w ≤ 1) by omega), if_neg (show ¬ M 208 12 / 2 ^ (e : Int).toNat % 2 = w from by have e2 : ¬ M 208 12 / 2 ^ e % 2 = w := (by omega); exact e2), fd_B_opens, if_neg (show ¬ ¬ (0 ≤ (e : Int) ∧ (e : Int) < M 204 0 ∧ 0 ≤ w ∧ w ≤ 1) by omega), if_neg (show ¬ M 208 12 / 2 ^ (e : Int).toNat % 2 = w from by have e2 : ¬ M 208 12 / 2 ^ e % 2 = w := (by omega); exact e2), e1]
        exact fd_g_opens _ (fd_RP_up (fd_RP_know hP) 12 (fd_xor (M 208 12) (2 ^ e))) (fd_RS_up (fd_RS_know hP hS) (by have := fd_xor_rng (a := M 208 12) s3 (k := e) (by omega); omega) (by rw [fd_know_fr (by decide)]; omega)) e (by rw [fd_up_ne (by decide), fd_know_fr (by decide)]; omega) _
      · have hB : ∀ (q0 : Int), fd_bl 1 (List.drop 21 fd_c85) [fd_R 199, fd_I q0, fd_I w] [] M = some (true, [fd_R 199, fd_I q0, fd_I w], [fd_I (-2)], M) := fun _ => rfl
        refine fd_u_blk 1 (C := fd_c85) (b := true) (L' := [fd_R 199, fd_I ((e : Nat) : Int), fd_I w]) (st' := [fd_I (-2)]) (M' := M) rfl (hB ((e : Nat) : Int)) (j := 22) rfl (rfl) ?_
        clear hB
        refine fd_u_ret (C := fd_c85) (b := true) (r' := some (fd_I (-2))) rfl rfl rfl (rfl) ?_ ?_
        · rw [fd_A_opens, if_neg (show ¬ ¬ (0 ≤ (e : Int) ∧ (e : Int) < M 204 0 ∧ 0 ≤ w ∧ w ≤ 1) by omega), if_pos (show M 208 12 / 2 ^ (e : Int).toNat % 2 = w from (show M 208 12 / 2 ^ e % 2 = w by omega))]
        · rw [fd_B_opens, if_neg (show ¬ ¬ (0 ≤ (e : Int) ∧ (e : Int) < M 204 0 ∧ 0 ≤ w ∧ w ≤ 1) by omega), if_pos (show M 208 12 / 2 ^ (e : Int).toNat % 2 = w from (show M 208 12 / 2 ^ e % 2 = w by omega))]
    · have h8 := fd_biF2  h8
      refine fd_u_blk 1 (C := fd_c85) (b := true) (L' := [fd_R 199, fd_I d, fd_I w]) (st' := [fd_I (-1)]) (M' := M) rfl rfl (j := 10) rfl (rfl) ?_
      refine fd_u_ret (C := fd_c85) (b := true) (r' := some (fd_I (-1))) rfl rfl rfl (rfl) ?_ ?_
      · rw [fd_A_opens, if_pos (show ¬ (0 ≤ d ∧ d < M 204 0 ∧ 0 ≤ w ∧ w ≤ 1) by omega)]
      · rw [fd_B_opens, if_pos (show ¬ (0 ≤ d ∧ d < M 204 0 ∧ 0 ≤ w ∧ w ≤ 1) by omega)]

theorem fd_l_carts (M : fd_M) (hS : fd_RS M) : ∀ (n : Nat) (k : Nat) (hk : k + n = 7), fd_run 1 86 4 [fd_R 199, fd_I (fd_sum (fun y => fd_many (M 208 (21 + y))) k), fd_I ((k : Nat) : Int)] [] M (some (fd_I (fd_sum (fun y => fd_many (M 208 (21 + y))) 7))) M := by
  intro n
  induction n with
  | zero =>
    intro k hk
    have hB : ∀ (q0 : Int), fd_bl 2 (List.drop 4 fd_c86) [fd_R 199, fd_I (fd_sum (fun y => fd_many (M 208 (21 + y))) k), fd_I q0] [] M = some (true, [fd_R 199, fd_I (fd_sum (fun y => fd_many (M 208 (21 + y))) k), fd_I q0], [fd_I 7, fd_I q0], M) := fun _ => rfl
    refine fd_u_blk 2 (C := fd_c86) (b := true) (L' := [fd_R 199, fd_I (fd_sum (fun y => fd_many (M 208 (21 + y))) k), fd_I ((k : Nat) : Int)]) (st' := [fd_I 7, fd_I ((k : Nat) : Int)]) (M' := M) rfl (hB ((k : Nat) : Int)) (j := 6) rfl (rfl) ?_
    clear hB
    refine fd_u_br (C := fd_c86) (t := 19) (e := 7) (st' := []) (c := 7 ≤ ((k : Nat) : Int)) (b := (fd_rng ((k : Nat) : Int) && fd_rng 7)) rfl rfl rfl (fd_bA (fd_bR (by omega) (by omega)) (fd_bR (by omega) (by omega))) (fun h6 => ?_) (fun h6 => absurd h6 (by omega))
    have hB : ∀ (q0 : Int), fd_bl 1 (List.drop 19 fd_c86) [fd_R 199, fd_I (fd_sum (fun y => fd_many (M 208 (21 + y))) k), fd_I q0] [] M = some (true, [fd_R 199, fd_I (fd_sum (fun y => fd_many (M 208 (21 + y))) k), fd_I q0], [fd_I (fd_sum (fun y => fd_many (M 208 (21 + y))) k)], M) := fun _ => rfl
    refine fd_u_blk 1 (C := fd_c86) (b := true) (L' := [fd_R 199, fd_I (fd_sum (fun y => fd_many (M 208 (21 + y))) k), fd_I ((k : Nat) : Int)]) (st' := [fd_I (fd_sum (fun y => fd_many (M 208 (21 + y))) k)]) (M' := M) rfl (hB ((k : Nat) : Int)) (j := 20) rfl (rfl) ?_
    clear hB
    refine fd_u_ret (C := fd_c86) (b := true) (r' := some (fd_I (fd_sum (fun y => fd_many (M 208 (21 + y))) k))) rfl rfl rfl (rfl) ?_ ?_
    · rw [show 7 = k by omega]
    · rfl
  | succ n ih =>
    intro k hk
    have q := hS.2.1 k (by omega)
    have hB : ∀ (q0 : Int), fd_bl 2 (List.drop 4 fd_c86) [fd_R 199, fd_I (fd_sum (fun y => fd_many (M 208 (21 + y))) k), fd_I q0] [] M = some (true, [fd_R 199, fd_I (fd_sum (fun y => fd_many (M 208 (21 + y))) k), fd_I q0], [fd_I 7, fd_I q0], M) := fun _ => rfl
    refine fd_u_blk 2 (C := fd_c86) (b := true) (L' := [fd_R 199, fd_I (fd_sum (fun y => fd_many (M 208 (21 + y))) k), fd_I ((k : Nat) : Int)]) (st' := [fd_I 7, fd_I ((k : Nat) : Int)]) (M' := M) rfl (hB ((k : Nat) : Int)) (j := 6) rfl (rfl) ?_
    clear hB
    refine fd_u_br (C := fd_c86) (t := 19) (e := 7) (st' := []) (c := 7 ≤ ((k : Nat) : Int)) (b := (fd_rng ((k : Nat) : Int) && fd_rng 7)) rfl rfl rfl (fd_bA (fd_bR (by omega) (by omega)) (fd_bR (by omega) (by omega))) (fun h6 => absurd h6 (by omega)) (fun h6 => ?_)
    have hB : ∀ (q0 : Int), fd_bl 7 (List.drop 7 fd_c86) [fd_R 199, fd_I (fd_sum (fun y => fd_many (M 208 (21 + y))) k), fd_I q0] [] M = some ((fd_isA true M 208 20 (21 + q0) && true), [fd_R 199, fd_I (fd_sum (fun y => fd_many (M 208 (21 + y))) k), fd_I q0], [fd_I (M 208 (21 + q0).toNat), fd_I (fd_sum (fun y => fd_many (M 208 (21 + y))) k)], M) := fun _ => rfl
    refine fd_u_blk 7 (C := fd_c86) (b := (fd_isA true M 208 20 (21 + ((k : Nat) : Int)) && true)) (L' := [fd_R 199, fd_I (fd_sum (fun y => fd_many (M 208 (21 + y))) k), fd_I ((k : Nat) : Int)]) (st' := [fd_I (M 208 (21 + ((k : Nat) : Int)).toNat), fd_I (fd_sum (fun y => fd_many (M 208 (21 + y))) k)]) (M' := M) rfl (hB ((k : Nat) : Int)) (j := 14) rfl (fd_bA (fd_iA fd_sh208 (by omega) (by omega)) (rfl)) ?_
    clear hB
    rw [show (21 + ((k : Nat) : Int)).toNat = 21 + k by omega]
    refine fd_u_call (C := fd_c86) (d0 := 0) (mid := 71) (np := 1) (args := [fd_I (M 208 (21 + k))]) (r1 := some (fd_I (fd_many (M 208 (21 + k))))) (M1 := M) (st' := [fd_I (fd_many (M 208 (21 + k))), fd_I (fd_sum (fun y => fd_many (M 208 (21 + y))) k)]) rfl rfl rfl rfl rfl rfl (rfl) (fd_r_manyOf M (M 208 (21 + k)) (by omega)) rfl (by omega) ?_
    have hB : ∀ (q0 : Int), fd_bl 3 (List.drop 15 fd_c86) [fd_R 199, fd_I (fd_sum (fun y => fd_many (M 208 (21 + y))) k), fd_I q0] [fd_I (fd_many (M 208 (21 + k))), fd_I (fd_sum (fun y => fd_many (M 208 (21 + y))) k)] M = some (true, [fd_R 199, fd_I ((fd_sum (fun y => fd_many (M 208 (21 + y))) k) + (fd_many (M 208 (21 + k)))), fd_I (q0 + 1)], [], M) := fun _ => rfl
    refine fd_u_blk 3 (C := fd_c86) (b := true) (L' := [fd_R 199, fd_I ((fd_sum (fun y => fd_many (M 208 (21 + y))) k) + (fd_many (M 208 (21 + k)))), fd_I (((k + 1) : Nat) : Int)]) (st' := []) (M' := M) rfl (hB ((k : Nat) : Int)) (j := 18) rfl (rfl) ?_
    clear hB
    refine fd_u_jmp (C := fd_c86) (j := 4) (st' := []) rfl rfl (b := true) rfl rfl ?_
    exact ih (k + 1) (by omega)

theorem fd_r_carts (M : fd_M) (hS : fd_RS M) : fd_call 1 86 [fd_R 199] M (some (fd_I (fd_sum (fun y => fd_many (M 208 (21 + y))) 7))) M := by
  refine fd_u_in (L := [fd_R 199, fd_R 1003, fd_R 1003]) rfl ?_
  refine fd_u_blk 4 (C := fd_c86) (b := true) (L' := [fd_R 199, fd_I 0, fd_I 0]) (st' := []) (M' := M) rfl rfl (j := 4) rfl (rfl) ?_
  exact fd_l_carts M hS 7 0 (by omega)

def fd_A_cart (M : fd_M) (x y w : Int) : Int := if ¬ ((0 ≤ x ∧ x < M 201 0 ∧ 0 ≤ y ∧ y < M 202 0) ∧ 0 ≤ w ∧ w ≤ 1) then -1 else if ¬ fd_cvR M x y = (if w = 1 then 0 else 3) then -2 else fd_sum (fun j => fd_many ((fd_up (fd_know M) 208 (21 + y.toNat) (fd_xor (M 208 (21 + y.toNat)) (2 ^ x.toNat))) 208 (21 + j))) 7
def fd_B_cart (M : fd_M) (x y w : Int) : fd_M := if ¬ ((0 ≤ x ∧ x < M 201 0 ∧ 0 ≤ y ∧ y < M 202 0) ∧ 0 ≤ w ∧ w ≤ 1) then M else if ¬ fd_cvR M x y = (if w = 1 then 0 else 3) then M else (fd_up (fd_know M) 208 (21 + y.toNat) (fd_xor (M 208 (21 + y.toNat)) (2 ^ x.toNat)))
theorem fd_xor7 : ∀ n : Fin 128, ∀ k : Fin 7, 0 ≤ fd_xor (n.val : Int) (2 ^ k.val) ∧ fd_xor (n.val : Int) (2 ^ k.val) < 128 := by decide +kernel
theorem fd_xor_rng7 {a : Int} (h : 0 ≤ a ∧ a < 128) {k : Nat} (hk : k < 7) : 0 ≤ fd_xor a (2 ^ k) ∧ fd_xor a (2 ^ k) < 128 := by
  obtain ⟨n, rfl⟩ := Int.eq_ofNat_of_zero_le h.1
  exact fd_xor7 ⟨n, by omega⟩ ⟨k, hk⟩
theorem fd_g_cart (M : fd_M) (hS : fd_RS M) (u1 u2 u3 : fd_V) : fd_run 3 87 39 [fd_R 199, u1, u2, u3] [] M (some (fd_I (fd_sum (fun y => fd_many (M 208 (21 + y))) 7))) M := by
  refine fd_u_blk 1 (C := fd_c87) (b := true) (L' := [fd_R 199, u1, u2, u3]) (st' := [fd_R 199]) (M' := M) rfl rfl (j := 40) rfl (rfl) ?_
  refine fd_u_call (C := fd_c87) (d0 := 1) (mid := 86) (np := 1) (args := [fd_R 199]) (r1 := some (fd_I (fd_sum (fun y => fd_many (M 208 (21 + y))) 7))) (M1 := M) (st' := [fd_I (fd_sum (fun y => fd_many (M 208 (21 + y))) 7)]) rfl rfl rfl rfl rfl rfl (rfl) (fd_r_carts M hS) rfl (by omega) ?_
  refine fd_u_ret (C := fd_c87) (b := true) (r' := some (fd_I (fd_sum (fun y => fd_many (M 208 (21 + y))) 7))) rfl rfl rfl (rfl) ?_ ?_
  · rfl
  · rfl

theorem fd_r_cart (M : fd_M) (hP : fd_RP M) (hS : fd_RS M) (x y : Int) (hx : -2147483648 ≤ x ∧ x < 2147483648) (hy : -2147483648 ≤ y ∧ y < 2147483648) (w : Int) (hw : -2147483648 ≤ w ∧ w < 2147483648) : fd_call 3 87 [fd_R 199, fd_I x, fd_I y, fd_I w] M (some (fd_I (fd_A_cart M x y w))) (fd_B_cart M x y w) := by
  refine fd_u_in (L := [fd_R 199, fd_I x, fd_I y, fd_I w]) rfl ?_
  obtain ⟨g0, g1, g2, g3, g4, g5⟩ := id hP
  obtain ⟨s1, s2, s3, s4, s5, s6⟩ := id hS
  refine fd_u_blk 3 (C := fd_c87) (b := true) (L' := [fd_R 199, fd_I x, fd_I y, fd_I w]) (st' := [fd_I y, fd_I x, fd_R 199]) (M' := M) rfl rfl (j := 3) rfl (rfl) ?_
  refine fd_u_call (C := fd_c87) (d0 := 1) (mid := 67) (np := 3) (args := [fd_R 199, fd_I x, fd_I y]) (r1 := some (fd_I (fd_bi (0 ≤ x ∧ x < M 201 0 ∧ 0 ≤ y ∧ y < M 202 0)))) (M1 := M) (st' := [fd_I (fd_bi (0 ≤ x ∧ x < M 201 0 ∧ 0 ≤ y ∧ y < M 202 0))]) rfl rfl rfl rfl rfl rfl (rfl) (fd_r_isCell M hP x y (by omega) (by omega)) rfl (by omega) ?_
  refine fd_u_br (C := fd_c87) (t := 10) (e := 5) (st' := []) (c := (fd_bi (0 ≤ x ∧ x < M 201 0 ∧ 0 ≤ y ∧ y < M 202 0)) = 0) (b := (fd_rng (fd_bi (0 ≤ x ∧ x < M 201 0 ∧ 0 ≤ y ∧ y < M 202 0)))) rfl rfl rfl (fd_biR) (fun h4 => ?_) (fun h4 => ?_)
  · have h4 := fd_biF.mp h4
    refine fd_u_blk 1 (C := fd_c87) (b := true) (L' := [fd_R 199, fd_I x, fd_I y, fd_I w]) (st' := [fd_I (-1)]) (M' := M) rfl rfl (j := 11) rfl (rfl) ?_
    refine fd_u_ret (C := fd_c87) (b := true) (r' := some (fd_I (-1))) rfl rfl rfl (rfl) ?_ ?_
    · rw [fd_A_cart, if_pos (show ¬ ((0 ≤ x ∧ x < M 201 0 ∧ 0 ≤ y ∧ y < M 202 0) ∧ 0 ≤ w ∧ w ≤ 1) by omega)]
    · rw [fd_B_cart, if_pos (show ¬ ((0 ≤ x ∧ x < M 201 0 ∧ 0 ≤ y ∧ y < M 202 0) ∧ 0 ≤ w ∧ w ≤ 1) by omega)]
  · have h4 := fd_biT.mp h4
    refine fd_u_blk 3 (C := fd_c87) (b := true) (L' := [fd_R 199, fd_I x, fd_I y, fd_I w]) (st' := [fd_I 1, fd_I 0, fd_I w]) (M' := M) rfl rfl (j := 8) rfl (rfl) ?_
    refine fd_u_call (C := fd_c87) (d0 := 0) (mid := 52) (np := 3) (args := [fd_I w, fd_I 0, fd_I 1]) (r1 := some (fd_I (fd_bi (0 ≤ w ∧ w ≤ 1)))) (M1 := M) (st' := [fd_I (fd_bi (0 ≤ w ∧ w ≤ 1))]) rfl rfl rfl rfl rfl rfl (rfl) (fd_r_in M w 0 1 (by omega) (by omega) (by omega)) rfl (by omega) ?_
    refine fd_u_br (C := fd_c87) (t := 12) (e := 10) (st' := []) (c := ¬ (fd_bi (0 ≤ w ∧ w ≤ 1)) = 0) (b := (fd_rng (fd_bi (0 ≤ w ∧ w ≤ 1)))) rfl rfl rfl (fd_biR) (fun h9 => ?_) (fun h9 => ?_)
    · have h9 := fd_biT.mp h9
      refine fd_u_blk 3 (C := fd_c87) (b := true) (L' := [fd_R 199, fd_I x, fd_I y, fd_I w]) (st' := [fd_I y, fd_I x, fd_R 199]) (M' := M) rfl rfl (j := 15) rfl (rfl) ?_
      refine fd_u_call (C := fd_c87) (d0 := 2) (mid := 70) (np := 3) (args := [fd_R 199, fd_I x, fd_I y]) (r1 := some (fd_I (fd_cvR M x y))) (M1 := M) (st' := [fd_I (fd_cvR M x y)]) rfl rfl rfl rfl rfl rfl (rfl) (fd_r_cell M hP hS x y (by omega) (by omega)) rfl (by omega) ?_
      have qc := fd_cvR_rng hP x y
      refine fd_u_blk 2 (C := fd_c87) (b := true) (L' := [fd_R 199, fd_I x, fd_I y, fd_I w]) (st' := [fd_I 1, fd_I w, fd_I (fd_cvR M x y)]) (M' := M) rfl rfl (j := 18) rfl (rfl) ?_
      refine fd_u_br (C := fd_c87) (t := 21) (e := 19) (st' := [fd_I (fd_cvR M x y)]) (c := ¬ w = 1) (b := (fd_rng w && fd_rng 1)) rfl rfl rfl (fd_bA (fd_bR (by omega) (by omega)) (fd_bR (by omega) (by omega))) (fun h18 => ?_) (fun h18 => ?_)
      · refine fd_u_blk 1 (C := fd_c87) (b := true) (L' := [fd_R 199, fd_I x, fd_I y, fd_I w]) (st' := [fd_I 3, fd_I (fd_cvR M x y)]) (M' := M) rfl rfl (j := 22) rfl (rfl) ?_
        refine fd_u_br (C := fd_c87) (t := 25) (e := 23) (st' := []) (c := (fd_cvR M x y) = 3) (b := (fd_rng (fd_cvR M x y) && fd_rng 3)) rfl rfl rfl (fd_bA (fd_bR (by omega) (by omega)) (fd_bR (by omega) (by omega))) (fun h22 => ?_) (fun h22 => ?_)
        · obtain ⟨i, rfl⟩ := Int.eq_ofNat_of_zero_le (show 0 ≤ x by omega)
          obtain ⟨j, rfl⟩ := Int.eq_ofNat_of_zero_le (show 0 ≤ y by omega)
          have qs := s2 j (by omega)
          have hB : ∀ (q0 : Int) (q1 : Int), fd_bl 1 (List.drop 25 fd_c87) [fd_R 199, fd_I q0, fd_I q1, fd_I w] [] M = some (true, [fd_R 199, fd_I q0, fd_I q1, fd_I w], [fd_R 199], M) := fun _ _ => rfl
          refine fd_u_blk 1 (C := fd_c87) (b := true) (L' := [fd_R 199, fd_I ((i : Nat) : Int), fd_I ((j : Nat) : Int), fd_I w]) (st' := [fd_R 199]) (M' := M) rfl (hB ((i : Nat) : Int) ((j : Nat) : Int)) (j := 26) rfl (rfl) ?_
          clear hB
          refine fd_u_call (C := fd_c87) (d0 := 0) (mid := 81) (np := 1) (args := [fd_R 199]) (r1 := none) (M1 := (fd_know M)) (st' := []) rfl rfl rfl rfl rfl rfl (rfl) (fd_r_know M hS.2.2.2.2.2) rfl (by omega) ?_
          have hB : ∀ (q0 : Int) (q1 : Int), fd_bl 7 (List.drop 27 fd_c87) [fd_R 199, fd_I q0, fd_I q1, fd_I w] [] (fd_know M) = some ((fd_isA true (fd_know M) 208 20 (21 + q1) && true), [fd_R 199, fd_I q0, fd_I q1, fd_I w], [fd_I ((fd_know M) 208 (21 + q1).toNat), fd_I (21 + q1), fd_R 208], (fd_know M)) := fun _ _ => rfl
          refine fd_u_blk 7 (C := fd_c87) (b := (fd_isA true (fd_know M) 208 20 (21 + ((j : Nat) : Int)) && true)) (L' := [fd_R 199, fd_I ((i : Nat) : Int), fd_I ((j : Nat) : Int), fd_I w]) (st' := [fd_I ((fd_know M) 208 (21 + ((j : Nat) : Int)).toNat), fd_I (21 + ((j : Nat) : Int)), fd_R 208]) (M' := (fd_know M)) rfl (hB ((i : Nat) : Int) ((j : Nat) : Int)) (j := 34) rfl (fd_bA (fd_iA fd_sh208 (by omega) (by omega)) (rfl)) ?_
          clear hB
          rw [show (21 + ((j : Nat) : Int)).toNat = 21 + j by omega]
          have hB : ∀ (q0 : Int) (q1 : Int) (q2 : Int), fd_bl 5 (List.drop 34 fd_c87) [fd_R 199, fd_I q0, fd_I q1, fd_I w] [fd_I ((fd_know M) 208 (21 + j)), fd_I q2, fd_R 208] (fd_know M) = some ((fd_inb q0 32 && (fd_isA true (fd_know M) 208 20 q2 && true)), [fd_R 199, fd_I q0, fd_I q1, fd_I w], [], (fd_up (fd_know M) 208 (q2).toNat (fd_xor ((fd_know M) 208 (21 + j)) (2 ^ (q0).toNat)))) := fun _ _ _ => rfl
          refine fd_u_blk 5 (C := fd_c87) (b := (fd_inb ((i : Nat) : Int) 32 && (fd_isA true (fd_know M) 208 20 (21 + ((j : Nat) : Int)) && true))) (L' := [fd_R 199, fd_I ((i : Nat) : Int), fd_I ((j : Nat) : Int), fd_I w]) (st' := []) (M' := (fd_up (fd_know M) 208 (21 + ((j : Nat) : Int)).toNat (fd_xor ((fd_know M) 208 (21 + j)) (2 ^ i)))) rfl (hB ((i : Nat) : Int) ((j : Nat) : Int) (21 + ((j : Nat) : Int))) (j := 39) rfl (fd_bA (fd_bI (by omega) (by omega)) (fd_bA (fd_iA fd_sh208 (by omega) (by omega)) (rfl))) ?_
          clear hB
          rw [show (21 + ((j : Nat) : Int)).toNat = 21 + j by omega]
          have e1 := fd_know_lo (M := M) (k := 21 + j) (by omega)
          rw [fd_A_cart, if_neg (show ¬ ¬ ((0 ≤ (i : Int) ∧ (i : Int) < M 201 0 ∧ 0 ≤ (j : Int) ∧ (j : Int) < M 202 0) ∧ 0 ≤ w ∧ w ≤ 1) by omega), if_neg (show ¬ ¬ fd_cvR M (i : Int) (j : Int) = (if w = 1 then 0 else 3) from by first | rw [if_pos (by omega)]; omega | rw [if_neg (by omega)]; omega), fd_B_cart, if_neg (show ¬ ¬ ((0 ≤ (i : Int) ∧ (i : Int) < M 201 0 ∧ 0 ≤ (j : Int) ∧ (j : Int) < M 202 0) ∧ 0 ≤ w ∧ w ≤ 1) by omega), if_neg (show ¬ ¬ fd_cvR M (i : Int) (j : Int) = (if w = 1 then 0 else 3) from by first | rw [if_pos (by omega)]; omega | rw [if_neg (by omega)]; omega), e1]
          exact fd_g_cart _ (fd_RS_up (k := 21 + j) (v := fd_xor (M 208 (21 + j)) (2 ^ i)) (fd_RS_know hP hS) (by have := fd_xor_rng7 (a := M 208 (21 + j)) qs (k := i) (by omega); omega) (by rw [fd_know_fr (by decide)]; omega)) _ _ _
        · refine fd_u_blk 1 (C := fd_c87) (b := true) (L' := [fd_R 199, fd_I x, fd_I y, fd_I w]) (st' := [fd_I (-2)]) (M' := M) rfl rfl (j := 24) rfl (rfl) ?_
          refine fd_u_ret (C := fd_c87) (b := true) (r' := some (fd_I (-2))) rfl rfl rfl (rfl) ?_ ?_
          · rw [fd_A_cart, if_neg (show ¬ ¬ ((0 ≤ x ∧ x < M 201 0 ∧ 0 ≤ y ∧ y < M 202 0) ∧ 0 ≤ w ∧ w ≤ 1) by omega), if_pos (show ¬ fd_cvR M x y = (if w = 1 then 0 else 3) from by first | rw [if_pos (by omega)]; omega | rw [if_neg (by omega)]; omega)]
          · rw [fd_B_cart, if_neg (show ¬ ¬ ((0 ≤ x ∧ x < M 201 0 ∧ 0 ≤ y ∧ y < M 202 0) ∧ 0 ≤ w ∧ w ≤ 1) by omega), if_pos (show ¬ fd_cvR M x y = (if w = 1 then 0 else 3) from by first | rw [if_pos (by omega)]; omega | rw [if_neg (by omega)]; omega)]
      · refine fd_u_blk 1 (C := fd_c87) (b := true) (L' := [fd_R 199, fd_I x, fd_I y, fd_I w]) (st' := [fd_I 0, fd_I (fd_cvR M x y)]) (M' := M) rfl rfl (j := 20) rfl (rfl) ?_
        refine fd_u_jmp (C := fd_c87) (j := 22) (st' := [fd_I 0, fd_I (fd_cvR M x y)]) rfl rfl (b := true) rfl rfl ?_
        refine fd_u_br (C := fd_c87) (t := 25) (e := 23) (st' := []) (c := (fd_cvR M x y) = 0) (b := (fd_rng (fd_cvR M x y) && fd_rng 0)) rfl rfl rfl (fd_bA (fd_bR (by omega) (by omega)) (fd_bR (by omega) (by omega))) (fun h22 => ?_) (fun h22 => ?_)
        · obtain ⟨i, rfl⟩ := Int.eq_ofNat_of_zero_le (show 0 ≤ x by omega)
          obtain ⟨j, rfl⟩ := Int.eq_ofNat_of_zero_le (show 0 ≤ y by omega)
          have qs := s2 j (by omega)
          have hB : ∀ (q0 : Int) (q1 : Int), fd_bl 1 (List.drop 25 fd_c87) [fd_R 199, fd_I q0, fd_I q1, fd_I w] [] M = some (true, [fd_R 199, fd_I q0, fd_I q1, fd_I w], [fd_R 199], M) := fun _ _ => rfl
          refine fd_u_blk 1 (C := fd_c87) (b := true) (L' := [fd_R 199, fd_I ((i : Nat) : Int), fd_I ((j : Nat) : Int), fd_I w]) (st' := [fd_R 199]) (M' := M) rfl (hB ((i : Nat) : Int) ((j : Nat) : Int)) (j := 26) rfl (rfl) ?_
          clear hB
          refine fd_u_call (C := fd_c87) (d0 := 0) (mid := 81) (np := 1) (args := [fd_R 199]) (r1 := none) (M1 := (fd_know M)) (st' := []) rfl rfl rfl rfl rfl rfl (rfl) (fd_r_know M hS.2.2.2.2.2) rfl (by omega) ?_
          have hB : ∀ (q0 : Int) (q1 : Int), fd_bl 7 (List.drop 27 fd_c87) [fd_R 199, fd_I q0, fd_I q1, fd_I w] [] (fd_know M) = some ((fd_isA true (fd_know M) 208 20 (21 + q1) && true), [fd_R 199, fd_I q0, fd_I q1, fd_I w], [fd_I ((fd_know M) 208 (21 + q1).toNat), fd_I (21 + q1), fd_R 208], (fd_know M)) := fun _ _ => rfl
          refine fd_u_blk 7 (C := fd_c87) (b := (fd_isA true (fd_know M) 208 20 (21 + ((j : Nat) : Int)) && true)) (L' := [fd_R 199, fd_I ((i : Nat) : Int), fd_I ((j : Nat) : Int), fd_I w]) (st' := [fd_I ((fd_know M) 208 (21 + ((j : Nat) : Int)).toNat), fd_I (21 + ((j : Nat) : Int)), fd_R 208]) (M' := (fd_know M)) rfl (hB ((i : Nat) : Int) ((j : Nat) : Int)) (j := 34) rfl (fd_bA (fd_iA fd_sh208 (by omega) (by omega)) (rfl)) ?_
          clear hB
          rw [show (21 + ((j : Nat) : Int)).toNat = 21 + j by omega]
          have hB : ∀ (q0 : Int) (q1 : Int) (q2 : Int), fd_bl 5 (List.drop 34 fd_c87) [fd_R 199, fd_I q0, fd_I q1, fd_I w] [fd_I ((fd_know M) 208 (21 + j)), fd_I q2, fd_R 208] (fd_know M) = some ((fd_inb q0 32 && (fd_isA true (fd_know M) 208 20 q2 && true)), [fd_R 199, fd_I q0, fd_I q1, fd_I w], [], (fd_up (fd_know M) 208 (q2).toNat (fd_xor ((fd_know M) 208 (21 + j)) (2 ^ (q0).toNat)))) := fun _ _ _ => rfl
          refine fd_u_blk 5 (C := fd_c87) (b := (fd_inb ((i : Nat) : Int) 32 && (fd_isA true (fd_know M) 208 20 (21 + ((j : Nat) : Int)) && true))) (L' := [fd_R 199, fd_I ((i : Nat) : Int), fd_I ((j : Nat) : Int), fd_I w]) (st' := []) (M' := (fd_up (fd_know M) 208 (21 + ((j : Nat) : Int)).toNat (fd_xor ((fd_know M) 208 (21 + j)) (2 ^ i)))) rfl (hB ((i : Nat) : Int) ((j : Nat) : Int) (21 + ((j : Nat) : Int))) (j := 39) rfl (fd_bA (fd_bI (by omega) (by omega)) (fd_bA (fd_iA fd_sh208 (by omega) (by omega)) (rfl))) ?_
          clear hB
          rw [show (21 + ((j : Nat) : Int)).toNat = 21 + j by omega]
          have e1 := fd_know_lo (M := M) (k := 21 + j) (by omega)
          rw [fd_A_cart, if_neg (show ¬ ¬ ((0 ≤ (i : Int) ∧ (i : Int) < M 201 0 ∧ 0 ≤ (j : Int) ∧ (j : Int) < M 202 0) ∧ 0 ≤ w ∧ w ≤ 1) by omega), if_neg (show ¬ ¬ fd_cvR M (i : Int) (j : Int) = (if w = 1 then 0 else 3) from by first | rw [if_pos (by omega)]; omega | rw [if_neg (by omega)]; omega), fd_B_cart, if_neg (show ¬ ¬ ((0 ≤ (i : Int) ∧ (i : Int) < M 201 0 ∧ 0 ≤ (j : Int) ∧ (j : Int) < M 202 0) ∧ 0 ≤ w ∧ w ≤ 1) by omega), if_neg (show ¬ ¬ fd_cvR M (i : Int) (j : Int) = (if w = 1 then 0 else 3) from by first | rw [if_pos (by omega)]; omega | rw [if_neg (by omega)]; omega), e1]
          exact fd_g_cart _ (fd_RS_up (k := 21 + j) (v := fd_xor (M 208 (21 + j)) (2 ^ i)) (fd_RS_know hP hS) (by have := fd_xor_rng7 (a := M 208 (21 + j)) qs (k := i) (by omega); omega) (by rw [fd_know_fr (by decide)]; omega)) _ _ _
        · refine fd_u_blk 1 (C := fd_c87) (b := true) (L' := [fd_R 199, fd_I x, fd_I y, fd_I w]) (st' := [fd_I (-2)]) (M' := M) rfl rfl (j := 24) rfl (rfl) ?_
          refine fd_u_ret (C := fd_c87) (b := true) (r' := some (fd_I (-2))) rfl rfl rfl (rfl) ?_ ?_
          · rw [fd_A_cart, if_neg (show ¬ ¬ ((0 ≤ x ∧ x < M 201 0 ∧ 0 ≤ y ∧ y < M 202 0) ∧ 0 ≤ w ∧ w ≤ 1) by omega), if_pos (show ¬ fd_cvR M x y = (if w = 1 then 0 else 3) from by first | rw [if_pos (by omega)]; omega | rw [if_neg (by omega)]; omega)]
          · rw [fd_B_cart, if_neg (show ¬ ¬ ((0 ≤ x ∧ x < M 201 0 ∧ 0 ≤ y ∧ y < M 202 0) ∧ 0 ≤ w ∧ w ≤ 1) by omega), if_pos (show ¬ fd_cvR M x y = (if w = 1 then 0 else 3) from by first | rw [if_pos (by omega)]; omega | rw [if_neg (by omega)]; omega)]
    · have h9 := fd_biF2  h9
      refine fd_u_blk 1 (C := fd_c87) (b := true) (L' := [fd_R 199, fd_I x, fd_I y, fd_I w]) (st' := [fd_I (-1)]) (M' := M) rfl rfl (j := 11) rfl (rfl) ?_
      refine fd_u_ret (C := fd_c87) (b := true) (r' := some (fd_I (-1))) rfl rfl rfl (rfl) ?_ ?_
      · rw [fd_A_cart, if_pos (show ¬ ((0 ≤ x ∧ x < M 201 0 ∧ 0 ≤ y ∧ y < M 202 0) ∧ 0 ≤ w ∧ w ≤ 1) by omega)]
      · rw [fd_B_cart, if_pos (show ¬ ((0 ≤ x ∧ x < M 201 0 ∧ 0 ≤ y ∧ y < M 202 0) ∧ 0 ≤ w ∧ w ≤ 1) by omega)]

def fd_A_leaf (M : fd_M) (w : Int) : Int := if ¬ (0 ≤ w ∧ w ≤ 1) then -1 else if M 208 13 = w then -2 else fd_sum (fd_dR (fd_tak (fd_up (fd_know M) 208 13 w))) (M 204 0).toNat
def fd_B_leaf (M : fd_M) (w : Int) : fd_M := if ¬ (0 ≤ w ∧ w ≤ 1) then M else if M 208 13 = w then M else fd_tak (fd_up (fd_know M) 208 13 w)
theorem fd_g_leaf (M : fd_M) (hP : fd_RP M) (hS : fd_RS M) (u1 u2 : fd_V) : fd_run 7 88 22 [fd_R 199, u1, u2] [] M (some (fd_I (fd_sum (fd_dR (fd_tak M)) (M 204 0).toNat))) (fd_tak M) := by
  refine fd_u_blk 1 (C := fd_c88) (b := true) (L' := [fd_R 199, u1, u2]) (st' := [fd_R 199]) (M' := M) rfl rfl (j := 23) rfl (rfl) ?_
  refine fd_u_call (C := fd_c88) (d0 := 6) (mid := 82) (np := 1) (args := [fd_R 199]) (r1 := some (fd_I (fd_sum (fd_dR (fd_tak M)) (M 204 0).toNat))) (M1 := (fd_tak M)) (st' := [fd_I (fd_sum (fd_dR (fd_tak M)) (M 204 0).toNat)]) rfl rfl rfl rfl rfl rfl (rfl) (fd_r_duesNow M hP hS) rfl (by omega) ?_
  refine fd_u_ret (C := fd_c88) (b := true) (r' := some (fd_I (fd_sum (fd_dR (fd_tak M)) (M 204 0).toNat))) rfl rfl rfl (rfl) ?_ ?_
  · rfl
  · rfl

theorem fd_r_set13 (M : fd_M) (hP : fd_RP M) (hS : fd_RS M) (w : Int) (hw : -2147483648 ≤ w ∧ w < 2147483648) : fd_call 7 88 [fd_R 199, fd_I 13, fd_I w] M (some (fd_I (fd_A_leaf M w))) (fd_B_leaf M w) := by
  refine fd_u_in (L := [fd_R 199, fd_I 13, fd_I w]) rfl ?_
  obtain ⟨g0, g1, g2, g3, g4, g5⟩ := id hP
  obtain ⟨s1, s2, s3, s4, s5, s6⟩ := id hS
  refine fd_u_blk 3 (C := fd_c88) (b := true) (L' := [fd_R 199, fd_I 13, fd_I w]) (st' := [fd_I 1, fd_I 0, fd_I w]) (M' := M) rfl rfl (j := 3) rfl (rfl) ?_
  refine fd_u_call (C := fd_c88) (d0 := 0) (mid := 52) (np := 3) (args := [fd_I w, fd_I 0, fd_I 1]) (r1 := some (fd_I (fd_bi (0 ≤ w ∧ w ≤ 1)))) (M1 := M) (st' := [fd_I (fd_bi (0 ≤ w ∧ w ≤ 1))]) rfl rfl rfl rfl rfl rfl (rfl) (fd_r_in M w 0 1 (by omega) (by omega) (by omega)) rfl (by omega) ?_
  refine fd_u_br (C := fd_c88) (t := 7) (e := 5) (st' := []) (c := ¬ (fd_bi (0 ≤ w ∧ w ≤ 1)) = 0) (b := (fd_rng (fd_bi (0 ≤ w ∧ w ≤ 1)))) rfl rfl rfl (fd_biR) (fun h4 => ?_) (fun h4 => ?_)
  · have h4 := fd_biT.mp h4
    refine fd_u_blk 5 (C := fd_c88) (b := true) (L' := [fd_R 199, fd_I 13, fd_I w]) (st' := [fd_I w, fd_I (M 208 13)]) (M' := M) rfl rfl (j := 12) rfl (rfl) ?_
    refine fd_u_br (C := fd_c88) (t := 15) (e := 13) (st' := []) (c := ¬ (M 208 13) = w) (b := (fd_rng (M 208 13) && fd_rng w)) rfl rfl rfl (fd_bA (fd_bR (by omega) (by omega)) (fd_bR (by omega) (by omega))) (fun h12 => ?_) (fun h12 => ?_)
    · refine fd_u_blk 1 (C := fd_c88) (b := true) (L' := [fd_R 199, fd_I 13, fd_I w]) (st' := [fd_R 199]) (M' := M) rfl rfl (j := 16) rfl (rfl) ?_
      refine fd_u_call (C := fd_c88) (d0 := 0) (mid := 81) (np := 1) (args := [fd_R 199]) (r1 := none) (M1 := (fd_know M)) (st' := []) rfl rfl rfl rfl rfl rfl (rfl) (fd_r_know M hS.2.2.2.2.2) rfl (by omega) ?_
      refine fd_u_blk 5 (C := fd_c88) (b := true) (L' := [fd_R 199, fd_I 13, fd_I w]) (st' := []) (M' := (fd_up (fd_know M) 208 13 w)) rfl rfl (j := 22) rfl (rfl) ?_
      rw [fd_A_leaf, if_neg (show ¬ ¬ (0 ≤ w ∧ w ≤ 1) by omega), if_neg (show ¬ (M 208 13 = w) by omega), fd_B_leaf, if_neg (show ¬ ¬ (0 ≤ w ∧ w ≤ 1) by omega), if_neg (show ¬ (M 208 13 = w) by omega)]
      have z := fd_g_leaf (fd_up (fd_know M) 208 13 w) (fd_RP_up (fd_RP_know hP) 13 w) (fd_RS_up (fd_RS_know hP hS) (by omega) (by rw [fd_know_fr (by decide)]; omega)) (fd_I 13) (fd_I w)
      rw [show (fd_up (fd_know M) 208 13 w) 204 0 = M 204 0 by rw [fd_up_ne (by decide), fd_know_fr (by decide)]] at z
      exact z
    · refine fd_u_blk 1 (C := fd_c88) (b := true) (L' := [fd_R 199, fd_I 13, fd_I w]) (st' := [fd_I (-2)]) (M' := M) rfl rfl (j := 14) rfl (rfl) ?_
      refine fd_u_ret (C := fd_c88) (b := true) (r' := some (fd_I (-2))) rfl rfl rfl (rfl) ?_ ?_
      · rw [fd_A_leaf, if_neg (show ¬ ¬ (0 ≤ w ∧ w ≤ 1) by omega), if_pos (show M 208 13 = w by omega)]
      · rw [fd_B_leaf, if_neg (show ¬ ¬ (0 ≤ w ∧ w ≤ 1) by omega), if_pos (show M 208 13 = w by omega)]
  · have h4 := fd_biF2  h4
    refine fd_u_blk 1 (C := fd_c88) (b := true) (L' := [fd_R 199, fd_I 13, fd_I w]) (st' := [fd_I (-1)]) (M' := M) rfl rfl (j := 6) rfl (rfl) ?_
    refine fd_u_ret (C := fd_c88) (b := true) (r' := some (fd_I (-1))) rfl rfl rfl (rfl) ?_ ?_
    · rw [fd_A_leaf, if_pos (show ¬ (0 ≤ w ∧ w ≤ 1) by omega)]
    · rw [fd_B_leaf, if_pos (show ¬ (0 ≤ w ∧ w ≤ 1) by omega)]

theorem fd_r_leaf (M : fd_M) (hP : fd_RP M) (hS : fd_RS M) (w : Int) (hw : -2147483648 ≤ w ∧ w < 2147483648) : fd_call 8 89 [fd_R 199, fd_I w] M (some (fd_I (fd_A_leaf M w))) (fd_B_leaf M w) := by
  refine fd_u_in (L := [fd_R 199, fd_I w]) rfl ?_
  refine fd_u_blk 3 (C := fd_c89) (b := true) (L' := [fd_R 199, fd_I w]) (st' := [fd_I w, fd_I 13, fd_R 199]) (M' := M) rfl rfl (j := 3) rfl (rfl) ?_
  refine fd_u_call (C := fd_c89) (d0 := 7) (mid := 88) (np := 3) (args := [fd_R 199, fd_I 13, fd_I w]) (r1 := some (fd_I (fd_A_leaf M w))) (M1 := (fd_B_leaf M w)) (st' := [fd_I (fd_A_leaf M w)]) rfl rfl rfl rfl rfl rfl (rfl) (fd_r_set13 M hP hS w hw) rfl (by omega) ?_
  refine fd_u_ret (C := fd_c89) (b := true) (r' := some (fd_I (fd_A_leaf M w))) rfl rfl rfl (rfl) ?_ ?_
  · rfl
  · rfl

def fd_A_fog (M : fd_M) (w : Int) : Int := if ¬ (0 ≤ w ∧ w ≤ 1) then -1 else if M 208 14 = w then -2 else fd_sum (fd_dR (fd_tak (fd_up (fd_know M) 208 14 w))) (M 204 0).toNat
def fd_B_fog (M : fd_M) (w : Int) : fd_M := if ¬ (0 ≤ w ∧ w ≤ 1) then M else if M 208 14 = w then M else fd_tak (fd_up (fd_know M) 208 14 w)
theorem fd_g_fog (M : fd_M) (hP : fd_RP M) (hS : fd_RS M) (u1 u2 : fd_V) : fd_run 7 88 22 [fd_R 199, u1, u2] [] M (some (fd_I (fd_sum (fd_dR (fd_tak M)) (M 204 0).toNat))) (fd_tak M) := by
  refine fd_u_blk 1 (C := fd_c88) (b := true) (L' := [fd_R 199, u1, u2]) (st' := [fd_R 199]) (M' := M) rfl rfl (j := 23) rfl (rfl) ?_
  refine fd_u_call (C := fd_c88) (d0 := 6) (mid := 82) (np := 1) (args := [fd_R 199]) (r1 := some (fd_I (fd_sum (fd_dR (fd_tak M)) (M 204 0).toNat))) (M1 := (fd_tak M)) (st' := [fd_I (fd_sum (fd_dR (fd_tak M)) (M 204 0).toNat)]) rfl rfl rfl rfl rfl rfl (rfl) (fd_r_duesNow M hP hS) rfl (by omega) ?_
  refine fd_u_ret (C := fd_c88) (b := true) (r' := some (fd_I (fd_sum (fd_dR (fd_tak M)) (M 204 0).toNat))) rfl rfl rfl (rfl) ?_ ?_
  · rfl
  · rfl

theorem fd_r_set14 (M : fd_M) (hP : fd_RP M) (hS : fd_RS M) (w : Int) (hw : -2147483648 ≤ w ∧ w < 2147483648) : fd_call 7 88 [fd_R 199, fd_I 14, fd_I w] M (some (fd_I (fd_A_fog M w))) (fd_B_fog M w) := by
  refine fd_u_in (L := [fd_R 199, fd_I 14, fd_I w]) rfl ?_
  obtain ⟨g0, g1, g2, g3, g4, g5⟩ := id hP
  obtain ⟨s1, s2, s3, s4, s5, s6⟩ := id hS
  refine fd_u_blk 3 (C := fd_c88) (b := true) (L' := [fd_R 199, fd_I 14, fd_I w]) (st' := [fd_I 1, fd_I 0, fd_I w]) (M' := M) rfl rfl (j := 3) rfl (rfl) ?_
  refine fd_u_call (C := fd_c88) (d0 := 0) (mid := 52) (np := 3) (args := [fd_I w, fd_I 0, fd_I 1]) (r1 := some (fd_I (fd_bi (0 ≤ w ∧ w ≤ 1)))) (M1 := M) (st' := [fd_I (fd_bi (0 ≤ w ∧ w ≤ 1))]) rfl rfl rfl rfl rfl rfl (rfl) (fd_r_in M w 0 1 (by omega) (by omega) (by omega)) rfl (by omega) ?_
  refine fd_u_br (C := fd_c88) (t := 7) (e := 5) (st' := []) (c := ¬ (fd_bi (0 ≤ w ∧ w ≤ 1)) = 0) (b := (fd_rng (fd_bi (0 ≤ w ∧ w ≤ 1)))) rfl rfl rfl (fd_biR) (fun h4 => ?_) (fun h4 => ?_)
  · have h4 := fd_biT.mp h4
    refine fd_u_blk 5 (C := fd_c88) (b := true) (L' := [fd_R 199, fd_I 14, fd_I w]) (st' := [fd_I w, fd_I (M 208 14)]) (M' := M) rfl rfl (j := 12) rfl (rfl) ?_
    refine fd_u_br (C := fd_c88) (t := 15) (e := 13) (st' := []) (c := ¬ (M 208 14) = w) (b := (fd_rng (M 208 14) && fd_rng w)) rfl rfl rfl (fd_bA (fd_bR (by omega) (by omega)) (fd_bR (by omega) (by omega))) (fun h12 => ?_) (fun h12 => ?_)
    · refine fd_u_blk 1 (C := fd_c88) (b := true) (L' := [fd_R 199, fd_I 14, fd_I w]) (st' := [fd_R 199]) (M' := M) rfl rfl (j := 16) rfl (rfl) ?_
      refine fd_u_call (C := fd_c88) (d0 := 0) (mid := 81) (np := 1) (args := [fd_R 199]) (r1 := none) (M1 := (fd_know M)) (st' := []) rfl rfl rfl rfl rfl rfl (rfl) (fd_r_know M hS.2.2.2.2.2) rfl (by omega) ?_
      refine fd_u_blk 5 (C := fd_c88) (b := true) (L' := [fd_R 199, fd_I 14, fd_I w]) (st' := []) (M' := (fd_up (fd_know M) 208 14 w)) rfl rfl (j := 22) rfl (rfl) ?_
      rw [fd_A_fog, if_neg (show ¬ ¬ (0 ≤ w ∧ w ≤ 1) by omega), if_neg (show ¬ (M 208 14 = w) by omega), fd_B_fog, if_neg (show ¬ ¬ (0 ≤ w ∧ w ≤ 1) by omega), if_neg (show ¬ (M 208 14 = w) by omega)]
      have z := fd_g_fog (fd_up (fd_know M) 208 14 w) (fd_RP_up (fd_RP_know hP) 14 w) (fd_RS_up (fd_RS_know hP hS) (by omega) (by rw [fd_know_fr (by decide)]; omega)) (fd_I 14) (fd_I w)
      rw [show (fd_up (fd_know M) 208 14 w) 204 0 = M 204 0 by rw [fd_up_ne (by decide), fd_know_fr (by decide)]] at z
      exact z
    · refine fd_u_blk 1 (C := fd_c88) (b := true) (L' := [fd_R 199, fd_I 14, fd_I w]) (st' := [fd_I (-2)]) (M' := M) rfl rfl (j := 14) rfl (rfl) ?_
      refine fd_u_ret (C := fd_c88) (b := true) (r' := some (fd_I (-2))) rfl rfl rfl (rfl) ?_ ?_
      · rw [fd_A_fog, if_neg (show ¬ ¬ (0 ≤ w ∧ w ≤ 1) by omega), if_pos (show M 208 14 = w by omega)]
      · rw [fd_B_fog, if_neg (show ¬ ¬ (0 ≤ w ∧ w ≤ 1) by omega), if_pos (show M 208 14 = w by omega)]
  · have h4 := fd_biF2  h4
    refine fd_u_blk 1 (C := fd_c88) (b := true) (L' := [fd_R 199, fd_I 14, fd_I w]) (st' := [fd_I (-1)]) (M' := M) rfl rfl (j := 6) rfl (rfl) ?_
    refine fd_u_ret (C := fd_c88) (b := true) (r' := some (fd_I (-1))) rfl rfl rfl (rfl) ?_ ?_
    · rw [fd_A_fog, if_pos (show ¬ (0 ≤ w ∧ w ≤ 1) by omega)]
    · rw [fd_B_fog, if_pos (show ¬ (0 ≤ w ∧ w ≤ 1) by omega)]

theorem fd_r_fog (M : fd_M) (hP : fd_RP M) (hS : fd_RS M) (w : Int) (hw : -2147483648 ≤ w ∧ w < 2147483648) : fd_call 8 90 [fd_R 199, fd_I w] M (some (fd_I (fd_A_fog M w))) (fd_B_fog M w) := by
  refine fd_u_in (L := [fd_R 199, fd_I w]) rfl ?_
  refine fd_u_blk 3 (C := fd_c90) (b := true) (L' := [fd_R 199, fd_I w]) (st' := [fd_I w, fd_I 14, fd_R 199]) (M' := M) rfl rfl (j := 3) rfl (rfl) ?_
  refine fd_u_call (C := fd_c90) (d0 := 7) (mid := 88) (np := 3) (args := [fd_R 199, fd_I 14, fd_I w]) (r1 := some (fd_I (fd_A_fog M w))) (M1 := (fd_B_fog M w)) (st' := [fd_I (fd_A_fog M w)]) rfl rfl rfl rfl rfl rfl (rfl) (fd_r_set14 M hP hS w hw) rfl (by omega) ?_
  refine fd_u_ret (C := fd_c90) (b := true) (r' := some (fd_I (fd_A_fog M w))) rfl rfl rfl (rfl) ?_ ?_
  · rfl
  · rfl


/-! the reference: all ways of facing -/
def fd_su (f : Nat → Int) : Nat → Nat → Int
  | 0, _ => 0
  | j + 1, n => f n + fd_su f j (n + 1)
theorem fd_su_last (f : Nat → Int) : ∀ j n : Nat, fd_su f (j + 1) n = fd_su f j n + f (n + j)
  | 0, n => by
    show f n + 0 = 0 + f (n + 0)
    simp
  | j + 1, n => by
    show f n + fd_su f (j + 1) (n + 1) = f n + fd_su f j (n + 1) + f (n + (j + 1))
    rw [fd_su_last f j (n + 1), show n + 1 + j = n + (j + 1) by omega]
    omega
theorem fd_su_sum (f : Nat → Int) : ∀ j : Nat, fd_su f j 0 = fd_sum f j
  | 0 => rfl
  | j + 1 => by
    rw [fd_su_last, fd_su_sum f j, Nat.zero_add]
    rfl
theorem fd_su_rng {f : Nat → Int} (h : ∀ k, 0 ≤ f k ∧ f k ≤ 1) : ∀ j n : Nat, 0 ≤ fd_su f j n ∧ fd_su f j n ≤ j
  | 0, n => by
    show (0 : Int) ≤ 0 ∧ (0 : Int) ≤ ((0 : Nat) : Int)
    simp
  | j + 1, n => by
    have a := fd_su_rng h j (n + 1)
    have b := h n
    show 0 ≤ f n + fd_su f j (n + 1) ∧ f n + fd_su f j (n + 1) ≤ ((j + 1 : Nat) : Int)
    omega
def fd_dg (D c k : Nat) : Int := ((c / 4 ^ (D - 1 - k) % 4 : Nat) : Int)
theorem fd_dg_rng (D c k : Nat) : 0 ≤ fd_dg D c k ∧ fd_dg D c k ≤ 3 := by
  unfold fd_dg
  omega
def fd_wyj (T : fd_M) (D c n : Nat) : fd_M := fun a k => if a = 210 ∧ n ≤ k ∧ k < D then fd_dg D c k else T a k
def fd_wy (T : fd_M) (D c : Nat) : fd_M := fd_wyj T D c 0
theorem fd_wyj_D (T : fd_M) (D c : Nat) : fd_wyj T D c D = T := by
  funext a k
  unfold fd_wyj
  rw [if_neg (by omega)]
theorem fd_wyj_fr {T : fd_M} {D c n a : Nat} (h : a ≠ 210) : fd_wyj T D c n a = T a := by
  funext k
  unfold fd_wyj
  rw [if_neg (fun q => h q.1)]
theorem fd_wyj_S (T : fd_M) (D c n : Nat) (h : n < D) : fd_up (fd_wyj T D c (n + 1)) 210 n (((c / 4 ^ (D - (n + 1)) : Nat) : Int) % 4) = fd_wyj T D c n := by
  funext a k
  unfold fd_up fd_wyj
  by_cases h1 : a = 210 ∧ k = n
  · obtain ⟨rfl, rfl⟩ := h1
    rw [if_pos ⟨rfl, rfl⟩, if_pos (show 210 = 210 ∧ k ≤ k ∧ k < D by omega)]
    unfold fd_dg
    rw [show D - (k + 1) = D - 1 - k by omega]
    rfl
  · rw [if_neg h1]
    by_cases h2 : a = 210 ∧ n ≤ k ∧ k < D
    · rw [if_pos h2, if_pos (by omega)]
    · rw [if_neg h2, if_neg (by omega)]
theorem fd_wy_fr {T : fd_M} {D c a : Nat} (h : a ≠ 210) : fd_wy T D c a = T a := fd_wyj_fr h
theorem fd_wy_at {T : fd_M} {D c k : Nat} (h : k < D) : fd_wy T D c 210 k = fd_dg D c k := by
  unfold fd_wy fd_wyj
  rw [if_pos ⟨rfl, by omega, h⟩]
theorem fd_wy_wy (T : fd_M) (D c c' : Nat) : fd_wy (fd_wy T D c') D c = fd_wy T D c := by
  funext a k
  unfold fd_wy fd_wyj
  by_cases h : a = 210 ∧ 0 ≤ k ∧ k < D
  · rw [if_pos h, if_pos h]
  · rw [if_neg h, if_neg h, if_neg h]
theorem fd_wy_sm (T : fd_M) (D c : Nat) : fd_smR T (fd_wy T D c) := ⟨fun a _ h => fd_wy_fr h, fun k _ _ => by rw [fd_wy_fr (by decide)]⟩
def fd_ct (T : fd_M) (D c k : Nat) : Int := if fd_dg D c k = T 208 (6 + k) then 0 else 1
theorem fd_ct_rng (T : fd_M) (D c k : Nat) : 0 ≤ fd_ct T D c k ∧ fd_ct T D c k ≤ 1 := by
  unfold fd_ct
  split <;> omega
theorem fd_RW_wy {T : fd_M} (h : fd_RW T) (c : Nat) : fd_RW (fd_wy T (T 204 0).toNat c) := by
  refine ⟨fun d hd => ?_, ?_, ?_⟩
  · rw [fd_wy_fr (by decide)] at hd
    rw [fd_wy_at (by omega)]
    exact fd_dg_rng _ _ _
  · rw [fd_wy_fr (by decide)]; exact h.2.1
  · rw [fd_wy_fr (by decide)]; exact h.2.2
theorem fd_l_takeWays (T : fd_M) (hP : fd_RP T) (hS : fd_RS T) (c : Nat) (hc : c < 2147483648) (a1 : fd_V) : ∀ (n : Nat) (v : Nat) (m : Int) (hn : n ≤ (T 204 0).toNat) (hv : v = c / 4 ^ ((T 204 0).toNat - n)) (hm : m = fd_su (fd_ct T (T 204 0).toNat c) ((T 204 0).toNat - n) n) (hv2 : v < 2147483648), fd_run 0 95 11 [fd_R 199, a1, fd_I m, fd_I ((v : Nat) : Int), fd_I (((n : Nat) : Int) - 1)] [] (fd_wyj T (T 204 0).toNat c n) (some (fd_I (fd_su (fd_ct T (T 204 0).toNat c) (T 204 0).toNat 0))) (fd_wy T (T 204 0).toNat c) := by
  obtain ⟨g0, g1, g2, g3, g4, g5⟩ := id hP
  intro n
  induction n with
  | zero =>
    intro v m hn hv hm hv2
    rw [show ((0 : Nat) : Int) - 1 = -1 from rfl]
    have hB : ∀ (q0 : Int), fd_bl 1 (List.drop 11 fd_c95) [fd_R 199, a1, fd_I m, fd_I q0, fd_I (-1)] [] (fd_wyj T (T 204 0).toNat c 0) = some (true, [fd_R 199, a1, fd_I m, fd_I q0, fd_I (-1)], [fd_I (-1)], (fd_wyj T (T 204 0).toNat c 0)) := fun _ => rfl
    refine fd_u_blk 1 (C := fd_c95) (b := true) (L' := [fd_R 199, a1, fd_I m, fd_I ((v : Nat) : Int), fd_I (-1)]) (st' := [fd_I (-1)]) (M' := (fd_wyj T (T 204 0).toNat c 0)) rfl (hB ((v : Nat) : Int)) (j := 12) rfl (rfl) ?_
    clear hB
    refine fd_u_br (C := fd_c95) (t := 43) (e := 13) (st' := []) (c := (-1) < 0) (b := (fd_rng (-1))) rfl rfl rfl (fd_bR (by omega) (by omega)) (fun h12 => ?_) (fun h12 => absurd h12 (by omega))
    have hB : ∀ (q0 : Int), fd_bl 1 (List.drop 43 fd_c95) [fd_R 199, a1, fd_I m, fd_I q0, fd_I (-1)] [] (fd_wyj T (T 204 0).toNat c 0) = some (true, [fd_R 199, a1, fd_I m, fd_I q0, fd_I (-1)], [fd_I m], (fd_wyj T (T 204 0).toNat c 0)) := fun _ => rfl
    refine fd_u_blk 1 (C := fd_c95) (b := true) (L' := [fd_R 199, a1, fd_I m, fd_I ((v : Nat) : Int), fd_I (-1)]) (st' := [fd_I m]) (M' := (fd_wyj T (T 204 0).toNat c 0)) rfl (hB ((v : Nat) : Int)) (j := 44) rfl (rfl) ?_
    clear hB
    refine fd_u_ret (C := fd_c95) (b := true) (r' := some (fd_I m)) rfl rfl rfl (rfl) ?_ ?_
    · rw [hm]; rfl
    · rfl
  | succ n ih =>
    intro v m hn hv hm hv2
    rw [show ((n + 1 : Nat) : Int) - 1 = ((n : Nat) : Int) by omega]
    have q8 := (hS.1 n (by omega)).2.1
    have hB : ∀ (q0 : Int) (q1 : Int), fd_bl 1 (List.drop 11 fd_c95) [fd_R 199, a1, fd_I m, fd_I q0, fd_I q1] [] (fd_wyj T (T 204 0).toNat c (n + 1)) = some (true, [fd_R 199, a1, fd_I m, fd_I q0, fd_I q1], [fd_I q1], (fd_wyj T (T 204 0).toNat c (n + 1))) := fun _ _ => rfl
    refine fd_u_blk 1 (C := fd_c95) (b := true) (L' := [fd_R 199, a1, fd_I m, fd_I ((v : Nat) : Int), fd_I ((n : Nat) : Int)]) (st' := [fd_I ((n : Nat) : Int)]) (M' := (fd_wyj T (T 204 0).toNat c (n + 1))) rfl (hB ((v : Nat) : Int) ((n : Nat) : Int)) (j := 12) rfl (rfl) ?_
    clear hB
    refine fd_u_br (C := fd_c95) (t := 43) (e := 13) (st' := []) (c := ((n : Nat) : Int) < 0) (b := (fd_rng ((n : Nat) : Int))) rfl rfl rfl (fd_bR (by omega) (by omega)) (fun h12 => absurd h12 (by omega)) (fun h12 => ?_)
    have hB : ∀ (q0 : Int) (q1 : Int), fd_bl 5 (List.drop 13 fd_c95) [fd_R 199, a1, fd_I m, fd_I q0, fd_I q1] [] (fd_wyj T (T 204 0).toNat c (n + 1)) = some (true, [fd_R 199, a1, fd_I m, fd_I q0, fd_I q1], [fd_I 4, fd_I q0, fd_I q1, fd_R 210], (fd_wyj T (T 204 0).toNat c (n + 1))) := fun _ _ => rfl
    refine fd_u_blk 5 (C := fd_c95) (b := true) (L' := [fd_R 199, a1, fd_I m, fd_I ((v : Nat) : Int), fd_I ((n : Nat) : Int)]) (st' := [fd_I 4, fd_I ((v : Nat) : Int), fd_I ((n : Nat) : Int), fd_R 210]) (M' := (fd_wyj T (T 204 0).toNat c (n + 1))) rfl (hB ((v : Nat) : Int) ((n : Nat) : Int)) (j := 18) rfl (rfl) ?_
    clear hB
    have hB : ∀ (q0 : Int) (q1 : Int), fd_bl 1 (List.drop 18 fd_c95) [fd_R 199, a1, fd_I m, fd_I q0, fd_I q1] [fd_I 4, fd_I q0, fd_I q1, fd_R 210] (fd_wyj T (T 204 0).toNat c (n + 1)) = some (((fd_inb q0 2147483648 && fd_inb (4 - 1) 2147483647) && true), [fd_R 199, a1, fd_I m, fd_I q0, fd_I q1], [fd_I (q0 % 4), fd_I q1, fd_R 210], (fd_wyj T (T 204 0).toNat c (n + 1))) := fun _ _ => rfl
    refine fd_u_blk 1 (C := fd_c95) (b := ((fd_inb ((v : Nat) : Int) 2147483648 && fd_inb (4 - 1) 2147483647) && true)) (L' := [fd_R 199, a1, fd_I m, fd_I ((v : Nat) : Int), fd_I ((n : Nat) : Int)]) (st' := [fd_I (((v : Nat) : Int) % 4), fd_I ((n : Nat) : Int), fd_R 210]) (M' := (fd_wyj T (T 204 0).toNat c (n + 1))) rfl (hB ((v : Nat) : Int) ((n : Nat) : Int)) (j := 19) rfl (fd_bA (fd_bA (fd_bI (by omega) (by omega)) (fd_bI (by omega) (by omega))) (rfl)) ?_
    clear hB
    have hB : ∀ (q0 : Int) (q1 : Int) (q2 : Int), fd_bl 1 (List.drop 19 fd_c95) [fd_R 199, a1, fd_I m, fd_I q0, fd_I q1] [fd_I q2, fd_I q1, fd_R 210] (fd_wyj T (T 204 0).toNat c (n + 1)) = some ((fd_isA true (fd_wyj T (T 204 0).toNat c (n + 1)) 210 20 q1 && true), [fd_R 199, a1, fd_I m, fd_I q0, fd_I q1], [], (fd_up (fd_wyj T (T 204 0).toNat c (n + 1)) 210 (q1).toNat q2)) := fun _ _ _ => rfl
    refine fd_u_blk 1 (C := fd_c95) (b := (fd_isA true (fd_wyj T (T 204 0).toNat c (n + 1)) 210 20 ((n : Nat) : Int) && true)) (L' := [fd_R 199, a1, fd_I m, fd_I ((v : Nat) : Int), fd_I ((n : Nat) : Int)]) (st' := []) (M' := (fd_up (fd_wyj T (T 204 0).toNat c (n + 1)) 210 n (((v : Nat) : Int) % 4))) rfl (hB ((v : Nat) : Int) ((n : Nat) : Int) (((v : Nat) : Int) % 4)) (j := 20) rfl (fd_bA (fd_iA fd_sh210 (by omega) (by omega)) (rfl)) ?_
    clear hB
    have e5 : fd_up (fd_wyj T (T 204 0).toNat c (n + 1)) 210 n (((v : Nat) : Int) % 4) = fd_wyj T (T 204 0).toNat c n := by rw [hv]; exact fd_wyj_S T (T 204 0).toNat c n (by omega)
    rw [e5]
    have e9 : fd_wyj T (T 204 0).toNat c n 210 n = fd_dg (T 204 0).toNat c n := by unfold fd_wyj; rw [if_pos (show 210 = 210 ∧ n ≤ n ∧ n < (T 204 0).toNat by omega)]
    have q9 := fd_dg_rng (T 204 0).toNat c n
    have e8 : fd_wyj T (T 204 0).toNat c n 208 (6 + n) = T 208 (6 + n) := by rw [fd_wyj_fr (by decide)]
    have hB : ∀ (q0 : Int) (q1 : Int), fd_bl 2 (List.drop 20 fd_c95) [fd_R 199, a1, fd_I m, fd_I q0, fd_I q1] [] (fd_wyj T (T 204 0).toNat c n) = some (true, [fd_R 199, a1, fd_I m, fd_I q0, fd_I q1], [fd_I 4, fd_I q0], (fd_wyj T (T 204 0).toNat c n)) := fun _ _ => rfl
    refine fd_u_blk 2 (C := fd_c95) (b := true) (L' := [fd_R 199, a1, fd_I m, fd_I ((v : Nat) : Int), fd_I ((n : Nat) : Int)]) (st' := [fd_I 4, fd_I ((v : Nat) : Int)]) (M' := (fd_wyj T (T 204 0).toNat c n)) rfl (hB ((v : Nat) : Int) ((n : Nat) : Int)) (j := 22) rfl (rfl) ?_
    clear hB
    have hB : ∀ (q0 : Int) (q1 : Int), fd_bl 1 (List.drop 22 fd_c95) [fd_R 199, a1, fd_I m, fd_I q0, fd_I q1] [fd_I 4, fd_I q0] (fd_wyj T (T 204 0).toNat c n) = some (((fd_inb q0 2147483648 && fd_inb (4 - 1) 2147483647) && true), [fd_R 199, a1, fd_I m, fd_I q0, fd_I q1], [fd_I (q0 / 4)], (fd_wyj T (T 204 0).toNat c n)) := fun _ _ => rfl
    refine fd_u_blk 1 (C := fd_c95) (b := ((fd_inb ((v : Nat) : Int) 2147483648 && fd_inb (4 - 1) 2147483647) && true)) (L' := [fd_R 199, a1, fd_I m, fd_I ((v : Nat) : Int), fd_I ((n : Nat) : Int)]) (st' := [fd_I (((v : Nat) : Int) / 4)]) (M' := (fd_wyj T (T 204 0).toNat c n)) rfl (hB ((v : Nat) : Int) ((n : Nat) : Int)) (j := 23) rfl (fd_bA (fd_bA (fd_bI (by omega) (by omega)) (fd_bI (by omega) (by omega))) (rfl)) ?_
    clear hB
    have hB : ∀ (q0 : Int) (q1 : Int) (q2 : Int), fd_bl 12 (List.drop 23 fd_c95) [fd_R 199, a1, fd_I m, fd_I q0, fd_I q1] [fd_I q2] (fd_wyj T (T 204 0).toNat c n) = some ((fd_isA true (fd_wyj T (T 204 0).toNat c n) 210 20 q1 && (fd_isA true (fd_wyj T (T 204 0).toNat c n) 208 20 (6 + q1) && true)), [fd_R 199, a1, fd_I m, fd_I q2, fd_I q1], [fd_I ((fd_wyj T (T 204 0).toNat c n) 208 (6 + q1).toNat), fd_I ((fd_wyj T (T 204 0).toNat c n) 210 (q1).toNat), fd_I m], (fd_wyj T (T 204 0).toNat c n)) := fun _ _ _ => rfl
    refine fd_u_blk 12 (C := fd_c95) (b := (fd_isA true (fd_wyj T (T 204 0).toNat c n) 210 20 ((n : Nat) : Int) && (fd_isA true (fd_wyj T (T 204 0).toNat c n) 208 20 (6 + ((n : Nat) : Int)) && true))) (L' := [fd_R 199, a1, fd_I m, fd_I (((v : Nat) : Int) / 4), fd_I ((n : Nat) : Int)]) (st' := [fd_I ((fd_wyj T (T 204 0).toNat c n) 208 (6 + ((n : Nat) : Int)).toNat), fd_I ((fd_wyj T (T 204 0).toNat c n) 210 n), fd_I m]) (M' := (fd_wyj T (T 204 0).toNat c n)) rfl (hB ((v : Nat) : Int) ((n : Nat) : Int) (((v : Nat) : Int) / 4)) (j := 35) rfl (fd_bA (fd_iA fd_sh210 (by omega) (by omega)) (fd_bA (fd_iA fd_sh208 (by omega) (by omega)) (rfl))) ?_
    clear hB
    rw [show (6 + ((n : Nat) : Int)).toNat = 6 + n by omega]
    refine fd_u_br (C := fd_c95) (t := 38) (e := 36) (st' := [fd_I m]) (c := ¬ ((fd_wyj T (T 204 0).toNat c n) 210 n) = ((fd_wyj T (T 204 0).toNat c n) 208 (6 + n))) (b := (fd_rng ((fd_wyj T (T 204 0).toNat c n) 210 n) && fd_rng ((fd_wyj T (T 204 0).toNat c n) 208 (6 + n)))) rfl rfl rfl (fd_bA (fd_bR (by omega) (by omega)) (fd_bR (by omega) (by omega))) (fun h35 => ?_) (fun h35 => ?_)
    · have hB : ∀ (q0 : Int) (q1 : Int), fd_bl 4 (List.drop 38 fd_c95) [fd_R 199, a1, fd_I m, fd_I q0, fd_I q1] [fd_I m] (fd_wyj T (T 204 0).toNat c n) = some (true, [fd_R 199, a1, fd_I (m + 1), fd_I q0, fd_I (q1 + (-1))], [], (fd_wyj T (T 204 0).toNat c n)) := fun _ _ => rfl
      refine fd_u_blk 4 (C := fd_c95) (b := true) (L' := [fd_R 199, a1, fd_I (m + 1), fd_I (((v : Nat) : Int) / 4), fd_I (((n : Nat) : Int) + (-1))]) (st' := []) (M' := (fd_wyj T (T 204 0).toNat c n)) rfl (hB (((v : Nat) : Int) / 4) ((n : Nat) : Int)) (j := 42) rfl (rfl) ?_
      clear hB
      refine fd_u_jmp (C := fd_c95) (j := 11) (st' := []) rfl rfl (b := true) rfl rfl ?_
      rw [show ((n : Nat) : Int) + (-1) = ((n : Nat) : Int) - 1 by omega]
      have e6 : (m + 1) = fd_su (fd_ct T (T 204 0).toNat c) ((T 204 0).toNat - n) n := by
        rw [hm, show (T 204 0).toNat - n = ((T 204 0).toNat - (n + 1)) + 1 by omega]
        show _ = fd_ct T (T 204 0).toNat c n + fd_su (fd_ct T (T 204 0).toNat c) ((T 204 0).toNat - (n + 1)) (n + 1)
        unfold fd_ct
        rw [if_neg (by rw [← e9, ← e8]; exact h35)]
        omega
      have zi := ih (v / 4) ((m + 1)) (by omega) (by rw [hv, Nat.div_div_eq_div_mul, ← Nat.pow_succ]; congr 2; omega) e6 (by omega)
      exact zi
    · have hB : ∀ (q0 : Int) (q1 : Int), fd_bl 1 (List.drop 36 fd_c95) [fd_R 199, a1, fd_I m, fd_I q0, fd_I q1] [fd_I m] (fd_wyj T (T 204 0).toNat c n) = some (true, [fd_R 199, a1, fd_I m, fd_I q0, fd_I q1], [fd_I 0, fd_I m], (fd_wyj T (T 204 0).toNat c n)) := fun _ _ => rfl
      refine fd_u_blk 1 (C := fd_c95) (b := true) (L' := [fd_R 199, a1, fd_I m, fd_I (((v : Nat) : Int) / 4), fd_I ((n : Nat) : Int)]) (st' := [fd_I 0, fd_I m]) (M' := (fd_wyj T (T 204 0).toNat c n)) rfl (hB (((v : Nat) : Int) / 4) ((n : Nat) : Int)) (j := 37) rfl (rfl) ?_
      clear hB
      refine fd_u_jmp (C := fd_c95) (j := 39) (st' := [fd_I 0, fd_I m]) rfl rfl (b := true) rfl rfl ?_
      have hB : ∀ (q0 : Int) (q1 : Int), fd_bl 3 (List.drop 39 fd_c95) [fd_R 199, a1, fd_I m, fd_I q0, fd_I q1] [fd_I 0, fd_I m] (fd_wyj T (T 204 0).toNat c n) = some (true, [fd_R 199, a1, fd_I (m + 0), fd_I q0, fd_I (q1 + (-1))], [], (fd_wyj T (T 204 0).toNat c n)) := fun _ _ => rfl
      refine fd_u_blk 3 (C := fd_c95) (b := true) (L' := [fd_R 199, a1, fd_I (m + 0), fd_I (((v : Nat) : Int) / 4), fd_I (((n : Nat) : Int) + (-1))]) (st' := []) (M' := (fd_wyj T (T 204 0).toNat c n)) rfl (hB (((v : Nat) : Int) / 4) ((n : Nat) : Int)) (j := 42) rfl (rfl) ?_
      clear hB
      refine fd_u_jmp (C := fd_c95) (j := 11) (st' := []) rfl rfl (b := true) rfl rfl ?_
      rw [show ((n : Nat) : Int) + (-1) = ((n : Nat) : Int) - 1 by omega]
      have e6 : (m + 0) = fd_su (fd_ct T (T 204 0).toNat c) ((T 204 0).toNat - n) n := by
        rw [hm, show (T 204 0).toNat - n = ((T 204 0).toNat - (n + 1)) + 1 by omega]
        show _ = fd_ct T (T 204 0).toNat c n + fd_su (fd_ct T (T 204 0).toNat c) ((T 204 0).toNat - (n + 1)) (n + 1)
        unfold fd_ct
        rw [if_pos (by rw [← e9, ← e8]; exact Classical.not_not.mp h35)]
        omega
      have zi := ih (v / 4) ((m + 0)) (by omega) (by rw [hv, Nat.div_div_eq_div_mul, ← Nat.pow_succ]; congr 2; omega) e6 (by omega)
      exact zi

theorem fd_r_takeWays (T : fd_M) (hP : fd_RP T) (hS : fd_RS T) (c : Nat) (hc : c < 2147483648) : fd_call 0 95 [fd_R 199, fd_I ((c : Nat) : Int)] T (some (fd_I (fd_su (fd_ct T (T 204 0).toNat c) (T 204 0).toNat 0))) (fd_wy T (T 204 0).toNat c) := by
  refine fd_u_in (L := [fd_R 199, fd_I ((c : Nat) : Int), fd_R 1003, fd_R 1003, fd_R 1003]) rfl ?_
  obtain ⟨g0, g1, g2, g3, g4, g5⟩ := id hP
  have hB : ∀ (q0 : Int), fd_bl 11 (List.drop 0 fd_c95) [fd_R 199, fd_I q0, fd_R 1003, fd_R 1003, fd_R 1003] [] T = some (true, [fd_R 199, fd_I q0, fd_I 0, fd_I q0, fd_I ((T 204 0) - 1)], [], T) := fun _ => rfl
  refine fd_u_blk 11 (C := fd_c95) (b := true) (L' := [fd_R 199, fd_I ((c : Nat) : Int), fd_I 0, fd_I ((c : Nat) : Int), fd_I ((T 204 0) - 1)]) (st' := []) (M' := T) rfl (hB ((c : Nat) : Int)) (j := 11) rfl (rfl) ?_
  clear hB
  have z := fd_l_takeWays T hP hS c hc (fd_I (c : Int)) (T 204 0).toNat c 0 (Nat.le_refl _) (by rw [Nat.sub_self, Nat.pow_zero, Nat.div_one]) (by rw [Nat.sub_self]; rfl) hc
  rw [fd_wyj_D, show (((T 204 0).toNat : Nat) : Int) = T 204 0 by omega] at z
  exact z

theorem fd_l_codes (M : fd_M) (hP : fd_RP M) : ∀ (n : Nat) (k : Nat) (hk : (k : Int) + n = M 204 0), fd_run 0 96 4 [fd_R 199, fd_I ((4 : Int) ^ k), fd_I ((k : Nat) : Int)] [] M (some (fd_I ((4 : Int) ^ (M 204 0).toNat))) M := by
  obtain ⟨g0, g1, g2, g3, g4, g5⟩ := id hP
  intro n
  induction n with
  | zero =>
    intro k hk
    have hB : ∀ (q0 : Int), fd_bl 5 (List.drop 4 fd_c96) [fd_R 199, fd_I ((4 : Int) ^ k), fd_I q0] [] M = some (true, [fd_R 199, fd_I ((4 : Int) ^ k), fd_I q0], [fd_I (M 204 0), fd_I q0], M) := fun _ => rfl
    refine fd_u_blk 5 (C := fd_c96) (b := true) (L' := [fd_R 199, fd_I ((4 : Int) ^ k), fd_I ((k : Nat) : Int)]) (st' := [fd_I (M 204 0), fd_I ((k : Nat) : Int)]) (M' := M) rfl (hB ((k : Nat) : Int)) (j := 9) rfl (rfl) ?_
    clear hB
    refine fd_u_br (C := fd_c96) (t := 16) (e := 10) (st' := []) (c := (M 204 0) ≤ ((k : Nat) : Int)) (b := (fd_rng ((k : Nat) : Int) && fd_rng (M 204 0))) rfl rfl rfl (fd_bA (fd_bR (by omega) (by omega)) (fd_bR (by omega) (by omega))) (fun h9 => ?_) (fun h9 => absurd h9 (by omega))
    have hB : ∀ (q0 : Int), fd_bl 1 (List.drop 16 fd_c96) [fd_R 199, fd_I ((4 : Int) ^ k), fd_I q0] [] M = some (true, [fd_R 199, fd_I ((4 : Int) ^ k), fd_I q0], [fd_I ((4 : Int) ^ k)], M) := fun _ => rfl
    refine fd_u_blk 1 (C := fd_c96) (b := true) (L' := [fd_R 199, fd_I ((4 : Int) ^ k), fd_I ((k : Nat) : Int)]) (st' := [fd_I ((4 : Int) ^ k)]) (M' := M) rfl (hB ((k : Nat) : Int)) (j := 17) rfl (rfl) ?_
    clear hB
    refine fd_u_ret (C := fd_c96) (b := true) (r' := some (fd_I ((4 : Int) ^ k))) rfl rfl rfl (rfl) ?_ ?_
    · rw [show (M 204 0).toNat = k by omega]
    · rfl
  | succ n ih =>
    intro k hk
    have hB : ∀ (q0 : Int), fd_bl 5 (List.drop 4 fd_c96) [fd_R 199, fd_I ((4 : Int) ^ k), fd_I q0] [] M = some (true, [fd_R 199, fd_I ((4 : Int) ^ k), fd_I q0], [fd_I (M 204 0), fd_I q0], M) := fun _ => rfl
    refine fd_u_blk 5 (C := fd_c96) (b := true) (L' := [fd_R 199, fd_I ((4 : Int) ^ k), fd_I ((k : Nat) : Int)]) (st' := [fd_I (M 204 0), fd_I ((k : Nat) : Int)]) (M' := M) rfl (hB ((k : Nat) : Int)) (j := 9) rfl (rfl) ?_
    clear hB
    refine fd_u_br (C := fd_c96) (t := 16) (e := 10) (st' := []) (c := (M 204 0) ≤ ((k : Nat) : Int)) (b := (fd_rng ((k : Nat) : Int) && fd_rng (M 204 0))) rfl rfl rfl (fd_bA (fd_bR (by omega) (by omega)) (fd_bR (by omega) (by omega))) (fun h9 => absurd h9 (by omega)) (fun h9 => ?_)
    have hB : ∀ (q0 : Int), fd_bl 5 (List.drop 10 fd_c96) [fd_R 199, fd_I ((4 : Int) ^ k), fd_I q0] [] M = some (true, [fd_R 199, fd_I (((4 : Int) ^ k) * 4), fd_I (q0 + 1)], [], M) := fun _ => rfl
    refine fd_u_blk 5 (C := fd_c96) (b := true) (L' := [fd_R 199, fd_I (((4 : Int) ^ k) * 4), fd_I (((k + 1) : Nat) : Int)]) (st' := []) (M' := M) rfl (hB ((k : Nat) : Int)) (j := 15) rfl (rfl) ?_
    clear hB
    refine fd_u_jmp (C := fd_c96) (j := 4) (st' := []) rfl rfl (b := true) rfl rfl ?_
    have zi := ih (k + 1) (by omega)
    rw [Int.pow_succ] at zi
    exact zi

theorem fd_r_codes (M : fd_M) (hP : fd_RP M) : fd_call 0 96 [fd_R 199] M (some (fd_I ((4 : Int) ^ (M 204 0).toNat))) M := by
  refine fd_u_in (L := [fd_R 199, fd_R 1003, fd_R 1003]) rfl ?_
  obtain ⟨g0, g1, g2, g3, g4, g5⟩ := id hP
  refine fd_u_blk 4 (C := fd_c96) (b := true) (L' := [fd_R 199, fd_I 1, fd_I 0]) (st' := []) (M' := M) rfl rfl (j := 4) rfl (rfl) ?_
  exact fd_l_codes M hP (M 204 0).toNat 0 (by omega)

def fd_hw (M : fd_M) (d : Nat) : Bool := decide (fd_vR M d (M 210 d))
abbrev fd_ahw (M : fd_M) : Bool := fd_all (fd_hw M) (M 204 0).toNat
theorem fd_l_ahw (M : fd_M) (hP : fd_RP M) (hS : fd_RS M) (hW : fd_RW M) : ∀ (n : Nat) (k : Nat) (hk : (k : Int) + n = M 204 0), fd_run 4 93 4 [fd_R 199, fd_I (fd_bi (fd_all (fd_hw M) k = true)), fd_I ((k : Nat) : Int)] [] M (some (fd_I (fd_bi (fd_ahw M = true)))) M := by
  obtain ⟨g0, g1, g2, g3, g4, g5⟩ := id hP
  intro n
  induction n with
  | zero =>
    intro k hk
    have hB : ∀ (q0 : Int), fd_bl 5 (List.drop 4 fd_c93) [fd_R 199, fd_I (fd_bi (fd_all (fd_hw M) k = true)), fd_I q0] [] M = some (true, [fd_R 199, fd_I (fd_bi (fd_all (fd_hw M) k = true)), fd_I q0], [fd_I (M 204 0), fd_I q0], M) := fun _ => rfl
    refine fd_u_blk 5 (C := fd_c93) (b := true) (L' := [fd_R 199, fd_I (fd_bi (fd_all (fd_hw M) k = true)), fd_I ((k : Nat) : Int)]) (st' := [fd_I (M 204 0), fd_I ((k : Nat) : Int)]) (M' := M) rfl (hB ((k : Nat) : Int)) (j := 9) rfl (rfl) ?_
    clear hB
    refine fd_u_br (C := fd_c93) (t := 22) (e := 10) (st' := []) (c := (M 204 0) ≤ ((k : Nat) : Int)) (b := (fd_rng ((k : Nat) : Int) && fd_rng (M 204 0))) rfl rfl rfl (fd_bA (fd_bR (by omega) (by omega)) (fd_bR (by omega) (by omega))) (fun h9 => ?_) (fun h9 => absurd h9 (by omega))
    have hB : ∀ (q0 : Int), fd_bl 1 (List.drop 22 fd_c93) [fd_R 199, fd_I (fd_bi (fd_all (fd_hw M) k = true)), fd_I q0] [] M = some (true, [fd_R 199, fd_I (fd_bi (fd_all (fd_hw M) k = true)), fd_I q0], [fd_I (fd_bi (fd_all (fd_hw M) k = true))], M) := fun _ => rfl
    refine fd_u_blk 1 (C := fd_c93) (b := true) (L' := [fd_R 199, fd_I (fd_bi (fd_all (fd_hw M) k = true)), fd_I ((k : Nat) : Int)]) (st' := [fd_I (fd_bi (fd_all (fd_hw M) k = true))]) (M' := M) rfl (hB ((k : Nat) : Int)) (j := 23) rfl (rfl) ?_
    clear hB
    refine fd_u_ret (C := fd_c93) (b := (fd_inb (fd_bi (fd_all (fd_hw M) k = true)) 2)) (r' := some (fd_I (fd_bi (fd_all (fd_hw M) k = true)))) rfl rfl rfl (fd_biI) ?_ ?_
    · unfold fd_ahw; rw [show (M 204 0).toNat = k by omega]
    · rfl
  | succ n ih =>
    intro k hk
    have hB : ∀ (q0 : Int), fd_bl 5 (List.drop 4 fd_c93) [fd_R 199, fd_I (fd_bi (fd_all (fd_hw M) k = true)), fd_I q0] [] M = some (true, [fd_R 199, fd_I (fd_bi (fd_all (fd_hw M) k = true)), fd_I q0], [fd_I (M 204 0), fd_I q0], M) := fun _ => rfl
    refine fd_u_blk 5 (C := fd_c93) (b := true) (L' := [fd_R 199, fd_I (fd_bi (fd_all (fd_hw M) k = true)), fd_I ((k : Nat) : Int)]) (st' := [fd_I (M 204 0), fd_I ((k : Nat) : Int)]) (M' := M) rfl (hB ((k : Nat) : Int)) (j := 9) rfl (rfl) ?_
    clear hB
    refine fd_u_br (C := fd_c93) (t := 22) (e := 10) (st' := []) (c := (M 204 0) ≤ ((k : Nat) : Int)) (b := (fd_rng ((k : Nat) : Int) && fd_rng (M 204 0))) rfl rfl rfl (fd_bA (fd_bR (by omega) (by omega)) (fd_bR (by omega) (by omega))) (fun h9 => absurd h9 (by omega)) (fun h9 => ?_)
    have hB : ∀ (q0 : Int), fd_bl 1 (List.drop 10 fd_c93) [fd_R 199, fd_I (fd_bi (fd_all (fd_hw M) k = true)), fd_I q0] [] M = some (true, [fd_R 199, fd_I (fd_bi (fd_all (fd_hw M) k = true)), fd_I q0], [fd_I (fd_bi (fd_all (fd_hw M) k = true))], M) := fun _ => rfl
    refine fd_u_blk 1 (C := fd_c93) (b := true) (L' := [fd_R 199, fd_I (fd_bi (fd_all (fd_hw M) k = true)), fd_I ((k : Nat) : Int)]) (st' := [fd_I (fd_bi (fd_all (fd_hw M) k = true))]) (M' := M) rfl (hB ((k : Nat) : Int)) (j := 11) rfl (rfl) ?_
    clear hB
    refine fd_u_br (C := fd_c93) (t := 18) (e := 12) (st' := []) (c := (fd_bi (fd_all (fd_hw M) k = true)) = 0) (b := (fd_rng (fd_bi (fd_all (fd_hw M) k = true)))) rfl rfl rfl (fd_biR) (fun h11 => ?_) (fun h11 => ?_)
    · have h11 := fd_biF.mp h11
      have hB : ∀ (q0 : Int), fd_bl 3 (List.drop 18 fd_c93) [fd_R 199, fd_I (fd_bi (fd_all (fd_hw M) k = true)), fd_I q0] [] M = some (true, [fd_R 199, fd_I 0, fd_I (q0 + 1)], [], M) := fun _ => rfl
      refine fd_u_blk 3 (C := fd_c93) (b := true) (L' := [fd_R 199, fd_I 0, fd_I (((k + 1) : Nat) : Int)]) (st' := []) (M' := M) rfl (hB ((k : Nat) : Int)) (j := 21) rfl (rfl) ?_
      clear hB
      refine fd_u_jmp (C := fd_c93) (j := 4) (st' := []) rfl rfl (b := true) rfl rfl ?_
      have e5 : (0 : Int) = fd_bi (fd_all (fd_hw M) (k + 1) = true) := by
        refine (fd_bi0 (fun q => ?_)).symm
        have q2 : (fd_all (fd_hw M) k && fd_hw M k) = true := q
        rw [Bool.and_eq_true] at q2
        first | exact h11 q2.1 | exact h15 (of_decide_eq_true q2.2)
      rw [e5]
      exact ih (k + 1) (by omega)
    · have h11 := fd_biT.mp h11
      have hB : ∀ (q0 : Int), fd_bl 2 (List.drop 12 fd_c93) [fd_R 199, fd_I (fd_bi (fd_all (fd_hw M) k = true)), fd_I q0] [] M = some (true, [fd_R 199, fd_I (fd_bi (fd_all (fd_hw M) k = true)), fd_I q0], [fd_I q0, fd_R 199], M) := fun _ => rfl
      refine fd_u_blk 2 (C := fd_c93) (b := true) (L' := [fd_R 199, fd_I (fd_bi (fd_all (fd_hw M) k = true)), fd_I ((k : Nat) : Int)]) (st' := [fd_I ((k : Nat) : Int), fd_R 199]) (M' := M) rfl (hB ((k : Nat) : Int)) (j := 14) rfl (rfl) ?_
      clear hB
      refine fd_u_call (C := fd_c93) (d0 := 3) (mid := 78) (np := 2) (args := [fd_R 199, fd_I ((k : Nat) : Int)]) (r1 := some (fd_I (fd_bi (fd_vR M k (M 210 k))))) (M1 := M) (st' := [fd_I (fd_bi (fd_vR M k (M 210 k)))]) rfl rfl rfl rfl rfl rfl (rfl) (fd_r_hasWay M hP hS hW k (by omega)) rfl (by omega) ?_
      refine fd_u_br (C := fd_c93) (t := 18) (e := 16) (st' := []) (c := (fd_bi (fd_vR M k (M 210 k))) = 0) (b := (fd_rng (fd_bi (fd_vR M k (M 210 k))))) rfl rfl rfl (fd_biR) (fun h15 => ?_) (fun h15 => ?_)
      · have h15 := fd_biF.mp h15
        have hB : ∀ (q0 : Int), fd_bl 3 (List.drop 18 fd_c93) [fd_R 199, fd_I (fd_bi (fd_all (fd_hw M) k = true)), fd_I q0] [] M = some (true, [fd_R 199, fd_I 0, fd_I (q0 + 1)], [], M) := fun _ => rfl
        refine fd_u_blk 3 (C := fd_c93) (b := true) (L' := [fd_R 199, fd_I 0, fd_I (((k + 1) : Nat) : Int)]) (st' := []) (M' := M) rfl (hB ((k : Nat) : Int)) (j := 21) rfl (rfl) ?_
        clear hB
        refine fd_u_jmp (C := fd_c93) (j := 4) (st' := []) rfl rfl (b := true) rfl rfl ?_
        have e5 : (0 : Int) = fd_bi (fd_all (fd_hw M) (k + 1) = true) := by
          refine (fd_bi0 (fun q => ?_)).symm
          have q2 : (fd_all (fd_hw M) k && fd_hw M k) = true := q
          rw [Bool.and_eq_true] at q2
          first | exact h11 q2.1 | exact h15 (of_decide_eq_true q2.2)
        rw [e5]
        exact ih (k + 1) (by omega)
      · have h15 := fd_biT.mp h15
        have hB : ∀ (q0 : Int), fd_bl 1 (List.drop 16 fd_c93) [fd_R 199, fd_I (fd_bi (fd_all (fd_hw M) k = true)), fd_I q0] [] M = some (true, [fd_R 199, fd_I (fd_bi (fd_all (fd_hw M) k = true)), fd_I q0], [fd_I 1], M) := fun _ => rfl
        refine fd_u_blk 1 (C := fd_c93) (b := true) (L' := [fd_R 199, fd_I (fd_bi (fd_all (fd_hw M) k = true)), fd_I ((k : Nat) : Int)]) (st' := [fd_I 1]) (M' := M) rfl (hB ((k : Nat) : Int)) (j := 17) rfl (rfl) ?_
        clear hB
        refine fd_u_jmp (C := fd_c93) (j := 19) (st' := [fd_I 1]) rfl rfl (b := true) rfl rfl ?_
        have hB : ∀ (q0 : Int), fd_bl 2 (List.drop 19 fd_c93) [fd_R 199, fd_I (fd_bi (fd_all (fd_hw M) k = true)), fd_I q0] [fd_I 1] M = some (true, [fd_R 199, fd_I 1, fd_I (q0 + 1)], [], M) := fun _ => rfl
        refine fd_u_blk 2 (C := fd_c93) (b := true) (L' := [fd_R 199, fd_I 1, fd_I (((k + 1) : Nat) : Int)]) (st' := []) (M' := M) rfl (hB ((k : Nat) : Int)) (j := 21) rfl (rfl) ?_
        clear hB
        refine fd_u_jmp (C := fd_c93) (j := 4) (st' := []) rfl rfl (b := true) rfl rfl ?_
        have e5 : (1 : Int) = fd_bi (fd_all (fd_hw M) (k + 1) = true) := by
          refine (fd_bi1 ?_).symm
          show (fd_all (fd_hw M) k && fd_hw M k) = true
          rw [h11, Bool.true_and]
          exact decide_eq_true h15
        rw [e5]
        exact ih (k + 1) (by omega)

theorem fd_r_ahw (M : fd_M) (hP : fd_RP M) (hS : fd_RS M) (hW : fd_RW M) : fd_call 4 93 [fd_R 199] M (some (fd_I (fd_bi (fd_ahw M = true)))) M := by
  refine fd_u_in (L := [fd_R 199, fd_R 1003, fd_R 1003]) rfl ?_
  obtain ⟨g0, g1, g2, g3, g4, g5⟩ := id hP
  refine fd_u_blk 4 (C := fd_c93) (b := true) (L' := [fd_R 199, fd_I 1, fd_I 0]) (st' := []) (M' := M) rfl rfl (j := 4) rfl (rfl) ?_
  exact fd_l_ahw M hP hS hW (M 204 0).toNat 0 (by omega)


/-! the reference: odds and mean -/
def fd_DS (T : fd_M) (s : Int) : Int := fd_sum (fd_dS T s) (T 204 0).toNat
def fd_sT (T : fd_M) (x l : Int) (s : Nat) : Int := if l < 0 then fd_wt (s : Int) x (T 204 0).toNat * fd_DS T (s : Int) else if l ≤ fd_DS T (s : Int) then fd_wt (s : Int) x (T 204 0).toNat else 0
theorem fd_DS_rng {T : fd_M} (hP : fd_RP T) (s : Int) : 0 ≤ fd_DS T s ∧ fd_DS T s ≤ 108 := by
  have g := hP.2.2.1
  have z := fd_sumR (f := fd_dS T s) (B := 18) (T 204 0).toNat (fun j _ => fd_dS_rng hP s j)
  unfold fd_DS
  omega
theorem fd_l_sumI (T : fd_M) (hP : fd_RP T) (hS : fd_RS T) (hW : fd_RW T) (s : Int) (hs : 0 ≤ s ∧ s < 64) (x v : Int) (a2 a3 : fd_V) (Q : Option fd_V → fd_M → Prop) (cont : ∀ u, fd_runE 6 103 41 [fd_R 199, fd_I x, a2, a3, fd_I s, fd_I (fd_wt s x (T 204 0).toNat), u] [] (fd_up T 199 19 v) Q) : ∀ (n : Nat) (k : Nat) (hk : (k : Int) + n = T 204 0), fd_runE 6 103 18 [fd_R 199, fd_I x, a2, a3, fd_I s, fd_I (fd_wt s x k), fd_I ((k : Nat) : Int)] [] (fd_up T 199 19 v) (Q) := by
  obtain ⟨g0, g1, g2, g3, g4, g5⟩ := id hP
  intro n
  induction n with
  | zero =>
    intro k hk
    have hB : ∀ (q0 : Int), fd_bl 5 (List.drop 18 fd_c103) [fd_R 199, fd_I x, a2, a3, fd_I s, fd_I (fd_wt s x k), fd_I q0] [] (fd_up T 199 19 v) = some (true, [fd_R 199, fd_I x, a2, a3, fd_I s, fd_I (fd_wt s x k), fd_I q0], [fd_I (T 204 0), fd_I q0], (fd_up T 199 19 v)) := fun _ => rfl
    refine fd_e_blk 5 (C := fd_c103) (b := true) (L' := [fd_R 199, fd_I x, a2, a3, fd_I s, fd_I (fd_wt s x k), fd_I ((k : Nat) : Int)]) (st' := [fd_I (T 204 0), fd_I ((k : Nat) : Int)]) (M' := (fd_up T 199 19 v)) rfl (hB ((k : Nat) : Int)) (j := 23) rfl (rfl) ?_
    clear hB
    refine fd_e_br (C := fd_c103) (t := 41) (e := 24) (st' := []) (c := (T 204 0) ≤ ((k : Nat) : Int)) (b := (fd_rng ((k : Nat) : Int) && fd_rng (T 204 0))) rfl rfl rfl (fd_bA (fd_bR (by omega) (by omega)) (fd_bR (by omega) (by omega))) (fun h23 => ?_) (fun h23 => absurd h23 (by omega))
    rw [show k = (T 204 0).toNat by omega]
    exact cont _
  | succ n ih =>
    intro k hk
    have e1 := fd_and1 (fd_div_rng (a := s) k (by omega))
    have hB : ∀ (q0 : Int), fd_bl 5 (List.drop 18 fd_c103) [fd_R 199, fd_I x, a2, a3, fd_I s, fd_I (fd_wt s x k), fd_I q0] [] (fd_up T 199 19 v) = some (true, [fd_R 199, fd_I x, a2, a3, fd_I s, fd_I (fd_wt s x k), fd_I q0], [fd_I (T 204 0), fd_I q0], (fd_up T 199 19 v)) := fun _ => rfl
    refine fd_e_blk 5 (C := fd_c103) (b := true) (L' := [fd_R 199, fd_I x, a2, a3, fd_I s, fd_I (fd_wt s x k), fd_I ((k : Nat) : Int)]) (st' := [fd_I (T 204 0), fd_I ((k : Nat) : Int)]) (M' := (fd_up T 199 19 v)) rfl (hB ((k : Nat) : Int)) (j := 23) rfl (rfl) ?_
    clear hB
    refine fd_e_br (C := fd_c103) (t := 41) (e := 24) (st' := []) (c := (T 204 0) ≤ ((k : Nat) : Int)) (b := (fd_rng ((k : Nat) : Int) && fd_rng (T 204 0))) rfl rfl rfl (fd_bA (fd_bR (by omega) (by omega)) (fd_bR (by omega) (by omega))) (fun h23 => absurd h23 (by omega)) (fun h23 => ?_)
    have hB : ∀ (q0 : Int), fd_bl 7 (List.drop 24 fd_c103) [fd_R 199, fd_I x, a2, a3, fd_I s, fd_I (fd_wt s x k), fd_I q0] [] (fd_up T 199 19 v) = some (((fd_inb s 2147483648 && fd_inb q0 32) && true), [fd_R 199, fd_I x, a2, a3, fd_I s, fd_I (fd_wt s x k), fd_I q0], [fd_I 1, fd_I (fd_and (s / 2 ^ (q0).toNat) 1), fd_I (fd_wt s x k)], (fd_up T 199 19 v)) := fun _ => rfl
    refine fd_e_blk 7 (C := fd_c103) (b := ((fd_inb s 2147483648 && fd_inb ((k : Nat) : Int) 32) && true)) (L' := [fd_R 199, fd_I x, a2, a3, fd_I s, fd_I (fd_wt s x k), fd_I ((k : Nat) : Int)]) (st' := [fd_I 1, fd_I (fd_and (s / 2 ^ k) 1), fd_I (fd_wt s x k)]) (M' := (fd_up T 199 19 v)) rfl (hB ((k : Nat) : Int)) (j := 31) rfl (fd_bA (fd_bA (fd_bI (by omega) (by omega)) (fd_bI (by omega) (by omega))) (rfl)) ?_
    clear hB
    refine fd_e_br (C := fd_c103) (t := 34) (e := 32) (st' := [fd_I (fd_wt s x k)]) (c := ¬ (fd_and (s / 2 ^ k) 1) = 1) (b := (fd_rng (fd_and (s / 2 ^ k) 1) && fd_rng 1)) rfl rfl rfl (fd_bA (fd_bR (by omega) (by omega)) (fd_bR (by omega) (by omega))) (fun h31 => ?_) (fun h31 => ?_)
    · have hB : ∀ (q0 : Int), fd_bl 6 (List.drop 34 fd_c103) [fd_R 199, fd_I x, a2, a3, fd_I s, fd_I (fd_wt s x k), fd_I q0] [fd_I (fd_wt s x k)] (fd_up T 199 19 v) = some (true, [fd_R 199, fd_I x, a2, a3, fd_I s, fd_I ((fd_wt s x k) * (10 - x)), fd_I (q0 + 1)], [], (fd_up T 199 19 v)) := fun _ => rfl
      refine fd_e_blk 6 (C := fd_c103) (b := true) (L' := [fd_R 199, fd_I x, a2, a3, fd_I s, fd_I ((fd_wt s x k) * (10 - x)), fd_I (((k + 1) : Nat) : Int)]) (st' := []) (M' := (fd_up T 199 19 v)) rfl (hB ((k : Nat) : Int)) (j := 40) rfl (rfl) ?_
      clear hB
      refine fd_e_jmp (C := fd_c103) (j := 18) (st' := []) rfl rfl (b := true) rfl rfl ?_
      have e5 : ((fd_wt s x k) * (10 - x)) = (fd_wt s x (k + 1)) := by
        show _ = fd_wt s x k * (if s / 2 ^ k % 2 = 1 then x else 10 - x)
        rw [if_neg (show ¬ s / 2 ^ k % 2 = 1 by omega)]
      rw [e5]
      exact ih (k + 1) (by omega)
    · have hB : ∀ (q0 : Int), fd_bl 1 (List.drop 32 fd_c103) [fd_R 199, fd_I x, a2, a3, fd_I s, fd_I (fd_wt s x k), fd_I q0] [fd_I (fd_wt s x k)] (fd_up T 199 19 v) = some (true, [fd_R 199, fd_I x, a2, a3, fd_I s, fd_I (fd_wt s x k), fd_I q0], [fd_I x, fd_I (fd_wt s x k)], (fd_up T 199 19 v)) := fun _ => rfl
      refine fd_e_blk 1 (C := fd_c103) (b := true) (L' := [fd_R 199, fd_I x, a2, a3, fd_I s, fd_I (fd_wt s x k), fd_I ((k : Nat) : Int)]) (st' := [fd_I x, fd_I (fd_wt s x k)]) (M' := (fd_up T 199 19 v)) rfl (hB ((k : Nat) : Int)) (j := 33) rfl (rfl) ?_
      clear hB
      refine fd_e_jmp (C := fd_c103) (j := 37) (st' := [fd_I x, fd_I (fd_wt s x k)]) rfl rfl (b := true) rfl rfl ?_
      have hB : ∀ (q0 : Int), fd_bl 3 (List.drop 37 fd_c103) [fd_R 199, fd_I x, a2, a3, fd_I s, fd_I (fd_wt s x k), fd_I q0] [fd_I x, fd_I (fd_wt s x k)] (fd_up T 199 19 v) = some (true, [fd_R 199, fd_I x, a2, a3, fd_I s, fd_I ((fd_wt s x k) * x), fd_I (q0 + 1)], [], (fd_up T 199 19 v)) := fun _ => rfl
      refine fd_e_blk 3 (C := fd_c103) (b := true) (L' := [fd_R 199, fd_I x, a2, a3, fd_I s, fd_I ((fd_wt s x k) * x), fd_I (((k + 1) : Nat) : Int)]) (st' := []) (M' := (fd_up T 199 19 v)) rfl (hB ((k : Nat) : Int)) (j := 40) rfl (rfl) ?_
      clear hB
      refine fd_e_jmp (C := fd_c103) (j := 18) (st' := []) rfl rfl (b := true) rfl rfl ?_
      have e5 : ((fd_wt s x k) * x) = (fd_wt s x (k + 1)) := by
        show _ = fd_wt s x k * (if s / 2 ^ k % 2 = 1 then x else 10 - x)
        rw [if_pos (show s / 2 ^ k % 2 = 1 by omega)]
      rw [e5]
      exact ih (k + 1) (by omega)

theorem fd_l_sumO (T : fd_M) (hP : fd_RP T) (hS : fd_RS T) (hW : fd_RW T) (A : Nat) (hA : A ≤ 64) (eA : (2 : Int) ^ (T 204 0).toNat = (A : Int)) (x l : Int) (hl : -1 ≤ l ∧ l ≤ 99) : ∀ (n : Nat) (k : Nat) (v : Int) (u5 u6 : fd_V) (hk : k + n = A) (hv : 0 ≤ v ∧ v < 64), fd_runE 6 103 6 [fd_R 199, fd_I x, fd_I l, fd_I (fd_sum (fd_sT T x l) k), fd_I ((k : Nat) : Int), u5, u6] [] (fd_up T 199 19 v) (fun r R => r = some (fd_I (fd_sum (fd_sT T x l) A)) ∧ fd_smR T R) := by
  obtain ⟨g0, g1, g2, g3, g4, g5⟩ := id hP
  intro n
  induction n with
  | zero =>
    intro k v u5 u6 hk hv
    have hB : ∀ (q0 : Int), fd_bl 7 (List.drop 6 fd_c103) [fd_R 199, fd_I x, fd_I l, fd_I (fd_sum (fd_sT T x l) k), fd_I q0, u5, u6] [] (fd_up T 199 19 v) = some ((fd_inb (T 204 0) 32 && true), [fd_R 199, fd_I x, fd_I l, fd_I (fd_sum (fd_sT T x l) k), fd_I q0, u5, u6], [fd_I (2 ^ (T 204 0).toNat), fd_I q0], (fd_up T 199 19 v)) := fun _ => rfl
    refine fd_e_blk 7 (C := fd_c103) (b := (fd_inb (T 204 0) 32 && true)) (L' := [fd_R 199, fd_I x, fd_I l, fd_I (fd_sum (fd_sT T x l) k), fd_I ((k : Nat) : Int), u5, u6]) (st' := [fd_I (2 ^ (T 204 0).toNat), fd_I ((k : Nat) : Int)]) (M' := (fd_up T 199 19 v)) rfl (hB ((k : Nat) : Int)) (j := 13) rfl (fd_bA (fd_bI (by omega) (by omega)) (rfl)) ?_
    clear hB
    refine fd_e_br (C := fd_c103) (t := 64) (e := 14) (st' := []) (c := (2 ^ (T 204 0).toNat) ≤ ((k : Nat) : Int)) (b := (fd_rng ((k : Nat) : Int) && fd_rng (2 ^ (T 204 0).toNat))) rfl rfl rfl (fd_bA (fd_bR (by omega) (by omega)) (fd_bR (by omega) (by omega))) (fun h13 => ?_) (fun h13 => absurd h13 (by omega))
    have hB : ∀ (q0 : Int), fd_bl 1 (List.drop 64 fd_c103) [fd_R 199, fd_I x, fd_I l, fd_I (fd_sum (fd_sT T x l) k), fd_I q0, u5, u6] [] (fd_up T 199 19 v) = some (true, [fd_R 199, fd_I x, fd_I l, fd_I (fd_sum (fd_sT T x l) k), fd_I q0, u5, u6], [fd_I (fd_sum (fd_sT T x l) k)], (fd_up T 199 19 v)) := fun _ => rfl
    refine fd_e_blk 1 (C := fd_c103) (b := true) (L' := [fd_R 199, fd_I x, fd_I l, fd_I (fd_sum (fd_sT T x l) k), fd_I ((k : Nat) : Int), u5, u6]) (st' := [fd_I (fd_sum (fd_sT T x l) k)]) (M' := (fd_up T 199 19 v)) rfl (hB ((k : Nat) : Int)) (j := 65) rfl (rfl) ?_
    clear hB
    refine fd_e_ret (C := fd_c103) (b := true) (r' := some (fd_I (fd_sum (fd_sT T x l) k))) rfl rfl rfl (rfl) ?_
    exact ⟨by rw [show A = k by omega], fd_smR_o T v⟩
  | succ n ih =>
    intro k v u5 u6 hk hv
    have hB : ∀ (q0 : Int), fd_bl 7 (List.drop 6 fd_c103) [fd_R 199, fd_I x, fd_I l, fd_I (fd_sum (fd_sT T x l) k), fd_I q0, u5, u6] [] (fd_up T 199 19 v) = some ((fd_inb (T 204 0) 32 && true), [fd_R 199, fd_I x, fd_I l, fd_I (fd_sum (fd_sT T x l) k), fd_I q0, u5, u6], [fd_I (2 ^ (T 204 0).toNat), fd_I q0], (fd_up T 199 19 v)) := fun _ => rfl
    refine fd_e_blk 7 (C := fd_c103) (b := (fd_inb (T 204 0) 32 && true)) (L' := [fd_R 199, fd_I x, fd_I l, fd_I (fd_sum (fd_sT T x l) k), fd_I ((k : Nat) : Int), u5, u6]) (st' := [fd_I (2 ^ (T 204 0).toNat), fd_I ((k : Nat) : Int)]) (M' := (fd_up T 199 19 v)) rfl (hB ((k : Nat) : Int)) (j := 13) rfl (fd_bA (fd_bI (by omega) (by omega)) (rfl)) ?_
    clear hB
    refine fd_e_br (C := fd_c103) (t := 64) (e := 14) (st' := []) (c := (2 ^ (T 204 0).toNat) ≤ ((k : Nat) : Int)) (b := (fd_rng ((k : Nat) : Int) && fd_rng (2 ^ (T 204 0).toNat))) rfl rfl rfl (fd_bA (fd_bR (by omega) (by omega)) (fd_bR (by omega) (by omega))) (fun h13 => absurd h13 (by omega)) (fun h13 => ?_)
    have hB : ∀ (q0 : Int), fd_bl 4 (List.drop 14 fd_c103) [fd_R 199, fd_I x, fd_I l, fd_I (fd_sum (fd_sT T x l) k), fd_I q0, u5, u6] [] (fd_up T 199 19 v) = some (true, [fd_R 199, fd_I x, fd_I l, fd_I (fd_sum (fd_sT T x l) k), fd_I q0, fd_I 1, fd_I 0], [], (fd_up T 199 19 v)) := fun _ => rfl
    refine fd_e_blk 4 (C := fd_c103) (b := true) (L' := [fd_R 199, fd_I x, fd_I l, fd_I (fd_sum (fd_sT T x l) k), fd_I ((k : Nat) : Int), fd_I 1, fd_I 0]) (st' := []) (M' := (fd_up T 199 19 v)) rfl (hB ((k : Nat) : Int)) (j := 18) rfl (rfl) ?_
    clear hB
    refine fd_l_sumI T hP hS hW ((k : Nat) : Int) (by omega) x v _ _ _ (fun u => ?_) (T 204 0).toNat 0 (by omega)
    show fd_runE 6 103 41 [fd_R 199, fd_I x, fd_I l, fd_I (fd_sum (fd_sT T x l) k), fd_I ((k : Nat) : Int), fd_I (fd_wt ((k : Nat) : Int) x (T 204 0).toNat), u] [] (fd_up T 199 19 v) (fun r R => r = some (fd_I (fd_sum (fd_sT T x l) A)) ∧ fd_smR T R)
    have hB : ∀ (q0 : Int) (q1 : Int), fd_bl 3 (List.drop 41 fd_c103) [fd_R 199, fd_I x, fd_I l, fd_I (fd_sum (fd_sT T x l) k), fd_I q0, fd_I q1, u] [] (fd_up T 199 19 v) = some (true, [fd_R 199, fd_I x, fd_I l, fd_I (fd_sum (fd_sT T x l) k), fd_I q0, fd_I q1, u], [], (fd_up (fd_up T 199 19 v) 199 19 q0)) := fun _ _ => rfl
    refine fd_e_blk 3 (C := fd_c103) (b := true) (L' := [fd_R 199, fd_I x, fd_I l, fd_I (fd_sum (fd_sT T x l) k), fd_I ((k : Nat) : Int), fd_I (fd_wt ((k : Nat) : Int) x (T 204 0).toNat), u]) (st' := []) (M' := (fd_up (fd_up T 199 19 v) 199 19 ((k : Nat) : Int))) rfl (hB ((k : Nat) : Int) (fd_wt ((k : Nat) : Int) x (T 204 0).toNat)) (j := 44) rfl (rfl) ?_
    clear hB
    rw [fd_up_up]
    have hB : ∀ (q0 : Int) (q1 : Int), fd_bl 1 (List.drop 44 fd_c103) [fd_R 199, fd_I x, fd_I l, fd_I (fd_sum (fd_sT T x l) k), fd_I q0, fd_I q1, u] [] (fd_up T 199 19 ((k : Nat) : Int)) = some (true, [fd_R 199, fd_I x, fd_I l, fd_I (fd_sum (fd_sT T x l) k), fd_I q0, fd_I q1, u], [fd_R 199], (fd_up T 199 19 ((k : Nat) : Int))) := fun _ _ => rfl
    refine fd_e_blk 1 (C := fd_c103) (b := true) (L' := [fd_R 199, fd_I x, fd_I l, fd_I (fd_sum (fd_sT T x l) k), fd_I ((k : Nat) : Int), fd_I (fd_wt ((k : Nat) : Int) x (T 204 0).toNat), u]) (st' := [fd_R 199]) (M' := (fd_up T 199 19 ((k : Nat) : Int))) rfl (hB ((k : Nat) : Int) (fd_wt ((k : Nat) : Int) x (T 204 0).toNat)) (j := 45) rfl (rfl) ?_
    clear hB
    refine fd_e_call (C := fd_c103) (d0 := 5) (mid := 77) (np := 1) (args := [fd_R 199]) (r1 := some (fd_I (fd_DS T ((k : Nat) : Int)))) (M1 := (fd_up T 199 19 ((k : Nat) : Int))) (st' := [fd_I (fd_DS T ((k : Nat) : Int))]) rfl rfl rfl rfl rfl rfl (rfl) (fd_r_dues (fd_up T 199 19 ((k : Nat) : Int)) hP hS (fd_RW_o hW (by omega))) rfl (by omega) ?_
    have qd := fd_DS_rng hP ((k : Nat) : Int)
    have hB : ∀ (q0 : Int) (q1 : Int) (q2 : Int), fd_bl 3 (List.drop 46 fd_c103) [fd_R 199, fd_I x, fd_I l, fd_I (fd_sum (fd_sT T x l) k), fd_I q0, fd_I q1, u] [fd_I q2] (fd_up T 199 19 ((k : Nat) : Int)) = some (true, [fd_R 199, fd_I x, fd_I l, fd_I (fd_sum (fd_sT T x l) k), fd_I q0, fd_I q1, fd_I q2], [fd_I l, fd_I (fd_sum (fd_sT T x l) k)], (fd_up T 199 19 ((k : Nat) : Int))) := fun _ _ _ => rfl
    refine fd_e_blk 3 (C := fd_c103) (b := true) (L' := [fd_R 199, fd_I x, fd_I l, fd_I (fd_sum (fd_sT T x l) k), fd_I ((k : Nat) : Int), fd_I (fd_wt ((k : Nat) : Int) x (T 204 0).toNat), fd_I (fd_DS T ((k : Nat) : Int))]) (st' := [fd_I l, fd_I (fd_sum (fd_sT T x l) k)]) (M' := (fd_up T 199 19 ((k : Nat) : Int))) rfl (hB ((k : Nat) : Int) (fd_wt ((k : Nat) : Int) x (T 204 0).toNat) (fd_DS T ((k : Nat) : Int))) (j := 49) rfl (rfl) ?_
    clear hB
    refine fd_e_br (C := fd_c103) (t := 54) (e := 50) (st' := [fd_I (fd_sum (fd_sT T x l) k)]) (c := 0 ≤ l) (b := (fd_rng l)) rfl rfl rfl (fd_bR (by omega) (by omega)) (fun h49 => ?_) (fun h49 => ?_)
    · have hB : ∀ (q0 : Int) (q1 : Int) (q2 : Int), fd_bl 2 (List.drop 54 fd_c103) [fd_R 199, fd_I x, fd_I l, fd_I (fd_sum (fd_sT T x l) k), fd_I q0, fd_I q1, fd_I q2] [fd_I (fd_sum (fd_sT T x l) k)] (fd_up T 199 19 ((k : Nat) : Int)) = some (true, [fd_R 199, fd_I x, fd_I l, fd_I (fd_sum (fd_sT T x l) k), fd_I q0, fd_I q1, fd_I q2], [fd_I l, fd_I q2, fd_I (fd_sum (fd_sT T x l) k)], (fd_up T 199 19 ((k : Nat) : Int))) := fun _ _ _ => rfl
      refine fd_e_blk 2 (C := fd_c103) (b := true) (L' := [fd_R 199, fd_I x, fd_I l, fd_I (fd_sum (fd_sT T x l) k), fd_I ((k : Nat) : Int), fd_I (fd_wt ((k : Nat) : Int) x (T 204 0).toNat), fd_I (fd_DS T ((k : Nat) : Int))]) (st' := [fd_I l, fd_I (fd_DS T ((k : Nat) : Int)), fd_I (fd_sum (fd_sT T x l) k)]) (M' := (fd_up T 199 19 ((k : Nat) : Int))) rfl (hB ((k : Nat) : Int) (fd_wt ((k : Nat) : Int) x (T 204 0).toNat) (fd_DS T ((k : Nat) : Int))) (j := 56) rfl (rfl) ?_
      clear hB
      refine fd_e_br (C := fd_c103) (t := 59) (e := 57) (st' := [fd_I (fd_sum (fd_sT T x l) k)]) (c := (fd_DS T ((k : Nat) : Int)) < l) (b := (fd_rng (fd_DS T ((k : Nat) : Int)) && fd_rng l)) rfl rfl rfl (fd_bA (fd_bR (by omega) (by omega)) (fd_bR (by omega) (by omega))) (fun h56 => ?_) (fun h56 => ?_)
      · have hB : ∀ (q0 : Int) (q1 : Int) (q2 : Int), fd_bl 4 (List.drop 59 fd_c103) [fd_R 199, fd_I x, fd_I l, fd_I (fd_sum (fd_sT T x l) k), fd_I q0, fd_I q1, fd_I q2] [fd_I (fd_sum (fd_sT T x l) k)] (fd_up T 199 19 ((k : Nat) : Int)) = some (true, [fd_R 199, fd_I x, fd_I l, fd_I ((fd_sum (fd_sT T x l) k) + 0), fd_I (q0 + 1), fd_I q1, fd_I q2], [], (fd_up T 199 19 ((k : Nat) : Int))) := fun _ _ _ => rfl
        refine fd_e_blk 4 (C := fd_c103) (b := true) (L' := [fd_R 199, fd_I x, fd_I l, fd_I ((fd_sum (fd_sT T x l) k) + 0), fd_I (((k + 1) : Nat) : Int), fd_I (fd_wt ((k : Nat) : Int) x (T 204 0).toNat), fd_I (fd_DS T ((k : Nat) : Int))]) (st' := []) (M' := (fd_up T 199 19 ((k : Nat) : Int))) rfl (hB ((k : Nat) : Int) (fd_wt ((k : Nat) : Int) x (T 204 0).toNat) (fd_DS T ((k : Nat) : Int))) (j := 63) rfl (rfl) ?_
        clear hB
        refine fd_e_jmp (C := fd_c103) (j := 6) (st' := []) rfl rfl (b := true) rfl rfl ?_
        have e5 : ((fd_sum (fd_sT T x l) k) + 0) = fd_sum (fd_sT T x l) (k + 1) := by
          show _ = fd_sum (fd_sT T x l) k + fd_sT T x l k
          unfold fd_sT
          rw [if_neg (show ¬ l < 0 by omega), if_neg (show ¬ l ≤ fd_DS T ((k : Nat) : Int) by omega)]
        have zi := ih (k + 1) ((k : Nat) : Int) (fd_I (fd_wt ((k : Nat) : Int) x (T 204 0).toNat)) (fd_I (fd_DS T ((k : Nat) : Int))) (by omega) (by omega)
        rw [← e5] at zi
        exact zi
      · have hB : ∀ (q0 : Int) (q1 : Int) (q2 : Int), fd_bl 1 (List.drop 57 fd_c103) [fd_R 199, fd_I x, fd_I l, fd_I (fd_sum (fd_sT T x l) k), fd_I q0, fd_I q1, fd_I q2] [fd_I (fd_sum (fd_sT T x l) k)] (fd_up T 199 19 ((k : Nat) : Int)) = some (true, [fd_R 199, fd_I x, fd_I l, fd_I (fd_sum (fd_sT T x l) k), fd_I q0, fd_I q1, fd_I q2], [fd_I q1, fd_I (fd_sum (fd_sT T x l) k)], (fd_up T 199 19 ((k : Nat) : Int))) := fun _ _ _ => rfl
        refine fd_e_blk 1 (C := fd_c103) (b := true) (L' := [fd_R 199, fd_I x, fd_I l, fd_I (fd_sum (fd_sT T x l) k), fd_I ((k : Nat) : Int), fd_I (fd_wt ((k : Nat) : Int) x (T 204 0).toNat), fd_I (fd_DS T ((k : Nat) : Int))]) (st' := [fd_I (fd_wt ((k : Nat) : Int) x (T 204 0).toNat), fd_I (fd_sum (fd_sT T x l) k)]) (M' := (fd_up T 199 19 ((k : Nat) : Int))) rfl (hB ((k : Nat) : Int) (fd_wt ((k : Nat) : Int) x (T 204 0).toNat) (fd_DS T ((k : Nat) : Int))) (j := 58) rfl (rfl) ?_
        clear hB
        refine fd_e_jmp (C := fd_c103) (j := 60) (st' := [fd_I (fd_wt ((k : Nat) : Int) x (T 204 0).toNat), fd_I (fd_sum (fd_sT T x l) k)]) rfl rfl (b := true) rfl rfl ?_
        have hB : ∀ (q0 : Int) (q1 : Int) (q2 : Int), fd_bl 3 (List.drop 60 fd_c103) [fd_R 199, fd_I x, fd_I l, fd_I (fd_sum (fd_sT T x l) k), fd_I q0, fd_I q1, fd_I q2] [fd_I q1, fd_I (fd_sum (fd_sT T x l) k)] (fd_up T 199 19 ((k : Nat) : Int)) = some (true, [fd_R 199, fd_I x, fd_I l, fd_I ((fd_sum (fd_sT T x l) k) + q1), fd_I (q0 + 1), fd_I q1, fd_I q2], [], (fd_up T 199 19 ((k : Nat) : Int))) := fun _ _ _ => rfl
        refine fd_e_blk 3 (C := fd_c103) (b := true) (L' := [fd_R 199, fd_I x, fd_I l, fd_I ((fd_sum (fd_sT T x l) k) + (fd_wt ((k : Nat) : Int) x (T 204 0).toNat)), fd_I (((k + 1) : Nat) : Int), fd_I (fd_wt ((k : Nat) : Int) x (T 204 0).toNat), fd_I (fd_DS T ((k : Nat) : Int))]) (st' := []) (M' := (fd_up T 199 19 ((k : Nat) : Int))) rfl (hB ((k : Nat) : Int) (fd_wt ((k : Nat) : Int) x (T 204 0).toNat) (fd_DS T ((k : Nat) : Int))) (j := 63) rfl (rfl) ?_
        clear hB
        refine fd_e_jmp (C := fd_c103) (j := 6) (st' := []) rfl rfl (b := true) rfl rfl ?_
        have e5 : ((fd_sum (fd_sT T x l) k) + (fd_wt ((k : Nat) : Int) x (T 204 0).toNat)) = fd_sum (fd_sT T x l) (k + 1) := by
          show _ = fd_sum (fd_sT T x l) k + fd_sT T x l k
          unfold fd_sT
          rw [if_neg (show ¬ l < 0 by omega), if_pos (show l ≤ fd_DS T ((k : Nat) : Int) by omega)]
        have zi := ih (k + 1) ((k : Nat) : Int) (fd_I (fd_wt ((k : Nat) : Int) x (T 204 0).toNat)) (fd_I (fd_DS T ((k : Nat) : Int))) (by omega) (by omega)
        rw [← e5] at zi
        exact zi
    · have hB : ∀ (q0 : Int) (q1 : Int) (q2 : Int), fd_bl 3 (List.drop 50 fd_c103) [fd_R 199, fd_I x, fd_I l, fd_I (fd_sum (fd_sT T x l) k), fd_I q0, fd_I q1, fd_I q2] [fd_I (fd_sum (fd_sT T x l) k)] (fd_up T 199 19 ((k : Nat) : Int)) = some (true, [fd_R 199, fd_I x, fd_I l, fd_I (fd_sum (fd_sT T x l) k), fd_I q0, fd_I q1, fd_I q2], [fd_I (q1 * q2), fd_I (fd_sum (fd_sT T x l) k)], (fd_up T 199 19 ((k : Nat) : Int))) := fun _ _ _ => rfl
      refine fd_e_blk 3 (C := fd_c103) (b := true) (L' := [fd_R 199, fd_I x, fd_I l, fd_I (fd_sum (fd_sT T x l) k), fd_I ((k : Nat) : Int), fd_I (fd_wt ((k : Nat) : Int) x (T 204 0).toNat), fd_I (fd_DS T ((k : Nat) : Int))]) (st' := [fd_I ((fd_wt ((k : Nat) : Int) x (T 204 0).toNat) * (fd_DS T ((k : Nat) : Int))), fd_I (fd_sum (fd_sT T x l) k)]) (M' := (fd_up T 199 19 ((k : Nat) : Int))) rfl (hB ((k : Nat) : Int) (fd_wt ((k : Nat) : Int) x (T 204 0).toNat) (fd_DS T ((k : Nat) : Int))) (j := 53) rfl (rfl) ?_
      clear hB
      refine fd_e_jmp (C := fd_c103) (j := 60) (st' := [fd_I ((fd_wt ((k : Nat) : Int) x (T 204 0).toNat) * (fd_DS T ((k : Nat) : Int))), fd_I (fd_sum (fd_sT T x l) k)]) rfl rfl (b := true) rfl rfl ?_
      have hB : ∀ (q0 : Int) (q1 : Int) (q2 : Int) (q3 : Int), fd_bl 3 (List.drop 60 fd_c103) [fd_R 199, fd_I x, fd_I l, fd_I (fd_sum (fd_sT T x l) k), fd_I q0, fd_I q1, fd_I q2] [fd_I q3, fd_I (fd_sum (fd_sT T x l) k)] (fd_up T 199 19 ((k : Nat) : Int)) = some (true, [fd_R 199, fd_I x, fd_I l, fd_I ((fd_sum (fd_sT T x l) k) + q3), fd_I (q0 + 1), fd_I q1, fd_I q2], [], (fd_up T 199 19 ((k : Nat) : Int))) := fun _ _ _ _ => rfl
      refine fd_e_blk 3 (C := fd_c103) (b := true) (L' := [fd_R 199, fd_I x, fd_I l, fd_I ((fd_sum (fd_sT T x l) k) + ((fd_wt ((k : Nat) : Int) x (T 204 0).toNat) * (fd_DS T ((k : Nat) : Int)))), fd_I (((k + 1) : Nat) : Int), fd_I (fd_wt ((k : Nat) : Int) x (T 204 0).toNat), fd_I (fd_DS T ((k : Nat) : Int))]) (st' := []) (M' := (fd_up T 199 19 ((k : Nat) : Int))) rfl (hB ((k : Nat) : Int) (fd_wt ((k : Nat) : Int) x (T 204 0).toNat) (fd_DS T ((k : Nat) : Int)) ((fd_wt ((k : Nat) : Int) x (T 204 0).toNat) * (fd_DS T ((k : Nat) : Int)))) (j := 63) rfl (rfl) ?_
      clear hB
      refine fd_e_jmp (C := fd_c103) (j := 6) (st' := []) rfl rfl (b := true) rfl rfl ?_
      have e5 : ((fd_sum (fd_sT T x l) k) + ((fd_wt ((k : Nat) : Int) x (T 204 0).toNat) * (fd_DS T ((k : Nat) : Int)))) = fd_sum (fd_sT T x l) (k + 1) := by
        show _ = fd_sum (fd_sT T x l) k + fd_sT T x l k
        unfold fd_sT
        rw [if_pos (show l < 0 by omega)]
      have zi := ih (k + 1) ((k : Nat) : Int) (fd_I (fd_wt ((k : Nat) : Int) x (T 204 0).toNat)) (fd_I (fd_DS T ((k : Nat) : Int))) (by omega) (by omega)
      rw [← e5] at zi
      exact zi

def fd_sumR2 (M : fd_M) (x l : Int) : Int := fd_sum (fd_sT (fd_tak M) x l) (2 ^ (M 204 0).toNat)
theorem fd_r_sum (M : fd_M) (hP : fd_RP M) (hS : fd_RS M) (x l : Int) (hl : -1 ≤ l ∧ l ≤ 99) : fd_callE 6 103 [fd_R 199, fd_I x, fd_I l] M (fun r R => r = some (fd_I (fd_sumR2 M x l)) ∧ fd_smR M R) := by
  refine fd_e_in (L := [fd_R 199, fd_I x, fd_I l, fd_R 1003, fd_R 1003, fd_R 1003, fd_R 1003]) rfl ?_
  obtain ⟨g0, g1, g2, g3, g4, g5⟩ := id hP
  have t4 : fd_tak M 204 = M 204 := fd_tak_fr (by decide) (by decide)
  have t40 : fd_tak M 204 0 = M 204 0 := by rw [t4]
  refine fd_e_blk 1 (C := fd_c103) (b := true) (L' := [fd_R 199, fd_I x, fd_I l, fd_R 1003, fd_R 1003, fd_R 1003, fd_R 1003]) (st' := [fd_R 199]) (M' := M) rfl rfl (j := 1) rfl (rfl) ?_
  refine fd_e_call (C := fd_c103) (d0 := 0) (mid := 72) (np := 1) (args := [fd_R 199]) (r1 := none) (M1 := (fd_tak M)) (st' := []) rfl rfl rfl rfl rfl rfl (rfl) (fd_r_take M hS.2.2.2.2.1) rfl (by omega) ?_
  refine fd_e_blk 4 (C := fd_c103) (b := true) (L' := [fd_R 199, fd_I x, fd_I l, fd_I 0, fd_I 0, fd_R 1003, fd_R 1003]) (st' := []) (M' := (fd_tak M)) rfl rfl (j := 6) rfl (rfl) ?_
  have z := fd_l_sumO (fd_tak M) (fd_RP_tak hP) (fd_RS_tak hS) (fd_RW_tak hP hS) (2 ^ (M 204 0).toNat) (fd_pw6 (by omega)) (by rw [t4]; exact fd_pw _) x l hl (2 ^ (M 204 0).toNat) 0 (fd_tak M 199 19) (fd_R 1003) (fd_R 1003) (by omega) (by rw [fd_tak_o]; exact hS.2.2.1)
  rw [fd_up_19] at z
  obtain ⟨r, R, zr, e1, e2⟩ := z
  exact ⟨r, R, zr, e1, fd_smR_tr (fd_smR_tak M) e2⟩

theorem fd_f_part (M : fd_M) (U L G : Nat) (hU : U < 2147483648) (hL : L < 2147483648) (hG : 0 < G) (hG2 : G < 2147483648) (w : Int) (hw : 0 ≤ w ∧ w ≤ 1) (u5 u6 : fd_V) : fd_run 0 104 31 [fd_R 199, fd_I ((U : Nat) : Int), fd_I w, fd_I ((L : Nat) : Int), fd_I ((G : Nat) : Int), u5, u6] [] M (some (fd_I ((if w = 0 then (U : Int) else (L : Int)) / (G : Int)))) M := by
  have hB : ∀ (q0 : Int) (q1 : Int) (q2 : Int), fd_bl 1 (List.drop 31 fd_c104) [fd_R 199, fd_I q0, fd_I w, fd_I q1, fd_I q2, u5, u6] [] M = some (true, [fd_R 199, fd_I q0, fd_I w, fd_I q1, fd_I q2, u5, u6], [fd_I w], M) := fun _ _ _ => rfl
  refine fd_u_blk 1 (C := fd_c104) (b := true) (L' := [fd_R 199, fd_I ((U : Nat) : Int), fd_I w, fd_I ((L : Nat) : Int), fd_I ((G : Nat) : Int), u5, u6]) (st' := [fd_I w]) (M' := M) rfl (hB ((U : Nat) : Int) ((L : Nat) : Int) ((G : Nat) : Int)) (j := 32) rfl (rfl) ?_
  clear hB
  refine fd_u_br (C := fd_c104) (t := 37) (e := 33) (st' := []) (c := ¬ w = 0) (b := (fd_rng w)) rfl rfl rfl (fd_bR (by omega) (by omega)) (fun h32 => ?_) (fun h32 => ?_)
  · have hB : ∀ (q0 : Int) (q1 : Int) (q2 : Int), fd_bl 2 (List.drop 37 fd_c104) [fd_R 199, fd_I q0, fd_I w, fd_I q1, fd_I q2, u5, u6] [] M = some (true, [fd_R 199, fd_I q0, fd_I w, fd_I q1, fd_I q2, u5, u6], [fd_I q2, fd_I q1], M) := fun _ _ _ => rfl
    refine fd_u_blk 2 (C := fd_c104) (b := true) (L' := [fd_R 199, fd_I ((U : Nat) : Int), fd_I w, fd_I ((L : Nat) : Int), fd_I ((G : Nat) : Int), u5, u6]) (st' := [fd_I ((G : Nat) : Int), fd_I ((L : Nat) : Int)]) (M' := M) rfl (hB ((U : Nat) : Int) ((L : Nat) : Int) ((G : Nat) : Int)) (j := 39) rfl (rfl) ?_
    clear hB
    have hB : ∀ (q0 : Int) (q1 : Int) (q2 : Int), fd_bl 1 (List.drop 39 fd_c104) [fd_R 199, fd_I q0, fd_I w, fd_I q1, fd_I q2, u5, u6] [fd_I q2, fd_I q1] M = some (((fd_inb q1 2147483648 && fd_inb (q2 - 1) 2147483647) && true), [fd_R 199, fd_I q0, fd_I w, fd_I q1, fd_I q2, u5, u6], [fd_I (q1 / q2)], M) := fun _ _ _ => rfl
    refine fd_u_blk 1 (C := fd_c104) (b := ((fd_inb ((L : Nat) : Int) 2147483648 && fd_inb (((G : Nat) : Int) - 1) 2147483647) && true)) (L' := [fd_R 199, fd_I ((U : Nat) : Int), fd_I w, fd_I ((L : Nat) : Int), fd_I ((G : Nat) : Int), u5, u6]) (st' := [fd_I (((L : Nat) : Int) / ((G : Nat) : Int))]) (M' := M) rfl (hB ((U : Nat) : Int) ((L : Nat) : Int) ((G : Nat) : Int)) (j := 40) rfl (fd_bA (fd_bA (fd_bI (by omega) (by omega)) (fd_bI (by omega) (by omega))) (rfl)) ?_
    clear hB
    refine fd_u_ret (C := fd_c104) (b := true) (r' := some (fd_I (((L : Nat) : Int) / ((G : Nat) : Int)))) rfl rfl rfl (rfl) ?_ ?_
    · first | (rw [if_pos (show w = 0 by omega)]; done) | (rw [if_neg (show ¬ w = 0 by omega)]; done)
    · rfl
  · have hB : ∀ (q0 : Int) (q1 : Int) (q2 : Int), fd_bl 2 (List.drop 33 fd_c104) [fd_R 199, fd_I q0, fd_I w, fd_I q1, fd_I q2, u5, u6] [] M = some (true, [fd_R 199, fd_I q0, fd_I w, fd_I q1, fd_I q2, u5, u6], [fd_I q2, fd_I q0], M) := fun _ _ _ => rfl
    refine fd_u_blk 2 (C := fd_c104) (b := true) (L' := [fd_R 199, fd_I ((U : Nat) : Int), fd_I w, fd_I ((L : Nat) : Int), fd_I ((G : Nat) : Int), u5, u6]) (st' := [fd_I ((G : Nat) : Int), fd_I ((U : Nat) : Int)]) (M' := M) rfl (hB ((U : Nat) : Int) ((L : Nat) : Int) ((G : Nat) : Int)) (j := 35) rfl (rfl) ?_
    clear hB
    have hB : ∀ (q0 : Int) (q1 : Int) (q2 : Int), fd_bl 1 (List.drop 35 fd_c104) [fd_R 199, fd_I q0, fd_I w, fd_I q1, fd_I q2, u5, u6] [fd_I q2, fd_I q0] M = some (((fd_inb q0 2147483648 && fd_inb (q2 - 1) 2147483647) && true), [fd_R 199, fd_I q0, fd_I w, fd_I q1, fd_I q2, u5, u6], [fd_I (q0 / q2)], M) := fun _ _ _ => rfl
    refine fd_u_blk 1 (C := fd_c104) (b := ((fd_inb ((U : Nat) : Int) 2147483648 && fd_inb (((G : Nat) : Int) - 1) 2147483647) && true)) (L' := [fd_R 199, fd_I ((U : Nat) : Int), fd_I w, fd_I ((L : Nat) : Int), fd_I ((G : Nat) : Int), u5, u6]) (st' := [fd_I (((U : Nat) : Int) / ((G : Nat) : Int))]) (M' := M) rfl (hB ((U : Nat) : Int) ((L : Nat) : Int) ((G : Nat) : Int)) (j := 36) rfl (fd_bA (fd_bA (fd_bI (by omega) (by omega)) (fd_bI (by omega) (by omega))) (rfl)) ?_
    clear hB
    refine fd_u_jmp (C := fd_c104) (j := 40) (st' := [fd_I (((U : Nat) : Int) / ((G : Nat) : Int))]) rfl rfl (b := true) rfl rfl ?_
    refine fd_u_ret (C := fd_c104) (b := true) (r' := some (fd_I (((U : Nat) : Int) / ((G : Nat) : Int)))) rfl rfl rfl (rfl) ?_ ?_
    · first | (rw [if_pos (show w = 0 by omega)]; done) | (rw [if_neg (show ¬ w = 0 by omega)]; done)
    · rfl

theorem fd_l_part (M : fd_M) (U L G : Nat) (hU : U < 2147483648) (hL : L < 2147483648) (hG : 0 < G) (w : Int) (hw : 0 ≤ w ∧ w ≤ 1) : ∀ (n : Nat) (a b : Nat) (u : fd_V) (ha : a < 2147483648) (hb : b < 2147483648) (hn : b ≤ n) (eG : Nat.gcd a b = G), fd_run 0 104 20 [fd_R 199, fd_I ((U : Nat) : Int), fd_I w, fd_I ((L : Nat) : Int), fd_I ((a : Nat) : Int), fd_I ((b : Nat) : Int), u] [] M (some (fd_I ((if w = 0 then (U : Int) else (L : Int)) / (G : Int)))) M := by
  intro n
  induction n with
  | zero =>
    intro a b u ha hb hn eG
    have hB : ∀ (q0 : Int) (q1 : Int) (q2 : Int) (q3 : Int), fd_bl 1 (List.drop 20 fd_c104) [fd_R 199, fd_I q0, fd_I w, fd_I q1, fd_I q2, fd_I q3, u] [] M = some (true, [fd_R 199, fd_I q0, fd_I w, fd_I q1, fd_I q2, fd_I q3, u], [fd_I q3], M) := fun _ _ _ _ => rfl
    refine fd_u_blk 1 (C := fd_c104) (b := true) (L' := [fd_R 199, fd_I ((U : Nat) : Int), fd_I w, fd_I ((L : Nat) : Int), fd_I ((a : Nat) : Int), fd_I ((b : Nat) : Int), u]) (st' := [fd_I ((b : Nat) : Int)]) (M' := M) rfl (hB ((U : Nat) : Int) ((L : Nat) : Int) ((a : Nat) : Int) ((b : Nat) : Int)) (j := 21) rfl (rfl) ?_
    clear hB
    refine fd_u_br (C := fd_c104) (t := 31) (e := 22) (st' := []) (c := ((b : Nat) : Int) = 0) (b := (fd_rng ((b : Nat) : Int))) rfl rfl rfl (fd_bR (by omega) (by omega)) (fun h21 => ?_) (fun h21 => absurd h21 (by omega))
    have hb0 : b = 0 := by omega
    have ea : a = G := by rw [hb0, Nat.gcd_zero_right] at eG; exact eG
    subst ea
    exact fd_f_part M U L a hU hL hG ha w hw _ _
  | succ n ih =>
    intro a b u ha hb hn eG
    have hB : ∀ (q0 : Int) (q1 : Int) (q2 : Int) (q3 : Int), fd_bl 1 (List.drop 20 fd_c104) [fd_R 199, fd_I q0, fd_I w, fd_I q1, fd_I q2, fd_I q3, u] [] M = some (true, [fd_R 199, fd_I q0, fd_I w, fd_I q1, fd_I q2, fd_I q3, u], [fd_I q3], M) := fun _ _ _ _ => rfl
    refine fd_u_blk 1 (C := fd_c104) (b := true) (L' := [fd_R 199, fd_I ((U : Nat) : Int), fd_I w, fd_I ((L : Nat) : Int), fd_I ((a : Nat) : Int), fd_I ((b : Nat) : Int), u]) (st' := [fd_I ((b : Nat) : Int)]) (M' := M) rfl (hB ((U : Nat) : Int) ((L : Nat) : Int) ((a : Nat) : Int) ((b : Nat) : Int)) (j := 21) rfl (rfl) ?_
    clear hB
    refine fd_u_br (C := fd_c104) (t := 31) (e := 22) (st' := []) (c := ((b : Nat) : Int) = 0) (b := (fd_rng ((b : Nat) : Int))) rfl rfl rfl (fd_bR (by omega) (by omega)) (fun h21 => ?_) (fun h21 => ?_)
    · have hb0 : b = 0 := by omega
      have ea : a = G := by rw [hb0, Nat.gcd_zero_right] at eG; exact eG
      subst ea
      exact fd_f_part M U L a hU hL hG ha w hw _ _
    · have hB : ∀ (q0 : Int) (q1 : Int) (q2 : Int) (q3 : Int), fd_bl 2 (List.drop 22 fd_c104) [fd_R 199, fd_I q0, fd_I w, fd_I q1, fd_I q2, fd_I q3, u] [] M = some (true, [fd_R 199, fd_I q0, fd_I w, fd_I q1, fd_I q2, fd_I q3, u], [fd_I q3, fd_I q2], M) := fun _ _ _ _ => rfl
      refine fd_u_blk 2 (C := fd_c104) (b := true) (L' := [fd_R 199, fd_I ((U : Nat) : Int), fd_I w, fd_I ((L : Nat) : Int), fd_I ((a : Nat) : Int), fd_I ((b : Nat) : Int), u]) (st' := [fd_I ((b : Nat) : Int), fd_I ((a : Nat) : Int)]) (M' := M) rfl (hB ((U : Nat) : Int) ((L : Nat) : Int) ((a : Nat) : Int) ((b : Nat) : Int)) (j := 24) rfl (rfl) ?_
      clear hB
      have hB : ∀ (q0 : Int) (q1 : Int) (q2 : Int) (q3 : Int), fd_bl 1 (List.drop 24 fd_c104) [fd_R 199, fd_I q0, fd_I w, fd_I q1, fd_I q2, fd_I q3, u] [fd_I q3, fd_I q2] M = some (((fd_inb q2 2147483648 && fd_inb (q3 - 1) 2147483647) && true), [fd_R 199, fd_I q0, fd_I w, fd_I q1, fd_I q2, fd_I q3, u], [fd_I (q2 % q3)], M) := fun _ _ _ _ => rfl
      refine fd_u_blk 1 (C := fd_c104) (b := ((fd_inb ((a : Nat) : Int) 2147483648 && fd_inb (((b : Nat) : Int) - 1) 2147483647) && true)) (L' := [fd_R 199, fd_I ((U : Nat) : Int), fd_I w, fd_I ((L : Nat) : Int), fd_I ((a : Nat) : Int), fd_I ((b : Nat) : Int), u]) (st' := [fd_I (((a : Nat) : Int) % ((b : Nat) : Int))]) (M' := M) rfl (hB ((U : Nat) : Int) ((L : Nat) : Int) ((a : Nat) : Int) ((b : Nat) : Int)) (j := 25) rfl (fd_bA (fd_bA (fd_bI (by omega) (by omega)) (fd_bI (by omega) (by omega))) (rfl)) ?_
      clear hB
      have hB : ∀ (q0 : Int) (q1 : Int) (q2 : Int) (q3 : Int) (q4 : Int), fd_bl 5 (List.drop 25 fd_c104) [fd_R 199, fd_I q0, fd_I w, fd_I q1, fd_I q2, fd_I q3, u] [fd_I q4] M = some (true, [fd_R 199, fd_I q0, fd_I w, fd_I q1, fd_I q3, fd_I q4, fd_I q4], [], M) := fun _ _ _ _ _ => rfl
      refine fd_u_blk 5 (C := fd_c104) (b := true) (L' := [fd_R 199, fd_I ((U : Nat) : Int), fd_I w, fd_I ((L : Nat) : Int), fd_I ((b : Nat) : Int), fd_I (((a : Nat) : Int) % ((b : Nat) : Int)), fd_I (((a : Nat) : Int) % ((b : Nat) : Int))]) (st' := []) (M' := M) rfl (hB ((U : Nat) : Int) ((L : Nat) : Int) ((a : Nat) : Int) ((b : Nat) : Int) (((a : Nat) : Int) % ((b : Nat) : Int))) (j := 30) rfl (rfl) ?_
      clear hB
      refine fd_u_jmp (C := fd_c104) (j := 20) (st' := []) rfl rfl (b := true) rfl rfl ?_
      have zi := ih b (a % b) (fd_I (((a : Nat) : Int) % ((b : Nat) : Int))) (by omega) (by have := Nat.mod_lt a (show 0 < b by omega); omega) (by have := Nat.mod_lt a (show 0 < b by omega); omega) (by rw [← eG, Nat.gcd_comm a b, Nat.gcd_rec b a]; exact Nat.gcd_comm _ _)
      exact zi

theorem fd_l_part10 (M : fd_M) (hP : fd_RP M) (U : Nat) (hU : U < 2147483648) (w : Int) (hw : 0 ≤ w ∧ w ≤ 1) : ∀ (n : Nat) (k : Nat) (u5 u : fd_V) (hk : (k : Int) + n = M 204 0), fd_run 0 104 4 [fd_R 199, fd_I ((U : Nat) : Int), fd_I w, fd_I (10 ^ k), fd_I ((k : Nat) : Int), u5, u] [] M (some (fd_I (fd_part (U : Int) (10 ^ (M 204 0).toNat) w))) M := by
  obtain ⟨g0, g1, g2, g3, g4, g5⟩ := id hP
  intro n
  induction n with
  | zero =>
    intro k u5 u hk
    have q10 := fd_10p (n := k) (by omega)
    have q10e : (10 : Int) ^ k = ((10 ^ k : Nat) : Int) := by simp
    have hB : ∀ (q0 : Int) (q1 : Int), fd_bl 5 (List.drop 4 fd_c104) [fd_R 199, fd_I q0, fd_I w, fd_I (10 ^ k), fd_I q1, u5, u] [] M = some (true, [fd_R 199, fd_I q0, fd_I w, fd_I (10 ^ k), fd_I q1, u5, u], [fd_I (M 204 0), fd_I q1], M) := fun _ _ => rfl
    refine fd_u_blk 5 (C := fd_c104) (b := true) (L' := [fd_R 199, fd_I ((U : Nat) : Int), fd_I w, fd_I (10 ^ k), fd_I ((k : Nat) : Int), u5, u]) (st' := [fd_I (M 204 0), fd_I ((k : Nat) : Int)]) (M' := M) rfl (hB ((U : Nat) : Int) ((k : Nat) : Int)) (j := 9) rfl (rfl) ?_
    clear hB
    refine fd_u_br (C := fd_c104) (t := 16) (e := 10) (st' := []) (c := (M 204 0) ≤ ((k : Nat) : Int)) (b := (fd_rng ((k : Nat) : Int) && fd_rng (M 204 0))) rfl rfl rfl (fd_bA (fd_bR (by omega) (by omega)) (fd_bR (by omega) (by omega))) (fun h9 => ?_) (fun h9 => absurd h9 (by omega))
    have hB : ∀ (q0 : Int) (q1 : Int), fd_bl 4 (List.drop 16 fd_c104) [fd_R 199, fd_I q0, fd_I w, fd_I (10 ^ k), fd_I q1, u5, u] [] M = some (true, [fd_R 199, fd_I q0, fd_I w, fd_I (10 ^ k), fd_I q0, fd_I (10 ^ k), u], [], M) := fun _ _ => rfl
    refine fd_u_blk 4 (C := fd_c104) (b := true) (L' := [fd_R 199, fd_I ((U : Nat) : Int), fd_I w, fd_I (10 ^ k), fd_I ((U : Nat) : Int), fd_I (10 ^ k), u]) (st' := []) (M' := M) rfl (hB ((U : Nat) : Int) ((k : Nat) : Int)) (j := 20) rfl (rfl) ?_
    clear hB
    have ek : (M 204 0).toNat = k := by omega
    have e10 : (10 : Int) ^ k = ((10 ^ k : Nat) : Int) := by simp
    have zi := fd_l_part M U (10 ^ k) (Nat.gcd U (10 ^ k)) hU (by omega) (Nat.gcd_pos_of_pos_right _ (Nat.pow_pos (by decide))) w hw (10 ^ k) U (10 ^ k) u hU (by omega) (Nat.le_refl _) rfl
    rw [ek, e10]
    unfold fd_part
    exact zi
  | succ n ih =>
    intro k u5 u hk
    have q10 := fd_10p (n := k) (by omega)
    have q10e : (10 : Int) ^ k = ((10 ^ k : Nat) : Int) := by simp
    have hB : ∀ (q0 : Int) (q1 : Int), fd_bl 5 (List.drop 4 fd_c104) [fd_R 199, fd_I q0, fd_I w, fd_I (10 ^ k), fd_I q1, u5, u] [] M = some (true, [fd_R 199, fd_I q0, fd_I w, fd_I (10 ^ k), fd_I q1, u5, u], [fd_I (M 204 0), fd_I q1], M) := fun _ _ => rfl
    refine fd_u_blk 5 (C := fd_c104) (b := true) (L' := [fd_R 199, fd_I ((U : Nat) : Int), fd_I w, fd_I (10 ^ k), fd_I ((k : Nat) : Int), u5, u]) (st' := [fd_I (M 204 0), fd_I ((k : Nat) : Int)]) (M' := M) rfl (hB ((U : Nat) : Int) ((k : Nat) : Int)) (j := 9) rfl (rfl) ?_
    clear hB
    refine fd_u_br (C := fd_c104) (t := 16) (e := 10) (st' := []) (c := (M 204 0) ≤ ((k : Nat) : Int)) (b := (fd_rng ((k : Nat) : Int) && fd_rng (M 204 0))) rfl rfl rfl (fd_bA (fd_bR (by omega) (by omega)) (fd_bR (by omega) (by omega))) (fun h9 => absurd h9 (by omega)) (fun h9 => ?_)
    have hB : ∀ (q0 : Int) (q1 : Int), fd_bl 5 (List.drop 10 fd_c104) [fd_R 199, fd_I q0, fd_I w, fd_I (10 ^ k), fd_I q1, u5, u] [] M = some (true, [fd_R 199, fd_I q0, fd_I w, fd_I ((10 ^ k) * 10), fd_I (q1 + 1), u5, u], [], M) := fun _ _ => rfl
    refine fd_u_blk 5 (C := fd_c104) (b := true) (L' := [fd_R 199, fd_I ((U : Nat) : Int), fd_I w, fd_I ((10 ^ k) * 10), fd_I (((k + 1) : Nat) : Int), u5, u]) (st' := []) (M' := M) rfl (hB ((U : Nat) : Int) ((k : Nat) : Int)) (j := 15) rfl (rfl) ?_
    clear hB
    refine fd_u_jmp (C := fd_c104) (j := 4) (st' := []) rfl rfl (b := true) rfl rfl ?_
    have zi := ih (k + 1) u5 u (by omega)
    rw [Int.pow_succ] at zi
    exact zi

theorem fd_r_part (M : fd_M) (hP : fd_RP M) (U : Nat) (hU : U < 2147483648) (w : Int) (hw : 0 ≤ w ∧ w ≤ 1) : fd_call 0 104 [fd_R 199, fd_I ((U : Nat) : Int), fd_I w] M (some (fd_I (fd_part (U : Int) (10 ^ (M 204 0).toNat) w))) M := by
  refine fd_u_in (L := [fd_R 199, fd_I ((U : Nat) : Int), fd_I w, fd_R 1003, fd_R 1003, fd_R 1003, fd_R 1003]) rfl ?_
  obtain ⟨g0, g1, g2, g3, g4, g5⟩ := id hP
  have hB : ∀ (q0 : Int), fd_bl 4 (List.drop 0 fd_c104) [fd_R 199, fd_I q0, fd_I w, fd_R 1003, fd_R 1003, fd_R 1003, fd_R 1003] [] M = some (true, [fd_R 199, fd_I q0, fd_I w, fd_I 1, fd_I 0, fd_R 1003, fd_R 1003], [], M) := fun _ => rfl
  refine fd_u_blk 4 (C := fd_c104) (b := true) (L' := [fd_R 199, fd_I ((U : Nat) : Int), fd_I w, fd_I 1, fd_I 0, fd_R 1003, fd_R 1003]) (st' := []) (M' := M) rfl (hB ((U : Nat) : Int)) (j := 4) rfl (rfl) ?_
  clear hB
  exact fd_l_part10 M hP U hU w hw (M 204 0).toNat 0 _ _ (by omega)

theorem fd_r_partI (M : fd_M) (hP : fd_RP M) (U : Int) (hU : 0 ≤ U ∧ U < 2147483648) (w : Int) (hw : 0 ≤ w ∧ w ≤ 1) : fd_call 0 104 [fd_R 199, fd_I U, fd_I w] M (some (fd_I (fd_part U (10 ^ (M 204 0).toNat) w))) M := by
  obtain ⟨n, rfl⟩ := Int.eq_ofNat_of_zero_le hU.1
  exact fd_r_part M hP n (by omega) w hw
def fd_A_odds (M : fd_M) (x v w : Int) : Int := if ¬ ((0 ≤ x ∧ x ≤ 10) ∧ (0 ≤ v ∧ v ≤ 99) ∧ (0 ≤ w ∧ w ≤ 1)) then -1 else fd_part (fd_sumR2 M x v) (10 ^ (M 204 0).toNat) w
def fd_A_mean (M : fd_M) (x w : Int) : Int := if ¬ ((0 ≤ x ∧ x ≤ 10) ∧ (0 ≤ w ∧ w ≤ 1)) then -1 else fd_part (fd_sumR2 M x (-1)) (10 ^ (M 204 0).toNat) w
theorem fd_r_odds (M : fd_M) (hP : fd_RP M) (hS : fd_RS M) (x : Int) (hx : -2147483648 ≤ x ∧ x < 2147483648) (v : Int) (hv : -2147483648 ≤ v ∧ v < 2147483648) (w : Int) (hw : -2147483648 ≤ w ∧ w < 2147483648) (hU : 0 ≤ x ∧ x ≤ 10 → 0 ≤ fd_sumR2 M x v ∧ fd_sumR2 M x v < 2147483648) : fd_callE 7 105 [fd_R 199, fd_I x, fd_I v, fd_I w] M (fun r R => r = some (fd_I (fd_A_odds M x v w)) ∧ fd_smR M R) := by
  refine fd_e_in (L := [fd_R 199, fd_I x, fd_I v, fd_I w]) rfl ?_
  obtain ⟨g0, g1, g2, g3, g4, g5⟩ := id hP
  refine fd_e_blk 3 (C := fd_c105) (b := true) (L' := [fd_R 199, fd_I x, fd_I v, fd_I w]) (st' := [fd_I 10, fd_I 0, fd_I x]) (M' := M) rfl rfl (j := 3) rfl (rfl) ?_
  refine fd_e_call (C := fd_c105) (d0 := 0) (mid := 52) (np := 3) (args := [fd_I x, fd_I 0, fd_I 10]) (r1 := some (fd_I (fd_bi (0 ≤ x ∧ x ≤ 10)))) (M1 := M) (st' := [fd_I (fd_bi (0 ≤ x ∧ x ≤ 10))]) rfl rfl rfl rfl rfl rfl (rfl) (fd_r_in M x 0 10 (by omega) (by omega) (by omega)) rfl (by omega) ?_
  refine fd_e_br (C := fd_c105) (t := 15) (e := 5) (st' := []) (c := (fd_bi (0 ≤ x ∧ x ≤ 10)) = 0) (b := (fd_rng (fd_bi (0 ≤ x ∧ x ≤ 10)))) rfl rfl rfl (fd_biR) (fun h4 => ?_) (fun h4 => ?_)
  · have h4 := fd_biF.mp h4
    refine fd_e_blk 1 (C := fd_c105) (b := true) (L' := [fd_R 199, fd_I x, fd_I v, fd_I w]) (st' := [fd_I (-1)]) (M' := M) rfl rfl (j := 16) rfl (rfl) ?_
    refine fd_e_ret (C := fd_c105) (b := true) (r' := some (fd_I (-1))) rfl rfl rfl (rfl) ?_
    exact ⟨by rw [fd_A_odds, if_pos (show ¬ ((0 ≤ x ∧ x ≤ 10) ∧ (0 ≤ v ∧ v ≤ 99) ∧ (0 ≤ w ∧ w ≤ 1)) by omega)], fd_smR_rf M⟩
  · have h4 := fd_biT.mp h4
    refine fd_e_blk 3 (C := fd_c105) (b := true) (L' := [fd_R 199, fd_I x, fd_I v, fd_I w]) (st' := [fd_I 99, fd_I 0, fd_I v]) (M' := M) rfl rfl (j := 8) rfl (rfl) ?_
    refine fd_e_call (C := fd_c105) (d0 := 0) (mid := 52) (np := 3) (args := [fd_I v, fd_I 0, fd_I 99]) (r1 := some (fd_I (fd_bi (0 ≤ v ∧ v ≤ 99)))) (M1 := M) (st' := [fd_I (fd_bi (0 ≤ v ∧ v ≤ 99))]) rfl rfl rfl rfl rfl rfl (rfl) (fd_r_in M v 0 99 (by omega) (by omega) (by omega)) rfl (by omega) ?_
    refine fd_e_br (C := fd_c105) (t := 15) (e := 10) (st' := []) (c := (fd_bi (0 ≤ v ∧ v ≤ 99)) = 0) (b := (fd_rng (fd_bi (0 ≤ v ∧ v ≤ 99)))) rfl rfl rfl (fd_biR) (fun h9 => ?_) (fun h9 => ?_)
    · have h9 := fd_biF.mp h9
      refine fd_e_blk 1 (C := fd_c105) (b := true) (L' := [fd_R 199, fd_I x, fd_I v, fd_I w]) (st' := [fd_I (-1)]) (M' := M) rfl rfl (j := 16) rfl (rfl) ?_
      refine fd_e_ret (C := fd_c105) (b := true) (r' := some (fd_I (-1))) rfl rfl rfl (rfl) ?_
      exact ⟨by rw [fd_A_odds, if_pos (show ¬ ((0 ≤ x ∧ x ≤ 10) ∧ (0 ≤ v ∧ v ≤ 99) ∧ (0 ≤ w ∧ w ≤ 1)) by omega)], fd_smR_rf M⟩
    · have h9 := fd_biT.mp h9
      refine fd_e_blk 3 (C := fd_c105) (b := true) (L' := [fd_R 199, fd_I x, fd_I v, fd_I w]) (st' := [fd_I 1, fd_I 0, fd_I w]) (M' := M) rfl rfl (j := 13) rfl (rfl) ?_
      refine fd_e_call (C := fd_c105) (d0 := 0) (mid := 52) (np := 3) (args := [fd_I w, fd_I 0, fd_I 1]) (r1 := some (fd_I (fd_bi (0 ≤ w ∧ w ≤ 1)))) (M1 := M) (st' := [fd_I (fd_bi (0 ≤ w ∧ w ≤ 1))]) rfl rfl rfl rfl rfl rfl (rfl) (fd_r_in M w 0 1 (by omega) (by omega) (by omega)) rfl (by omega) ?_
      refine fd_e_br (C := fd_c105) (t := 17) (e := 15) (st' := []) (c := ¬ (fd_bi (0 ≤ w ∧ w ≤ 1)) = 0) (b := (fd_rng (fd_bi (0 ≤ w ∧ w ≤ 1)))) rfl rfl rfl (fd_biR) (fun h14 => ?_) (fun h14 => ?_)
      · have h14 := fd_biT.mp h14
        refine fd_e_blk 4 (C := fd_c105) (b := true) (L' := [fd_R 199, fd_I x, fd_I v, fd_I w]) (st' := [fd_I v, fd_I x, fd_R 199, fd_R 199]) (M' := M) rfl rfl (j := 21) rfl (rfl) ?_
        obtain ⟨r, R, c1, e1, hR⟩ := fd_r_sum M hP hS x v (by omega)
        subst e1
        refine fd_e_call (C := fd_c105) (d0 := 6) (mid := 103) (np := 3) (args := [fd_R 199, fd_I x, fd_I v]) (r1 := some (fd_I (fd_sumR2 M x v))) (M1 := R) (st' := [fd_I (fd_sumR2 M x v), fd_R 199]) rfl rfl rfl rfl rfl rfl (rfl) (c1) rfl (by omega) ?_
        have eR : R 204 = M 204 := hR.1 _ (by decide) (by decide)
        refine fd_e_blk 1 (C := fd_c105) (b := true) (L' := [fd_R 199, fd_I x, fd_I v, fd_I w]) (st' := [fd_I w, fd_I (fd_sumR2 M x v), fd_R 199]) (M' := R) rfl rfl (j := 23) rfl (rfl) ?_
        refine fd_e_call (C := fd_c105) (d0 := 0) (mid := 104) (np := 3) (args := [fd_R 199, fd_I (fd_sumR2 M x v), fd_I w]) (r1 := some (fd_I (fd_part (fd_sumR2 M x v) (10 ^ (M 204 0).toNat) w))) (M1 := R) (st' := [fd_I (fd_part (fd_sumR2 M x v) (10 ^ (M 204 0).toNat) w)]) rfl rfl rfl rfl rfl rfl (rfl) (by rw [← eR]; exact fd_r_partI R (fd_RP_sm hR hP) (fd_sumR2 M x v) (hU (by omega)) w (by omega)) rfl (by omega) ?_
        refine fd_e_ret (C := fd_c105) (b := true) (r' := some (fd_I (fd_part (fd_sumR2 M x v) (10 ^ (M 204 0).toNat) w))) rfl rfl rfl (rfl) ?_
        exact ⟨by rw [fd_A_odds, if_neg (show ¬ ¬ ((0 ≤ x ∧ x ≤ 10) ∧ (0 ≤ v ∧ v ≤ 99) ∧ (0 ≤ w ∧ w ≤ 1)) by omega)], hR⟩
      · have h14 := fd_biF2  h14
        refine fd_e_blk 1 (C := fd_c105) (b := true) (L' := [fd_R 199, fd_I x, fd_I v, fd_I w]) (st' := [fd_I (-1)]) (M' := M) rfl rfl (j := 16) rfl (rfl) ?_
        refine fd_e_ret (C := fd_c105) (b := true) (r' := some (fd_I (-1))) rfl rfl rfl (rfl) ?_
        exact ⟨by rw [fd_A_odds, if_pos (show ¬ ((0 ≤ x ∧ x ≤ 10) ∧ (0 ≤ v ∧ v ≤ 99) ∧ (0 ≤ w ∧ w ≤ 1)) by omega)], fd_smR_rf M⟩

theorem fd_r_mean (M : fd_M) (hP : fd_RP M) (hS : fd_RS M) (x : Int) (hx : -2147483648 ≤ x ∧ x < 2147483648) (w : Int) (hw : -2147483648 ≤ w ∧ w < 2147483648) (hU : 0 ≤ x ∧ x ≤ 10 → 0 ≤ fd_sumR2 M x (-1) ∧ fd_sumR2 M x (-1) < 2147483648) : fd_callE 7 106 [fd_R 199, fd_I x, fd_I w] M (fun r R => r = some (fd_I (fd_A_mean M x w)) ∧ fd_smR M R) := by
  refine fd_e_in (L := [fd_R 199, fd_I x, fd_I w]) rfl ?_
  obtain ⟨g0, g1, g2, g3, g4, g5⟩ := id hP
  refine fd_e_blk 3 (C := fd_c106) (b := true) (L' := [fd_R 199, fd_I x, fd_I w]) (st' := [fd_I 10, fd_I 0, fd_I x]) (M' := M) rfl rfl (j := 3) rfl (rfl) ?_
  refine fd_e_call (C := fd_c106) (d0 := 0) (mid := 52) (np := 3) (args := [fd_I x, fd_I 0, fd_I 10]) (r1 := some (fd_I (fd_bi (0 ≤ x ∧ x ≤ 10)))) (M1 := M) (st' := [fd_I (fd_bi (0 ≤ x ∧ x ≤ 10))]) rfl rfl rfl rfl rfl rfl (rfl) (fd_r_in M x 0 10 (by omega) (by omega) (by omega)) rfl (by omega) ?_
  refine fd_e_br (C := fd_c106) (t := 10) (e := 5) (st' := []) (c := (fd_bi (0 ≤ x ∧ x ≤ 10)) = 0) (b := (fd_rng (fd_bi (0 ≤ x ∧ x ≤ 10)))) rfl rfl rfl (fd_biR) (fun h4 => ?_) (fun h4 => ?_)
  · have h4 := fd_biF.mp h4
    refine fd_e_blk 1 (C := fd_c106) (b := true) (L' := [fd_R 199, fd_I x, fd_I w]) (st' := [fd_I (-1)]) (M' := M) rfl rfl (j := 11) rfl (rfl) ?_
    refine fd_e_ret (C := fd_c106) (b := true) (r' := some (fd_I (-1))) rfl rfl rfl (rfl) ?_
    exact ⟨by rw [fd_A_mean, if_pos (show ¬ ((0 ≤ x ∧ x ≤ 10) ∧ (0 ≤ w ∧ w ≤ 1)) by omega)], fd_smR_rf M⟩
  · have h4 := fd_biT.mp h4
    refine fd_e_blk 3 (C := fd_c106) (b := true) (L' := [fd_R 199, fd_I x, fd_I w]) (st' := [fd_I 1, fd_I 0, fd_I w]) (M' := M) rfl rfl (j := 8) rfl (rfl) ?_
    refine fd_e_call (C := fd_c106) (d0 := 0) (mid := 52) (np := 3) (args := [fd_I w, fd_I 0, fd_I 1]) (r1 := some (fd_I (fd_bi (0 ≤ w ∧ w ≤ 1)))) (M1 := M) (st' := [fd_I (fd_bi (0 ≤ w ∧ w ≤ 1))]) rfl rfl rfl rfl rfl rfl (rfl) (fd_r_in M w 0 1 (by omega) (by omega) (by omega)) rfl (by omega) ?_
    refine fd_e_br (C := fd_c106) (t := 12) (e := 10) (st' := []) (c := ¬ (fd_bi (0 ≤ w ∧ w ≤ 1)) = 0) (b := (fd_rng (fd_bi (0 ≤ w ∧ w ≤ 1)))) rfl rfl rfl (fd_biR) (fun h9 => ?_) (fun h9 => ?_)
    · have h9 := fd_biT.mp h9
      refine fd_e_blk 4 (C := fd_c106) (b := true) (L' := [fd_R 199, fd_I x, fd_I w]) (st' := [fd_I (-1), fd_I x, fd_R 199, fd_R 199]) (M' := M) rfl rfl (j := 16) rfl (rfl) ?_
      obtain ⟨r, R, c1, e1, hR⟩ := fd_r_sum M hP hS x (-1) (by omega)
      subst e1
      refine fd_e_call (C := fd_c106) (d0 := 6) (mid := 103) (np := 3) (args := [fd_R 199, fd_I x, fd_I (-1)]) (r1 := some (fd_I (fd_sumR2 M x (-1)))) (M1 := R) (st' := [fd_I (fd_sumR2 M x (-1)), fd_R 199]) rfl rfl rfl rfl rfl rfl (rfl) (c1) rfl (by omega) ?_
      have eR : R 204 = M 204 := hR.1 _ (by decide) (by decide)
      refine fd_e_blk 1 (C := fd_c106) (b := true) (L' := [fd_R 199, fd_I x, fd_I w]) (st' := [fd_I w, fd_I (fd_sumR2 M x (-1)), fd_R 199]) (M' := R) rfl rfl (j := 18) rfl (rfl) ?_
      refine fd_e_call (C := fd_c106) (d0 := 0) (mid := 104) (np := 3) (args := [fd_R 199, fd_I (fd_sumR2 M x (-1)), fd_I w]) (r1 := some (fd_I (fd_part (fd_sumR2 M x (-1)) (10 ^ (M 204 0).toNat) w))) (M1 := R) (st' := [fd_I (fd_part (fd_sumR2 M x (-1)) (10 ^ (M 204 0).toNat) w)]) rfl rfl rfl rfl rfl rfl (rfl) (by rw [← eR]; exact fd_r_partI R (fd_RP_sm hR hP) (fd_sumR2 M x (-1)) (hU (by omega)) w (by omega)) rfl (by omega) ?_
      refine fd_e_ret (C := fd_c106) (b := true) (r' := some (fd_I (fd_part (fd_sumR2 M x (-1)) (10 ^ (M 204 0).toNat) w))) rfl rfl rfl (rfl) ?_
      exact ⟨by rw [fd_A_mean, if_neg (show ¬ ¬ ((0 ≤ x ∧ x ≤ 10) ∧ (0 ≤ w ∧ w ≤ 1)) by omega)], hR⟩
    · have h9 := fd_biF2  h9
      refine fd_e_blk 1 (C := fd_c106) (b := true) (L' := [fd_R 199, fd_I x, fd_I w]) (st' := [fd_I (-1)]) (M' := M) rfl rfl (j := 11) rfl (rfl) ?_
      refine fd_e_ret (C := fd_c106) (b := true) (r' := some (fd_I (-1))) rfl rfl rfl (rfl) ?_
      exact ⟨by rw [fd_A_mean, if_pos (show ¬ ((0 ≤ x ∧ x ≤ 10) ∧ (0 ≤ w ∧ w ≤ 1)) by omega)], fd_smR_rf M⟩


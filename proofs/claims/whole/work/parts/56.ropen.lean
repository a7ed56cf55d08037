/-! the reference: who stood open -/
def fd_dS (T : fd_M) (s : Int) (d : Nat) : Int := fd_dR (fd_up T 199 19 s) d
theorem fd_RW_o {T : fd_M} (h : fd_RW T) {s : Int} (hs : 0 ≤ s ∧ s < 64) : fd_RW (fd_up T 199 19 s) := ⟨h.1, hs, h.2.2⟩
theorem fd_dS_rng {T : fd_M} (hP : fd_RP T) (s : Int) (d : Nat) : 0 ≤ fd_dS T s d ∧ fd_dS T s d ≤ 18 := fd_due_rng (wy := fd_up T 199 19 s 210) hP.2.2.2.1 _ _
def fd_TGR (T : fd_M) : Prop := (0 ≤ T 199 23 ∧ T 199 23 ≤ 6) ∧ (∀ i : Nat, (i : Int) < T 199 23 → (0 ≤ T 211 i ∧ T 211 i < T 204 0) ∧ (0 ≤ T 212 i ∧ T 212 i ≤ 99))
def fd_oP (T : fd_M) (s : Int) (i : Nat) : Bool := decide (fd_dS T s (T 211 i).toNat = T 212 i)
def fd_oR (T : fd_M) (s : Nat) : Bool := fd_all (fd_oP T (s : Int)) (T 199 23).toNat
theorem fd_l_openI (T : fd_M) (hP : fd_RP T) (hS : fd_RS T) (hW : fd_RW T) (hT : fd_TGR T) (s : Int) (hs : 0 ≤ s ∧ s < 64) (a1 a2 a3 a4 a5 : fd_V) (Q : Option fd_V → fd_M → Prop) (cont : ∀ u, fd_runE 6 102 62 [fd_R 199, a1, a2, a3, a4, a5, fd_I (fd_bi (fd_all (fd_oP T s) (T 199 23).toNat = true)), u] [] (fd_up T 199 19 s) Q) : ∀ (n : Nat) (k : Nat) (hk : (k : Int) + n = T 199 23), fd_runE 6 102 39 [fd_R 199, a1, a2, a3, a4, a5, fd_I (fd_bi (fd_all (fd_oP T s) k = true)), fd_I ((k : Nat) : Int)] [] (fd_up T 199 19 s) (Q) := by
  have t0 := hT.1
  obtain ⟨g0, g1, g2, g3, g4, g5⟩ := id hP
  intro n
  induction n with
  | zero =>
    intro k hk
    have hB : ∀ (q0 : Int), fd_bl 3 (List.drop 39 fd_c102) [fd_R 199, a1, a2, a3, a4, a5, fd_I (fd_bi (fd_all (fd_oP T s) k = true)), fd_I q0] [] (fd_up T 199 19 s) = some (true, [fd_R 199, a1, a2, a3, a4, a5, fd_I (fd_bi (fd_all (fd_oP T s) k = true)), fd_I q0], [fd_I (T 199 23), fd_I q0], (fd_up T 199 19 s)) := fun _ => rfl
    refine fd_e_blk 3 (C := fd_c102) (b := true) (L' := [fd_R 199, a1, a2, a3, a4, a5, fd_I (fd_bi (fd_all (fd_oP T s) k = true)), fd_I ((k : Nat) : Int)]) (st' := [fd_I (T 199 23), fd_I ((k : Nat) : Int)]) (M' := (fd_up T 199 19 s)) rfl (hB ((k : Nat) : Int)) (j := 42) rfl (rfl) ?_
    clear hB
    refine fd_e_br (C := fd_c102) (t := 62) (e := 43) (st' := []) (c := (T 199 23) ≤ ((k : Nat) : Int)) (b := (fd_rng ((k : Nat) : Int) && fd_rng (T 199 23))) rfl rfl rfl (fd_bA (fd_bR (by omega) (by omega)) (fd_bR (by omega) (by omega))) (fun h42 => ?_) (fun h42 => absurd h42 (by omega))
    rw [show k = (T 199 23).toNat by omega]
    exact cont _
  | succ n ih =>
    intro k hk
    have t1 := hT.2 k (by omega)
    have hB : ∀ (q0 : Int), fd_bl 3 (List.drop 39 fd_c102) [fd_R 199, a1, a2, a3, a4, a5, fd_I (fd_bi (fd_all (fd_oP T s) k = true)), fd_I q0] [] (fd_up T 199 19 s) = some (true, [fd_R 199, a1, a2, a3, a4, a5, fd_I (fd_bi (fd_all (fd_oP T s) k = true)), fd_I q0], [fd_I (T 199 23), fd_I q0], (fd_up T 199 19 s)) := fun _ => rfl
    refine fd_e_blk 3 (C := fd_c102) (b := true) (L' := [fd_R 199, a1, a2, a3, a4, a5, fd_I (fd_bi (fd_all (fd_oP T s) k = true)), fd_I ((k : Nat) : Int)]) (st' := [fd_I (T 199 23), fd_I ((k : Nat) : Int)]) (M' := (fd_up T 199 19 s)) rfl (hB ((k : Nat) : Int)) (j := 42) rfl (rfl) ?_
    clear hB
    refine fd_e_br (C := fd_c102) (t := 62) (e := 43) (st' := []) (c := (T 199 23) ≤ ((k : Nat) : Int)) (b := (fd_rng ((k : Nat) : Int) && fd_rng (T 199 23))) rfl rfl rfl (fd_bA (fd_bR (by omega) (by omega)) (fd_bR (by omega) (by omega))) (fun h42 => absurd h42 (by omega)) (fun h42 => ?_)
    have hB : ∀ (q0 : Int), fd_bl 1 (List.drop 43 fd_c102) [fd_R 199, a1, a2, a3, a4, a5, fd_I (fd_bi (fd_all (fd_oP T s) k = true)), fd_I q0] [] (fd_up T 199 19 s) = some (true, [fd_R 199, a1, a2, a3, a4, a5, fd_I (fd_bi (fd_all (fd_oP T s) k = true)), fd_I q0], [fd_I (fd_bi (fd_all (fd_oP T s) k = true))], (fd_up T 199 19 s)) := fun _ => rfl
    refine fd_e_blk 1 (C := fd_c102) (b := true) (L' := [fd_R 199, a1, a2, a3, a4, a5, fd_I (fd_bi (fd_all (fd_oP T s) k = true)), fd_I ((k : Nat) : Int)]) (st' := [fd_I (fd_bi (fd_all (fd_oP T s) k = true))]) (M' := (fd_up T 199 19 s)) rfl (hB ((k : Nat) : Int)) (j := 44) rfl (rfl) ?_
    clear hB
    refine fd_e_br (C := fd_c102) (t := 58) (e := 45) (st' := []) (c := (fd_bi (fd_all (fd_oP T s) k = true)) = 0) (b := (fd_rng (fd_bi (fd_all (fd_oP T s) k = true)))) rfl rfl rfl (fd_biR) (fun h44 => ?_) (fun h44 => ?_)
    · have h44 := fd_biF.mp h44
      have hB : ∀ (q0 : Int), fd_bl 3 (List.drop 58 fd_c102) [fd_R 199, a1, a2, a3, a4, a5, fd_I (fd_bi (fd_all (fd_oP T s) k = true)), fd_I q0] [] (fd_up T 199 19 s) = some (true, [fd_R 199, a1, a2, a3, a4, a5, fd_I 0, fd_I (q0 + 1)], [], (fd_up T 199 19 s)) := fun _ => rfl
      refine fd_e_blk 3 (C := fd_c102) (b := true) (L' := [fd_R 199, a1, a2, a3, a4, a5, fd_I 0, fd_I (((k + 1) : Nat) : Int)]) (st' := []) (M' := (fd_up T 199 19 s)) rfl (hB ((k : Nat) : Int)) (j := 61) rfl (rfl) ?_
      clear hB
      refine fd_e_jmp (C := fd_c102) (j := 39) (st' := []) rfl rfl (b := true) rfl rfl ?_
      have e5 : (0 : Int) = fd_bi (fd_all (fd_oP T s) (k + 1) = true) := by
        refine (fd_bi0 (fun q => ?_)).symm
        have q2 : (fd_all (fd_oP T s) k && fd_oP T s k) = true := q
        rw [Bool.and_eq_true] at q2
        first | exact h44 q2.1 | exact h55 (of_decide_eq_true q2.2)
      rw [e5]
      exact ih (k + 1) (by omega)
    · have h44 := fd_biT.mp h44
      have hB : ∀ (q0 : Int), fd_bl 5 (List.drop 45 fd_c102) [fd_R 199, a1, a2, a3, a4, a5, fd_I (fd_bi (fd_all (fd_oP T s) k = true)), fd_I q0] [] (fd_up T 199 19 s) = some ((fd_isA true (fd_up T 199 19 s) 211 20 q0 && true), [fd_R 199, a1, a2, a3, a4, a5, fd_I (fd_bi (fd_all (fd_oP T s) k = true)), fd_I q0], [fd_I (T 211 (q0).toNat), fd_R 199], (fd_up T 199 19 s)) := fun _ => rfl
      refine fd_e_blk 5 (C := fd_c102) (b := (fd_isA true (fd_up T 199 19 s) 211 20 ((k : Nat) : Int) && true)) (L' := [fd_R 199, a1, a2, a3, a4, a5, fd_I (fd_bi (fd_all (fd_oP T s) k = true)), fd_I ((k : Nat) : Int)]) (st' := [fd_I (T 211 k), fd_R 199]) (M' := (fd_up T 199 19 s)) rfl (hB ((k : Nat) : Int)) (j := 50) rfl (fd_bA (fd_iA fd_sh211 (by omega) (by omega)) (rfl)) ?_
      clear hB
      refine fd_e_call (C := fd_c102) (d0 := 4) (mid := 76) (np := 2) (args := [fd_R 199, fd_I (T 211 k)]) (r1 := some (fd_I (fd_dS T s (T 211 k).toNat))) (M1 := (fd_up T 199 19 s)) (st' := [fd_I (fd_dS T s (T 211 k).toNat)]) rfl rfl rfl rfl rfl rfl (rfl) (by have zz := fd_r_dueOf (fd_up T 199 19 s) hP hS (fd_RW_o hW hs) (T 211 k).toNat (show (((T 211 k).toNat : Nat) : Int) < T 204 0 by omega); rw [Int.toNat_of_nonneg (by omega)] at zz; exact zz) rfl (by omega) ?_
      have qd := fd_dS_rng hP s (T 211 k).toNat
      have hB : ∀ (q0 : Int), fd_bl 4 (List.drop 51 fd_c102) [fd_R 199, a1, a2, a3, a4, a5, fd_I (fd_bi (fd_all (fd_oP T s) k = true)), fd_I q0] [fd_I (fd_dS T s (T 211 k).toNat)] (fd_up T 199 19 s) = some ((fd_isA true (fd_up T 199 19 s) 212 20 q0 && true), [fd_R 199, a1, a2, a3, a4, a5, fd_I (fd_bi (fd_all (fd_oP T s) k = true)), fd_I q0], [fd_I (T 212 (q0).toNat), fd_I (fd_dS T s (T 211 k).toNat)], (fd_up T 199 19 s)) := fun _ => rfl
      refine fd_e_blk 4 (C := fd_c102) (b := (fd_isA true (fd_up T 199 19 s) 212 20 ((k : Nat) : Int) && true)) (L' := [fd_R 199, a1, a2, a3, a4, a5, fd_I (fd_bi (fd_all (fd_oP T s) k = true)), fd_I ((k : Nat) : Int)]) (st' := [fd_I (T 212 k), fd_I (fd_dS T s (T 211 k).toNat)]) (M' := (fd_up T 199 19 s)) rfl (hB ((k : Nat) : Int)) (j := 55) rfl (fd_bA (fd_iA fd_sh212 (by omega) (by omega)) (rfl)) ?_
      clear hB
      refine fd_e_br (C := fd_c102) (t := 58) (e := 56) (st' := []) (c := ¬ (fd_dS T s (T 211 k).toNat) = (T 212 k)) (b := (fd_rng (fd_dS T s (T 211 k).toNat) && fd_rng (T 212 k))) rfl rfl rfl (fd_bA (fd_bR (by omega) (by omega)) (fd_bR (by omega) (by omega))) (fun h55 => ?_) (fun h55 => ?_)
      · have hB : ∀ (q0 : Int), fd_bl 3 (List.drop 58 fd_c102) [fd_R 199, a1, a2, a3, a4, a5, fd_I (fd_bi (fd_all (fd_oP T s) k = true)), fd_I q0] [] (fd_up T 199 19 s) = some (true, [fd_R 199, a1, a2, a3, a4, a5, fd_I 0, fd_I (q0 + 1)], [], (fd_up T 199 19 s)) := fun _ => rfl
        refine fd_e_blk 3 (C := fd_c102) (b := true) (L' := [fd_R 199, a1, a2, a3, a4, a5, fd_I 0, fd_I (((k + 1) : Nat) : Int)]) (st' := []) (M' := (fd_up T 199 19 s)) rfl (hB ((k : Nat) : Int)) (j := 61) rfl (rfl) ?_
        clear hB
        refine fd_e_jmp (C := fd_c102) (j := 39) (st' := []) rfl rfl (b := true) rfl rfl ?_
        have e5 : (0 : Int) = fd_bi (fd_all (fd_oP T s) (k + 1) = true) := by
          refine (fd_bi0 (fun q => ?_)).symm
          have q2 : (fd_all (fd_oP T s) k && fd_oP T s k) = true := q
          rw [Bool.and_eq_true] at q2
          first | exact h44 q2.1 | exact h55 (of_decide_eq_true q2.2)
        rw [e5]
        exact ih (k + 1) (by omega)
      · have hB : ∀ (q0 : Int), fd_bl 1 (List.drop 56 fd_c102) [fd_R 199, a1, a2, a3, a4, a5, fd_I (fd_bi (fd_all (fd_oP T s) k = true)), fd_I q0] [] (fd_up T 199 19 s) = some (true, [fd_R 199, a1, a2, a3, a4, a5, fd_I (fd_bi (fd_all (fd_oP T s) k = true)), fd_I q0], [fd_I 1], (fd_up T 199 19 s)) := fun _ => rfl
        refine fd_e_blk 1 (C := fd_c102) (b := true) (L' := [fd_R 199, a1, a2, a3, a4, a5, fd_I (fd_bi (fd_all (fd_oP T s) k = true)), fd_I ((k : Nat) : Int)]) (st' := [fd_I 1]) (M' := (fd_up T 199 19 s)) rfl (hB ((k : Nat) : Int)) (j := 57) rfl (rfl) ?_
        clear hB
        refine fd_e_jmp (C := fd_c102) (j := 59) (st' := [fd_I 1]) rfl rfl (b := true) rfl rfl ?_
        have hB : ∀ (q0 : Int), fd_bl 2 (List.drop 59 fd_c102) [fd_R 199, a1, a2, a3, a4, a5, fd_I (fd_bi (fd_all (fd_oP T s) k = true)), fd_I q0] [fd_I 1] (fd_up T 199 19 s) = some (true, [fd_R 199, a1, a2, a3, a4, a5, fd_I 1, fd_I (q0 + 1)], [], (fd_up T 199 19 s)) := fun _ => rfl
        refine fd_e_blk 2 (C := fd_c102) (b := true) (L' := [fd_R 199, a1, a2, a3, a4, a5, fd_I 1, fd_I (((k + 1) : Nat) : Int)]) (st' := []) (M' := (fd_up T 199 19 s)) rfl (hB ((k : Nat) : Int)) (j := 61) rfl (rfl) ?_
        clear hB
        refine fd_e_jmp (C := fd_c102) (j := 39) (st' := []) rfl rfl (b := true) rfl rfl ?_
        have e5 : (1 : Int) = fd_bi (fd_all (fd_oP T s) (k + 1) = true) := by
          refine (fd_bi1 ?_).symm
          show (fd_all (fd_oP T s) k && fd_oP T s k) = true
          rw [h44, Bool.true_and]
          exact decide_eq_true (Classical.not_not.mp h55)
        rw [e5]
        exact ih (k + 1) (by omega)

theorem fd_l_openO (T : fd_M) (hP : fd_RP T) (hS : fd_RS T) (hW : fd_RW T) (hT : fd_TGR T) (A : Nat) (hA : A ≤ 64) (eA : (2 : Int) ^ (T 204 0).toNat = (A : Int)) (w : Int) (hw : 0 ≤ w ∧ w ≤ 2) : ∀ (n : Nat) (k : Nat) (v : Int) (u6 u7 : fd_V) (hk : k + n = A) (hv : 0 ≤ v ∧ v < 64), fd_runE 6 102 24 [fd_R 199, fd_I w, fd_I (fd_cnt (fd_oR T) k), fd_I (fd_fst (fd_oR T) k), fd_I (fd_com (fd_oR T) ((A : Int) - 1) k), fd_I ((k : Nat) : Int), u6, u7] [] (fd_up T 199 19 v) (fun r R => r = some (fd_I (if w = 0 then fd_cnt (fd_oR T) A else if w = 1 then fd_fst (fd_oR T) A else if fd_cnt (fd_oR T) A = 0 then -9 else fd_com (fd_oR T) ((A : Int) - 1) A)) ∧ fd_smR T R) := by
  obtain ⟨g0, g1, g2, g3, g4, g5⟩ := id hP
  have t0 := hT.1
  intro n
  induction n with
  | zero =>
    intro k v u6 u7 hk hv
    have rf := fd_fst_rng (fd_oR T) k
    have rc := fd_cnt_rng (fd_oR T) k
    have hB : ∀ (q0 : Int), fd_bl 7 (List.drop 24 fd_c102) [fd_R 199, fd_I w, fd_I (fd_cnt (fd_oR T) k), fd_I (fd_fst (fd_oR T) k), fd_I (fd_com (fd_oR T) ((A : Int) - 1) k), fd_I q0, u6, u7] [] (fd_up T 199 19 v) = some ((fd_inb (T 204 0) 32 && true), [fd_R 199, fd_I w, fd_I (fd_cnt (fd_oR T) k), fd_I (fd_fst (fd_oR T) k), fd_I (fd_com (fd_oR T) ((A : Int) - 1) k), fd_I q0, u6, u7], [fd_I (2 ^ (T 204 0).toNat), fd_I q0], (fd_up T 199 19 v)) := fun _ => rfl
    refine fd_e_blk 7 (C := fd_c102) (b := (fd_inb (T 204 0) 32 && true)) (L' := [fd_R 199, fd_I w, fd_I (fd_cnt (fd_oR T) k), fd_I (fd_fst (fd_oR T) k), fd_I (fd_com (fd_oR T) ((A : Int) - 1) k), fd_I ((k : Nat) : Int), u6, u7]) (st' := [fd_I (2 ^ (T 204 0).toNat), fd_I ((k : Nat) : Int)]) (M' := (fd_up T 199 19 v)) rfl (hB ((k : Nat) : Int)) (j := 31) rfl (fd_bA (fd_bI (by omega) (by omega)) (rfl)) ?_
    clear hB
    refine fd_e_br (C := fd_c102) (t := 77) (e := 32) (st' := []) (c := (2 ^ (T 204 0).toNat) ≤ ((k : Nat) : Int)) (b := (fd_rng ((k : Nat) : Int) && fd_rng (2 ^ (T 204 0).toNat))) rfl rfl rfl (fd_bA (fd_bR (by omega) (by omega)) (fd_bR (by omega) (by omega))) (fun h31 => ?_) (fun h31 => absurd h31 (by omega))
    have hB : ∀ (q0 : Int), fd_bl 1 (List.drop 77 fd_c102) [fd_R 199, fd_I w, fd_I (fd_cnt (fd_oR T) k), fd_I (fd_fst (fd_oR T) k), fd_I (fd_com (fd_oR T) ((A : Int) - 1) k), fd_I q0, u6, u7] [] (fd_up T 199 19 v) = some (true, [fd_R 199, fd_I w, fd_I (fd_cnt (fd_oR T) k), fd_I (fd_fst (fd_oR T) k), fd_I (fd_com (fd_oR T) ((A : Int) - 1) k), fd_I q0, u6, u7], [fd_I w], (fd_up T 199 19 v)) := fun _ => rfl
    refine fd_e_blk 1 (C := fd_c102) (b := true) (L' := [fd_R 199, fd_I w, fd_I (fd_cnt (fd_oR T) k), fd_I (fd_fst (fd_oR T) k), fd_I (fd_com (fd_oR T) ((A : Int) - 1) k), fd_I ((k : Nat) : Int), u6, u7]) (st' := [fd_I w]) (M' := (fd_up T 199 19 v)) rfl (hB ((k : Nat) : Int)) (j := 78) rfl (rfl) ?_
    clear hB
    refine fd_e_br (C := fd_c102) (t := 81) (e := 79) (st' := []) (c := ¬ w = 0) (b := (fd_rng w)) rfl rfl rfl (fd_bR (by omega) (by omega)) (fun h78 => ?_) (fun h78 => ?_)
    · have hB : ∀ (q0 : Int), fd_bl 2 (List.drop 81 fd_c102) [fd_R 199, fd_I w, fd_I (fd_cnt (fd_oR T) k), fd_I (fd_fst (fd_oR T) k), fd_I (fd_com (fd_oR T) ((A : Int) - 1) k), fd_I q0, u6, u7] [] (fd_up T 199 19 v) = some (true, [fd_R 199, fd_I w, fd_I (fd_cnt (fd_oR T) k), fd_I (fd_fst (fd_oR T) k), fd_I (fd_com (fd_oR T) ((A : Int) - 1) k), fd_I q0, u6, u7], [fd_I 1, fd_I w], (fd_up T 199 19 v)) := fun _ => rfl
      refine fd_e_blk 2 (C := fd_c102) (b := true) (L' := [fd_R 199, fd_I w, fd_I (fd_cnt (fd_oR T) k), fd_I (fd_fst (fd_oR T) k), fd_I (fd_com (fd_oR T) ((A : Int) - 1) k), fd_I ((k : Nat) : Int), u6, u7]) (st' := [fd_I 1, fd_I w]) (M' := (fd_up T 199 19 v)) rfl (hB ((k : Nat) : Int)) (j := 83) rfl (rfl) ?_
      clear hB
      refine fd_e_br (C := fd_c102) (t := 86) (e := 84) (st' := []) (c := ¬ w = 1) (b := (fd_rng w && fd_rng 1)) rfl rfl rfl (fd_bA (fd_bR (by omega) (by omega)) (fd_bR (by omega) (by omega))) (fun h83 => ?_) (fun h83 => ?_)
      · have hB : ∀ (q0 : Int), fd_bl 1 (List.drop 86 fd_c102) [fd_R 199, fd_I w, fd_I (fd_cnt (fd_oR T) k), fd_I (fd_fst (fd_oR T) k), fd_I (fd_com (fd_oR T) ((A : Int) - 1) k), fd_I q0, u6, u7] [] (fd_up T 199 19 v) = some (true, [fd_R 199, fd_I w, fd_I (fd_cnt (fd_oR T) k), fd_I (fd_fst (fd_oR T) k), fd_I (fd_com (fd_oR T) ((A : Int) - 1) k), fd_I q0, u6, u7], [fd_I (fd_cnt (fd_oR T) k)], (fd_up T 199 19 v)) := fun _ => rfl
        refine fd_e_blk 1 (C := fd_c102) (b := true) (L' := [fd_R 199, fd_I w, fd_I (fd_cnt (fd_oR T) k), fd_I (fd_fst (fd_oR T) k), fd_I (fd_com (fd_oR T) ((A : Int) - 1) k), fd_I ((k : Nat) : Int), u6, u7]) (st' := [fd_I (fd_cnt (fd_oR T) k)]) (M' := (fd_up T 199 19 v)) rfl (hB ((k : Nat) : Int)) (j := 87) rfl (rfl) ?_
        clear hB
        refine fd_e_br (C := fd_c102) (t := 90) (e := 88) (st' := []) (c := ¬ (fd_cnt (fd_oR T) k) = 0) (b := (fd_rng (fd_cnt (fd_oR T) k))) rfl rfl rfl (fd_bR (by omega) (by omega)) (fun h87 => ?_) (fun h87 => ?_)
        · have hB : ∀ (q0 : Int), fd_bl 1 (List.drop 90 fd_c102) [fd_R 199, fd_I w, fd_I (fd_cnt (fd_oR T) k), fd_I (fd_fst (fd_oR T) k), fd_I (fd_com (fd_oR T) ((A : Int) - 1) k), fd_I q0, u6, u7] [] (fd_up T 199 19 v) = some (true, [fd_R 199, fd_I w, fd_I (fd_cnt (fd_oR T) k), fd_I (fd_fst (fd_oR T) k), fd_I (fd_com (fd_oR T) ((A : Int) - 1) k), fd_I q0, u6, u7], [fd_I (fd_com (fd_oR T) ((A : Int) - 1) k)], (fd_up T 199 19 v)) := fun _ => rfl
          refine fd_e_blk 1 (C := fd_c102) (b := true) (L' := [fd_R 199, fd_I w, fd_I (fd_cnt (fd_oR T) k), fd_I (fd_fst (fd_oR T) k), fd_I (fd_com (fd_oR T) ((A : Int) - 1) k), fd_I ((k : Nat) : Int), u6, u7]) (st' := [fd_I (fd_com (fd_oR T) ((A : Int) - 1) k)]) (M' := (fd_up T 199 19 v)) rfl (hB ((k : Nat) : Int)) (j := 91) rfl (rfl) ?_
          clear hB
          refine fd_e_ret (C := fd_c102) (b := true) (r' := some (fd_I (fd_com (fd_oR T) ((A : Int) - 1) k))) rfl rfl rfl (rfl) ?_
          refine ⟨?_, fd_smR_o T v⟩
          first | (rw [if_pos (show w = 0 by omega), show A = k by omega]; done) | (rw [if_neg (show ¬ w = 0 by omega), if_pos (show w = 1 by omega), show A = k by omega]; done) | (rw [if_neg (show ¬ w = 0 by omega), if_neg (show ¬ w = 1 by omega), show A = k by omega, if_pos (show fd_cnt (fd_oR T) k = 0 by omega)]; done) | (rw [if_neg (show ¬ w = 0 by omega), if_neg (show ¬ w = 1 by omega), show A = k by omega, if_neg (show ¬ fd_cnt (fd_oR T) k = 0 by omega)]; done)
        · have hB : ∀ (q0 : Int), fd_bl 1 (List.drop 88 fd_c102) [fd_R 199, fd_I w, fd_I (fd_cnt (fd_oR T) k), fd_I (fd_fst (fd_oR T) k), fd_I (fd_com (fd_oR T) ((A : Int) - 1) k), fd_I q0, u6, u7] [] (fd_up T 199 19 v) = some (true, [fd_R 199, fd_I w, fd_I (fd_cnt (fd_oR T) k), fd_I (fd_fst (fd_oR T) k), fd_I (fd_com (fd_oR T) ((A : Int) - 1) k), fd_I q0, u6, u7], [fd_I (-9)], (fd_up T 199 19 v)) := fun _ => rfl
          refine fd_e_blk 1 (C := fd_c102) (b := true) (L' := [fd_R 199, fd_I w, fd_I (fd_cnt (fd_oR T) k), fd_I (fd_fst (fd_oR T) k), fd_I (fd_com (fd_oR T) ((A : Int) - 1) k), fd_I ((k : Nat) : Int), u6, u7]) (st' := [fd_I (-9)]) (M' := (fd_up T 199 19 v)) rfl (hB ((k : Nat) : Int)) (j := 89) rfl (rfl) ?_
          clear hB
          refine fd_e_jmp (C := fd_c102) (j := 91) (st' := [fd_I (-9)]) rfl rfl (b := true) rfl rfl ?_
          refine fd_e_ret (C := fd_c102) (b := true) (r' := some (fd_I (-9))) rfl rfl rfl (rfl) ?_
          refine ⟨?_, fd_smR_o T v⟩
          first | (rw [if_pos (show w = 0 by omega), show A = k by omega]; done) | (rw [if_neg (show ¬ w = 0 by omega), if_pos (show w = 1 by omega), show A = k by omega]; done) | (rw [if_neg (show ¬ w = 0 by omega), if_neg (show ¬ w = 1 by omega), show A = k by omega, if_pos (show fd_cnt (fd_oR T) k = 0 by omega)]; done) | (rw [if_neg (show ¬ w = 0 by omega), if_neg (show ¬ w = 1 by omega), show A = k by omega, if_neg (show ¬ fd_cnt (fd_oR T) k = 0 by omega)]; done)
      · have hB : ∀ (q0 : Int), fd_bl 1 (List.drop 84 fd_c102) [fd_R 199, fd_I w, fd_I (fd_cnt (fd_oR T) k), fd_I (fd_fst (fd_oR T) k), fd_I (fd_com (fd_oR T) ((A : Int) - 1) k), fd_I q0, u6, u7] [] (fd_up T 199 19 v) = some (true, [fd_R 199, fd_I w, fd_I (fd_cnt (fd_oR T) k), fd_I (fd_fst (fd_oR T) k), fd_I (fd_com (fd_oR T) ((A : Int) - 1) k), fd_I q0, u6, u7], [fd_I (fd_fst (fd_oR T) k)], (fd_up T 199 19 v)) := fun _ => rfl
        refine fd_e_blk 1 (C := fd_c102) (b := true) (L' := [fd_R 199, fd_I w, fd_I (fd_cnt (fd_oR T) k), fd_I (fd_fst (fd_oR T) k), fd_I (fd_com (fd_oR T) ((A : Int) - 1) k), fd_I ((k : Nat) : Int), u6, u7]) (st' := [fd_I (fd_fst (fd_oR T) k)]) (M' := (fd_up T 199 19 v)) rfl (hB ((k : Nat) : Int)) (j := 85) rfl (rfl) ?_
        clear hB
        refine fd_e_jmp (C := fd_c102) (j := 91) (st' := [fd_I (fd_fst (fd_oR T) k)]) rfl rfl (b := true) rfl rfl ?_
        refine fd_e_ret (C := fd_c102) (b := true) (r' := some (fd_I (fd_fst (fd_oR T) k))) rfl rfl rfl (rfl) ?_
        refine ⟨?_, fd_smR_o T v⟩
        first | (rw [if_pos (show w = 0 by omega), show A = k by omega]; done) | (rw [if_neg (show ¬ w = 0 by omega), if_pos (show w = 1 by omega), show A = k by omega]; done) | (rw [if_neg (show ¬ w = 0 by omega), if_neg (show ¬ w = 1 by omega), show A = k by omega, if_pos (show fd_cnt (fd_oR T) k = 0 by omega)]; done) | (rw [if_neg (show ¬ w = 0 by omega), if_neg (show ¬ w = 1 by omega), show A = k by omega, if_neg (show ¬ fd_cnt (fd_oR T) k = 0 by omega)]; done)
    · have hB : ∀ (q0 : Int), fd_bl 1 (List.drop 79 fd_c102) [fd_R 199, fd_I w, fd_I (fd_cnt (fd_oR T) k), fd_I (fd_fst (fd_oR T) k), fd_I (fd_com (fd_oR T) ((A : Int) - 1) k), fd_I q0, u6, u7] [] (fd_up T 199 19 v) = some (true, [fd_R 199, fd_I w, fd_I (fd_cnt (fd_oR T) k), fd_I (fd_fst (fd_oR T) k), fd_I (fd_com (fd_oR T) ((A : Int) - 1) k), fd_I q0, u6, u7], [fd_I (fd_cnt (fd_oR T) k)], (fd_up T 199 19 v)) := fun _ => rfl
      refine fd_e_blk 1 (C := fd_c102) (b := true) (L' := [fd_R 199, fd_I w, fd_I (fd_cnt (fd_oR T) k), fd_I (fd_fst (fd_oR T) k), fd_I (fd_com (fd_oR T) ((A : Int) - 1) k), fd_I ((k : Nat) : Int), u6, u7]) (st' := [fd_I (fd_cnt (fd_oR T) k)]) (M' := (fd_up T 199 19 v)) rfl (hB ((k : Nat) : Int)) (j := 80) rfl (rfl) ?_
      clear hB
      refine fd_e_jmp (C := fd_c102) (j := 91) (st' := [fd_I (fd_cnt (fd_oR T) k)]) rfl rfl (b := true) rfl rfl ?_
      refine fd_e_ret (C := fd_c102) (b := true) (r' := some (fd_I (fd_cnt (fd_oR T) k))) rfl rfl rfl (rfl) ?_
      refine ⟨?_, fd_smR_o T v⟩
      first | (rw [if_pos (show w = 0 by omega), show A = k by omega]; done) | (rw [if_neg (show ¬ w = 0 by omega), if_pos (show w = 1 by omega), show A = k by omega]; done) | (rw [if_neg (show ¬ w = 0 by omega), if_neg (show ¬ w = 1 by omega), show A = k by omega, if_pos (show fd_cnt (fd_oR T) k = 0 by omega)]; done) | (rw [if_neg (show ¬ w = 0 by omega), if_neg (show ¬ w = 1 by omega), show A = k by omega, if_neg (show ¬ fd_cnt (fd_oR T) k = 0 by omega)]; done)
  | succ n ih =>
    intro k v u6 u7 hk hv
    have rf := fd_fst_rng (fd_oR T) k
    have rc := fd_cnt_rng (fd_oR T) k
    have hB : ∀ (q0 : Int), fd_bl 7 (List.drop 24 fd_c102) [fd_R 199, fd_I w, fd_I (fd_cnt (fd_oR T) k), fd_I (fd_fst (fd_oR T) k), fd_I (fd_com (fd_oR T) ((A : Int) - 1) k), fd_I q0, u6, u7] [] (fd_up T 199 19 v) = some ((fd_inb (T 204 0) 32 && true), [fd_R 199, fd_I w, fd_I (fd_cnt (fd_oR T) k), fd_I (fd_fst (fd_oR T) k), fd_I (fd_com (fd_oR T) ((A : Int) - 1) k), fd_I q0, u6, u7], [fd_I (2 ^ (T 204 0).toNat), fd_I q0], (fd_up T 199 19 v)) := fun _ => rfl
    refine fd_e_blk 7 (C := fd_c102) (b := (fd_inb (T 204 0) 32 && true)) (L' := [fd_R 199, fd_I w, fd_I (fd_cnt (fd_oR T) k), fd_I (fd_fst (fd_oR T) k), fd_I (fd_com (fd_oR T) ((A : Int) - 1) k), fd_I ((k : Nat) : Int), u6, u7]) (st' := [fd_I (2 ^ (T 204 0).toNat), fd_I ((k : Nat) : Int)]) (M' := (fd_up T 199 19 v)) rfl (hB ((k : Nat) : Int)) (j := 31) rfl (fd_bA (fd_bI (by omega) (by omega)) (rfl)) ?_
    clear hB
    refine fd_e_br (C := fd_c102) (t := 77) (e := 32) (st' := []) (c := (2 ^ (T 204 0).toNat) ≤ ((k : Nat) : Int)) (b := (fd_rng ((k : Nat) : Int) && fd_rng (2 ^ (T 204 0).toNat))) rfl rfl rfl (fd_bA (fd_bR (by omega) (by omega)) (fd_bR (by omega) (by omega))) (fun h31 => absurd h31 (by omega)) (fun h31 => ?_)
    have hB : ∀ (q0 : Int), fd_bl 3 (List.drop 32 fd_c102) [fd_R 199, fd_I w, fd_I (fd_cnt (fd_oR T) k), fd_I (fd_fst (fd_oR T) k), fd_I (fd_com (fd_oR T) ((A : Int) - 1) k), fd_I q0, u6, u7] [] (fd_up T 199 19 v) = some (true, [fd_R 199, fd_I w, fd_I (fd_cnt (fd_oR T) k), fd_I (fd_fst (fd_oR T) k), fd_I (fd_com (fd_oR T) ((A : Int) - 1) k), fd_I q0, u6, u7], [], (fd_up (fd_up T 199 19 v) 199 19 q0)) := fun _ => rfl
    refine fd_e_blk 3 (C := fd_c102) (b := true) (L' := [fd_R 199, fd_I w, fd_I (fd_cnt (fd_oR T) k), fd_I (fd_fst (fd_oR T) k), fd_I (fd_com (fd_oR T) ((A : Int) - 1) k), fd_I ((k : Nat) : Int), u6, u7]) (st' := []) (M' := (fd_up (fd_up T 199 19 v) 199 19 ((k : Nat) : Int))) rfl (hB ((k : Nat) : Int)) (j := 35) rfl (rfl) ?_
    clear hB
    rw [fd_up_up]
    have hB : ∀ (q0 : Int), fd_bl 4 (List.drop 35 fd_c102) [fd_R 199, fd_I w, fd_I (fd_cnt (fd_oR T) k), fd_I (fd_fst (fd_oR T) k), fd_I (fd_com (fd_oR T) ((A : Int) - 1) k), fd_I q0, u6, u7] [] (fd_up T 199 19 ((k : Nat) : Int)) = some (true, [fd_R 199, fd_I w, fd_I (fd_cnt (fd_oR T) k), fd_I (fd_fst (fd_oR T) k), fd_I (fd_com (fd_oR T) ((A : Int) - 1) k), fd_I q0, fd_I 1, fd_I 0], [], (fd_up T 199 19 ((k : Nat) : Int))) := fun _ => rfl
    refine fd_e_blk 4 (C := fd_c102) (b := true) (L' := [fd_R 199, fd_I w, fd_I (fd_cnt (fd_oR T) k), fd_I (fd_fst (fd_oR T) k), fd_I (fd_com (fd_oR T) ((A : Int) - 1) k), fd_I ((k : Nat) : Int), fd_I 1, fd_I 0]) (st' := []) (M' := (fd_up T 199 19 ((k : Nat) : Int))) rfl (hB ((k : Nat) : Int)) (j := 39) rfl (rfl) ?_
    clear hB
    refine fd_l_openI T hP hS hW hT ((k : Nat) : Int) (by omega) _ _ _ _ _ _ (fun u => ?_) (T 199 23).toNat 0 (by omega)
    show fd_runE 6 102 62 [fd_R 199, fd_I w, fd_I (fd_cnt (fd_oR T) k), fd_I (fd_fst (fd_oR T) k), fd_I (fd_com (fd_oR T) ((A : Int) - 1) k), fd_I ((k : Nat) : Int), fd_I (fd_bi (fd_oR T k = true)), u] [] (fd_up T 199 19 ((k : Nat) : Int)) (fun r R => r = some (fd_I (if w = 0 then fd_cnt (fd_oR T) A else if w = 1 then fd_fst (fd_oR T) A else if fd_cnt (fd_oR T) A = 0 then -9 else fd_com (fd_oR T) ((A : Int) - 1) A)) ∧ fd_smR T R)
    have hB : ∀ (q0 : Int), fd_bl 1 (List.drop 62 fd_c102) [fd_R 199, fd_I w, fd_I (fd_cnt (fd_oR T) k), fd_I (fd_fst (fd_oR T) k), fd_I (fd_com (fd_oR T) ((A : Int) - 1) k), fd_I q0, fd_I (fd_bi (fd_oR T k = true)), u] [] (fd_up T 199 19 ((k : Nat) : Int)) = some (true, [fd_R 199, fd_I w, fd_I (fd_cnt (fd_oR T) k), fd_I (fd_fst (fd_oR T) k), fd_I (fd_com (fd_oR T) ((A : Int) - 1) k), fd_I q0, fd_I (fd_bi (fd_oR T k = true)), u], [fd_I (fd_bi (fd_oR T k = true))], (fd_up T 199 19 ((k : Nat) : Int))) := fun _ => rfl
    refine fd_e_blk 1 (C := fd_c102) (b := true) (L' := [fd_R 199, fd_I w, fd_I (fd_cnt (fd_oR T) k), fd_I (fd_fst (fd_oR T) k), fd_I (fd_com (fd_oR T) ((A : Int) - 1) k), fd_I ((k : Nat) : Int), fd_I (fd_bi (fd_oR T k = true)), u]) (st' := [fd_I (fd_bi (fd_oR T k = true))]) (M' := (fd_up T 199 19 ((k : Nat) : Int))) rfl (hB ((k : Nat) : Int)) (j := 63) rfl (rfl) ?_
    clear hB
    refine fd_e_br (C := fd_c102) (t := 75) (e := 64) (st' := []) (c := (fd_bi (fd_oR T k = true)) = 0) (b := (fd_rng (fd_bi (fd_oR T k = true)))) rfl rfl rfl (fd_biR) (fun h63 => ?_) (fun h63 => ?_)
    · have h63 := fd_biF.mp h63
      have hB : ∀ (q0 : Int), fd_bl 1 (List.drop 75 fd_c102) [fd_R 199, fd_I w, fd_I (fd_cnt (fd_oR T) k), fd_I (fd_fst (fd_oR T) k), fd_I (fd_com (fd_oR T) ((A : Int) - 1) k), fd_I q0, fd_I (fd_bi (fd_oR T k = true)), u] [] (fd_up T 199 19 ((k : Nat) : Int)) = some (true, [fd_R 199, fd_I w, fd_I (fd_cnt (fd_oR T) k), fd_I (fd_fst (fd_oR T) k), fd_I (fd_com (fd_oR T) ((A : Int) - 1) k), fd_I (q0 + 1), fd_I (fd_bi (fd_oR T k = true)), u], [], (fd_up T 199 19 ((k : Nat) : Int))) := fun _ => rfl
      refine fd_e_blk 1 (C := fd_c102) (b := true) (L' := [fd_R 199, fd_I w, fd_I (fd_cnt (fd_oR T) k), fd_I (fd_fst (fd_oR T) k), fd_I (fd_com (fd_oR T) ((A : Int) - 1) k), fd_I (((k + 1) : Nat) : Int), fd_I (fd_bi (fd_oR T k = true)), u]) (st' := []) (M' := (fd_up T 199 19 ((k : Nat) : Int))) rfl (hB ((k : Nat) : Int)) (j := 76) rfl (rfl) ?_
      clear hB
      refine fd_e_jmp (C := fd_c102) (j := 24) (st' := []) rfl rfl (b := true) rfl rfl ?_
      have e5 : (fd_cnt (fd_oR T) k) = (fd_cnt (fd_oR T) (k + 1)) := by
        show _ = fd_cnt (fd_oR T) k + (if fd_oR T k = true then 1 else 0)
        rw [if_neg h63]; omega
      have e6 : (fd_fst (fd_oR T) k) = (fd_fst (fd_oR T) (k + 1)) := by
        show _ = if fd_fst (fd_oR T) k = -9 then (if fd_oR T k = true then (k : Int) else -9) else fd_fst (fd_oR T) k
        rw [if_neg h63]
        by_cases z : fd_fst (fd_oR T) k = -9
        · rw [if_pos z, z]
        · rw [if_neg z]
      have e7 : (fd_com (fd_oR T) ((A : Int) - 1) k) = (fd_com (fd_oR T) ((A : Int) - 1) (k + 1)) := by
        show _ = if fd_oR T k = true then fd_and (fd_com (fd_oR T) ((A : Int) - 1) k) (k : Int) else fd_com (fd_oR T) ((A : Int) - 1) k
        rw [if_neg h63]
      have zi := ih (k + 1) ((k : Nat) : Int) (fd_I (fd_bi (fd_oR T k = true))) (u) (by omega) (by omega)
      rw [← e5, ← e6, ← e7] at zi
      exact zi
    · have h63 := fd_biT.mp h63
      have hB : ∀ (q0 : Int), fd_bl 1 (List.drop 64 fd_c102) [fd_R 199, fd_I w, fd_I (fd_cnt (fd_oR T) k), fd_I (fd_fst (fd_oR T) k), fd_I (fd_com (fd_oR T) ((A : Int) - 1) k), fd_I q0, fd_I (fd_bi (fd_oR T k = true)), u] [] (fd_up T 199 19 ((k : Nat) : Int)) = some (true, [fd_R 199, fd_I w, fd_I (fd_cnt (fd_oR T) k), fd_I (fd_fst (fd_oR T) k), fd_I (fd_com (fd_oR T) ((A : Int) - 1) k), fd_I q0, fd_I (fd_bi (fd_oR T k = true)), u], [fd_I (fd_cnt (fd_oR T) k)], (fd_up T 199 19 ((k : Nat) : Int))) := fun _ => rfl
      refine fd_e_blk 1 (C := fd_c102) (b := true) (L' := [fd_R 199, fd_I w, fd_I (fd_cnt (fd_oR T) k), fd_I (fd_fst (fd_oR T) k), fd_I (fd_com (fd_oR T) ((A : Int) - 1) k), fd_I ((k : Nat) : Int), fd_I (fd_bi (fd_oR T k = true)), u]) (st' := [fd_I (fd_cnt (fd_oR T) k)]) (M' := (fd_up T 199 19 ((k : Nat) : Int))) rfl (hB ((k : Nat) : Int)) (j := 65) rfl (rfl) ?_
      clear hB
      refine fd_e_br (C := fd_c102) (t := 68) (e := 66) (st' := []) (c := ¬ (fd_cnt (fd_oR T) k) = 0) (b := (fd_rng (fd_cnt (fd_oR T) k))) rfl rfl rfl (fd_bR (by omega) (by omega)) (fun h65 => ?_) (fun h65 => ?_)
      · have hB : ∀ (q0 : Int), fd_bl 8 (List.drop 68 fd_c102) [fd_R 199, fd_I w, fd_I (fd_cnt (fd_oR T) k), fd_I (fd_fst (fd_oR T) k), fd_I (fd_com (fd_oR T) ((A : Int) - 1) k), fd_I q0, fd_I (fd_bi (fd_oR T k = true)), u] [] (fd_up T 199 19 ((k : Nat) : Int)) = some (true, [fd_R 199, fd_I w, fd_I ((fd_cnt (fd_oR T) k) + 1), fd_I (fd_fst (fd_oR T) k), fd_I (fd_and (fd_com (fd_oR T) ((A : Int) - 1) k) q0), fd_I (q0 + 1), fd_I (fd_bi (fd_oR T k = true)), u], [], (fd_up T 199 19 ((k : Nat) : Int))) := fun _ => rfl
        refine fd_e_blk 8 (C := fd_c102) (b := true) (L' := [fd_R 199, fd_I w, fd_I ((fd_cnt (fd_oR T) k) + 1), fd_I (fd_fst (fd_oR T) k), fd_I (fd_and (fd_com (fd_oR T) ((A : Int) - 1) k) ((k : Nat) : Int)), fd_I (((k + 1) : Nat) : Int), fd_I (fd_bi (fd_oR T k = true)), u]) (st' := []) (M' := (fd_up T 199 19 ((k : Nat) : Int))) rfl (hB ((k : Nat) : Int)) (j := 76) rfl (rfl) ?_
        clear hB
        refine fd_e_jmp (C := fd_c102) (j := 24) (st' := []) rfl rfl (b := true) rfl rfl ?_
        have e5 : ((fd_cnt (fd_oR T) k) + 1) = (fd_cnt (fd_oR T) (k + 1)) := by
          show _ = fd_cnt (fd_oR T) k + (if fd_oR T k = true then 1 else 0)
          rw [if_pos h63]
        have e6 : (fd_fst (fd_oR T) k) = (fd_fst (fd_oR T) (k + 1)) := by
          show _ = if fd_fst (fd_oR T) k = -9 then (if fd_oR T k = true then (k : Int) else -9) else fd_fst (fd_oR T) k
          have fc := fd_fst_cnt (fd_oR T) k
          first | (rw [if_pos (fc.mpr (by omega)), if_pos h63]; done) | (rw [if_neg (fun z => absurd (fc.mp z) (by omega))]; done)
        have e7 : (fd_and (fd_com (fd_oR T) ((A : Int) - 1) k) ((k : Nat) : Int)) = (fd_com (fd_oR T) ((A : Int) - 1) (k + 1)) := by
          show _ = if fd_oR T k = true then fd_and (fd_com (fd_oR T) ((A : Int) - 1) k) (k : Int) else fd_com (fd_oR T) ((A : Int) - 1) k
          rw [if_pos h63]
        have zi := ih (k + 1) ((k : Nat) : Int) (fd_I (fd_bi (fd_oR T k = true))) (u) (by omega) (by omega)
        rw [← e5, ← e6, ← e7] at zi
        exact zi
      · have hB : ∀ (q0 : Int), fd_bl 1 (List.drop 66 fd_c102) [fd_R 199, fd_I w, fd_I (fd_cnt (fd_oR T) k), fd_I (fd_fst (fd_oR T) k), fd_I (fd_com (fd_oR T) ((A : Int) - 1) k), fd_I q0, fd_I (fd_bi (fd_oR T k = true)), u] [] (fd_up T 199 19 ((k : Nat) : Int)) = some (true, [fd_R 199, fd_I w, fd_I (fd_cnt (fd_oR T) k), fd_I (fd_fst (fd_oR T) k), fd_I (fd_com (fd_oR T) ((A : Int) - 1) k), fd_I q0, fd_I (fd_bi (fd_oR T k = true)), u], [fd_I q0], (fd_up T 199 19 ((k : Nat) : Int))) := fun _ => rfl
        refine fd_e_blk 1 (C := fd_c102) (b := true) (L' := [fd_R 199, fd_I w, fd_I (fd_cnt (fd_oR T) k), fd_I (fd_fst (fd_oR T) k), fd_I (fd_com (fd_oR T) ((A : Int) - 1) k), fd_I ((k : Nat) : Int), fd_I (fd_bi (fd_oR T k = true)), u]) (st' := [fd_I ((k : Nat) : Int)]) (M' := (fd_up T 199 19 ((k : Nat) : Int))) rfl (hB ((k : Nat) : Int)) (j := 67) rfl (rfl) ?_
        clear hB
        refine fd_e_jmp (C := fd_c102) (j := 69) (st' := [fd_I ((k : Nat) : Int)]) rfl rfl (b := true) rfl rfl ?_
        have hB : ∀ (q0 : Int), fd_bl 7 (List.drop 69 fd_c102) [fd_R 199, fd_I w, fd_I (fd_cnt (fd_oR T) k), fd_I (fd_fst (fd_oR T) k), fd_I (fd_com (fd_oR T) ((A : Int) - 1) k), fd_I q0, fd_I (fd_bi (fd_oR T k = true)), u] [fd_I q0] (fd_up T 199 19 ((k : Nat) : Int)) = some (true, [fd_R 199, fd_I w, fd_I ((fd_cnt (fd_oR T) k) + 1), fd_I q0, fd_I (fd_and (fd_com (fd_oR T) ((A : Int) - 1) k) q0), fd_I (q0 + 1), fd_I (fd_bi (fd_oR T k = true)), u], [], (fd_up T 199 19 ((k : Nat) : Int))) := fun _ => rfl
        refine fd_e_blk 7 (C := fd_c102) (b := true) (L' := [fd_R 199, fd_I w, fd_I ((fd_cnt (fd_oR T) k) + 1), fd_I ((k : Nat) : Int), fd_I (fd_and (fd_com (fd_oR T) ((A : Int) - 1) k) ((k : Nat) : Int)), fd_I (((k + 1) : Nat) : Int), fd_I (fd_bi (fd_oR T k = true)), u]) (st' := []) (M' := (fd_up T 199 19 ((k : Nat) : Int))) rfl (hB ((k : Nat) : Int)) (j := 76) rfl (rfl) ?_
        clear hB
        refine fd_e_jmp (C := fd_c102) (j := 24) (st' := []) rfl rfl (b := true) rfl rfl ?_
        have e5 : ((fd_cnt (fd_oR T) k) + 1) = (fd_cnt (fd_oR T) (k + 1)) := by
          show _ = fd_cnt (fd_oR T) k + (if fd_oR T k = true then 1 else 0)
          rw [if_pos h63]
        have e6 : ((k : Nat) : Int) = (fd_fst (fd_oR T) (k + 1)) := by
          show _ = if fd_fst (fd_oR T) k = -9 then (if fd_oR T k = true then (k : Int) else -9) else fd_fst (fd_oR T) k
          have fc := fd_fst_cnt (fd_oR T) k
          first | (rw [if_pos (fc.mpr (by omega)), if_pos h63]; done) | (rw [if_neg (fun z => absurd (fc.mp z) (by omega))]; done)
        have e7 : (fd_and (fd_com (fd_oR T) ((A : Int) - 1) k) ((k : Nat) : Int)) = (fd_com (fd_oR T) ((A : Int) - 1) (k + 1)) := by
          show _ = if fd_oR T k = true then fd_and (fd_com (fd_oR T) ((A : Int) - 1) k) (k : Int) else fd_com (fd_oR T) ((A : Int) - 1) k
          rw [if_pos h63]
        have zi := ih (k + 1) ((k : Nat) : Int) (fd_I (fd_bi (fd_oR T k = true))) (u) (by omega) (by omega)
        rw [← e5, ← e6, ← e7] at zi
        exact zi

theorem fd_up_19 (T : fd_M) : fd_up T 199 19 (T 199 19) = T := fd_up_self T 199 19
def fd_A_open (M : fd_M) (w : Int) : Int := if ¬ (0 ≤ w ∧ w ≤ 2) then -1 else if w = 0 then fd_cnt (fd_oR (fd_tak M)) (2 ^ (M 204 0).toNat) else if w = 1 then fd_fst (fd_oR (fd_tak M)) (2 ^ (M 204 0).toNat) else if fd_cnt (fd_oR (fd_tak M)) (2 ^ (M 204 0).toNat) = 0 then -9 else fd_com (fd_oR (fd_tak M)) (((2 ^ (M 204 0).toNat : Nat) : Int) - 1) (2 ^ (M 204 0).toNat)
theorem fd_r_open (M : fd_M) (hP : fd_RP M) (hS : fd_RS M) (hT : fd_TGR (fd_tak M)) (w : Int) (hw : -2147483648 ≤ w ∧ w < 2147483648) : fd_callE 6 102 [fd_R 199, fd_I w] M (fun r R => r = some (fd_I (fd_A_open M w)) ∧ fd_smR M R) := by
  refine fd_e_in (L := [fd_R 199, fd_I w, fd_R 1003, fd_R 1003, fd_R 1003, fd_R 1003, fd_R 1003, fd_R 1003]) rfl ?_
  obtain ⟨g0, g1, g2, g3, g4, g5⟩ := id hP
  have t4 : fd_tak M 204 0 = M 204 0 := by rw [fd_tak_fr (by decide) (by decide)]
  refine fd_e_blk 3 (C := fd_c102) (b := true) (L' := [fd_R 199, fd_I w, fd_R 1003, fd_R 1003, fd_R 1003, fd_R 1003, fd_R 1003, fd_R 1003]) (st' := [fd_I 2, fd_I 0, fd_I w]) (M' := M) rfl rfl (j := 3) rfl (rfl) ?_
  refine fd_e_call (C := fd_c102) (d0 := 0) (mid := 52) (np := 3) (args := [fd_I w, fd_I 0, fd_I 2]) (r1 := some (fd_I (fd_bi (0 ≤ w ∧ w ≤ 2)))) (M1 := M) (st' := [fd_I (fd_bi (0 ≤ w ∧ w ≤ 2))]) rfl rfl rfl rfl rfl rfl (rfl) (fd_r_in M w 0 2 (by omega) (by omega) (by omega)) rfl (by omega) ?_
  refine fd_e_br (C := fd_c102) (t := 7) (e := 5) (st' := []) (c := ¬ (fd_bi (0 ≤ w ∧ w ≤ 2)) = 0) (b := (fd_rng (fd_bi (0 ≤ w ∧ w ≤ 2)))) rfl rfl rfl (fd_biR) (fun h4 => ?_) (fun h4 => ?_)
  · have h4 := fd_biT.mp h4
    refine fd_e_blk 1 (C := fd_c102) (b := true) (L' := [fd_R 199, fd_I w, fd_R 1003, fd_R 1003, fd_R 1003, fd_R 1003, fd_R 1003, fd_R 1003]) (st' := [fd_R 199]) (M' := M) rfl rfl (j := 8) rfl (rfl) ?_
    refine fd_e_call (C := fd_c102) (d0 := 0) (mid := 72) (np := 1) (args := [fd_R 199]) (r1 := none) (M1 := (fd_tak M)) (st' := []) rfl rfl rfl rfl rfl rfl (rfl) (fd_r_take M hS.2.2.2.2.1) rfl (by omega) ?_
    refine fd_e_blk 15 (C := fd_c102) (b := (fd_inb ((fd_tak M) 204 0) 32 && true)) (L' := [fd_R 199, fd_I w, fd_I 0, fd_I (-9), fd_I ((2 ^ ((fd_tak M) 204 0).toNat) - 1), fd_I 0, fd_R 1003, fd_R 1003]) (st' := []) (M' := (fd_tak M)) rfl rfl (j := 24) rfl (fd_bA (fd_bI (by omega) (by omega)) (rfl)) ?_
    have z := fd_l_openO (fd_tak M) (fd_RP_tak hP) (fd_RS_tak hS) (fd_RW_tak hP hS) hT (2 ^ (M 204 0).toNat) (fd_pw6 (by omega)) (by rw [show fd_tak M 204 = M 204 from fd_tak_fr (by decide) (by decide)]; exact fd_pw _) w (by omega) (2 ^ (M 204 0).toNat) 0 (fd_tak M 199 19) (fd_R 1003) (fd_R 1003) (by omega) (by rw [fd_tak_o]; exact hS.2.2.1)
    rw [fd_up_19] at z
    obtain ⟨r, R, zr, e1, e2⟩ := z
    refine ⟨r, R, ?_, ?_, fd_smR_tr (fd_smR_tak M) e2⟩
    · rw [show (2 : Int) ^ ((fd_tak M) 204 0).toNat = ((2 ^ (M 204 0).toNat : Nat) : Int) by rw [show fd_tak M 204 = M 204 from fd_tak_fr (by decide) (by decide)]; exact fd_pw _]
      exact zr
    · rw [e1, fd_A_open, if_neg (show ¬ ¬ (0 ≤ w ∧ w ≤ 2) by omega)]
  · have h4 := fd_biF2  h4
    refine fd_e_blk 1 (C := fd_c102) (b := true) (L' := [fd_R 199, fd_I w, fd_R 1003, fd_R 1003, fd_R 1003, fd_R 1003, fd_R 1003, fd_R 1003]) (st' := [fd_I (-1)]) (M' := M) rfl rfl (j := 6) rfl (rfl) ?_
    refine fd_e_ret (C := fd_c102) (b := true) (r' := some (fd_I (-1))) rfl rfl rfl (rfl) ?_
    exact ⟨by rw [fd_A_open, if_pos (show ¬ (0 ≤ w ∧ w ≤ 2) by omega)], fd_smR_rf M⟩


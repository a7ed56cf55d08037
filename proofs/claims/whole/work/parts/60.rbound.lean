/-! the reference: bound -/
def fd_exi (p : Nat → Bool) : Nat → Bool
  | 0 => false
  | n + 1 => fd_exi p n || p n
def fd_bqR (T : fd_M) (a b c : Nat) : Bool := !fd_okc' T c || (decide (fd_sR (fd_wy T (T 204 0).toNat c) a = (b : Int)) || decide (fd_sR (fd_wy T (T 204 0).toNat c) b = (a : Int)))
def fd_bqq (T : fd_M) (A a b : Nat) : Bool := fd_exi (fd_okc' T) A && fd_all (fd_bqR T a b) A
theorem fd_all_mono {q : Nat → Bool} {k A : Nat} (h : k ≤ A) (hA : fd_all q A = true) : fd_all q k = true := (fd_all_iff k).mpr (fun j hj => (fd_all_iff A).mp hA j (by omega))
theorem fd_l_bdI (T : fd_M) (hP : fd_RP T) (hS : fd_RS T) (hW : fd_RW T) (A : Nat) (eA : (4 : Int) ^ (T 204 0).toNat = (A : Int)) (hA : A ≤ 4096) (a b : Nat) (ha : (a : Int) < T 204 0) (hb : (b : Int) < T 204 0) (a1 a2 a3 a4 : fd_V) (Q : Option fd_V → fd_M → Prop) (cont : ∀ (K : fd_M) (u : fd_V), fd_lk T K → fd_runE 6 99 100 [fd_R 199, a1, a2, a3, a4, fd_I ((a : Nat) : Int), fd_I ((b : Nat) : Int), fd_I (fd_bi (fd_bqq T A a b = true)), u] [] K Q) : ∀ (n : Nat) (k : Nat) (i7 : Int) (K : fd_M) (hK : fd_lk T K) (h7 : i7 = fd_bi ((fd_exi (fd_okc' T) A && fd_all (fd_bqR T a b) k) = true)) (hk : k + n = A), fd_runE 6 99 71 [fd_R 199, a1, a2, a3, a4, fd_I ((a : Nat) : Int), fd_I ((b : Nat) : Int), fd_I i7, fd_I ((k : Nat) : Int)] [] K (Q) := by
  obtain ⟨g0, g1, g2, g3, g4, g5⟩ := id hP
  intro n
  induction n with
  | zero =>
    intro k i7 K hK h7 hk
    have r7 := fd_bi_rng ((fd_exi (fd_okc' T) A && fd_all (fd_bqR T a b) k) = true)
    have hB : ∀ (q0 : Int) (q1 : Int) (q2 : Int), fd_bl 2 (List.drop 71 fd_c99) [fd_R 199, a1, a2, a3, a4, fd_I q0, fd_I q1, fd_I i7, fd_I q2] [] K = some (true, [fd_R 199, a1, a2, a3, a4, fd_I q0, fd_I q1, fd_I i7, fd_I q2], [fd_R 199, fd_I q2], K) := fun _ _ _ => rfl
    refine fd_e_blk 2 (C := fd_c99) (b := true) (L' := [fd_R 199, a1, a2, a3, a4, fd_I ((a : Nat) : Int), fd_I ((b : Nat) : Int), fd_I i7, fd_I ((k : Nat) : Int)]) (st' := [fd_R 199, fd_I ((k : Nat) : Int)]) (M' := K) rfl (hB ((a : Nat) : Int) ((b : Nat) : Int) ((k : Nat) : Int)) (j := 73) rfl (rfl) ?_
    clear hB
    refine fd_e_call (C := fd_c99) (d0 := 0) (mid := 96) (np := 1) (args := [fd_R 199]) (r1 := some (fd_I ((4 : Int) ^ (T 204 0).toNat))) (M1 := K) (st' := [fd_I ((4 : Int) ^ (T 204 0).toNat), fd_I ((k : Nat) : Int)]) rfl rfl rfl rfl rfl rfl (rfl) (fd_k_codes hP hK) rfl (by omega) ?_
    refine fd_e_br (C := fd_c99) (t := 100) (e := 75) (st' := []) (c := ((4 : Int) ^ (T 204 0).toNat) ≤ ((k : Nat) : Int)) (b := (fd_rng ((k : Nat) : Int) && fd_rng ((4 : Int) ^ (T 204 0).toNat))) rfl rfl rfl (fd_bA (fd_bR (by omega) (by omega)) (fd_bR (by omega) (by omega))) (fun h74 => ?_) (fun h74 => absurd h74 (by omega))
    have ei : i7 = fd_bi (fd_bqq T A a b = true) := by
      rw [h7]
      by_cases hh : (fd_exi (fd_okc' T) A && fd_all (fd_bqR T a b) k) = true
      · first
        | (rw [show k = A by omega]; rfl)
        | (exfalso; rw [fd_bi1 hh] at h7; omega)
      · rw [fd_bi0 hh, fd_bi0 (fun z => hh (by unfold fd_bqq at z; rw [Bool.and_eq_true] at z ⊢; exact ⟨z.1, fd_all_mono (by omega) z.2⟩))]
    rw [ei]
    exact cont K _ hK
  | succ n ih =>
    intro k i7 K hK h7 hk
    have r7 := fd_bi_rng ((fd_exi (fd_okc' T) A && fd_all (fd_bqR T a b) k) = true)
    have hB : ∀ (q0 : Int) (q1 : Int) (q2 : Int), fd_bl 2 (List.drop 71 fd_c99) [fd_R 199, a1, a2, a3, a4, fd_I q0, fd_I q1, fd_I i7, fd_I q2] [] K = some (true, [fd_R 199, a1, a2, a3, a4, fd_I q0, fd_I q1, fd_I i7, fd_I q2], [fd_R 199, fd_I q2], K) := fun _ _ _ => rfl
    refine fd_e_blk 2 (C := fd_c99) (b := true) (L' := [fd_R 199, a1, a2, a3, a4, fd_I ((a : Nat) : Int), fd_I ((b : Nat) : Int), fd_I i7, fd_I ((k : Nat) : Int)]) (st' := [fd_R 199, fd_I ((k : Nat) : Int)]) (M' := K) rfl (hB ((a : Nat) : Int) ((b : Nat) : Int) ((k : Nat) : Int)) (j := 73) rfl (rfl) ?_
    clear hB
    refine fd_e_call (C := fd_c99) (d0 := 0) (mid := 96) (np := 1) (args := [fd_R 199]) (r1 := some (fd_I ((4 : Int) ^ (T 204 0).toNat))) (M1 := K) (st' := [fd_I ((4 : Int) ^ (T 204 0).toNat), fd_I ((k : Nat) : Int)]) rfl rfl rfl rfl rfl rfl (rfl) (fd_k_codes hP hK) rfl (by omega) ?_
    refine fd_e_br (C := fd_c99) (t := 100) (e := 75) (st' := []) (c := ((4 : Int) ^ (T 204 0).toNat) ≤ ((k : Nat) : Int)) (b := (fd_rng ((k : Nat) : Int) && fd_rng ((4 : Int) ^ (T 204 0).toNat))) rfl rfl rfl (fd_bA (fd_bR (by omega) (by omega)) (fd_bR (by omega) (by omega))) (fun h74 => absurd h74 (by omega)) (fun h74 => ?_)
    have hB : ∀ (q0 : Int) (q1 : Int) (q2 : Int), fd_bl 1 (List.drop 75 fd_c99) [fd_R 199, a1, a2, a3, a4, fd_I q0, fd_I q1, fd_I i7, fd_I q2] [] K = some (true, [fd_R 199, a1, a2, a3, a4, fd_I q0, fd_I q1, fd_I i7, fd_I q2], [fd_I i7], K) := fun _ _ _ => rfl
    refine fd_e_blk 1 (C := fd_c99) (b := true) (L' := [fd_R 199, a1, a2, a3, a4, fd_I ((a : Nat) : Int), fd_I ((b : Nat) : Int), fd_I i7, fd_I ((k : Nat) : Int)]) (st' := [fd_I i7]) (M' := K) rfl (hB ((a : Nat) : Int) ((b : Nat) : Int) ((k : Nat) : Int)) (j := 76) rfl (rfl) ?_
    clear hB
    refine fd_e_br (C := fd_c99) (t := 100) (e := 77) (st' := []) (c := i7 = 0) (b := (fd_rng i7)) rfl rfl rfl (fd_bR (by omega) (by omega)) (fun h76 => ?_) (fun h76 => ?_)
    · have ei : i7 = fd_bi (fd_bqq T A a b = true) := by
        rw [h7]
        by_cases hh : (fd_exi (fd_okc' T) A && fd_all (fd_bqR T a b) k) = true
        · first
          | (rw [show k = A by omega]; rfl)
          | (exfalso; rw [fd_bi1 hh] at h7; omega)
        · rw [fd_bi0 hh, fd_bi0 (fun z => hh (by unfold fd_bqq at z; rw [Bool.and_eq_true] at z ⊢; exact ⟨z.1, fd_all_mono (by omega) z.2⟩))]
      rw [ei]
      exact cont K _ hK
    · have hB : ∀ (q0 : Int) (q1 : Int) (q2 : Int), fd_bl 2 (List.drop 77 fd_c99) [fd_R 199, a1, a2, a3, a4, fd_I q0, fd_I q1, fd_I i7, fd_I q2] [] K = some (true, [fd_R 199, a1, a2, a3, a4, fd_I q0, fd_I q1, fd_I i7, fd_I q2], [fd_I q2, fd_R 199], K) := fun _ _ _ => rfl
      refine fd_e_blk 2 (C := fd_c99) (b := true) (L' := [fd_R 199, a1, a2, a3, a4, fd_I ((a : Nat) : Int), fd_I ((b : Nat) : Int), fd_I i7, fd_I ((k : Nat) : Int)]) (st' := [fd_I ((k : Nat) : Int), fd_R 199]) (M' := K) rfl (hB ((a : Nat) : Int) ((b : Nat) : Int) ((k : Nat) : Int)) (j := 79) rfl (rfl) ?_
      clear hB
      refine fd_e_call (C := fd_c99) (d0 := 0) (mid := 95) (np := 2) (args := [fd_R 199, fd_I ((k : Nat) : Int)]) (r1 := some (fd_I (fd_su (fd_ct T (T 204 0).toNat k) (T 204 0).toNat 0))) (M1 := (fd_wy T (T 204 0).toNat k)) (st' := [fd_I (fd_su (fd_ct T (T 204 0).toNat k) (T 204 0).toNat 0)]) rfl rfl rfl rfl rfl rfl (rfl) (fd_k_take hP hS hK k (by omega)) rfl (by omega) ?_
      have qt := fd_su_rng (fd_ct_rng T (T 204 0).toNat k) (T 204 0).toNat 0
      have hB : ∀ (q0 : Int) (q1 : Int) (q2 : Int), fd_bl 2 (List.drop 80 fd_c99) [fd_R 199, a1, a2, a3, a4, fd_I q0, fd_I q1, fd_I i7, fd_I q2] [fd_I (fd_su (fd_ct T (T 204 0).toNat k) (T 204 0).toNat 0)] (fd_wy T (T 204 0).toNat k) = some (true, [fd_R 199, a1, a2, a3, a4, fd_I q0, fd_I q1, fd_I i7, fd_I q2], [fd_R 199], (fd_wy T (T 204 0).toNat k)) := fun _ _ _ => rfl
      refine fd_e_blk 2 (C := fd_c99) (b := true) (L' := [fd_R 199, a1, a2, a3, a4, fd_I ((a : Nat) : Int), fd_I ((b : Nat) : Int), fd_I i7, fd_I ((k : Nat) : Int)]) (st' := [fd_R 199]) (M' := (fd_wy T (T 204 0).toNat k)) rfl (hB ((a : Nat) : Int) ((b : Nat) : Int) ((k : Nat) : Int)) (j := 82) rfl (rfl) ?_
      clear hB
      refine fd_e_call (C := fd_c99) (d0 := 4) (mid := 93) (np := 1) (args := [fd_R 199]) (r1 := some (fd_I (fd_bi (fd_okc' T k = true)))) (M1 := (fd_wy T (T 204 0).toNat k)) (st' := [fd_I (fd_bi (fd_okc' T k = true))]) rfl rfl rfl rfl rfl rfl (rfl) (fd_w_ahw hP hS hW k) rfl (by omega) ?_
      refine fd_e_br (C := fd_c99) (t := 94) (e := 84) (st' := []) (c := (fd_bi (fd_okc' T k = true)) = 0) (b := (fd_rng (fd_bi (fd_okc' T k = true)))) rfl rfl rfl (fd_biR) (fun h83 => ?_) (fun h83 => ?_)
      · have h83 := fd_biF.mp h83
        have hB : ∀ (q0 : Int) (q1 : Int) (q2 : Int), fd_bl 1 (List.drop 94 fd_c99) [fd_R 199, a1, a2, a3, a4, fd_I q0, fd_I q1, fd_I i7, fd_I q2] [] (fd_wy T (T 204 0).toNat k) = some (true, [fd_R 199, a1, a2, a3, a4, fd_I q0, fd_I q1, fd_I i7, fd_I q2], [fd_I 1], (fd_wy T (T 204 0).toNat k)) := fun _ _ _ => rfl
        refine fd_e_blk 1 (C := fd_c99) (b := true) (L' := [fd_R 199, a1, a2, a3, a4, fd_I ((a : Nat) : Int), fd_I ((b : Nat) : Int), fd_I i7, fd_I ((k : Nat) : Int)]) (st' := [fd_I 1]) (M' := (fd_wy T (T 204 0).toNat k)) rfl (hB ((a : Nat) : Int) ((b : Nat) : Int) ((k : Nat) : Int)) (j := 95) rfl (rfl) ?_
        clear hB
        refine fd_e_jmp (C := fd_c99) (j := 97) (st' := [fd_I 1]) rfl rfl (b := true) rfl rfl ?_
        have hB : ∀ (q0 : Int) (q1 : Int) (q2 : Int), fd_bl 2 (List.drop 97 fd_c99) [fd_R 199, a1, a2, a3, a4, fd_I q0, fd_I q1, fd_I i7, fd_I q2] [fd_I 1] (fd_wy T (T 204 0).toNat k) = some (true, [fd_R 199, a1, a2, a3, a4, fd_I q0, fd_I q1, fd_I 1, fd_I (q2 + 1)], [], (fd_wy T (T 204 0).toNat k)) := fun _ _ _ => rfl
        refine fd_e_blk 2 (C := fd_c99) (b := true) (L' := [fd_R 199, a1, a2, a3, a4, fd_I ((a : Nat) : Int), fd_I ((b : Nat) : Int), fd_I 1, fd_I (((k + 1) : Nat) : Int)]) (st' := []) (M' := (fd_wy T (T 204 0).toNat k)) rfl (hB ((a : Nat) : Int) ((b : Nat) : Int) ((k : Nat) : Int)) (j := 99) rfl (rfl) ?_
        clear hB
        refine fd_e_jmp (C := fd_c99) (j := 71) (st' := []) rfl rfl (b := true) rfl rfl ?_
        have e7 : (1 : Int) = fd_bi ((fd_exi (fd_okc' T) A && fd_all (fd_bqR T a b) (k + 1)) = true) := by
          have h8 : (fd_exi (fd_okc' T) A && fd_all (fd_bqR T a b) k) = true := by
            by_cases hh : (fd_exi (fd_okc' T) A && fd_all (fd_bqR T a b) k) = true
            · exact hh
            · exfalso; rw [fd_bi0 hh] at h7; omega
          rw [Bool.and_eq_true] at h8
          refine (fd_bi1 ?_).symm
          show (fd_exi (fd_okc' T) A && (fd_all (fd_bqR T a b) k && fd_bqR T a b k)) = true
          rw [h8.1, h8.2, Bool.true_and, Bool.true_and]
          unfold fd_bqR
          first | (simp [h83]; done) | (simp [h88]; done) | (simp [Classical.not_not.mp h93]; done)
        exact ih (k + 1) _ (fd_wy T (T 204 0).toNat k) (fd_lk_wy T k) e7 (by omega)
      · have h83 := fd_biT.mp h83
        have hB : ∀ (q0 : Int) (q1 : Int) (q2 : Int), fd_bl 2 (List.drop 84 fd_c99) [fd_R 199, a1, a2, a3, a4, fd_I q0, fd_I q1, fd_I i7, fd_I q2] [] (fd_wy T (T 204 0).toNat k) = some (true, [fd_R 199, a1, a2, a3, a4, fd_I q0, fd_I q1, fd_I i7, fd_I q2], [fd_I q0, fd_R 199], (fd_wy T (T 204 0).toNat k)) := fun _ _ _ => rfl
        refine fd_e_blk 2 (C := fd_c99) (b := true) (L' := [fd_R 199, a1, a2, a3, a4, fd_I ((a : Nat) : Int), fd_I ((b : Nat) : Int), fd_I i7, fd_I ((k : Nat) : Int)]) (st' := [fd_I ((a : Nat) : Int), fd_R 199]) (M' := (fd_wy T (T 204 0).toNat k)) rfl (hB ((a : Nat) : Int) ((b : Nat) : Int) ((k : Nat) : Int)) (j := 86) rfl (rfl) ?_
        clear hB
        refine fd_e_call (C := fd_c99) (d0 := 3) (mid := 75) (np := 2) (args := [fd_R 199, fd_I ((a : Nat) : Int)]) (r1 := some (fd_I (fd_sR (fd_wy T (T 204 0).toNat k) a))) (M1 := (fd_wy T (T 204 0).toNat k)) (st' := [fd_I (fd_sR (fd_wy T (T 204 0).toNat k) a)]) rfl rfl rfl rfl rfl rfl (rfl) (fd_w_sees hP hS hW k a (by omega)) rfl (by omega) ?_
        have qs19 := fd_sR_rng (fd_RP_sm (fd_wy_sm T (T 204 0).toNat k) hP) a
        rw [show (fd_wy T (T 204 0).toNat k) 204 = T 204 from fd_wy_fr (by decide)] at qs19
        have hB : ∀ (q0 : Int) (q1 : Int) (q2 : Int), fd_bl 1 (List.drop 87 fd_c99) [fd_R 199, a1, a2, a3, a4, fd_I q0, fd_I q1, fd_I i7, fd_I q2] [fd_I (fd_sR (fd_wy T (T 204 0).toNat k) a)] (fd_wy T (T 204 0).toNat k) = some (true, [fd_R 199, a1, a2, a3, a4, fd_I q0, fd_I q1, fd_I i7, fd_I q2], [fd_I q1, fd_I (fd_sR (fd_wy T (T 204 0).toNat k) a)], (fd_wy T (T 204 0).toNat k)) := fun _ _ _ => rfl
        refine fd_e_blk 1 (C := fd_c99) (b := true) (L' := [fd_R 199, a1, a2, a3, a4, fd_I ((a : Nat) : Int), fd_I ((b : Nat) : Int), fd_I i7, fd_I ((k : Nat) : Int)]) (st' := [fd_I ((b : Nat) : Int), fd_I (fd_sR (fd_wy T (T 204 0).toNat k) a)]) (M' := (fd_wy T (T 204 0).toNat k)) rfl (hB ((a : Nat) : Int) ((b : Nat) : Int) ((k : Nat) : Int)) (j := 88) rfl (rfl) ?_
        clear hB
        refine fd_e_br (C := fd_c99) (t := 94) (e := 89) (st' := []) (c := (fd_sR (fd_wy T (T 204 0).toNat k) a) = ((b : Nat) : Int)) (b := (fd_rng (fd_sR (fd_wy T (T 204 0).toNat k) a) && fd_rng ((b : Nat) : Int))) rfl rfl rfl (fd_bA (fd_bR (by omega) (by omega)) (fd_bR (by omega) (by omega))) (fun h88 => ?_) (fun h88 => ?_)
        · have hB : ∀ (q0 : Int) (q1 : Int) (q2 : Int), fd_bl 1 (List.drop 94 fd_c99) [fd_R 199, a1, a2, a3, a4, fd_I q0, fd_I q1, fd_I i7, fd_I q2] [] (fd_wy T (T 204 0).toNat k) = some (true, [fd_R 199, a1, a2, a3, a4, fd_I q0, fd_I q1, fd_I i7, fd_I q2], [fd_I 1], (fd_wy T (T 204 0).toNat k)) := fun _ _ _ => rfl
          refine fd_e_blk 1 (C := fd_c99) (b := true) (L' := [fd_R 199, a1, a2, a3, a4, fd_I ((a : Nat) : Int), fd_I ((b : Nat) : Int), fd_I i7, fd_I ((k : Nat) : Int)]) (st' := [fd_I 1]) (M' := (fd_wy T (T 204 0).toNat k)) rfl (hB ((a : Nat) : Int) ((b : Nat) : Int) ((k : Nat) : Int)) (j := 95) rfl (rfl) ?_
          clear hB
          refine fd_e_jmp (C := fd_c99) (j := 97) (st' := [fd_I 1]) rfl rfl (b := true) rfl rfl ?_
          have hB : ∀ (q0 : Int) (q1 : Int) (q2 : Int), fd_bl 2 (List.drop 97 fd_c99) [fd_R 199, a1, a2, a3, a4, fd_I q0, fd_I q1, fd_I i7, fd_I q2] [fd_I 1] (fd_wy T (T 204 0).toNat k) = some (true, [fd_R 199, a1, a2, a3, a4, fd_I q0, fd_I q1, fd_I 1, fd_I (q2 + 1)], [], (fd_wy T (T 204 0).toNat k)) := fun _ _ _ => rfl
          refine fd_e_blk 2 (C := fd_c99) (b := true) (L' := [fd_R 199, a1, a2, a3, a4, fd_I ((a : Nat) : Int), fd_I ((b : Nat) : Int), fd_I 1, fd_I (((k + 1) : Nat) : Int)]) (st' := []) (M' := (fd_wy T (T 204 0).toNat k)) rfl (hB ((a : Nat) : Int) ((b : Nat) : Int) ((k : Nat) : Int)) (j := 99) rfl (rfl) ?_
          clear hB
          refine fd_e_jmp (C := fd_c99) (j := 71) (st' := []) rfl rfl (b := true) rfl rfl ?_
          have e7 : (1 : Int) = fd_bi ((fd_exi (fd_okc' T) A && fd_all (fd_bqR T a b) (k + 1)) = true) := by
            have h8 : (fd_exi (fd_okc' T) A && fd_all (fd_bqR T a b) k) = true := by
              by_cases hh : (fd_exi (fd_okc' T) A && fd_all (fd_bqR T a b) k) = true
              · exact hh
              · exfalso; rw [fd_bi0 hh] at h7; omega
            rw [Bool.and_eq_true] at h8
            refine (fd_bi1 ?_).symm
            show (fd_exi (fd_okc' T) A && (fd_all (fd_bqR T a b) k && fd_bqR T a b k)) = true
            rw [h8.1, h8.2, Bool.true_and, Bool.true_and]
            unfold fd_bqR
            first | (simp [h83]; done) | (simp [h88]; done) | (simp [Classical.not_not.mp h93]; done)
          exact ih (k + 1) _ (fd_wy T (T 204 0).toNat k) (fd_lk_wy T k) e7 (by omega)
        · have hB : ∀ (q0 : Int) (q1 : Int) (q2 : Int), fd_bl 2 (List.drop 89 fd_c99) [fd_R 199, a1, a2, a3, a4, fd_I q0, fd_I q1, fd_I i7, fd_I q2] [] (fd_wy T (T 204 0).toNat k) = some (true, [fd_R 199, a1, a2, a3, a4, fd_I q0, fd_I q1, fd_I i7, fd_I q2], [fd_I q1, fd_R 199], (fd_wy T (T 204 0).toNat k)) := fun _ _ _ => rfl
          refine fd_e_blk 2 (C := fd_c99) (b := true) (L' := [fd_R 199, a1, a2, a3, a4, fd_I ((a : Nat) : Int), fd_I ((b : Nat) : Int), fd_I i7, fd_I ((k : Nat) : Int)]) (st' := [fd_I ((b : Nat) : Int), fd_R 199]) (M' := (fd_wy T (T 204 0).toNat k)) rfl (hB ((a : Nat) : Int) ((b : Nat) : Int) ((k : Nat) : Int)) (j := 91) rfl (rfl) ?_
          clear hB
          refine fd_e_call (C := fd_c99) (d0 := 3) (mid := 75) (np := 2) (args := [fd_R 199, fd_I ((b : Nat) : Int)]) (r1 := some (fd_I (fd_sR (fd_wy T (T 204 0).toNat k) b))) (M1 := (fd_wy T (T 204 0).toNat k)) (st' := [fd_I (fd_sR (fd_wy T (T 204 0).toNat k) b)]) rfl rfl rfl rfl rfl rfl (rfl) (fd_w_sees hP hS hW k b (by omega)) rfl (by omega) ?_
          have qs28 := fd_sR_rng (fd_RP_sm (fd_wy_sm T (T 204 0).toNat k) hP) b
          rw [show (fd_wy T (T 204 0).toNat k) 204 = T 204 from fd_wy_fr (by decide)] at qs28
          have hB : ∀ (q0 : Int) (q1 : Int) (q2 : Int), fd_bl 1 (List.drop 92 fd_c99) [fd_R 199, a1, a2, a3, a4, fd_I q0, fd_I q1, fd_I i7, fd_I q2] [fd_I (fd_sR (fd_wy T (T 204 0).toNat k) b)] (fd_wy T (T 204 0).toNat k) = some (true, [fd_R 199, a1, a2, a3, a4, fd_I q0, fd_I q1, fd_I i7, fd_I q2], [fd_I q0, fd_I (fd_sR (fd_wy T (T 204 0).toNat k) b)], (fd_wy T (T 204 0).toNat k)) := fun _ _ _ => rfl
          refine fd_e_blk 1 (C := fd_c99) (b := true) (L' := [fd_R 199, a1, a2, a3, a4, fd_I ((a : Nat) : Int), fd_I ((b : Nat) : Int), fd_I i7, fd_I ((k : Nat) : Int)]) (st' := [fd_I ((a : Nat) : Int), fd_I (fd_sR (fd_wy T (T 204 0).toNat k) b)]) (M' := (fd_wy T (T 204 0).toNat k)) rfl (hB ((a : Nat) : Int) ((b : Nat) : Int) ((k : Nat) : Int)) (j := 93) rfl (rfl) ?_
          clear hB
          refine fd_e_br (C := fd_c99) (t := 96) (e := 94) (st' := []) (c := ¬ (fd_sR (fd_wy T (T 204 0).toNat k) b) = ((a : Nat) : Int)) (b := (fd_rng (fd_sR (fd_wy T (T 204 0).toNat k) b) && fd_rng ((a : Nat) : Int))) rfl rfl rfl (fd_bA (fd_bR (by omega) (by omega)) (fd_bR (by omega) (by omega))) (fun h93 => ?_) (fun h93 => ?_)
          · have hB : ∀ (q0 : Int) (q1 : Int) (q2 : Int), fd_bl 3 (List.drop 96 fd_c99) [fd_R 199, a1, a2, a3, a4, fd_I q0, fd_I q1, fd_I i7, fd_I q2] [] (fd_wy T (T 204 0).toNat k) = some (true, [fd_R 199, a1, a2, a3, a4, fd_I q0, fd_I q1, fd_I 0, fd_I (q2 + 1)], [], (fd_wy T (T 204 0).toNat k)) := fun _ _ _ => rfl
            refine fd_e_blk 3 (C := fd_c99) (b := true) (L' := [fd_R 199, a1, a2, a3, a4, fd_I ((a : Nat) : Int), fd_I ((b : Nat) : Int), fd_I 0, fd_I (((k + 1) : Nat) : Int)]) (st' := []) (M' := (fd_wy T (T 204 0).toNat k)) rfl (hB ((a : Nat) : Int) ((b : Nat) : Int) ((k : Nat) : Int)) (j := 99) rfl (rfl) ?_
            clear hB
            refine fd_e_jmp (C := fd_c99) (j := 71) (st' := []) rfl rfl (b := true) rfl rfl ?_
            have e7 : (0 : Int) = fd_bi ((fd_exi (fd_okc' T) A && fd_all (fd_bqR T a b) (k + 1)) = true) := by
              have h8 : (fd_exi (fd_okc' T) A && fd_all (fd_bqR T a b) k) = true := by
                by_cases hh : (fd_exi (fd_okc' T) A && fd_all (fd_bqR T a b) k) = true
                · exact hh
                · exfalso; rw [fd_bi0 hh] at h7; omega
              rw [Bool.and_eq_true] at h8
              refine (fd_bi0 (fun z => ?_)).symm
              have z2 : (fd_exi (fd_okc' T) A && (fd_all (fd_bqR T a b) k && fd_bqR T a b k)) = true := z
              rw [h8.1, h8.2, Bool.true_and, Bool.true_and] at z2
              unfold fd_bqR at z2
              simp [h83, h88, h93] at z2
            exact ih (k + 1) _ (fd_wy T (T 204 0).toNat k) (fd_lk_wy T k) e7 (by omega)
          · have hB : ∀ (q0 : Int) (q1 : Int) (q2 : Int), fd_bl 1 (List.drop 94 fd_c99) [fd_R 199, a1, a2, a3, a4, fd_I q0, fd_I q1, fd_I i7, fd_I q2] [] (fd_wy T (T 204 0).toNat k) = some (true, [fd_R 199, a1, a2, a3, a4, fd_I q0, fd_I q1, fd_I i7, fd_I q2], [fd_I 1], (fd_wy T (T 204 0).toNat k)) := fun _ _ _ => rfl
            refine fd_e_blk 1 (C := fd_c99) (b := true) (L' := [fd_R 199, a1, a2, a3, a4, fd_I ((a : Nat) : Int), fd_I ((b : Nat) : Int), fd_I i7, fd_I ((k : Nat) : Int)]) (st' := [fd_I 1]) (M' := (fd_wy T (T 204 0).toNat k)) rfl (hB ((a : Nat) : Int) ((b : Nat) : Int) ((k : Nat) : Int)) (j := 95) rfl (rfl) ?_
            clear hB
            refine fd_e_jmp (C := fd_c99) (j := 97) (st' := [fd_I 1]) rfl rfl (b := true) rfl rfl ?_
            have hB : ∀ (q0 : Int) (q1 : Int) (q2 : Int), fd_bl 2 (List.drop 97 fd_c99) [fd_R 199, a1, a2, a3, a4, fd_I q0, fd_I q1, fd_I i7, fd_I q2] [fd_I 1] (fd_wy T (T 204 0).toNat k) = some (true, [fd_R 199, a1, a2, a3, a4, fd_I q0, fd_I q1, fd_I 1, fd_I (q2 + 1)], [], (fd_wy T (T 204 0).toNat k)) := fun _ _ _ => rfl
            refine fd_e_blk 2 (C := fd_c99) (b := true) (L' := [fd_R 199, a1, a2, a3, a4, fd_I ((a : Nat) : Int), fd_I ((b : Nat) : Int), fd_I 1, fd_I (((k + 1) : Nat) : Int)]) (st' := []) (M' := (fd_wy T (T 204 0).toNat k)) rfl (hB ((a : Nat) : Int) ((b : Nat) : Int) ((k : Nat) : Int)) (j := 99) rfl (rfl) ?_
            clear hB
            refine fd_e_jmp (C := fd_c99) (j := 71) (st' := []) rfl rfl (b := true) rfl rfl ?_
            have e7 : (1 : Int) = fd_bi ((fd_exi (fd_okc' T) A && fd_all (fd_bqR T a b) (k + 1)) = true) := by
              have h8 : (fd_exi (fd_okc' T) A && fd_all (fd_bqR T a b) k) = true := by
                by_cases hh : (fd_exi (fd_okc' T) A && fd_all (fd_bqR T a b) k) = true
                · exact hh
                · exfalso; rw [fd_bi0 hh] at h7; omega
              rw [Bool.and_eq_true] at h8
              refine (fd_bi1 ?_).symm
              show (fd_exi (fd_okc' T) A && (fd_all (fd_bqR T a b) k && fd_bqR T a b k)) = true
              rw [h8.1, h8.2, Bool.true_and, Bool.true_and]
              unfold fd_bqR
              first | (simp [h83]; done) | (simp [h88]; done) | (simp [Classical.not_not.mp h93]; done)
            exact ih (k + 1) _ (fd_wy T (T 204 0).toNat k) (fd_lk_wy T k) e7 (by omega)

theorem fd_l_bdB (T : fd_M) (hP : fd_RP T) (hS : fd_RS T) (hW : fd_RW T) (A : Nat) (eA : (4 : Int) ^ (T 204 0).toNat = (A : Int)) (hA : A ≤ 4096) (a : Nat) (ha : (a : Int) < T 204 0) (a1 : fd_V) (s' : Int × Int) (Q : Option fd_V → fd_M → Prop) (cont : ∀ (K : fd_M) (u6 u7 u8 : fd_V), fd_lk T K → (s'.1 = 0 ↔ s'.2 = -9) → fd_runE 6 99 51 [fd_R 199, a1, fd_I s'.1, fd_I s'.2, fd_I (fd_bi (fd_exi (fd_okc' T) A = true)), fd_I ((a + 1 : Nat) : Int), u6, u7, u8] [] K Q) : ∀ (n : Nat) (b : Nat) (s : Int × Int) (K : fd_M) (u7 u8 : fd_V) (hK : fd_lk T K) (hb : (b : Int) + n = T 204 0) (hab : a < b) (hI : s.1 = 0 ↔ s.2 = -9) (hf : -9 ≤ s.2 ∧ s.2 ≤ 99) (h1 : 0 ≤ s.1 ∧ s.1 ≤ a * 6 + b) (he : fd_bin (fd_bqq T A) a n b s = s'), fd_runE 6 99 61 [fd_R 199, a1, fd_I s.1, fd_I s.2, fd_I (fd_bi (fd_exi (fd_okc' T) A = true)), fd_I ((a : Nat) : Int), fd_I ((b : Nat) : Int), u7, u8] [] K Q := by
  obtain ⟨g0, g1, g2, g3, g4, g5⟩ := id hP
  intro n
  induction n with
  | zero =>
    intro b s K u7 u8 hK hb hab hI hf h1 he
    have e4 : K 204 0 = T 204 0 := by rw [hK.1.1 204 (by decide) (by decide)]
    have hB : ∀ (q0 : Int) (q1 : Int), fd_bl 5 (List.drop 61 fd_c99) [fd_R 199, a1, fd_I s.1, fd_I s.2, fd_I (fd_bi (fd_exi (fd_okc' T) A = true)), fd_I q0, fd_I q1, u7, u8] [] K = some (true, [fd_R 199, a1, fd_I s.1, fd_I s.2, fd_I (fd_bi (fd_exi (fd_okc' T) A = true)), fd_I q0, fd_I q1, u7, u8], [fd_I (K 204 0), fd_I q1], K) := fun _ _ => rfl
    refine fd_e_blk 5 (C := fd_c99) (b := true) (L' := [fd_R 199, a1, fd_I s.1, fd_I s.2, fd_I (fd_bi (fd_exi (fd_okc' T) A = true)), fd_I ((a : Nat) : Int), fd_I ((b : Nat) : Int), u7, u8]) (st' := [fd_I (K 204 0), fd_I ((b : Nat) : Int)]) (M' := K) rfl (hB ((a : Nat) : Int) ((b : Nat) : Int)) (j := 66) rfl (rfl) ?_
    clear hB
    refine fd_e_br (C := fd_c99) (t := 122) (e := 67) (st' := []) (c := (K 204 0) ≤ ((b : Nat) : Int)) (b := (fd_rng ((b : Nat) : Int) && fd_rng (K 204 0))) rfl rfl rfl (fd_bA (fd_bR (by omega) (by omega)) (fd_bR (by omega) (by omega))) (fun h66 => ?_) (fun h66 => absurd h66 (by omega))
    have hB : ∀ (q0 : Int) (q1 : Int), fd_bl 1 (List.drop 122 fd_c99) [fd_R 199, a1, fd_I s.1, fd_I s.2, fd_I (fd_bi (fd_exi (fd_okc' T) A = true)), fd_I q0, fd_I q1, u7, u8] [] K = some (true, [fd_R 199, a1, fd_I s.1, fd_I s.2, fd_I (fd_bi (fd_exi (fd_okc' T) A = true)), fd_I (q0 + 1), fd_I q1, u7, u8], [], K) := fun _ _ => rfl
    refine fd_e_blk 1 (C := fd_c99) (b := true) (L' := [fd_R 199, a1, fd_I s.1, fd_I s.2, fd_I (fd_bi (fd_exi (fd_okc' T) A = true)), fd_I (((a + 1) : Nat) : Int), fd_I ((b : Nat) : Int), u7, u8]) (st' := []) (M' := K) rfl (hB ((a : Nat) : Int) ((b : Nat) : Int)) (j := 123) rfl (rfl) ?_
    clear hB
    refine fd_e_jmp (C := fd_c99) (j := 51) (st' := []) rfl rfl (b := true) rfl rfl ?_
    have e0 : s = s' := he
    rw [e0] at hI ⊢
    exact cont K _ _ _ hK hI
  | succ n ih =>
    intro b s K u7 u8 hK hb hab hI hf h1 he
    have e4 : K 204 0 = T 204 0 := by rw [hK.1.1 204 (by decide) (by decide)]
    have hB : ∀ (q0 : Int) (q1 : Int), fd_bl 5 (List.drop 61 fd_c99) [fd_R 199, a1, fd_I s.1, fd_I s.2, fd_I (fd_bi (fd_exi (fd_okc' T) A = true)), fd_I q0, fd_I q1, u7, u8] [] K = some (true, [fd_R 199, a1, fd_I s.1, fd_I s.2, fd_I (fd_bi (fd_exi (fd_okc' T) A = true)), fd_I q0, fd_I q1, u7, u8], [fd_I (K 204 0), fd_I q1], K) := fun _ _ => rfl
    refine fd_e_blk 5 (C := fd_c99) (b := true) (L' := [fd_R 199, a1, fd_I s.1, fd_I s.2, fd_I (fd_bi (fd_exi (fd_okc' T) A = true)), fd_I ((a : Nat) : Int), fd_I ((b : Nat) : Int), u7, u8]) (st' := [fd_I (K 204 0), fd_I ((b : Nat) : Int)]) (M' := K) rfl (hB ((a : Nat) : Int) ((b : Nat) : Int)) (j := 66) rfl (rfl) ?_
    clear hB
    refine fd_e_br (C := fd_c99) (t := 122) (e := 67) (st' := []) (c := (K 204 0) ≤ ((b : Nat) : Int)) (b := (fd_rng ((b : Nat) : Int) && fd_rng (K 204 0))) rfl rfl rfl (fd_bA (fd_bR (by omega) (by omega)) (fd_bR (by omega) (by omega))) (fun h66 => absurd h66 (by omega)) (fun h66 => ?_)
    have hB : ∀ (q0 : Int) (q1 : Int), fd_bl 4 (List.drop 67 fd_c99) [fd_R 199, a1, fd_I s.1, fd_I s.2, fd_I (fd_bi (fd_exi (fd_okc' T) A = true)), fd_I q0, fd_I q1, u7, u8] [] K = some (true, [fd_R 199, a1, fd_I s.1, fd_I s.2, fd_I (fd_bi (fd_exi (fd_okc' T) A = true)), fd_I q0, fd_I q1, fd_I (fd_bi (fd_exi (fd_okc' T) A = true)), fd_I 0], [], K) := fun _ _ => rfl
    refine fd_e_blk 4 (C := fd_c99) (b := true) (L' := [fd_R 199, a1, fd_I s.1, fd_I s.2, fd_I (fd_bi (fd_exi (fd_okc' T) A = true)), fd_I ((a : Nat) : Int), fd_I ((b : Nat) : Int), fd_I (fd_bi (fd_exi (fd_okc' T) A = true)), fd_I 0]) (st' := []) (M' := K) rfl (hB ((a : Nat) : Int) ((b : Nat) : Int)) (j := 71) rfl (rfl) ?_
    clear hB
    refine fd_l_bdI T hP hS hW A eA hA a b ha (by omega) _ _ _ _ _ (fun K u hK => ?_) A 0 _ K hK (by rw [show fd_all (fd_bqR T a b) 0 = true from rfl, Bool.and_true]) (by omega)
    have e4 : K 204 0 = T 204 0 := by rw [hK.1.1 204 (by decide) (by decide)]
    have hB : ∀ (q0 : Int) (q1 : Int), fd_bl 1 (List.drop 100 fd_c99) [fd_R 199, a1, fd_I s.1, fd_I s.2, fd_I (fd_bi (fd_exi (fd_okc' T) A = true)), fd_I q0, fd_I q1, fd_I (fd_bi (fd_bqq T A a b = true)), u] [] K = some (true, [fd_R 199, a1, fd_I s.1, fd_I s.2, fd_I (fd_bi (fd_exi (fd_okc' T) A = true)), fd_I q0, fd_I q1, fd_I (fd_bi (fd_bqq T A a b = true)), u], [fd_I (fd_bi (fd_bqq T A a b = true))], K) := fun _ _ => rfl
    refine fd_e_blk 1 (C := fd_c99) (b := true) (L' := [fd_R 199, a1, fd_I s.1, fd_I s.2, fd_I (fd_bi (fd_exi (fd_okc' T) A = true)), fd_I ((a : Nat) : Int), fd_I ((b : Nat) : Int), fd_I (fd_bi (fd_bqq T A a b = true)), u]) (st' := [fd_I (fd_bi (fd_bqq T A a b = true))]) (M' := K) rfl (hB ((a : Nat) : Int) ((b : Nat) : Int)) (j := 101) rfl (rfl) ?_
    clear hB
    refine fd_e_br (C := fd_c99) (t := 110) (e := 102) (st' := []) (c := (fd_bi (fd_bqq T A a b = true)) = 0) (b := (fd_rng (fd_bi (fd_bqq T A a b = true)))) rfl rfl rfl (fd_biR) (fun h101 => ?_) (fun h101 => ?_)
    · have h101 := fd_biF.mp h101
      have hB : ∀ (q0 : Int) (q1 : Int), fd_bl 4 (List.drop 110 fd_c99) [fd_R 199, a1, fd_I s.1, fd_I s.2, fd_I (fd_bi (fd_exi (fd_okc' T) A = true)), fd_I q0, fd_I q1, fd_I (fd_bi (fd_bqq T A a b = true)), u] [] K = some (true, [fd_R 199, a1, fd_I s.1, fd_I s.2, fd_I (fd_bi (fd_exi (fd_okc' T) A = true)), fd_I q0, fd_I q1, fd_I (fd_bi (fd_bqq T A a b = true)), u], [fd_I (fd_bi (fd_bqq T A a b = true)), fd_I s.1], K) := fun _ _ => rfl
      refine fd_e_blk 4 (C := fd_c99) (b := true) (L' := [fd_R 199, a1, fd_I s.1, fd_I s.2, fd_I (fd_bi (fd_exi (fd_okc' T) A = true)), fd_I ((a : Nat) : Int), fd_I ((b : Nat) : Int), fd_I (fd_bi (fd_bqq T A a b = true)), u]) (st' := [fd_I (fd_bi (fd_bqq T A a b = true)), fd_I s.1]) (M' := K) rfl (hB ((a : Nat) : Int) ((b : Nat) : Int)) (j := 114) rfl (rfl) ?_
      clear hB
      refine fd_e_br (C := fd_c99) (t := 117) (e := 115) (st' := [fd_I s.1]) (c := (fd_bi (fd_bqq T A a b = true)) = 0) (b := (fd_rng (fd_bi (fd_bqq T A a b = true)))) rfl rfl rfl (fd_biR) (fun h114 => ?_) (fun h114 => ?_)
      · have h114 := fd_biF.mp h114
        have hB : ∀ (q0 : Int) (q1 : Int), fd_bl 4 (List.drop 117 fd_c99) [fd_R 199, a1, fd_I s.1, fd_I s.2, fd_I (fd_bi (fd_exi (fd_okc' T) A = true)), fd_I q0, fd_I q1, fd_I (fd_bi (fd_bqq T A a b = true)), u] [fd_I s.1] K = some (true, [fd_R 199, a1, fd_I (s.1 + 0), fd_I s.2, fd_I (fd_bi (fd_exi (fd_okc' T) A = true)), fd_I q0, fd_I (q1 + 1), fd_I (fd_bi (fd_bqq T A a b = true)), u], [], K) := fun _ _ => rfl
        refine fd_e_blk 4 (C := fd_c99) (b := true) (L' := [fd_R 199, a1, fd_I (s.1 + 0), fd_I s.2, fd_I (fd_bi (fd_exi (fd_okc' T) A = true)), fd_I ((a : Nat) : Int), fd_I (((b + 1) : Nat) : Int), fd_I (fd_bi (fd_bqq T A a b = true)), u]) (st' := []) (M' := K) rfl (hB ((a : Nat) : Int) ((b : Nat) : Int)) (j := 121) rfl (rfl) ?_
        clear hB
        refine fd_e_jmp (C := fd_c99) (j := 61) (st' := []) rfl rfl (b := true) rfl rfl ?_
        have e5 : fd_bst (fd_bqq T A) a b s = s := by
          unfold fd_bst
          rw [if_neg (by first | exact h101 | exact h114)]
        rw [show s.1 + 0 = s.1 by omega]
        refine ih (b + 1) s K _ _ hK (by omega) (by omega) hI hf (by omega) ?_
        have he2 := he
        unfold fd_bin at he2
        rw [e5] at he2
        exact he2
      · have h114 := fd_biT.mp h114
        have hB : ∀ (q0 : Int) (q1 : Int), fd_bl 1 (List.drop 115 fd_c99) [fd_R 199, a1, fd_I s.1, fd_I s.2, fd_I (fd_bi (fd_exi (fd_okc' T) A = true)), fd_I q0, fd_I q1, fd_I (fd_bi (fd_bqq T A a b = true)), u] [fd_I s.1] K = some (true, [fd_R 199, a1, fd_I s.1, fd_I s.2, fd_I (fd_bi (fd_exi (fd_okc' T) A = true)), fd_I q0, fd_I q1, fd_I (fd_bi (fd_bqq T A a b = true)), u], [fd_I 1, fd_I s.1], K) := fun _ _ => rfl
        refine fd_e_blk 1 (C := fd_c99) (b := true) (L' := [fd_R 199, a1, fd_I s.1, fd_I s.2, fd_I (fd_bi (fd_exi (fd_okc' T) A = true)), fd_I ((a : Nat) : Int), fd_I ((b : Nat) : Int), fd_I (fd_bi (fd_bqq T A a b = true)), u]) (st' := [fd_I 1, fd_I s.1]) (M' := K) rfl (hB ((a : Nat) : Int) ((b : Nat) : Int)) (j := 116) rfl (rfl) ?_
        clear hB
        refine fd_e_jmp (C := fd_c99) (j := 118) (st' := [fd_I 1, fd_I s.1]) rfl rfl (b := true) rfl rfl ?_
        have hB : ∀ (q0 : Int) (q1 : Int), fd_bl 3 (List.drop 118 fd_c99) [fd_R 199, a1, fd_I s.1, fd_I s.2, fd_I (fd_bi (fd_exi (fd_okc' T) A = true)), fd_I q0, fd_I q1, fd_I (fd_bi (fd_bqq T A a b = true)), u] [fd_I 1, fd_I s.1] K = some (true, [fd_R 199, a1, fd_I (s.1 + 1), fd_I s.2, fd_I (fd_bi (fd_exi (fd_okc' T) A = true)), fd_I q0, fd_I (q1 + 1), fd_I (fd_bi (fd_bqq T A a b = true)), u], [], K) := fun _ _ => rfl
        refine fd_e_blk 3 (C := fd_c99) (b := true) (L' := [fd_R 199, a1, fd_I (s.1 + 1), fd_I s.2, fd_I (fd_bi (fd_exi (fd_okc' T) A = true)), fd_I ((a : Nat) : Int), fd_I (((b + 1) : Nat) : Int), fd_I (fd_bi (fd_bqq T A a b = true)), u]) (st' := []) (M' := K) rfl (hB ((a : Nat) : Int) ((b : Nat) : Int)) (j := 121) rfl (rfl) ?_
        clear hB
        refine fd_e_jmp (C := fd_c99) (j := 61) (st' := []) rfl rfl (b := true) rfl rfl ?_
        have e5 : fd_bst (fd_bqq T A) a b s = ((s.1 + 1), s.2) := by
          unfold fd_bst
          rw [if_pos (by first | exact h101 | exact h114)]
          first | (rw [if_pos (hI.mp (by omega))]; done) | (rw [if_neg (fun z => absurd (hI.mpr z) (by omega))]; done)
        refine ih (b + 1) ((s.1 + 1), s.2) K _ _ hK (by omega) (by omega) (by dsimp only; omega) (by dsimp only; omega) (by dsimp only; omega) ?_
        rw [← e5]
        exact he
    · have h101 := fd_biT.mp h101
      have hB : ∀ (q0 : Int) (q1 : Int), fd_bl 1 (List.drop 102 fd_c99) [fd_R 199, a1, fd_I s.1, fd_I s.2, fd_I (fd_bi (fd_exi (fd_okc' T) A = true)), fd_I q0, fd_I q1, fd_I (fd_bi (fd_bqq T A a b = true)), u] [] K = some (true, [fd_R 199, a1, fd_I s.1, fd_I s.2, fd_I (fd_bi (fd_exi (fd_okc' T) A = true)), fd_I q0, fd_I q1, fd_I (fd_bi (fd_bqq T A a b = true)), u], [fd_I s.1], K) := fun _ _ => rfl
      refine fd_e_blk 1 (C := fd_c99) (b := true) (L' := [fd_R 199, a1, fd_I s.1, fd_I s.2, fd_I (fd_bi (fd_exi (fd_okc' T) A = true)), fd_I ((a : Nat) : Int), fd_I ((b : Nat) : Int), fd_I (fd_bi (fd_bqq T A a b = true)), u]) (st' := [fd_I s.1]) (M' := K) rfl (hB ((a : Nat) : Int) ((b : Nat) : Int)) (j := 103) rfl (rfl) ?_
      clear hB
      refine fd_e_br (C := fd_c99) (t := 110) (e := 104) (st' := []) (c := ¬ s.1 = 0) (b := (fd_rng s.1)) rfl rfl rfl (fd_bR (by omega) (by omega)) (fun h103 => ?_) (fun h103 => ?_)
      · have hB : ∀ (q0 : Int) (q1 : Int), fd_bl 4 (List.drop 110 fd_c99) [fd_R 199, a1, fd_I s.1, fd_I s.2, fd_I (fd_bi (fd_exi (fd_okc' T) A = true)), fd_I q0, fd_I q1, fd_I (fd_bi (fd_bqq T A a b = true)), u] [] K = some (true, [fd_R 199, a1, fd_I s.1, fd_I s.2, fd_I (fd_bi (fd_exi (fd_okc' T) A = true)), fd_I q0, fd_I q1, fd_I (fd_bi (fd_bqq T A a b = true)), u], [fd_I (fd_bi (fd_bqq T A a b = true)), fd_I s.1], K) := fun _ _ => rfl
        refine fd_e_blk 4 (C := fd_c99) (b := true) (L' := [fd_R 199, a1, fd_I s.1, fd_I s.2, fd_I (fd_bi (fd_exi (fd_okc' T) A = true)), fd_I ((a : Nat) : Int), fd_I ((b : Nat) : Int), fd_I (fd_bi (fd_bqq T A a b = true)), u]) (st' := [fd_I (fd_bi (fd_bqq T A a b = true)), fd_I s.1]) (M' := K) rfl (hB ((a : Nat) : Int) ((b : Nat) : Int)) (j := 114) rfl (rfl) ?_
        clear hB
        refine fd_e_br (C := fd_c99) (t := 117) (e := 115) (st' := [fd_I s.1]) (c := (fd_bi (fd_bqq T A a b = true)) = 0) (b := (fd_rng (fd_bi (fd_bqq T A a b = true)))) rfl rfl rfl (fd_biR) (fun h114 => ?_) (fun h114 => ?_)
        · have h114 := fd_biF.mp h114
          have hB : ∀ (q0 : Int) (q1 : Int), fd_bl 4 (List.drop 117 fd_c99) [fd_R 199, a1, fd_I s.1, fd_I s.2, fd_I (fd_bi (fd_exi (fd_okc' T) A = true)), fd_I q0, fd_I q1, fd_I (fd_bi (fd_bqq T A a b = true)), u] [fd_I s.1] K = some (true, [fd_R 199, a1, fd_I (s.1 + 0), fd_I s.2, fd_I (fd_bi (fd_exi (fd_okc' T) A = true)), fd_I q0, fd_I (q1 + 1), fd_I (fd_bi (fd_bqq T A a b = true)), u], [], K) := fun _ _ => rfl
          refine fd_e_blk 4 (C := fd_c99) (b := true) (L' := [fd_R 199, a1, fd_I (s.1 + 0), fd_I s.2, fd_I (fd_bi (fd_exi (fd_okc' T) A = true)), fd_I ((a : Nat) : Int), fd_I (((b + 1) : Nat) : Int), fd_I (fd_bi (fd_bqq T A a b = true)), u]) (st' := []) (M' := K) rfl (hB ((a : Nat) : Int) ((b : Nat) : Int)) (j := 121) rfl (rfl) ?_
          clear hB
          refine fd_e_jmp (C := fd_c99) (j := 61) (st' := []) rfl rfl (b := true) rfl rfl ?_
          have e5 : fd_bst (fd_bqq T A) a b s = s := by
            unfold fd_bst
            rw [if_neg (by first | exact h101 | exact h114)]
          rw [show s.1 + 0 = s.1 by omega]
          refine ih (b + 1) s K _ _ hK (by omega) (by omega) hI hf (by omega) ?_
          have he2 := he
          unfold fd_bin at he2
          rw [e5] at he2
          exact he2
        · have h114 := fd_biT.mp h114
          have hB : ∀ (q0 : Int) (q1 : Int), fd_bl 1 (List.drop 115 fd_c99) [fd_R 199, a1, fd_I s.1, fd_I s.2, fd_I (fd_bi (fd_exi (fd_okc' T) A = true)), fd_I q0, fd_I q1, fd_I (fd_bi (fd_bqq T A a b = true)), u] [fd_I s.1] K = some (true, [fd_R 199, a1, fd_I s.1, fd_I s.2, fd_I (fd_bi (fd_exi (fd_okc' T) A = true)), fd_I q0, fd_I q1, fd_I (fd_bi (fd_bqq T A a b = true)), u], [fd_I 1, fd_I s.1], K) := fun _ _ => rfl
          refine fd_e_blk 1 (C := fd_c99) (b := true) (L' := [fd_R 199, a1, fd_I s.1, fd_I s.2, fd_I (fd_bi (fd_exi (fd_okc' T) A = true)), fd_I ((a : Nat) : Int), fd_I ((b : Nat) : Int), fd_I (fd_bi (fd_bqq T A a b = true)), u]) (st' := [fd_I 1, fd_I s.1]) (M' := K) rfl (hB ((a : Nat) : Int) ((b : Nat) : Int)) (j := 116) rfl (rfl) ?_
          clear hB
          refine fd_e_jmp (C := fd_c99) (j := 118) (st' := [fd_I 1, fd_I s.1]) rfl rfl (b := true) rfl rfl ?_
          have hB : ∀ (q0 : Int) (q1 : Int), fd_bl 3 (List.drop 118 fd_c99) [fd_R 199, a1, fd_I s.1, fd_I s.2, fd_I (fd_bi (fd_exi (fd_okc' T) A = true)), fd_I q0, fd_I q1, fd_I (fd_bi (fd_bqq T A a b = true)), u] [fd_I 1, fd_I s.1] K = some (true, [fd_R 199, a1, fd_I (s.1 + 1), fd_I s.2, fd_I (fd_bi (fd_exi (fd_okc' T) A = true)), fd_I q0, fd_I (q1 + 1), fd_I (fd_bi (fd_bqq T A a b = true)), u], [], K) := fun _ _ => rfl
          refine fd_e_blk 3 (C := fd_c99) (b := true) (L' := [fd_R 199, a1, fd_I (s.1 + 1), fd_I s.2, fd_I (fd_bi (fd_exi (fd_okc' T) A = true)), fd_I ((a : Nat) : Int), fd_I (((b + 1) : Nat) : Int), fd_I (fd_bi (fd_bqq T A a b = true)), u]) (st' := []) (M' := K) rfl (hB ((a : Nat) : Int) ((b : Nat) : Int)) (j := 121) rfl (rfl) ?_
          clear hB
          refine fd_e_jmp (C := fd_c99) (j := 61) (st' := []) rfl rfl (b := true) rfl rfl ?_
          have e5 : fd_bst (fd_bqq T A) a b s = ((s.1 + 1), s.2) := by
            unfold fd_bst
            rw [if_pos (by first | exact h101 | exact h114)]
            first | (rw [if_pos (hI.mp (by omega))]; done) | (rw [if_neg (fun z => absurd (hI.mpr z) (by omega))]; done)
          refine ih (b + 1) ((s.1 + 1), s.2) K _ _ hK (by omega) (by omega) (by dsimp only; omega) (by dsimp only; omega) (by dsimp only; omega) ?_
          rw [← e5]
          exact he
      · have hB : ∀ (q0 : Int) (q1 : Int), fd_bl 5 (List.drop 104 fd_c99) [fd_R 199, a1, fd_I s.1, fd_I s.2, fd_I (fd_bi (fd_exi (fd_okc' T) A = true)), fd_I q0, fd_I q1, fd_I (fd_bi (fd_bqq T A a b = true)), u] [] K = some (true, [fd_R 199, a1, fd_I s.1, fd_I s.2, fd_I (fd_bi (fd_exi (fd_okc' T) A = true)), fd_I q0, fd_I q1, fd_I (fd_bi (fd_bqq T A a b = true)), u], [fd_I ((10 * q0) + q1)], K) := fun _ _ => rfl
        refine fd_e_blk 5 (C := fd_c99) (b := true) (L' := [fd_R 199, a1, fd_I s.1, fd_I s.2, fd_I (fd_bi (fd_exi (fd_okc' T) A = true)), fd_I ((a : Nat) : Int), fd_I ((b : Nat) : Int), fd_I (fd_bi (fd_bqq T A a b = true)), u]) (st' := [fd_I ((10 * ((a : Nat) : Int)) + ((b : Nat) : Int))]) (M' := K) rfl (hB ((a : Nat) : Int) ((b : Nat) : Int)) (j := 109) rfl (rfl) ?_
        clear hB
        refine fd_e_jmp (C := fd_c99) (j := 111) (st' := [fd_I ((10 * ((a : Nat) : Int)) + ((b : Nat) : Int))]) rfl rfl (b := true) rfl rfl ?_
        have hB : ∀ (q0 : Int) (q1 : Int) (q2 : Int), fd_bl 3 (List.drop 111 fd_c99) [fd_R 199, a1, fd_I s.1, fd_I s.2, fd_I (fd_bi (fd_exi (fd_okc' T) A = true)), fd_I q0, fd_I q1, fd_I (fd_bi (fd_bqq T A a b = true)), u] [fd_I q2] K = some (true, [fd_R 199, a1, fd_I s.1, fd_I q2, fd_I (fd_bi (fd_exi (fd_okc' T) A = true)), fd_I q0, fd_I q1, fd_I (fd_bi (fd_bqq T A a b = true)), u], [fd_I (fd_bi (fd_bqq T A a b = true)), fd_I s.1], K) := fun _ _ _ => rfl
        refine fd_e_blk 3 (C := fd_c99) (b := true) (L' := [fd_R 199, a1, fd_I s.1, fd_I ((10 * ((a : Nat) : Int)) + ((b : Nat) : Int)), fd_I (fd_bi (fd_exi (fd_okc' T) A = true)), fd_I ((a : Nat) : Int), fd_I ((b : Nat) : Int), fd_I (fd_bi (fd_bqq T A a b = true)), u]) (st' := [fd_I (fd_bi (fd_bqq T A a b = true)), fd_I s.1]) (M' := K) rfl (hB ((a : Nat) : Int) ((b : Nat) : Int) ((10 * ((a : Nat) : Int)) + ((b : Nat) : Int))) (j := 114) rfl (rfl) ?_
        clear hB
        refine fd_e_br (C := fd_c99) (t := 117) (e := 115) (st' := [fd_I s.1]) (c := (fd_bi (fd_bqq T A a b = true)) = 0) (b := (fd_rng (fd_bi (fd_bqq T A a b = true)))) rfl rfl rfl (fd_biR) (fun h114 => ?_) (fun h114 => ?_)
        · have h114 := fd_biF.mp h114
          have hB : ∀ (q0 : Int) (q1 : Int) (q2 : Int), fd_bl 4 (List.drop 117 fd_c99) [fd_R 199, a1, fd_I s.1, fd_I q0, fd_I (fd_bi (fd_exi (fd_okc' T) A = true)), fd_I q1, fd_I q2, fd_I (fd_bi (fd_bqq T A a b = true)), u] [fd_I s.1] K = some (true, [fd_R 199, a1, fd_I (s.1 + 0), fd_I q0, fd_I (fd_bi (fd_exi (fd_okc' T) A = true)), fd_I q1, fd_I (q2 + 1), fd_I (fd_bi (fd_bqq T A a b = true)), u], [], K) := fun _ _ _ => rfl
          refine fd_e_blk 4 (C := fd_c99) (b := true) (L' := [fd_R 199, a1, fd_I (s.1 + 0), fd_I ((10 * ((a : Nat) : Int)) + ((b : Nat) : Int)), fd_I (fd_bi (fd_exi (fd_okc' T) A = true)), fd_I ((a : Nat) : Int), fd_I (((b + 1) : Nat) : Int), fd_I (fd_bi (fd_bqq T A a b = true)), u]) (st' := []) (M' := K) rfl (hB ((10 * ((a : Nat) : Int)) + ((b : Nat) : Int)) ((a : Nat) : Int) ((b : Nat) : Int)) (j := 121) rfl (rfl) ?_
          clear hB
          refine fd_e_jmp (C := fd_c99) (j := 61) (st' := []) rfl rfl (b := true) rfl rfl ?_
          exact absurd h101 h114
        · have h114 := fd_biT.mp h114
          have hB : ∀ (q0 : Int) (q1 : Int) (q2 : Int), fd_bl 1 (List.drop 115 fd_c99) [fd_R 199, a1, fd_I s.1, fd_I q0, fd_I (fd_bi (fd_exi (fd_okc' T) A = true)), fd_I q1, fd_I q2, fd_I (fd_bi (fd_bqq T A a b = true)), u] [fd_I s.1] K = some (true, [fd_R 199, a1, fd_I s.1, fd_I q0, fd_I (fd_bi (fd_exi (fd_okc' T) A = true)), fd_I q1, fd_I q2, fd_I (fd_bi (fd_bqq T A a b = true)), u], [fd_I 1, fd_I s.1], K) := fun _ _ _ => rfl
          refine fd_e_blk 1 (C := fd_c99) (b := true) (L' := [fd_R 199, a1, fd_I s.1, fd_I ((10 * ((a : Nat) : Int)) + ((b : Nat) : Int)), fd_I (fd_bi (fd_exi (fd_okc' T) A = true)), fd_I ((a : Nat) : Int), fd_I ((b : Nat) : Int), fd_I (fd_bi (fd_bqq T A a b = true)), u]) (st' := [fd_I 1, fd_I s.1]) (M' := K) rfl (hB ((10 * ((a : Nat) : Int)) + ((b : Nat) : Int)) ((a : Nat) : Int) ((b : Nat) : Int)) (j := 116) rfl (rfl) ?_
          clear hB
          refine fd_e_jmp (C := fd_c99) (j := 118) (st' := [fd_I 1, fd_I s.1]) rfl rfl (b := true) rfl rfl ?_
          have hB : ∀ (q0 : Int) (q1 : Int) (q2 : Int), fd_bl 3 (List.drop 118 fd_c99) [fd_R 199, a1, fd_I s.1, fd_I q0, fd_I (fd_bi (fd_exi (fd_okc' T) A = true)), fd_I q1, fd_I q2, fd_I (fd_bi (fd_bqq T A a b = true)), u] [fd_I 1, fd_I s.1] K = some (true, [fd_R 199, a1, fd_I (s.1 + 1), fd_I q0, fd_I (fd_bi (fd_exi (fd_okc' T) A = true)), fd_I q1, fd_I (q2 + 1), fd_I (fd_bi (fd_bqq T A a b = true)), u], [], K) := fun _ _ _ => rfl
          refine fd_e_blk 3 (C := fd_c99) (b := true) (L' := [fd_R 199, a1, fd_I (s.1 + 1), fd_I ((10 * ((a : Nat) : Int)) + ((b : Nat) : Int)), fd_I (fd_bi (fd_exi (fd_okc' T) A = true)), fd_I ((a : Nat) : Int), fd_I (((b + 1) : Nat) : Int), fd_I (fd_bi (fd_bqq T A a b = true)), u]) (st' := []) (M' := K) rfl (hB ((10 * ((a : Nat) : Int)) + ((b : Nat) : Int)) ((a : Nat) : Int) ((b : Nat) : Int)) (j := 121) rfl (rfl) ?_
          clear hB
          refine fd_e_jmp (C := fd_c99) (j := 61) (st' := []) rfl rfl (b := true) rfl rfl ?_
          have e5 : fd_bst (fd_bqq T A) a b s = ((s.1 + 1), ((10 * ((a : Nat) : Int)) + ((b : Nat) : Int))) := by
            unfold fd_bst
            rw [if_pos (by first | exact h101 | exact h114)]
            first | (rw [if_pos (hI.mp (by omega))]; done) | (rw [if_neg (fun z => absurd (hI.mpr z) (by omega))]; done)
          refine ih (b + 1) ((s.1 + 1), ((10 * ((a : Nat) : Int)) + ((b : Nat) : Int))) K _ _ hK (by omega) (by omega) (by dsimp only; omega) (by dsimp only; omega) (by dsimp only; omega) ?_
          rw [← e5]
          exact he

theorem fd_bin_rng1 (q : Nat → Nat → Bool) (a : Nat) : ∀ (n b : Nat) (s : Int × Int), 0 ≤ s.1 → 0 ≤ (fd_bin q a n b s).1 ∧ (fd_bin q a n b s).1 ≤ s.1 + n
  | 0, _, s, h => by
    show 0 ≤ s.1 ∧ s.1 ≤ s.1 + ((0 : Nat) : Int)
    omega
  | n + 1, b, s, h => by
    show 0 ≤ (fd_bin q a n (b + 1) (fd_bst q a b s)).1 ∧ (fd_bin q a n (b + 1) (fd_bst q a b s)).1 ≤ _
    have e : 0 ≤ (fd_bst q a b s).1 ∧ (fd_bst q a b s).1 ≤ s.1 + 1 := by
      unfold fd_bst
      split
      · dsimp only; omega
      · omega
    have := fd_bin_rng1 q a n (b + 1) (fd_bst q a b s) e.1
    omega
theorem fd_l_bdA (T : fd_M) (hP : fd_RP T) (hS : fd_RS T) (hW : fd_RW T) (A : Nat) (eA : (4 : Int) ^ (T 204 0).toNat = (A : Int)) (hA : A ≤ 4096) (w : Int) (hw : 0 ≤ w ∧ w ≤ 1) (s' : Int × Int) : ∀ (n : Nat) (a : Nat) (s : Int × Int) (K : fd_M) (u6 u7 u8 : fd_V) (hK : fd_lk T K) (hb : (a : Int) + n = T 204 0) (hI : s.1 = 0 ↔ s.2 = -9) (hf : -9 ≤ s.2 ∧ s.2 ≤ 99) (h1 : 0 ≤ s.1 ∧ s.1 ≤ a * 6) (he : fd_bou (fd_bqq T A) (T 204 0).toNat n a s = s'), fd_runE 6 99 51 [fd_R 199, fd_I w, fd_I s.1, fd_I s.2, fd_I (fd_bi (fd_exi (fd_okc' T) A = true)), fd_I ((a : Nat) : Int), u6, u7, u8] [] K (fun r R => r = some (fd_I (if w = 0 then (if fd_exi (fd_okc' T) A = true then s'.1 else -9) else s'.2)) ∧ fd_smR T R) := by
  obtain ⟨g0, g1, g2, g3, g4, g5⟩ := id hP
  intro n
  induction n with
  | zero =>
    intro a s K u6 u7 u8 hK hb hI hf h1 he
    have e4 : K 204 0 = T 204 0 := by rw [hK.1.1 204 (by decide) (by decide)]
    have hB : ∀ (q0 : Int), fd_bl 5 (List.drop 51 fd_c99) [fd_R 199, fd_I w, fd_I s.1, fd_I s.2, fd_I (fd_bi (fd_exi (fd_okc' T) A = true)), fd_I q0, u6, u7, u8] [] K = some (true, [fd_R 199, fd_I w, fd_I s.1, fd_I s.2, fd_I (fd_bi (fd_exi (fd_okc' T) A = true)), fd_I q0, u6, u7, u8], [fd_I (K 204 0), fd_I q0], K) := fun _ => rfl
    refine fd_e_blk 5 (C := fd_c99) (b := true) (L' := [fd_R 199, fd_I w, fd_I s.1, fd_I s.2, fd_I (fd_bi (fd_exi (fd_okc' T) A = true)), fd_I ((a : Nat) : Int), u6, u7, u8]) (st' := [fd_I (K 204 0), fd_I ((a : Nat) : Int)]) (M' := K) rfl (hB ((a : Nat) : Int)) (j := 56) rfl (rfl) ?_
    clear hB
    refine fd_e_br (C := fd_c99) (t := 124) (e := 57) (st' := []) (c := (K 204 0) ≤ ((a : Nat) : Int)) (b := (fd_rng ((a : Nat) : Int) && fd_rng (K 204 0))) rfl rfl rfl (fd_bA (fd_bR (by omega) (by omega)) (fd_bR (by omega) (by omega))) (fun h56 => ?_) (fun h56 => absurd h56 (by omega))
    have hB : ∀ (q0 : Int), fd_bl 1 (List.drop 124 fd_c99) [fd_R 199, fd_I w, fd_I s.1, fd_I s.2, fd_I (fd_bi (fd_exi (fd_okc' T) A = true)), fd_I q0, u6, u7, u8] [] K = some (true, [fd_R 199, fd_I w, fd_I s.1, fd_I s.2, fd_I (fd_bi (fd_exi (fd_okc' T) A = true)), fd_I q0, u6, u7, u8], [fd_I w], K) := fun _ => rfl
    refine fd_e_blk 1 (C := fd_c99) (b := true) (L' := [fd_R 199, fd_I w, fd_I s.1, fd_I s.2, fd_I (fd_bi (fd_exi (fd_okc' T) A = true)), fd_I ((a : Nat) : Int), u6, u7, u8]) (st' := [fd_I w]) (M' := K) rfl (hB ((a : Nat) : Int)) (j := 125) rfl (rfl) ?_
    clear hB
    refine fd_e_br (C := fd_c99) (t := 132) (e := 126) (st' := []) (c := ¬ w = 0) (b := (fd_rng w)) rfl rfl rfl (fd_bR (by omega) (by omega)) (fun h125 => ?_) (fun h125 => ?_)
    · have hB : ∀ (q0 : Int), fd_bl 1 (List.drop 132 fd_c99) [fd_R 199, fd_I w, fd_I s.1, fd_I s.2, fd_I (fd_bi (fd_exi (fd_okc' T) A = true)), fd_I q0, u6, u7, u8] [] K = some (true, [fd_R 199, fd_I w, fd_I s.1, fd_I s.2, fd_I (fd_bi (fd_exi (fd_okc' T) A = true)), fd_I q0, u6, u7, u8], [fd_I s.2], K) := fun _ => rfl
      refine fd_e_blk 1 (C := fd_c99) (b := true) (L' := [fd_R 199, fd_I w, fd_I s.1, fd_I s.2, fd_I (fd_bi (fd_exi (fd_okc' T) A = true)), fd_I ((a : Nat) : Int), u6, u7, u8]) (st' := [fd_I s.2]) (M' := K) rfl (hB ((a : Nat) : Int)) (j := 133) rfl (rfl) ?_
      clear hB
      refine fd_e_ret (C := fd_c99) (b := true) (r' := some (fd_I s.2)) rfl rfl rfl (rfl) ?_
      refine ⟨?_, hK.1⟩
      have e0 : s = s' := he
      rw [← e0]
      first | (rw [if_pos (show w = 0 by omega), if_pos h127]; done) | (rw [if_pos (show w = 0 by omega), if_neg h127]; done) | (rw [if_neg (show ¬ w = 0 by omega)]; done)
    · have hB : ∀ (q0 : Int), fd_bl 1 (List.drop 126 fd_c99) [fd_R 199, fd_I w, fd_I s.1, fd_I s.2, fd_I (fd_bi (fd_exi (fd_okc' T) A = true)), fd_I q0, u6, u7, u8] [] K = some (true, [fd_R 199, fd_I w, fd_I s.1, fd_I s.2, fd_I (fd_bi (fd_exi (fd_okc' T) A = true)), fd_I q0, u6, u7, u8], [fd_I (fd_bi (fd_exi (fd_okc' T) A = true))], K) := fun _ => rfl
      refine fd_e_blk 1 (C := fd_c99) (b := true) (L' := [fd_R 199, fd_I w, fd_I s.1, fd_I s.2, fd_I (fd_bi (fd_exi (fd_okc' T) A = true)), fd_I ((a : Nat) : Int), u6, u7, u8]) (st' := [fd_I (fd_bi (fd_exi (fd_okc' T) A = true))]) (M' := K) rfl (hB ((a : Nat) : Int)) (j := 127) rfl (rfl) ?_
      clear hB
      refine fd_e_br (C := fd_c99) (t := 130) (e := 128) (st' := []) (c := (fd_bi (fd_exi (fd_okc' T) A = true)) = 0) (b := (fd_rng (fd_bi (fd_exi (fd_okc' T) A = true)))) rfl rfl rfl (fd_biR) (fun h127 => ?_) (fun h127 => ?_)
      · have h127 := fd_biF.mp h127
        have hB : ∀ (q0 : Int), fd_bl 1 (List.drop 130 fd_c99) [fd_R 199, fd_I w, fd_I s.1, fd_I s.2, fd_I (fd_bi (fd_exi (fd_okc' T) A = true)), fd_I q0, u6, u7, u8] [] K = some (true, [fd_R 199, fd_I w, fd_I s.1, fd_I s.2, fd_I (fd_bi (fd_exi (fd_okc' T) A = true)), fd_I q0, u6, u7, u8], [fd_I (-9)], K) := fun _ => rfl
        refine fd_e_blk 1 (C := fd_c99) (b := true) (L' := [fd_R 199, fd_I w, fd_I s.1, fd_I s.2, fd_I (fd_bi (fd_exi (fd_okc' T) A = true)), fd_I ((a : Nat) : Int), u6, u7, u8]) (st' := [fd_I (-9)]) (M' := K) rfl (hB ((a : Nat) : Int)) (j := 131) rfl (rfl) ?_
        clear hB
        refine fd_e_jmp (C := fd_c99) (j := 133) (st' := [fd_I (-9)]) rfl rfl (b := true) rfl rfl ?_
        refine fd_e_ret (C := fd_c99) (b := true) (r' := some (fd_I (-9))) rfl rfl rfl (rfl) ?_
        refine ⟨?_, hK.1⟩
        have e0 : s = s' := he
        rw [← e0]
        first | (rw [if_pos (show w = 0 by omega), if_pos h127]; done) | (rw [if_pos (show w = 0 by omega), if_neg h127]; done) | (rw [if_neg (show ¬ w = 0 by omega)]; done)
      · have h127 := fd_biT.mp h127
        have hB : ∀ (q0 : Int), fd_bl 1 (List.drop 128 fd_c99) [fd_R 199, fd_I w, fd_I s.1, fd_I s.2, fd_I (fd_bi (fd_exi (fd_okc' T) A = true)), fd_I q0, u6, u7, u8] [] K = some (true, [fd_R 199, fd_I w, fd_I s.1, fd_I s.2, fd_I (fd_bi (fd_exi (fd_okc' T) A = true)), fd_I q0, u6, u7, u8], [fd_I s.1], K) := fun _ => rfl
        refine fd_e_blk 1 (C := fd_c99) (b := true) (L' := [fd_R 199, fd_I w, fd_I s.1, fd_I s.2, fd_I (fd_bi (fd_exi (fd_okc' T) A = true)), fd_I ((a : Nat) : Int), u6, u7, u8]) (st' := [fd_I s.1]) (M' := K) rfl (hB ((a : Nat) : Int)) (j := 129) rfl (rfl) ?_
        clear hB
        refine fd_e_jmp (C := fd_c99) (j := 133) (st' := [fd_I s.1]) rfl rfl (b := true) rfl rfl ?_
        refine fd_e_ret (C := fd_c99) (b := true) (r' := some (fd_I s.1)) rfl rfl rfl (rfl) ?_
        refine ⟨?_, hK.1⟩
        have e0 : s = s' := he
        rw [← e0]
        first | (rw [if_pos (show w = 0 by omega), if_pos h127]; done) | (rw [if_pos (show w = 0 by omega), if_neg h127]; done) | (rw [if_neg (show ¬ w = 0 by omega)]; done)
  | succ n ih =>
    intro a s K u6 u7 u8 hK hb hI hf h1 he
    have e4 : K 204 0 = T 204 0 := by rw [hK.1.1 204 (by decide) (by decide)]
    have hB : ∀ (q0 : Int), fd_bl 5 (List.drop 51 fd_c99) [fd_R 199, fd_I w, fd_I s.1, fd_I s.2, fd_I (fd_bi (fd_exi (fd_okc' T) A = true)), fd_I q0, u6, u7, u8] [] K = some (true, [fd_R 199, fd_I w, fd_I s.1, fd_I s.2, fd_I (fd_bi (fd_exi (fd_okc' T) A = true)), fd_I q0, u6, u7, u8], [fd_I (K 204 0), fd_I q0], K) := fun _ => rfl
    refine fd_e_blk 5 (C := fd_c99) (b := true) (L' := [fd_R 199, fd_I w, fd_I s.1, fd_I s.2, fd_I (fd_bi (fd_exi (fd_okc' T) A = true)), fd_I ((a : Nat) : Int), u6, u7, u8]) (st' := [fd_I (K 204 0), fd_I ((a : Nat) : Int)]) (M' := K) rfl (hB ((a : Nat) : Int)) (j := 56) rfl (rfl) ?_
    clear hB
    refine fd_e_br (C := fd_c99) (t := 124) (e := 57) (st' := []) (c := (K 204 0) ≤ ((a : Nat) : Int)) (b := (fd_rng ((a : Nat) : Int) && fd_rng (K 204 0))) rfl rfl rfl (fd_bA (fd_bR (by omega) (by omega)) (fd_bR (by omega) (by omega))) (fun h56 => absurd h56 (by omega)) (fun h56 => ?_)
    have hB : ∀ (q0 : Int), fd_bl 4 (List.drop 57 fd_c99) [fd_R 199, fd_I w, fd_I s.1, fd_I s.2, fd_I (fd_bi (fd_exi (fd_okc' T) A = true)), fd_I q0, u6, u7, u8] [] K = some (true, [fd_R 199, fd_I w, fd_I s.1, fd_I s.2, fd_I (fd_bi (fd_exi (fd_okc' T) A = true)), fd_I q0, fd_I (q0 + 1), u7, u8], [], K) := fun _ => rfl
    refine fd_e_blk 4 (C := fd_c99) (b := true) (L' := [fd_R 199, fd_I w, fd_I s.1, fd_I s.2, fd_I (fd_bi (fd_exi (fd_okc' T) A = true)), fd_I ((a : Nat) : Int), fd_I (((a + 1) : Nat) : Int), u7, u8]) (st' := []) (M' := K) rfl (hB ((a : Nat) : Int)) (j := 61) rfl (rfl) ?_
    clear hB
    have r9 := fd_bin_rng (fd_bqq T A) a (by omega) ((T 204 0).toNat - (a + 1)) (a + 1) s (by omega) hf
    have r8 := fd_bin_rng1 (fd_bqq T A) a ((T 204 0).toNat - (a + 1)) (a + 1) s h1.1
    exact fd_l_bdB T hP hS hW A eA hA a (by omega) _ _ _ (fun K u6 u7 u8 hK2 hI2 => ih (a + 1) _ K u6 u7 u8 hK2 (by omega) hI2 r9 (by omega) he) ((T 204 0).toNat - (a + 1)) (a + 1) s K _ _ hK (by omega) (by omega) hI hf (by omega) rfl

theorem fd_l_bdF (T : fd_M) (hP : fd_RP T) (hS : fd_RS T) (hW : fd_RW T) (A : Nat) (eA : (4 : Int) ^ (T 204 0).toNat = (A : Int)) (hA : A ≤ 4096) (w : Int) (hw : 0 ≤ w ∧ w ≤ 1) : ∀ (n : Nat) (k : Nat) (K : fd_M) (u6 u7 u8 : fd_V) (hK : fd_lk T K) (hk : k + n = A), fd_runE 6 99 30 [fd_R 199, fd_I w, fd_I 0, fd_I (-9), fd_I (fd_bi (fd_exi (fd_okc' T) k = true)), fd_I ((k : Nat) : Int), u6, u7, u8] [] K (fun r R => r = some (fd_I (if w = 0 then (if fd_exi (fd_okc' T) A = true then (fd_bou (fd_bqq T A) (T 204 0).toNat (T 204 0).toNat 0 (0, -9)).1 else -9) else (fd_bou (fd_bqq T A) (T 204 0).toNat (T 204 0).toNat 0 (0, -9)).2)) ∧ fd_smR T R) := by
  obtain ⟨g0, g1, g2, g3, g4, g5⟩ := id hP
  intro n
  induction n with
  | zero =>
    intro k K u6 u7 u8 hK hk
    have hB : ∀ (q0 : Int), fd_bl 2 (List.drop 30 fd_c99) [fd_R 199, fd_I w, fd_I 0, fd_I (-9), fd_I (fd_bi (fd_exi (fd_okc' T) k = true)), fd_I q0, u6, u7, u8] [] K = some (true, [fd_R 199, fd_I w, fd_I 0, fd_I (-9), fd_I (fd_bi (fd_exi (fd_okc' T) k = true)), fd_I q0, u6, u7, u8], [fd_R 199, fd_I q0], K) := fun _ => rfl
    refine fd_e_blk 2 (C := fd_c99) (b := true) (L' := [fd_R 199, fd_I w, fd_I 0, fd_I (-9), fd_I (fd_bi (fd_exi (fd_okc' T) k = true)), fd_I ((k : Nat) : Int), u6, u7, u8]) (st' := [fd_R 199, fd_I ((k : Nat) : Int)]) (M' := K) rfl (hB ((k : Nat) : Int)) (j := 32) rfl (rfl) ?_
    clear hB
    refine fd_e_call (C := fd_c99) (d0 := 0) (mid := 96) (np := 1) (args := [fd_R 199]) (r1 := some (fd_I ((4 : Int) ^ (T 204 0).toNat))) (M1 := K) (st' := [fd_I ((4 : Int) ^ (T 204 0).toNat), fd_I ((k : Nat) : Int)]) rfl rfl rfl rfl rfl rfl (rfl) (fd_k_codes hP hK) rfl (by omega) ?_
    refine fd_e_br (C := fd_c99) (t := 49) (e := 34) (st' := []) (c := ((4 : Int) ^ (T 204 0).toNat) ≤ ((k : Nat) : Int)) (b := (fd_rng ((k : Nat) : Int) && fd_rng ((4 : Int) ^ (T 204 0).toNat))) rfl rfl rfl (fd_bA (fd_bR (by omega) (by omega)) (fd_bR (by omega) (by omega))) (fun h33 => ?_) (fun h33 => absurd h33 (by omega))
    have hB : ∀ (q0 : Int), fd_bl 2 (List.drop 49 fd_c99) [fd_R 199, fd_I w, fd_I 0, fd_I (-9), fd_I (fd_bi (fd_exi (fd_okc' T) k = true)), fd_I q0, u6, u7, u8] [] K = some (true, [fd_R 199, fd_I w, fd_I 0, fd_I (-9), fd_I (fd_bi (fd_exi (fd_okc' T) k = true)), fd_I 0, u6, u7, u8], [], K) := fun _ => rfl
    refine fd_e_blk 2 (C := fd_c99) (b := true) (L' := [fd_R 199, fd_I w, fd_I 0, fd_I (-9), fd_I (fd_bi (fd_exi (fd_okc' T) k = true)), fd_I 0, u6, u7, u8]) (st' := []) (M' := K) rfl (hB ((k : Nat) : Int)) (j := 51) rfl (rfl) ?_
    clear hB
    have ek : k = A := by omega
    subst ek
    exact fd_l_bdA T hP hS hW k eA hA w hw _ (T 204 0).toNat 0 (0, -9) K _ _ _ hK (by omega) (by decide) (by decide) (by decide) rfl
  | succ n ih =>
    intro k K u6 u7 u8 hK hk
    have hB : ∀ (q0 : Int), fd_bl 2 (List.drop 30 fd_c99) [fd_R 199, fd_I w, fd_I 0, fd_I (-9), fd_I (fd_bi (fd_exi (fd_okc' T) k = true)), fd_I q0, u6, u7, u8] [] K = some (true, [fd_R 199, fd_I w, fd_I 0, fd_I (-9), fd_I (fd_bi (fd_exi (fd_okc' T) k = true)), fd_I q0, u6, u7, u8], [fd_R 199, fd_I q0], K) := fun _ => rfl
    refine fd_e_blk 2 (C := fd_c99) (b := true) (L' := [fd_R 199, fd_I w, fd_I 0, fd_I (-9), fd_I (fd_bi (fd_exi (fd_okc' T) k = true)), fd_I ((k : Nat) : Int), u6, u7, u8]) (st' := [fd_R 199, fd_I ((k : Nat) : Int)]) (M' := K) rfl (hB ((k : Nat) : Int)) (j := 32) rfl (rfl) ?_
    clear hB
    refine fd_e_call (C := fd_c99) (d0 := 0) (mid := 96) (np := 1) (args := [fd_R 199]) (r1 := some (fd_I ((4 : Int) ^ (T 204 0).toNat))) (M1 := K) (st' := [fd_I ((4 : Int) ^ (T 204 0).toNat), fd_I ((k : Nat) : Int)]) rfl rfl rfl rfl rfl rfl (rfl) (fd_k_codes hP hK) rfl (by omega) ?_
    refine fd_e_br (C := fd_c99) (t := 49) (e := 34) (st' := []) (c := ((4 : Int) ^ (T 204 0).toNat) ≤ ((k : Nat) : Int)) (b := (fd_rng ((k : Nat) : Int) && fd_rng ((4 : Int) ^ (T 204 0).toNat))) rfl rfl rfl (fd_bA (fd_bR (by omega) (by omega)) (fd_bR (by omega) (by omega))) (fun h33 => absurd h33 (by omega)) (fun h33 => ?_)
    have hB : ∀ (q0 : Int), fd_bl 2 (List.drop 34 fd_c99) [fd_R 199, fd_I w, fd_I 0, fd_I (-9), fd_I (fd_bi (fd_exi (fd_okc' T) k = true)), fd_I q0, u6, u7, u8] [] K = some (true, [fd_R 199, fd_I w, fd_I 0, fd_I (-9), fd_I (fd_bi (fd_exi (fd_okc' T) k = true)), fd_I q0, u6, u7, u8], [fd_I q0, fd_R 199], K) := fun _ => rfl
    refine fd_e_blk 2 (C := fd_c99) (b := true) (L' := [fd_R 199, fd_I w, fd_I 0, fd_I (-9), fd_I (fd_bi (fd_exi (fd_okc' T) k = true)), fd_I ((k : Nat) : Int), u6, u7, u8]) (st' := [fd_I ((k : Nat) : Int), fd_R 199]) (M' := K) rfl (hB ((k : Nat) : Int)) (j := 36) rfl (rfl) ?_
    clear hB
    refine fd_e_call (C := fd_c99) (d0 := 0) (mid := 95) (np := 2) (args := [fd_R 199, fd_I ((k : Nat) : Int)]) (r1 := some (fd_I (fd_su (fd_ct T (T 204 0).toNat k) (T 204 0).toNat 0))) (M1 := (fd_wy T (T 204 0).toNat k)) (st' := [fd_I (fd_su (fd_ct T (T 204 0).toNat k) (T 204 0).toNat 0)]) rfl rfl rfl rfl rfl rfl (rfl) (fd_k_take hP hS hK k (by omega)) rfl (by omega) ?_
    have qt := fd_su_rng (fd_ct_rng T (T 204 0).toNat k) (T 204 0).toNat 0
    have hB : ∀ (q0 : Int), fd_bl 2 (List.drop 37 fd_c99) [fd_R 199, fd_I w, fd_I 0, fd_I (-9), fd_I (fd_bi (fd_exi (fd_okc' T) k = true)), fd_I q0, u6, u7, u8] [fd_I (fd_su (fd_ct T (T 204 0).toNat k) (T 204 0).toNat 0)] (fd_wy T (T 204 0).toNat k) = some (true, [fd_R 199, fd_I w, fd_I 0, fd_I (-9), fd_I (fd_bi (fd_exi (fd_okc' T) k = true)), fd_I q0, u6, u7, u8], [fd_I (fd_bi (fd_exi (fd_okc' T) k = true))], (fd_wy T (T 204 0).toNat k)) := fun _ => rfl
    refine fd_e_blk 2 (C := fd_c99) (b := true) (L' := [fd_R 199, fd_I w, fd_I 0, fd_I (-9), fd_I (fd_bi (fd_exi (fd_okc' T) k = true)), fd_I ((k : Nat) : Int), u6, u7, u8]) (st' := [fd_I (fd_bi (fd_exi (fd_okc' T) k = true))]) (M' := (fd_wy T (T 204 0).toNat k)) rfl (hB ((k : Nat) : Int)) (j := 39) rfl (rfl) ?_
    clear hB
    refine fd_e_br (C := fd_c99) (t := 43) (e := 40) (st' := []) (c := ¬ (fd_bi (fd_exi (fd_okc' T) k = true)) = 0) (b := (fd_rng (fd_bi (fd_exi (fd_okc' T) k = true)))) rfl rfl rfl (fd_biR) (fun h39 => ?_) (fun h39 => ?_)
    · have h39 := fd_biT.mp h39
      have hB : ∀ (q0 : Int), fd_bl 1 (List.drop 43 fd_c99) [fd_R 199, fd_I w, fd_I 0, fd_I (-9), fd_I (fd_bi (fd_exi (fd_okc' T) k = true)), fd_I q0, u6, u7, u8] [] (fd_wy T (T 204 0).toNat k) = some (true, [fd_R 199, fd_I w, fd_I 0, fd_I (-9), fd_I (fd_bi (fd_exi (fd_okc' T) k = true)), fd_I q0, u6, u7, u8], [fd_I 1], (fd_wy T (T 204 0).toNat k)) := fun _ => rfl
      refine fd_e_blk 1 (C := fd_c99) (b := true) (L' := [fd_R 199, fd_I w, fd_I 0, fd_I (-9), fd_I (fd_bi (fd_exi (fd_okc' T) k = true)), fd_I ((k : Nat) : Int), u6, u7, u8]) (st' := [fd_I 1]) (M' := (fd_wy T (T 204 0).toNat k)) rfl (hB ((k : Nat) : Int)) (j := 44) rfl (rfl) ?_
      clear hB
      refine fd_e_jmp (C := fd_c99) (j := 46) (st' := [fd_I 1]) rfl rfl (b := true) rfl rfl ?_
      have hB : ∀ (q0 : Int), fd_bl 2 (List.drop 46 fd_c99) [fd_R 199, fd_I w, fd_I 0, fd_I (-9), fd_I (fd_bi (fd_exi (fd_okc' T) k = true)), fd_I q0, u6, u7, u8] [fd_I 1] (fd_wy T (T 204 0).toNat k) = some (true, [fd_R 199, fd_I w, fd_I 0, fd_I (-9), fd_I 1, fd_I (q0 + 1), u6, u7, u8], [], (fd_wy T (T 204 0).toNat k)) := fun _ => rfl
      refine fd_e_blk 2 (C := fd_c99) (b := true) (L' := [fd_R 199, fd_I w, fd_I 0, fd_I (-9), fd_I 1, fd_I (((k + 1) : Nat) : Int), u6, u7, u8]) (st' := []) (M' := (fd_wy T (T 204 0).toNat k)) rfl (hB ((k : Nat) : Int)) (j := 48) rfl (rfl) ?_
      clear hB
      refine fd_e_jmp (C := fd_c99) (j := 30) (st' := []) rfl rfl (b := true) rfl rfl ?_
      have e7 : (1 : Int) = fd_bi (fd_exi (fd_okc' T) (k + 1) = true) := by
        refine (fd_bi1 ?_).symm
        show (fd_exi (fd_okc' T) k || fd_okc' T k) = true
        first | (rw [h39, Bool.true_or]; done) | (rw [h42, Bool.or_true]; done)
      have zi := ih (k + 1) (fd_wy T (T 204 0).toNat k) (u6) (u7) (u8) (fd_lk_wy T k) (by omega)
      rw [← e7] at zi
      exact zi
    · have h39 := fd_biF2  h39
      have hB : ∀ (q0 : Int), fd_bl 1 (List.drop 40 fd_c99) [fd_R 199, fd_I w, fd_I 0, fd_I (-9), fd_I (fd_bi (fd_exi (fd_okc' T) k = true)), fd_I q0, u6, u7, u8] [] (fd_wy T (T 204 0).toNat k) = some (true, [fd_R 199, fd_I w, fd_I 0, fd_I (-9), fd_I (fd_bi (fd_exi (fd_okc' T) k = true)), fd_I q0, u6, u7, u8], [fd_R 199], (fd_wy T (T 204 0).toNat k)) := fun _ => rfl
      refine fd_e_blk 1 (C := fd_c99) (b := true) (L' := [fd_R 199, fd_I w, fd_I 0, fd_I (-9), fd_I (fd_bi (fd_exi (fd_okc' T) k = true)), fd_I ((k : Nat) : Int), u6, u7, u8]) (st' := [fd_R 199]) (M' := (fd_wy T (T 204 0).toNat k)) rfl (hB ((k : Nat) : Int)) (j := 41) rfl (rfl) ?_
      clear hB
      refine fd_e_call (C := fd_c99) (d0 := 4) (mid := 93) (np := 1) (args := [fd_R 199]) (r1 := some (fd_I (fd_bi (fd_okc' T k = true)))) (M1 := (fd_wy T (T 204 0).toNat k)) (st' := [fd_I (fd_bi (fd_okc' T k = true))]) rfl rfl rfl rfl rfl rfl (rfl) (fd_w_ahw hP hS hW k) rfl (by omega) ?_
      refine fd_e_br (C := fd_c99) (t := 45) (e := 43) (st' := []) (c := (fd_bi (fd_okc' T k = true)) = 0) (b := (fd_rng (fd_bi (fd_okc' T k = true)))) rfl rfl rfl (fd_biR) (fun h42 => ?_) (fun h42 => ?_)
      · have h42 := fd_biF.mp h42
        have hB : ∀ (q0 : Int), fd_bl 3 (List.drop 45 fd_c99) [fd_R 199, fd_I w, fd_I 0, fd_I (-9), fd_I (fd_bi (fd_exi (fd_okc' T) k = true)), fd_I q0, u6, u7, u8] [] (fd_wy T (T 204 0).toNat k) = some (true, [fd_R 199, fd_I w, fd_I 0, fd_I (-9), fd_I 0, fd_I (q0 + 1), u6, u7, u8], [], (fd_wy T (T 204 0).toNat k)) := fun _ => rfl
        refine fd_e_blk 3 (C := fd_c99) (b := true) (L' := [fd_R 199, fd_I w, fd_I 0, fd_I (-9), fd_I 0, fd_I (((k + 1) : Nat) : Int), u6, u7, u8]) (st' := []) (M' := (fd_wy T (T 204 0).toNat k)) rfl (hB ((k : Nat) : Int)) (j := 48) rfl (rfl) ?_
        clear hB
        refine fd_e_jmp (C := fd_c99) (j := 30) (st' := []) rfl rfl (b := true) rfl rfl ?_
        have e7 : (0 : Int) = fd_bi (fd_exi (fd_okc' T) (k + 1) = true) := by
          refine (fd_bi0 (fun z => ?_)).symm
          have z2 : (fd_exi (fd_okc' T) k || fd_okc' T k) = true := z
          rw [Bool.or_eq_true] at z2
          rcases z2 with z2 | z2
          · exact h39 z2
          · exact h42 z2
        have zi := ih (k + 1) (fd_wy T (T 204 0).toNat k) (u6) (u7) (u8) (fd_lk_wy T k) (by omega)
        rw [← e7] at zi
        exact zi
      · have h42 := fd_biT.mp h42
        have hB : ∀ (q0 : Int), fd_bl 1 (List.drop 43 fd_c99) [fd_R 199, fd_I w, fd_I 0, fd_I (-9), fd_I (fd_bi (fd_exi (fd_okc' T) k = true)), fd_I q0, u6, u7, u8] [] (fd_wy T (T 204 0).toNat k) = some (true, [fd_R 199, fd_I w, fd_I 0, fd_I (-9), fd_I (fd_bi (fd_exi (fd_okc' T) k = true)), fd_I q0, u6, u7, u8], [fd_I 1], (fd_wy T (T 204 0).toNat k)) := fun _ => rfl
        refine fd_e_blk 1 (C := fd_c99) (b := true) (L' := [fd_R 199, fd_I w, fd_I 0, fd_I (-9), fd_I (fd_bi (fd_exi (fd_okc' T) k = true)), fd_I ((k : Nat) : Int), u6, u7, u8]) (st' := [fd_I 1]) (M' := (fd_wy T (T 204 0).toNat k)) rfl (hB ((k : Nat) : Int)) (j := 44) rfl (rfl) ?_
        clear hB
        refine fd_e_jmp (C := fd_c99) (j := 46) (st' := [fd_I 1]) rfl rfl (b := true) rfl rfl ?_
        have hB : ∀ (q0 : Int), fd_bl 2 (List.drop 46 fd_c99) [fd_R 199, fd_I w, fd_I 0, fd_I (-9), fd_I (fd_bi (fd_exi (fd_okc' T) k = true)), fd_I q0, u6, u7, u8] [fd_I 1] (fd_wy T (T 204 0).toNat k) = some (true, [fd_R 199, fd_I w, fd_I 0, fd_I (-9), fd_I 1, fd_I (q0 + 1), u6, u7, u8], [], (fd_wy T (T 204 0).toNat k)) := fun _ => rfl
        refine fd_e_blk 2 (C := fd_c99) (b := true) (L' := [fd_R 199, fd_I w, fd_I 0, fd_I (-9), fd_I 1, fd_I (((k + 1) : Nat) : Int), u6, u7, u8]) (st' := []) (M' := (fd_wy T (T 204 0).toNat k)) rfl (hB ((k : Nat) : Int)) (j := 48) rfl (rfl) ?_
        clear hB
        refine fd_e_jmp (C := fd_c99) (j := 30) (st' := []) rfl rfl (b := true) rfl rfl ?_
        have e7 : (1 : Int) = fd_bi (fd_exi (fd_okc' T) (k + 1) = true) := by
          refine (fd_bi1 ?_).symm
          show (fd_exi (fd_okc' T) k || fd_okc' T k) = true
          first | (rw [h39, Bool.true_or]; done) | (rw [h42, Bool.or_true]; done)
        have zi := ih (k + 1) (fd_wy T (T 204 0).toNat k) (u6) (u7) (u8) (fd_lk_wy T k) (by omega)
        rw [← e7] at zi
        exact zi

def fd_bdT (M : fd_M) : fd_M := fd_up (fd_up (fd_tak M) 199 19 (2 ^ (M 204 0).toNat - 1)) 199 20 0
def fd_A_bound (M : fd_M) (w : Int) : Int := if ¬ (0 ≤ w ∧ w ≤ 1) then -1 else if w = 0 then (if fd_exi (fd_okc' (fd_bdT M)) (4 ^ (M 204 0).toNat) = true then (fd_bou (fd_bqq (fd_bdT M) (4 ^ (M 204 0).toNat)) (M 204 0).toNat (M 204 0).toNat 0 (0, -9)).1 else -9) else (fd_bou (fd_bqq (fd_bdT M) (4 ^ (M 204 0).toNat)) (M 204 0).toNat (M 204 0).toNat 0 (0, -9)).2
theorem fd_bdT_sm (M : fd_M) : fd_smR M (fd_bdT M) := fd_smR_tr (fd_smR_tak M) (fd_smR_tr (fd_smR_o _ _) (fd_smR_f _ _))
theorem fd_bdT_RW {M : fd_M} (hP : fd_RP M) (hS : fd_RS M) : fd_RW (fd_bdT M) := by
  have g := hP.2.2.1
  have a := fd_pw (M 204 0).toNat
  have b := fd_pw6 (n := (M 204 0).toNat) (by omega)
  have c := Nat.two_pow_pos (M 204 0).toNat
  refine ⟨(fd_RW_tak hP hS).1, ?_, ?_⟩
  · show 0 ≤ (2 : Int) ^ (M 204 0).toNat - 1 ∧ (2 : Int) ^ (M 204 0).toNat - 1 < 64
    omega
  · show (0 : Int) ≤ 0 ∧ (0 : Int) ≤ 1
    omega
theorem fd_r_bound (M : fd_M) (hP : fd_RP M) (hS : fd_RS M) (w : Int) (hw : -2147483648 ≤ w ∧ w < 2147483648) : fd_callE 6 99 [fd_R 199, fd_I w] M (fun r R => r = some (fd_I (fd_A_bound M w)) ∧ fd_smR M R) := by
  refine fd_e_in (L := [fd_R 199, fd_I w, fd_R 1003, fd_R 1003, fd_R 1003, fd_R 1003, fd_R 1003, fd_R 1003, fd_R 1003]) rfl ?_
  obtain ⟨g0, g1, g2, g3, g4, g5⟩ := id hP
  have t4 : fd_tak M 204 = M 204 := fd_tak_fr (by decide) (by decide)
  have t40 : fd_tak M 204 0 = M 204 0 := by rw [t4]
  have q4 := fd_4p (n := (M 204 0).toNat) (by omega)
  refine fd_e_blk 3 (C := fd_c99) (b := true) (L' := [fd_R 199, fd_I w, fd_R 1003, fd_R 1003, fd_R 1003, fd_R 1003, fd_R 1003, fd_R 1003, fd_R 1003]) (st' := [fd_I 1, fd_I 0, fd_I w]) (M' := M) rfl rfl (j := 3) rfl (rfl) ?_
  refine fd_e_call (C := fd_c99) (d0 := 0) (mid := 52) (np := 3) (args := [fd_I w, fd_I 0, fd_I 1]) (r1 := some (fd_I (fd_bi (0 ≤ w ∧ w ≤ 1)))) (M1 := M) (st' := [fd_I (fd_bi (0 ≤ w ∧ w ≤ 1))]) rfl rfl rfl rfl rfl rfl (rfl) (fd_r_in M w 0 1 (by omega) (by omega) (by omega)) rfl (by omega) ?_
  refine fd_e_br (C := fd_c99) (t := 7) (e := 5) (st' := []) (c := ¬ (fd_bi (0 ≤ w ∧ w ≤ 1)) = 0) (b := (fd_rng (fd_bi (0 ≤ w ∧ w ≤ 1)))) rfl rfl rfl (fd_biR) (fun h4 => ?_) (fun h4 => ?_)
  · have h4 := fd_biT.mp h4
    refine fd_e_blk 1 (C := fd_c99) (b := true) (L' := [fd_R 199, fd_I w, fd_R 1003, fd_R 1003, fd_R 1003, fd_R 1003, fd_R 1003, fd_R 1003, fd_R 1003]) (st' := [fd_R 199]) (M' := M) rfl rfl (j := 8) rfl (rfl) ?_
    refine fd_e_call (C := fd_c99) (d0 := 0) (mid := 72) (np := 1) (args := [fd_R 199]) (r1 := none) (M1 := (fd_tak M)) (st' := []) rfl rfl rfl rfl rfl rfl (rfl) (fd_r_take M hS.2.2.2.2.1) rfl (by omega) ?_
    refine fd_e_blk 21 (C := fd_c99) (b := (fd_inb ((fd_tak M) 204 0) 32 && true)) (L' := [fd_R 199, fd_I w, fd_I 0, fd_I (-9), fd_I 0, fd_I 0, fd_R 1003, fd_R 1003, fd_R 1003]) (st' := []) (M' := (fd_up (fd_up (fd_tak M) 199 19 ((2 ^ ((fd_tak M) 204 0).toNat) - 1)) 199 20 0)) rfl rfl (j := 30) rfl (fd_bA (fd_bI (by omega) (by omega)) (rfl)) ?_
    rw [t40]
    have z := fd_l_bdF (fd_bdT M) (fd_RP_sm (fd_bdT_sm M) hP) (fd_RS_sm (fd_bdT_sm M) hS) (fd_bdT_RW hP hS) (4 ^ (M 204 0).toNat) q4.1 q4.2.2 w (by omega) (4 ^ (M 204 0).toNat) 0 (fd_bdT M) (fd_R 1003) (fd_R 1003) (fd_R 1003) (fd_lk_rf _) (by omega)
    obtain ⟨r, R, zr, e1, e2⟩ := z
    refine ⟨r, R, zr, ?_, fd_smR_tr (fd_bdT_sm M) e2⟩
    rw [e1, fd_A_bound, if_neg (show ¬ ¬ (0 ≤ w ∧ w ≤ 1) by omega)]
    rfl
  · have h4 := fd_biF2  h4
    refine fd_e_blk 1 (C := fd_c99) (b := true) (L' := [fd_R 199, fd_I w, fd_R 1003, fd_R 1003, fd_R 1003, fd_R 1003, fd_R 1003, fd_R 1003, fd_R 1003]) (st' := [fd_I (-1)]) (M' := M) rfl rfl (j := 6) rfl (rfl) ?_
    refine fd_e_ret (C := fd_c99) (b := true) (r' := some (fd_I (-1))) rfl rfl rfl (rfl) ?_
    exact ⟨by rw [fd_A_bound, if_pos (show ¬ (0 ≤ w ∧ w ≤ 1) by omega)], fd_smR_rf M⟩


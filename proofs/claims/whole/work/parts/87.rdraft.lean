/-! the reference: quarter -/
def fd_pl (N : fd_M) (k : Nat) : fd_M := fun c j => if c = 203 ∧ 49 ≤ j ∧ j < 49 + k then 0 else N c j
theorem fd_pl_0 (N : fd_M) : fd_pl N 0 = N := by
  funext c j
  unfold fd_pl
  rw [if_neg (by omega)]
theorem fd_pl_S (N : fd_M) (k : Nat) : fd_up (fd_pl N k) 203 (49 + k) 0 = fd_pl N (k + 1) := by
  funext c j
  unfold fd_up fd_pl
  by_cases h : c = 203 ∧ j = 49 + k
  · rw [if_pos h, if_pos (by omega)]
  · rw [if_neg h]
    by_cases h2 : c = 203 ∧ 49 ≤ j ∧ j < 49 + k
    · rw [if_pos h2, if_pos (by omega)]
    · rw [if_neg h2, if_neg (by omega)]
def fd_pln (K : fd_M) : fd_M := fd_pl (fd_up (fd_up (fd_up (fd_up (fd_up (fd_up K 201 1 0) 202 1 0) 204 1 0) 207 2 1) 207 3 7) 199 10 0) 49
theorem fd_pln_RF (K : fd_M) : tk_RF K (fd_pln K) := by
  refine tk_RF_tr (tk_RF_tr (tk_RF_tr (tk_RF_tr (tk_RF_tr (tk_RF_tr (tk_RF_up K (c := 201) (k := 1) 0 (by omega)) (tk_RF_up _ (c := 202) (k := 1) 0 (by omega))) (tk_RF_up _ (c := 204) (k := 1) 0 (by omega))) (tk_RF_up _ (c := 207) (k := 2) 1 (by omega))) (tk_RF_up _ (c := 207) (k := 3) 7 (by omega))) (tk_RF_up _ (c := 199) (k := 10) 0 (by omega))) ?_
  refine ⟨fun c hc => ?_, fun k hk => rfl, rfl, rfl, rfl, rfl, rfl, fun k hk => ?_⟩
  · funext j
    unfold fd_pln fd_pl
    rw [if_neg (by omega)]
  · unfold fd_pln fd_pl
    rw [if_neg (by omega)]
theorem fd_pln_RZ (K Y : fd_M) : tk_RZ (fd_pln K) (pz_0 Y) := ⟨rfl, rfl, rfl, rfl, rfl, rfl, fun x y hx hy => absurd hx (by show ¬ (x : Int) < 0; omega), fun d hd => absurd hd (by show ¬ (d : Int) < 0; omega)⟩
theorem fd_pln_g (K : fd_M) {k : Nat} (hk : k < 49) : fd_pln K 203 (49 + k) = 0 := by
  unfold fd_pln fd_pl
  rw [if_pos (by omega)]
theorem fd_l_plain (N : fd_M) : ∀ (n : Nat) (k : Nat) (hk : k + n = 49), fd_run 0 63 30 [fd_R 199, fd_I ((k : Nat) : Int)] [] (fd_pl N k) (none) (fd_pl N 49) := by
  intro n
  induction n with
  | zero =>
    intro k hk
    have hB : ∀ (q0 : Int), fd_bl 2 (List.drop 30 fd_c63) [fd_R 199, fd_I q0] [] (fd_pl N k) = some (true, [fd_R 199, fd_I q0], [fd_I 49, fd_I q0], (fd_pl N k)) := fun _ => rfl
    refine fd_u_blk 2 (C := fd_c63) (b := true) (L' := [fd_R 199, fd_I ((k : Nat) : Int)]) (st' := [fd_I 49, fd_I ((k : Nat) : Int)]) (M' := (fd_pl N k)) rfl (hB ((k : Nat) : Int)) (j := 32) rfl (rfl) ?_
    clear hB
    refine fd_u_br (C := fd_c63) (t := 42) (e := 33) (st' := []) (c := 49 ≤ ((k : Nat) : Int)) (b := (fd_rng ((k : Nat) : Int) && fd_rng 49)) rfl rfl rfl (fd_bA (fd_bR (by omega) (by omega)) (fd_bR (by omega) (by omega))) (fun h32 => ?_) (fun h32 => absurd h32 (by omega))
    refine fd_u_ret (C := fd_c63) (b := true) (r' := none) rfl rfl rfl (rfl) ?_ ?_
    · rfl
    · rw [show 49 = k by omega]
  | succ n ih =>
    intro k hk
    have hB : ∀ (q0 : Int), fd_bl 2 (List.drop 30 fd_c63) [fd_R 199, fd_I q0] [] (fd_pl N k) = some (true, [fd_R 199, fd_I q0], [fd_I 49, fd_I q0], (fd_pl N k)) := fun _ => rfl
    refine fd_u_blk 2 (C := fd_c63) (b := true) (L' := [fd_R 199, fd_I ((k : Nat) : Int)]) (st' := [fd_I 49, fd_I ((k : Nat) : Int)]) (M' := (fd_pl N k)) rfl (hB ((k : Nat) : Int)) (j := 32) rfl (rfl) ?_
    clear hB
    refine fd_u_br (C := fd_c63) (t := 42) (e := 33) (st' := []) (c := 49 ≤ ((k : Nat) : Int)) (b := (fd_rng ((k : Nat) : Int) && fd_rng 49)) rfl rfl rfl (fd_bA (fd_bR (by omega) (by omega)) (fd_bR (by omega) (by omega))) (fun h32 => absurd h32 (by omega)) (fun h32 => ?_)
    have hB : ∀ (q0 : Int), fd_bl 8 (List.drop 33 fd_c63) [fd_R 199, fd_I q0] [] (fd_pl N k) = some ((fd_isA true (fd_pl N k) 203 20 (49 + q0) && true), [fd_R 199, fd_I (q0 + 1)], [], (fd_up (fd_pl N k) 203 (49 + q0).toNat 0)) := fun _ => rfl
    refine fd_u_blk 8 (C := fd_c63) (b := (fd_isA true (fd_pl N k) 203 20 (49 + ((k : Nat) : Int)) && true)) (L' := [fd_R 199, fd_I (((k + 1) : Nat) : Int)]) (st' := []) (M' := (fd_up (fd_pl N k) 203 (49 + ((k : Nat) : Int)).toNat 0)) rfl (hB ((k : Nat) : Int)) (j := 41) rfl (fd_bA (fd_iA fd_sh203 (by omega) (by omega)) (rfl)) ?_
    clear hB
    rw [show (49 + ((k : Nat) : Int)).toNat = 49 + k by omega]
    refine fd_u_jmp (C := fd_c63) (j := 30) (st' := []) rfl rfl (b := true) rfl rfl ?_
    rw [fd_pl_S]
    exact ih (k + 1) (by omega)

theorem fd_y_plain (K : fd_M) : fd_call 0 63 [fd_R 199] K (none) (fd_pln K) := by
  refine fd_u_in (L := [fd_R 199, fd_R 1003]) rfl ?_
  refine fd_u_blk 30 (C := fd_c63) (b := true) (L' := [fd_R 199, fd_I 0]) (st' := []) (M' := (fd_up (fd_up (fd_up (fd_up (fd_up (fd_up K 201 1 0) 202 1 0) 204 1 0) 207 2 1) 207 3 7) 199 10 0)) rfl rfl (j := 30) rfl (rfl) ?_
  have z := fd_l_plain (fd_up (fd_up (fd_up (fd_up (fd_up (fd_up K 201 1 0) 202 1 0) 204 1 0) 207 2 1) 207 3 7) 199 10 0) 49 0 (by omega)
  rw [fd_pl_0] at z
  exact z

def fd_zr (N : fd_M) (k : Nat) : fd_M := fun c j => if c = 208 ∧ j < k then 0 else N c j
def fd_pd (N : fd_M) (k : Nat) : fd_M := fun c j => if c = 208 ∧ j < k then N 205 j else if c = 208 ∧ 6 ≤ j ∧ j < 6 + k then N 206 (j - 6) else N c j
theorem fd_zr_0 (N : fd_M) : fd_zr N 0 = N := by
  funext c j
  unfold fd_zr
  rw [if_neg (by omega)]
theorem fd_zr_S (N : fd_M) (k : Nat) : fd_up (fd_zr N k) 208 k 0 = fd_zr N (k + 1) := by
  funext c j
  unfold fd_up fd_zr
  by_cases h : c = 208 ∧ j = k
  · rw [if_pos h, if_pos (by omega)]
  · rw [if_neg h]
    by_cases h2 : c = 208 ∧ j < k
    · rw [if_pos h2, if_pos (by omega)]
    · rw [if_neg h2, if_neg (by omega)]
theorem fd_pd_0 (N : fd_M) : fd_pd N 0 = N := by
  funext c j
  unfold fd_pd
  rw [if_neg (by omega), if_neg (by omega)]
theorem fd_pd_fr {N : fd_M} {k c : Nat} (h : c ≠ 208) : fd_pd N k c = N c := by
  funext j
  unfold fd_pd
  rw [if_neg (fun q => h q.1), if_neg (fun q => h q.1)]
theorem fd_pd_S (N : fd_M) (k : Nat) (hk : k < 6) : fd_up (fd_up (fd_pd N k) 208 k (N 205 k)) 208 (6 + k) (N 206 k) = fd_pd N (k + 1) := by
  funext c j
  unfold fd_up fd_pd
  by_cases hc : c = 208
  · subst hc
    by_cases h1 : j = 6 + k
    · subst h1
      rw [if_pos ⟨rfl, rfl⟩, if_neg (by omega), if_pos (by omega), show 6 + k - 6 = k by omega]
    · rw [if_neg (by omega)]
      by_cases h2 : j = k
      · subst h2
        rw [if_pos ⟨rfl, rfl⟩, if_pos (by omega)]
      · rw [if_neg (by omega)]
        by_cases h3 : j < k
        · rw [if_pos ⟨rfl, h3⟩, if_pos (by omega)]
        · rw [if_neg (by omega), if_neg (show ¬ (208 = 208 ∧ j < k + 1) by omega)]
          by_cases h4 : 6 ≤ j ∧ j < 6 + k
          · rw [if_pos ⟨rfl, h4⟩, if_pos (by omega)]
          · rw [if_neg (by omega), if_neg (by omega)]
  · simp [hc]
def fd_td1 (K : fd_M) : fd_M := fd_up (fd_up (fd_up (fd_up (fd_up K 201 0 (K 201 1)) 202 0 (K 202 1)) 204 0 (K 204 1)) 207 0 (K 207 2)) 207 1 (K 207 3)
def fd_td3 (K : fd_M) : fd_M := fd_zr (fd_cp (fd_td1 K) 203 49 203 0 49) 28
def fd_td4 (N : fd_M) : fd_M := fd_up (fd_up (fd_up (fd_up (fd_up (fd_up N 208 12 (2 ^ (N 204 0).toNat - 1)) 208 13 1) 208 28 0) 199 23 0) 209 0 0) 209 1 0
def fd_tdr (K : fd_M) : fd_M := fd_td4 (fd_pd (fd_td3 K) (K 204 1).toNat)
theorem fd_f_tdend (N : fd_M) (h4 : 0 ≤ N 204 0 ∧ N 204 0 ≤ 6) (u : fd_V) : fd_run 0 64 99 [fd_R 199, u] [] N (none) (fd_td4 N) := by
  refine fd_u_blk 35 (C := fd_c64) (b := (fd_inb (N 204 0) 32 && ((false || (fd_inb 0 2 && fd_inb 0 2)) && ((false || (fd_inb 1 2 && fd_inb 0 2)) && true)))) (L' := [fd_R 199, u]) (st' := []) (M' := (fd_up (fd_up (fd_up (fd_up (fd_up (fd_up N 208 12 ((2 ^ (N 204 0).toNat) - 1)) 208 13 1) 208 28 0) 199 23 0) 209 0 0) 209 1 0)) rfl rfl (j := 134) rfl (fd_bA (fd_bI (by omega) (by omega)) (fd_bA (by decide) (fd_bA (by decide) (rfl)))) ?_
  refine fd_u_ret (C := fd_c64) (b := true) (r' := none) rfl rfl rfl (rfl) ?_ ?_
  · rfl
  · rfl

theorem fd_l_td3 (N : fd_M) (h4 : 0 ≤ N 204 0 ∧ N 204 0 ≤ 6) : ∀ (n : Nat) (k : Nat) (hk : (k : Int) + n = N 204 0), fd_run 0 64 71 [fd_R 199, fd_I ((k : Nat) : Int)] [] (fd_pd N k) (none) (fd_td4 (fd_pd N (N 204 0).toNat)) := by
  intro n
  induction n with
  | zero =>
    intro k hk
    have e4 : fd_pd N k 204 0 = N 204 0 := by rw [fd_pd_fr (by decide)]
    have e5 : fd_pd N k 205 k = N 205 k := by rw [fd_pd_fr (by decide)]
    have e6 : fd_pd N k 206 k = N 206 k := by rw [fd_pd_fr (by decide)]
    have hB : ∀ (q0 : Int), fd_bl 5 (List.drop 71 fd_c64) [fd_R 199, fd_I q0] [] (fd_pd N k) = some (true, [fd_R 199, fd_I q0], [fd_I ((fd_pd N k) 204 0), fd_I q0], (fd_pd N k)) := fun _ => rfl
    refine fd_u_blk 5 (C := fd_c64) (b := true) (L' := [fd_R 199, fd_I ((k : Nat) : Int)]) (st' := [fd_I ((fd_pd N k) 204 0), fd_I ((k : Nat) : Int)]) (M' := (fd_pd N k)) rfl (hB ((k : Nat) : Int)) (j := 76) rfl (rfl) ?_
    clear hB
    refine fd_u_br (C := fd_c64) (t := 99) (e := 77) (st' := []) (c := ((fd_pd N k) 204 0) ≤ ((k : Nat) : Int)) (b := (fd_rng ((k : Nat) : Int) && fd_rng ((fd_pd N k) 204 0))) rfl rfl rfl (fd_bA (fd_bR (by omega) (by omega)) (fd_bR (by omega) (by omega))) (fun h76 => ?_) (fun h76 => absurd h76 (by omega))
    rw [show (N 204 0).toNat = k by omega]
    exact fd_f_tdend (fd_pd N k) (by rw [fd_pd_fr (by decide)]; exact h4) _
  | succ n ih =>
    intro k hk
    have e4 : fd_pd N k 204 0 = N 204 0 := by rw [fd_pd_fr (by decide)]
    have e5 : fd_pd N k 205 k = N 205 k := by rw [fd_pd_fr (by decide)]
    have e6 : fd_pd N k 206 k = N 206 k := by rw [fd_pd_fr (by decide)]
    have hB : ∀ (q0 : Int), fd_bl 5 (List.drop 71 fd_c64) [fd_R 199, fd_I q0] [] (fd_pd N k) = some (true, [fd_R 199, fd_I q0], [fd_I ((fd_pd N k) 204 0), fd_I q0], (fd_pd N k)) := fun _ => rfl
    refine fd_u_blk 5 (C := fd_c64) (b := true) (L' := [fd_R 199, fd_I ((k : Nat) : Int)]) (st' := [fd_I ((fd_pd N k) 204 0), fd_I ((k : Nat) : Int)]) (M' := (fd_pd N k)) rfl (hB ((k : Nat) : Int)) (j := 76) rfl (rfl) ?_
    clear hB
    refine fd_u_br (C := fd_c64) (t := 99) (e := 77) (st' := []) (c := ((fd_pd N k) 204 0) ≤ ((k : Nat) : Int)) (b := (fd_rng ((k : Nat) : Int) && fd_rng ((fd_pd N k) 204 0))) rfl rfl rfl (fd_bA (fd_bR (by omega) (by omega)) (fd_bR (by omega) (by omega))) (fun h76 => absurd h76 (by omega)) (fun h76 => ?_)
    have hB : ∀ (q0 : Int), fd_bl 21 (List.drop 77 fd_c64) [fd_R 199, fd_I q0] [] (fd_pd N k) = some ((fd_isA true (fd_pd N k) 205 20 q0 && (fd_isA true (fd_pd N k) 208 20 (0 + q0) && (fd_isA true (fd_up (fd_pd N k) 208 (0 + q0).toNat ((fd_pd N k) 205 (q0).toNat)) 206 20 q0 && (fd_isA true (fd_up (fd_pd N k) 208 (0 + q0).toNat ((fd_pd N k) 205 (q0).toNat)) 208 20 (6 + q0) && true)))), [fd_R 199, fd_I (q0 + 1)], [], (fd_up (fd_up (fd_pd N k) 208 (0 + q0).toNat ((fd_pd N k) 205 (q0).toNat)) 208 (6 + q0).toNat ((fd_pd N k) 206 (q0).toNat))) := fun _ => rfl
    refine fd_u_blk 21 (C := fd_c64) (b := (fd_isA true (fd_pd N k) 205 20 ((k : Nat) : Int) && (fd_isA true (fd_pd N k) 208 20 (0 + ((k : Nat) : Int)) && (fd_isA true (fd_up (fd_pd N k) 208 (0 + ((k : Nat) : Int)).toNat ((fd_pd N k) 205 k)) 206 20 ((k : Nat) : Int) && (fd_isA true (fd_up (fd_pd N k) 208 (0 + ((k : Nat) : Int)).toNat ((fd_pd N k) 205 k)) 208 20 (6 + ((k : Nat) : Int)) && true))))) (L' := [fd_R 199, fd_I (((k + 1) : Nat) : Int)]) (st' := []) (M' := (fd_up (fd_up (fd_pd N k) 208 (0 + ((k : Nat) : Int)).toNat ((fd_pd N k) 205 k)) 208 (6 + ((k : Nat) : Int)).toNat ((fd_pd N k) 206 k))) rfl (hB ((k : Nat) : Int)) (j := 98) rfl (fd_bA (fd_iA fd_sh205 (by omega) (by omega)) (fd_bA (fd_iA fd_sh208 (by omega) (by omega)) (fd_bA (fd_iA fd_sh206 (by omega) (by omega)) (fd_bA (fd_iA fd_sh208 (by omega) (by omega)) (rfl))))) ?_
    clear hB
    rw [show (0 + ((k : Nat) : Int)).toNat = k by omega, show (6 + ((k : Nat) : Int)).toNat = 6 + k by omega]
    refine fd_u_jmp (C := fd_c64) (j := 71) (st' := []) rfl rfl (b := true) rfl rfl ?_
    rw [e5, e6, fd_pd_S N k (by omega)]
    exact ih (k + 1) (by omega)

theorem fd_l_td2 (N : fd_M) (h4 : 0 ≤ N 204 0 ∧ N 204 0 ≤ 6) : ∀ (n : Nat) (k : Nat) (hk : k + n = 28), fd_run 0 64 59 [fd_R 199, fd_I ((k : Nat) : Int)] [] (fd_zr N k) (none) (fd_td4 (fd_pd (fd_zr N 28) (N 204 0).toNat)) := by
  intro n
  induction n with
  | zero =>
    intro k hk
    have hB : ∀ (q0 : Int), fd_bl 2 (List.drop 59 fd_c64) [fd_R 199, fd_I q0] [] (fd_zr N k) = some (true, [fd_R 199, fd_I q0], [fd_I 28, fd_I q0], (fd_zr N k)) := fun _ => rfl
    refine fd_u_blk 2 (C := fd_c64) (b := true) (L' := [fd_R 199, fd_I ((k : Nat) : Int)]) (st' := [fd_I 28, fd_I ((k : Nat) : Int)]) (M' := (fd_zr N k)) rfl (hB ((k : Nat) : Int)) (j := 61) rfl (rfl) ?_
    clear hB
    refine fd_u_br (C := fd_c64) (t := 69) (e := 62) (st' := []) (c := 28 ≤ ((k : Nat) : Int)) (b := (fd_rng ((k : Nat) : Int) && fd_rng 28)) rfl rfl rfl (fd_bA (fd_bR (by omega) (by omega)) (fd_bR (by omega) (by omega))) (fun h61 => ?_) (fun h61 => absurd h61 (by omega))
    have hB : ∀ (q0 : Int), fd_bl 2 (List.drop 69 fd_c64) [fd_R 199, fd_I q0] [] (fd_zr N k) = some (true, [fd_R 199, fd_I 0], [], (fd_zr N k)) := fun _ => rfl
    refine fd_u_blk 2 (C := fd_c64) (b := true) (L' := [fd_R 199, fd_I 0]) (st' := []) (M' := (fd_zr N k)) rfl (hB ((k : Nat) : Int)) (j := 71) rfl (rfl) ?_
    clear hB
    have e : k = 28 := by omega
    subst e
    have z := fd_l_td3 (fd_zr N 28) h4 (N 204 0).toNat 0 (by show ((0 : Nat) : Int) + ((N 204 0).toNat : Int) = N 204 0; omega)
    rw [fd_pd_0] at z
    exact z
  | succ n ih =>
    intro k hk
    have hB : ∀ (q0 : Int), fd_bl 2 (List.drop 59 fd_c64) [fd_R 199, fd_I q0] [] (fd_zr N k) = some (true, [fd_R 199, fd_I q0], [fd_I 28, fd_I q0], (fd_zr N k)) := fun _ => rfl
    refine fd_u_blk 2 (C := fd_c64) (b := true) (L' := [fd_R 199, fd_I ((k : Nat) : Int)]) (st' := [fd_I 28, fd_I ((k : Nat) : Int)]) (M' := (fd_zr N k)) rfl (hB ((k : Nat) : Int)) (j := 61) rfl (rfl) ?_
    clear hB
    refine fd_u_br (C := fd_c64) (t := 69) (e := 62) (st' := []) (c := 28 ≤ ((k : Nat) : Int)) (b := (fd_rng ((k : Nat) : Int) && fd_rng 28)) rfl rfl rfl (fd_bA (fd_bR (by omega) (by omega)) (fd_bR (by omega) (by omega))) (fun h61 => absurd h61 (by omega)) (fun h61 => ?_)
    have hB : ∀ (q0 : Int), fd_bl 6 (List.drop 62 fd_c64) [fd_R 199, fd_I q0] [] (fd_zr N k) = some ((fd_isA true (fd_zr N k) 208 20 q0 && true), [fd_R 199, fd_I (q0 + 1)], [], (fd_up (fd_zr N k) 208 (q0).toNat 0)) := fun _ => rfl
    refine fd_u_blk 6 (C := fd_c64) (b := (fd_isA true (fd_zr N k) 208 20 ((k : Nat) : Int) && true)) (L' := [fd_R 199, fd_I (((k + 1) : Nat) : Int)]) (st' := []) (M' := (fd_up (fd_zr N k) 208 k 0)) rfl (hB ((k : Nat) : Int)) (j := 68) rfl (fd_bA (fd_iA fd_sh208 (by omega) (by omega)) (rfl)) ?_
    clear hB
    refine fd_u_jmp (C := fd_c64) (j := 59) (st' := []) rfl rfl (b := true) rfl rfl ?_
    rw [fd_zr_S]
    exact ih (k + 1) (by omega)

theorem fd_l_td1 (N : fd_M) (h4 : 0 ≤ N 204 0 ∧ N 204 0 ≤ 6) : ∀ (n : Nat) (k : Nat) (hk : k + n = 49), fd_run 0 64 42 [fd_R 199, fd_I ((k : Nat) : Int)] [] (fd_cp N 203 49 203 0 k) (none) (fd_td4 (fd_pd (fd_zr (fd_cp N 203 49 203 0 49) 28) (N 204 0).toNat)) := by
  intro n
  induction n with
  | zero =>
    intro k hk
    have hB : ∀ (q0 : Int), fd_bl 2 (List.drop 42 fd_c64) [fd_R 199, fd_I q0] [] (fd_cp N 203 49 203 0 k) = some (true, [fd_R 199, fd_I q0], [fd_I 49, fd_I q0], (fd_cp N 203 49 203 0 k)) := fun _ => rfl
    refine fd_u_blk 2 (C := fd_c64) (b := true) (L' := [fd_R 199, fd_I ((k : Nat) : Int)]) (st' := [fd_I 49, fd_I ((k : Nat) : Int)]) (M' := (fd_cp N 203 49 203 0 k)) rfl (hB ((k : Nat) : Int)) (j := 44) rfl (rfl) ?_
    clear hB
    refine fd_u_br (C := fd_c64) (t := 57) (e := 45) (st' := []) (c := 49 ≤ ((k : Nat) : Int)) (b := (fd_rng ((k : Nat) : Int) && fd_rng 49)) rfl rfl rfl (fd_bA (fd_bR (by omega) (by omega)) (fd_bR (by omega) (by omega))) (fun h44 => ?_) (fun h44 => absurd h44 (by omega))
    have hB : ∀ (q0 : Int), fd_bl 2 (List.drop 57 fd_c64) [fd_R 199, fd_I q0] [] (fd_cp N 203 49 203 0 k) = some (true, [fd_R 199, fd_I 0], [], (fd_cp N 203 49 203 0 k)) := fun _ => rfl
    refine fd_u_blk 2 (C := fd_c64) (b := true) (L' := [fd_R 199, fd_I 0]) (st' := []) (M' := (fd_cp N 203 49 203 0 k)) rfl (hB ((k : Nat) : Int)) (j := 59) rfl (rfl) ?_
    clear hB
    have e : k = 49 := by omega
    subst e
    have z := fd_l_td2 (fd_cp N 203 49 203 0 49) h4 28 0 (by omega)
    rw [fd_zr_0] at z
    exact z
  | succ n ih =>
    intro k hk
    have hB : ∀ (q0 : Int), fd_bl 2 (List.drop 42 fd_c64) [fd_R 199, fd_I q0] [] (fd_cp N 203 49 203 0 k) = some (true, [fd_R 199, fd_I q0], [fd_I 49, fd_I q0], (fd_cp N 203 49 203 0 k)) := fun _ => rfl
    refine fd_u_blk 2 (C := fd_c64) (b := true) (L' := [fd_R 199, fd_I ((k : Nat) : Int)]) (st' := [fd_I 49, fd_I ((k : Nat) : Int)]) (M' := (fd_cp N 203 49 203 0 k)) rfl (hB ((k : Nat) : Int)) (j := 44) rfl (rfl) ?_
    clear hB
    refine fd_u_br (C := fd_c64) (t := 57) (e := 45) (st' := []) (c := 49 ≤ ((k : Nat) : Int)) (b := (fd_rng ((k : Nat) : Int) && fd_rng 49)) rfl rfl rfl (fd_bA (fd_bR (by omega) (by omega)) (fd_bR (by omega) (by omega))) (fun h44 => absurd h44 (by omega)) (fun h44 => ?_)
    have hB : ∀ (q0 : Int), fd_bl 9 (List.drop 45 fd_c64) [fd_R 199, fd_I q0] [] (fd_cp N 203 49 203 0 k) = some ((fd_isA true (fd_cp N 203 49 203 0 k) 203 20 (49 + q0) && true), [fd_R 199, fd_I q0], [fd_I ((fd_cp N 203 49 203 0 k) 203 (49 + q0).toNat), fd_I q0, fd_R 203], (fd_cp N 203 49 203 0 k)) := fun _ => rfl
    refine fd_u_blk 9 (C := fd_c64) (b := (fd_isA true (fd_cp N 203 49 203 0 k) 203 20 (49 + ((k : Nat) : Int)) && true)) (L' := [fd_R 199, fd_I ((k : Nat) : Int)]) (st' := [fd_I ((fd_cp N 203 49 203 0 k) 203 (49 + ((k : Nat) : Int)).toNat), fd_I ((k : Nat) : Int), fd_R 203]) (M' := (fd_cp N 203 49 203 0 k)) rfl (hB ((k : Nat) : Int)) (j := 54) rfl (fd_bA (fd_iA fd_sh203 (by omega) (by omega)) (rfl)) ?_
    clear hB
    rw [show (49 + ((k : Nat) : Int)).toNat = 49 + k by omega]
    have hB : ∀ (q0 : Int), fd_bl 2 (List.drop 54 fd_c64) [fd_R 199, fd_I q0] [fd_I ((fd_cp N 203 49 203 0 k) 203 (49 + k)), fd_I q0, fd_R 203] (fd_cp N 203 49 203 0 k) = some ((fd_isA true (fd_cp N 203 49 203 0 k) 203 20 q0 && true), [fd_R 199, fd_I (q0 + 1)], [], (fd_up (fd_cp N 203 49 203 0 k) 203 (q0).toNat ((fd_cp N 203 49 203 0 k) 203 (49 + k)))) := fun _ => rfl
    refine fd_u_blk 2 (C := fd_c64) (b := (fd_isA true (fd_cp N 203 49 203 0 k) 203 20 ((k : Nat) : Int) && true)) (L' := [fd_R 199, fd_I (((k + 1) : Nat) : Int)]) (st' := []) (M' := (fd_up (fd_cp N 203 49 203 0 k) 203 k ((fd_cp N 203 49 203 0 k) 203 (49 + k)))) rfl (hB ((k : Nat) : Int)) (j := 56) rfl (fd_bA (fd_iA fd_sh203 (by omega) (by omega)) (rfl)) ?_
    clear hB
    refine fd_u_jmp (C := fd_c64) (j := 42) (st' := []) rfl rfl (b := true) rfl rfl ?_
    have z := fd_cpS N 203 49 0 k (by omega)
    rw [Nat.zero_add] at z
    rw [z]
    exact ih (k + 1) (by omega)

theorem fd_y_takeDraft (K : fd_M) (h4 : 0 ≤ K 204 1 ∧ K 204 1 ≤ 6) : fd_call 0 64 [fd_R 199] K (none) (fd_tdr K) := by
  refine fd_u_in (L := [fd_R 199, fd_R 1003]) rfl ?_
  refine fd_u_blk 42 (C := fd_c64) (b := true) (L' := [fd_R 199, fd_I 0]) (st' := []) (M' := (fd_up (fd_up (fd_up (fd_up (fd_up K 201 0 (K 201 1)) 202 0 (K 202 1)) 204 0 (K 204 1)) 207 0 (K 207 2)) 207 1 (K 207 3))) rfl rfl (j := 42) rfl (rfl) ?_
  have z := fd_l_td1 (fd_td1 K) h4 49 0 (by omega)
  rw [fd_cp0] at z
  exact z


/-! the class: rows and doors -/
theorem pz_g_rng (tx : Nat → Int) (len p : Nat) : -1 ≤ pz_g tx len p ∧ pz_g tx len p ≤ 2 := by
  unfold pz_g pz_gd
  split
  · split
    · omega
    · split
      · omega
      · split <;> omega
  · omega
theorem pz_G_1 {Z : fd_M} (h : pz_G Z) (k : Nat) {v : Int} (hv : 0 ≤ v ∧ v ≤ 2) : pz_G (fd_up Z 1 k v) := ⟨h.1, h.2.1, h.2.2.1, h.2.2.2.1, h.2.2.2.2.1, h.2.2.2.2.2.1, h.2.2.2.2.2.2.1, fd_up_all (P := fun z => 0 ≤ z ∧ z ≤ 2) h.2.2.2.2.2.2.2.1 hv, h.2.2.2.2.2.2.2.2⟩
theorem fd_l_row {tx : Nat → Int} {len : Nat} (M : fd_M) : ∀ (n : Nat) (x : Nat) (K : fd_M) (q : Nat) (u : fd_V) (hxK : tk_Tx tx len K) (hq : q ≤ len) (hn : K 13 2 = (q : Int)) (hZ : pz_G (fd_zc K)) (hF : tk_FB M K) (hR : K 8 1 ≤ 6) (hk : (x : Int) + n = K 8 0), fd_runE 4 134 17 [fd_R 13, fd_I ((x : Nat) : Int), u] [] K (tk_PQ tx len M (pz_r tx len n x q (fd_zc K))) := by
  intro n
  induction n with
  | zero =>
    intro x K q u hxK hq hn hZ hF hR hk
    obtain ⟨z0, z1, z2, z3, z4, z5, z6, z7, z8, z9, z10⟩ := id hZ
    have z0 : 0 ≤ K 8 0 ∧ K 8 0 ≤ 7 := z0
    have z1 : 0 ≤ K 8 1 ∧ K 8 1 ≤ 7 := z1
    have z2 : 0 ≤ K 8 2 ∧ K 8 2 ≤ 6 := z2
    have hB : ∀ (q0 : Int), fd_bl 4 (List.drop 17 fd_c134) [fd_R 13, fd_I q0, u] [] K = some (true, [fd_R 13, fd_I q0, u], [fd_I (K 8 0), fd_I q0], K) := fun _ => rfl
    refine fd_e_blk 4 (C := fd_c134) (b := true) (L' := [fd_R 13, fd_I ((x : Nat) : Int), u]) (st' := [fd_I (K 8 0), fd_I ((x : Nat) : Int)]) (M' := K) rfl (hB ((x : Nat) : Int)) (j := 21) rfl (rfl) ?_
    clear hB
    refine fd_e_br (C := fd_c134) (t := 42) (e := 22) (st' := []) (c := (K 8 0) ≤ ((x : Nat) : Int)) (b := (fd_rng ((x : Nat) : Int) && fd_rng (K 8 0))) rfl rfl rfl (fd_bA (fd_bR (by omega) (by omega)) (fd_bR (by omega) (by omega))) (fun h21 => ?_) (fun h21 => absurd h21 (by omega))
    have hB : ∀ (q0 : Int), fd_bl 8 (List.drop 42 fd_c134) [fd_R 13, fd_I q0, u] [] K = some (true, [fd_R 13, fd_I q0, u], [fd_R 13], (fd_up K 8 1 ((K 8 1) + 1))) := fun _ => rfl
    refine fd_e_blk 8 (C := fd_c134) (b := true) (L' := [fd_R 13, fd_I ((x : Nat) : Int), u]) (st' := [fd_R 13]) (M' := (fd_up K 8 1 ((K 8 1) + 1))) rfl (hB ((x : Nat) : Int)) (j := 50) rfl (rfl) ?_
    clear hB
    obtain ⟨r5, E5, c5, e5, t5, f5⟩ := fd_p_end (fd_up K 8 1 ((K 8 1) + 1)) (by have z := hxK; exact z) (q) hq (show (fd_up K 8 1 ((K 8 1) + 1)) 13 2 = _ from hn) (fd_up (fd_zc K) 0 1 (fd_zc K 0 1 + 1))
    subst e5
    refine fd_e_call (C := fd_c134) (d0 := 3) (mid := 140) (np := 1) (args := [fd_R 13]) (r1 := some (fd_I (fd_bi ((pz_e tx len (q) (fd_up (fd_zc K) 0 1 (fd_zc K 0 1 + 1))).1 = true)))) (M1 := E5) (st' := [fd_I (fd_bi ((pz_e tx len (q) (fd_up (fd_zc K) 0 1 (fd_zc K 0 1 + 1))).1 = true))]) rfl rfl rfl rfl rfl rfl (rfl) (c5) rfl (by omega) ?_
    refine fd_e_ret (C := fd_c134) (b := (fd_inb (fd_bi ((pz_e tx len (q) (fd_up (fd_zc K) 0 1 (fd_zc K 0 1 + 1))).1 = true)) 2)) (r' := some (fd_I (fd_bi ((pz_e tx len (q) (fd_up (fd_zc K) 0 1 (fd_zc K 0 1 + 1))).1 = true)))) rfl rfl rfl (fd_biI) ?_
    refine ⟨rfl, t5, ?_, ?_⟩
    · show fd_zc E5 = (pz_e tx len q _).2.2
      rw [pz_e_Z, fd_zc_FA f5, fd_zc_8 _ (by decide)]; rfl
    · exact tk_FB_tr hF (tk_FB_tr (tk_FB_up _ (by decide) _) (tk_FB_FA f5))
  | succ n ih =>
    intro x K q u hxK hq hn hZ hF hR hk
    obtain ⟨z0, z1, z2, z3, z4, z5, z6, z7, z8, z9, z10⟩ := id hZ
    have z0 : 0 ≤ K 8 0 ∧ K 8 0 ≤ 7 := z0
    have z1 : 0 ≤ K 8 1 ∧ K 8 1 ≤ 7 := z1
    have z2 : 0 ≤ K 8 2 ∧ K 8 2 ≤ 6 := z2
    have hB : ∀ (q0 : Int), fd_bl 4 (List.drop 17 fd_c134) [fd_R 13, fd_I q0, u] [] K = some (true, [fd_R 13, fd_I q0, u], [fd_I (K 8 0), fd_I q0], K) := fun _ => rfl
    refine fd_e_blk 4 (C := fd_c134) (b := true) (L' := [fd_R 13, fd_I ((x : Nat) : Int), u]) (st' := [fd_I (K 8 0), fd_I ((x : Nat) : Int)]) (M' := K) rfl (hB ((x : Nat) : Int)) (j := 21) rfl (rfl) ?_
    clear hB
    refine fd_e_br (C := fd_c134) (t := 42) (e := 22) (st' := []) (c := (K 8 0) ≤ ((x : Nat) : Int)) (b := (fd_rng ((x : Nat) : Int) && fd_rng (K 8 0))) rfl rfl rfl (fd_bA (fd_bR (by omega) (by omega)) (fd_bR (by omega) (by omega))) (fun h21 => absurd h21 (by omega)) (fun h21 => ?_)
    have hB : ∀ (q0 : Int), fd_bl 1 (List.drop 22 fd_c134) [fd_R 13, fd_I q0, u] [] K = some (true, [fd_R 13, fd_I q0, u], [fd_R 13], K) := fun _ => rfl
    refine fd_e_blk 1 (C := fd_c134) (b := true) (L' := [fd_R 13, fd_I ((x : Nat) : Int), u]) (st' := [fd_R 13]) (M' := K) rfl (hB ((x : Nat) : Int)) (j := 23) rfl (rfl) ?_
    clear hB
    obtain ⟨r5, N5, c5, e5, t5, f5⟩ := fd_p_gnd K hxK q hq hn
    subst e5
    obtain ⟨a5, b5, k5, v5⟩ := id t5
    have zz5 := fd_zc_FA f5
    have n85 : N5 8 = K 8 := f5.1 8 (by decide)
    have n815 : N5 8 1 = K 8 1 := by rw [n85]
    have gr := pz_g_rng tx len q
    refine fd_e_call (C := fd_c134) (d0 := 3) (mid := 135) (np := 1) (args := [fd_R 13]) (r1 := some (fd_I (pz_g tx len q))) (M1 := N5) (st' := [fd_I (pz_g tx len q)]) rfl rfl rfl rfl rfl rfl (rfl) (c5) rfl (by omega) ?_
    have hB : ∀ (q0 : Int), fd_bl 3 (List.drop 24 fd_c134) [fd_R 13, fd_I q0, u] [fd_I (pz_g tx len q)] N5 = some (true, [fd_R 13, fd_I q0, fd_I (pz_g tx len q)], [fd_I (-1), fd_I (pz_g tx len q)], N5) := fun _ => rfl
    refine fd_e_blk 3 (C := fd_c134) (b := true) (L' := [fd_R 13, fd_I ((x : Nat) : Int), fd_I (pz_g tx len q)]) (st' := [fd_I (-1), fd_I (pz_g tx len q)]) (M' := N5) rfl (hB ((x : Nat) : Int)) (j := 27) rfl (rfl) ?_
    clear hB
    refine fd_e_br (C := fd_c134) (t := 30) (e := 28) (st' := []) (c := ¬ (pz_g tx len q) = (-1)) (b := (fd_rng (pz_g tx len q) && fd_rng (-1))) rfl rfl rfl (fd_bA (fd_bR (by omega) (by omega)) (fd_bR (by omega) (by omega))) (fun h27 => ?_) (fun h27 => ?_)
    · have hB : ∀ (q0 : Int), fd_bl 7 (List.drop 30 fd_c134) [fd_R 13, fd_I q0, fd_I (pz_g tx len q)] [] N5 = some (true, [fd_R 13, fd_I q0, fd_I (pz_g tx len q)], [fd_I (N5 8 1), fd_I q0, fd_R 9], N5) := fun _ => rfl
      refine fd_e_blk 7 (C := fd_c134) (b := true) (L' := [fd_R 13, fd_I ((x : Nat) : Int), fd_I (pz_g tx len q)]) (st' := [fd_I (N5 8 1), fd_I ((x : Nat) : Int), fd_R 9]) (M' := N5) rfl (hB ((x : Nat) : Int)) (j := 37) rfl (rfl) ?_
      clear hB
      refine fd_e_call (C := fd_c134) (d0 := 0) (mid := 46) (np := 2) (args := [fd_I ((x : Nat) : Int), fd_I (N5 8 1)]) (r1 := some (fd_I (((N5 8 1) * 7) + ((x : Nat) : Int)))) (M1 := N5) (st' := [fd_I (((N5 8 1) * 7) + ((x : Nat) : Int)), fd_R 9]) rfl rfl rfl rfl rfl rfl (rfl) (fd_s_placeOf N5 ((x : Nat) : Int) (N5 8 1)) rfl (by omega) ?_
      have hB : ∀ (q0 : Int) (q1 : Int), fd_bl 3 (List.drop 38 fd_c134) [fd_R 13, fd_I q0, fd_I (pz_g tx len q)] [fd_I q1, fd_R 9] N5 = some ((fd_inb q1 49 && true), [fd_R 13, fd_I (q0 + 1), fd_I (pz_g tx len q)], [], (fd_up N5 9 (q1).toNat (pz_g tx len q))) := fun _ _ => rfl
      refine fd_e_blk 3 (C := fd_c134) (b := (fd_inb (((N5 8 1) * 7) + ((x : Nat) : Int)) 49 && true)) (L' := [fd_R 13, fd_I (((x + 1) : Nat) : Int), fd_I (pz_g tx len q)]) (st' := []) (M' := (fd_up N5 9 (((N5 8 1) * 7) + ((x : Nat) : Int)).toNat (pz_g tx len q))) rfl (hB ((x : Nat) : Int) (((N5 8 1) * 7) + ((x : Nat) : Int))) (j := 41) rfl (fd_bA (fd_bI (by omega) (by omega)) (rfl)) ?_
      clear hB
      refine fd_e_jmp (C := fd_c134) (j := 17) (st' := []) rfl rfl (b := true) rfl rfl ?_
      have ez : fd_zc (fd_up N5 9 (((N5 8 1) * 7) + ((x : Nat) : Int)).toNat (pz_g tx len q)) = fd_up (fd_zc K) 1 (fd_zc K 0 1 * 7 + (x : Int)).toNat (pz_g tx len q) := by
        rw [fd_zc_9, zz5, n815]; rfl
      rw [pz_r, if_neg (by omega), ← ez]
      refine ih (x + 1) _ (tk_nx tx len q) _ (by have z := tk_Tx_FA hxK f5; exact z) (tk_nl hq) a5 (by rw [ez]; exact pz_G_1 hZ _ (by omega)) (tk_FB_tr hF (tk_FB_tr (tk_FB_FA f5) (tk_FB_up _ (by decide) _))) (by show N5 8 1 ≤ 6; omega) (by show ((x + 1 : Nat) : Int) + n = N5 8 0; rw [n85]; omega)
    · have hB : ∀ (q0 : Int), fd_bl 1 (List.drop 28 fd_c134) [fd_R 13, fd_I q0, fd_I (pz_g tx len q)] [] N5 = some (true, [fd_R 13, fd_I q0, fd_I (pz_g tx len q)], [fd_I 0], N5) := fun _ => rfl
      refine fd_e_blk 1 (C := fd_c134) (b := true) (L' := [fd_R 13, fd_I ((x : Nat) : Int), fd_I (pz_g tx len q)]) (st' := [fd_I 0]) (M' := N5) rfl (hB ((x : Nat) : Int)) (j := 29) rfl (rfl) ?_
      clear hB
      refine fd_e_ret (C := fd_c134) (b := true) (r' := some (fd_I 0)) rfl rfl rfl (rfl) ?_
      refine ⟨?_, ?_, ?_, tk_FB_tr hF (tk_FB_FA f5)⟩
      · rw [pz_r, if_pos (by omega)]; rfl
      · rw [pz_r, if_pos (by omega)]; exact t5
      · rw [pz_r, if_pos (by omega)]; exact zz5

theorem fd_p_takeRow {tx : Nat → Int} {len : Nat} (M : fd_M) (hx : tk_Tx tx len M) (p : Nat) (hp : p ≤ len) (hT : tk_TC tx len p M) (hZ : pz_G (fd_zc M)) : fd_callE 4 134 [fd_R 13] M (tk_PQ tx len M (pz_ro tx len p (fd_zc M))) := by
  refine fd_e_in (L := [fd_R 13, fd_R 1003, fd_R 1003]) rfl ?_
  obtain ⟨ta, tb, tk, tv⟩ := id hT
  obtain ⟨z0, z1, z2, z3, z4, z5, z6, z7, z8, z9, z10⟩ := id hZ
  have z0 : 0 ≤ M 8 0 ∧ M 8 0 ≤ 7 := z0
  have z1 : 0 ≤ M 8 1 ∧ M 8 1 ≤ 7 := z1
  have z2 : 0 ≤ M 8 2 ∧ M 8 2 ≤ 6 := z2
  have z5 : 0 ≤ M 13 7 ∧ M 13 7 ≤ 1 := z5
  have z6 : 0 ≤ M 13 8 ∧ M 13 8 ≤ 1 := z6
  refine fd_e_blk 3 (C := fd_c134) (b := true) (L' := [fd_R 13, fd_R 1003, fd_R 1003]) (st' := [fd_I (M 8 0)]) (M' := M) rfl rfl (j := 3) rfl (rfl) ?_
  refine fd_e_br (C := fd_c134) (t := 13) (e := 4) (st' := []) (c := (M 8 0) = 0) (b := (fd_rng (M 8 0))) rfl rfl rfl (fd_bR (by omega) (by omega)) (fun h3 => ?_) (fun h3 => ?_)
  · refine fd_e_blk 1 (C := fd_c134) (b := true) (L' := [fd_R 13, fd_R 1003, fd_R 1003]) (st' := [fd_I 0]) (M' := M) rfl rfl (j := 14) rfl (rfl) ?_
    refine fd_e_ret (C := fd_c134) (b := true) (r' := some (fd_I 0)) rfl rfl rfl (rfl) ?_
    refine ⟨?_, ?_, ?_, tk_FB_rf M⟩
    · rw [pz_ro, if_pos (show fd_zc M 0 0 = 0 ∨ 7 ≤ fd_zc M 0 1 ∨ 0 < fd_zc M 0 2 from by show M 8 0 = 0 ∨ 7 ≤ M 8 1 ∨ 0 < M 8 2; omega)]; rfl
    · rw [pz_ro, if_pos (show fd_zc M 0 0 = 0 ∨ 7 ≤ fd_zc M 0 1 ∨ 0 < fd_zc M 0 2 from by show M 8 0 = 0 ∨ 7 ≤ M 8 1 ∨ 0 < M 8 2; omega)]; exact hT
    · rw [pz_ro, if_pos (show fd_zc M 0 0 = 0 ∨ 7 ≤ fd_zc M 0 1 ∨ 0 < fd_zc M 0 2 from by show M 8 0 = 0 ∨ 7 ≤ M 8 1 ∨ 0 < M 8 2; omega)]
  · refine fd_e_blk 4 (C := fd_c134) (b := true) (L' := [fd_R 13, fd_R 1003, fd_R 1003]) (st' := [fd_I 7, fd_I (M 8 1)]) (M' := M) rfl rfl (j := 8) rfl (rfl) ?_
    refine fd_e_br (C := fd_c134) (t := 13) (e := 9) (st' := []) (c := 7 ≤ (M 8 1)) (b := (fd_rng (M 8 1) && fd_rng 7)) rfl rfl rfl (fd_bA (fd_bR (by omega) (by omega)) (fd_bR (by omega) (by omega))) (fun h8 => ?_) (fun h8 => ?_)
    · refine fd_e_blk 1 (C := fd_c134) (b := true) (L' := [fd_R 13, fd_R 1003, fd_R 1003]) (st' := [fd_I 0]) (M' := M) rfl rfl (j := 14) rfl (rfl) ?_
      refine fd_e_ret (C := fd_c134) (b := true) (r' := some (fd_I 0)) rfl rfl rfl (rfl) ?_
      refine ⟨?_, ?_, ?_, tk_FB_rf M⟩
      · rw [pz_ro, if_pos (show fd_zc M 0 0 = 0 ∨ 7 ≤ fd_zc M 0 1 ∨ 0 < fd_zc M 0 2 from by show M 8 0 = 0 ∨ 7 ≤ M 8 1 ∨ 0 < M 8 2; omega)]; rfl
      · rw [pz_ro, if_pos (show fd_zc M 0 0 = 0 ∨ 7 ≤ fd_zc M 0 1 ∨ 0 < fd_zc M 0 2 from by show M 8 0 = 0 ∨ 7 ≤ M 8 1 ∨ 0 < M 8 2; omega)]; exact hT
      · rw [pz_ro, if_pos (show fd_zc M 0 0 = 0 ∨ 7 ≤ fd_zc M 0 1 ∨ 0 < fd_zc M 0 2 from by show M 8 0 = 0 ∨ 7 ≤ M 8 1 ∨ 0 < M 8 2; omega)]
    · refine fd_e_blk 3 (C := fd_c134) (b := true) (L' := [fd_R 13, fd_R 1003, fd_R 1003]) (st' := [fd_I (M 8 2)]) (M' := M) rfl rfl (j := 12) rfl (rfl) ?_
      refine fd_e_br (C := fd_c134) (t := 15) (e := 13) (st' := []) (c := (M 8 2) ≤ 0) (b := (fd_rng (M 8 2))) rfl rfl rfl (fd_bR (by omega) (by omega)) (fun h12 => ?_) (fun h12 => ?_)
      · refine fd_e_blk 2 (C := fd_c134) (b := true) (L' := [fd_R 13, fd_I 0, fd_R 1003]) (st' := []) (M' := M) rfl rfl (j := 17) rfl (rfl) ?_
        rw [pz_ro, if_neg (show ¬ (fd_zc M 0 0 = 0 ∨ 7 ≤ fd_zc M 0 1 ∨ 0 < fd_zc M 0 2) from by show ¬ (M 8 0 = 0 ∨ 7 ≤ M 8 1 ∨ 0 < M 8 2); omega)]
        exact fd_l_row M (M 8 0).toNat 0 M (tk_nx tx len p) _ hx (tk_nl hp) ta hZ (tk_FB_rf M) (by omega) (by omega)
      · refine fd_e_blk 1 (C := fd_c134) (b := true) (L' := [fd_R 13, fd_R 1003, fd_R 1003]) (st' := [fd_I 0]) (M' := M) rfl rfl (j := 14) rfl (rfl) ?_
        refine fd_e_ret (C := fd_c134) (b := true) (r' := some (fd_I 0)) rfl rfl rfl (rfl) ?_
        refine ⟨?_, ?_, ?_, tk_FB_rf M⟩
        · rw [pz_ro, if_pos (show fd_zc M 0 0 = 0 ∨ 7 ≤ fd_zc M 0 1 ∨ 0 < fd_zc M 0 2 from by show M 8 0 = 0 ∨ 7 ≤ M 8 1 ∨ 0 < M 8 2; omega)]; rfl
        · rw [pz_ro, if_pos (show fd_zc M 0 0 = 0 ∨ 7 ≤ fd_zc M 0 1 ∨ 0 < fd_zc M 0 2 from by show M 8 0 = 0 ∨ 7 ≤ M 8 1 ∨ 0 < M 8 2; omega)]; exact hT
        · rw [pz_ro, if_pos (show fd_zc M 0 0 = 0 ∨ 7 ≤ fd_zc M 0 1 ∨ 0 < fd_zc M 0 2 from by show M 8 0 = 0 ∨ 7 ≤ M 8 1 ∨ 0 < M 8 2; omega)]

theorem fd_p_hasCell (M : fd_M) (x y : Int) (hx : 0 ≤ x ∧ x ≤ 255) (hy : 0 ≤ y ∧ y ≤ 255) (h0 : 0 ≤ M 8 0 ∧ M 8 0 ≤ 7) (h1 : 0 ≤ M 8 1 ∧ M 8 1 ≤ 7) : fd_call 0 123 [fd_R 8, fd_I x, fd_I y] M (some (fd_I (fd_bi (0 ≤ x ∧ x < M 8 0 ∧ 0 ≤ y ∧ y < M 8 1)))) M := by
  refine fd_u_in (L := [fd_R 8, fd_I x, fd_I y]) rfl ?_
  refine fd_u_blk 1 (C := fd_c123) (b := true) (L' := [fd_R 8, fd_I x, fd_I y]) (st' := [fd_I x]) (M' := M) rfl rfl (j := 1) rfl (rfl) ?_
  refine fd_u_br (C := fd_c123) (t := 14) (e := 2) (st' := []) (c := x < 0) (b := (fd_rng x)) rfl rfl rfl (fd_bR (by omega) (by omega)) (fun h1 => ?_) (fun h1 => ?_)
  · refine fd_u_blk 1 (C := fd_c123) (b := true) (L' := [fd_R 8, fd_I x, fd_I y]) (st' := [fd_I 0]) (M' := M) rfl rfl (j := 15) rfl (rfl) ?_
    refine fd_u_ret (C := fd_c123) (b := true) (r' := some (fd_I 0)) rfl rfl rfl (rfl) ?_ ?_
    · exact fd_ok0 (by omega)
    · rfl
  · refine fd_u_blk 3 (C := fd_c123) (b := true) (L' := [fd_R 8, fd_I x, fd_I y]) (st' := [fd_I (M 8 0), fd_I x]) (M' := M) rfl rfl (j := 5) rfl (rfl) ?_
    refine fd_u_br (C := fd_c123) (t := 14) (e := 6) (st' := []) (c := (M 8 0) ≤ x) (b := (fd_rng x && fd_rng (M 8 0))) rfl rfl rfl (fd_bA (fd_bR (by omega) (by omega)) (fd_bR (by omega) (by omega))) (fun h5 => ?_) (fun h5 => ?_)
    · refine fd_u_blk 1 (C := fd_c123) (b := true) (L' := [fd_R 8, fd_I x, fd_I y]) (st' := [fd_I 0]) (M' := M) rfl rfl (j := 15) rfl (rfl) ?_
      refine fd_u_ret (C := fd_c123) (b := true) (r' := some (fd_I 0)) rfl rfl rfl (rfl) ?_ ?_
      · exact fd_ok0 (by omega)
      · rfl
    · refine fd_u_blk 1 (C := fd_c123) (b := true) (L' := [fd_R 8, fd_I x, fd_I y]) (st' := [fd_I y]) (M' := M) rfl rfl (j := 7) rfl (rfl) ?_
      refine fd_u_br (C := fd_c123) (t := 14) (e := 8) (st' := []) (c := y < 0) (b := (fd_rng y)) rfl rfl rfl (fd_bR (by omega) (by omega)) (fun h7 => ?_) (fun h7 => ?_)
      · refine fd_u_blk 1 (C := fd_c123) (b := true) (L' := [fd_R 8, fd_I x, fd_I y]) (st' := [fd_I 0]) (M' := M) rfl rfl (j := 15) rfl (rfl) ?_
        refine fd_u_ret (C := fd_c123) (b := true) (r' := some (fd_I 0)) rfl rfl rfl (rfl) ?_ ?_
        · exact fd_ok0 (by omega)
        · rfl
      · refine fd_u_blk 3 (C := fd_c123) (b := true) (L' := [fd_R 8, fd_I x, fd_I y]) (st' := [fd_I (M 8 1), fd_I y]) (M' := M) rfl rfl (j := 11) rfl (rfl) ?_
        refine fd_u_br (C := fd_c123) (t := 14) (e := 12) (st' := []) (c := (M 8 1) ≤ y) (b := (fd_rng y && fd_rng (M 8 1))) rfl rfl rfl (fd_bA (fd_bR (by omega) (by omega)) (fd_bR (by omega) (by omega))) (fun h11 => ?_) (fun h11 => ?_)
        · refine fd_u_blk 1 (C := fd_c123) (b := true) (L' := [fd_R 8, fd_I x, fd_I y]) (st' := [fd_I 0]) (M' := M) rfl rfl (j := 15) rfl (rfl) ?_
          refine fd_u_ret (C := fd_c123) (b := true) (r' := some (fd_I 0)) rfl rfl rfl (rfl) ?_ ?_
          · exact fd_ok0 (by omega)
          · rfl
        · refine fd_u_blk 1 (C := fd_c123) (b := true) (L' := [fd_R 8, fd_I x, fd_I y]) (st' := [fd_I 1]) (M' := M) rfl rfl (j := 13) rfl (rfl) ?_
          refine fd_u_jmp (C := fd_c123) (j := 15) (st' := [fd_I 1]) rfl rfl (b := true) rfl rfl ?_
          refine fd_u_ret (C := fd_c123) (b := true) (r' := some (fd_I 1)) rfl rfl rfl (rfl) ?_ ?_
          · exact fd_ok1 (by omega)
          · rfl

theorem fd_p_groundAt (M : fd_M) (x y : Int) (hx : 0 ≤ x ∧ x ≤ 255) (hy : 0 ≤ y ∧ y ≤ 255) (h0 : 0 ≤ M 8 0 ∧ M 8 0 ≤ 7) (h1 : 0 ≤ M 8 1 ∧ M 8 1 ≤ 7) : fd_call 1 125 [fd_R 8, fd_I x, fd_I y] M (some (fd_I (if 0 ≤ x ∧ x < M 8 0 ∧ 0 ≤ y ∧ y < M 8 1 then M 9 (y * 7 + x).toNat else 1))) M := by
  refine fd_u_in (L := [fd_R 8, fd_I x, fd_I y]) rfl ?_
  refine fd_u_blk 3 (C := fd_c125) (b := true) (L' := [fd_R 8, fd_I x, fd_I y]) (st' := [fd_I y, fd_I x, fd_R 8]) (M' := M) rfl rfl (j := 3) rfl (rfl) ?_
  refine fd_u_call (C := fd_c125) (d0 := 0) (mid := 123) (np := 3) (args := [fd_R 8, fd_I x, fd_I y]) (r1 := some (fd_I (fd_bi (0 ≤ x ∧ x < M 8 0 ∧ 0 ≤ y ∧ y < M 8 1)))) (M1 := M) (st' := [fd_I (fd_bi (0 ≤ x ∧ x < M 8 0 ∧ 0 ≤ y ∧ y < M 8 1))]) rfl rfl rfl rfl rfl rfl (rfl) (fd_p_hasCell M x y (by omega) (by omega) (by omega) (by omega)) rfl (by omega) ?_
  refine fd_u_br (C := fd_c125) (t := 12) (e := 5) (st' := []) (c := (fd_bi (0 ≤ x ∧ x < M 8 0 ∧ 0 ≤ y ∧ y < M 8 1)) = 0) (b := (fd_rng (fd_bi (0 ≤ x ∧ x < M 8 0 ∧ 0 ≤ y ∧ y < M 8 1)))) rfl rfl rfl (fd_biR) (fun h4 => ?_) (fun h4 => ?_)
  · have h4 := fd_biF.mp h4
    refine fd_u_blk 1 (C := fd_c125) (b := true) (L' := [fd_R 8, fd_I x, fd_I y]) (st' := [fd_I 1]) (M' := M) rfl rfl (j := 13) rfl (rfl) ?_
    refine fd_u_ret (C := fd_c125) (b := true) (r' := some (fd_I 1)) rfl rfl rfl (rfl) ?_ ?_
    · rw [if_neg (by omega)]
    · rfl
  · have h4 := fd_biT.mp h4
    refine fd_u_blk 4 (C := fd_c125) (b := true) (L' := [fd_R 8, fd_I x, fd_I y]) (st' := [fd_I y, fd_I x, fd_R 9]) (M' := M) rfl rfl (j := 9) rfl (rfl) ?_
    refine fd_u_call (C := fd_c125) (d0 := 0) (mid := 46) (np := 2) (args := [fd_I x, fd_I y]) (r1 := some (fd_I ((y * 7) + x))) (M1 := M) (st' := [fd_I ((y * 7) + x), fd_R 9]) rfl rfl rfl rfl rfl rfl (rfl) (fd_s_placeOf M x y) rfl (by omega) ?_
    refine fd_u_blk 1 (C := fd_c125) (b := (fd_inb ((y * 7) + x) 49 && true)) (L' := [fd_R 8, fd_I x, fd_I y]) (st' := [fd_I (M 9 ((y * 7) + x).toNat)]) (M' := M) rfl rfl (j := 11) rfl (fd_bA (fd_bI (by omega) (by omega)) (rfl)) ?_
    refine fd_u_jmp (C := fd_c125) (j := 13) (st' := [fd_I (M 9 ((y * 7) + x).toNat)]) rfl rfl (b := true) rfl rfl ?_
    refine fd_u_ret (C := fd_c125) (b := true) (r' := some (fd_I (M 9 ((y * 7) + x).toNat))) rfl rfl rfl (rfl) ?_ ?_
    · rw [if_pos (by omega)]
    · rfl

theorem fd_l_free8 (M : fd_M) (x y : Int) (hx : 0 ≤ x ∧ x ≤ 255) (hy : 0 ≤ y ∧ y ≤ 255) (h2 : 0 ≤ M 8 2 ∧ M 8 2 ≤ 6) (h10 : ∀ k, 0 ≤ M 10 k ∧ M 10 k ≤ 6) (h11 : ∀ k, 0 ≤ M 11 k ∧ M 11 k ≤ 6) : ∀ (n : Nat) (k : Nat) (hk : (k : Int) + n = M 8 2) (ha : fd_all (fun d => decide (¬ (M 10 d = x ∧ M 11 d = y))) k = true), fd_run 2 126 14 [fd_R 8, fd_I x, fd_I y, fd_I ((k : Nat) : Int)] [] M (some (fd_I (fd_bi (fd_all (fun d => decide (¬ (M 10 d = x ∧ M 11 d = y))) (M 8 2).toNat = true)))) M := by
  intro n
  induction n with
  | zero =>
    intro k hk ha
    have q10 := h10 k
    have q11 := h11 k
    have hB : ∀ (q0 : Int), fd_bl 3 (List.drop 14 fd_c126) [fd_R 8, fd_I x, fd_I y, fd_I q0] [] M = some (true, [fd_R 8, fd_I x, fd_I y, fd_I q0], [fd_I (M 8 2), fd_I q0], M) := fun _ => rfl
    refine fd_u_blk 3 (C := fd_c126) (b := true) (L' := [fd_R 8, fd_I x, fd_I y, fd_I ((k : Nat) : Int)]) (st' := [fd_I (M 8 2), fd_I ((k : Nat) : Int)]) (M' := M) rfl (hB ((k : Nat) : Int)) (j := 17) rfl (rfl) ?_
    clear hB
    refine fd_u_br (C := fd_c126) (t := 34) (e := 18) (st' := []) (c := (M 8 2) ≤ ((k : Nat) : Int)) (b := (fd_rng ((k : Nat) : Int) && fd_rng (M 8 2))) rfl rfl rfl (fd_bA (fd_bR (by omega) (by omega)) (fd_bR (by omega) (by omega))) (fun h17 => ?_) (fun h17 => absurd h17 (by omega))
    have hB : ∀ (q0 : Int), fd_bl 1 (List.drop 34 fd_c126) [fd_R 8, fd_I x, fd_I y, fd_I q0] [] M = some (true, [fd_R 8, fd_I x, fd_I y, fd_I q0], [fd_I 1], M) := fun _ => rfl
    refine fd_u_blk 1 (C := fd_c126) (b := true) (L' := [fd_R 8, fd_I x, fd_I y, fd_I ((k : Nat) : Int)]) (st' := [fd_I 1]) (M' := M) rfl (hB ((k : Nat) : Int)) (j := 35) rfl (rfl) ?_
    clear hB
    refine fd_u_ret (C := fd_c126) (b := true) (r' := some (fd_I 1)) rfl rfl rfl (rfl) ?_ ?_
    · refine fd_ok1 ?_
      rw [show (M 8 2).toNat = k by omega]
      exact ha
    · rfl
  | succ n ih =>
    intro k hk ha
    have q10 := h10 k
    have q11 := h11 k
    have hB : ∀ (q0 : Int), fd_bl 3 (List.drop 14 fd_c126) [fd_R 8, fd_I x, fd_I y, fd_I q0] [] M = some (true, [fd_R 8, fd_I x, fd_I y, fd_I q0], [fd_I (M 8 2), fd_I q0], M) := fun _ => rfl
    refine fd_u_blk 3 (C := fd_c126) (b := true) (L' := [fd_R 8, fd_I x, fd_I y, fd_I ((k : Nat) : Int)]) (st' := [fd_I (M 8 2), fd_I ((k : Nat) : Int)]) (M' := M) rfl (hB ((k : Nat) : Int)) (j := 17) rfl (rfl) ?_
    clear hB
    refine fd_u_br (C := fd_c126) (t := 34) (e := 18) (st' := []) (c := (M 8 2) ≤ ((k : Nat) : Int)) (b := (fd_rng ((k : Nat) : Int) && fd_rng (M 8 2))) rfl rfl rfl (fd_bA (fd_bR (by omega) (by omega)) (fd_bR (by omega) (by omega))) (fun h17 => absurd h17 (by omega)) (fun h17 => ?_)
    have hB : ∀ (q0 : Int), fd_bl 5 (List.drop 18 fd_c126) [fd_R 8, fd_I x, fd_I y, fd_I q0] [] M = some ((fd_inb q0 6 && true), [fd_R 8, fd_I x, fd_I y, fd_I q0], [fd_I x, fd_I (M 10 (q0).toNat)], M) := fun _ => rfl
    refine fd_u_blk 5 (C := fd_c126) (b := (fd_inb ((k : Nat) : Int) 6 && true)) (L' := [fd_R 8, fd_I x, fd_I y, fd_I ((k : Nat) : Int)]) (st' := [fd_I x, fd_I (M 10 k)]) (M' := M) rfl (hB ((k : Nat) : Int)) (j := 23) rfl (fd_bA (fd_bI (by omega) (by omega)) (rfl)) ?_
    clear hB
    refine fd_u_br (C := fd_c126) (t := 32) (e := 24) (st' := []) (c := ¬ (M 10 k) = x) (b := (fd_rng (M 10 k) && fd_rng x)) rfl rfl rfl (fd_bA (fd_bR (by omega) (by omega)) (fd_bR (by omega) (by omega))) (fun h23 => ?_) (fun h23 => ?_)
    · have hB : ∀ (q0 : Int), fd_bl 1 (List.drop 32 fd_c126) [fd_R 8, fd_I x, fd_I y, fd_I q0] [] M = some (true, [fd_R 8, fd_I x, fd_I y, fd_I (q0 + 1)], [], M) := fun _ => rfl
      refine fd_u_blk 1 (C := fd_c126) (b := true) (L' := [fd_R 8, fd_I x, fd_I y, fd_I (((k + 1) : Nat) : Int)]) (st' := []) (M' := M) rfl (hB ((k : Nat) : Int)) (j := 33) rfl (rfl) ?_
      clear hB
      refine fd_u_jmp (C := fd_c126) (j := 14) (st' := []) rfl rfl (b := true) rfl rfl ?_
      refine ih (k + 1) (by omega) ?_
      show (fd_all (fun d => decide (¬ (M 10 d = x ∧ M 11 d = y))) k && decide (¬ (M 10 k = x ∧ M 11 k = y))) = true
      rw [ha, Bool.true_and]
      apply decide_eq_true
      intro z
      first | exact h23 z.1 | exact h29 z.2
    · have hB : ∀ (q0 : Int), fd_bl 5 (List.drop 24 fd_c126) [fd_R 8, fd_I x, fd_I y, fd_I q0] [] M = some ((fd_inb q0 6 && true), [fd_R 8, fd_I x, fd_I y, fd_I q0], [fd_I y, fd_I (M 11 (q0).toNat)], M) := fun _ => rfl
      refine fd_u_blk 5 (C := fd_c126) (b := (fd_inb ((k : Nat) : Int) 6 && true)) (L' := [fd_R 8, fd_I x, fd_I y, fd_I ((k : Nat) : Int)]) (st' := [fd_I y, fd_I (M 11 k)]) (M' := M) rfl (hB ((k : Nat) : Int)) (j := 29) rfl (fd_bA (fd_bI (by omega) (by omega)) (rfl)) ?_
      clear hB
      refine fd_u_br (C := fd_c126) (t := 32) (e := 30) (st' := []) (c := ¬ (M 11 k) = y) (b := (fd_rng (M 11 k) && fd_rng y)) rfl rfl rfl (fd_bA (fd_bR (by omega) (by omega)) (fd_bR (by omega) (by omega))) (fun h29 => ?_) (fun h29 => ?_)
      · have hB : ∀ (q0 : Int), fd_bl 1 (List.drop 32 fd_c126) [fd_R 8, fd_I x, fd_I y, fd_I q0] [] M = some (true, [fd_R 8, fd_I x, fd_I y, fd_I (q0 + 1)], [], M) := fun _ => rfl
        refine fd_u_blk 1 (C := fd_c126) (b := true) (L' := [fd_R 8, fd_I x, fd_I y, fd_I (((k + 1) : Nat) : Int)]) (st' := []) (M' := M) rfl (hB ((k : Nat) : Int)) (j := 33) rfl (rfl) ?_
        clear hB
        refine fd_u_jmp (C := fd_c126) (j := 14) (st' := []) rfl rfl (b := true) rfl rfl ?_
        refine ih (k + 1) (by omega) ?_
        show (fd_all (fun d => decide (¬ (M 10 d = x ∧ M 11 d = y))) k && decide (¬ (M 10 k = x ∧ M 11 k = y))) = true
        rw [ha, Bool.true_and]
        apply decide_eq_true
        intro z
        first | exact h23 z.1 | exact h29 z.2
      · have hB : ∀ (q0 : Int), fd_bl 1 (List.drop 30 fd_c126) [fd_R 8, fd_I x, fd_I y, fd_I q0] [] M = some (true, [fd_R 8, fd_I x, fd_I y, fd_I q0], [fd_I 0], M) := fun _ => rfl
        refine fd_u_blk 1 (C := fd_c126) (b := true) (L' := [fd_R 8, fd_I x, fd_I y, fd_I ((k : Nat) : Int)]) (st' := [fd_I 0]) (M' := M) rfl (hB ((k : Nat) : Int)) (j := 31) rfl (rfl) ?_
        clear hB
        refine fd_u_ret (C := fd_c126) (b := true) (r' := some (fd_I 0)) rfl rfl rfl (rfl) ?_ ?_
        · refine fd_ok0 (fun q => ?_)
          have q2 := of_decide_eq_true ((fd_all_iff _).mp q k (by omega))
          exact q2 ⟨Classical.not_not.mp h23, Classical.not_not.mp h29⟩
        · rfl

theorem fd_p_isFree (M : fd_M) (x y : Int) (hx : 0 ≤ x ∧ x ≤ 255) (hy : 0 ≤ y ∧ y ≤ 255) (h0 : 0 ≤ M 8 0 ∧ M 8 0 ≤ 7) (h1 : 0 ≤ M 8 1 ∧ M 8 1 ≤ 7) (h2 : 0 ≤ M 8 2 ∧ M 8 2 ≤ 6) (h10 : ∀ k, 0 ≤ M 10 k ∧ M 10 k ≤ 6) (h11 : ∀ k, 0 ≤ M 11 k ∧ M 11 k ≤ 6) (h9r : ∀ k, 0 ≤ M 9 k ∧ M 9 k ≤ 2) (hc : 0 ≤ x ∧ x < M 8 0 ∧ 0 ≤ y ∧ y < M 8 1) : fd_call 2 126 [fd_R 8, fd_I x, fd_I y] M (some (fd_I (fd_bi (pz_f (fd_zc M) x y = true)))) M := by
  refine fd_u_in (L := [fd_R 8, fd_I x, fd_I y, fd_R 1003]) rfl ?_
  have q9 := h9r (y * 7 + x).toNat
  have eg : 0 ≤ (if 0 ≤ x ∧ x < M 8 0 ∧ 0 ≤ y ∧ y < M 8 1 then M 9 (y * 7 + x).toNat else 1) ∧ (if 0 ≤ x ∧ x < M 8 0 ∧ 0 ≤ y ∧ y < M 8 1 then M 9 (y * 7 + x).toNat else 1) ≤ 2 := by split <;> omega
  refine fd_u_blk 3 (C := fd_c126) (b := true) (L' := [fd_R 8, fd_I x, fd_I y, fd_R 1003]) (st' := [fd_I y, fd_I x, fd_R 8]) (M' := M) rfl rfl (j := 3) rfl (rfl) ?_
  refine fd_u_call (C := fd_c126) (d0 := 0) (mid := 123) (np := 3) (args := [fd_R 8, fd_I x, fd_I y]) (r1 := some (fd_I (fd_bi (0 ≤ x ∧ x < M 8 0 ∧ 0 ≤ y ∧ y < M 8 1)))) (M1 := M) (st' := [fd_I (fd_bi (0 ≤ x ∧ x < M 8 0 ∧ 0 ≤ y ∧ y < M 8 1))]) rfl rfl rfl rfl rfl rfl (rfl) (fd_p_hasCell M x y (by omega) (by omega) (by omega) (by omega)) rfl (by omega) ?_
  refine fd_u_br (C := fd_c126) (t := 10) (e := 5) (st' := []) (c := (fd_bi (0 ≤ x ∧ x < M 8 0 ∧ 0 ≤ y ∧ y < M 8 1)) = 0) (b := (fd_rng (fd_bi (0 ≤ x ∧ x < M 8 0 ∧ 0 ≤ y ∧ y < M 8 1)))) rfl rfl rfl (fd_biR) (fun h4 => ?_) (fun h4 => ?_)
  · have h4 := fd_biF.mp h4
    refine fd_u_blk 1 (C := fd_c126) (b := true) (L' := [fd_R 8, fd_I x, fd_I y, fd_R 1003]) (st' := [fd_I 0]) (M' := M) rfl rfl (j := 11) rfl (rfl) ?_
    refine fd_u_ret (C := fd_c126) (b := true) (r' := some (fd_I 0)) rfl rfl rfl (rfl) ?_ ?_
    · refine fd_ok0 (fun z => ?_)
      unfold pz_f at z
      rw [Bool.and_eq_true] at z
      have z2 := of_decide_eq_true z.1
      have z3 : M 9 (y * 7 + x).toNat = 0 := z2
      first | exact absurd hc h4 | (rw [if_pos hc] at h9; exact h9 z3)
    · rfl
  · have h4 := fd_biT.mp h4
    refine fd_u_blk 3 (C := fd_c126) (b := true) (L' := [fd_R 8, fd_I x, fd_I y, fd_R 1003]) (st' := [fd_I y, fd_I x, fd_R 8]) (M' := M) rfl rfl (j := 8) rfl (rfl) ?_
    refine fd_u_call (C := fd_c126) (d0 := 1) (mid := 125) (np := 3) (args := [fd_R 8, fd_I x, fd_I y]) (r1 := some (fd_I (if 0 ≤ x ∧ x < M 8 0 ∧ 0 ≤ y ∧ y < M 8 1 then M 9 (y * 7 + x).toNat else 1))) (M1 := M) (st' := [fd_I (if 0 ≤ x ∧ x < M 8 0 ∧ 0 ≤ y ∧ y < M 8 1 then M 9 (y * 7 + x).toNat else 1)]) rfl rfl rfl rfl rfl rfl (rfl) (fd_p_groundAt M x y (by omega) (by omega) (by omega) (by omega)) rfl (by omega) ?_
    refine fd_u_br (C := fd_c126) (t := 12) (e := 10) (st' := []) (c := (if 0 ≤ x ∧ x < M 8 0 ∧ 0 ≤ y ∧ y < M 8 1 then M 9 (y * 7 + x).toNat else 1) = 0) (b := (fd_rng (if 0 ≤ x ∧ x < M 8 0 ∧ 0 ≤ y ∧ y < M 8 1 then M 9 (y * 7 + x).toNat else 1))) rfl rfl rfl (fd_bR (by omega) (by omega)) (fun h9 => ?_) (fun h9 => ?_)
    · refine fd_u_blk 2 (C := fd_c126) (b := true) (L' := [fd_R 8, fd_I x, fd_I y, fd_I 0]) (st' := []) (M' := M) rfl rfl (j := 14) rfl (rfl) ?_
      have z := fd_l_free8 M x y hx hy h2 h10 h11 (M 8 2).toNat 0 (by omega) rfl
      have e9 : M 9 (y * 7 + x).toNat = 0 := by rw [if_pos hc] at h9; exact h9
      have ef : fd_bi (pz_f (fd_zc M) x y = true) = fd_bi (fd_all (fun d => decide (¬ (M 10 d = x ∧ M 11 d = y))) (M 8 2).toNat = true) := by
        have e1 : pz_f (fd_zc M) x y = (decide (M 9 (y * 7 + x).toNat = 0) && fd_all (fun d => decide (¬ (M 10 d = x ∧ M 11 d = y))) (M 8 2).toNat) := rfl
        rw [e1, decide_eq_true e9, Bool.true_and]
      rw [ef]
      exact z
    · refine fd_u_blk 1 (C := fd_c126) (b := true) (L' := [fd_R 8, fd_I x, fd_I y, fd_R 1003]) (st' := [fd_I 0]) (M' := M) rfl rfl (j := 11) rfl (rfl) ?_
      refine fd_u_ret (C := fd_c126) (b := true) (r' := some (fd_I 0)) rfl rfl rfl (rfl) ?_ ?_
      · refine fd_ok0 (fun z => ?_)
        unfold pz_f at z
        rw [Bool.and_eq_true] at z
        have z2 := of_decide_eq_true z.1
        have z3 : M 9 (y * 7 + x).toNat = 0 := z2
        first | exact absurd hc h4 | (rw [if_pos hc] at h9; exact h9 z3)
      · rfl

theorem fd_p_takeDoor {tx : Nat → Int} {len : Nat} (M : fd_M) (hx : tk_Tx tx len M) (p : Nat) (hp : p ≤ len) (hT : tk_TC tx len p M) (hZ : pz_G (fd_zc M)) : fd_callE 4 136 [fd_R 13] M (tk_PQ tx len M (pz_d tx len p (fd_zc M))) := by
  refine fd_e_in (L := [fd_R 13, fd_R 1003, fd_R 1003]) rfl ?_
  obtain ⟨ta, tb, tk, tv⟩ := id hT
  obtain ⟨z0, z1, z2, z3, z4, z5, z6, z7, z8, z9, z10⟩ := id hZ
  have z0 : 0 ≤ M 8 0 ∧ M 8 0 ≤ 7 := z0
  have z1 : 0 ≤ M 8 1 ∧ M 8 1 ≤ 7 := z1
  have z2 : 0 ≤ M 8 2 ∧ M 8 2 ≤ 6 := z2
  have z5 : 0 ≤ M 13 7 ∧ M 13 7 ≤ 1 := z5
  have z6 : 0 ≤ M 13 8 ∧ M 13 8 ≤ 1 := z6
  refine fd_e_blk 4 (C := fd_c136) (b := true) (L' := [fd_R 13, fd_R 1003, fd_R 1003]) (st' := [fd_I 6, fd_I (M 8 2)]) (M' := M) rfl rfl (j := 4) rfl (rfl) ?_
  refine fd_e_br (C := fd_c136) (t := 14) (e := 5) (st' := []) (c := 6 ≤ (M 8 2)) (b := (fd_rng (M 8 2) && fd_rng 6)) rfl rfl rfl (fd_bA (fd_bR (by omega) (by omega)) (fd_bR (by omega) (by omega))) (fun h4 => ?_) (fun h4 => ?_)
  · refine fd_e_blk 1 (C := fd_c136) (b := true) (L' := [fd_R 13, fd_R 1003, fd_R 1003]) (st' := [fd_I 0]) (M' := M) rfl rfl (j := 15) rfl (rfl) ?_
    refine fd_e_ret (C := fd_c136) (b := true) (r' := some (fd_I 0)) rfl rfl rfl (rfl) ?_
    refine ⟨?_, ?_, ?_, tk_FB_rf M⟩
    · rw [pz_d, if_pos (show 6 ≤ fd_zc M 0 2 from by show 6 ≤ M 8 2; omega)]; rfl
    · rw [pz_d, if_pos (show 6 ≤ fd_zc M 0 2 from by show 6 ≤ M 8 2; omega)]; exact hT
    · rw [pz_d, if_pos (show 6 ≤ fd_zc M 0 2 from by show 6 ≤ M 8 2; omega)]
  · refine fd_e_blk 7 (C := fd_c136) (b := true) (L' := [fd_R 13, fd_R 1003, fd_R 1003]) (st' := [fd_I ((M 8 0) - 1), fd_I 0, fd_R 13]) (M' := M) rfl rfl (j := 12) rfl (rfl) ?_
    obtain ⟨r7, N7, c7, e7, t7, f7⟩ := fd_p_num M hx (tk_nx tx len p) (tk_nl hp) ta 0 ((M 8 0) - 1) (by omega) (by omega)
    subst e7
    obtain ⟨a7, b7, k7, v7⟩ := id t7
    have vr7 := tk_vl_rng hx.2.2.2 len (tk_nx tx len p)
    have fa7 := f7
    have d87 : N7 8 = M 8 := fa7.1 8 (by decide)
    have d807 : N7 8 0 = M 8 0 := by rw [d87]
    have d817 : N7 8 1 = M 8 1 := by rw [d87]
    have d827 : N7 8 2 = M 8 2 := by rw [d87]
    have zm7 : fd_zc N7 = fd_zc M := fd_zc_FA fa7
    refine fd_e_call (C := fd_c136) (d0 := 3) (mid := 139) (np := 3) (args := [fd_R 13, fd_I 0, fd_I ((M 8 0) - 1)]) (r1 := some (fd_I (fd_bi (pz_n tx len (tk_nx tx len p) 0 ((M 8 0) - 1))))) (M1 := N7) (st' := [fd_I (fd_bi (pz_n tx len (tk_nx tx len p) 0 ((M 8 0) - 1)))]) rfl rfl rfl rfl rfl rfl (rfl) (c7) rfl (by omega) ?_
    refine fd_e_br (C := fd_c136) (t := 16) (e := 14) (st' := []) (c := ¬ (fd_bi (pz_n tx len (tk_nx tx len p) 0 ((M 8 0) - 1))) = 0) (b := (fd_rng (fd_bi (pz_n tx len (tk_nx tx len p) 0 ((M 8 0) - 1))))) rfl rfl rfl (fd_biR) (fun h13 => ?_) (fun h13 => ?_)
    · have h13 := fd_biT.mp h13
      have ev1 : N7 13 5 = tk_vl tx len (tk_nx tx len p) := v7 (by have := h13.1; omega)
      refine fd_e_blk 10 (C := fd_c136) (b := true) (L' := [fd_R 13, fd_I (N7 13 5), fd_R 1003]) (st' := [fd_I ((N7 8 1) - 1), fd_I 0, fd_R 13]) (M' := N7) rfl rfl (j := 26) rfl (rfl) ?_
      obtain ⟨r11, N11, c11, e11, t11, f11⟩ := fd_p_num N7 (tk_Tx_FA hx f7) (tk_nx tx len (tk_nx tx len p)) (tk_nl (tk_nl hp)) a7 0 ((N7 8 1) - 1) (by omega) (by omega)
      subst e11
      obtain ⟨a11, b11, k11, v11⟩ := id t11
      have vr11 := tk_vl_rng hx.2.2.2 len (tk_nx tx len (tk_nx tx len p))
      have fa11 := (tk_FA_tr f7 f11)
      have d811 : N11 8 = M 8 := fa11.1 8 (by decide)
      have d8011 : N11 8 0 = M 8 0 := by rw [d811]
      have d8111 : N11 8 1 = M 8 1 := by rw [d811]
      have d8211 : N11 8 2 = M 8 2 := by rw [d811]
      have zm11 : fd_zc N11 = fd_zc M := fd_zc_FA fa11
      refine fd_e_call (C := fd_c136) (d0 := 3) (mid := 139) (np := 3) (args := [fd_R 13, fd_I 0, fd_I ((N7 8 1) - 1)]) (r1 := some (fd_I (fd_bi (pz_n tx len (tk_nx tx len (tk_nx tx len p)) 0 ((N7 8 1) - 1))))) (M1 := N11) (st' := [fd_I (fd_bi (pz_n tx len (tk_nx tx len (tk_nx tx len p)) 0 ((N7 8 1) - 1)))]) rfl rfl rfl rfl rfl rfl (rfl) (c11) rfl (by omega) ?_
      refine fd_e_br (C := fd_c136) (t := 35) (e := 28) (st' := []) (c := (fd_bi (pz_n tx len (tk_nx tx len (tk_nx tx len p)) 0 ((N7 8 1) - 1))) = 0) (b := (fd_rng (fd_bi (pz_n tx len (tk_nx tx len (tk_nx tx len p)) 0 ((N7 8 1) - 1))))) rfl rfl rfl (fd_biR) (fun h27 => ?_) (fun h27 => ?_)
      · have h27 := fd_biF.mp h27
        refine fd_e_blk 1 (C := fd_c136) (b := true) (L' := [fd_R 13, fd_I (N7 13 5), fd_R 1003]) (st' := [fd_I 0]) (M' := N11) rfl rfl (j := 36) rfl (rfl) ?_
        refine fd_e_ret (C := fd_c136) (b := true) (r' := some (fd_I 0)) rfl rfl rfl (rfl) ?_
        refine ⟨?_, ?_, ?_, tk_FB_FA fa11⟩
        · rw [pz_d, if_neg (show ¬ 6 ≤ fd_zc M 0 2 from by show ¬ 6 ≤ M 8 2; omega), if_neg (show ¬ ¬ pz_n tx len (tk_nx tx len p) 0 (fd_zc M 0 0 - 1) from fun z => z h13), if_pos (show ¬ (pz_n tx len (tk_nx tx len (tk_nx tx len p)) 0 (fd_zc M 0 1 - 1) ∧ pz_f (fd_zc M) (tk_vl tx len (tk_nx tx len p)) (tk_vl tx len (tk_nx tx len (tk_nx tx len p))) = true) from by rintro ⟨y1, y2⟩; first | exact h27 (by rw [← show N7 8 1 = fd_zc M 0 1 from d817] at y1; exact y1) | (rw [← ev1, ← ev2] at y2; exact h34 y2))]; rfl
        · rw [pz_d, if_neg (show ¬ 6 ≤ fd_zc M 0 2 from by show ¬ 6 ≤ M 8 2; omega), if_neg (show ¬ ¬ pz_n tx len (tk_nx tx len p) 0 (fd_zc M 0 0 - 1) from fun z => z h13), if_pos (show ¬ (pz_n tx len (tk_nx tx len (tk_nx tx len p)) 0 (fd_zc M 0 1 - 1) ∧ pz_f (fd_zc M) (tk_vl tx len (tk_nx tx len p)) (tk_vl tx len (tk_nx tx len (tk_nx tx len p))) = true) from by rintro ⟨y1, y2⟩; first | exact h27 (by rw [← show N7 8 1 = fd_zc M 0 1 from d817] at y1; exact y1) | (rw [← ev1, ← ev2] at y2; exact h34 y2))]; exact t11
        · rw [pz_d, if_neg (show ¬ 6 ≤ fd_zc M 0 2 from by show ¬ 6 ≤ M 8 2; omega), if_neg (show ¬ ¬ pz_n tx len (tk_nx tx len p) 0 (fd_zc M 0 0 - 1) from fun z => z h13), if_pos (show ¬ (pz_n tx len (tk_nx tx len (tk_nx tx len p)) 0 (fd_zc M 0 1 - 1) ∧ pz_f (fd_zc M) (tk_vl tx len (tk_nx tx len p)) (tk_vl tx len (tk_nx tx len (tk_nx tx len p))) = true) from by rintro ⟨y1, y2⟩; first | exact h27 (by rw [← show N7 8 1 = fd_zc M 0 1 from d817] at y1; exact y1) | (rw [← ev1, ← ev2] at y2; exact h34 y2))]; exact zm11
      · have h27 := fd_biT.mp h27
        have ev2 : N11 13 5 = tk_vl tx len (tk_nx tx len (tk_nx tx len p)) := v11 (by have := h27.1; omega)
        refine fd_e_blk 5 (C := fd_c136) (b := true) (L' := [fd_R 13, fd_I (N7 13 5), fd_R 1003]) (st' := [fd_I (N11 13 5), fd_I (N7 13 5), fd_R 8]) (M' := N11) rfl rfl (j := 33) rfl (rfl) ?_
        refine fd_e_call (C := fd_c136) (d0 := 2) (mid := 126) (np := 3) (args := [fd_R 8, fd_I (N7 13 5), fd_I (N11 13 5)]) (r1 := some (fd_I (fd_bi (pz_f (fd_zc M) (N7 13 5) (N11 13 5) = true)))) (M1 := N11) (st' := [fd_I (fd_bi (pz_f (fd_zc M) (N7 13 5) (N11 13 5) = true))]) rfl rfl rfl rfl rfl rfl (rfl) (by rw [← zm11]; exact fd_p_isFree N11 (N7 13 5) (N11 13 5) (by omega) (by omega) (by omega) (by omega) (by omega) (by rw [fa11.1 10 (by decide)]; exact z8) (by rw [fa11.1 11 (by decide)]; exact z9) (by rw [fa11.1 9 (by decide)]; exact z7) (by omega)) rfl (by omega) ?_
        refine fd_e_br (C := fd_c136) (t := 37) (e := 35) (st' := []) (c := ¬ (fd_bi (pz_f (fd_zc M) (N7 13 5) (N11 13 5) = true)) = 0) (b := (fd_rng (fd_bi (pz_f (fd_zc M) (N7 13 5) (N11 13 5) = true)))) rfl rfl rfl (fd_biR) (fun h34 => ?_) (fun h34 => ?_)
        · have h34 := fd_biT.mp h34
          refine fd_e_blk 6 (C := fd_c136) (b := true) (L' := [fd_R 13, fd_I (N7 13 5), fd_I (N11 13 5)]) (st' := [fd_I 3, fd_I 0, fd_R 13]) (M' := N11) rfl rfl (j := 43) rfl (rfl) ?_
          obtain ⟨r21, N21, c21, e21, t21, f21⟩ := fd_p_num N11 (tk_Tx_FA hx (tk_FA_tr f7 f11)) (tk_nx tx len (tk_nx tx len (tk_nx tx len p))) (tk_nl (tk_nl (tk_nl hp))) a11 0 3 (by omega) (by omega)
          subst e21
          obtain ⟨a21, b21, k21, v21⟩ := id t21
          have vr21 := tk_vl_rng hx.2.2.2 len (tk_nx tx len (tk_nx tx len (tk_nx tx len p)))
          have fa21 := (tk_FA_tr (tk_FA_tr f7 f11) f21)
          have d821 : N21 8 = M 8 := fa21.1 8 (by decide)
          have d8021 : N21 8 0 = M 8 0 := by rw [d821]
          have d8121 : N21 8 1 = M 8 1 := by rw [d821]
          have d8221 : N21 8 2 = M 8 2 := by rw [d821]
          have zm21 : fd_zc N21 = fd_zc M := fd_zc_FA fa21
          refine fd_e_call (C := fd_c136) (d0 := 3) (mid := 139) (np := 3) (args := [fd_R 13, fd_I 0, fd_I 3]) (r1 := some (fd_I (fd_bi (pz_n tx len (tk_nx tx len (tk_nx tx len (tk_nx tx len p))) 0 3)))) (M1 := N21) (st' := [fd_I (fd_bi (pz_n tx len (tk_nx tx len (tk_nx tx len (tk_nx tx len p))) 0 3))]) rfl rfl rfl rfl rfl rfl (rfl) (c21) rfl (by omega) ?_
          refine fd_e_br (C := fd_c136) (t := 47) (e := 45) (st' := []) (c := ¬ (fd_bi (pz_n tx len (tk_nx tx len (tk_nx tx len (tk_nx tx len p))) 0 3)) = 0) (b := (fd_rng (fd_bi (pz_n tx len (tk_nx tx len (tk_nx tx len (tk_nx tx len p))) 0 3)))) rfl rfl rfl (fd_biR) (fun h44 => ?_) (fun h44 => ?_)
          · have h44 := fd_biT.mp h44
            have ev3 : N21 13 5 = tk_vl tx len (tk_nx tx len (tk_nx tx len (tk_nx tx len p))) := v21 (by have := h44.1; omega)
            refine fd_e_blk 33 (C := fd_c136) (b := (fd_inb (N21 8 2) 6 && (fd_inb (N21 8 2) 6 && (fd_inb (N21 8 2) 6 && true)))) (L' := [fd_R 13, fd_I (N7 13 5), fd_I (N11 13 5)]) (st' := [fd_R 13]) (M' := (fd_up (fd_up (fd_up (fd_up N21 10 (N21 8 2).toNat (N7 13 5)) 11 (N21 8 2).toNat (N11 13 5)) 12 (N21 8 2).toNat (N21 13 5)) 8 2 ((N21 8 2) + 1))) rfl rfl (j := 80) rfl (fd_bA (fd_bI (by omega) (by omega)) (fd_bA (fd_bI (by omega) (by omega)) (fd_bA (fd_bI (by omega) (by omega)) (rfl)))) ?_
            obtain ⟨r25, E25, c25, e25, t25, f25⟩ := fd_p_end (fd_up (fd_up (fd_up (fd_up N21 10 (N21 8 2).toNat (N7 13 5)) 11 (N21 8 2).toNat (N11 13 5)) 12 (N21 8 2).toNat (N21 13 5)) 8 2 ((N21 8 2) + 1)) (by have z := tk_Tx_FA hx fa21; exact z) (tk_nx tx len (tk_nx tx len (tk_nx tx len (tk_nx tx len p)))) (tk_nl (tk_nl (tk_nl (tk_nl hp)))) (show (fd_up (fd_up (fd_up (fd_up N21 10 (N21 8 2).toNat (N7 13 5)) 11 (N21 8 2).toNat (N11 13 5)) 12 (N21 8 2).toNat (N21 13 5)) 8 2 ((N21 8 2) + 1)) 13 2 = _ from a21) (pz_dz (fd_zc M) (tk_vl tx len (tk_nx tx len p)) (tk_vl tx len (tk_nx tx len (tk_nx tx len p))) (tk_vl tx len (tk_nx tx len (tk_nx tx len (tk_nx tx len p)))))
            subst e25
            refine fd_e_call (C := fd_c136) (d0 := 3) (mid := 140) (np := 1) (args := [fd_R 13]) (r1 := some (fd_I (fd_bi ((pz_e tx len (tk_nx tx len (tk_nx tx len (tk_nx tx len (tk_nx tx len p)))) (pz_dz (fd_zc M) (tk_vl tx len (tk_nx tx len p)) (tk_vl tx len (tk_nx tx len (tk_nx tx len p))) (tk_vl tx len (tk_nx tx len (tk_nx tx len (tk_nx tx len p)))))).1 = true)))) (M1 := E25) (st' := [fd_I (fd_bi ((pz_e tx len (tk_nx tx len (tk_nx tx len (tk_nx tx len (tk_nx tx len p)))) (pz_dz (fd_zc M) (tk_vl tx len (tk_nx tx len p)) (tk_vl tx len (tk_nx tx len (tk_nx tx len p))) (tk_vl tx len (tk_nx tx len (tk_nx tx len (tk_nx tx len p)))))).1 = true))]) rfl rfl rfl rfl rfl rfl (rfl) (c25) rfl (by omega) ?_
            refine fd_e_ret (C := fd_c136) (b := (fd_inb (fd_bi ((pz_e tx len (tk_nx tx len (tk_nx tx len (tk_nx tx len (tk_nx tx len p)))) (pz_dz (fd_zc M) (tk_vl tx len (tk_nx tx len p)) (tk_vl tx len (tk_nx tx len (tk_nx tx len p))) (tk_vl tx len (tk_nx tx len (tk_nx tx len (tk_nx tx len p)))))).1 = true)) 2)) (r' := some (fd_I (fd_bi ((pz_e tx len (tk_nx tx len (tk_nx tx len (tk_nx tx len (tk_nx tx len p)))) (pz_dz (fd_zc M) (tk_vl tx len (tk_nx tx len p)) (tk_vl tx len (tk_nx tx len (tk_nx tx len p))) (tk_vl tx len (tk_nx tx len (tk_nx tx len (tk_nx tx len p)))))).1 = true)))) rfl rfl rfl (fd_biI) ?_
            refine ⟨?_, ?_, ?_, ?_⟩
            · rw [pz_d, if_neg (show ¬ 6 ≤ fd_zc M 0 2 from by show ¬ 6 ≤ M 8 2; omega), if_neg (show ¬ ¬ pz_n tx len (tk_nx tx len p) 0 (fd_zc M 0 0 - 1) from fun z => z h13), if_neg (show ¬ ¬ (pz_n tx len (tk_nx tx len (tk_nx tx len p)) 0 (fd_zc M 0 1 - 1) ∧ pz_f (fd_zc M) (tk_vl tx len (tk_nx tx len p)) (tk_vl tx len (tk_nx tx len (tk_nx tx len p))) = true) from fun z => z ⟨by rw [← show N7 8 1 = fd_zc M 0 1 from d817]; exact h27, by rw [← ev1, ← ev2]; exact h34⟩), if_neg (show ¬ ¬ pz_n tx len (tk_nx tx len (tk_nx tx len (tk_nx tx len p))) 0 3 from fun z => z h44)]
            · rw [pz_d, if_neg (show ¬ 6 ≤ fd_zc M 0 2 from by show ¬ 6 ≤ M 8 2; omega), if_neg (show ¬ ¬ pz_n tx len (tk_nx tx len p) 0 (fd_zc M 0 0 - 1) from fun z => z h13), if_neg (show ¬ ¬ (pz_n tx len (tk_nx tx len (tk_nx tx len p)) 0 (fd_zc M 0 1 - 1) ∧ pz_f (fd_zc M) (tk_vl tx len (tk_nx tx len p)) (tk_vl tx len (tk_nx tx len (tk_nx tx len p))) = true) from fun z => z ⟨by rw [← show N7 8 1 = fd_zc M 0 1 from d817]; exact h27, by rw [← ev1, ← ev2]; exact h34⟩), if_neg (show ¬ ¬ pz_n tx len (tk_nx tx len (tk_nx tx len (tk_nx tx len p))) 0 3 from fun z => z h44)]; exact t25
            · rw [pz_d, if_neg (show ¬ 6 ≤ fd_zc M 0 2 from by show ¬ 6 ≤ M 8 2; omega), if_neg (show ¬ ¬ pz_n tx len (tk_nx tx len p) 0 (fd_zc M 0 0 - 1) from fun z => z h13), if_neg (show ¬ ¬ (pz_n tx len (tk_nx tx len (tk_nx tx len p)) 0 (fd_zc M 0 1 - 1) ∧ pz_f (fd_zc M) (tk_vl tx len (tk_nx tx len p)) (tk_vl tx len (tk_nx tx len (tk_nx tx len p))) = true) from fun z => z ⟨by rw [← show N7 8 1 = fd_zc M 0 1 from d817]; exact h27, by rw [← ev1, ← ev2]; exact h34⟩), if_neg (show ¬ ¬ pz_n tx len (tk_nx tx len (tk_nx tx len (tk_nx tx len p))) 0 3 from fun z => z h44)]
              rw [pz_e_Z, fd_zc_FA f25, fd_zc_8 _ (by decide), fd_zc_12, fd_zc_11, fd_zc_10, zm21, d8221, ev1, ev2, ev3]
              rfl
            · exact tk_FB_tr (tk_FB_FA fa21) (tk_FB_tr (tk_FB_tr (tk_FB_tr (tk_FB_tr (tk_FB_up _ (by decide) _) (tk_FB_up _ (by decide) _)) (tk_FB_up _ (by decide) _)) (tk_FB_up _ (by decide) _)) (tk_FB_FA f25))
          · have h44 := fd_biF2  h44
            refine fd_e_blk 1 (C := fd_c136) (b := true) (L' := [fd_R 13, fd_I (N7 13 5), fd_I (N11 13 5)]) (st' := [fd_I 0]) (M' := N21) rfl rfl (j := 46) rfl (rfl) ?_
            refine fd_e_ret (C := fd_c136) (b := true) (r' := some (fd_I 0)) rfl rfl rfl (rfl) ?_
            refine ⟨?_, ?_, ?_, tk_FB_FA fa21⟩
            · rw [pz_d, if_neg (show ¬ 6 ≤ fd_zc M 0 2 from by show ¬ 6 ≤ M 8 2; omega), if_neg (show ¬ ¬ pz_n tx len (tk_nx tx len p) 0 (fd_zc M 0 0 - 1) from fun z => z h13), if_neg (show ¬ ¬ (pz_n tx len (tk_nx tx len (tk_nx tx len p)) 0 (fd_zc M 0 1 - 1) ∧ pz_f (fd_zc M) (tk_vl tx len (tk_nx tx len p)) (tk_vl tx len (tk_nx tx len (tk_nx tx len p))) = true) from fun z => z ⟨by rw [← show N7 8 1 = fd_zc M 0 1 from d817]; exact h27, by rw [← ev1, ← ev2]; exact h34⟩), if_pos (show ¬ pz_n tx len (tk_nx tx len (tk_nx tx len (tk_nx tx len p))) 0 3 from h44)]; rfl
            · rw [pz_d, if_neg (show ¬ 6 ≤ fd_zc M 0 2 from by show ¬ 6 ≤ M 8 2; omega), if_neg (show ¬ ¬ pz_n tx len (tk_nx tx len p) 0 (fd_zc M 0 0 - 1) from fun z => z h13), if_neg (show ¬ ¬ (pz_n tx len (tk_nx tx len (tk_nx tx len p)) 0 (fd_zc M 0 1 - 1) ∧ pz_f (fd_zc M) (tk_vl tx len (tk_nx tx len p)) (tk_vl tx len (tk_nx tx len (tk_nx tx len p))) = true) from fun z => z ⟨by rw [← show N7 8 1 = fd_zc M 0 1 from d817]; exact h27, by rw [← ev1, ← ev2]; exact h34⟩), if_pos (show ¬ pz_n tx len (tk_nx tx len (tk_nx tx len (tk_nx tx len p))) 0 3 from h44)]; exact t21
            · rw [pz_d, if_neg (show ¬ 6 ≤ fd_zc M 0 2 from by show ¬ 6 ≤ M 8 2; omega), if_neg (show ¬ ¬ pz_n tx len (tk_nx tx len p) 0 (fd_zc M 0 0 - 1) from fun z => z h13), if_neg (show ¬ ¬ (pz_n tx len (tk_nx tx len (tk_nx tx len p)) 0 (fd_zc M 0 1 - 1) ∧ pz_f (fd_zc M) (tk_vl tx len (tk_nx tx len p)) (tk_vl tx len (tk_nx tx len (tk_nx tx len p))) = true) from fun z => z ⟨by rw [← show N7 8 1 = fd_zc M 0 1 from d817]; exact h27, by rw [← ev1, ← ev2]; exact h34⟩), if_pos (show ¬ pz_n tx len (tk_nx tx len (tk_nx tx len (tk_nx tx len p))) 0 3 from h44)]; exact zm21
        · have h34 := fd_biF2  h34
          refine fd_e_blk 1 (C := fd_c136) (b := true) (L' := [fd_R 13, fd_I (N7 13 5), fd_R 1003]) (st' := [fd_I 0]) (M' := N11) rfl rfl (j := 36) rfl (rfl) ?_
          refine fd_e_ret (C := fd_c136) (b := true) (r' := some (fd_I 0)) rfl rfl rfl (rfl) ?_
          refine ⟨?_, ?_, ?_, tk_FB_FA fa11⟩
          · rw [pz_d, if_neg (show ¬ 6 ≤ fd_zc M 0 2 from by show ¬ 6 ≤ M 8 2; omega), if_neg (show ¬ ¬ pz_n tx len (tk_nx tx len p) 0 (fd_zc M 0 0 - 1) from fun z => z h13), if_pos (show ¬ (pz_n tx len (tk_nx tx len (tk_nx tx len p)) 0 (fd_zc M 0 1 - 1) ∧ pz_f (fd_zc M) (tk_vl tx len (tk_nx tx len p)) (tk_vl tx len (tk_nx tx len (tk_nx tx len p))) = true) from by rintro ⟨y1, y2⟩; first | exact h27 (by rw [← show N7 8 1 = fd_zc M 0 1 from d817] at y1; exact y1) | (rw [← ev1, ← ev2] at y2; exact h34 y2))]; rfl
          · rw [pz_d, if_neg (show ¬ 6 ≤ fd_zc M 0 2 from by show ¬ 6 ≤ M 8 2; omega), if_neg (show ¬ ¬ pz_n tx len (tk_nx tx len p) 0 (fd_zc M 0 0 - 1) from fun z => z h13), if_pos (show ¬ (pz_n tx len (tk_nx tx len (tk_nx tx len p)) 0 (fd_zc M 0 1 - 1) ∧ pz_f (fd_zc M) (tk_vl tx len (tk_nx tx len p)) (tk_vl tx len (tk_nx tx len (tk_nx tx len p))) = true) from by rintro ⟨y1, y2⟩; first | exact h27 (by rw [← show N7 8 1 = fd_zc M 0 1 from d817] at y1; exact y1) | (rw [← ev1, ← ev2] at y2; exact h34 y2))]; exact t11
          · rw [pz_d, if_neg (show ¬ 6 ≤ fd_zc M 0 2 from by show ¬ 6 ≤ M 8 2; omega), if_neg (show ¬ ¬ pz_n tx len (tk_nx tx len p) 0 (fd_zc M 0 0 - 1) from fun z => z h13), if_pos (show ¬ (pz_n tx len (tk_nx tx len (tk_nx tx len p)) 0 (fd_zc M 0 1 - 1) ∧ pz_f (fd_zc M) (tk_vl tx len (tk_nx tx len p)) (tk_vl tx len (tk_nx tx len (tk_nx tx len p))) = true) from by rintro ⟨y1, y2⟩; first | exact h27 (by rw [← show N7 8 1 = fd_zc M 0 1 from d817] at y1; exact y1) | (rw [← ev1, ← ev2] at y2; exact h34 y2))]; exact zm11
    · have h13 := fd_biF2  h13
      refine fd_e_blk 1 (C := fd_c136) (b := true) (L' := [fd_R 13, fd_R 1003, fd_R 1003]) (st' := [fd_I 0]) (M' := N7) rfl rfl (j := 15) rfl (rfl) ?_
      refine fd_e_ret (C := fd_c136) (b := true) (r' := some (fd_I 0)) rfl rfl rfl (rfl) ?_
      refine ⟨?_, ?_, ?_, tk_FB_FA fa7⟩
      · rw [pz_d, if_neg (show ¬ 6 ≤ fd_zc M 0 2 from by show ¬ 6 ≤ M 8 2; omega), if_pos (show ¬ pz_n tx len (tk_nx tx len p) 0 (fd_zc M 0 0 - 1) from h13)]; rfl
      · rw [pz_d, if_neg (show ¬ 6 ≤ fd_zc M 0 2 from by show ¬ 6 ≤ M 8 2; omega), if_pos (show ¬ pz_n tx len (tk_nx tx len p) 0 (fd_zc M 0 0 - 1) from h13)]; exact t7
      · rw [pz_d, if_neg (show ¬ 6 ≤ fd_zc M 0 2 from by show ¬ 6 ≤ M 8 2; omega), if_pos (show ¬ pz_n tx len (tk_nx tx len p) 0 (fd_zc M 0 0 - 1) from h13)]; exact zm7


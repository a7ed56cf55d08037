/-! the class: its items -/
theorem fd_p_takeWide {tx : Nat → Int} {len : Nat} (M : fd_M) (hx : tk_Tx tx len M) (p : Nat) (hp : p ≤ len) (hT : tk_TC tx len p M) (hZ : pz_G (fd_zc M)) (hi6 : 0 ≤ M 13 6 ∧ M 13 6 ≤ 1000) : fd_callE 4 133 [fd_R 13] M (tk_PQ tx len M (pz_w tx len (M 13 6) p (fd_zc M))) := by
  refine fd_e_in (L := [fd_R 13]) rfl ?_
  obtain ⟨ta, tb, tk, tv⟩ := id hT
  obtain ⟨z0, z1, z2, z3, z4, z5, z6, z7, z8, z9, z10⟩ := id hZ
  have z0 : 0 ≤ M 8 0 ∧ M 8 0 ≤ 7 := z0
  have z1 : 0 ≤ M 8 1 ∧ M 8 1 ≤ 7 := z1
  have z2 : 0 ≤ M 8 2 ∧ M 8 2 ≤ 6 := z2
  have z5 : 0 ≤ M 13 7 ∧ M 13 7 ≤ 1 := z5
  have z6 : 0 ≤ M 13 8 ∧ M 13 8 ≤ 1 := z6
  refine fd_e_blk 2 (C := fd_c133) (b := true) (L' := [fd_R 13]) (st' := [fd_I (M 13 6)]) (M' := M) rfl rfl (j := 2) rfl (rfl) ?_
  refine fd_e_br (C := fd_c133) (t := 8) (e := 3) (st' := []) (c := ¬ (M 13 6) = 0) (b := (fd_rng (M 13 6))) rfl rfl rfl (fd_bR (by omega) (by omega)) (fun h2 => ?_) (fun h2 => ?_)
  · refine fd_e_blk 1 (C := fd_c133) (b := true) (L' := [fd_R 13]) (st' := [fd_I 0]) (M' := M) rfl rfl (j := 9) rfl (rfl) ?_
    refine fd_e_ret (C := fd_c133) (b := true) (r' := some (fd_I 0)) rfl rfl rfl (rfl) ?_
    refine ⟨?_, ?_, ?_, tk_FB_rf M⟩
    · rw [pz_w, if_pos (show ¬ M 13 6 = 0 by omega)]; rfl
    · rw [pz_w, if_pos (show ¬ M 13 6 = 0 by omega)]; exact hT
    · rw [pz_w, if_pos (show ¬ M 13 6 = 0 by omega)]
  · refine fd_e_blk 3 (C := fd_c133) (b := true) (L' := [fd_R 13]) (st' := [fd_I 7, fd_I 1, fd_R 13]) (M' := M) rfl rfl (j := 6) rfl (rfl) ?_
    obtain ⟨r7, N7, c7, e7, t7, f7⟩ := fd_p_num M hx (tk_nx tx len p) (tk_nl hp) ta 1 7 (by omega) (by omega)
    subst e7
    obtain ⟨a7, b7, k7, v7⟩ := id t7
    have vr7 := tk_vl_rng hx.2.2.2 len (tk_nx tx len p)
    have zz7 := fd_zc_FA f7
    refine fd_e_call (C := fd_c133) (d0 := 3) (mid := 139) (np := 3) (args := [fd_R 13, fd_I 1, fd_I 7]) (r1 := some (fd_I (fd_bi (pz_n tx len (tk_nx tx len p) 1 7)))) (M1 := N7) (st' := [fd_I (fd_bi (pz_n tx len (tk_nx tx len p) 1 7))]) rfl rfl rfl rfl rfl rfl (rfl) (c7) rfl (by omega) ?_
    refine fd_e_br (C := fd_c133) (t := 10) (e := 8) (st' := []) (c := ¬ (fd_bi (pz_n tx len (tk_nx tx len p) 1 7)) = 0) (b := (fd_rng (fd_bi (pz_n tx len (tk_nx tx len p) 1 7)))) rfl rfl rfl (fd_biR) (fun h7 => ?_) (fun h7 => ?_)
    · have h7 := fd_biT.mp h7
      have ev : N7 13 5 = tk_vl tx len (tk_nx tx len p) := v7 (by have := h7.1; omega)
      refine fd_e_blk 6 (C := fd_c133) (b := true) (L' := [fd_R 13]) (st' := [fd_R 13]) (M' := (fd_up N7 8 0 (N7 13 5))) rfl rfl (j := 16) rfl (rfl) ?_
      obtain ⟨r11, E11, c11, e11, t11, f11⟩ := fd_p_end (fd_up N7 8 0 (N7 13 5)) (by have z := tk_Tx_FA hx f7; exact z) (tk_nx tx len (tk_nx tx len p)) (tk_nl (tk_nl hp)) (show (fd_up N7 8 0 (N7 13 5)) 13 2 = _ from a7) (fd_up (fd_zc M) 0 0 (tk_vl tx len (tk_nx tx len p)))
      subst e11
      refine fd_e_call (C := fd_c133) (d0 := 3) (mid := 140) (np := 1) (args := [fd_R 13]) (r1 := some (fd_I (fd_bi ((pz_e tx len (tk_nx tx len (tk_nx tx len p)) (fd_up (fd_zc M) 0 0 (tk_vl tx len (tk_nx tx len p)))).1 = true)))) (M1 := E11) (st' := [fd_I (fd_bi ((pz_e tx len (tk_nx tx len (tk_nx tx len p)) (fd_up (fd_zc M) 0 0 (tk_vl tx len (tk_nx tx len p)))).1 = true))]) rfl rfl rfl rfl rfl rfl (rfl) (c11) rfl (by omega) ?_
      refine fd_e_ret (C := fd_c133) (b := (fd_inb (fd_bi ((pz_e tx len (tk_nx tx len (tk_nx tx len p)) (fd_up (fd_zc M) 0 0 (tk_vl tx len (tk_nx tx len p)))).1 = true)) 2)) (r' := some (fd_I (fd_bi ((pz_e tx len (tk_nx tx len (tk_nx tx len p)) (fd_up (fd_zc M) 0 0 (tk_vl tx len (tk_nx tx len p)))).1 = true)))) rfl rfl rfl (fd_biI) ?_
      refine ⟨?_, ?_, ?_, ?_⟩
      · rw [pz_w, if_neg (show ¬ ¬ M 13 6 = 0 by omega), if_neg (show ¬ ¬ pz_n tx len (tk_nx tx len p) 1 7 from fun z => z h7)]
      · rw [pz_w, if_neg (show ¬ ¬ M 13 6 = 0 by omega), if_neg (show ¬ ¬ pz_n tx len (tk_nx tx len p) 1 7 from fun z => z h7)]; exact t11
      · rw [pz_w, if_neg (show ¬ ¬ M 13 6 = 0 by omega), if_neg (show ¬ ¬ pz_n tx len (tk_nx tx len p) 1 7 from fun z => z h7)]
        rw [pz_e_Z, fd_zc_FA f11, fd_zc_8 _ (by decide), ev, zz7]
      · exact tk_FB_tr (tk_FB_FA f7) (tk_FB_tr (tk_FB_up _ (by decide) _) (tk_FB_FA f11))
    · have h7 := fd_biF2  h7
      refine fd_e_blk 1 (C := fd_c133) (b := true) (L' := [fd_R 13]) (st' := [fd_I 0]) (M' := N7) rfl rfl (j := 9) rfl (rfl) ?_
      refine fd_e_ret (C := fd_c133) (b := true) (r' := some (fd_I 0)) rfl rfl rfl (rfl) ?_
      refine ⟨?_, ?_, ?_, tk_FB_FA f7⟩
      · rw [pz_w, if_neg (show ¬ ¬ M 13 6 = 0 by omega), if_pos (show ¬ pz_n tx len (tk_nx tx len p) 1 7 from h7)]; rfl
      · rw [pz_w, if_neg (show ¬ ¬ M 13 6 = 0 by omega), if_pos (show ¬ pz_n tx len (tk_nx tx len p) 1 7 from h7)]; exact t7
      · rw [pz_w, if_neg (show ¬ ¬ M 13 6 = 0 by omega), if_pos (show ¬ pz_n tx len (tk_nx tx len p) 1 7 from h7)]; exact zz7

theorem fd_p_takePrice {tx : Nat → Int} {len : Nat} (M : fd_M) (hx : tk_Tx tx len M) (p : Nat) (hp : p ≤ len) (hT : tk_TC tx len p M) (hZ : pz_G (fd_zc M)) : fd_callE 4 137 [fd_R 13] M (tk_PQ tx len M (pz_p tx len p (fd_zc M))) := by
  refine fd_e_in (L := [fd_R 13]) rfl ?_
  obtain ⟨ta, tb, tk, tv⟩ := id hT
  obtain ⟨z0, z1, z2, z3, z4, z5, z6, z7, z8, z9, z10⟩ := id hZ
  have z0 : 0 ≤ M 8 0 ∧ M 8 0 ≤ 7 := z0
  have z1 : 0 ≤ M 8 1 ∧ M 8 1 ≤ 7 := z1
  have z2 : 0 ≤ M 8 2 ∧ M 8 2 ≤ 6 := z2
  have z5 : 0 ≤ M 13 7 ∧ M 13 7 ≤ 1 := z5
  have z6 : 0 ≤ M 13 8 ∧ M 13 8 ≤ 1 := z6
  refine fd_e_blk 2 (C := fd_c137) (b := true) (L' := [fd_R 13]) (st' := [fd_I (M 13 7)]) (M' := M) rfl rfl (j := 2) rfl (rfl) ?_
  refine fd_e_br (C := fd_c137) (t := 8) (e := 3) (st' := []) (c := ¬ (M 13 7) = 0) (b := (fd_rng (M 13 7))) rfl rfl rfl (fd_bR (by omega) (by omega)) (fun h2 => ?_) (fun h2 => ?_)
  · refine fd_e_blk 1 (C := fd_c137) (b := true) (L' := [fd_R 13]) (st' := [fd_I 0]) (M' := M) rfl rfl (j := 9) rfl (rfl) ?_
    refine fd_e_ret (C := fd_c137) (b := true) (r' := some (fd_I 0)) rfl rfl rfl (rfl) ?_
    refine ⟨?_, ?_, ?_, tk_FB_rf M⟩
    · rw [pz_p, if_pos (show ¬ fd_zc M 0 5 = 0 from h2)]; rfl
    · rw [pz_p, if_pos (show ¬ fd_zc M 0 5 = 0 from h2)]; exact hT
    · rw [pz_p, if_pos (show ¬ fd_zc M 0 5 = 0 from h2)]
  · refine fd_e_blk 3 (C := fd_c137) (b := true) (L' := [fd_R 13]) (st' := [fd_I 9, fd_I 1, fd_R 13]) (M' := M) rfl rfl (j := 6) rfl (rfl) ?_
    obtain ⟨r7, N7, c7, e7, t7, f7⟩ := fd_p_num M hx (tk_nx tx len p) (tk_nl hp) ta 1 9 (by omega) (by omega)
    subst e7
    obtain ⟨a7, b7, k7, v7⟩ := id t7
    have vr7 := tk_vl_rng hx.2.2.2 len (tk_nx tx len p)
    have zz7 := fd_zc_FA f7
    refine fd_e_call (C := fd_c137) (d0 := 3) (mid := 139) (np := 3) (args := [fd_R 13, fd_I 1, fd_I 9]) (r1 := some (fd_I (fd_bi (pz_n tx len (tk_nx tx len p) 1 9)))) (M1 := N7) (st' := [fd_I (fd_bi (pz_n tx len (tk_nx tx len p) 1 9))]) rfl rfl rfl rfl rfl rfl (rfl) (c7) rfl (by omega) ?_
    refine fd_e_br (C := fd_c137) (t := 10) (e := 8) (st' := []) (c := ¬ (fd_bi (pz_n tx len (tk_nx tx len p) 1 9)) = 0) (b := (fd_rng (fd_bi (pz_n tx len (tk_nx tx len p) 1 9)))) rfl rfl rfl (fd_biR) (fun h7 => ?_) (fun h7 => ?_)
    · have h7 := fd_biT.mp h7
      have ev : N7 13 5 = tk_vl tx len (tk_nx tx len p) := v7 (by have := h7.1; omega)
      refine fd_e_blk 9 (C := fd_c137) (b := true) (L' := [fd_R 13]) (st' := [fd_R 13]) (M' := (fd_up (fd_up N7 13 7 1) 8 3 (N7 13 5))) rfl rfl (j := 19) rfl (rfl) ?_
      obtain ⟨r11, E11, c11, e11, t11, f11⟩ := fd_p_end (fd_up (fd_up N7 13 7 1) 8 3 (N7 13 5)) (by have z := tk_Tx_FA hx f7; exact z) (tk_nx tx len (tk_nx tx len p)) (tk_nl (tk_nl hp)) (show (fd_up (fd_up N7 13 7 1) 8 3 (N7 13 5)) 13 2 = _ from a7) (fd_up (fd_up (fd_zc M) 0 5 1) 0 3 (tk_vl tx len (tk_nx tx len p)))
      subst e11
      refine fd_e_call (C := fd_c137) (d0 := 3) (mid := 140) (np := 1) (args := [fd_R 13]) (r1 := some (fd_I (fd_bi ((pz_e tx len (tk_nx tx len (tk_nx tx len p)) (fd_up (fd_up (fd_zc M) 0 5 1) 0 3 (tk_vl tx len (tk_nx tx len p)))).1 = true)))) (M1 := E11) (st' := [fd_I (fd_bi ((pz_e tx len (tk_nx tx len (tk_nx tx len p)) (fd_up (fd_up (fd_zc M) 0 5 1) 0 3 (tk_vl tx len (tk_nx tx len p)))).1 = true))]) rfl rfl rfl rfl rfl rfl (rfl) (c11) rfl (by omega) ?_
      refine fd_e_ret (C := fd_c137) (b := (fd_inb (fd_bi ((pz_e tx len (tk_nx tx len (tk_nx tx len p)) (fd_up (fd_up (fd_zc M) 0 5 1) 0 3 (tk_vl tx len (tk_nx tx len p)))).1 = true)) 2)) (r' := some (fd_I (fd_bi ((pz_e tx len (tk_nx tx len (tk_nx tx len p)) (fd_up (fd_up (fd_zc M) 0 5 1) 0 3 (tk_vl tx len (tk_nx tx len p)))).1 = true)))) rfl rfl rfl (fd_biI) ?_
      refine ⟨?_, ?_, ?_, ?_⟩
      · rw [pz_p, if_neg (show ¬ ¬ fd_zc M 0 5 = 0 from h2), if_neg (show ¬ ¬ pz_n tx len (tk_nx tx len p) 1 9 from fun z => z h7)]
      · rw [pz_p, if_neg (show ¬ ¬ fd_zc M 0 5 = 0 from h2), if_neg (show ¬ ¬ pz_n tx len (tk_nx tx len p) 1 9 from fun z => z h7)]; exact t11
      · rw [pz_p, if_neg (show ¬ ¬ fd_zc M 0 5 = 0 from h2), if_neg (show ¬ ¬ pz_n tx len (tk_nx tx len p) 1 9 from fun z => z h7)]
        rw [pz_e_Z, fd_zc_FA f11, fd_zc_8 _ (by decide), fd_zc_p, ev, zz7]
      · exact tk_FB_tr (tk_FB_FA f7) (tk_FB_tr (tk_FB_tr (tk_FB_13 _ (by decide) _) (tk_FB_up _ (by decide) _)) (tk_FB_FA f11))
    · have h7 := fd_biF2  h7
      refine fd_e_blk 1 (C := fd_c137) (b := true) (L' := [fd_R 13]) (st' := [fd_I 0]) (M' := N7) rfl rfl (j := 9) rfl (rfl) ?_
      refine fd_e_ret (C := fd_c137) (b := true) (r' := some (fd_I 0)) rfl rfl rfl (rfl) ?_
      refine ⟨?_, ?_, ?_, tk_FB_FA f7⟩
      · rw [pz_p, if_neg (show ¬ ¬ fd_zc M 0 5 = 0 from h2), if_pos (show ¬ pz_n tx len (tk_nx tx len p) 1 9 from h7)]; rfl
      · rw [pz_p, if_neg (show ¬ ¬ fd_zc M 0 5 = 0 from h2), if_pos (show ¬ pz_n tx len (tk_nx tx len p) 1 9 from h7)]; exact t7
      · rw [pz_p, if_neg (show ¬ ¬ fd_zc M 0 5 = 0 from h2), if_pos (show ¬ pz_n tx len (tk_nx tx len p) 1 9 from h7)]; exact zz7

theorem fd_p_takeSight {tx : Nat → Int} {len : Nat} (M : fd_M) (hx : tk_Tx tx len M) (p : Nat) (hp : p ≤ len) (hT : tk_TC tx len p M) (hZ : pz_G (fd_zc M)) : fd_callE 4 138 [fd_R 13] M (tk_PQ tx len M (pz_s tx len p (fd_zc M))) := by
  refine fd_e_in (L := [fd_R 13]) rfl ?_
  obtain ⟨ta, tb, tk, tv⟩ := id hT
  obtain ⟨z0, z1, z2, z3, z4, z5, z6, z7, z8, z9, z10⟩ := id hZ
  have z0 : 0 ≤ M 8 0 ∧ M 8 0 ≤ 7 := z0
  have z1 : 0 ≤ M 8 1 ∧ M 8 1 ≤ 7 := z1
  have z2 : 0 ≤ M 8 2 ∧ M 8 2 ≤ 6 := z2
  have z5 : 0 ≤ M 13 7 ∧ M 13 7 ≤ 1 := z5
  have z6 : 0 ≤ M 13 8 ∧ M 13 8 ≤ 1 := z6
  refine fd_e_blk 2 (C := fd_c138) (b := true) (L' := [fd_R 13]) (st' := [fd_I (M 13 8)]) (M' := M) rfl rfl (j := 2) rfl (rfl) ?_
  refine fd_e_br (C := fd_c138) (t := 8) (e := 3) (st' := []) (c := ¬ (M 13 8) = 0) (b := (fd_rng (M 13 8))) rfl rfl rfl (fd_bR (by omega) (by omega)) (fun h2 => ?_) (fun h2 => ?_)
  · refine fd_e_blk 1 (C := fd_c138) (b := true) (L' := [fd_R 13]) (st' := [fd_I 0]) (M' := M) rfl rfl (j := 9) rfl (rfl) ?_
    refine fd_e_ret (C := fd_c138) (b := true) (r' := some (fd_I 0)) rfl rfl rfl (rfl) ?_
    refine ⟨?_, ?_, ?_, tk_FB_rf M⟩
    · rw [pz_s, if_pos (show ¬ fd_zc M 0 6 = 0 from h2)]; rfl
    · rw [pz_s, if_pos (show ¬ fd_zc M 0 6 = 0 from h2)]; exact hT
    · rw [pz_s, if_pos (show ¬ fd_zc M 0 6 = 0 from h2)]
  · refine fd_e_blk 3 (C := fd_c138) (b := true) (L' := [fd_R 13]) (st' := [fd_I 7, fd_I 1, fd_R 13]) (M' := M) rfl rfl (j := 6) rfl (rfl) ?_
    obtain ⟨r7, N7, c7, e7, t7, f7⟩ := fd_p_num M hx (tk_nx tx len p) (tk_nl hp) ta 1 7 (by omega) (by omega)
    subst e7
    obtain ⟨a7, b7, k7, v7⟩ := id t7
    have vr7 := tk_vl_rng hx.2.2.2 len (tk_nx tx len p)
    have zz7 := fd_zc_FA f7
    refine fd_e_call (C := fd_c138) (d0 := 3) (mid := 139) (np := 3) (args := [fd_R 13, fd_I 1, fd_I 7]) (r1 := some (fd_I (fd_bi (pz_n tx len (tk_nx tx len p) 1 7)))) (M1 := N7) (st' := [fd_I (fd_bi (pz_n tx len (tk_nx tx len p) 1 7))]) rfl rfl rfl rfl rfl rfl (rfl) (c7) rfl (by omega) ?_
    refine fd_e_br (C := fd_c138) (t := 10) (e := 8) (st' := []) (c := ¬ (fd_bi (pz_n tx len (tk_nx tx len p) 1 7)) = 0) (b := (fd_rng (fd_bi (pz_n tx len (tk_nx tx len p) 1 7)))) rfl rfl rfl (fd_biR) (fun h7 => ?_) (fun h7 => ?_)
    · have h7 := fd_biT.mp h7
      have ev : N7 13 5 = tk_vl tx len (tk_nx tx len p) := v7 (by have := h7.1; omega)
      refine fd_e_blk 9 (C := fd_c138) (b := true) (L' := [fd_R 13]) (st' := [fd_R 13]) (M' := (fd_up (fd_up N7 13 8 1) 8 4 (N7 13 5))) rfl rfl (j := 19) rfl (rfl) ?_
      obtain ⟨r11, E11, c11, e11, t11, f11⟩ := fd_p_end (fd_up (fd_up N7 13 8 1) 8 4 (N7 13 5)) (by have z := tk_Tx_FA hx f7; exact z) (tk_nx tx len (tk_nx tx len p)) (tk_nl (tk_nl hp)) (show (fd_up (fd_up N7 13 8 1) 8 4 (N7 13 5)) 13 2 = _ from a7) (fd_up (fd_up (fd_zc M) 0 6 1) 0 4 (tk_vl tx len (tk_nx tx len p)))
      subst e11
      refine fd_e_call (C := fd_c138) (d0 := 3) (mid := 140) (np := 1) (args := [fd_R 13]) (r1 := some (fd_I (fd_bi ((pz_e tx len (tk_nx tx len (tk_nx tx len p)) (fd_up (fd_up (fd_zc M) 0 6 1) 0 4 (tk_vl tx len (tk_nx tx len p)))).1 = true)))) (M1 := E11) (st' := [fd_I (fd_bi ((pz_e tx len (tk_nx tx len (tk_nx tx len p)) (fd_up (fd_up (fd_zc M) 0 6 1) 0 4 (tk_vl tx len (tk_nx tx len p)))).1 = true))]) rfl rfl rfl rfl rfl rfl (rfl) (c11) rfl (by omega) ?_
      refine fd_e_ret (C := fd_c138) (b := (fd_inb (fd_bi ((pz_e tx len (tk_nx tx len (tk_nx tx len p)) (fd_up (fd_up (fd_zc M) 0 6 1) 0 4 (tk_vl tx len (tk_nx tx len p)))).1 = true)) 2)) (r' := some (fd_I (fd_bi ((pz_e tx len (tk_nx tx len (tk_nx tx len p)) (fd_up (fd_up (fd_zc M) 0 6 1) 0 4 (tk_vl tx len (tk_nx tx len p)))).1 = true)))) rfl rfl rfl (fd_biI) ?_
      refine ⟨?_, ?_, ?_, ?_⟩
      · rw [pz_s, if_neg (show ¬ ¬ fd_zc M 0 6 = 0 from h2), if_neg (show ¬ ¬ pz_n tx len (tk_nx tx len p) 1 7 from fun z => z h7)]
      · rw [pz_s, if_neg (show ¬ ¬ fd_zc M 0 6 = 0 from h2), if_neg (show ¬ ¬ pz_n tx len (tk_nx tx len p) 1 7 from fun z => z h7)]; exact t11
      · rw [pz_s, if_neg (show ¬ ¬ fd_zc M 0 6 = 0 from h2), if_neg (show ¬ ¬ pz_n tx len (tk_nx tx len p) 1 7 from fun z => z h7)]
        rw [pz_e_Z, fd_zc_FA f11, fd_zc_8 _ (by decide), fd_zc_s, ev, zz7]
      · exact tk_FB_tr (tk_FB_FA f7) (tk_FB_tr (tk_FB_tr (tk_FB_13 _ (by decide) _) (tk_FB_up _ (by decide) _)) (tk_FB_FA f11))
    · have h7 := fd_biF2  h7
      refine fd_e_blk 1 (C := fd_c138) (b := true) (L' := [fd_R 13]) (st' := [fd_I 0]) (M' := N7) rfl rfl (j := 9) rfl (rfl) ?_
      refine fd_e_ret (C := fd_c138) (b := true) (r' := some (fd_I 0)) rfl rfl rfl (rfl) ?_
      refine ⟨?_, ?_, ?_, tk_FB_FA f7⟩
      · rw [pz_s, if_neg (show ¬ ¬ fd_zc M 0 6 = 0 from h2), if_pos (show ¬ pz_n tx len (tk_nx tx len p) 1 7 from h7)]; rfl
      · rw [pz_s, if_neg (show ¬ ¬ fd_zc M 0 6 = 0 from h2), if_pos (show ¬ pz_n tx len (tk_nx tx len p) 1 7 from h7)]; exact t7
      · rw [pz_s, if_neg (show ¬ ¬ fd_zc M 0 6 = 0 from h2), if_pos (show ¬ pz_n tx len (tk_nx tx len p) 1 7 from h7)]; exact zz7


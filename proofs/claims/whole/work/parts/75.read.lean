/-! the class: the whole text -/
theorem pz_e_ok {tx : Nat → Int} {len p : Nat} (hp : p ≤ len) (Z : fd_M) : (pz_e tx len p Z).2.1 ≤ len ∧ p ≤ (pz_e tx len p Z).2.1 := by
  have a := tk_nx_rng (tx := tx) hp
  unfold pz_e
  split
  · dsimp only; omega
  · dsimp only; omega
theorem pz_r_ok {tx : Nat → Int} {len : Nat} : ∀ (n x p : Nat) (Z : fd_M), p ≤ len → pz_G Z → Z 0 1 ≤ 6 → ((pz_r tx len n x p Z).2.1 ≤ len ∧ p ≤ (pz_r tx len n x p Z).2.1) ∧ pz_G (pz_r tx len n x p Z).2.2
  | 0, x, p, Z, hp, hG, hR => by
    refine ⟨pz_e_ok hp _, ?_⟩
    show pz_G (pz_e tx len p _).2.2
    rw [pz_e_Z]
    have := hG.2.1
    exact ⟨hG.1, (by show 0 ≤ Z 0 1 + 1 ∧ Z 0 1 + 1 ≤ 7; omega), hG.2.2⟩
  | n + 1, x, p, Z, hp, hG, hR => by
    rw [pz_r]
    have a := tk_nx_rng (tx := tx) hp
    have g := pz_g_rng tx len p
    split
    · exact ⟨⟨hp, Nat.le_refl _⟩, hG⟩
    · have z := pz_r_ok (tx := tx) n (x + 1) (tk_nx tx len p) (fd_up Z 1 (Z 0 1 * 7 + (x : Int)).toNat (pz_g tx len p)) a.2.1 (pz_G_1 hG _ (by omega)) hR
      exact ⟨⟨z.1.1, by have := z.1.2; omega⟩, z.2⟩
theorem pz_G_0 {Z : fd_M} (h : pz_G Z) {v : Int} (hv : 0 ≤ v ∧ v ≤ 7) : pz_G (fd_up Z 0 0 v) := ⟨hv, h.2⟩
theorem pz_G_d {Z : fd_M} (h : pz_G Z) (hD : Z 0 2 ≤ 5) {x y w : Int} (hx : 0 ≤ x ∧ x ≤ 6) (hy : 0 ≤ y ∧ y ≤ 6) (hw : 0 ≤ w ∧ w ≤ 3) : pz_G (pz_dz Z x y w) := by
  obtain ⟨z0, z1, z2, z3, z4, z5, z6, z7, z8, z9, z10⟩ := h
  exact ⟨z0, z1, (by show 0 ≤ Z 0 2 + 1 ∧ Z 0 2 + 1 ≤ 6; omega), z3, z4, z5, z6, z7, fd_up_all (P := fun z => 0 ≤ z ∧ z ≤ 6) (M := Z) (c := 2) z8 hx, fd_up_all (P := fun z => 0 ≤ z ∧ z ≤ 6) (M := Z) (c := 3) z9 hy, fd_up_all (P := fun z => 0 ≤ z ∧ z ≤ 3) (M := Z) (c := 4) z10 hw⟩
theorem pz_i_ok {tx : Nat → Int} {len : Nat} (it : Int) {p : Nat} {Z : fd_M} (hp : p ≤ len) (hG : pz_G Z) : ((pz_i tx len it p Z).2.1 ≤ len ∧ ((pz_i tx len it p Z).1 = true → p < (pz_i tx len it p Z).2.1)) ∧ pz_G (pz_i tx len it p Z).2.2 := by
  have a := tk_nx_rng (tx := tx) hp
  have a2 := tk_nx_rng (tx := tx) a.2.1
  have a3 := tk_nx_rng (tx := tx) a2.2.1
  have a4 := tk_nx_rng (tx := tx) a3.2.1
  obtain ⟨z0, z1, z2, z3, z4, z5, z6, z7, z8, z9, z10⟩ := id hG
  have fail : ∀ q, q ≤ len → (((false, q, Z) : pz_R).2.1 ≤ len ∧ (((false, q, Z) : pz_R).1 = true → p < ((false, q, Z) : pz_R).2.1)) ∧ pz_G ((false, q, Z) : pz_R).2.2 := fun q hq => ⟨⟨hq, fun z => by cases z⟩, hG⟩
  have endd : ∀ q Y, p < q → q ≤ len → pz_G Y → ((pz_e tx len q Y).2.1 ≤ len ∧ ((pz_e tx len q Y).1 = true → p < (pz_e tx len q Y).2.1)) ∧ pz_G (pz_e tx len q Y).2.2 := fun q Y h1 h2 h3 => by
    have e := pz_e_ok (tx := tx) h2 Y
    refine ⟨⟨e.1, fun _ => by omega⟩, ?_⟩
    rw [pz_e_Z]
    exact h3
  unfold pz_i
  by_cases k1 : tk_kd tx len p = 1
  · rw [if_neg (fun z => z k1)]
    have lt : p < tk_nx tx len p := a.2.2 (by omega)
    by_cases v1 : tk_vl tx len p = 119
    · rw [if_pos v1, pz_w]
      by_cases h1 : it = 0
      · rw [if_neg (fun z => z h1)]
        by_cases h2 : pz_n tx len (tk_nx tx len p) 1 7
        · rw [if_neg (fun z => z h2)]
          exact endd _ _ (by omega) a2.2.1 (pz_G_0 hG (by have := h2.2; omega))
        · rw [if_pos h2]; exact fail _ a.2.1
      · rw [if_pos h1]; exact fail _ hp
    · rw [if_neg v1]
      by_cases v2 : tk_vl tx len p = 114
      · rw [if_pos v2, pz_ro]
        by_cases h1 : Z 0 0 = 0 ∨ 7 ≤ Z 0 1 ∨ 0 < Z 0 2
        · rw [if_pos h1]; exact fail _ hp
        · rw [if_neg h1]
          have z := pz_r_ok (tx := tx) (Z 0 0).toNat 0 (tk_nx tx len p) Z a.2.1 hG (by omega)
          exact ⟨⟨z.1.1, fun _ => by have := z.1.2; omega⟩, z.2⟩
      · rw [if_neg v2]
        by_cases v3 : tk_vl tx len p = 100
        · rw [if_pos v3, pz_d]
          by_cases h1 : 6 ≤ Z 0 2
          · rw [if_pos h1]; exact fail _ hp
          · rw [if_neg h1]
            by_cases h2 : pz_n tx len (tk_nx tx len p) 0 (Z 0 0 - 1)
            · rw [if_neg (fun z => z h2)]
              by_cases h3 : pz_n tx len (tk_nx tx len (tk_nx tx len p)) 0 (Z 0 1 - 1) ∧ pz_f Z (tk_vl tx len (tk_nx tx len p)) (tk_vl tx len (tk_nx tx len (tk_nx tx len p))) = true
              · rw [if_neg (fun z => z h3)]
                by_cases h4 : pz_n tx len (tk_nx tx len (tk_nx tx len (tk_nx tx len p))) 0 3
                · rw [if_neg (fun z => z h4)]
                  exact endd _ _ (by omega) a4.2.1 (pz_G_d hG (by omega) (by have := h2.2; omega) (by have := h3.1.2; omega) (by have := h4.2; omega))
                · rw [if_pos h4]; exact fail _ a3.2.1
              · rw [if_pos h3]; exact fail _ a2.2.1
            · rw [if_pos h2]; exact fail _ a.2.1
        · rw [if_neg v3]
          by_cases v4 : tk_vl tx len p = 112
          · rw [if_pos v4, pz_p]
            by_cases h1 : Z 0 5 = 0
            · rw [if_neg (fun z => z h1)]
              by_cases h2 : pz_n tx len (tk_nx tx len p) 1 9
              · rw [if_neg (fun z => z h2)]
                exact endd _ _ (by omega) a2.2.1 ⟨z0, z1, z2, (by show 1 ≤ tk_vl tx len (tk_nx tx len p) ∧ tk_vl tx len (tk_nx tx len p) ≤ 9; exact h2.2), z4, (by show (0 : Int) ≤ 1 ∧ (1 : Int) ≤ 1; omega), z6, z7, z8, z9, z10⟩
              · rw [if_pos h2]; exact fail _ a.2.1
            · rw [if_pos h1]; exact fail _ hp
          · rw [if_neg v4]
            by_cases v5 : tk_vl tx len p = 115
            · rw [if_pos v5, pz_s]
              by_cases h1 : Z 0 6 = 0
              · rw [if_neg (fun z => z h1)]
                by_cases h2 : pz_n tx len (tk_nx tx len p) 1 7
                · rw [if_neg (fun z => z h2)]
                  exact endd _ _ (by omega) a2.2.1 ⟨z0, z1, z2, z3, (by show 1 ≤ tk_vl tx len (tk_nx tx len p) ∧ tk_vl tx len (tk_nx tx len p) ≤ 7; exact h2.2), z5, (by show (0 : Int) ≤ 1 ∧ (1 : Int) ≤ 1; omega), z7, z8, z9, z10⟩
                · rw [if_pos h2]; exact fail _ a.2.1
              · rw [if_pos h1]; exact fail _ hp
            · rw [if_neg v5]; exact fail _ hp
  · rw [if_pos k1]; exact fail _ hp
theorem fd_p_takeItem {tx : Nat → Int} {len : Nat} (M : fd_M) (hx : tk_Tx tx len M) (p : Nat) (hp : p ≤ len) (hT : tk_TC tx len p M) (hZ : pz_G (fd_zc M)) (hi6 : 0 ≤ M 13 6 ∧ M 13 6 ≤ 1000) : fd_callE 5 132 [fd_R 13] M (tk_PQ tx len M (pz_i tx len (M 13 6) p (fd_zc M))) := by
  refine fd_e_in (L := [fd_R 13]) rfl ?_
  obtain ⟨ta, tb, tk, tv⟩ := id hT
  obtain ⟨z0, z1, z2, z3, z4, z5, z6, z7, z8, z9, z10⟩ := id hZ
  have z0 : 0 ≤ M 8 0 ∧ M 8 0 ≤ 7 := z0
  have z1 : 0 ≤ M 8 1 ∧ M 8 1 ≤ 7 := z1
  have z2 : 0 ≤ M 8 2 ∧ M 8 2 ≤ 6 := z2
  have z5 : 0 ≤ M 13 7 ∧ M 13 7 ≤ 1 := z5
  have z6 : 0 ≤ M 13 8 ∧ M 13 8 ≤ 1 := z6
  have kr := tk_kd_rng tx len p
  refine fd_e_blk 3 (C := fd_c132) (b := true) (L' := [fd_R 13]) (st' := [fd_I 1, fd_I (M 13 4)]) (M' := M) rfl rfl (j := 3) rfl (rfl) ?_
  refine fd_e_br (C := fd_c132) (t := 6) (e := 4) (st' := []) (c := (M 13 4) = 1) (b := (fd_rng (M 13 4) && fd_rng 1)) rfl rfl rfl (fd_bA (fd_bR (by omega) (by omega)) (fd_bR (by omega) (by omega))) (fun h3 => ?_) (fun h3 => ?_)
  · have ev : M 13 5 = tk_vl tx len p := tv (by omega)
    have vr := tk_vl_rng hx.2.2.2 len p
    refine fd_e_blk 2 (C := fd_c132) (b := true) (L' := [fd_R 13]) (st' := [fd_I (M 13 5)]) (M' := M) rfl rfl (j := 8) rfl (rfl) ?_
    by_cases h8_0 : (M 13 5) = 100
    · refine fd_e_jmp (C := fd_c132) (j := 15) (st' := []) rfl rfl (b := fd_rng (M 13 5)) (by rw [h8_0]; rfl) (fd_bR (by omega) (by omega)) ?_
      refine fd_e_blk 1 (C := fd_c132) (b := true) (L' := [fd_R 13]) (st' := [fd_R 13]) (M' := M) rfl rfl (j := 16) rfl (rfl) ?_
      obtain ⟨r8, I8, c8, e8, t8, w8, f8⟩ := fd_p_takeDoor M hx p hp hT hZ
      subst e8
      refine fd_e_call (C := fd_c132) (d0 := 4) (mid := 136) (np := 1) (args := [fd_R 13]) (r1 := some (fd_I (fd_bi ((pz_d tx len p (fd_zc M)).1 = true)))) (M1 := I8) (st' := [fd_I (fd_bi ((pz_d tx len p (fd_zc M)).1 = true))]) rfl rfl rfl rfl rfl rfl (rfl) (c8) rfl (by omega) ?_
      refine fd_e_ret (C := fd_c132) (b := (fd_inb (fd_bi ((pz_d tx len p (fd_zc M)).1 = true)) 2)) (r' := some (fd_I (fd_bi ((pz_d tx len p (fd_zc M)).1 = true)))) rfl rfl rfl (fd_biI) ?_
      have eF : pz_i tx len (M 13 6) p (fd_zc M) = pz_d tx len p (fd_zc M) := by
        unfold pz_i
        first | (rw [if_neg (show ¬ ¬ tk_kd tx len p = 1 by omega), if_pos (show tk_vl tx len p = 119 by omega)]; done) | (rw [if_neg (show ¬ ¬ tk_kd tx len p = 1 by omega), if_neg (show ¬ tk_vl tx len p = 119 by omega), if_pos (show tk_vl tx len p = 114 by omega)]; done) | (rw [if_neg (show ¬ ¬ tk_kd tx len p = 1 by omega), if_neg (show ¬ tk_vl tx len p = 119 by omega), if_neg (show ¬ tk_vl tx len p = 114 by omega), if_pos (show tk_vl tx len p = 100 by omega)]; done) | (rw [if_neg (show ¬ ¬ tk_kd tx len p = 1 by omega), if_neg (show ¬ tk_vl tx len p = 119 by omega), if_neg (show ¬ tk_vl tx len p = 114 by omega), if_neg (show ¬ tk_vl tx len p = 100 by omega), if_pos (show tk_vl tx len p = 112 by omega)]; done) | (rw [if_neg (show ¬ ¬ tk_kd tx len p = 1 by omega), if_neg (show ¬ tk_vl tx len p = 119 by omega), if_neg (show ¬ tk_vl tx len p = 114 by omega), if_neg (show ¬ tk_vl tx len p = 100 by omega), if_neg (show ¬ tk_vl tx len p = 112 by omega), if_pos (show tk_vl tx len p = 115 by omega)]; done)
      rw [eF]
      exact ⟨rfl, t8, w8, f8⟩
    by_cases h8_1 : (M 13 5) = 112
    · refine fd_e_jmp (C := fd_c132) (j := 18) (st' := []) rfl rfl (b := fd_rng (M 13 5)) (by rw [h8_1]; rfl) (fd_bR (by omega) (by omega)) ?_
      refine fd_e_blk 1 (C := fd_c132) (b := true) (L' := [fd_R 13]) (st' := [fd_R 13]) (M' := M) rfl rfl (j := 19) rfl (rfl) ?_
      obtain ⟨r11, I11, c11, e11, t11, w11, f11⟩ := fd_p_takePrice M hx p hp hT hZ
      subst e11
      refine fd_e_call (C := fd_c132) (d0 := 4) (mid := 137) (np := 1) (args := [fd_R 13]) (r1 := some (fd_I (fd_bi ((pz_p tx len p (fd_zc M)).1 = true)))) (M1 := I11) (st' := [fd_I (fd_bi ((pz_p tx len p (fd_zc M)).1 = true))]) rfl rfl rfl rfl rfl rfl (rfl) (c11) rfl (by omega) ?_
      refine fd_e_ret (C := fd_c132) (b := (fd_inb (fd_bi ((pz_p tx len p (fd_zc M)).1 = true)) 2)) (r' := some (fd_I (fd_bi ((pz_p tx len p (fd_zc M)).1 = true)))) rfl rfl rfl (fd_biI) ?_
      have eF : pz_i tx len (M 13 6) p (fd_zc M) = pz_p tx len p (fd_zc M) := by
        unfold pz_i
        first | (rw [if_neg (show ¬ ¬ tk_kd tx len p = 1 by omega), if_pos (show tk_vl tx len p = 119 by omega)]; done) | (rw [if_neg (show ¬ ¬ tk_kd tx len p = 1 by omega), if_neg (show ¬ tk_vl tx len p = 119 by omega), if_pos (show tk_vl tx len p = 114 by omega)]; done) | (rw [if_neg (show ¬ ¬ tk_kd tx len p = 1 by omega), if_neg (show ¬ tk_vl tx len p = 119 by omega), if_neg (show ¬ tk_vl tx len p = 114 by omega), if_pos (show tk_vl tx len p = 100 by omega)]; done) | (rw [if_neg (show ¬ ¬ tk_kd tx len p = 1 by omega), if_neg (show ¬ tk_vl tx len p = 119 by omega), if_neg (show ¬ tk_vl tx len p = 114 by omega), if_neg (show ¬ tk_vl tx len p = 100 by omega), if_pos (show tk_vl tx len p = 112 by omega)]; done) | (rw [if_neg (show ¬ ¬ tk_kd tx len p = 1 by omega), if_neg (show ¬ tk_vl tx len p = 119 by omega), if_neg (show ¬ tk_vl tx len p = 114 by omega), if_neg (show ¬ tk_vl tx len p = 100 by omega), if_neg (show ¬ tk_vl tx len p = 112 by omega), if_pos (show tk_vl tx len p = 115 by omega)]; done)
      rw [eF]
      exact ⟨rfl, t11, w11, f11⟩
    by_cases h8_2 : (M 13 5) = 114
    · refine fd_e_jmp (C := fd_c132) (j := 12) (st' := []) rfl rfl (b := fd_rng (M 13 5)) (by rw [h8_2]; rfl) (fd_bR (by omega) (by omega)) ?_
      refine fd_e_blk 1 (C := fd_c132) (b := true) (L' := [fd_R 13]) (st' := [fd_R 13]) (M' := M) rfl rfl (j := 13) rfl (rfl) ?_
      obtain ⟨r14, I14, c14, e14, t14, w14, f14⟩ := fd_p_takeRow M hx p hp hT hZ
      subst e14
      refine fd_e_call (C := fd_c132) (d0 := 4) (mid := 134) (np := 1) (args := [fd_R 13]) (r1 := some (fd_I (fd_bi ((pz_ro tx len p (fd_zc M)).1 = true)))) (M1 := I14) (st' := [fd_I (fd_bi ((pz_ro tx len p (fd_zc M)).1 = true))]) rfl rfl rfl rfl rfl rfl (rfl) (c14) rfl (by omega) ?_
      refine fd_e_ret (C := fd_c132) (b := (fd_inb (fd_bi ((pz_ro tx len p (fd_zc M)).1 = true)) 2)) (r' := some (fd_I (fd_bi ((pz_ro tx len p (fd_zc M)).1 = true)))) rfl rfl rfl (fd_biI) ?_
      have eF : pz_i tx len (M 13 6) p (fd_zc M) = pz_ro tx len p (fd_zc M) := by
        unfold pz_i
        first | (rw [if_neg (show ¬ ¬ tk_kd tx len p = 1 by omega), if_pos (show tk_vl tx len p = 119 by omega)]; done) | (rw [if_neg (show ¬ ¬ tk_kd tx len p = 1 by omega), if_neg (show ¬ tk_vl tx len p = 119 by omega), if_pos (show tk_vl tx len p = 114 by omega)]; done) | (rw [if_neg (show ¬ ¬ tk_kd tx len p = 1 by omega), if_neg (show ¬ tk_vl tx len p = 119 by omega), if_neg (show ¬ tk_vl tx len p = 114 by omega), if_pos (show tk_vl tx len p = 100 by omega)]; done) | (rw [if_neg (show ¬ ¬ tk_kd tx len p = 1 by omega), if_neg (show ¬ tk_vl tx len p = 119 by omega), if_neg (show ¬ tk_vl tx len p = 114 by omega), if_neg (show ¬ tk_vl tx len p = 100 by omega), if_pos (show tk_vl tx len p = 112 by omega)]; done) | (rw [if_neg (show ¬ ¬ tk_kd tx len p = 1 by omega), if_neg (show ¬ tk_vl tx len p = 119 by omega), if_neg (show ¬ tk_vl tx len p = 114 by omega), if_neg (show ¬ tk_vl tx len p = 100 by omega), if_neg (show ¬ tk_vl tx len p = 112 by omega), if_pos (show tk_vl tx len p = 115 by omega)]; done)
      rw [eF]
      exact ⟨rfl, t14, w14, f14⟩
    by_cases h8_3 : (M 13 5) = 115
    · refine fd_e_jmp (C := fd_c132) (j := 21) (st' := []) rfl rfl (b := fd_rng (M 13 5)) (by rw [h8_3]; rfl) (fd_bR (by omega) (by omega)) ?_
      refine fd_e_blk 1 (C := fd_c132) (b := true) (L' := [fd_R 13]) (st' := [fd_R 13]) (M' := M) rfl rfl (j := 22) rfl (rfl) ?_
      obtain ⟨r17, I17, c17, e17, t17, w17, f17⟩ := fd_p_takeSight M hx p hp hT hZ
      subst e17
      refine fd_e_call (C := fd_c132) (d0 := 4) (mid := 138) (np := 1) (args := [fd_R 13]) (r1 := some (fd_I (fd_bi ((pz_s tx len p (fd_zc M)).1 = true)))) (M1 := I17) (st' := [fd_I (fd_bi ((pz_s tx len p (fd_zc M)).1 = true))]) rfl rfl rfl rfl rfl rfl (rfl) (c17) rfl (by omega) ?_
      refine fd_e_ret (C := fd_c132) (b := (fd_inb (fd_bi ((pz_s tx len p (fd_zc M)).1 = true)) 2)) (r' := some (fd_I (fd_bi ((pz_s tx len p (fd_zc M)).1 = true)))) rfl rfl rfl (fd_biI) ?_
      have eF : pz_i tx len (M 13 6) p (fd_zc M) = pz_s tx len p (fd_zc M) := by
        unfold pz_i
        first | (rw [if_neg (show ¬ ¬ tk_kd tx len p = 1 by omega), if_pos (show tk_vl tx len p = 119 by omega)]; done) | (rw [if_neg (show ¬ ¬ tk_kd tx len p = 1 by omega), if_neg (show ¬ tk_vl tx len p = 119 by omega), if_pos (show tk_vl tx len p = 114 by omega)]; done) | (rw [if_neg (show ¬ ¬ tk_kd tx len p = 1 by omega), if_neg (show ¬ tk_vl tx len p = 119 by omega), if_neg (show ¬ tk_vl tx len p = 114 by omega), if_pos (show tk_vl tx len p = 100 by omega)]; done) | (rw [if_neg (show ¬ ¬ tk_kd tx len p = 1 by omega), if_neg (show ¬ tk_vl tx len p = 119 by omega), if_neg (show ¬ tk_vl tx len p = 114 by omega), if_neg (show ¬ tk_vl tx len p = 100 by omega), if_pos (show tk_vl tx len p = 112 by omega)]; done) | (rw [if_neg (show ¬ ¬ tk_kd tx len p = 1 by omega), if_neg (show ¬ tk_vl tx len p = 119 by omega), if_neg (show ¬ tk_vl tx len p = 114 by omega), if_neg (show ¬ tk_vl tx len p = 100 by omega), if_neg (show ¬ tk_vl tx len p = 112 by omega), if_pos (show tk_vl tx len p = 115 by omega)]; done)
      rw [eF]
      exact ⟨rfl, t17, w17, f17⟩
    by_cases h8_4 : (M 13 5) = 119
    · refine fd_e_jmp (C := fd_c132) (j := 9) (st' := []) rfl rfl (b := fd_rng (M 13 5)) (by rw [h8_4]; rfl) (fd_bR (by omega) (by omega)) ?_
      refine fd_e_blk 1 (C := fd_c132) (b := true) (L' := [fd_R 13]) (st' := [fd_R 13]) (M' := M) rfl rfl (j := 10) rfl (rfl) ?_
      obtain ⟨r20, I20, c20, e20, t20, w20, f20⟩ := fd_p_takeWide M hx p hp hT hZ hi6
      subst e20
      refine fd_e_call (C := fd_c132) (d0 := 4) (mid := 133) (np := 1) (args := [fd_R 13]) (r1 := some (fd_I (fd_bi ((pz_w tx len (M 13 6) p (fd_zc M)).1 = true)))) (M1 := I20) (st' := [fd_I (fd_bi ((pz_w tx len (M 13 6) p (fd_zc M)).1 = true))]) rfl rfl rfl rfl rfl rfl (rfl) (c20) rfl (by omega) ?_
      refine fd_e_ret (C := fd_c132) (b := (fd_inb (fd_bi ((pz_w tx len (M 13 6) p (fd_zc M)).1 = true)) 2)) (r' := some (fd_I (fd_bi ((pz_w tx len (M 13 6) p (fd_zc M)).1 = true)))) rfl rfl rfl (fd_biI) ?_
      have eF : pz_i tx len (M 13 6) p (fd_zc M) = pz_w tx len (M 13 6) p (fd_zc M) := by
        unfold pz_i
        first | (rw [if_neg (show ¬ ¬ tk_kd tx len p = 1 by omega), if_pos (show tk_vl tx len p = 119 by omega)]; done) | (rw [if_neg (show ¬ ¬ tk_kd tx len p = 1 by omega), if_neg (show ¬ tk_vl tx len p = 119 by omega), if_pos (show tk_vl tx len p = 114 by omega)]; done) | (rw [if_neg (show ¬ ¬ tk_kd tx len p = 1 by omega), if_neg (show ¬ tk_vl tx len p = 119 by omega), if_neg (show ¬ tk_vl tx len p = 114 by omega), if_pos (show tk_vl tx len p = 100 by omega)]; done) | (rw [if_neg (show ¬ ¬ tk_kd tx len p = 1 by omega), if_neg (show ¬ tk_vl tx len p = 119 by omega), if_neg (show ¬ tk_vl tx len p = 114 by omega), if_neg (show ¬ tk_vl tx len p = 100 by omega), if_pos (show tk_vl tx len p = 112 by omega)]; done) | (rw [if_neg (show ¬ ¬ tk_kd tx len p = 1 by omega), if_neg (show ¬ tk_vl tx len p = 119 by omega), if_neg (show ¬ tk_vl tx len p = 114 by omega), if_neg (show ¬ tk_vl tx len p = 100 by omega), if_neg (show ¬ tk_vl tx len p = 112 by omega), if_pos (show tk_vl tx len p = 115 by omega)]; done)
      rw [eF]
      exact ⟨rfl, t20, w20, f20⟩
    refine fd_e_jmp (C := fd_c132) (j := 24) (st' := []) rfl rfl (b := fd_rng (M 13 5)) (by simp only [fd_jmp, fd_look, List.drop_succ_cons, List.drop_zero, h8_0, h8_1, h8_2, h8_3, h8_4, if_false]; rfl) (fd_bR (by omega) (by omega)) ?_
    refine fd_e_blk 1 (C := fd_c132) (b := true) (L' := [fd_R 13]) (st' := [fd_I 0]) (M' := M) rfl rfl (j := 25) rfl (rfl) ?_
    refine fd_e_ret (C := fd_c132) (b := true) (r' := some (fd_I 0)) rfl rfl rfl (rfl) ?_
    have eF : pz_i tx len (M 13 6) p (fd_zc M) = (false, p, fd_zc M) := by
      unfold pz_i
      first
        | (rw [if_pos (show ¬ tk_kd tx len p = 1 by omega)]; done)
        | (rw [if_neg (show ¬ ¬ tk_kd tx len p = 1 by omega), if_neg (show ¬ tk_vl tx len p = 119 by omega), if_neg (show ¬ tk_vl tx len p = 114 by omega), if_neg (show ¬ tk_vl tx len p = 100 by omega), if_neg (show ¬ tk_vl tx len p = 112 by omega), if_neg (show ¬ tk_vl tx len p = 115 by omega)]; done)
    rw [eF]
    exact ⟨rfl, hT, rfl, tk_FB_rf M⟩
  · refine fd_e_blk 1 (C := fd_c132) (b := true) (L' := [fd_R 13]) (st' := [fd_I 0]) (M' := M) rfl rfl (j := 5) rfl (rfl) ?_
    refine fd_e_ret (C := fd_c132) (b := true) (r' := some (fd_I 0)) rfl rfl rfl (rfl) ?_
    have eF : pz_i tx len (M 13 6) p (fd_zc M) = (false, p, fd_zc M) := by
      unfold pz_i
      first
        | (rw [if_pos (show ¬ tk_kd tx len p = 1 by omega)]; done)
        | (rw [if_neg (show ¬ ¬ tk_kd tx len p = 1 by omega), if_neg (show ¬ tk_vl tx len p = 119 by omega), if_neg (show ¬ tk_vl tx len p = 114 by omega), if_neg (show ¬ tk_vl tx len p = 100 by omega), if_neg (show ¬ tk_vl tx len p = 112 by omega), if_neg (show ¬ tk_vl tx len p = 115 by omega)]; done)
    rw [eF]
    exact ⟨rfl, hT, rfl, tk_FB_rf M⟩

def pz_Q (tx : Nat → Int) (len : Nat) (M : fd_M) (A : pz_R × Int) (r : Option fd_V) (R : fd_M) : Prop := r = some (fd_I (if A.1.1 = true then A.2 else -10 - (tk_ls tx len A.1.2.1 : Int))) ∧ fd_zc R = A.1.2.2 ∧ pz_G A.1.2.2 ∧ (∀ c, c < 8 ∨ 14 ≤ c → R c = M c)
theorem fd_l_read {tx : Nat → Int} {len : Nat} (M : fd_M) : ∀ (n : Nat) (i : Nat) (K : fd_M) (p : Nat) (hxK : tk_Tx tx len K) (hp : p ≤ len) (hT : tk_TC tx len p K) (hi : K 13 6 = (i : Int)) (hZ : pz_G (fd_zc K)) (hF : ∀ c, c < 8 ∨ 14 ≤ c → K c = M c) (hip : i ≤ p) (hn : len < p + n), fd_runE 6 128 19 [fd_R 13, fd_I ((i : Nat) : Int)] [] K (pz_Q tx len M (pz_a tx len n (i : Int) p (fd_zc K))) := by
  intro n
  induction n with
  | zero =>
    intro i K p hxK hp hT hi hZ hF hip hn
    exfalso
    omega
  | succ n ih =>
    intro i K p hxK hp hT hi hZ hF hip hn
    obtain ⟨ta, tb, tk, tv⟩ := id hT
    have kr := tk_kd_rng tx len p
    have ln := hxK.2.2.1
    have hB : ∀ (q0 : Int), fd_bl 2 (List.drop 19 fd_c128) [fd_R 13, fd_I q0] [] K = some (true, [fd_R 13, fd_I q0], [fd_I 150, fd_I q0], K) := fun _ => rfl
    refine fd_e_blk 2 (C := fd_c128) (b := true) (L' := [fd_R 13, fd_I ((i : Nat) : Int)]) (st' := [fd_I 150, fd_I ((i : Nat) : Int)]) (M' := K) rfl (hB ((i : Nat) : Int)) (j := 21) rfl (rfl) ?_
    clear hB
    refine fd_e_br (C := fd_c128) (t := 41) (e := 22) (st' := []) (c := 150 < ((i : Nat) : Int)) (b := (fd_rng ((i : Nat) : Int) && fd_rng 150)) rfl rfl rfl (fd_bA (fd_bR (by omega) (by omega)) (fd_bR (by omega) (by omega))) (fun h21 => absurd h21 (by omega)) (fun h21 => ?_)
    have hB : ∀ (q0 : Int), fd_bl 2 (List.drop 22 fd_c128) [fd_R 13, fd_I q0] [] K = some (true, [fd_R 13, fd_I q0], [fd_I (K 13 4)], K) := fun _ => rfl
    refine fd_e_blk 2 (C := fd_c128) (b := true) (L' := [fd_R 13, fd_I ((i : Nat) : Int)]) (st' := [fd_I (K 13 4)]) (M' := K) rfl (hB ((i : Nat) : Int)) (j := 24) rfl (rfl) ?_
    clear hB
    refine fd_e_br (C := fd_c128) (t := 41) (e := 25) (st' := []) (c := (K 13 4) = 0) (b := (fd_rng (K 13 4))) rfl rfl rfl (fd_bR (by omega) (by omega)) (fun h24 => ?_) (fun h24 => ?_)
    · have hB : ∀ (q0 : Int), fd_bl 2 (List.drop 41 fd_c128) [fd_R 13, fd_I q0] [] K = some (true, [fd_R 13, fd_I q0], [fd_I (K 13 6)], K) := fun _ => rfl
      refine fd_e_blk 2 (C := fd_c128) (b := true) (L' := [fd_R 13, fd_I ((i : Nat) : Int)]) (st' := [fd_I (K 13 6)]) (M' := K) rfl (hB ((i : Nat) : Int)) (j := 43) rfl (rfl) ?_
      clear hB
      refine fd_e_ret (C := fd_c128) (b := true) (r' := some (fd_I (K 13 6))) rfl rfl rfl (rfl) ?_
      have eA : pz_a tx len (n + 1) (i : Int) p (fd_zc K) = ((true, p, fd_zc K), (i : Int)) := by rw [pz_a, if_pos (by omega)]
      rw [eA]
      exact ⟨by rw [hi]; rfl, rfl, hZ, hF⟩
    · have hB : ∀ (q0 : Int), fd_bl 1 (List.drop 25 fd_c128) [fd_R 13, fd_I q0] [] K = some (true, [fd_R 13, fd_I q0], [fd_R 13], K) := fun _ => rfl
      refine fd_e_blk 1 (C := fd_c128) (b := true) (L' := [fd_R 13, fd_I ((i : Nat) : Int)]) (st' := [fd_R 13]) (M' := K) rfl (hB ((i : Nat) : Int)) (j := 26) rfl (rfl) ?_
      clear hB
      obtain ⟨r10, I10, c10, e10, t10, w10, f10⟩ := fd_p_takeItem K hxK p hp hT hZ (by omega)
      subst e10
      obtain ⟨a10, b10, k10, v10⟩ := id t10
      have oi := pz_i_ok (tx := tx) (K 13 6) hp hZ
      have lr := tk_ls_rng (tx := tx) oi.1.1
      refine fd_e_call (C := fd_c128) (d0 := 5) (mid := 132) (np := 1) (args := [fd_R 13]) (r1 := some (fd_I (fd_bi ((pz_i tx len (K 13 6) p (fd_zc K)).1 = true)))) (M1 := I10) (st' := [fd_I (fd_bi ((pz_i tx len (K 13 6) p (fd_zc K)).1 = true))]) rfl rfl rfl rfl rfl rfl (rfl) (c10) rfl (by omega) ?_
      refine fd_e_br (C := fd_c128) (t := 33) (e := 28) (st' := []) (c := ¬ (fd_bi ((pz_i tx len (K 13 6) p (fd_zc K)).1 = true)) = 0) (b := (fd_rng (fd_bi ((pz_i tx len (K 13 6) p (fd_zc K)).1 = true)))) rfl rfl rfl (fd_biR) (fun h27 => ?_) (fun h27 => ?_)
      · have h27 := fd_biT.mp h27
        have hB : ∀ (q0 : Int), fd_bl 7 (List.drop 33 fd_c128) [fd_R 13, fd_I q0] [] I10 = some (true, [fd_R 13, fd_I (q0 + 1)], [], (fd_up I10 13 6 ((I10 13 6) + 1))) := fun _ => rfl
        refine fd_e_blk 7 (C := fd_c128) (b := true) (L' := [fd_R 13, fd_I (((i + 1) : Nat) : Int)]) (st' := []) (M' := (fd_up I10 13 6 ((I10 13 6) + 1))) rfl (hB ((i : Nat) : Int)) (j := 40) rfl (rfl) ?_
        clear hB
        refine fd_e_jmp (C := fd_c128) (j := 19) (st' := []) rfl rfl (b := true) rfl rfl ?_
        have eA : pz_a tx len (n + 1) (i : Int) p (fd_zc K) = pz_a tx len n ((i : Int) + 1) (pz_i tx len (i : Int) p (fd_zc K)).2.1 (pz_i tx len (i : Int) p (fd_zc K)).2.2 := by rw [pz_a, if_neg (by omega), if_pos (by rw [← hi]; exact h27)]
        rw [eA]
        have ez : fd_zc (fd_up I10 13 6 ((I10 13 6) + 1)) = (pz_i tx len (i : Int) p (fd_zc K)).2.2 := by rw [fd_zc_i, w10, hi]
        rw [← ez]
        rw [hi] at h27 oi t10
        have f6 : I10 13 6 = (i : Int) := f10.2.trans hi
        refine ih (i + 1) _ (pz_i tx len (i : Int) p (fd_zc K)).2.1 (by have z : tk_Tx tx len I10 := ⟨(f10.1 2 (by omega)).trans hxK.1, by rw [f10.1 1 (by omega)]; exact hxK.2.1, hxK.2.2⟩; exact z) oi.1.1 t10 (by show I10 13 6 + 1 = ((i + 1 : Nat) : Int); omega) (by rw [ez]; exact oi.2) (fun c hc => ?_) (by have := oi.1.2 h27; omega) (by have := oi.1.2 h27; omega)
        rw [fd_up_ne (by omega)]
        exact (f10.1 c hc).trans (hF c hc)
      · have h27 := fd_biF2  h27
        have hB : ∀ (q0 : Int), fd_bl 4 (List.drop 28 fd_c128) [fd_R 13, fd_I q0] [] I10 = some (true, [fd_R 13, fd_I q0], [fd_I ((-10) - (I10 13 3))], I10) := fun _ => rfl
        refine fd_e_blk 4 (C := fd_c128) (b := true) (L' := [fd_R 13, fd_I ((i : Nat) : Int)]) (st' := [fd_I ((-10) - (I10 13 3))]) (M' := I10) rfl (hB ((i : Nat) : Int)) (j := 32) rfl (rfl) ?_
        clear hB
        refine fd_e_ret (C := fd_c128) (b := true) (r' := some (fd_I ((-10) - (I10 13 3)))) rfl rfl rfl (rfl) ?_
        have eA : pz_a tx len (n + 1) (i : Int) p (fd_zc K) = (pz_i tx len (i : Int) p (fd_zc K), (i : Int)) := by rw [pz_a, if_neg (by omega), if_neg (by rw [← hi]; exact h27)]
        rw [eA]
        rw [hi] at h27 w10 oi b10
        refine ⟨?_, w10, oi.2, fun c hc => (f10.1 c hc).trans (hF c hc)⟩
        rw [if_neg h27, b10]

theorem fd_zc_n (M : fd_M) (v : Int) : fd_zc (fd_up M 13 2 v) = fd_zc M := fd_zc_of (fd_up_ne (by decide)) rfl rfl (fd_up_ne (by decide)) (fd_up_ne (by decide)) (fd_up_ne (by decide)) (fd_up_ne (by decide))
def pz_0 (Y : fd_M) : fd_M := fun a k => if a = 0 then (if k = 3 then 1 else if k = 4 then 7 else 0) else Y a k
def pz_rd (tx : Nat → Int) (len : Nat) (Y : fd_M) : pz_R × Int := pz_a tx len (len + 1) 0 0 (pz_0 Y)
/-- the draft's rows of numbers are always fit -/
def fd_DG (M : fd_M) : Prop := (∀ k, 0 ≤ M 9 k ∧ M 9 k ≤ 2) ∧ (∀ k, 0 ≤ M 10 k ∧ M 10 k ≤ 6) ∧ (∀ k, 0 ≤ M 11 k ∧ M 11 k ≤ 6) ∧ (∀ k, 0 ≤ M 12 k ∧ M 12 k ≤ 3)
theorem pz_0_G {M : fd_M} (h : fd_DG M) : pz_G (pz_0 (fd_zc M)) := ⟨(by show (0 : Int) ≤ 0 ∧ (0 : Int) ≤ 7; decide), (by show (0 : Int) ≤ 0 ∧ (0 : Int) ≤ 7; decide), (by show (0 : Int) ≤ 0 ∧ (0 : Int) ≤ 6; decide), (by show (1 : Int) ≤ 1 ∧ (1 : Int) ≤ 9; decide), (by show (1 : Int) ≤ 7 ∧ (7 : Int) ≤ 7; decide), (by show (0 : Int) ≤ 0 ∧ (0 : Int) ≤ 1; decide), (by show (0 : Int) ≤ 0 ∧ (0 : Int) ≤ 1; decide), h.1, h.2.1, h.2.2.1, h.2.2.2⟩
theorem fd_p_empty (M : fd_M) : fd_call 0 121 [fd_R 8] M (none) (fd_up (fd_up (fd_up (fd_up (fd_up M 8 0 0) 8 1 0) 8 2 0) 8 3 1) 8 4 7) := by
  refine fd_u_in (L := [fd_R 8]) rfl ?_
  refine fd_u_blk 15 (C := fd_c121) (b := true) (L' := [fd_R 8]) (st' := []) (M' := (fd_up (fd_up (fd_up (fd_up (fd_up M 8 0 0) 8 1 0) 8 2 0) 8 3 1) 8 4 7)) rfl rfl (j := 15) rfl (rfl) ?_
  refine fd_u_ret (C := fd_c121) (b := true) (r' := none) rfl rfl rfl (rfl) ?_ ?_
  · rfl
  · rfl

theorem fd_p_read {tx : Nat → Int} {len : Nat} (M : fd_M) (hx : tk_Tx tx len M) (hD : fd_DG M) : fd_callE 6 128 [fd_R 13] M (pz_Q tx len M (pz_rd tx len (fd_zc M))) := by
  refine fd_e_in (L := [fd_R 13, fd_R 1003]) rfl ?_
  refine fd_e_blk 2 (C := fd_c128) (b := true) (L' := [fd_R 13, fd_R 1003]) (st' := [fd_R 8]) (M' := M) rfl rfl (j := 2) rfl (rfl) ?_
  refine fd_e_call (C := fd_c128) (d0 := 0) (mid := 121) (np := 1) (args := [fd_R 8]) (r1 := none) (M1 := (fd_up (fd_up (fd_up (fd_up (fd_up M 8 0 0) 8 1 0) 8 2 0) 8 3 1) 8 4 7)) (st' := []) rfl rfl rfl rfl rfl rfl (rfl) (fd_p_empty M) rfl (by omega) ?_
  refine fd_e_blk 13 (C := fd_c128) (b := true) (L' := [fd_R 13, fd_R 1003]) (st' := [fd_R 13]) (M' := (fd_up (fd_up (fd_up (fd_up (fd_up (fd_up (fd_up (fd_up (fd_up M 8 0 0) 8 1 0) 8 2 0) 8 3 1) 8 4 7) 13 2 0) 13 6 0) 13 7 0) 13 8 0)) rfl rfl (j := 16) rfl (rfl) ?_
  obtain ⟨A, c1, t1, f1⟩ := fd_p_adv (M := (fd_up (fd_up (fd_up (fd_up (fd_up (fd_up (fd_up (fd_up (fd_up M 8 0 0) 8 1 0) 8 2 0) 8 3 1) 8 4 7) 13 2 0) 13 6 0) 13 7 0) 13 8 0)) (by have z := hx; exact z) (p := 0) (Nat.zero_le _) rfl
  have e0 : fd_zc A = pz_0 (fd_zc M) := by
    rw [fd_zc_FA f1, fd_zc_s, fd_zc_p, fd_zc_i]
    rw [fd_zc_n]
    rw [fd_zc_8 _ (by decide), fd_zc_8 _ (by decide), fd_zc_8 _ (by decide), fd_zc_8 _ (by decide), fd_zc_8 _ (by decide)]
    funext a k
    unfold fd_up pz_0 fd_zc
    by_cases h : a = 0
    · subst h
      by_cases h0 : k = 0
      · subst h0; simp
      by_cases h1 : k = 1
      · subst h1; simp
      by_cases h2 : k = 2
      · subst h2; simp
      by_cases h3 : k = 3
      · subst h3; simp
      by_cases h4 : k = 4
      · subst h4; simp
      by_cases h5 : k = 5
      · subst h5; simp
      by_cases h6 : k = 6
      · subst h6; simp
      simp [h0, h1, h2, h3, h4, h5, h6]
      omega
    · simp [h]
  refine fd_e_call (C := fd_c128) (d0 := 2) (mid := 129) (np := 1) (args := [fd_R 13]) (r1 := none) (M1 := A) (st' := []) rfl rfl rfl rfl rfl rfl (rfl) (c1) rfl (by omega) ?_
  refine fd_e_blk 2 (C := fd_c128) (b := true) (L' := [fd_R 13, fd_I 0]) (st' := []) (M' := A) rfl rfl (j := 19) rfl (rfl) ?_
  have z := fd_l_read (tx := tx) (len := len) M (len + 1) 0 A 0 (by have z := tk_Tx_FA (M := (fd_up (fd_up (fd_up (fd_up (fd_up (fd_up (fd_up (fd_up (fd_up M 8 0 0) 8 1 0) 8 2 0) 8 3 1) 8 4 7) 13 2 0) 13 6 0) 13 7 0) 13 8 0)) (by have z := hx; exact z) f1; exact z) (Nat.zero_le _) t1 (f1.2 6 (by decide)) (by rw [e0]; exact pz_0_G hD) (fun c hc => (f1.1 c (by omega)).trans (by rw [fd_up_ne (by omega), fd_up_ne (by omega), fd_up_ne (by omega), fd_up_ne (by omega), fd_up_ne (by omega), fd_up_ne (by omega), fd_up_ne (by omega), fd_up_ne (by omega), fd_up_ne (by omega)])) (Nat.le_refl _) (by omega)
  rw [e0] at z
  exact z


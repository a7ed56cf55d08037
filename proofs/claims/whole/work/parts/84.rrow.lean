/-! the reference: rows -/
theorem tk_gof (tx : Nat → Int) (len p : Nat) : (if tk_rs (tk_kd tx len p) (tk_vl tx len p) = 102 then 0 else if tk_rs (tk_kd tx len p) (tk_vl tx len p) = 120 then 1 else if tk_rs (tk_kd tx len p) (tk_vl tx len p) = 116 then 2 else -9) = if pz_g tx len p = -1 then -9 else pz_g tx len p := by
  obtain ⟨s0, s1, s2, s3, s4, s5⟩ := tk_rs_f tx len p
  unfold pz_g
  by_cases h : tk_kd tx len p = 1
  · rw [if_pos h]
    have e := s4 h
    rw [e]
    unfold pz_gd
    by_cases a : tk_vl tx len p = 102
    · simp [a]
    · by_cases b : tk_vl tx len p = 120
      · simp [b]
      · by_cases c : tk_vl tx len p = 116
        · simp [c]
        · simp [a, b, c]
  · have e := s5 h
    rw [if_neg h, if_neg (by omega), if_neg (by omega), if_neg (by omega), if_pos rfl]
theorem fd_l_rrow {tx : Nat → Int} {len : Nat} (M : fd_M) (a1 : fd_V) : ∀ (n : Nat) (x : Nat) (K : fd_M) (p : Nat) (Z : fd_M) (u3 u4 : fd_V) (hx : tk_TxR tx len K) (hp : p ≤ len) (hT : tk_TR tx len p K) (hf : K 199 15 = -9) (hN : tk_RN K) (hG : pz_G Z) (hZ : tk_RZ K Z) (hrow : ∀ a : Nat, a < x → K 203 (49 + (7 * (Z 0 1).toNat + a)) = Z 1 (7 * (Z 0 1).toNat + a)) (hF : tk_RF M K) (hR : Z 0 1 ≤ 6) (hk : (x : Int) + n = Z 0 0), fd_runE 4 62 13 [fd_R 199, a1, fd_I ((x : Nat) : Int), u3, u4] [] K (tk_RB tx len M (pz_rb tx len n x p Z)) := by
  intro n
  induction n with
  | zero =>
    intro x K p Z u3 u4 hx hp hT hf hN hG hZ hrow hF hR hk
    obtain ⟨ta, tb, tc, td, te⟩ := id hT
    obtain ⟨zz0, zz1, zz2, zz3, zz4, zz5, zz6, zz7⟩ := id hZ
    obtain ⟨g0, g1, g2, g3, g4, g5, g6, g7, g8, g9, g10⟩ := id hG
    obtain ⟨rn1, rn2, rn3⟩ := id hN
    have lr := tk_ls_rng (tx := tx) hp
    have l1 := hx.2.1
    have gr := pz_g_rng tx len p
    have gr2 : -9 ≤ (if pz_g tx len p = -1 then -9 else pz_g tx len p) ∧ (if pz_g tx len p = -1 then -9 else pz_g tx len p) ≤ 2 := by split <;> omega
    have eg : (if K 199 13 = 102 then 0 else if K 199 13 = 120 then 1 else if K 199 13 = 116 then 2 else -9) = if pz_g tx len p = -1 then -9 else pz_g tx len p := by rw [tc]; exact tk_gof tx len p
    have hB : ∀ (q0 : Int), fd_bl 5 (List.drop 13 fd_c62) [fd_R 199, a1, fd_I q0, u3, u4] [] K = some (true, [fd_R 199, a1, fd_I q0, u3, u4], [fd_I (K 201 1), fd_I q0], K) := fun _ => rfl
    refine fd_e_blk 5 (C := fd_c62) (b := true) (L' := [fd_R 199, a1, fd_I ((x : Nat) : Int), u3, u4]) (st' := [fd_I (K 201 1), fd_I ((x : Nat) : Int)]) (M' := K) rfl (hB ((x : Nat) : Int)) (j := 18) rfl (rfl) ?_
    clear hB
    refine fd_e_br (C := fd_c62) (t := 52) (e := 19) (st' := []) (c := (K 201 1) ≤ ((x : Nat) : Int)) (b := (fd_rng ((x : Nat) : Int) && fd_rng (K 201 1))) rfl rfl rfl (fd_bA (fd_bR (by omega) (by omega)) (fd_bR (by omega) (by omega))) (fun h18 => ?_) (fun h18 => absurd h18 (by omega))
    have hB : ∀ (q0 : Int), fd_bl 8 (List.drop 52 fd_c62) [fd_R 199, a1, fd_I q0, u3, u4] [] K = some (true, [fd_R 199, a1, fd_I q0, u3, u4], [], (fd_up K 202 1 ((K 202 1) + 1))) := fun _ => rfl
    refine fd_e_blk 8 (C := fd_c62) (b := true) (L' := [fd_R 199, a1, fd_I ((x : Nat) : Int), u3, u4]) (st' := []) (M' := (fd_up K 202 1 ((K 202 1) + 1))) rfl (hB ((x : Nat) : Int)) (j := 60) rfl (rfl) ?_
    clear hB
    refine fd_e_jmp (C := fd_c62) (j := 170) (st' := []) rfl rfl (b := true) rfl rfl ?_
    refine fd_e_ret (C := fd_c62) (b := true) (r' := none) rfl rfl rfl (rfl) ?_
    refine ⟨rfl, tk_RF_tr hF (tk_RF_up _ _ (by omega)), hN, ?_⟩
    show tk_TR tx len p _ ∧ tk_RZ _ (fd_up Z 0 1 (Z 0 1 + 1)) ∧ _
    refine ⟨hT, ⟨zz0, (by show K 202 1 + 1 = Z 0 1 + 1; omega), zz2, zz3, zz4, zz5, fun a b ha hb => ?_, zz7⟩, hf⟩
    have ha2 : (a : Int) < Z 0 0 := ha
    have hb2 : (b : Int) < Z 0 1 + 1 := hb
    by_cases hbb : (b : Int) < Z 0 1
    · exact zz6 a b ha2 hbb
    · have eb : b = (Z 0 1).toNat := by omega
      subst eb
      exact hrow a (by omega)
  | succ n ih =>
    intro x K p Z u3 u4 hx hp hT hf hN hG hZ hrow hF hR hk
    obtain ⟨ta, tb, tc, td, te⟩ := id hT
    obtain ⟨zz0, zz1, zz2, zz3, zz4, zz5, zz6, zz7⟩ := id hZ
    obtain ⟨g0, g1, g2, g3, g4, g5, g6, g7, g8, g9, g10⟩ := id hG
    obtain ⟨rn1, rn2, rn3⟩ := id hN
    have lr := tk_ls_rng (tx := tx) hp
    have l1 := hx.2.1
    have gr := pz_g_rng tx len p
    have gr2 : -9 ≤ (if pz_g tx len p = -1 then -9 else pz_g tx len p) ∧ (if pz_g tx len p = -1 then -9 else pz_g tx len p) ≤ 2 := by split <;> omega
    have eg : (if K 199 13 = 102 then 0 else if K 199 13 = 120 then 1 else if K 199 13 = 116 then 2 else -9) = if pz_g tx len p = -1 then -9 else pz_g tx len p := by rw [tc]; exact tk_gof tx len p
    have e49 : ((49 + (7 * (K 202 1))) + ((x : Nat) : Int)).toNat = (49 + (7 * (Z 0 1).toNat + x)) := by omega
    have hB : ∀ (q0 : Int), fd_bl 5 (List.drop 13 fd_c62) [fd_R 199, a1, fd_I q0, u3, u4] [] K = some (true, [fd_R 199, a1, fd_I q0, u3, u4], [fd_I (K 201 1), fd_I q0], K) := fun _ => rfl
    refine fd_e_blk 5 (C := fd_c62) (b := true) (L' := [fd_R 199, a1, fd_I ((x : Nat) : Int), u3, u4]) (st' := [fd_I (K 201 1), fd_I ((x : Nat) : Int)]) (M' := K) rfl (hB ((x : Nat) : Int)) (j := 18) rfl (rfl) ?_
    clear hB
    refine fd_e_br (C := fd_c62) (t := 52) (e := 19) (st' := []) (c := (K 201 1) ≤ ((x : Nat) : Int)) (b := (fd_rng ((x : Nat) : Int) && fd_rng (K 201 1))) rfl rfl rfl (fd_bA (fd_bR (by omega) (by omega)) (fd_bR (by omega) (by omega))) (fun h18 => absurd h18 (by omega)) (fun h18 => ?_)
    have hB : ∀ (q0 : Int), fd_bl 3 (List.drop 19 fd_c62) [fd_R 199, a1, fd_I q0, u3, u4] [] K = some (true, [fd_R 199, a1, fd_I q0, u3, u4], [fd_I (-9), fd_I (K 199 15)], K) := fun _ => rfl
    refine fd_e_blk 3 (C := fd_c62) (b := true) (L' := [fd_R 199, a1, fd_I ((x : Nat) : Int), u3, u4]) (st' := [fd_I (-9), fd_I (K 199 15)]) (M' := K) rfl (hB ((x : Nat) : Int)) (j := 22) rfl (rfl) ?_
    clear hB
    refine fd_e_br (C := fd_c62) (t := 52) (e := 23) (st' := []) (c := ¬ (K 199 15) = (-9)) (b := (fd_rng (K 199 15) && fd_rng (-9))) rfl rfl rfl (fd_bA (fd_bR (by omega) (by omega)) (fd_bR (by omega) (by omega))) (fun h22 => absurd h22 (by omega)) (fun h22 => ?_)
    have hB : ∀ (q0 : Int), fd_bl 14 (List.drop 23 fd_c62) [fd_R 199, a1, fd_I q0, u3, u4] [] K = some (true, [fd_R 199, a1, fd_I q0, u3, u4], [fd_I (K 199 13), fd_I ((49 + (7 * (K 202 1))) + q0), fd_R 203], K) := fun _ => rfl
    refine fd_e_blk 14 (C := fd_c62) (b := true) (L' := [fd_R 199, a1, fd_I ((x : Nat) : Int), u3, u4]) (st' := [fd_I (K 199 13), fd_I ((49 + (7 * (K 202 1))) + ((x : Nat) : Int)), fd_R 203]) (M' := K) rfl (hB ((x : Nat) : Int)) (j := 37) rfl (rfl) ?_
    clear hB
    refine fd_e_call (C := fd_c62) (d0 := 0) (mid := 60) (np := 1) (args := [fd_I (K 199 13)]) (r1 := some (fd_I (if pz_g tx len p = -1 then -9 else pz_g tx len p))) (M1 := K) (st' := [fd_I (if pz_g tx len p = -1 then -9 else pz_g tx len p), fd_I ((49 + (7 * (K 202 1))) + ((x : Nat) : Int)), fd_R 203]) rfl rfl rfl rfl rfl rfl (rfl) (by have zz := fd_y_groundOf K (K 199 13) (by omega); rw [eg] at zz; exact zz) rfl (by omega) ?_
    have hB : ∀ (q0 : Int) (q1 : Int), fd_bl 1 (List.drop 38 fd_c62) [fd_R 199, a1, fd_I q0, u3, u4] [fd_I (if pz_g tx len p = -1 then -9 else pz_g tx len p), fd_I q1, fd_R 203] K = some ((fd_isA true K 203 20 q1 && true), [fd_R 199, a1, fd_I q0, u3, u4], [], (fd_up K 203 (q1).toNat (if pz_g tx len p = -1 then -9 else pz_g tx len p))) := fun _ _ => rfl
    refine fd_e_blk 1 (C := fd_c62) (b := (fd_isA true K 203 20 ((49 + (7 * (K 202 1))) + ((x : Nat) : Int)) && true)) (L' := [fd_R 199, a1, fd_I ((x : Nat) : Int), u3, u4]) (st' := []) (M' := (fd_up K 203 ((49 + (7 * (K 202 1))) + ((x : Nat) : Int)).toNat (if pz_g tx len p = -1 then -9 else pz_g tx len p))) rfl (hB ((x : Nat) : Int) ((49 + (7 * (K 202 1))) + ((x : Nat) : Int))) (j := 39) rfl (fd_bA (fd_iA fd_sh203 (by omega) (by omega)) (rfl)) ?_
    clear hB
    rw [e49]
    have hB : ∀ (q0 : Int), fd_bl 3 (List.drop 39 fd_c62) [fd_R 199, a1, fd_I q0, u3, u4] [] (fd_up K 203 (49 + (7 * (Z 0 1).toNat + x)) (if pz_g tx len p = -1 then -9 else pz_g tx len p)) = some (true, [fd_R 199, a1, fd_I q0, u3, u4], [fd_I (K 199 13), fd_R 199], (fd_up K 203 (49 + (7 * (Z 0 1).toNat + x)) (if pz_g tx len p = -1 then -9 else pz_g tx len p))) := fun _ => rfl
    refine fd_e_blk 3 (C := fd_c62) (b := true) (L' := [fd_R 199, a1, fd_I ((x : Nat) : Int), u3, u4]) (st' := [fd_I (K 199 13), fd_R 199]) (M' := (fd_up K 203 (49 + (7 * (Z 0 1).toNat + x)) (if pz_g tx len p = -1 then -9 else pz_g tx len p))) rfl (hB ((x : Nat) : Int)) (j := 42) rfl (rfl) ?_
    clear hB
    refine fd_e_call (C := fd_c62) (d0 := 0) (mid := 60) (np := 1) (args := [fd_I (K 199 13)]) (r1 := some (fd_I (if pz_g tx len p = -1 then -9 else pz_g tx len p))) (M1 := (fd_up K 203 (49 + (7 * (Z 0 1).toNat + x)) (if pz_g tx len p = -1 then -9 else pz_g tx len p))) (st' := [fd_I (if pz_g tx len p = -1 then -9 else pz_g tx len p), fd_R 199]) rfl rfl rfl rfl rfl rfl (rfl) (by have zz := fd_y_groundOf (fd_up K 203 (49 + (7 * (Z 0 1).toNat + x)) (if pz_g tx len p = -1 then -9 else pz_g tx len p)) (K 199 13) (by omega); rw [eg] at zz; exact zz) rfl (by omega) ?_
    have hB : ∀ (q0 : Int), fd_bl 1 (List.drop 43 fd_c62) [fd_R 199, a1, fd_I q0, u3, u4] [fd_I (if pz_g tx len p = -1 then -9 else pz_g tx len p), fd_R 199] (fd_up K 203 (49 + (7 * (Z 0 1).toNat + x)) (if pz_g tx len p = -1 then -9 else pz_g tx len p)) = some (true, [fd_R 199, a1, fd_I q0, u3, u4], [fd_I (-9), fd_I (if pz_g tx len p = -1 then -9 else pz_g tx len p), fd_R 199], (fd_up K 203 (49 + (7 * (Z 0 1).toNat + x)) (if pz_g tx len p = -1 then -9 else pz_g tx len p))) := fun _ => rfl
    refine fd_e_blk 1 (C := fd_c62) (b := true) (L' := [fd_R 199, a1, fd_I ((x : Nat) : Int), u3, u4]) (st' := [fd_I (-9), fd_I (if pz_g tx len p = -1 then -9 else pz_g tx len p), fd_R 199]) (M' := (fd_up K 203 (49 + (7 * (Z 0 1).toNat + x)) (if pz_g tx len p = -1 then -9 else pz_g tx len p))) rfl (hB ((x : Nat) : Int)) (j := 44) rfl (rfl) ?_
    clear hB
    refine fd_e_br (C := fd_c62) (t := 47) (e := 45) (st' := [fd_R 199]) (c := (if pz_g tx len p = -1 then -9 else pz_g tx len p) = (-9)) (b := (fd_rng (if pz_g tx len p = -1 then -9 else pz_g tx len p) && fd_rng (-9))) rfl rfl rfl (fd_bA (fd_bR (by omega) (by omega)) (fd_bR (by omega) (by omega))) (fun h44 => ?_) (fun h44 => ?_)
    · have hB : ∀ (q0 : Int), fd_bl 1 (List.drop 47 fd_c62) [fd_R 199, a1, fd_I q0, u3, u4] [fd_R 199] (fd_up K 203 (49 + (7 * (Z 0 1).toNat + x)) (if pz_g tx len p = -1 then -9 else pz_g tx len p)) = some (true, [fd_R 199, a1, fd_I q0, u3, u4], [fd_I 0, fd_R 199], (fd_up K 203 (49 + (7 * (Z 0 1).toNat + x)) (if pz_g tx len p = -1 then -9 else pz_g tx len p))) := fun _ => rfl
      refine fd_e_blk 1 (C := fd_c62) (b := true) (L' := [fd_R 199, a1, fd_I ((x : Nat) : Int), u3, u4]) (st' := [fd_I 0, fd_R 199]) (M' := (fd_up K 203 (49 + (7 * (Z 0 1).toNat + x)) (if pz_g tx len p = -1 then -9 else pz_g tx len p))) rfl (hB ((x : Nat) : Int)) (j := 48) rfl (rfl) ?_
      clear hB
      refine fd_e_call (C := fd_c62) (d0 := 2) (mid := 57) (np := 2) (args := [fd_R 199, fd_I 0]) (r1 := some (fd_I (K 199 14))) (M1 := (fd_up (fd_up K 203 (49 + (7 * (Z 0 1).toNat + x)) (if pz_g tx len p = -1 then -9 else pz_g tx len p)) 199 15 (K 199 12))) (st' := [fd_I (K 199 14)]) rfl rfl rfl rfl rfl rfl (rfl) (fd_y_due0 (fd_up K 203 (49 + (7 * (Z 0 1).toNat + x)) (if pz_g tx len p = -1 then -9 else pz_g tx len p)) hf) rfl (by omega) ?_
      have hB : ∀ (q0 : Int), fd_bl 2 (List.drop 49 fd_c62) [fd_R 199, a1, fd_I q0, u3, u4] [fd_I (K 199 14)] (fd_up (fd_up K 203 (49 + (7 * (Z 0 1).toNat + x)) (if pz_g tx len p = -1 then -9 else pz_g tx len p)) 199 15 (K 199 12)) = some (true, [fd_R 199, a1, fd_I (q0 + 1), u3, u4], [], (fd_up (fd_up K 203 (49 + (7 * (Z 0 1).toNat + x)) (if pz_g tx len p = -1 then -9 else pz_g tx len p)) 199 15 (K 199 12))) := fun _ => rfl
      refine fd_e_blk 2 (C := fd_c62) (b := true) (L' := [fd_R 199, a1, fd_I (((x + 1) : Nat) : Int), u3, u4]) (st' := []) (M' := (fd_up (fd_up K 203 (49 + (7 * (Z 0 1).toNat + x)) (if pz_g tx len p = -1 then -9 else pz_g tx len p)) 199 15 (K 199 12))) rfl (hB ((x : Nat) : Int)) (j := 51) rfl (rfl) ?_
      clear hB
      refine fd_e_jmp (C := fd_c62) (j := 13) (st' := []) rfl rfl (b := true) rfl rfl ?_
      have hg : pz_g tx len p = -1 := by
        apply Classical.byContradiction
        intro z
        rw [if_neg z] at h44
        omega
      have eF : pz_rb tx len (n + 1) x p Z = (false, p, Z) := by rw [pz_rb, if_pos hg]
      rw [eF]
      obtain ⟨r, R, zr, e1, e2⟩ := fd_y_rowF (fd_up (fd_up K 203 (49 + (7 * (Z 0 1).toNat + x)) (if pz_g tx len p = -1 then -9 else pz_g tx len p)) 199 15 (K 199 12)) (by show ¬ K 199 12 = -9; omega) (by show -10 ≤ K 199 12 ∧ K 199 12 ≤ 1000; omega) (by show -1000 ≤ K 201 1 ∧ K 201 1 ≤ 1000; omega) (x + 1) (by omega) a1 u3 u4
      refine ⟨r, R, zr, e1, ?_, ?_, ?_⟩
      · rw [e2]; exact tk_RF_tr hF (tk_RF_tr (tk_RF_tr (tk_RF_up _ _ (by omega)) (tk_RF_up _ _ (by omega))) (tk_RF_up _ _ (by omega)))
      · rw [e2]
        refine ⟨rn1, rn2, fun k hk => ?_⟩
        show -9 ≤ fd_up K 203 (49 + (7 * (Z 0 1).toNat + x)) (if pz_g tx len p = -1 then -9 else pz_g tx len p) 203 (49 + k) ∧ fd_up K 203 (49 + (7 * (Z 0 1).toNat + x)) (if pz_g tx len p = -1 then -9 else pz_g tx len p) 203 (49 + k) ≤ 2
        rw [fd_up_at, if_pos hg]
        have := rn3 k hk
        split
        · omega
        · exact this
      · rw [e2]
        show K 199 12 = _
        exact tb
    · have hB : ∀ (q0 : Int), fd_bl 1 (List.drop 45 fd_c62) [fd_R 199, a1, fd_I q0, u3, u4] [fd_R 199] (fd_up K 203 (49 + (7 * (Z 0 1).toNat + x)) (if pz_g tx len p = -1 then -9 else pz_g tx len p)) = some (true, [fd_R 199, a1, fd_I q0, u3, u4], [fd_I 1, fd_R 199], (fd_up K 203 (49 + (7 * (Z 0 1).toNat + x)) (if pz_g tx len p = -1 then -9 else pz_g tx len p))) := fun _ => rfl
      refine fd_e_blk 1 (C := fd_c62) (b := true) (L' := [fd_R 199, a1, fd_I ((x : Nat) : Int), u3, u4]) (st' := [fd_I 1, fd_R 199]) (M' := (fd_up K 203 (49 + (7 * (Z 0 1).toNat + x)) (if pz_g tx len p = -1 then -9 else pz_g tx len p))) rfl (hB ((x : Nat) : Int)) (j := 46) rfl (rfl) ?_
      clear hB
      refine fd_e_jmp (C := fd_c62) (j := 48) (st' := [fd_I 1, fd_R 199]) rfl rfl (b := true) rfl rfl ?_
      obtain ⟨rS, S, cS, eS, tS, fS⟩ := fd_y_due1 (fd_up K 203 (49 + (7 * (Z 0 1).toNat + x)) (if pz_g tx len p = -1 then -9 else pz_g tx len p)) (by have z := hx; exact z) p hp (by have z := hT; exact z) hf
      subst eS
      refine fd_e_call (C := fd_c62) (d0 := 2) (mid := 57) (np := 2) (args := [fd_R 199, fd_I 1]) (r1 := some (fd_I (K 199 14))) (M1 := S) (st' := [fd_I (K 199 14)]) rfl rfl rfl rfl rfl rfl (rfl) (cS) rfl (by omega) ?_
      have hB : ∀ (q0 : Int), fd_bl 2 (List.drop 49 fd_c62) [fd_R 199, a1, fd_I q0, u3, u4] [fd_I (K 199 14)] S = some (true, [fd_R 199, a1, fd_I (q0 + 1), u3, u4], [], S) := fun _ => rfl
      refine fd_e_blk 2 (C := fd_c62) (b := true) (L' := [fd_R 199, a1, fd_I (((x + 1) : Nat) : Int), u3, u4]) (st' := []) (M' := S) rfl (hB ((x : Nat) : Int)) (j := 51) rfl (rfl) ?_
      clear hB
      refine fd_e_jmp (C := fd_c62) (j := 13) (st' := []) rfl rfl (b := true) rfl rfl ?_
      have hg : ¬ pz_g tx len p = -1 := fun z => h44 (by rw [if_pos z])
      rw [if_neg hg] at fS
      have eF : pz_rb tx len (n + 1) x p Z = pz_rb tx len n (x + 1) (tk_nx tx len p) (fd_up Z 1 (Z 0 1 * 7 + (x : Int)).toNat (pz_g tx len p)) := by rw [pz_rb, if_neg hg]
      rw [eF]
      have e7 : (Z 0 1 * 7 + (x : Int)).toNat = 7 * (Z 0 1).toNat + x := by omega
      rw [e7]
      have hNJ : tk_RN (fd_up K 203 (49 + (7 * (Z 0 1).toNat + x)) (pz_g tx len p)) := by
        refine ⟨rn1, rn2, fun k hk => ?_⟩
        rw [fd_up_at]
        have := rn3 k hk
        split
        · omega
        · exact this
      have hZJ : tk_RZ (fd_up K 203 (49 + (7 * (Z 0 1).toNat + x)) (pz_g tx len p)) (fd_up Z 1 (7 * (Z 0 1).toNat + x) (pz_g tx len p)) := by
        refine ⟨zz0, zz1, zz2, zz3, zz4, zz5, fun a b ha hb => ?_, zz7⟩
        have ha2 : (a : Int) < Z 0 0 := ha
        have hb2 : (b : Int) < Z 0 1 := hb
        rw [fd_up_at, fd_up_at, if_neg (by omega), if_neg (by omega)]
        exact zz6 a b ha2 hb2
      refine ih (x + 1) S (tk_nx tx len p) (fd_up Z 1 (7 * (Z 0 1).toNat + x) (pz_g tx len p)) u3 u4 (tk_TxR_RA (M := fd_up K 203 (49 + (7 * (Z 0 1).toNat + x)) (pz_g tx len p)) (by have z := hx; exact z) fS) (tk_nl hp) tS ((fS.2 15 (by omega)).trans hf) (tk_RN_RA hNJ fS tS) (pz_G_1 hG _ (by omega)) (tk_RZ_RA hZJ fS) ?_ (tk_RF_tr hF (tk_RF_tr (tk_RF_up _ _ (by omega)) (tk_RF_RA fS))) hR (by show ((x + 1 : Nat) : Int) + n = Z 0 0; omega)
      intro a ha
      show S 203 (49 + (7 * (Z 0 1).toNat + a)) = fd_up Z 1 (7 * (Z 0 1).toNat + x) (pz_g tx len p) 1 (7 * (Z 0 1).toNat + a)
      rw [fS.1 203 (by decide), fd_up_at, fd_up_at]
      by_cases hax : a = x
      · rw [if_pos (by omega), if_pos (by omega)]
      · rw [if_neg (by omega), if_neg (by omega)]; exact hrow a (by omega)

theorem fd_y_rr {tx : Nat → Int} {len : Nat} (K : fd_M) (hx : tk_TxR tx len K) (p : Nat) (hp : p ≤ len) (hT : tk_TR tx len p K) (hf : K 199 15 = -9) (hN : tk_RN K) (Z : fd_M) (hG : pz_G Z) (hZ : tk_RZ K Z) (hR : Z 0 1 ≤ 6) : fd_callE 4 62 [fd_R 199, fd_I 114] K (tk_RB tx len K (pz_rb tx len (Z 0 0).toNat 0 p Z)) := by
  refine fd_e_in (L := [fd_R 199, fd_I 114, fd_R 1003, fd_R 1003, fd_R 1003]) rfl ?_
  obtain ⟨zz0, zz1, zz2, zz3, zz4, zz5, zz6, zz7⟩ := id hZ
  obtain ⟨g0, g1, g2, g3, g4, g5, g6, g7, g8, g9, g10⟩ := id hG
  obtain ⟨rn1, rn2, rn3⟩ := id hN
  have lr := tk_ls_rng (tx := tx) hp
  have l1 := hx.2.1
  refine fd_e_blk 1 (C := fd_c62) (b := true) (L' := [fd_R 199, fd_I 114, fd_R 1003, fd_R 1003, fd_R 1003]) (st' := [fd_I 114]) (M' := K) rfl rfl (j := 1) rfl (rfl) ?_
  refine fd_e_jmp (C := fd_c62) (j := 11) (st' := []) rfl rfl (b := fd_rng 114) rfl rfl ?_
  refine fd_e_blk 2 (C := fd_c62) (b := true) (L' := [fd_R 199, fd_I 114, fd_I 0, fd_R 1003, fd_R 1003]) (st' := []) (M' := K) rfl rfl (j := 13) rfl (rfl) ?_
  exact fd_l_rrow K _ (Z 0 0).toNat 0 K p Z _ _ hx hp hT hf hN hG hZ (fun a ha => absurd ha (by omega)) (tk_RF_rf K) hR (by omega)


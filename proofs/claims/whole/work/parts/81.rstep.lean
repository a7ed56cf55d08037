/-! the reference: the next token -/
theorem fd_y_step11 {tx : Nat → Int} {len : Nat} (K : fd_M) (hx : tk_TxR tx len K) (p s : Nat) (hs : s = tk_ls tx len p) (hsl2 : s ≤ len) (u : fd_V) : fd_runE 1 56 11 [fd_R 199, u] [] (fd_up K 199 11 ((s : Nat) : Int)) (fun r R => r = none ∧ tk_TR tx len p R ∧ tk_RA K R) := by
  have l1 := hx.2.1
  have xs := hx.2.2.1 s
  refine fd_e_blk 8 (C := fd_c56) (b := true) (L' := [fd_R 199, u]) (st' := [fd_R 199]) (M' := (fd_up (fd_up (fd_up K 199 11 ((s : Nat) : Int)) 199 12 ((s : Nat) : Int)) 199 14 0)) rfl rfl (j := 19) rfl (rfl) ?_
  refine fd_e_call (C := fd_c56) (d0 := 0) (mid := 55) (np := 1) (args := [fd_R 199]) (r1 := some (fd_I (if s < len then tx s else -1))) (M1 := (fd_up (fd_up (fd_up K 199 11 ((s : Nat) : Int)) 199 12 ((s : Nat) : Int)) 199 14 0)) (st' := [fd_I (if s < len then tx s else -1)]) rfl rfl rfl rfl rfl rfl (rfl) (fd_y_here (fd_up (fd_up (fd_up K 199 11 ((s : Nat) : Int)) 199 12 ((s : Nat) : Int)) 199 14 0) (by have z := hx; exact z) s rfl (by omega)) rfl (by omega) ?_
  have hr2 : -1 ≤ (if s < len then tx s else -1) ∧ (if s < len then tx s else -1) ≤ 255 := by split <;> omega
  refine fd_e_blk 2 (C := fd_c56) (b := true) (L' := [fd_R 199, fd_I (if s < len then tx s else -1)]) (st' := [fd_I (if s < len then tx s else -1)]) (M' := (fd_up (fd_up (fd_up K 199 11 ((s : Nat) : Int)) 199 12 ((s : Nat) : Int)) 199 14 0)) rfl rfl (j := 22) rfl (rfl) ?_
  refine fd_e_br (C := fd_c56) (t := 27) (e := 23) (st' := []) (c := 0 ≤ (if s < len then tx s else -1)) (b := (fd_rng (if s < len then tx s else -1))) rfl rfl rfl (fd_bR (by omega) (by omega)) (fun h22 => ?_) (fun h22 => ?_)
  · refine fd_e_blk 3 (C := fd_c56) (b := true) (L' := [fd_R 199, fd_I (if s < len then tx s else -1)]) (st' := [fd_I 57, fd_I 48, fd_I (if s < len then tx s else -1)]) (M' := (fd_up (fd_up (fd_up K 199 11 ((s : Nat) : Int)) 199 12 ((s : Nat) : Int)) 199 14 0)) rfl rfl (j := 30) rfl (rfl) ?_
    refine fd_e_call (C := fd_c56) (d0 := 0) (mid := 52) (np := 3) (args := [fd_I (if s < len then tx s else -1), fd_I 48, fd_I 57]) (r1 := some (fd_I (fd_bi (48 ≤ (if s < len then tx s else -1) ∧ (if s < len then tx s else -1) ≤ 57)))) (M1 := (fd_up (fd_up (fd_up K 199 11 ((s : Nat) : Int)) 199 12 ((s : Nat) : Int)) 199 14 0)) (st' := [fd_I (fd_bi (48 ≤ (if s < len then tx s else -1) ∧ (if s < len then tx s else -1) ≤ 57))]) rfl rfl rfl rfl rfl rfl (rfl) (fd_r_in (fd_up (fd_up (fd_up K 199 11 ((s : Nat) : Int)) 199 12 ((s : Nat) : Int)) 199 14 0) (if s < len then tx s else -1) 48 57 (by omega) (by omega) (by omega)) rfl (by omega) ?_
    refine fd_e_br (C := fd_c56) (t := 83) (e := 32) (st' := []) (c := (fd_bi (48 ≤ (if s < len then tx s else -1) ∧ (if s < len then tx s else -1) ≤ 57)) = 0) (b := (fd_rng (fd_bi (48 ≤ (if s < len then tx s else -1) ∧ (if s < len then tx s else -1) ≤ 57)))) rfl rfl rfl (fd_biR) (fun h31 => ?_) (fun h31 => ?_)
    · have h31 := fd_biF.mp h31
      refine fd_e_blk 9 (C := fd_c56) (b := true) (L' := [fd_R 199, fd_I (if s < len then tx s else -1)]) (st' := [fd_I 59, fd_I (if s < len then tx s else -1), fd_R 199]) (M' := (fd_up (fd_up (fd_up (fd_up K 199 11 ((s : Nat) : Int)) 199 12 ((s : Nat) : Int)) 199 14 0) 199 11 (((s + 1) : Nat) : Int))) rfl rfl (j := 92) rfl (rfl) ?_
      refine fd_e_br (C := fd_c56) (t := 95) (e := 93) (st' := [fd_R 199]) (c := ¬ (if s < len then tx s else -1) = 59) (b := (fd_rng (if s < len then tx s else -1) && fd_rng 59)) rfl rfl rfl (fd_bA (fd_bR (by omega) (by omega)) (fd_bR (by omega) (by omega))) (fun h92 => ?_) (fun h92 => ?_)
      · refine fd_e_blk 3 (C := fd_c56) (b := true) (L' := [fd_R 199, fd_I (if s < len then tx s else -1)]) (st' := [fd_I 122, fd_I 97, fd_I (if s < len then tx s else -1), fd_R 199]) (M' := (fd_up (fd_up (fd_up (fd_up K 199 11 ((s : Nat) : Int)) 199 12 ((s : Nat) : Int)) 199 14 0) 199 11 (((s + 1) : Nat) : Int))) rfl rfl (j := 98) rfl (rfl) ?_
        refine fd_e_call (C := fd_c56) (d0 := 0) (mid := 52) (np := 3) (args := [fd_I (if s < len then tx s else -1), fd_I 97, fd_I 122]) (r1 := some (fd_I (fd_bi (97 ≤ (if s < len then tx s else -1) ∧ (if s < len then tx s else -1) ≤ 122)))) (M1 := (fd_up (fd_up (fd_up (fd_up K 199 11 ((s : Nat) : Int)) 199 12 ((s : Nat) : Int)) 199 14 0) 199 11 (((s + 1) : Nat) : Int))) (st' := [fd_I (fd_bi (97 ≤ (if s < len then tx s else -1) ∧ (if s < len then tx s else -1) ≤ 122)), fd_R 199]) rfl rfl rfl rfl rfl rfl (rfl) (fd_r_in (fd_up (fd_up (fd_up (fd_up K 199 11 ((s : Nat) : Int)) 199 12 ((s : Nat) : Int)) 199 14 0) 199 11 (((s + 1) : Nat) : Int)) (if s < len then tx s else -1) 97 122 (by omega) (by omega) (by omega)) rfl (by omega) ?_
        refine fd_e_br (C := fd_c56) (t := 102) (e := 100) (st' := [fd_R 199]) (c := (fd_bi (97 ≤ (if s < len then tx s else -1) ∧ (if s < len then tx s else -1) ≤ 122)) = 0) (b := (fd_rng (fd_bi (97 ≤ (if s < len then tx s else -1) ∧ (if s < len then tx s else -1) ≤ 122)))) rfl rfl rfl (fd_biR) (fun h99 => ?_) (fun h99 => ?_)
        · have h99 := fd_biF.mp h99
          refine fd_e_blk 2 (C := fd_c56) (b := true) (L' := [fd_R 199, fd_I (if s < len then tx s else -1)]) (st' := []) (M' := (fd_up (fd_up (fd_up (fd_up (fd_up K 199 11 ((s : Nat) : Int)) 199 12 ((s : Nat) : Int)) 199 14 0) 199 11 (((s + 1) : Nat) : Int)) 199 13 4)) rfl rfl (j := 104) rfl (rfl) ?_
          refine fd_e_ret (C := fd_c56) (b := true) (r' := none) rfl rfl rfl (rfl) ?_
          have hsl : s < len := by
            apply Classical.byContradiction
            intro z
            rw [if_neg z] at h22
            omega
          have es : (if s < len then tx s else -1) = tx s := if_pos hsl
          rw [es] at h31 h92 h99
          refine ⟨rfl, ⟨?_, ?_, ?_, ?_, ?_⟩, tk_RA_tr (tk_RA_tr (tk_RA_tr (tk_RA_tr (tk_RA_up K (by decide) _) (tk_RA_up _ (by decide) _)) (tk_RA_up _ (by decide) _)) (tk_RA_up _ (by decide) _)) (tk_RA_up _ (by decide) _)⟩
          · rw [tk_nx, ← hs, if_neg (show ¬ len ≤ s by omega), if_neg h31]; rfl
          · rw [← hs]; rfl
          · rw [tk_kd, ← hs, if_neg (show ¬ len ≤ s by omega), if_neg h31, if_neg (show ¬ (97 ≤ tx s ∧ tx s ≤ 122) by omega), if_neg (show ¬ tx s = 59 by omega)]; rfl
          · intro q; rw [tk_kd, ← hs, if_neg (show ¬ len ≤ s by omega), if_neg h31, if_neg (show ¬ (97 ≤ tx s ∧ tx s ≤ 122) by omega), if_neg (show ¬ tx s = 59 by omega)] at q; cases q
          · show (0 : Int) ≤ 0 ∧ (0 : Int) ≤ 999; decide
        · have h99 := fd_biT.mp h99
          refine fd_e_blk 1 (C := fd_c56) (b := true) (L' := [fd_R 199, fd_I (if s < len then tx s else -1)]) (st' := [fd_I (if s < len then tx s else -1), fd_R 199]) (M' := (fd_up (fd_up (fd_up (fd_up K 199 11 ((s : Nat) : Int)) 199 12 ((s : Nat) : Int)) 199 14 0) 199 11 (((s + 1) : Nat) : Int))) rfl rfl (j := 101) rfl (rfl) ?_
          refine fd_e_jmp (C := fd_c56) (j := 103) (st' := [fd_I (if s < len then tx s else -1), fd_R 199]) rfl rfl (b := true) rfl rfl ?_
          refine fd_e_blk 1 (C := fd_c56) (b := true) (L' := [fd_R 199, fd_I (if s < len then tx s else -1)]) (st' := []) (M' := (fd_up (fd_up (fd_up (fd_up (fd_up K 199 11 ((s : Nat) : Int)) 199 12 ((s : Nat) : Int)) 199 14 0) 199 11 (((s + 1) : Nat) : Int)) 199 13 (if s < len then tx s else -1))) rfl rfl (j := 104) rfl (rfl) ?_
          refine fd_e_ret (C := fd_c56) (b := true) (r' := none) rfl rfl rfl (rfl) ?_
          have hsl : s < len := by
            apply Classical.byContradiction
            intro z
            rw [if_neg z] at h22
            omega
          have es : (if s < len then tx s else -1) = tx s := if_pos hsl
          rw [es] at h31 h92 h99
          refine ⟨rfl, ⟨?_, ?_, ?_, ?_, ?_⟩, tk_RA_tr (tk_RA_tr (tk_RA_tr (tk_RA_tr (tk_RA_up K (by decide) _) (tk_RA_up _ (by decide) _)) (tk_RA_up _ (by decide) _)) (tk_RA_up _ (by decide) _)) (tk_RA_up _ (by decide) _)⟩
          · rw [tk_nx, ← hs, if_neg (show ¬ len ≤ s by omega), if_neg h31]; rfl
          · rw [← hs]; rfl
          · rw [tk_kd, ← hs, if_neg (show ¬ len ≤ s by omega), if_neg h31, if_pos (show 97 ≤ tx s ∧ tx s ≤ 122 by omega)]; rw [tk_vl, ← hs, if_neg h31]; exact es
          · intro q; rw [tk_kd, ← hs, if_neg (show ¬ len ≤ s by omega), if_neg h31, if_pos (show 97 ≤ tx s ∧ tx s ≤ 122 by omega)] at q; cases q
          · show (0 : Int) ≤ 0 ∧ (0 : Int) ≤ 999; decide
      · refine fd_e_blk 1 (C := fd_c56) (b := true) (L' := [fd_R 199, fd_I (if s < len then tx s else -1)]) (st' := [fd_I 2, fd_R 199]) (M' := (fd_up (fd_up (fd_up (fd_up K 199 11 ((s : Nat) : Int)) 199 12 ((s : Nat) : Int)) 199 14 0) 199 11 (((s + 1) : Nat) : Int))) rfl rfl (j := 94) rfl (rfl) ?_
        refine fd_e_jmp (C := fd_c56) (j := 103) (st' := [fd_I 2, fd_R 199]) rfl rfl (b := true) rfl rfl ?_
        refine fd_e_blk 1 (C := fd_c56) (b := true) (L' := [fd_R 199, fd_I (if s < len then tx s else -1)]) (st' := []) (M' := (fd_up (fd_up (fd_up (fd_up (fd_up K 199 11 ((s : Nat) : Int)) 199 12 ((s : Nat) : Int)) 199 14 0) 199 11 (((s + 1) : Nat) : Int)) 199 13 2)) rfl rfl (j := 104) rfl (rfl) ?_
        refine fd_e_ret (C := fd_c56) (b := true) (r' := none) rfl rfl rfl (rfl) ?_
        have hsl : s < len := by
          apply Classical.byContradiction
          intro z
          rw [if_neg z] at h22
          omega
        have es : (if s < len then tx s else -1) = tx s := if_pos hsl
        rw [es] at h31 h92
        refine ⟨rfl, ⟨?_, ?_, ?_, ?_, ?_⟩, tk_RA_tr (tk_RA_tr (tk_RA_tr (tk_RA_tr (tk_RA_up K (by decide) _) (tk_RA_up _ (by decide) _)) (tk_RA_up _ (by decide) _)) (tk_RA_up _ (by decide) _)) (tk_RA_up _ (by decide) _)⟩
        · rw [tk_nx, ← hs, if_neg (show ¬ len ≤ s by omega), if_neg h31]; rfl
        · rw [← hs]; rfl
        · rw [tk_kd, ← hs, if_neg (show ¬ len ≤ s by omega), if_neg h31, if_neg (show ¬ (97 ≤ tx s ∧ tx s ≤ 122) by omega), if_pos (show tx s = 59 by omega)]; rfl
        · intro q; rw [tk_kd, ← hs, if_neg (show ¬ len ≤ s by omega), if_neg h31, if_neg (show ¬ (97 ≤ tx s ∧ tx s ≤ 122) by omega), if_pos (show tx s = 59 by omega)] at q; cases q
        · show (0 : Int) ≤ 0 ∧ (0 : Int) ≤ 999; decide
    · have h31 := fd_biT.mp h31
      have hsl : s < len := by
        apply Classical.byContradiction
        intro z
        rw [if_neg z] at h22
        omega
      have es : (if s < len then tx s else -1) = tx s := if_pos hsl
      rw [es]
      have e9 : (fd_up (fd_up (fd_up K 199 11 ((s : Nat) : Int)) 199 12 ((s : Nat) : Int)) 199 14 0) = fd_up (fd_up (fd_up (fd_up K 199 11 ((s : Nat) : Int)) 199 12 ((s : Nat) : Int)) 199 14 0) 199 11 ((s : Nat) : Int) := (fd_up_self (fd_up (fd_up (fd_up K 199 11 ((s : Nat) : Int)) 199 12 ((s : Nat) : Int)) 199 14 0) 199 11).symm
      rw [es] at h31
      rw [show (fd_up (fd_up (fd_up K 199 11 ((s : Nat) : Int)) 199 12 ((s : Nat) : Int)) 199 14 0) = fd_up (fd_up (fd_up (fd_up K 199 11 ((s : Nat) : Int)) 199 12 ((s : Nat) : Int)) 199 14 0) 199 11 ((s : Nat) : Int) from e9]
      have z := fd_y_num (fd_up (fd_up K 199 11 ((s : Nat) : Int)) 199 12 ((s : Nat) : Int)) (by have z := hx; exact z) s rfl hsl (len - s) s 0 0 (by omega) (Nat.le_refl _) (Or.inl ⟨by decide, rfl⟩) (by decide)
      obtain ⟨r, R, zr, y1, y2, y3, ⟨w2, y4, y5, y6⟩, y7⟩ := z
      refine ⟨r, R, zr, y1, ⟨?_, ?_, ?_, ?_, ?_⟩, ?_⟩
      · rw [y2, tk_nx, ← hs, if_neg (show ¬ len ≤ s by omega), if_pos h31]; rfl
      · rw [y3, ← hs]; rfl
      · rw [y6, tk_kd, ← hs, if_neg (show ¬ len ≤ s by omega), if_pos h31]
        have y8 : tk_VR (tk_ne tx len s).2 w2 := y5
        unfold tk_VR at y8
        by_cases hq : (tx s = 48 ∧ s + 1 < (tk_ne tx len s).1) ∨ 99 < (tk_ne tx len s).2
        · rw [if_pos hq]
          rw [if_pos (show (tx s = 48 ∧ s + 1 < (tk_nu tx (len - s) s 0).1) ∨ 99 < w2 from by rcases hq with hq | hq; exact Or.inl hq; right; omega)]; rfl
        · rw [if_neg hq]
          rw [if_neg (show ¬ ((tx s = 48 ∧ s + 1 < (tk_nu tx (len - s) s 0).1) ∨ 99 < w2) from fun hz => hq (by rcases hz with hz | hz; exact Or.inl hz; right; omega))]; rfl
      · intro hk
        rw [tk_kd, ← hs, if_neg (show ¬ len ≤ s by omega), if_pos h31] at hk
        have y8 : tk_VR (tk_ne tx len s).2 w2 := y5
        unfold tk_VR at y8
        rw [y4, tk_vl, ← hs, if_pos h31]
        by_cases hq : (tx s = 48 ∧ s + 1 < (tk_ne tx len s).1) ∨ 99 < (tk_ne tx len s).2
        · rw [if_pos hq] at hk; omega
        · omega
      · have y8 : tk_VR (tk_ne tx len s).2 w2 := y5
        have nr := tk_nu_rng tx (len - s) s 0 (by omega)
        unfold tk_VR at y8
        have nr2 : 0 ≤ (tk_ne tx len s).2 ∧ (tk_ne tx len s).2 ≤ 100 := nr.2
        rw [y4]; omega
      · exact tk_RA_tr (tk_RA_tr (tk_RA_up K (by decide) _) (tk_RA_up _ (by decide) _)) y7
  · refine fd_e_blk 3 (C := fd_c56) (b := true) (L' := [fd_R 199, fd_I (if s < len then tx s else -1)]) (st' := []) (M' := (fd_up (fd_up (fd_up (fd_up K 199 11 ((s : Nat) : Int)) 199 12 ((s : Nat) : Int)) 199 14 0) 199 13 3)) rfl rfl (j := 26) rfl (rfl) ?_
    refine fd_e_jmp (C := fd_c56) (j := 104) (st' := []) rfl rfl (b := true) rfl rfl ?_
    refine fd_e_ret (C := fd_c56) (b := true) (r' := none) rfl rfl rfl (rfl) ?_
    have hsl : ¬ s < len := fun z => by rw [if_pos z] at h22; omega
    refine ⟨rfl, ⟨?_, ?_, ?_, ?_, ?_⟩, tk_RA_tr (tk_RA_tr (tk_RA_tr (tk_RA_up K (by decide) _) (tk_RA_up _ (by decide) _)) (tk_RA_up _ (by decide) _)) (tk_RA_up _ (by decide) _)⟩
    · rw [tk_nx, ← hs, if_pos (show len ≤ s by omega)]; rfl
    · rw [← hs]; rfl
    · rw [tk_kd, ← hs, if_pos (show len ≤ s by omega)]; rfl
    · intro q; rw [tk_kd, ← hs, if_pos (show len ≤ s by omega)] at q; cases q
    · show (0 : Int) ≤ 0 ∧ (0 : Int) ≤ 999; decide

theorem fd_y_skip {tx : Nat → Int} {len : Nat} (K : fd_M) (hx : tk_TxR tx len K) (p : Nat) (u : fd_V) : ∀ (n : Nat) (q : Nat) (hp : q + n = len) (hq : tk_sp tx n q = tk_ls tx len p), fd_runE 1 56 0 [fd_R 199, u] [] (fd_up K 199 11 ((q : Nat) : Int)) (fun r R => r = none ∧ tk_TR tx len p R ∧ tk_RA K R) := by
  have l1 := hx.2.1
  intro n
  induction n with
  | zero =>
    intro q hp hq
    have xq := hx.2.2.1 q
    refine fd_e_blk 1 (C := fd_c56) (b := true) (L' := [fd_R 199, u]) (st' := [fd_R 199]) (M' := (fd_up K 199 11 ((q : Nat) : Int))) rfl rfl (j := 1) rfl (rfl) ?_
    refine fd_e_call (C := fd_c56) (d0 := 0) (mid := 55) (np := 1) (args := [fd_R 199]) (r1 := some (fd_I (if q < len then tx q else -1))) (M1 := (fd_up K 199 11 ((q : Nat) : Int))) (st' := [fd_I (if q < len then tx q else -1)]) rfl rfl rfl rfl rfl rfl (rfl) (fd_y_here (fd_up K 199 11 ((q : Nat) : Int)) (by have z := hx; exact z) q rfl (by omega)) rfl (by omega) ?_
    have hr2 : -1 ≤ (if q < len then tx q else -1) ∧ (if q < len then tx q else -1) ≤ 255 := by split <;> omega
    refine fd_e_blk 1 (C := fd_c56) (b := true) (L' := [fd_R 199, u]) (st' := [fd_I 32, fd_I (if q < len then tx q else -1)]) (M' := (fd_up K 199 11 ((q : Nat) : Int))) rfl rfl (j := 3) rfl (rfl) ?_
    refine fd_e_br (C := fd_c56) (t := 11) (e := 4) (st' := []) (c := ¬ (if q < len then tx q else -1) = 32) (b := (fd_rng (if q < len then tx q else -1) && fd_rng 32)) rfl rfl rfl (fd_bA (fd_bR (by omega) (by omega)) (fd_bR (by omega) (by omega))) (fun h3 => ?_) (fun h3 => absurd h3 (by rw [if_neg (show ¬ q < len by omega)]; decide))
    refine fd_y_step11 K hx p q ?_ (by omega) _
    rw [← hq]
    rfl
  | succ n ih =>
    intro q hp hq
    have xq := hx.2.2.1 q
    refine fd_e_blk 1 (C := fd_c56) (b := true) (L' := [fd_R 199, u]) (st' := [fd_R 199]) (M' := (fd_up K 199 11 ((q : Nat) : Int))) rfl rfl (j := 1) rfl (rfl) ?_
    refine fd_e_call (C := fd_c56) (d0 := 0) (mid := 55) (np := 1) (args := [fd_R 199]) (r1 := some (fd_I (if q < len then tx q else -1))) (M1 := (fd_up K 199 11 ((q : Nat) : Int))) (st' := [fd_I (if q < len then tx q else -1)]) rfl rfl rfl rfl rfl rfl (rfl) (fd_y_here (fd_up K 199 11 ((q : Nat) : Int)) (by have z := hx; exact z) q rfl (by omega)) rfl (by omega) ?_
    have hr2 : -1 ≤ (if q < len then tx q else -1) ∧ (if q < len then tx q else -1) ≤ 255 := by split <;> omega
    refine fd_e_blk 1 (C := fd_c56) (b := true) (L' := [fd_R 199, u]) (st' := [fd_I 32, fd_I (if q < len then tx q else -1)]) (M' := (fd_up K 199 11 ((q : Nat) : Int))) rfl rfl (j := 3) rfl (rfl) ?_
    refine fd_e_br (C := fd_c56) (t := 11) (e := 4) (st' := []) (c := ¬ (if q < len then tx q else -1) = 32) (b := (fd_rng (if q < len then tx q else -1) && fd_rng 32)) rfl rfl rfl (fd_bA (fd_bR (by omega) (by omega)) (fd_bR (by omega) (by omega))) (fun h3 => ?_) (fun h3 => ?_)
    · refine fd_y_step11 K hx p q ?_ (by omega) _
      rw [← hq]
      exact (tk_sp_off (fun z => h3 (by rw [if_pos (show q < len by omega)]; exact z))).symm
    · refine fd_e_blk 6 (C := fd_c56) (b := true) (L' := [fd_R 199, u]) (st' := []) (M' := (fd_up (fd_up K 199 11 ((q : Nat) : Int)) 199 11 (((q + 1) : Nat) : Int))) rfl rfl (j := 10) rfl (rfl) ?_
      refine fd_e_jmp (C := fd_c56) (j := 0) (st' := []) rfl rfl (b := true) rfl rfl ?_
      rw [fd_up_up]
      exact ih (q + 1) (by omega) (by rw [← hq]; exact (tk_sp_on (by rw [if_pos (show q < len by omega)] at h3; exact Classical.not_not.mp h3)).symm)

theorem fd_y_step {tx : Nat → Int} {len : Nat} (K : fd_M) (hx : tk_TxR tx len K) {p : Nat} (hp : K 199 11 = (p : Int)) (hpl : p ≤ len) : ∃ R, fd_call 1 56 [fd_R 199] K none R ∧ tk_TR tx len p R ∧ tk_RA K R := by
  have z := fd_y_skip K hx p (fd_R 1003) (len - p) p (by omega) rfl
  rw [← hp, fd_up_self] at z
  obtain ⟨r, R, c, e, h⟩ := z
  subst e
  exact ⟨R, fd_u_in (L := [fd_R 199, fd_R 1003]) rfl c, h⟩

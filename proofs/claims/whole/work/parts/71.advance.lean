/-! the class: the next token -/
theorem tk_sp_on {tx : Nat → Int} {n p : Nat} (h : tx p = 32) : tk_sp tx (n + 1) p = tk_sp tx n (p + 1) := by
  rw [tk_sp, if_pos h]
theorem tk_sp_off {tx : Nat → Int} {n p : Nat} (h : ¬ tx p = 32) : tk_sp tx (n + 1) p = p := by
  rw [tk_sp, if_neg h]
theorem tk_FA_rf (M : fd_M) : tk_FA M M := ⟨fun _ _ => rfl, fun _ _ => rfl⟩
theorem tk_FA_tr {M N K : fd_M} (h : tk_FA M N) (h2 : tk_FA N K) : tk_FA M K := ⟨fun c hc => (h2.1 c hc).trans (h.1 c hc), fun k hk => (h2.2 k hk).trans (h.2 k hk)⟩
theorem tk_FA_up (M : fd_M) {k : Nat} (h : k < 6) (v : Int) : tk_FA M (fd_up M 13 k v) := ⟨fun c hc => fd_up_ne hc, fun j hj => by rw [fd_up_at, if_neg (by omega)]⟩
theorem tk_XG_FA {M R : fd_M} (hX : tk_XG M) (h : tk_FA M R) : tk_XG R := by
  unfold tk_XG
  rw [h.1 1 (by decide), h.1 2 (by decide)]
  exact hX

theorem fd_q_over (M : fd_M) (hX : tk_XG M) (s : Nat) (hs2 : M 13 2 = (s : Int)) (hs : M 13 3 = (s : Int)) (hsl : (s : Int) < M 1 1) : fd_callE 1 130 [fd_R 13] M (fun r R => r = none ∧ R 13 2 = ((tk_ne (M 2) (M 1 1).toNat s).1 : Int) ∧ R 13 5 = (tk_ne (M 2) (M 1 1).toNat s).2 ∧ R 13 3 = (s : Int) ∧ R 13 4 = (if (M 2 s = 48 ∧ s + 1 < (tk_ne (M 2) (M 1 1).toNat s).1) ∨ 99 < (tk_ne (M 2) (M 1 1).toNat s).2 then 4 else 2) ∧ tk_FA M R) := by
  refine fd_e_in (L := [fd_R 13, fd_R 1003]) rfl ?_
  obtain ⟨x1, x2⟩ := id hX
  refine fd_e_blk 3 (C := fd_c130) (b := true) (L' := [fd_R 13, fd_R 1003]) (st' := []) (M' := (fd_up M 13 5 0)) rfl rfl (j := 3) rfl (rfl) ?_
  have e2 : fd_up M 13 5 0 = fd_up (fd_up M 13 5 0) 13 2 ((s : Nat) : Int) := by
    have e3 : fd_up M 13 5 0 13 2 = ((s : Nat) : Int) := hs2
    rw [← e3, fd_up_self]
  rw [e2]
  have z := fd_q_num M hX s hs hsl ((M 1 1).toNat - s) s 0 (fd_R 1003) (by omega) (Nat.le_refl _) (by omega)
  obtain ⟨r, R, zr, e4, e5, e6, e7, e8, e9⟩ := z
  exact ⟨r, R, zr, e4, e5, e6, e7.trans hs, e8, e9⟩

theorem fd_q_adv20 (M : fd_M) (hX : tk_XG M) (p s : Nat) (hs : s = tk_ls (M 2) (M 1 1).toNat p) (hsl : (s : Int) ≤ M 1 1) (u : fd_V) : fd_runE 2 129 20 [fd_R 13, u] [] (fd_up M 13 2 ((s : Nat) : Int)) (fun r R => r = none ∧ tk_TC (M 2) (M 1 1).toNat p R ∧ tk_FA M R) := by
  obtain ⟨x1, x2⟩ := id hX
  refine fd_e_blk 9 (C := fd_c129) (b := true) (L' := [fd_R 13, u]) (st' := [fd_I (M 1 1), fd_I ((s : Nat) : Int)]) (M' := (fd_up (fd_up M 13 2 ((s : Nat) : Int)) 13 3 ((s : Nat) : Int))) rfl rfl (j := 29) rfl (rfl) ?_
  refine fd_e_br (C := fd_c129) (t := 34) (e := 30) (st' := []) (c := ((s : Nat) : Int) < (M 1 1)) (b := (fd_rng ((s : Nat) : Int) && fd_rng (M 1 1))) rfl rfl rfl (fd_bA (fd_bR (by omega) (by omega)) (fd_bR (by omega) (by omega))) (fun h29 => ?_) (fun h29 => ?_)
  · refine fd_e_blk 4 (C := fd_c129) (b := true) (L' := [fd_R 13, u]) (st' := [fd_I ((s : Nat) : Int), fd_R 1]) (M' := (fd_up (fd_up M 13 2 ((s : Nat) : Int)) 13 3 ((s : Nat) : Int))) rfl rfl (j := 38) rfl (rfl) ?_
    refine fd_e_call (C := fd_c129) (d0 := 0) (mid := 165) (np := 2) (args := [fd_R 1, fd_I ((s : Nat) : Int)]) (r1 := some (fd_I (M 2 s))) (M1 := (fd_up (fd_up M 13 2 ((s : Nat) : Int)) 13 3 ((s : Nat) : Int))) (st' := [fd_I (M 2 s)]) rfl rfl rfl rfl rfl rfl (rfl) (fd_q_byte (N := (fd_up (fd_up M 13 2 ((s : Nat) : Int)) 13 3 ((s : Nat) : Int))) hX rfl rfl s (by omega)) rfl (by omega) ?_
    have xb5 := hX.2 s
    refine fd_e_blk 2 (C := fd_c129) (b := true) (L' := [fd_R 13, fd_I (M 2 s)]) (st' := [fd_I (M 2 s)]) (M' := (fd_up (fd_up M 13 2 ((s : Nat) : Int)) 13 3 ((s : Nat) : Int))) rfl rfl (j := 41) rfl (rfl) ?_
    refine fd_e_call (C := fd_c129) (d0 := 0) (mid := 131) (np := 1) (args := [fd_I (M 2 s)]) (r1 := some (fd_I (fd_bi (48 ≤ (M 2 s) ∧ (M 2 s) ≤ 57)))) (M1 := (fd_up (fd_up M 13 2 ((s : Nat) : Int)) 13 3 ((s : Nat) : Int))) (st' := [fd_I (fd_bi (48 ≤ (M 2 s) ∧ (M 2 s) ≤ 57))]) rfl rfl rfl rfl rfl rfl (rfl) (fd_q_isDigit (fd_up (fd_up M 13 2 ((s : Nat) : Int)) 13 3 ((s : Nat) : Int)) (M 2 s) (by omega)) rfl (by omega) ?_
    refine fd_e_br (C := fd_c129) (t := 46) (e := 43) (st' := []) (c := (fd_bi (48 ≤ (M 2 s) ∧ (M 2 s) ≤ 57)) = 0) (b := (fd_rng (fd_bi (48 ≤ (M 2 s) ∧ (M 2 s) ≤ 57)))) rfl rfl rfl (fd_biR) (fun h42 => ?_) (fun h42 => ?_)
    · have h42 := fd_biF.mp h42
      refine fd_e_blk 11 (C := fd_c129) (b := true) (L' := [fd_R 13, fd_I (M 2 s)]) (st' := [fd_I 97, fd_I (M 2 s)]) (M' := (fd_up (fd_up (fd_up (fd_up M 13 2 ((s : Nat) : Int)) 13 3 ((s : Nat) : Int)) 13 2 (((s + 1) : Nat) : Int)) 13 5 (M 2 s))) rfl rfl (j := 57) rfl (rfl) ?_
      refine fd_e_br (C := fd_c129) (t := 65) (e := 58) (st' := []) (c := (M 2 s) < 97) (b := (fd_rng (M 2 s) && fd_rng 97)) rfl rfl rfl (fd_bA (fd_bR (by omega) (by omega)) (fd_bR (by omega) (by omega))) (fun h57 => ?_) (fun h57 => ?_)
      · refine fd_e_blk 3 (C := fd_c129) (b := true) (L' := [fd_R 13, fd_I (M 2 s)]) (st' := [fd_I 59, fd_I (M 2 s), fd_R 13]) (M' := (fd_up (fd_up (fd_up (fd_up M 13 2 ((s : Nat) : Int)) 13 3 ((s : Nat) : Int)) 13 2 (((s + 1) : Nat) : Int)) 13 5 (M 2 s))) rfl rfl (j := 68) rfl (rfl) ?_
        refine fd_e_br (C := fd_c129) (t := 71) (e := 69) (st' := [fd_R 13]) (c := ¬ (M 2 s) = 59) (b := (fd_rng (M 2 s) && fd_rng 59)) rfl rfl rfl (fd_bA (fd_bR (by omega) (by omega)) (fd_bR (by omega) (by omega))) (fun h68 => ?_) (fun h68 => ?_)
        · refine fd_e_blk 2 (C := fd_c129) (b := true) (L' := [fd_R 13, fd_I (M 2 s)]) (st' := []) (M' := (fd_up (fd_up (fd_up (fd_up (fd_up M 13 2 ((s : Nat) : Int)) 13 3 ((s : Nat) : Int)) 13 2 (((s + 1) : Nat) : Int)) 13 5 (M 2 s)) 13 4 4)) rfl rfl (j := 73) rfl (rfl) ?_
          refine fd_e_ret (C := fd_c129) (b := true) (r' := none) rfl rfl rfl (rfl) ?_
          refine ⟨rfl, ⟨?_, ?_, ?_, ?_⟩, ?_⟩
          · rw [tk_nx, ← hs, if_neg (by omega), if_neg h42]; rfl
          · rw [← hs]; rfl
          · rw [tk_kd, ← hs, if_neg (by omega), if_neg h42, if_neg (show ¬ (97 ≤ M 2 s ∧ M 2 s ≤ 122) by omega), if_neg (show ¬ M 2 s = 59 by omega)]; rfl
          · intro _; rw [tk_vl, ← hs, if_neg h42]; rfl
          · exact tk_FA_tr (tk_FA_tr (tk_FA_tr (tk_FA_tr (tk_FA_up M (by decide) _) (tk_FA_up _ (by decide) _)) (tk_FA_up _ (by decide) _)) (tk_FA_up _ (by decide) _)) (tk_FA_up _ (by decide) _)
        · refine fd_e_blk 1 (C := fd_c129) (b := true) (L' := [fd_R 13, fd_I (M 2 s)]) (st' := [fd_I 3, fd_R 13]) (M' := (fd_up (fd_up (fd_up (fd_up M 13 2 ((s : Nat) : Int)) 13 3 ((s : Nat) : Int)) 13 2 (((s + 1) : Nat) : Int)) 13 5 (M 2 s))) rfl rfl (j := 70) rfl (rfl) ?_
          refine fd_e_jmp (C := fd_c129) (j := 72) (st' := [fd_I 3, fd_R 13]) rfl rfl (b := true) rfl rfl ?_
          refine fd_e_blk 1 (C := fd_c129) (b := true) (L' := [fd_R 13, fd_I (M 2 s)]) (st' := []) (M' := (fd_up (fd_up (fd_up (fd_up (fd_up M 13 2 ((s : Nat) : Int)) 13 3 ((s : Nat) : Int)) 13 2 (((s + 1) : Nat) : Int)) 13 5 (M 2 s)) 13 4 3)) rfl rfl (j := 73) rfl (rfl) ?_
          refine fd_e_ret (C := fd_c129) (b := true) (r' := none) rfl rfl rfl (rfl) ?_
          refine ⟨rfl, ⟨?_, ?_, ?_, ?_⟩, ?_⟩
          · rw [tk_nx, ← hs, if_neg (by omega), if_neg h42]; rfl
          · rw [← hs]; rfl
          · rw [tk_kd, ← hs, if_neg (by omega), if_neg h42, if_neg (show ¬ (97 ≤ M 2 s ∧ M 2 s ≤ 122) by omega), if_pos (show M 2 s = 59 by omega)]; rfl
          · intro _; rw [tk_vl, ← hs, if_neg h42]; rfl
          · exact tk_FA_tr (tk_FA_tr (tk_FA_tr (tk_FA_tr (tk_FA_up M (by decide) _) (tk_FA_up _ (by decide) _)) (tk_FA_up _ (by decide) _)) (tk_FA_up _ (by decide) _)) (tk_FA_up _ (by decide) _)
      · refine fd_e_blk 2 (C := fd_c129) (b := true) (L' := [fd_R 13, fd_I (M 2 s)]) (st' := [fd_I 122, fd_I (M 2 s)]) (M' := (fd_up (fd_up (fd_up (fd_up M 13 2 ((s : Nat) : Int)) 13 3 ((s : Nat) : Int)) 13 2 (((s + 1) : Nat) : Int)) 13 5 (M 2 s))) rfl rfl (j := 60) rfl (rfl) ?_
        refine fd_e_br (C := fd_c129) (t := 65) (e := 61) (st' := []) (c := 122 < (M 2 s)) (b := (fd_rng (M 2 s) && fd_rng 122)) rfl rfl rfl (fd_bA (fd_bR (by omega) (by omega)) (fd_bR (by omega) (by omega))) (fun h60 => ?_) (fun h60 => ?_)
        · refine fd_e_blk 3 (C := fd_c129) (b := true) (L' := [fd_R 13, fd_I (M 2 s)]) (st' := [fd_I 59, fd_I (M 2 s), fd_R 13]) (M' := (fd_up (fd_up (fd_up (fd_up M 13 2 ((s : Nat) : Int)) 13 3 ((s : Nat) : Int)) 13 2 (((s + 1) : Nat) : Int)) 13 5 (M 2 s))) rfl rfl (j := 68) rfl (rfl) ?_
          refine fd_e_br (C := fd_c129) (t := 71) (e := 69) (st' := [fd_R 13]) (c := ¬ (M 2 s) = 59) (b := (fd_rng (M 2 s) && fd_rng 59)) rfl rfl rfl (fd_bA (fd_bR (by omega) (by omega)) (fd_bR (by omega) (by omega))) (fun h68 => ?_) (fun h68 => ?_)
          · refine fd_e_blk 2 (C := fd_c129) (b := true) (L' := [fd_R 13, fd_I (M 2 s)]) (st' := []) (M' := (fd_up (fd_up (fd_up (fd_up (fd_up M 13 2 ((s : Nat) : Int)) 13 3 ((s : Nat) : Int)) 13 2 (((s + 1) : Nat) : Int)) 13 5 (M 2 s)) 13 4 4)) rfl rfl (j := 73) rfl (rfl) ?_
            refine fd_e_ret (C := fd_c129) (b := true) (r' := none) rfl rfl rfl (rfl) ?_
            refine ⟨rfl, ⟨?_, ?_, ?_, ?_⟩, ?_⟩
            · rw [tk_nx, ← hs, if_neg (by omega), if_neg h42]; rfl
            · rw [← hs]; rfl
            · rw [tk_kd, ← hs, if_neg (by omega), if_neg h42, if_neg (show ¬ (97 ≤ M 2 s ∧ M 2 s ≤ 122) by omega), if_neg (show ¬ M 2 s = 59 by omega)]; rfl
            · intro _; rw [tk_vl, ← hs, if_neg h42]; rfl
            · exact tk_FA_tr (tk_FA_tr (tk_FA_tr (tk_FA_tr (tk_FA_up M (by decide) _) (tk_FA_up _ (by decide) _)) (tk_FA_up _ (by decide) _)) (tk_FA_up _ (by decide) _)) (tk_FA_up _ (by decide) _)
          · refine fd_e_blk 1 (C := fd_c129) (b := true) (L' := [fd_R 13, fd_I (M 2 s)]) (st' := [fd_I 3, fd_R 13]) (M' := (fd_up (fd_up (fd_up (fd_up M 13 2 ((s : Nat) : Int)) 13 3 ((s : Nat) : Int)) 13 2 (((s + 1) : Nat) : Int)) 13 5 (M 2 s))) rfl rfl (j := 70) rfl (rfl) ?_
            refine fd_e_jmp (C := fd_c129) (j := 72) (st' := [fd_I 3, fd_R 13]) rfl rfl (b := true) rfl rfl ?_
            refine fd_e_blk 1 (C := fd_c129) (b := true) (L' := [fd_R 13, fd_I (M 2 s)]) (st' := []) (M' := (fd_up (fd_up (fd_up (fd_up (fd_up M 13 2 ((s : Nat) : Int)) 13 3 ((s : Nat) : Int)) 13 2 (((s + 1) : Nat) : Int)) 13 5 (M 2 s)) 13 4 3)) rfl rfl (j := 73) rfl (rfl) ?_
            refine fd_e_ret (C := fd_c129) (b := true) (r' := none) rfl rfl rfl (rfl) ?_
            refine ⟨rfl, ⟨?_, ?_, ?_, ?_⟩, ?_⟩
            · rw [tk_nx, ← hs, if_neg (by omega), if_neg h42]; rfl
            · rw [← hs]; rfl
            · rw [tk_kd, ← hs, if_neg (by omega), if_neg h42, if_neg (show ¬ (97 ≤ M 2 s ∧ M 2 s ≤ 122) by omega), if_pos (show M 2 s = 59 by omega)]; rfl
            · intro _; rw [tk_vl, ← hs, if_neg h42]; rfl
            · exact tk_FA_tr (tk_FA_tr (tk_FA_tr (tk_FA_tr (tk_FA_up M (by decide) _) (tk_FA_up _ (by decide) _)) (tk_FA_up _ (by decide) _)) (tk_FA_up _ (by decide) _)) (tk_FA_up _ (by decide) _)
        · refine fd_e_blk 3 (C := fd_c129) (b := true) (L' := [fd_R 13, fd_I (M 2 s)]) (st' := []) (M' := (fd_up (fd_up (fd_up (fd_up (fd_up M 13 2 ((s : Nat) : Int)) 13 3 ((s : Nat) : Int)) 13 2 (((s + 1) : Nat) : Int)) 13 5 (M 2 s)) 13 4 1)) rfl rfl (j := 64) rfl (rfl) ?_
          refine fd_e_jmp (C := fd_c129) (j := 73) (st' := []) rfl rfl (b := true) rfl rfl ?_
          refine fd_e_ret (C := fd_c129) (b := true) (r' := none) rfl rfl rfl (rfl) ?_
          refine ⟨rfl, ⟨?_, ?_, ?_, ?_⟩, ?_⟩
          · rw [tk_nx, ← hs, if_neg (by omega), if_neg h42]; rfl
          · rw [← hs]; rfl
          · rw [tk_kd, ← hs, if_neg (by omega), if_neg h42, if_pos (show 97 ≤ M 2 s ∧ M 2 s ≤ 122 by omega)]; rfl
          · intro _; rw [tk_vl, ← hs, if_neg h42]; rfl
          · exact tk_FA_tr (tk_FA_tr (tk_FA_tr (tk_FA_tr (tk_FA_up M (by decide) _) (tk_FA_up _ (by decide) _)) (tk_FA_up _ (by decide) _)) (tk_FA_up _ (by decide) _)) (tk_FA_up _ (by decide) _)
    · have h42 := fd_biT.mp h42
      refine fd_e_blk 1 (C := fd_c129) (b := true) (L' := [fd_R 13, fd_I (M 2 s)]) (st' := [fd_R 13]) (M' := (fd_up (fd_up M 13 2 ((s : Nat) : Int)) 13 3 ((s : Nat) : Int))) rfl rfl (j := 44) rfl (rfl) ?_
      obtain ⟨r9, R9, c9, e9, n1, n2, n3, n4, n5⟩ := fd_q_over (fd_up (fd_up M 13 2 ((s : Nat) : Int)) 13 3 ((s : Nat) : Int)) hX s rfl rfl (by show (s : Int) < M 1 1; omega)
      subst e9
      refine fd_e_call (C := fd_c129) (d0 := 1) (mid := 130) (np := 1) (args := [fd_R 13]) (r1 := none) (M1 := R9) (st' := []) rfl rfl rfl rfl rfl rfl (rfl) (c9) rfl (by omega) ?_
      refine fd_e_ret (C := fd_c129) (b := true) (r' := none) rfl rfl rfl (rfl) ?_
      refine ⟨rfl, ⟨?_, ?_, ?_, ?_⟩, ?_⟩
      · rw [n1, tk_nx, ← hs, if_neg (by omega), if_pos h42]; rfl
      · rw [n3, hs]
      · exact n4.trans (by rw [tk_kd, ← hs, if_neg (show ¬ (M 1 1).toNat ≤ s by omega), if_pos h42]; rfl)
      · intro _; rw [n2, tk_vl, ← hs, if_pos h42]; rfl
      · exact tk_FA_tr (tk_FA_tr (tk_FA_up M (by decide) _) (tk_FA_up _ (by decide) _)) n5
  · refine fd_e_blk 3 (C := fd_c129) (b := true) (L' := [fd_R 13, u]) (st' := []) (M' := (fd_up (fd_up (fd_up M 13 2 ((s : Nat) : Int)) 13 3 ((s : Nat) : Int)) 13 4 0)) rfl rfl (j := 33) rfl (rfl) ?_
    refine fd_e_ret (C := fd_c129) (b := true) (r' := none) rfl rfl rfl (rfl) ?_
    refine ⟨rfl, ⟨?_, ?_, ?_, ?_⟩, ?_⟩
    · rw [tk_nx, ← hs, if_pos (by omega)]; rfl
    · rw [← hs]; rfl
    · rw [tk_kd, ← hs, if_pos (by omega)]; rfl
    · intro q; exfalso; apply q; rw [tk_kd, ← hs, if_pos (by omega)]
    · exact tk_FA_tr (tk_FA_tr (tk_FA_up M (by decide) _) (tk_FA_up _ (by decide) _)) (tk_FA_up _ (by decide) _)

theorem fd_q_skip (M : fd_M) (hX : tk_XG M) (p : Nat) : ∀ (n : Nat) (q : Nat) (u : fd_V) (hp : (q : Int) + n = M 1 1) (hq : tk_sp (M 2) n q = tk_ls (M 2) (M 1 1).toNat p), fd_runE 2 129 0 [fd_R 13, u] [] (fd_up M 13 2 ((q : Nat) : Int)) (fun r R => r = none ∧ tk_TC (M 2) (M 1 1).toNat p R ∧ tk_FA M R) := by
  obtain ⟨x1, x2⟩ := id hX
  intro n
  induction n with
  | zero =>
    intro q u hp hq
    refine fd_e_blk 5 (C := fd_c129) (b := true) (L' := [fd_R 13, u]) (st' := [fd_I (M 1 1), fd_I ((q : Nat) : Int)]) (M' := (fd_up M 13 2 ((q : Nat) : Int))) rfl rfl (j := 5) rfl (rfl) ?_
    refine fd_e_br (C := fd_c129) (t := 20) (e := 6) (st' := []) (c := (M 1 1) ≤ ((q : Nat) : Int)) (b := (fd_rng ((q : Nat) : Int) && fd_rng (M 1 1))) rfl rfl rfl (fd_bA (fd_bR (by omega) (by omega)) (fd_bR (by omega) (by omega))) (fun h5 => ?_) (fun h5 => absurd h5 (by omega))
    refine fd_q_adv20 M hX p q ?_ (by omega) _
    rw [← hq]
    exact (show tk_sp (M 2) 0 q = q from rfl).symm
  | succ n ih =>
    intro q u hp hq
    refine fd_e_blk 5 (C := fd_c129) (b := true) (L' := [fd_R 13, u]) (st' := [fd_I (M 1 1), fd_I ((q : Nat) : Int)]) (M' := (fd_up M 13 2 ((q : Nat) : Int))) rfl rfl (j := 5) rfl (rfl) ?_
    refine fd_e_br (C := fd_c129) (t := 20) (e := 6) (st' := []) (c := (M 1 1) ≤ ((q : Nat) : Int)) (b := (fd_rng ((q : Nat) : Int) && fd_rng (M 1 1))) rfl rfl rfl (fd_bA (fd_bR (by omega) (by omega)) (fd_bR (by omega) (by omega))) (fun h5 => absurd h5 (by omega)) (fun h5 => ?_)
    refine fd_e_blk 4 (C := fd_c129) (b := true) (L' := [fd_R 13, u]) (st' := [fd_I ((q : Nat) : Int), fd_R 1]) (M' := (fd_up M 13 2 ((q : Nat) : Int))) rfl rfl (j := 10) rfl (rfl) ?_
    refine fd_e_call (C := fd_c129) (d0 := 0) (mid := 165) (np := 2) (args := [fd_R 1, fd_I ((q : Nat) : Int)]) (r1 := some (fd_I (M 2 q))) (M1 := (fd_up M 13 2 ((q : Nat) : Int))) (st' := [fd_I (M 2 q)]) rfl rfl rfl rfl rfl rfl (rfl) (fd_q_byte (N := (fd_up M 13 2 ((q : Nat) : Int))) hX rfl rfl q (by omega)) rfl (by omega) ?_
    have xb5 := hX.2 q
    refine fd_e_blk 1 (C := fd_c129) (b := true) (L' := [fd_R 13, u]) (st' := [fd_I 32, fd_I (M 2 q)]) (M' := (fd_up M 13 2 ((q : Nat) : Int))) rfl rfl (j := 12) rfl (rfl) ?_
    refine fd_e_br (C := fd_c129) (t := 20) (e := 13) (st' := []) (c := ¬ (M 2 q) = 32) (b := (fd_rng (M 2 q) && fd_rng 32)) rfl rfl rfl (fd_bA (fd_bR (by omega) (by omega)) (fd_bR (by omega) (by omega))) (fun h12 => ?_) (fun h12 => ?_)
    · refine fd_q_adv20 M hX p q ?_ (by omega) _
      rw [← hq]
      exact (tk_sp_off (n := n) h12).symm
    · refine fd_e_blk 6 (C := fd_c129) (b := true) (L' := [fd_R 13, u]) (st' := []) (M' := (fd_up (fd_up M 13 2 ((q : Nat) : Int)) 13 2 (((q + 1) : Nat) : Int))) rfl rfl (j := 19) rfl (rfl) ?_
      refine fd_e_jmp (C := fd_c129) (j := 0) (st' := []) rfl rfl (b := true) rfl rfl ?_
      rw [fd_up_up]
      exact ih (q + 1) u (by omega) (by rw [← hq]; exact (tk_sp_on (Classical.not_not.mp h12)).symm)

theorem fd_q_advance (M : fd_M) (hX : tk_XG M) (p : Nat) (hp : M 13 2 = (p : Int)) (hpl : (p : Int) ≤ M 1 1) : fd_callE 2 129 [fd_R 13] M (fun r R => r = none ∧ tk_TC (M 2) (M 1 1).toNat p R ∧ tk_FA M R) := by
  refine fd_e_in (L := [fd_R 13, fd_R 1003]) rfl ?_
  have z := fd_q_skip M hX p ((M 1 1).toNat - p) p (fd_R 1003) (by omega) rfl
  rw [← hp, fd_up_self] at z
  exact z

/-! the reference: what is due -/
theorem tk_kd1 {tx : Nat → Int} {len p : Nat} (h : tk_kd tx len p = 1) : 97 ≤ tk_vl tx len p ∧ tk_vl tx len p ≤ 122 := by
  unfold tk_kd at h
  unfold tk_vl
  by_cases h1 : len ≤ tk_ls tx len p
  · rw [if_pos h1] at h; cases h
  · rw [if_neg h1] at h
    by_cases h2 : 48 ≤ tx (tk_ls tx len p) ∧ tx (tk_ls tx len p) ≤ 57
    · rw [if_pos h2] at h
      split at h <;> cases h
    · rw [if_neg h2] at h ⊢
      by_cases h3 : 97 ≤ tx (tk_ls tx len p) ∧ tx (tk_ls tx len p) ≤ 122
      · exact h3
      · rw [if_neg h3] at h
        split at h <;> cases h
theorem tk_rs_f (tx : Nat → Int) (len p : Nat) : (1 ≤ tk_rs (tk_kd tx len p) (tk_vl tx len p) ∧ tk_rs (tk_kd tx len p) (tk_vl tx len p) ≤ 122) ∧ (tk_rs (tk_kd tx len p) (tk_vl tx len p) = 1 ↔ tk_kd tx len p = 2) ∧ (tk_rs (tk_kd tx len p) (tk_vl tx len p) = 2 ↔ tk_kd tx len p = 3) ∧ (tk_rs (tk_kd tx len p) (tk_vl tx len p) = 3 ↔ tk_kd tx len p = 0) ∧ (tk_kd tx len p = 1 → tk_rs (tk_kd tx len p) (tk_vl tx len p) = tk_vl tx len p) ∧ (¬ tk_kd tx len p = 1 → tk_rs (tk_kd tx len p) (tk_vl tx len p) ≤ 4) := by
  have k := tk_kd_rng tx len p
  by_cases h1 : tk_kd tx len p = 1
  · have v := tk_kd1 h1
    unfold tk_rs
    rw [if_pos h1]
    omega
  · unfold tk_rs
    rw [if_neg h1]
    by_cases h2 : tk_kd tx len p = 2
    · rw [if_pos h2]; omega
    · rw [if_neg h2]
      by_cases h3 : tk_kd tx len p = 3
      · rw [if_pos h3]; omega
      · rw [if_neg h3]
        by_cases h4 : tk_kd tx len p = 0
        · rw [if_pos h4]; omega
        · rw [if_neg h4]; omega
theorem fd_y_due1 {tx : Nat → Int} {len : Nat} (K : fd_M) (hx : tk_TxR tx len K) (p : Nat) (hp : p ≤ len) (hT : tk_TR tx len p K) (hf : K 199 15 = -9) : fd_callE 2 57 [fd_R 199, fd_I 1] K (fun r R => r = some (fd_I (K 199 14)) ∧ tk_TR tx len (tk_nx tx len p) R ∧ tk_RA K R) := by
  refine fd_e_in (L := [fd_R 199, fd_I 1, fd_R 1003]) rfl ?_
  obtain ⟨ta, tb, tc, td, te⟩ := id hT
  refine fd_e_blk 6 (C := fd_c57) (b := true) (L' := [fd_R 199, fd_I 1, fd_I (K 199 14)]) (st' := [fd_I (-9), fd_I (K 199 15)]) (M' := K) rfl rfl (j := 6) rfl (rfl) ?_
  refine fd_e_br (C := fd_c57) (t := 16) (e := 7) (st' := []) (c := ¬ (K 199 15) = (-9)) (b := (fd_rng (K 199 15) && fd_rng (-9))) rfl rfl rfl (fd_bA (fd_bR (by omega) (by omega)) (fd_bR (by omega) (by omega))) (fun h6 => absurd h6 (by omega)) (fun h6 => ?_)
  refine fd_e_blk 1 (C := fd_c57) (b := true) (L' := [fd_R 199, fd_I 1, fd_I (K 199 14)]) (st' := [fd_I 1]) (M' := K) rfl rfl (j := 8) rfl (rfl) ?_
  refine fd_e_br (C := fd_c57) (t := 12) (e := 9) (st' := []) (c := 1 = 0) (b := (fd_rng 1)) rfl rfl rfl (fd_bR (by omega) (by omega)) (fun h8 => absurd h8 (by omega)) (fun h8 => ?_)
  refine fd_e_blk 1 (C := fd_c57) (b := true) (L' := [fd_R 199, fd_I 1, fd_I (K 199 14)]) (st' := [fd_R 199]) (M' := K) rfl rfl (j := 10) rfl (rfl) ?_
  obtain ⟨S, cS, tS, fS⟩ := fd_y_step K hx (p := tk_nx tx len p) ta (tk_nl hp)
  refine fd_e_call (C := fd_c57) (d0 := 1) (mid := 56) (np := 1) (args := [fd_R 199]) (r1 := none) (M1 := S) (st' := []) rfl rfl rfl rfl rfl rfl (rfl) (cS) rfl (by omega) ?_
  refine fd_e_jmp (C := fd_c57) (j := 16) (st' := []) rfl rfl (b := true) rfl rfl ?_
  refine fd_e_blk 1 (C := fd_c57) (b := true) (L' := [fd_R 199, fd_I 1, fd_I (K 199 14)]) (st' := [fd_I (K 199 14)]) (M' := S) rfl rfl (j := 17) rfl (rfl) ?_
  refine fd_e_ret (C := fd_c57) (b := true) (r' := some (fd_I (K 199 14))) rfl rfl rfl (rfl) ?_
  exact ⟨rfl, tS, fS⟩

theorem fd_y_due0 (K : fd_M) (hf : K 199 15 = -9) : fd_call 2 57 [fd_R 199, fd_I 0] K (some (fd_I (K 199 14))) (fd_up K 199 15 (K 199 12)) := by
  refine fd_u_in (L := [fd_R 199, fd_I 0, fd_R 1003]) rfl ?_
  refine fd_u_blk 6 (C := fd_c57) (b := true) (L' := [fd_R 199, fd_I 0, fd_I (K 199 14)]) (st' := [fd_I (-9), fd_I (K 199 15)]) (M' := K) rfl rfl (j := 6) rfl (rfl) ?_
  refine fd_u_br (C := fd_c57) (t := 16) (e := 7) (st' := []) (c := ¬ (K 199 15) = (-9)) (b := (fd_rng (K 199 15) && fd_rng (-9))) rfl rfl rfl (fd_bA (fd_bR (by omega) (by omega)) (fd_bR (by omega) (by omega))) (fun h6 => absurd h6 (by omega)) (fun h6 => ?_)
  refine fd_u_blk 1 (C := fd_c57) (b := true) (L' := [fd_R 199, fd_I 0, fd_I (K 199 14)]) (st' := [fd_I 0]) (M' := K) rfl rfl (j := 8) rfl (rfl) ?_
  refine fd_u_br (C := fd_c57) (t := 12) (e := 9) (st' := []) (c := 0 = 0) (b := (fd_rng 0)) rfl rfl rfl (fd_bR (by omega) (by omega)) (fun h8 => ?_) (fun h8 => absurd h8 (by omega))
  refine fd_u_blk 5 (C := fd_c57) (b := true) (L' := [fd_R 199, fd_I 0, fd_I (K 199 14)]) (st' := [fd_I (K 199 14)]) (M' := (fd_up K 199 15 (K 199 12))) rfl rfl (j := 17) rfl (rfl) ?_
  refine fd_u_ret (C := fd_c57) (b := true) (r' := some (fd_I (K 199 14))) rfl rfl rfl (rfl) ?_ ?_
  · rfl
  · rfl

theorem fd_y_dueF (K : fd_M) (hf : ¬ K 199 15 = -9) (hfr : -10 ≤ K 199 15 ∧ K 199 15 ≤ 1000) (b : Int) : fd_call 2 57 [fd_R 199, fd_I b] K (some (fd_I (K 199 14))) K := by
  refine fd_u_in (L := [fd_R 199, fd_I b, fd_R 1003]) rfl ?_
  refine fd_u_blk 6 (C := fd_c57) (b := true) (L' := [fd_R 199, fd_I b, fd_I (K 199 14)]) (st' := [fd_I (-9), fd_I (K 199 15)]) (M' := K) rfl rfl (j := 6) rfl (rfl) ?_
  refine fd_u_br (C := fd_c57) (t := 16) (e := 7) (st' := []) (c := ¬ (K 199 15) = (-9)) (b := (fd_rng (K 199 15) && fd_rng (-9))) rfl rfl rfl (fd_bA (fd_bR (by omega) (by omega)) (fd_bR (by omega) (by omega))) (fun h6 => ?_) (fun h6 => absurd h6 (by omega))
  refine fd_u_blk 1 (C := fd_c57) (b := true) (L' := [fd_R 199, fd_I b, fd_I (K 199 14)]) (st' := [fd_I (K 199 14)]) (M' := K) rfl rfl (j := 17) rfl (rfl) ?_
  refine fd_u_ret (C := fd_c57) (b := true) (r' := some (fd_I (K 199 14))) rfl rfl rfl (rfl) ?_ ?_
  · rfl
  · rfl

/-- a number that fits -/
theorem fd_y_dueB (K : fd_M) (hf : ¬ K 199 15 = -9) (hfr : -10 ≤ K 199 15 ∧ K 199 15 ≤ 1000) (b : Int) : fd_call 2 57 [fd_R 199, fd_I b] K (some (fd_I (K 199 14))) K := fd_y_dueF K hf hfr b
theorem fd_y_numOk {tx : Nat → Int} {len : Nat} (K : fd_M) (hx : tk_TxR tx len K) (p : Nat) (hp : p ≤ len) (hT : tk_TR tx len p K) (hf : K 199 15 = -9) (lo hi : Int) (hlo : -10 ≤ lo ∧ lo ≤ 10) (hhi : -10 ≤ hi ∧ hi ≤ 10) (hN : pz_n tx len p lo hi) : fd_callE 3 58 [fd_R 199, fd_I lo, fd_I hi] K (fun r R => r = some (fd_I (tk_vl tx len p)) ∧ tk_TR tx len (tk_nx tx len p) R ∧ tk_RA K R) := by
  refine fd_e_in (L := [fd_R 199, fd_I lo, fd_I hi]) rfl ?_
  obtain ⟨ta, tb, tc, td, te⟩ := id hT
  obtain ⟨s0, s1, s2, s3, s4, s5⟩ := tk_rs_f tx len p
  have kr := tk_kd_rng tx len p
  refine fd_e_blk 4 (C := fd_c58) (b := true) (L' := [fd_R 199, fd_I lo, fd_I hi]) (st' := [fd_I 1, fd_I (K 199 13), fd_R 199]) (M' := K) rfl rfl (j := 4) rfl (rfl) ?_
  refine fd_e_br (C := fd_c58) (t := 13) (e := 5) (st' := [fd_R 199]) (c := ¬ (K 199 13) = 1) (b := (fd_rng (K 199 13) && fd_rng 1)) rfl rfl rfl (fd_bA (fd_bR (by omega) (by omega)) (fd_bR (by omega) (by omega))) (fun h4 => ?_) (fun h4 => ?_)
  · refine fd_e_blk 1 (C := fd_c58) (b := true) (L' := [fd_R 199, fd_I lo, fd_I hi]) (st' := [fd_I 0, fd_R 199]) (M' := K) rfl rfl (j := 14) rfl (rfl) ?_
    refine fd_e_call (C := fd_c58) (d0 := 2) (mid := 57) (np := 2) (args := [fd_R 199, fd_I 0]) (r1 := some (fd_I (K 199 14))) (M1 := (fd_up K 199 15 (K 199 12))) (st' := [fd_I (K 199 14)]) rfl rfl rfl rfl rfl rfl (rfl) (fd_y_due0 K hf) rfl (by omega) ?_
    refine fd_e_ret (C := fd_c58) (b := true) (r' := some (fd_I (K 199 14))) rfl rfl rfl (rfl) ?_
    exfalso
    obtain ⟨y1, y2, y3⟩ := hN
    have y4 := td y1
    omega
  · refine fd_e_blk 4 (C := fd_c58) (b := true) (L' := [fd_R 199, fd_I lo, fd_I hi]) (st' := [fd_I hi, fd_I lo, fd_I (K 199 14), fd_R 199]) (M' := K) rfl rfl (j := 9) rfl (rfl) ?_
    refine fd_e_call (C := fd_c58) (d0 := 0) (mid := 52) (np := 3) (args := [fd_I (K 199 14), fd_I lo, fd_I hi]) (r1 := some (fd_I (fd_bi (lo ≤ (K 199 14) ∧ (K 199 14) ≤ hi)))) (M1 := K) (st' := [fd_I (fd_bi (lo ≤ (K 199 14) ∧ (K 199 14) ≤ hi)), fd_R 199]) rfl rfl rfl rfl rfl rfl (rfl) (fd_r_in K (K 199 14) lo hi (by omega) (by omega) (by omega)) rfl (by omega) ?_
    refine fd_e_br (C := fd_c58) (t := 13) (e := 11) (st' := [fd_R 199]) (c := (fd_bi (lo ≤ (K 199 14) ∧ (K 199 14) ≤ hi)) = 0) (b := (fd_rng (fd_bi (lo ≤ (K 199 14) ∧ (K 199 14) ≤ hi)))) rfl rfl rfl (fd_biR) (fun h10 => ?_) (fun h10 => ?_)
    · have h10 := fd_biF.mp h10
      refine fd_e_blk 1 (C := fd_c58) (b := true) (L' := [fd_R 199, fd_I lo, fd_I hi]) (st' := [fd_I 0, fd_R 199]) (M' := K) rfl rfl (j := 14) rfl (rfl) ?_
      refine fd_e_call (C := fd_c58) (d0 := 2) (mid := 57) (np := 2) (args := [fd_R 199, fd_I 0]) (r1 := some (fd_I (K 199 14))) (M1 := (fd_up K 199 15 (K 199 12))) (st' := [fd_I (K 199 14)]) rfl rfl rfl rfl rfl rfl (rfl) (fd_y_due0 K hf) rfl (by omega) ?_
      refine fd_e_ret (C := fd_c58) (b := true) (r' := some (fd_I (K 199 14))) rfl rfl rfl (rfl) ?_
      exfalso
      obtain ⟨y1, y2, y3⟩ := hN
      have y4 := td y1
      omega
    · have h10 := fd_biT.mp h10
      refine fd_e_blk 1 (C := fd_c58) (b := true) (L' := [fd_R 199, fd_I lo, fd_I hi]) (st' := [fd_I 1, fd_R 199]) (M' := K) rfl rfl (j := 12) rfl (rfl) ?_
      refine fd_e_jmp (C := fd_c58) (j := 14) (st' := [fd_I 1, fd_R 199]) rfl rfl (b := true) rfl rfl ?_
      obtain ⟨rS, S, cS, eS, tS, fS⟩ := fd_y_due1 K hx p hp hT hf
      subst eS
      refine fd_e_call (C := fd_c58) (d0 := 2) (mid := 57) (np := 2) (args := [fd_R 199, fd_I 1]) (r1 := some (fd_I (K 199 14))) (M1 := S) (st' := [fd_I (K 199 14)]) rfl rfl rfl rfl rfl rfl (rfl) (cS) rfl (by omega) ?_
      refine fd_e_ret (C := fd_c58) (b := true) (r' := some (fd_I (K 199 14))) rfl rfl rfl (rfl) ?_
      exact ⟨by rw [td (by omega)], tS, fS⟩

theorem fd_y_numBad {tx : Nat → Int} {len : Nat} (K : fd_M) (hx : tk_TxR tx len K) (p : Nat) (hp : p ≤ len) (hT : tk_TR tx len p K) (hf : K 199 15 = -9) (lo hi : Int) (hlo : -10 ≤ lo ∧ lo ≤ 10) (hhi : -10 ≤ hi ∧ hi ≤ 10) (hN : ¬ pz_n tx len p lo hi) : fd_callE 3 58 [fd_R 199, fd_I lo, fd_I hi] K (fun r R => r = some (fd_I (K 199 14)) ∧ R = fd_up K 199 15 (tk_ls tx len p : Int)) := by
  refine fd_e_in (L := [fd_R 199, fd_I lo, fd_I hi]) rfl ?_
  obtain ⟨ta, tb, tc, td, te⟩ := id hT
  obtain ⟨s0, s1, s2, s3, s4, s5⟩ := tk_rs_f tx len p
  have kr := tk_kd_rng tx len p
  refine fd_e_blk 4 (C := fd_c58) (b := true) (L' := [fd_R 199, fd_I lo, fd_I hi]) (st' := [fd_I 1, fd_I (K 199 13), fd_R 199]) (M' := K) rfl rfl (j := 4) rfl (rfl) ?_
  refine fd_e_br (C := fd_c58) (t := 13) (e := 5) (st' := [fd_R 199]) (c := ¬ (K 199 13) = 1) (b := (fd_rng (K 199 13) && fd_rng 1)) rfl rfl rfl (fd_bA (fd_bR (by omega) (by omega)) (fd_bR (by omega) (by omega))) (fun h4 => ?_) (fun h4 => ?_)
  · refine fd_e_blk 1 (C := fd_c58) (b := true) (L' := [fd_R 199, fd_I lo, fd_I hi]) (st' := [fd_I 0, fd_R 199]) (M' := K) rfl rfl (j := 14) rfl (rfl) ?_
    refine fd_e_call (C := fd_c58) (d0 := 2) (mid := 57) (np := 2) (args := [fd_R 199, fd_I 0]) (r1 := some (fd_I (K 199 14))) (M1 := (fd_up K 199 15 (K 199 12))) (st' := [fd_I (K 199 14)]) rfl rfl rfl rfl rfl rfl (rfl) (fd_y_due0 K hf) rfl (by omega) ?_
    refine fd_e_ret (C := fd_c58) (b := true) (r' := some (fd_I (K 199 14))) rfl rfl rfl (rfl) ?_
    exact ⟨rfl, by rw [tb]⟩
  · refine fd_e_blk 4 (C := fd_c58) (b := true) (L' := [fd_R 199, fd_I lo, fd_I hi]) (st' := [fd_I hi, fd_I lo, fd_I (K 199 14), fd_R 199]) (M' := K) rfl rfl (j := 9) rfl (rfl) ?_
    refine fd_e_call (C := fd_c58) (d0 := 0) (mid := 52) (np := 3) (args := [fd_I (K 199 14), fd_I lo, fd_I hi]) (r1 := some (fd_I (fd_bi (lo ≤ (K 199 14) ∧ (K 199 14) ≤ hi)))) (M1 := K) (st' := [fd_I (fd_bi (lo ≤ (K 199 14) ∧ (K 199 14) ≤ hi)), fd_R 199]) rfl rfl rfl rfl rfl rfl (rfl) (fd_r_in K (K 199 14) lo hi (by omega) (by omega) (by omega)) rfl (by omega) ?_
    refine fd_e_br (C := fd_c58) (t := 13) (e := 11) (st' := [fd_R 199]) (c := (fd_bi (lo ≤ (K 199 14) ∧ (K 199 14) ≤ hi)) = 0) (b := (fd_rng (fd_bi (lo ≤ (K 199 14) ∧ (K 199 14) ≤ hi)))) rfl rfl rfl (fd_biR) (fun h10 => ?_) (fun h10 => ?_)
    · have h10 := fd_biF.mp h10
      refine fd_e_blk 1 (C := fd_c58) (b := true) (L' := [fd_R 199, fd_I lo, fd_I hi]) (st' := [fd_I 0, fd_R 199]) (M' := K) rfl rfl (j := 14) rfl (rfl) ?_
      refine fd_e_call (C := fd_c58) (d0 := 2) (mid := 57) (np := 2) (args := [fd_R 199, fd_I 0]) (r1 := some (fd_I (K 199 14))) (M1 := (fd_up K 199 15 (K 199 12))) (st' := [fd_I (K 199 14)]) rfl rfl rfl rfl rfl rfl (rfl) (fd_y_due0 K hf) rfl (by omega) ?_
      refine fd_e_ret (C := fd_c58) (b := true) (r' := some (fd_I (K 199 14))) rfl rfl rfl (rfl) ?_
      exact ⟨rfl, by rw [tb]⟩
    · have h10 := fd_biT.mp h10
      refine fd_e_blk 1 (C := fd_c58) (b := true) (L' := [fd_R 199, fd_I lo, fd_I hi]) (st' := [fd_I 1, fd_R 199]) (M' := K) rfl rfl (j := 12) rfl (rfl) ?_
      refine fd_e_jmp (C := fd_c58) (j := 14) (st' := [fd_I 1, fd_R 199]) rfl rfl (b := true) rfl rfl ?_
      obtain ⟨rS, S, cS, eS, tS, fS⟩ := fd_y_due1 K hx p hp hT hf
      subst eS
      refine fd_e_call (C := fd_c58) (d0 := 2) (mid := 57) (np := 2) (args := [fd_R 199, fd_I 1]) (r1 := some (fd_I (K 199 14))) (M1 := S) (st' := [fd_I (K 199 14)]) rfl rfl rfl rfl rfl rfl (rfl) (cS) rfl (by omega) ?_
      refine fd_e_ret (C := fd_c58) (b := true) (r' := some (fd_I (K 199 14))) rfl rfl rfl (rfl) ?_
      exact absurd ⟨by omega, by rw [← td (by omega)]; exact h10.1, by rw [← td (by omega)]; exact h10.2⟩ hN

theorem fd_y_numF (K : fd_M) (hf : ¬ K 199 15 = -9) (hfr : -10 ≤ K 199 15 ∧ K 199 15 ≤ 1000) (lo hi : Int) (hlo : -10 ≤ lo ∧ lo ≤ 10) (hhi : -10 ≤ hi ∧ hi ≤ 10) (hr : (0 ≤ K 199 13 ∧ K 199 13 ≤ 255) ∧ (0 ≤ K 199 14 ∧ K 199 14 ≤ 999)) : fd_call 3 58 [fd_R 199, fd_I lo, fd_I hi] K (some (fd_I (K 199 14))) K := by
  refine fd_u_in (L := [fd_R 199, fd_I lo, fd_I hi]) rfl ?_
  refine fd_u_blk 4 (C := fd_c58) (b := true) (L' := [fd_R 199, fd_I lo, fd_I hi]) (st' := [fd_I 1, fd_I (K 199 13), fd_R 199]) (M' := K) rfl rfl (j := 4) rfl (rfl) ?_
  refine fd_u_br (C := fd_c58) (t := 13) (e := 5) (st' := [fd_R 199]) (c := ¬ (K 199 13) = 1) (b := (fd_rng (K 199 13) && fd_rng 1)) rfl rfl rfl (fd_bA (fd_bR (by omega) (by omega)) (fd_bR (by omega) (by omega))) (fun h4 => ?_) (fun h4 => ?_)
  · refine fd_u_blk 1 (C := fd_c58) (b := true) (L' := [fd_R 199, fd_I lo, fd_I hi]) (st' := [fd_I 0, fd_R 199]) (M' := K) rfl rfl (j := 14) rfl (rfl) ?_
    refine fd_u_call (C := fd_c58) (d0 := 2) (mid := 57) (np := 2) (args := [fd_R 199, fd_I 0]) (r1 := some (fd_I (K 199 14))) (M1 := K) (st' := [fd_I (K 199 14)]) rfl rfl rfl rfl rfl rfl (rfl) (fd_y_dueF K hf hfr 0) rfl (by omega) ?_
    refine fd_u_ret (C := fd_c58) (b := true) (r' := some (fd_I (K 199 14))) rfl rfl rfl (rfl) ?_ ?_
    · rfl
    · rfl
  · refine fd_u_blk 4 (C := fd_c58) (b := true) (L' := [fd_R 199, fd_I lo, fd_I hi]) (st' := [fd_I hi, fd_I lo, fd_I (K 199 14), fd_R 199]) (M' := K) rfl rfl (j := 9) rfl (rfl) ?_
    refine fd_u_call (C := fd_c58) (d0 := 0) (mid := 52) (np := 3) (args := [fd_I (K 199 14), fd_I lo, fd_I hi]) (r1 := some (fd_I (fd_bi (lo ≤ (K 199 14) ∧ (K 199 14) ≤ hi)))) (M1 := K) (st' := [fd_I (fd_bi (lo ≤ (K 199 14) ∧ (K 199 14) ≤ hi)), fd_R 199]) rfl rfl rfl rfl rfl rfl (rfl) (fd_r_in K (K 199 14) lo hi (by omega) (by omega) (by omega)) rfl (by omega) ?_
    refine fd_u_br (C := fd_c58) (t := 13) (e := 11) (st' := [fd_R 199]) (c := (fd_bi (lo ≤ (K 199 14) ∧ (K 199 14) ≤ hi)) = 0) (b := (fd_rng (fd_bi (lo ≤ (K 199 14) ∧ (K 199 14) ≤ hi)))) rfl rfl rfl (fd_biR) (fun h10 => ?_) (fun h10 => ?_)
    · have h10 := fd_biF.mp h10
      refine fd_u_blk 1 (C := fd_c58) (b := true) (L' := [fd_R 199, fd_I lo, fd_I hi]) (st' := [fd_I 0, fd_R 199]) (M' := K) rfl rfl (j := 14) rfl (rfl) ?_
      refine fd_u_call (C := fd_c58) (d0 := 2) (mid := 57) (np := 2) (args := [fd_R 199, fd_I 0]) (r1 := some (fd_I (K 199 14))) (M1 := K) (st' := [fd_I (K 199 14)]) rfl rfl rfl rfl rfl rfl (rfl) (fd_y_dueF K hf hfr 0) rfl (by omega) ?_
      refine fd_u_ret (C := fd_c58) (b := true) (r' := some (fd_I (K 199 14))) rfl rfl rfl (rfl) ?_ ?_
      · rfl
      · rfl
    · have h10 := fd_biT.mp h10
      refine fd_u_blk 1 (C := fd_c58) (b := true) (L' := [fd_R 199, fd_I lo, fd_I hi]) (st' := [fd_I 1, fd_R 199]) (M' := K) rfl rfl (j := 12) rfl (rfl) ?_
      refine fd_u_jmp (C := fd_c58) (j := 14) (st' := [fd_I 1, fd_R 199]) rfl rfl (b := true) rfl rfl ?_
      refine fd_u_call (C := fd_c58) (d0 := 2) (mid := 57) (np := 2) (args := [fd_R 199, fd_I 1]) (r1 := some (fd_I (K 199 14))) (M1 := K) (st' := [fd_I (K 199 14)]) rfl rfl rfl rfl rfl rfl (rfl) (fd_y_dueF K hf hfr 1) rfl (by omega) ?_
      refine fd_u_ret (C := fd_c58) (b := true) (r' := some (fd_I (K 199 14))) rfl rfl rfl (rfl) ?_ ?_
      · rfl
      · rfl

theorem fd_y_groundOf (K : fd_M) (c : Int) (hc : -2147483648 ≤ c ∧ c < 2147483648) : fd_call 0 60 [fd_I c] K (some (fd_I (if c = 102 then 0 else if c = 120 then 1 else if c = 116 then 2 else -9))) K := by
  refine fd_u_in (L := [fd_I c]) rfl ?_
  refine fd_u_blk 2 (C := fd_c60) (b := true) (L' := [fd_I c]) (st' := [fd_I 102, fd_I c]) (M' := K) rfl rfl (j := 2) rfl (rfl) ?_
  refine fd_u_br (C := fd_c60) (t := 5) (e := 3) (st' := []) (c := ¬ c = 102) (b := (fd_rng c && fd_rng 102)) rfl rfl rfl (fd_bA (fd_bR (by omega) (by omega)) (fd_bR (by omega) (by omega))) (fun h2 => ?_) (fun h2 => ?_)
  · refine fd_u_blk 2 (C := fd_c60) (b := true) (L' := [fd_I c]) (st' := [fd_I 120, fd_I c]) (M' := K) rfl rfl (j := 7) rfl (rfl) ?_
    refine fd_u_br (C := fd_c60) (t := 10) (e := 8) (st' := []) (c := ¬ c = 120) (b := (fd_rng c && fd_rng 120)) rfl rfl rfl (fd_bA (fd_bR (by omega) (by omega)) (fd_bR (by omega) (by omega))) (fun h7 => ?_) (fun h7 => ?_)
    · refine fd_u_blk 2 (C := fd_c60) (b := true) (L' := [fd_I c]) (st' := [fd_I 116, fd_I c]) (M' := K) rfl rfl (j := 12) rfl (rfl) ?_
      refine fd_u_br (C := fd_c60) (t := 15) (e := 13) (st' := []) (c := ¬ c = 116) (b := (fd_rng c && fd_rng 116)) rfl rfl rfl (fd_bA (fd_bR (by omega) (by omega)) (fd_bR (by omega) (by omega))) (fun h12 => ?_) (fun h12 => ?_)
      · refine fd_u_blk 1 (C := fd_c60) (b := true) (L' := [fd_I c]) (st' := [fd_I (-9)]) (M' := K) rfl rfl (j := 16) rfl (rfl) ?_
        refine fd_u_ret (C := fd_c60) (b := true) (r' := some (fd_I (-9))) rfl rfl rfl (rfl) ?_ ?_
        · first | (rw [if_pos (by omega)]; done) | (rw [if_neg (by omega), if_pos (by omega)]; done) | (rw [if_neg (by omega), if_neg (by omega), if_pos (by omega)]; done) | (rw [if_neg (by omega), if_neg (by omega), if_neg (by omega)]; done)
        · rfl
      · refine fd_u_blk 1 (C := fd_c60) (b := true) (L' := [fd_I c]) (st' := [fd_I 2]) (M' := K) rfl rfl (j := 14) rfl (rfl) ?_
        refine fd_u_jmp (C := fd_c60) (j := 16) (st' := [fd_I 2]) rfl rfl (b := true) rfl rfl ?_
        refine fd_u_ret (C := fd_c60) (b := true) (r' := some (fd_I 2)) rfl rfl rfl (rfl) ?_ ?_
        · first | (rw [if_pos (by omega)]; done) | (rw [if_neg (by omega), if_pos (by omega)]; done) | (rw [if_neg (by omega), if_neg (by omega), if_pos (by omega)]; done) | (rw [if_neg (by omega), if_neg (by omega), if_neg (by omega)]; done)
        · rfl
    · refine fd_u_blk 1 (C := fd_c60) (b := true) (L' := [fd_I c]) (st' := [fd_I 1]) (M' := K) rfl rfl (j := 9) rfl (rfl) ?_
      refine fd_u_jmp (C := fd_c60) (j := 16) (st' := [fd_I 1]) rfl rfl (b := true) rfl rfl ?_
      refine fd_u_ret (C := fd_c60) (b := true) (r' := some (fd_I 1)) rfl rfl rfl (rfl) ?_ ?_
      · first | (rw [if_pos (by omega)]; done) | (rw [if_neg (by omega), if_pos (by omega)]; done) | (rw [if_neg (by omega), if_neg (by omega), if_pos (by omega)]; done) | (rw [if_neg (by omega), if_neg (by omega), if_neg (by omega)]; done)
      · rfl
  · refine fd_u_blk 1 (C := fd_c60) (b := true) (L' := [fd_I c]) (st' := [fd_I 0]) (M' := K) rfl rfl (j := 4) rfl (rfl) ?_
    refine fd_u_jmp (C := fd_c60) (j := 16) (st' := [fd_I 0]) rfl rfl (b := true) rfl rfl ?_
    refine fd_u_ret (C := fd_c60) (b := true) (r' := some (fd_I 0)) rfl rfl rfl (rfl) ?_ ?_
    · first | (rw [if_pos (by omega)]; done) | (rw [if_neg (by omega), if_pos (by omega)]; done) | (rw [if_neg (by omega), if_neg (by omega), if_pos (by omega)]; done) | (rw [if_neg (by omega), if_neg (by omega), if_neg (by omega)]; done)
    · rfl

theorem fd_l_freeD (K : fd_M) (h1 : 0 ≤ K 204 1 ∧ K 204 1 ≤ 6) (h5 : ∀ d : Nat, (d : Int) < K 204 1 → 0 ≤ K 205 d ∧ K 205 d ≤ 48) (a : Nat) (ha : a < 49) : ∀ (n : Nat) (k : Nat) (hk : (k : Int) + n = K 204 1), fd_run 0 61 13 [fd_R 199, fd_I ((a : Nat) : Int), fd_I (fd_bi ((decide (K 203 (49 + a) = 0) && fd_all (fun d => decide (¬ K 205 d = (a : Int))) k) = true)), fd_I ((k : Nat) : Int)] [] K (some (fd_I (fd_bi ((decide (K 203 (49 + a) = 0) && fd_all (fun d => decide (¬ K 205 d = (a : Int))) (K 204 1).toNat) = true)))) K := by
  intro n
  induction n with
  | zero =>
    intro k hk
    have hB : ∀ (q0 : Int) (q1 : Int), fd_bl 5 (List.drop 13 fd_c61) [fd_R 199, fd_I q0, fd_I (fd_bi ((decide (K 203 (49 + a) = 0) && fd_all (fun d => decide (¬ K 205 d = (a : Int))) k) = true)), fd_I q1] [] K = some (true, [fd_R 199, fd_I q0, fd_I (fd_bi ((decide (K 203 (49 + a) = 0) && fd_all (fun d => decide (¬ K 205 d = (a : Int))) k) = true)), fd_I q1], [fd_I (K 204 1), fd_I q1], K) := fun _ _ => rfl
    refine fd_u_blk 5 (C := fd_c61) (b := true) (L' := [fd_R 199, fd_I ((a : Nat) : Int), fd_I (fd_bi ((decide (K 203 (49 + a) = 0) && fd_all (fun d => decide (¬ K 205 d = (a : Int))) k) = true)), fd_I ((k : Nat) : Int)]) (st' := [fd_I (K 204 1), fd_I ((k : Nat) : Int)]) (M' := K) rfl (hB ((a : Nat) : Int) ((k : Nat) : Int)) (j := 18) rfl (rfl) ?_
    clear hB
    refine fd_u_br (C := fd_c61) (t := 33) (e := 19) (st' := []) (c := (K 204 1) ≤ ((k : Nat) : Int)) (b := (fd_rng ((k : Nat) : Int) && fd_rng (K 204 1))) rfl rfl rfl (fd_bA (fd_bR (by omega) (by omega)) (fd_bR (by omega) (by omega))) (fun h18 => ?_) (fun h18 => absurd h18 (by omega))
    have hB : ∀ (q0 : Int) (q1 : Int), fd_bl 1 (List.drop 33 fd_c61) [fd_R 199, fd_I q0, fd_I (fd_bi ((decide (K 203 (49 + a) = 0) && fd_all (fun d => decide (¬ K 205 d = (a : Int))) k) = true)), fd_I q1] [] K = some (true, [fd_R 199, fd_I q0, fd_I (fd_bi ((decide (K 203 (49 + a) = 0) && fd_all (fun d => decide (¬ K 205 d = (a : Int))) k) = true)), fd_I q1], [fd_I (fd_bi ((decide (K 203 (49 + a) = 0) && fd_all (fun d => decide (¬ K 205 d = (a : Int))) k) = true))], K) := fun _ _ => rfl
    refine fd_u_blk 1 (C := fd_c61) (b := true) (L' := [fd_R 199, fd_I ((a : Nat) : Int), fd_I (fd_bi ((decide (K 203 (49 + a) = 0) && fd_all (fun d => decide (¬ K 205 d = (a : Int))) k) = true)), fd_I ((k : Nat) : Int)]) (st' := [fd_I (fd_bi ((decide (K 203 (49 + a) = 0) && fd_all (fun d => decide (¬ K 205 d = (a : Int))) k) = true))]) (M' := K) rfl (hB ((a : Nat) : Int) ((k : Nat) : Int)) (j := 34) rfl (rfl) ?_
    clear hB
    refine fd_u_ret (C := fd_c61) (b := (fd_inb (fd_bi ((decide (K 203 (49 + a) = 0) && fd_all (fun d => decide (¬ K 205 d = (a : Int))) k) = true)) 2)) (r' := some (fd_I (fd_bi ((decide (K 203 (49 + a) = 0) && fd_all (fun d => decide (¬ K 205 d = (a : Int))) k) = true)))) rfl rfl rfl (fd_biI) ?_ ?_
    · rw [show (K 204 1).toNat = k by omega]
    · rfl
  | succ n ih =>
    intro k hk
    have q5 := h5 k (by omega)
    have hB : ∀ (q0 : Int) (q1 : Int), fd_bl 5 (List.drop 13 fd_c61) [fd_R 199, fd_I q0, fd_I (fd_bi ((decide (K 203 (49 + a) = 0) && fd_all (fun d => decide (¬ K 205 d = (a : Int))) k) = true)), fd_I q1] [] K = some (true, [fd_R 199, fd_I q0, fd_I (fd_bi ((decide (K 203 (49 + a) = 0) && fd_all (fun d => decide (¬ K 205 d = (a : Int))) k) = true)), fd_I q1], [fd_I (K 204 1), fd_I q1], K) := fun _ _ => rfl
    refine fd_u_blk 5 (C := fd_c61) (b := true) (L' := [fd_R 199, fd_I ((a : Nat) : Int), fd_I (fd_bi ((decide (K 203 (49 + a) = 0) && fd_all (fun d => decide (¬ K 205 d = (a : Int))) k) = true)), fd_I ((k : Nat) : Int)]) (st' := [fd_I (K 204 1), fd_I ((k : Nat) : Int)]) (M' := K) rfl (hB ((a : Nat) : Int) ((k : Nat) : Int)) (j := 18) rfl (rfl) ?_
    clear hB
    refine fd_u_br (C := fd_c61) (t := 33) (e := 19) (st' := []) (c := (K 204 1) ≤ ((k : Nat) : Int)) (b := (fd_rng ((k : Nat) : Int) && fd_rng (K 204 1))) rfl rfl rfl (fd_bA (fd_bR (by omega) (by omega)) (fd_bR (by omega) (by omega))) (fun h18 => absurd h18 (by omega)) (fun h18 => ?_)
    have hB : ∀ (q0 : Int) (q1 : Int), fd_bl 1 (List.drop 19 fd_c61) [fd_R 199, fd_I q0, fd_I (fd_bi ((decide (K 203 (49 + a) = 0) && fd_all (fun d => decide (¬ K 205 d = (a : Int))) k) = true)), fd_I q1] [] K = some (true, [fd_R 199, fd_I q0, fd_I (fd_bi ((decide (K 203 (49 + a) = 0) && fd_all (fun d => decide (¬ K 205 d = (a : Int))) k) = true)), fd_I q1], [fd_I (fd_bi ((decide (K 203 (49 + a) = 0) && fd_all (fun d => decide (¬ K 205 d = (a : Int))) k) = true))], K) := fun _ _ => rfl
    refine fd_u_blk 1 (C := fd_c61) (b := true) (L' := [fd_R 199, fd_I ((a : Nat) : Int), fd_I (fd_bi ((decide (K 203 (49 + a) = 0) && fd_all (fun d => decide (¬ K 205 d = (a : Int))) k) = true)), fd_I ((k : Nat) : Int)]) (st' := [fd_I (fd_bi ((decide (K 203 (49 + a) = 0) && fd_all (fun d => decide (¬ K 205 d = (a : Int))) k) = true))]) (M' := K) rfl (hB ((a : Nat) : Int) ((k : Nat) : Int)) (j := 20) rfl (rfl) ?_
    clear hB
    refine fd_u_br (C := fd_c61) (t := 29) (e := 21) (st' := []) (c := (fd_bi ((decide (K 203 (49 + a) = 0) && fd_all (fun d => decide (¬ K 205 d = (a : Int))) k) = true)) = 0) (b := (fd_rng (fd_bi ((decide (K 203 (49 + a) = 0) && fd_all (fun d => decide (¬ K 205 d = (a : Int))) k) = true)))) rfl rfl rfl (fd_biR) (fun h20 => ?_) (fun h20 => ?_)
    · have h20 := fd_biF.mp h20
      have hB : ∀ (q0 : Int) (q1 : Int), fd_bl 3 (List.drop 29 fd_c61) [fd_R 199, fd_I q0, fd_I (fd_bi ((decide (K 203 (49 + a) = 0) && fd_all (fun d => decide (¬ K 205 d = (a : Int))) k) = true)), fd_I q1] [] K = some (true, [fd_R 199, fd_I q0, fd_I 0, fd_I (q1 + 1)], [], K) := fun _ _ => rfl
      refine fd_u_blk 3 (C := fd_c61) (b := true) (L' := [fd_R 199, fd_I ((a : Nat) : Int), fd_I 0, fd_I (((k + 1) : Nat) : Int)]) (st' := []) (M' := K) rfl (hB ((a : Nat) : Int) ((k : Nat) : Int)) (j := 32) rfl (rfl) ?_
      clear hB
      refine fd_u_jmp (C := fd_c61) (j := 13) (st' := []) rfl rfl (b := true) rfl rfl ?_
      have e5 : (0 : Int) = fd_bi ((decide (K 203 (49 + a) = 0) && fd_all (fun d => decide (¬ K 205 d = (a : Int))) (k + 1)) = true) := by
        refine (fd_bi0 (fun z => ?_)).symm
        have z2 : (decide (K 203 (49 + a) = 0) && (fd_all (fun d => decide (¬ K 205 d = (a : Int))) k && decide (¬ K 205 k = (a : Int)))) = true := z
        rw [Bool.and_eq_true, Bool.and_eq_true] at z2
        first | exact h20 (by rw [Bool.and_eq_true]; exact ⟨z2.1, z2.2.1⟩) | exact absurd h26 (of_decide_eq_true z2.2.2)
      have zi := ih (k + 1) (by omega)
      rw [← e5] at zi
      exact zi
    · have h20 := fd_biT.mp h20
      have hB : ∀ (q0 : Int) (q1 : Int), fd_bl 5 (List.drop 21 fd_c61) [fd_R 199, fd_I q0, fd_I (fd_bi ((decide (K 203 (49 + a) = 0) && fd_all (fun d => decide (¬ K 205 d = (a : Int))) k) = true)), fd_I q1] [] K = some ((fd_isA true K 205 20 q1 && true), [fd_R 199, fd_I q0, fd_I (fd_bi ((decide (K 203 (49 + a) = 0) && fd_all (fun d => decide (¬ K 205 d = (a : Int))) k) = true)), fd_I q1], [fd_I q0, fd_I (K 205 (q1).toNat)], K) := fun _ _ => rfl
      refine fd_u_blk 5 (C := fd_c61) (b := (fd_isA true K 205 20 ((k : Nat) : Int) && true)) (L' := [fd_R 199, fd_I ((a : Nat) : Int), fd_I (fd_bi ((decide (K 203 (49 + a) = 0) && fd_all (fun d => decide (¬ K 205 d = (a : Int))) k) = true)), fd_I ((k : Nat) : Int)]) (st' := [fd_I ((a : Nat) : Int), fd_I (K 205 k)]) (M' := K) rfl (hB ((a : Nat) : Int) ((k : Nat) : Int)) (j := 26) rfl (fd_bA (fd_iA fd_sh205 (by omega) (by omega)) (rfl)) ?_
      clear hB
      refine fd_u_br (C := fd_c61) (t := 29) (e := 27) (st' := []) (c := (K 205 k) = ((a : Nat) : Int)) (b := (fd_rng (K 205 k) && fd_rng ((a : Nat) : Int))) rfl rfl rfl (fd_bA (fd_bR (by omega) (by omega)) (fd_bR (by omega) (by omega))) (fun h26 => ?_) (fun h26 => ?_)
      · have hB : ∀ (q0 : Int) (q1 : Int), fd_bl 3 (List.drop 29 fd_c61) [fd_R 199, fd_I q0, fd_I (fd_bi ((decide (K 203 (49 + a) = 0) && fd_all (fun d => decide (¬ K 205 d = (a : Int))) k) = true)), fd_I q1] [] K = some (true, [fd_R 199, fd_I q0, fd_I 0, fd_I (q1 + 1)], [], K) := fun _ _ => rfl
        refine fd_u_blk 3 (C := fd_c61) (b := true) (L' := [fd_R 199, fd_I ((a : Nat) : Int), fd_I 0, fd_I (((k + 1) : Nat) : Int)]) (st' := []) (M' := K) rfl (hB ((a : Nat) : Int) ((k : Nat) : Int)) (j := 32) rfl (rfl) ?_
        clear hB
        refine fd_u_jmp (C := fd_c61) (j := 13) (st' := []) rfl rfl (b := true) rfl rfl ?_
        have e5 : (0 : Int) = fd_bi ((decide (K 203 (49 + a) = 0) && fd_all (fun d => decide (¬ K 205 d = (a : Int))) (k + 1)) = true) := by
          refine (fd_bi0 (fun z => ?_)).symm
          have z2 : (decide (K 203 (49 + a) = 0) && (fd_all (fun d => decide (¬ K 205 d = (a : Int))) k && decide (¬ K 205 k = (a : Int)))) = true := z
          rw [Bool.and_eq_true, Bool.and_eq_true] at z2
          first | exact h20 (by rw [Bool.and_eq_true]; exact ⟨z2.1, z2.2.1⟩) | exact absurd h26 (of_decide_eq_true z2.2.2)
        have zi := ih (k + 1) (by omega)
        rw [← e5] at zi
        exact zi
      · have hB : ∀ (q0 : Int) (q1 : Int), fd_bl 1 (List.drop 27 fd_c61) [fd_R 199, fd_I q0, fd_I (fd_bi ((decide (K 203 (49 + a) = 0) && fd_all (fun d => decide (¬ K 205 d = (a : Int))) k) = true)), fd_I q1] [] K = some (true, [fd_R 199, fd_I q0, fd_I (fd_bi ((decide (K 203 (49 + a) = 0) && fd_all (fun d => decide (¬ K 205 d = (a : Int))) k) = true)), fd_I q1], [fd_I 1], K) := fun _ _ => rfl
        refine fd_u_blk 1 (C := fd_c61) (b := true) (L' := [fd_R 199, fd_I ((a : Nat) : Int), fd_I (fd_bi ((decide (K 203 (49 + a) = 0) && fd_all (fun d => decide (¬ K 205 d = (a : Int))) k) = true)), fd_I ((k : Nat) : Int)]) (st' := [fd_I 1]) (M' := K) rfl (hB ((a : Nat) : Int) ((k : Nat) : Int)) (j := 28) rfl (rfl) ?_
        clear hB
        refine fd_u_jmp (C := fd_c61) (j := 30) (st' := [fd_I 1]) rfl rfl (b := true) rfl rfl ?_
        have hB : ∀ (q0 : Int) (q1 : Int), fd_bl 2 (List.drop 30 fd_c61) [fd_R 199, fd_I q0, fd_I (fd_bi ((decide (K 203 (49 + a) = 0) && fd_all (fun d => decide (¬ K 205 d = (a : Int))) k) = true)), fd_I q1] [fd_I 1] K = some (true, [fd_R 199, fd_I q0, fd_I 1, fd_I (q1 + 1)], [], K) := fun _ _ => rfl
        refine fd_u_blk 2 (C := fd_c61) (b := true) (L' := [fd_R 199, fd_I ((a : Nat) : Int), fd_I 1, fd_I (((k + 1) : Nat) : Int)]) (st' := []) (M' := K) rfl (hB ((a : Nat) : Int) ((k : Nat) : Int)) (j := 32) rfl (rfl) ?_
        clear hB
        refine fd_u_jmp (C := fd_c61) (j := 13) (st' := []) rfl rfl (b := true) rfl rfl ?_
        have e5 : (1 : Int) = fd_bi ((decide (K 203 (49 + a) = 0) && fd_all (fun d => decide (¬ K 205 d = (a : Int))) (k + 1)) = true) := by
          refine (fd_bi1 ?_).symm
          show (decide (K 203 (49 + a) = 0) && (fd_all (fun d => decide (¬ K 205 d = (a : Int))) k && decide (¬ K 205 k = (a : Int)))) = true
          rw [Bool.and_eq_true] at h20
          rw [h20.1, h20.2, Bool.true_and, Bool.true_and]
          exact decide_eq_true h26
        have zi := ih (k + 1) (by omega)
        rw [← e5] at zi
        exact zi

theorem fd_y_freeD (K : fd_M) (h1 : 0 ≤ K 204 1 ∧ K 204 1 ≤ 6) (h5 : ∀ d : Nat, (d : Int) < K 204 1 → 0 ≤ K 205 d ∧ K 205 d ≤ 48) (a : Nat) (ha : a < 49) (hg : -10 ≤ K 203 (49 + a) ∧ K 203 (49 + a) ≤ 10) : fd_call 0 61 [fd_R 199, fd_I ((a : Nat) : Int)] K (some (fd_I (fd_bi ((decide (K 203 (49 + a) = 0) && fd_all (fun d => decide (¬ K 205 d = (a : Int))) (K 204 1).toNat) = true)))) K := by
  refine fd_u_in (L := [fd_R 199, fd_I ((a : Nat) : Int), fd_R 1003, fd_R 1003]) rfl ?_
  have hB : ∀ (q0 : Int), fd_bl 6 (List.drop 0 fd_c61) [fd_R 199, fd_I q0, fd_R 1003, fd_R 1003] [] K = some ((fd_isA true K 203 20 (49 + q0) && true), [fd_R 199, fd_I q0, fd_R 1003, fd_R 1003], [fd_I (K 203 (49 + q0).toNat)], K) := fun _ => rfl
  refine fd_u_blk 6 (C := fd_c61) (b := (fd_isA true K 203 20 (49 + ((a : Nat) : Int)) && true)) (L' := [fd_R 199, fd_I ((a : Nat) : Int), fd_R 1003, fd_R 1003]) (st' := [fd_I (K 203 (49 + ((a : Nat) : Int)).toNat)]) (M' := K) rfl (hB ((a : Nat) : Int)) (j := 6) rfl (fd_bA (fd_iA fd_sh203 (by omega) (by omega)) (rfl)) ?_
  clear hB
  rw [show (49 + ((a : Nat) : Int)).toNat = 49 + a by omega]
  refine fd_u_br (C := fd_c61) (t := 9) (e := 7) (st' := []) (c := ¬ (K 203 (49 + a)) = 0) (b := (fd_rng (K 203 (49 + a)))) rfl rfl rfl (fd_bR (by omega) (by omega)) (fun h6 => ?_) (fun h6 => ?_)
  · have hB : ∀ (q0 : Int), fd_bl 4 (List.drop 9 fd_c61) [fd_R 199, fd_I q0, fd_R 1003, fd_R 1003] [] K = some (true, [fd_R 199, fd_I q0, fd_I 0, fd_I 0], [], K) := fun _ => rfl
    refine fd_u_blk 4 (C := fd_c61) (b := true) (L' := [fd_R 199, fd_I ((a : Nat) : Int), fd_I 0, fd_I 0]) (st' := []) (M' := K) rfl (hB ((a : Nat) : Int)) (j := 13) rfl (rfl) ?_
    clear hB
    have e5 : (0 : Int) = fd_bi ((decide (K 203 (49 + a) = 0) && fd_all (fun d => decide (¬ K 205 d = (a : Int))) 0) = true) := by
      refine (fd_bi0 (fun z => ?_)).symm
      rw [Bool.and_eq_true] at z
      exact h6 (of_decide_eq_true z.1)
    have zi := fd_l_freeD K h1 h5 a ha (K 204 1).toNat 0 (by omega)
    rw [← e5] at zi
    exact zi
  · have hB : ∀ (q0 : Int), fd_bl 1 (List.drop 7 fd_c61) [fd_R 199, fd_I q0, fd_R 1003, fd_R 1003] [] K = some (true, [fd_R 199, fd_I q0, fd_R 1003, fd_R 1003], [fd_I 1], K) := fun _ => rfl
    refine fd_u_blk 1 (C := fd_c61) (b := true) (L' := [fd_R 199, fd_I ((a : Nat) : Int), fd_R 1003, fd_R 1003]) (st' := [fd_I 1]) (M' := K) rfl (hB ((a : Nat) : Int)) (j := 8) rfl (rfl) ?_
    clear hB
    refine fd_u_jmp (C := fd_c61) (j := 10) (st' := [fd_I 1]) rfl rfl (b := true) rfl rfl ?_
    have hB : ∀ (q0 : Int), fd_bl 3 (List.drop 10 fd_c61) [fd_R 199, fd_I q0, fd_R 1003, fd_R 1003] [fd_I 1] K = some (true, [fd_R 199, fd_I q0, fd_I 1, fd_I 0], [], K) := fun _ => rfl
    refine fd_u_blk 3 (C := fd_c61) (b := true) (L' := [fd_R 199, fd_I ((a : Nat) : Int), fd_I 1, fd_I 0]) (st' := []) (M' := K) rfl (hB ((a : Nat) : Int)) (j := 13) rfl (rfl) ?_
    clear hB
    have e5 : (1 : Int) = fd_bi ((decide (K 203 (49 + a) = 0) && fd_all (fun d => decide (¬ K 205 d = (a : Int))) 0) = true) := by
      refine (fd_bi1 ?_).symm
      rw [decide_eq_true (Classical.not_not.mp h6)]; rfl
    have zi := fd_l_freeD K h1 h5 a ha (K 204 1).toNat 0 (by omega)
    rw [← e5] at zi
    exact zi


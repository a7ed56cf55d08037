/-! the reference: quarter, the call -/
def tk_AQ (tx : Nat → Int) (len : Nat) (M : fd_M) (A : pz_R × Int) (r : Option fd_V) (R : fd_M) : Prop := r = some (fd_I (if A.1.1 = true then A.2 else -10 - (tk_ls tx len A.1.2.1 : Int))) ∧ (if A.1.1 = true then ∃ S, tk_RF M S ∧ tk_RZ S A.1.2.2 ∧ R = fd_up (fd_tdr S) 199 2 0 else tk_RF M R)
theorem pz_eb_ok {tx : Nat → Int} {len : Nat} {B : pz_R} (h : (pz_eb tx len B).1 = true) : B.1 = true ∧ tk_kd tx len B.2.1 = 3 ∧ pz_eb tx len B = (true, tk_nx tx len B.2.1, B.2.2) := by
  unfold pz_eb at h ⊢
  by_cases b : B.1 = true
  · rw [if_pos b] at h ⊢
    unfold pz_e at h ⊢
    by_cases k : tk_kd tx len B.2.1 = 3
    · rw [if_pos k]
      exact ⟨b, k, rfl⟩
    · rw [if_neg k] at h; cases h
  · rw [if_neg b] at h
    exact absurd h b
theorem fd_y_qF (K : fd_M) (hf : ¬ K 199 15 = -9) (hfr : 0 ≤ K 199 15 ∧ K 199 15 ≤ 1000) (it : Int) (u2 : fd_V) : fd_run 6 65 12 [fd_R 199, fd_I it, u2] [] K (some (fd_I (-10 - K 199 15))) K := by
  refine fd_u_blk 3 (C := fd_c65) (b := true) (L' := [fd_R 199, fd_I it, u2]) (st' := [fd_I (-9), fd_I (K 199 15)]) (M' := K) rfl rfl (j := 15) rfl (rfl) ?_
  refine fd_u_br (C := fd_c65) (t := 49) (e := 16) (st' := []) (c := ¬ (K 199 15) = (-9)) (b := (fd_rng (K 199 15) && fd_rng (-9))) rfl rfl rfl (fd_bA (fd_bR (by omega) (by omega)) (fd_bR (by omega) (by omega))) (fun h15 => ?_) (fun h15 => absurd h15 (by omega))
  refine fd_u_blk 3 (C := fd_c65) (b := true) (L' := [fd_R 199, fd_I it, u2]) (st' := [fd_I (-9), fd_I (K 199 15)]) (M' := K) rfl rfl (j := 52) rfl (rfl) ?_
  refine fd_u_br (C := fd_c65) (t := 58) (e := 53) (st' := []) (c := (K 199 15) = (-9)) (b := (fd_rng (K 199 15) && fd_rng (-9))) rfl rfl rfl (fd_bA (fd_bR (by omega) (by omega)) (fd_bR (by omega) (by omega))) (fun h52 => absurd h52 (by omega)) (fun h52 => ?_)
  refine fd_u_blk 4 (C := fd_c65) (b := true) (L' := [fd_R 199, fd_I it, u2]) (st' := [fd_I ((-10) - (K 199 15))]) (M' := K) rfl rfl (j := 57) rfl (rfl) ?_
  refine fd_u_ret (C := fd_c65) (b := true) (r' := some (fd_I ((-10) - (K 199 15)))) rfl rfl rfl (rfl) ?_ ?_
  · rfl
  · rfl

theorem fd_y_qE (K : fd_M) (hf : K 199 15 = -9) (h4 : 0 ≤ K 204 1 ∧ K 204 1 ≤ 6) (it : Int) (u2 : fd_V) : fd_run 6 65 49 [fd_R 199, fd_I it, u2] [] K (some (fd_I it)) (fd_up (fd_tdr K) 199 2 0) := by
  refine fd_u_blk 3 (C := fd_c65) (b := true) (L' := [fd_R 199, fd_I it, u2]) (st' := [fd_I (-9), fd_I (K 199 15)]) (M' := K) rfl rfl (j := 52) rfl (rfl) ?_
  refine fd_u_br (C := fd_c65) (t := 58) (e := 53) (st' := []) (c := (K 199 15) = (-9)) (b := (fd_rng (K 199 15) && fd_rng (-9))) rfl rfl rfl (fd_bA (fd_bR (by omega) (by omega)) (fd_bR (by omega) (by omega))) (fun h52 => ?_) (fun h52 => absurd h52 (by omega))
  refine fd_u_blk 1 (C := fd_c65) (b := true) (L' := [fd_R 199, fd_I it, u2]) (st' := [fd_R 199]) (M' := K) rfl rfl (j := 59) rfl (rfl) ?_
  refine fd_u_call (C := fd_c65) (d0 := 0) (mid := 64) (np := 1) (args := [fd_R 199]) (r1 := none) (M1 := (fd_tdr K)) (st' := []) rfl rfl rfl rfl rfl rfl (rfl) (fd_y_takeDraft K (by omega)) rfl (by omega) ?_
  refine fd_u_blk 4 (C := fd_c65) (b := true) (L' := [fd_R 199, fd_I it, u2]) (st' := [fd_I it]) (M' := (fd_up (fd_tdr K) 199 2 0)) rfl rfl (j := 64) rfl (rfl) ?_
  refine fd_u_ret (C := fd_c65) (b := true) (r' := some (fd_I it)) rfl rfl rfl (rfl) ?_ ?_
  · rfl
  · rfl

theorem pz_rb_le {tx : Nat → Int} {len : Nat} : ∀ (n x p : Nat) (Z : fd_M), p ≤ len → (pz_rb tx len n x p Z).2.1 ≤ len
  | 0, x, p, Z, h => h
  | n + 1, x, p, Z, h => by
    rw [pz_rb]
    split
    · exact h
    · exact pz_rb_le n (x + 1) _ _ (tk_nl h)
theorem pz_b_le {tx : Nat → Int} {len : Nat} (c : Int) {p : Nat} (h : p ≤ len) (Z : fd_M) : (pz_b tx len c p Z).2.1 ≤ len := by
  unfold pz_b
  split
  · unfold pz_wb
    split
    · exact tk_nl h
    · exact h
  · split
    · exact pz_rb_le _ _ _ _ h
    · split
      · unfold pz_db
        split
        · exact h
        · split
          · exact tk_nl h
          · split
            · exact tk_nl (tk_nl h)
            · exact tk_nl (tk_nl (tk_nl h))
      · split
        · unfold pz_pb
          split
          · exact tk_nl h
          · exact h
        · unfold pz_sb
          split
          · exact tk_nl h
          · exact h
theorem fd_l_rq {tx : Nat → Int} {len : Nat} (M : fd_M) : ∀ (n : Nat) (it : Int) (K : fd_M) (p : Nat) (Z : fd_M) (u2 : fd_V) (hx : tk_TxR tx len K) (hp : p ≤ len) (hT : tk_TR tx len p K) (hf : K 199 15 = -9) (hN : tk_RN K) (hG : pz_G Z) (hZ : tk_RZ K Z) (hR0 : it = 0 → Z 0 1 = 0) (hF : tk_RF M K) (hit : 0 ≤ it ∧ it ≤ p) (hn : len < p + n), fd_runE 6 65 12 [fd_R 199, fd_I it, u2] [] K (tk_AQ tx len M (pz_a tx len n it p Z)) := by
  intro n
  induction n with
  | zero =>
    intro it K p Z u2 hx hp hT hf hN hG hZ hR0 hF hit hn
    exfalso
    omega
  | succ n ih =>
    intro it K p Z u2 hx hp hT hf hN hG hZ hR0 hF hit hn
    obtain ⟨ta, tb, tc, td, te⟩ := id hT
    obtain ⟨zz0, zz1, zz2, zz3, zz4, zz5, zz6, zz7⟩ := id hZ
    obtain ⟨g0, g1, g2, g3, g4, g5, g6, g7, g8, g9, g10⟩ := id hG
    obtain ⟨rn1, rn2, rn3⟩ := id hN
    have lr := tk_ls_rng (tx := tx) hp
    have l1 := hx.2.1
    obtain ⟨s0, s1, s2, s3, s4, s5⟩ := tk_rs_f tx len p
    refine fd_e_blk 3 (C := fd_c65) (b := true) (L' := [fd_R 199, fd_I it, u2]) (st' := [fd_I (-9), fd_I (K 199 15)]) (M' := K) rfl rfl (j := 15) rfl (rfl) ?_
    refine fd_e_br (C := fd_c65) (t := 49) (e := 16) (st' := []) (c := ¬ (K 199 15) = (-9)) (b := (fd_rng (K 199 15) && fd_rng (-9))) rfl rfl rfl (fd_bA (fd_bR (by omega) (by omega)) (fd_bR (by omega) (by omega))) (fun h15 => absurd h15 (by omega)) (fun h15 => ?_)
    refine fd_e_blk 3 (C := fd_c65) (b := true) (L' := [fd_R 199, fd_I it, u2]) (st' := [fd_I 3, fd_I (K 199 13)]) (M' := K) rfl rfl (j := 19) rfl (rfl) ?_
    refine fd_e_br (C := fd_c65) (t := 49) (e := 20) (st' := []) (c := (K 199 13) = 3) (b := (fd_rng (K 199 13) && fd_rng 3)) rfl rfl rfl (fd_bA (fd_bR (by omega) (by omega)) (fd_bR (by omega) (by omega))) (fun h19 => ?_) (fun h19 => ?_)
    · have eA : pz_a tx len (n + 1) it p Z = ((true, p, Z), it) := by rw [pz_a, if_pos (s3.mp (by omega))]
      rw [eA]
      exact ⟨_, _, fd_y_qE K hf (by omega) it _, rfl, K, hF, hZ, rfl⟩
    · refine fd_e_blk 7 (C := fd_c65) (b := true) (L' := [fd_R 199, fd_I it, fd_I (K 199 13)]) (st' := [fd_I it, fd_I (K 199 13), fd_R 199, fd_R 199]) (M' := K) rfl rfl (j := 27) rfl (rfl) ?_
      have hmb : ∃ mb : Int, fd_call 0 59 [fd_R 199, fd_I (K 199 13), fd_I it] K (some (fd_I mb)) K ∧ ((mb = 1 ∧ pz_m tx len it p Z) ∨ (mb = 0 ∧ ¬ pz_m tx len it p Z)) := by
        obtain ⟨r, R, c, h⟩ := fd_y_mayBe K p hT Z hG hZ it (by omega)
        rcases h with ⟨e1, e2, e3⟩ | ⟨e1, e2, e3⟩
        · subst e1; subst e3; exact ⟨1, c, Or.inl ⟨rfl, e2⟩⟩
        · subst e1; subst e3; exact ⟨0, c, Or.inr ⟨rfl, e2⟩⟩
      obtain ⟨mb, cmb, hmb⟩ := hmb
      refine fd_e_call (C := fd_c65) (d0 := 0) (mid := 59) (np := 3) (args := [fd_R 199, fd_I (K 199 13), fd_I it]) (r1 := some (fd_I mb)) (M1 := K) (st' := [fd_I mb, fd_R 199]) rfl rfl rfl rfl rfl rfl (rfl) (cmb) rfl (by omega) ?_
      rcases hmb with ⟨e1, hm⟩ | ⟨e1, hm⟩
      · subst e1
        have hk0 : ¬ tk_kd tx len p = 0 := fun z => h19 (by rw [tc]; exact s3.mpr z)
        obtain ⟨rA, A, cA, eA, tA, fA⟩ := fd_y_due1 K hx p hp hT hf
        subst eA
        have hxA := tk_TxR_RA hx fA
        have hfA : A 199 15 = -9 := (fA.2 15 (by omega)).trans hf
        have hNA := tk_RN_RA hN fA tA
        have hZA := tk_RZ_RA hZ fA
        refine fd_e_call (C := fd_c65) (d0 := 2) (mid := 57) (np := 2) (args := [fd_R 199, fd_I 1]) (r1 := some (fd_I (K 199 14))) (M1 := A) (st' := [fd_I (K 199 14)]) rfl rfl rfl rfl rfl rfl (rfl) (cA) rfl (by omega) ?_
        refine fd_e_blk 4 (C := fd_c65) (b := true) (L' := [fd_R 199, fd_I it, fd_I (K 199 13)]) (st' := [fd_I (-9), fd_I (A 199 15)]) (M' := A) rfl rfl (j := 33) rfl (rfl) ?_
        refine fd_e_br (C := fd_c65) (t := 48) (e := 34) (st' := []) (c := ¬ (A 199 15) = (-9)) (b := (fd_rng (A 199 15) && fd_rng (-9))) rfl rfl rfl (fd_bA (fd_bR (by omega) (by omega)) (fd_bR (by omega) (by omega))) (fun h33 => absurd h33 (by omega)) (fun h33 => ?_)
        refine fd_e_blk 2 (C := fd_c65) (b := true) (L' := [fd_R 199, fd_I it, fd_I (K 199 13)]) (st' := [fd_I (K 199 13), fd_R 199]) (M' := A) rfl rfl (j := 36) rfl (rfl) ?_
        have ewh : K 199 13 = tk_vl tx len p := by rw [tc]; exact s4 hm.1
        obtain ⟨B, cB, -, fB, nB, hB⟩ := fd_y_readRow A hxA (tk_nx tx len p) (tk_nl hp) tA hfA hNA Z hG hZA (K 199 13) (by rw [ewh]; rcases hm.2 with ⟨v, h⟩ | ⟨v, h⟩ | ⟨v, h⟩ | ⟨v, h⟩ | ⟨v, h⟩; exact Or.inl ⟨v, hR0 h⟩; exact Or.inr (Or.inl ⟨v, by omega⟩); exact Or.inr (Or.inr (Or.inl ⟨v, by omega⟩)); exact Or.inr (Or.inr (Or.inr (Or.inl v))); exact Or.inr (Or.inr (Or.inr (Or.inr v))))
        rw [ewh] at hB
        have nB1 := nB.1
        refine fd_e_call (C := fd_c65) (d0 := 4) (mid := 62) (np := 2) (args := [fd_R 199, fd_I (K 199 13)]) (r1 := none) (M1 := B) (st' := []) rfl rfl rfl rfl rfl rfl (rfl) (cB) rfl (by omega) ?_
        have eI := pz_i_yes hm
        have oI := pz_i_ok (tx := tx) it hp hG
        have hql : (pz_b tx len (tk_vl tx len p) (tk_nx tx len p) Z).2.1 ≤ len := pz_b_le _ (tk_nl hp) Z
        by_cases hb : (pz_b tx len (tk_vl tx len p) (tk_nx tx len p) Z).1 = true
        · rw [if_pos hb] at hB
          obtain ⟨tB, zB, f9⟩ := hB
          have hxB : tk_TxR tx len B := ⟨by rw [fB.2.1 2 (by omega)]; exact hxA.1, hxA.2.1, hxA.2.2.1, by rw [fB.1 200 (by omega)]; exact hxA.2.2.2⟩
          refine fd_e_blk 4 (C := fd_c65) (b := true) (L' := [fd_R 199, fd_I it, fd_I (K 199 13)]) (st' := [fd_I 2, fd_I (B 199 13), fd_R 199]) (M' := B) rfl rfl (j := 41) rfl (rfl) ?_
          refine fd_e_br (C := fd_c65) (t := 44) (e := 42) (st' := [fd_R 199]) (c := ¬ (B 199 13) = 2) (b := (fd_rng (B 199 13) && fd_rng 2)) rfl rfl rfl (fd_bA (fd_bR (by omega) (by omega)) (fd_bR (by omega) (by omega))) (fun h41 => ?_) (fun h41 => ?_)
          · refine fd_e_blk 1 (C := fd_c65) (b := true) (L' := [fd_R 199, fd_I it, fd_I (K 199 13)]) (st' := [fd_I 0, fd_R 199]) (M' := B) rfl rfl (j := 45) rfl (rfl) ?_
            refine fd_e_call (C := fd_c65) (d0 := 2) (mid := 57) (np := 2) (args := [fd_R 199, fd_I 0]) (r1 := some (fd_I (B 199 14))) (M1 := (fd_up B 199 15 (B 199 12))) (st' := [fd_I (B 199 14)]) rfl rfl rfl rfl rfl rfl (rfl) (fd_y_due0 B f9) rfl (by omega) ?_
            refine fd_e_blk 2 (C := fd_c65) (b := true) (L' := [fd_R 199, fd_I (it + 1), fd_I (K 199 13)]) (st' := []) (M' := (fd_up B 199 15 (B 199 12))) rfl rfl (j := 48) rfl (rfl) ?_
            refine fd_e_jmp (C := fd_c65) (j := 12) (st' := []) rfl rfl (b := true) rfl rfl ?_
            have k3 : ¬ tk_kd tx len (pz_b tx len (tk_vl tx len p) (tk_nx tx len p) Z).2.1 = 3 := by have := tk_rs_f tx len (pz_b tx len (tk_vl tx len p) (tk_nx tx len p) Z).2.1; rw [tB.2.2.1] at h41; exact fun z => h41 (this.2.2.1.mpr z)
            have eJ : pz_i tx len it p Z = (false, (pz_b tx len (tk_vl tx len p) (tk_nx tx len p) Z).2.1, (pz_b tx len (tk_vl tx len p) (tk_nx tx len p) Z).2.2) := by rw [eI]; unfold pz_eb pz_e; rw [if_pos hb, if_neg k3]
            have hno : ¬ (pz_i tx len it p Z).1 = true := by rw [eJ]; exact fun z => by cases z
            have eA : pz_a tx len (n + 1) it p Z = (pz_i tx len it p Z, it) := by rw [pz_a, if_neg hk0, if_neg hno]
            rw [eA]
            have lq := tk_ls_rng (tx := tx) hql
            have eb : B 199 12 = (tk_ls tx len (pz_b tx len (tk_vl tx len p) (tk_nx tx len p) Z).2.1 : Int) := tB.2.1
            refine ⟨_, _, fd_y_qF (fd_up B 199 15 (B 199 12)) (by show ¬ B 199 12 = -9; omega) (by show 0 ≤ B 199 12 ∧ B 199 12 ≤ 1000; omega) _ _, ?_, ?_⟩
            · rw [if_neg hno, eJ]; show some (fd_I (-10 - B 199 12)) = _; rw [eb]
            · rw [if_neg hno]; exact tk_RF_tr hF (tk_RF_tr (tk_RF_tr (tk_RF_RA fA) fB) (tk_RF_up _ _ (by omega)))
          · refine fd_e_blk 1 (C := fd_c65) (b := true) (L' := [fd_R 199, fd_I it, fd_I (K 199 13)]) (st' := [fd_I 1, fd_R 199]) (M' := B) rfl rfl (j := 43) rfl (rfl) ?_
            refine fd_e_jmp (C := fd_c65) (j := 45) (st' := [fd_I 1, fd_R 199]) rfl rfl (b := true) rfl rfl ?_
            have k3 : tk_kd tx len (pz_b tx len (tk_vl tx len p) (tk_nx tx len p) Z).2.1 = 3 := by have := tk_rs_f tx len (pz_b tx len (tk_vl tx len p) (tk_nx tx len p) Z).2.1; rw [tB.2.2.1] at h41; exact this.2.2.1.mp (Classical.not_not.mp h41)
            obtain ⟨rC, C, cC, eC, tC, fC⟩ := fd_y_due1 B hxB (pz_b tx len (tk_vl tx len p) (tk_nx tx len p) Z).2.1 hql tB f9
            subst eC
            refine fd_e_call (C := fd_c65) (d0 := 2) (mid := 57) (np := 2) (args := [fd_R 199, fd_I 1]) (r1 := some (fd_I (B 199 14))) (M1 := C) (st' := [fd_I (B 199 14)]) rfl rfl rfl rfl rfl rfl (rfl) (cC) rfl (by omega) ?_
            refine fd_e_blk 2 (C := fd_c65) (b := true) (L' := [fd_R 199, fd_I (it + 1), fd_I (K 199 13)]) (st' := []) (M' := C) rfl rfl (j := 48) rfl (rfl) ?_
            refine fd_e_jmp (C := fd_c65) (j := 12) (st' := []) rfl rfl (b := true) rfl rfl ?_
            have eJ : pz_i tx len it p Z = (true, tk_nx tx len (pz_b tx len (tk_vl tx len p) (tk_nx tx len p) Z).2.1, (pz_b tx len (tk_vl tx len p) (tk_nx tx len p) Z).2.2) := by rw [eI]; unfold pz_eb pz_e; rw [if_pos hb, if_pos k3]
            have eA : pz_a tx len (n + 1) it p Z = pz_a tx len n (it + 1) (tk_nx tx len (pz_b tx len (tk_vl tx len p) (tk_nx tx len p) Z).2.1) (pz_b tx len (tk_vl tx len p) (tk_nx tx len p) Z).2.2 := by rw [pz_a, if_neg hk0, eJ, if_pos rfl]
            rw [eA]
            rw [eJ] at oI
            refine ih (it + 1) C (tk_nx tx len (pz_b tx len (tk_vl tx len p) (tk_nx tx len p) Z).2.1) (pz_b tx len (tk_vl tx len p) (tk_nx tx len p) Z).2.2 _ (tk_TxR_RA hxB fC) oI.1.1 tC ((fC.2 15 (by omega)).trans f9) (tk_RN_RA nB fC tC) oI.2 (tk_RZ_RA zB fC) (fun z => by omega) (tk_RF_tr hF (tk_RF_tr (tk_RF_tr (tk_RF_RA fA) fB) (tk_RF_RA fC))) ?_ ?_
            · have := oI.1.2 rfl
              have : it + 1 ≤ ((tk_nx tx len (pz_b tx len (tk_vl tx len p) (tk_nx tx len p) Z).2.1 : Nat) : Int) := by have h5 : p < tk_nx tx len (pz_b tx len (tk_vl tx len p) (tk_nx tx len p) Z).2.1 := oI.1.2 rfl; omega
              omega
            · have h5 : p < tk_nx tx len (pz_b tx len (tk_vl tx len p) (tk_nx tx len p) Z).2.1 := oI.1.2 rfl
              omega
        · rw [if_neg hb] at hB
          have eJ : pz_i tx len it p Z = (pz_b tx len (tk_vl tx len p) (tk_nx tx len p) Z) := by rw [eI]; unfold pz_eb; rw [if_neg hb]
          have hno : ¬ (pz_i tx len it p Z).1 = true := by rw [eJ]; exact hb
          have eA : pz_a tx len (n + 1) it p Z = (pz_i tx len it p Z, it) := by rw [pz_a, if_neg hk0, if_neg hno]
          rw [eA]
          have lq := tk_ls_rng (tx := tx) hql
          refine fd_e_blk 4 (C := fd_c65) (b := true) (L' := [fd_R 199, fd_I it, fd_I (K 199 13)]) (st' := [fd_I 2, fd_I (B 199 13), fd_R 199]) (M' := B) rfl rfl (j := 41) rfl (rfl) ?_
          refine fd_e_br (C := fd_c65) (t := 44) (e := 42) (st' := [fd_R 199]) (c := ¬ (B 199 13) = 2) (b := (fd_rng (B 199 13) && fd_rng 2)) rfl rfl rfl (fd_bA (fd_bR (by omega) (by omega)) (fd_bR (by omega) (by omega))) (fun h41 => ?_) (fun h41 => ?_)
          · refine fd_e_blk 1 (C := fd_c65) (b := true) (L' := [fd_R 199, fd_I it, fd_I (K 199 13)]) (st' := [fd_I 0, fd_R 199]) (M' := B) rfl rfl (j := 45) rfl (rfl) ?_
            refine fd_e_call (C := fd_c65) (d0 := 2) (mid := 57) (np := 2) (args := [fd_R 199, fd_I 0]) (r1 := some (fd_I (B 199 14))) (M1 := B) (st' := [fd_I (B 199 14)]) rfl rfl rfl rfl rfl rfl (rfl) (fd_y_dueF B (by omega) (by omega) 0) rfl (by omega) ?_
            refine fd_e_blk 2 (C := fd_c65) (b := true) (L' := [fd_R 199, fd_I (it + 1), fd_I (K 199 13)]) (st' := []) (M' := B) rfl rfl (j := 48) rfl (rfl) ?_
            refine fd_e_jmp (C := fd_c65) (j := 12) (st' := []) rfl rfl (b := true) rfl rfl ?_
            refine ⟨_, _, fd_y_qF B (by omega) (by omega) _ _, ?_, ?_⟩
            · rw [if_neg hno, eJ, hB]
            · rw [if_neg hno]; exact tk_RF_tr hF (tk_RF_tr (tk_RF_RA fA) fB)
          · refine fd_e_blk 1 (C := fd_c65) (b := true) (L' := [fd_R 199, fd_I it, fd_I (K 199 13)]) (st' := [fd_I 1, fd_R 199]) (M' := B) rfl rfl (j := 43) rfl (rfl) ?_
            refine fd_e_jmp (C := fd_c65) (j := 45) (st' := [fd_I 1, fd_R 199]) rfl rfl (b := true) rfl rfl ?_
            refine fd_e_call (C := fd_c65) (d0 := 2) (mid := 57) (np := 2) (args := [fd_R 199, fd_I 1]) (r1 := some (fd_I (B 199 14))) (M1 := B) (st' := [fd_I (B 199 14)]) rfl rfl rfl rfl rfl rfl (rfl) (fd_y_dueF B (by omega) (by omega) 1) rfl (by omega) ?_
            refine fd_e_blk 2 (C := fd_c65) (b := true) (L' := [fd_R 199, fd_I (it + 1), fd_I (K 199 13)]) (st' := []) (M' := B) rfl rfl (j := 48) rfl (rfl) ?_
            refine fd_e_jmp (C := fd_c65) (j := 12) (st' := []) rfl rfl (b := true) rfl rfl ?_
            refine ⟨_, _, fd_y_qF B (by omega) (by omega) _ _, ?_, ?_⟩
            · rw [if_neg hno, eJ, hB]
            · rw [if_neg hno]; exact tk_RF_tr hF (tk_RF_tr (tk_RF_RA fA) fB)
      · subst e1
        have hk0 : ¬ tk_kd tx len p = 0 := fun z => h19 (by rw [tc]; exact s3.mpr z)
        refine fd_e_call (C := fd_c65) (d0 := 2) (mid := 57) (np := 2) (args := [fd_R 199, fd_I 0]) (r1 := some (fd_I (K 199 14))) (M1 := (fd_up K 199 15 (K 199 12))) (st' := [fd_I (K 199 14)]) rfl rfl rfl rfl rfl rfl (rfl) (fd_y_due0 K hf) rfl (by omega) ?_
        refine fd_e_blk 4 (C := fd_c65) (b := true) (L' := [fd_R 199, fd_I it, fd_I (K 199 13)]) (st' := [fd_I (-9), fd_I (K 199 12)]) (M' := (fd_up K 199 15 (K 199 12))) rfl rfl (j := 33) rfl (rfl) ?_
        refine fd_e_br (C := fd_c65) (t := 48) (e := 34) (st' := []) (c := ¬ (K 199 12) = (-9)) (b := (fd_rng (K 199 12) && fd_rng (-9))) rfl rfl rfl (fd_bA (fd_bR (by omega) (by omega)) (fd_bR (by omega) (by omega))) (fun h33 => ?_) (fun h33 => absurd h33 (by show ¬ ¬ ¬ K 199 12 = -9; omega))
        refine fd_e_jmp (C := fd_c65) (j := 12) (st' := []) rfl rfl (b := true) rfl rfl ?_
        have eJ : pz_i tx len it p Z = (false, p, Z) := pz_i_no hG hm
        have hno : ¬ (pz_i tx len it p Z).1 = true := by rw [eJ]; exact fun z => by cases z
        have eA : pz_a tx len (n + 1) it p Z = (pz_i tx len it p Z, it) := by rw [pz_a, if_neg hk0, if_neg hno]
        rw [eA]
        refine ⟨_, _, fd_y_qF (fd_up K 199 15 (K 199 12)) (by show ¬ K 199 12 = -9; omega) (by show 0 ≤ K 199 12 ∧ K 199 12 ≤ 1000; omega) _ _, ?_, ?_⟩
        · rw [if_neg hno, eJ]; show some (fd_I (-10 - K 199 12)) = _; rw [tb]
        · rw [if_neg hno]; exact tk_RF_tr hF (tk_RF_up _ _ (by omega))

theorem fd_y_quarter {tx : Nat → Int} {len : Nat} (K : fd_M) (hx : tk_TxR tx len K) (Y : fd_M) (hG0 : pz_G (pz_0 Y)) : fd_callE 6 65 [fd_R 199] K (tk_AQ tx len K (pz_rd tx len Y)) := by
  refine fd_e_in (L := [fd_R 199, fd_R 1003, fd_R 1003]) rfl ?_
  refine fd_e_blk 7 (C := fd_c65) (b := true) (L' := [fd_R 199, fd_R 1003, fd_R 1003]) (st' := [fd_R 199]) (M' := (fd_up (fd_up K 199 11 0) 199 15 (-9))) rfl rfl (j := 7) rfl (rfl) ?_
  refine fd_e_call (C := fd_c65) (d0 := 0) (mid := 63) (np := 1) (args := [fd_R 199]) (r1 := none) (M1 := (fd_pln (fd_up (fd_up K 199 11 0) 199 15 (-9)))) (st' := []) rfl rfl rfl rfl rfl rfl (rfl) (fd_y_plain (fd_up (fd_up K 199 11 0) 199 15 (-9))) rfl (by omega) ?_
  refine fd_e_blk 3 (C := fd_c65) (b := true) (L' := [fd_R 199, fd_I 0, fd_R 1003]) (st' := [fd_R 199]) (M' := (fd_pln (fd_up (fd_up K 199 11 0) 199 15 (-9)))) rfl rfl (j := 11) rfl (rfl) ?_
  obtain ⟨A, cA, tA, fA⟩ := fd_y_step (fd_pln (fd_up (fd_up K 199 11 0) 199 15 (-9))) (by have z := hx; exact z) (p := 0) rfl (Nat.zero_le _)
  refine fd_e_call (C := fd_c65) (d0 := 1) (mid := 56) (np := 1) (args := [fd_R 199]) (r1 := none) (M1 := A) (st' := []) rfl rfl rfl rfl rfl rfl (rfl) (cA) rfl (by omega) ?_
  have sr := (tk_rs_f tx len 0).1
  have hNA : tk_RN A := ⟨by rw [tA.2.2.1]; omega, tA.2.2.2.2, fun k hk => by rw [fA.1 203 (by decide), fd_pln_g _ hk]; omega⟩
  have hFA : tk_RF K A := tk_RF_tr (tk_RF_tr (tk_RF_tr (tk_RF_up K (c := 199) (k := 11) 0 (by omega)) (tk_RF_up _ (c := 199) (k := 15) (-9) (by omega))) (fd_pln_RF _)) (tk_RF_RA fA)
  exact fd_l_rq K (len + 1) 0 A 0 (pz_0 Y) _ (tk_TxR_RA (M := (fd_pln (fd_up (fd_up K 199 11 0) 199 15 (-9)))) (by have z := hx; exact z) fA) (Nat.zero_le _) tA ((fA.2 15 (by omega)).trans rfl) hNA hG0 (tk_RZ_RA (fd_pln_RZ _ Y) fA) (fun _ => rfl) hFA (by omega) (by omega)


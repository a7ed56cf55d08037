/-! turn -/
theorem tn_su (f : Nat → Int) : ∀ n : Nat, fd_su f n 0 = fd_sum f n
  | 0 => rfl
  | n + 1 => by
    rw [fd_su_last, tn_su f n, Nat.zero_add]
    rfl
theorem tn_flo {M : fd_M} {D : Nat} {j : Nat} (hj : j < D) {w : Int} (hw : 0 ≤ w ∧ w ≤ 3) : fd_flo M (4 * D) 74 ((j : Int) * 4 + w).toNat = fd_nb (fd_wsee M j w) ∧ fd_flo M (4 * D) 75 ((j : Int) * 4 + w).toNat = fd_bi (fd_vac M j w) := by
  have e : ((j : Int) * 4 + w).toNat = 4 * j + w.toNat := by omega
  have e1 : (4 * j + w.toNat) / 4 = j := by omega
  have e2 : (((4 * j + w.toNat) % 4 : Nat) : Int) = w := by omega
  rw [e]
  constructor
  · unfold fd_flo
    rw [if_pos (by omega), e1, e2]
  · unfold fd_flo
    rw [if_neg (by omega), if_pos (by omega), e1, e2]
theorem fd_o_turn : fd_op fd_Rel 15 97 1 := fd_op1 fun M h d hd => by
  have hG := fd_Rel_CG h
  have h76 : ∀ k : Nat, 0 ≤ M 76 k ∧ M 76 k ≤ 3 := h.1.2.2.2.2.2.2.2.2.2.1
  have hD := fd_Rel_D h
  have a := fd_x_turn M hG h76 d hd
  obtain ⟨-, tv, sm⟩ := fd_trn_ok hG h76
  have t0 : ∀ c, c ≠ 73 → c ≠ 74 → c ≠ 75 → fd_tr0 M c = M c := fun c h1 h2 h3 => by
    unfold fd_tr0
    rw [fd_up_ne h1, fd_flo_fr h2 h3]
  have tr : ∀ c, ¬ (73 ≤ c ∧ c ≤ 77) → fd_trn M c = M c := fun c hc => by
    rw [sm c (by omega) (by omega) (by omega), t0 c (by omega) (by omega) (by omega)]
  have y : ∀ c, ¬ (73 ≤ c ∧ c ≤ 77) → fd_Y_turn M d c = M c := fun c hc => by
    unfold fd_Y_turn
    split
    · rfl
    · exact tr c hc
  have h1 : fd_Rel (fd_Y_turn M d) := by
    refine fd_Rel_tmp h (fun c k1 k2 k3 k4 k5 => y c (by omega)) ?_
    unfold fd_Y_turn
    split
    · exact h76
    · exact tv.2.1
  obtain ⟨r, R, b, er, sR⟩ := fd_r_turn (fd_Y_turn M d) (fd_Rel_RP h1) (fd_Rel_RS h1) d hd
  subst er
  obtain ⟨p0, p1, p2, p3, p4, -⟩ := h1.2.2.2.1
  have e3 : fd_Y_turn M d 3 = M 3 := y 3 (by omega)
  rw [e3] at p2 p3 p4
  generalize hT : fd_tak (fd_Y_turn M d) = T at *
  have sT : fd_smR (fd_Y_turn M d) T := hT ▸ fd_smR_tak _
  have t4 : T 204 0 = M 3 2 := by rw [sT.1 204 (by decide) (by decide), p2]
  have SN := fd_Rel_SN h
  have hA : tn_A M := ⟨fun k hk => (SN.1 k hk).2.1, SN.2.1⟩
  have w1 : fd_wsee (fd_Y_turn M d) = fd_wsee M := fd_wsee_of e3 (y 4 (by omega)) (y 14 (by omega)) (y 15 (by omega)) (y 16 (by omega))
  have c1 : fd_cvC (fd_Y_turn M d) = fd_cvC M := fd_cvC_of e3 (y 4 (by omega)) (by rw [y 14 (by omega)]) (y 15 (by omega)) (y 16 (by omega))
  have v1 : ∀ (j : Nat) (w : Int), fd_vac (fd_Y_turn M d) j w ↔ fd_vac M j w := fun j w => by
    unfold fd_vac
    rw [c1, y 15 (by omega), y 16 (by omega)]
  have B3 : fd_tr0 M 3 = M 3 := t0 3 (by decide) (by decide) (by decide)
  have B14 : fd_tr0 M 14 = M 14 := t0 14 (by decide) (by decide) (by decide)
  have B17 : fd_tr0 M 17 = M 17 := t0 17 (by decide) (by decide) (by decide)
  have B74 : fd_tr0 M 74 = fd_flo M (4 * (M 3 2).toNat) 74 := by unfold fd_tr0; rw [fd_up_ne (by decide)]
  have B75 : fd_tr0 M 75 = fd_flo M (4 * (M 3 2).toNat) 75 := by unfold fd_tr0; rw [fd_up_ne (by decide)]
  have hH : tn_H (fd_tr0 M) (M 3 2).toNat (fd_okc' T) (fd_key T) := by
    refine ⟨(fd_tr0_TV hG h76).1, by omega, fun j w hj hw => ?_, fun c => ?_, fun c => ?_⟩
    · rw [B74, (tn_flo hj hw).1]
      have := fd_wsee_rng hG j w
      unfold fd_nb
      split <;> omega
    · rw [fd_ok_iff h1 sT c, e3]
      constructor
      · intro q j hj
        have z := (v1 j _).mp (q j (by omega))
        rw [B75, (tn_flo hj (fd_dg_rng _ _ _)).2]
        unfold fd_bi
        rw [if_pos z]
        decide
      · intro q j hj
        have z := q j (by omega)
        rw [B75, (tn_flo (by omega) (fd_dg_rng _ _ _)).2] at z
        apply (v1 j _).mpr
        apply Classical.byContradiction
        intro w
        apply z
        unfold fd_bi
        rw [if_neg w]
    · unfold fd_key
      rw [t4, tn_su]
      have g := tn_total (B := fd_tr0 M) hG hA B3 B14 (fun j w hj hw => by rw [B74]; exact (tn_flo (by omega) hw).1) (fd_dg (M 3 2).toNat c) (fun k => fd_dg_rng _ _ _)
      rw [g]
      have f1 : fd_sum (fd_dR (fd_wy T (M 3 2).toNat c)) (M 3 2).toNat = fd_sum (fun j => fd_due (fd_dg (M 3 2).toNat c) (M 3 3) (if M 14 7 = 1 ∨ ¬ M 14 4 / 2 ^ j % 2 = 1 then -9 else fd_wsee M j (fd_dg (M 3 2).toNat c j)) j) (M 3 2).toNat := by
        refine fd_sum_congr _ (fun j hj => ?_)
        have jd : (j : Int) < M 3 2 := by omega
        have sm2 := fd_smR_tr sT (fd_wy_sm T (M 3 2).toNat c)
        have to1 : T 199 19 = M 14 4 := by rw [← hT, (fd_Rel_to h1).1, y 14 (by omega)]
        have to2 : T 199 20 = M 14 7 := by rw [← hT, (fd_Rel_to h1).2, y 14 (by omega)]
        have es : fd_sR (fd_wy T (M 3 2).toNat c) j = if M 14 7 = 1 ∨ ¬ M 14 4 / 2 ^ j % 2 = 1 then -9 else fd_wsee M j (fd_dg (M 3 2).toNat c j) := by
          unfold fd_sR
          rw [fd_wy_fr (a := 199) (by decide), to1, to2, fd_wy_at hj, fd_wR_sm sm2, fd_Rel_w h1 (by rw [e3]; exact jd), w1]
        have rg := fd_wsee_rng hG j (fd_dg (M 3 2).toNat c j)
        unfold fd_dR
        rw [es, show fd_wy T (M 3 2).toNat c 207 0 = M 3 3 by rw [sm2.1 207 (by decide) (by decide), p3]]
        refine fd_due_c (fd_wy_at hj) (fun z => fd_wy_at ?_)
        by_cases q : M 14 7 = 1 ∨ ¬ M 14 4 / 2 ^ j % 2 = 1
        · rw [if_pos q] at z; exact absurd rfl z
        · rw [if_neg q] at z ⊢; omega
      have f2 : fd_sum (fd_ct T (M 3 2).toNat c) (M 3 2).toNat = fd_sum (tn_tu (fd_tr0 M) (fd_dg (M 3 2).toNat c)) (M 3 2).toNat := by
        refine fd_sum_congr _ (fun j hj => ?_)
        unfold fd_ct tn_tu
        rw [B17, sT.1 208 (by decide) (by decide), y 208 (by omega), (SN.1 j (by omega)).1.2.1]
      rw [f1, f2]
  have m := tn_main hH (M 3 2).toNat 0 (by omega) 0 0 0 (fd_tr0 M) (-9, 0) (fun _ _ _ _ => rfl) (fun j hj => absurd hj (by omega)) rfl rfl (fun j hj => absurd hj (by omega)) (Or.inl ⟨rfl, rfl⟩)
  have mR : tn_R (M 3 2).toNat (fd_trn M) (fd_tf (fd_okc' T) (fd_key T) (4 ^ (M 3 2).toNat)) := by
    have := m.1
    rw [Nat.zero_mul, tn_sc_tf] at this
    exact this
  have e : fd_A_turn (fd_Y_turn M d) d = fd_X_turn M d := by
    unfold fd_A_turn fd_X_turn
    rw [p2, hT]
    by_cases k : d = -1 ∨ d = -2 ∨ (0 ≤ d ∧ d < M 3 2)
    · rw [if_neg (show ¬ ¬ (-2 ≤ d ∧ d ≤ M 3 2 - 1) by omega), if_neg (not_not_intro k)]
      generalize fd_tf (fd_okc' T) (fd_key T) (4 ^ (M 3 2).toNat) = s at mR
      rcases mR with ⟨r1, r2⟩ | ⟨r1, r2, r3, r4, r5⟩
      · rw [if_pos r2, if_pos r1]
      · rw [if_neg (show ¬ s.1 = -9 by omega), if_neg (show ¬ fd_trn M 73 7 = 0 by omega)]
        by_cases k1 : d = -1
        · rw [if_pos k1, if_pos k1]; omega
        · rw [if_neg k1, if_neg k1]
          by_cases k2 : d = -2
          · rw [if_pos k2, if_pos k2]; omega
          · rw [if_neg k2, if_neg k2]
            exact (r5 d.toNat (by omega)).symm
    · rw [if_pos (show ¬ (-2 ≤ d ∧ d ≤ M 3 2 - 1) by omega), if_pos k]
  rw [e] at b
  exact ⟨_, _, _, fd_callD a (by omega), fd_callD b (by decide), fd_Rel_sm h1 sR⟩

/-! more calls that ask, and small changes -/
theorem fd_o_type : fd_op fd_Rel 1 53 1 := fd_op1 fun M h c hc => by
  obtain ⟨t1, t2, t3, t4, t5, t6, t7, t8⟩ := id h.2.2.1
  have a := fd_x_type M c hc t5.1
  have e2 : fd_Y_type M c 199 = M 199 := by
    unfold fd_Y_type
    split
    · rw [fd_up_ne (by decide), fd_up_ne (by decide)]
    · rfl
  have b := fd_r_type (fd_Y_type M c) (by rw [e2, t6]; exact t5.1) c hc
  have e : fd_A_type (fd_Y_type M c) c = fd_X_type M c := by
    unfold fd_A_type fd_X_type
    rw [e2, t6]
  rw [e] at b
  refine ⟨_, _, _, fd_callD a (by decide), fd_callD b (by decide), ?_⟩
  unfold fd_B_type
  by_cases hb : 0 ≤ c ∧ c ≤ 255
  · rw [if_neg (not_not_intro hb), e2, t6]
    by_cases hl : M 1 1 = 150
    · rw [if_pos hl]
      unfold fd_Y_type
      rw [if_neg (by omega)]
      exact h
    · rw [if_neg hl]
      have ey : fd_Y_type M c = fd_up (fd_up M 2 (M 1 1).toNat c) 1 1 (M 1 1 + 1) := by
        have l5 := t5.1
        unfold fd_Y_type
        rw [if_pos (by omega)]
      rw [ey]
      refine fd_Rel_T h (fun k hk => ?_) ?_
      · rw [fd_up_ne (by omega), fd_up_ne (by omega), fd_up_ne (by omega), fd_up_ne (by omega)]
      · have e200 : ∀ k, fd_up M 200 (M 1 1).toNat (fd_i2b c) 200 k = fd_i2b (fd_up M 2 (M 1 1).toNat c 2 k) := fun k => by
          rw [fd_up_at, fd_up_at]
          split
          · rfl
          · exact t7 k
        exact ⟨t1, t2, t3, t4, ⟨(by show 0 ≤ M 1 1 + 1 ∧ M 1 1 + 1 ≤ 150; have := t5.1; omega), fd_up_all (P := fun z => 0 ≤ z ∧ z ≤ 255) (M := M) (c := 2) t5.2 hb⟩, rfl, e200, t8⟩
  · rw [if_pos hb]
    unfold fd_Y_type
    rw [if_neg (by omega)]
    exact h
theorem fd_o_tells : fd_op fd_Rel 18 100 2 := fd_op2 fun M h d w hd hw => by
  obtain ⟨t1, t2, t3, t4, t5, t6, t7, t8⟩ := id h.2.2.1
  have p2 := h.2.2.2.1.2.2.1
  have a := fd_x_tells M (fd_Rel_CG h) t1.1 d hd w hw
  have fr : ∀ c, c ≠ 78 → c ≠ 79 → c ≠ 80 → fd_Y_tells M d w c = M c := fun c h1 h2 h3 => by
    unfold fd_Y_tells
    split
    · rfl
    · split
      · rfl
      · rw [fd_up_ne h1, fd_up_ne h3, fd_up_ne h2]
  have b := fd_r_tells (fd_Y_tells M d w) (fd_RP_of (fd_Rel_RP h) (fr _ (by decide) (by decide) (by decide)) (fr _ (by decide) (by decide) (by decide)) (fr _ (by decide) (by decide) (by decide)) (fr _ (by decide) (by decide) (by decide)) (fr _ (by decide) (by decide) (by decide))) (by rw [fr 199 (by decide) (by decide) (by decide), t2]; exact t1.1) d hd w hw
  have e2 : fd_Y_tells M d w 199 23 = M 78 2 := by rw [fr 199 (by decide) (by decide) (by decide)]; exact t2
  have e4 : fd_Y_tells M d w 204 0 = M 3 2 := by rw [fr 204 (by decide) (by decide) (by decide)]; exact p2
  have e : fd_A_tells (fd_Y_tells M d w) d w = fd_X_tells M d w := by
    unfold fd_A_tells fd_X_tells
    rw [e2, e4]
    by_cases hc : 0 ≤ d ∧ d < M 3 2 ∧ 0 ≤ w ∧ w ≤ 99
    · rw [if_neg (not_not_intro hc), if_neg (not_not_intro hc)]
      by_cases h6 : M 78 2 = 6
      · rw [if_pos h6, if_pos (by omega)]
      · rw [if_neg h6, if_neg (by have := t1.1; omega)]
    · rw [if_pos hc, if_pos hc]
  rw [e] at b
  refine ⟨_, _, _, fd_callD a (by decide), fd_callD b (by decide), ?_⟩
  unfold fd_B_tells
  rw [e2, e4]
  by_cases hc : 0 ≤ d ∧ d < M 3 2 ∧ 0 ≤ w ∧ w ≤ 99
  · rw [if_neg (not_not_intro hc)]
    have r1 := t1.1
    by_cases h6 : M 78 2 = 6
    · rw [if_pos h6]
      unfold fd_Y_tells
      rw [if_neg (not_not_intro hc), if_pos (by omega)]
      exact h
    · rw [if_neg h6]
      have ey : fd_Y_tells M d w = fd_up (fd_up (fd_up M 79 (M 78 2).toNat d) 80 (M 78 2).toNat w) 78 2 (M 78 2 + 1) := by
        unfold fd_Y_tells
        rw [if_neg (not_not_intro hc), if_neg (by omega)]
      rw [ey]
      refine fd_Rel_T h (fun k hk => ?_) ?_
      · rw [fd_up_ne (by omega), fd_up_ne (by omega), fd_up_ne (by omega), fd_up_ne (by omega), fd_up_ne (by omega), fd_up_ne (by omega)]
      · have e211 : fd_up M 211 (M 78 2).toNat d 211 = fd_up M 79 (M 78 2).toNat d 79 := by
          funext k
          rw [fd_up_at, fd_up_at, t3]
        have e212 : fd_up M 212 (M 78 2).toNat w 212 = fd_up M 80 (M 78 2).toNat w 80 := by
          funext k
          rw [fd_up_at, fd_up_at, t4]
        refine ⟨⟨(by show 0 ≤ M 78 2 + 1 ∧ M 78 2 + 1 ≤ 6; omega), fun i hi => ?_⟩, rfl, e211, e212, t5, t6, t7, t8⟩
        have hi2 : (i : Int) < M 78 2 + 1 := hi
        show (0 ≤ fd_up M 79 (M 78 2).toNat d 79 i ∧ fd_up M 79 (M 78 2).toNat d 79 i < M 3 2) ∧ (0 ≤ fd_up M 80 (M 78 2).toNat w 80 i ∧ fd_up M 80 (M 78 2).toNat w 80 i ≤ 99)
        rw [fd_up_at, fd_up_at]
        by_cases hh : i = (M 78 2).toNat
        · rw [if_pos hh, if_pos hh]; omega
        · rw [if_neg hh, if_neg hh]; exact t1.2 i (by omega)
  · rw [if_pos hc]
    unfold fd_Y_tells
    rw [if_pos hc]
    exact h
theorem fd_Rel_wb {M : fd_M} (h : fd_Rel M) : fd_bits (fun j => fd_vR (fd_tak M) j (fd_tak M 210 j)) (M 204 0).toNat = fd_bits (fun j => fd_cvC M (M 15 j + fd_sx (M 17 j)) (M 16 j + fd_sy (M 17 j)) = 0) (M 3 2).toNat := by
  rw [h.2.2.2.1.2.2.1]
  refine fd_bits_congr _ (fun j hj => ?_)
  rw [fd_Rel_tw h (by omega)]
  exact (fd_vR_sm (fd_smR_tak M) j _).trans (fd_Rel_v h (by omega) _)
theorem fd_Rel_pairs {M : fd_M} (h : fd_Rel M) : fd_sum (fun j => if fd_sR (fd_tak M) j > j ∧ fd_sR (fd_tak M) (fd_sR (fd_tak M) j).toNat = j then 1 else 0) (M 204 0).toNat = fd_sum (fun j => if fd_nb (fd_sw M j) > j ∧ fd_nb (fd_sw M (fd_nb (fd_sw M j)).toNat) = j then 1 else 0) (M 3 2).toNat := by
  rw [h.2.2.2.1.2.2.1]
  refine fd_sum_congr _ (fun j hj => ?_)
  rw [fd_Rel_s h (by omega)]
  have r := fd_sw_rng (fd_Rel_CG h) j
  rcases r with r | r
  · rw [if_neg (by omega), if_neg (by unfold fd_nb; rw [if_pos r]; omega)]
  · have en : fd_nb (fd_sw M j) = fd_sw M j := by unfold fd_nb; rw [if_neg (by omega)]
    rw [en, fd_Rel_s h (by omega)]
    have r2 := fd_sw_rng (fd_Rel_CG h) (fd_sw M j).toNat
    have z := fd_nb_eq (d := j) (show fd_sw M (fd_sw M j).toNat = -9 ∨ 0 ≤ fd_sw M (fd_sw M j).toNat by omega)
    by_cases c : fd_sw M j > j ∧ fd_sw M (fd_sw M j).toNat = j
    · rw [if_pos c, if_pos ⟨c.1, z.mpr c.2⟩]
    · rw [if_neg c, if_neg (fun q => c ⟨q.1, z.mp q.2⟩)]
theorem fd_Rel_carts {M : fd_M} (h : fd_Rel M) : fd_sum (fun y => fd_many (M 208 (21 + y))) 7 = fd_lbc (M 14 5) := by
  rw [fd_lbc_eq h.2.1.1.2.2.2.2.2.1]
  refine fd_sum_congr 7 (fun y hy => ?_)
  rw [(fd_Rel_SN h).2.2.2.2.2 y hy]
theorem fd_o_now : fd_op fd_Rel 14 94 1 := fd_op1 fun M h w hw => by
  have a := fd_x_now M (fd_Rel_CG h) w hw
  have b := fd_r_now M (fd_Rel_RP h) (fd_Rel_RS h) w hw
  have e : fd_A_now (fd_tak M) w = fd_X_now M w := by
    obtain ⟨n1, n2, n3, n4, n5, n6⟩ := fd_Rel_SN h
    have t4 : fd_tak M 204 = M 204 := fd_tak_fr (by decide) (by decide)
    have t8 : fd_tak M 208 = M 208 := fd_tak_fr (by decide) (by decide)
    have ow : fd_sum (fun j => M 208 (15 + j)) (M 204 0).toNat = fd_sum (M 18) (M 3 2).toNat := by
      rw [h.2.2.2.1.2.2.1]
      exact fd_sum_congr _ (fun j hj => (n1 j (by omega)).1.2.2)
    have t40 : fd_tak M 204 0 = M 204 0 := by rw [t4]
    have s12 : fd_tak M 208 12 = M 14 4 := by rw [t8]; exact n3
    have s13 : fd_tak M 208 13 = M 14 6 := by rw [t8]; exact n4
    have s14 : fd_tak M 208 14 = M 14 7 := by rw [t8]; exact n5
    have c8 : fd_sum (fun y => fd_many (fd_tak M 208 (21 + y))) 7 = fd_lbc (M 14 5) := by rw [t8]; exact fd_Rel_carts h
    have o8 : fd_sum (fun j => fd_tak M 208 (15 + j)) (M 204 0).toNat = fd_sum (M 18) (M 3 2).toNat := by rw [t8]; exact ow
    unfold fd_A_now fd_X_now
    rw [t40, fd_Rel_ds h, s12, fd_Rel_wb h, fd_Rel_pairs h, c8, s13, s14, o8]
  rw [e] at b
  exact ⟨_, M, _, fd_callD a (by decide), fd_callD b (by decide), fd_Rel_sm h (fd_smR_tak M)⟩
theorem fd_o_mark : fd_op fd_Rel 23 107 2 := fd_op2 fun M h k d hk hd => by
  obtain ⟨t1, t2, t3, t4, t5, t6, t7, t8⟩ := id h.2.2.1
  have a := fd_x_mark M (fd_Rel_CG h) k hk d hd
  have h1 : fd_Rel (fd_up (fd_up M 0 12 (M 0 12 + fd_Z_mark M k d)) 199 0 (M 0 12 + fd_Z_mark M k d)) := fd_Rel_T h (fun c hc => by rw [fd_up_ne (by omega), fd_up_ne (by omega)]) ⟨t1, t2, t3, t4, t5, t6, t7, rfl⟩
  have b := fd_r_mark (fd_up M 0 12 (M 0 12 + fd_Z_mark M k d)) (by have z := fd_Rel_RP h; exact z) (by have z := fd_Rel_RS h; exact z) k hk d hd
  have p2 := h.2.2.2.1.2.2.1
  have eT : fd_tak (fd_up M 0 12 (M 0 12 + fd_Z_mark M k d)) = fd_up (fd_tak M) 0 12 (M 0 12 + fd_Z_mark M k d) := by
    funext c j
    unfold fd_tak fd_up
    by_cases c0 : c = 0
    · subst c0; simp
    · simp [c0]
  have eA : fd_A_mark (fd_up M 0 12 (M 0 12 + fd_Z_mark M k d)) k d = fd_A_mark M k d := by
    unfold fd_A_mark
    rw [eT]
    rfl
  have e : fd_A_mark M k d = fd_X_mark M k d := by
    unfold fd_A_mark fd_X_mark
    rw [p2]
    by_cases hc : 0 ≤ d ∧ d < M 3 2
    · obtain ⟨n, rfl⟩ := Int.eq_ofNat_of_zero_le hc.1
      have hn : ((n : Nat) : Int) < M 3 2 := hc.2
      obtain ⟨n1, n2, n3, n4, n5, n6⟩ := fd_Rel_SN h
      obtain ⟨⟨a1, a2, a3⟩, -, -⟩ := n1 n hn
      have e7 := fd_Rel_seen h n
      rw [p2] at e7
      rw [if_neg (not_not_intro hc), show ((n : Nat) : Int).toNat = n from rfl, fd_Rel_d h hn, a2, a3, n3, e7]
      by_cases k5 : 0 ≤ k ∧ k ≤ 5
      · rw [if_neg (not_not_intro ⟨k5, hc⟩)]
        have m7 : 7 * (M 14 4 / 2 ^ n % 2) = if M 14 4 / 2 ^ n % 2 = 1 then 7 else 0 := by
          rcases fd_mod2 (v := M 14 4 / 2 ^ n) with z | z
          · rw [if_pos z, z]; rfl
          · rw [if_neg (by omega), z]; rfl
        rw [m7]
        by_cases q0 : k = 0
        · rw [if_pos q0, if_pos q0]
        · rw [if_neg q0, if_neg q0]
          by_cases q1 : k = 1
          · rw [if_pos q1, if_pos q1]
          · rw [if_neg q1, if_neg q1]
            by_cases q2 : k = 2
            · rw [if_pos q2, if_pos q2]
            · rw [if_neg q2, if_neg q2]
              by_cases q3 : k = 3
              · rw [if_pos q3, if_pos q3]; omega
              · rw [if_neg q3, if_neg q3]
                by_cases q4 : k = 4
                · rw [if_pos q4, if_pos q4]
                · rw [if_neg q4, if_neg q4, if_pos (by omega)]
      · rw [if_pos (fun z => k5 z.1), if_neg (by omega), if_neg (by omega), if_neg (by omega), if_neg (by omega), if_neg (by omega), if_neg (by omega)]
    · rw [if_pos (fun z => hc z.2), if_pos hc]
  rw [eA, e] at b
  refine ⟨_, _, _, fd_callD a (by decide), fd_callD b (by decide), ?_⟩
  unfold fd_B_mark
  have e4 : fd_up M 0 12 (M 0 12 + fd_Z_mark M k d) 204 0 = M 3 2 := p2
  have e0 : fd_up M 0 12 (M 0 12 + fd_Z_mark M k d) 199 0 = M 0 12 := t8
  rw [e4, e0]
  by_cases hc : (0 ≤ k ∧ k ≤ 5) ∧ 0 ≤ d ∧ d < M 3 2
  · rw [if_neg (not_not_intro hc), eT]
    have ez : fd_Z_markR (fd_up M 0 12 (M 0 12 + fd_Z_mark M k d)) k d = fd_Z_mark M k d := by
      unfold fd_Z_markR fd_Z_mark
      rw [if_neg (not_not_intro hc.2)]
      by_cases q0 : k = 0
      · rw [if_pos q0, if_pos q0]
      · rw [if_neg q0, if_neg q0]
        by_cases q1 : k = 1
        · rw [if_pos q1, if_pos q1]
        · rw [if_neg q1, if_neg q1]
          by_cases q2 : k = 2
          · rw [if_pos q2, if_pos q2]
          · rw [if_neg q2, if_neg q2]
            by_cases q3 : k = 3
            · rw [if_pos q3, if_pos q3]
            · rw [if_neg q3, if_neg q3]
              by_cases q4 : k = 4
              · rw [if_pos q4, if_pos q4]
              · rw [if_neg q4, if_neg q4, if_pos (by omega)]
    rw [ez]
    refine fd_Rel_sm h1 ⟨fun c a1 a2 => ?_, fun j a1 a2 => ?_⟩
    · rw [fd_up_ne a1, fd_up_ne a1]
      funext i
      unfold fd_up
      rw [fd_tak_fr a2 a1]
    · rw [fd_up_at, fd_up_at]
      by_cases q : j = 0
      · rw [if_pos q, if_pos q]
      · rw [if_neg q, if_neg q]
        show fd_tak M 199 j = M 199 j
        exact (fd_smR_tak M).2 j a1 a2
  · rw [if_pos hc]
    have ez : fd_Z_mark M k d = 0 := by
      unfold fd_Z_mark
      by_cases hd2 : 0 ≤ d ∧ d < M 3 2
      · rw [if_neg (not_not_intro hd2), if_neg (by omega), if_neg (by omega), if_neg (by omega), if_neg (by omega), if_neg (by omega), if_neg (by omega)]
      · rw [if_pos hd2]
    rw [ez, fd_upz]
    exact h

/-! opens, leaf, fog, bills -/
theorem fd_Rel_d2 {M N : fd_M} (h : fd_Rel N) (e : ∀ c, c < 199 → N c = M c) {d : Nat} (hd : (d : Int) < N 3 2) : fd_dR (fd_tak N) d = fd_dueC M d := by
  rw [fd_Rel_d h hd, fd_dueC_of (e 3 (by omega)) (e 4 (by omega)) (e 14 (by omega)) (e 15 (by omega)) (e 16 (by omega)) (e 17 (by omega))]
theorem fd_SN_up {P : fd_M} (h : fd_SN P) (hD : P 3 2 ≤ 6) {i k : Nat} (hi : (i = 4 ∧ k = 12) ∨ (i = 6 ∧ k = 13) ∨ (i = 7 ∧ k = 14)) (v : Int) : fd_SN (fd_up (fd_up P 14 i v) 208 k v) := by
  obtain ⟨q1, q2, q3, q4, q5, q6⟩ := h
  have u : ∀ j, fd_up (fd_up P 14 i v) 208 k v 208 j = if j = k then v else P 208 j := fun j => by rw [fd_up_at, fd_up_ne (by decide)]
  have u14 : ∀ j, fd_up (fd_up P 14 i v) 208 k v 14 j = if j = i then v else P 14 j := fun j => by rw [fd_up_ne (by decide), fd_up_at]
  have uc : ∀ c, c ≠ 14 → c ≠ 208 → fd_up (fd_up P 14 i v) 208 k v c = P c := fun c h1 h2 => by rw [fd_up_ne h2, fd_up_ne h1]
  unfold fd_SN
  rw [uc 3 (by omega) (by omega), uc 15 (by omega) (by omega), uc 16 (by omega) (by omega), uc 17 (by omega) (by omega), uc 18 (by omega) (by omega), u14 5, if_neg (by omega)]
  refine ⟨fun e he => ?_, q2, ?_, ?_, ?_, fun y hy => ?_⟩
  · rw [u, u, u, if_neg (by omega), if_neg (by omega), if_neg (by omega)]
    exact q1 e he
  · rw [u, u14]
    by_cases z : i = 4
    · rw [if_pos (by omega), if_pos z.symm]
    · rw [if_neg (by omega), if_neg (by omega)]; exact q3
  · rw [u, u14]
    by_cases z : i = 6
    · rw [if_pos (by omega), if_pos z.symm]
    · rw [if_neg (by omega), if_neg (by omega)]; exact q4
  · rw [u, u14]
    by_cases z : i = 7
    · rw [if_pos (by omega), if_pos z.symm]
    · rw [if_neg (by omega), if_neg (by omega)]; exact q5
  · rw [u, if_neg (by omega)]; exact q6 y hy
theorem fd_Rel_14 {P : fd_M} (h : fd_Rel P) {i k : Nat} (hi : (i = 4 ∧ k = 12) ∨ (i = 6 ∧ k = 13) ∨ (i = 7 ∧ k = 14)) {v : Int} (hv : 0 ≤ v ∧ v < 64) (hv2 : i ≠ 4 → v ≤ 1) : fd_Rel (fd_up (fd_up P 14 i v) 208 k v) := by
  refine fd_Rel_now h (fun c h1 h2 => by rw [fd_up_ne h2, fd_up_ne (by omega)]) (fun j hj => by rw [fd_up_at, if_neg (by omega), fd_up_ne (by decide)]) ?_ (fd_SN_up (fd_Rel_SN h) (fd_Rel_D h).2 hi v)
  obtain ⟨s1, s2, s3, s4, s5, s6, s7, s8⟩ := h.2.1.1
  have u14 : ∀ j, fd_up (fd_up P 14 i v) 208 k v 14 j = if j = i then v else P 14 j := fun j => by rw [fd_up_ne (by decide), fd_up_at]
  refine ⟨s1, s2, s3, s4, ?_, ?_, ?_, ?_⟩
  · rw [u14]; split; exact hv; exact s5
  · rw [u14, if_neg (by omega)]; exact s6
  · rw [u14]; split; have := hv2 (by omega); omega; exact s7
  · rw [u14]; split; have := hv2 (by omega); omega; exact s8
theorem fd_o_opens : fd_op fd_Rel 8 85 2 := fd_op2 fun M h d w hd hw => by
  have a := fd_x_opens M (fd_Rel_CG h) h.1.2.1 h.1.2.2.2.1 d hd w hw
  have p2 := h.2.2.2.1.2.2.1
  have sn := fd_Rel_SN h
  have fr : ∀ c, 71 ≤ c → fd_Y_opens M d w c = M c := fun c hc => by
    unfold fd_Y_opens
    split
    · rfl
    · split
      · rfl
      · rw [fd_up_ne (by omega), fd_push_c h (by omega)]
  have b := fd_r_opens (fd_Y_opens M d w) (fd_RP_of (fd_Rel_RP h) (fr _ (by omega)) (fr _ (by omega)) (fr _ (by omega)) (fr _ (by omega)) (fr _ (by omega))) (fd_RS_of (fd_Rel_RS h) (fr _ (by omega)) (fr _ (by omega))) d hd w hw
  have e4 : fd_Y_opens M d w 204 0 = M 3 2 := by rw [fr 204 (by omega)]; exact p2
  have e8 : fd_Y_opens M d w 208 12 = M 14 4 := by rw [fr 208 (by omega)]; exact sn.2.2.1
  by_cases hc : 0 ≤ d ∧ d < M 3 2 ∧ 0 ≤ w ∧ w ≤ 1
  · have hc2 : 0 ≤ d ∧ d < M 3 2 ∧ (w = 0 ∨ w = 1) := by omega
    obtain ⟨n, rfl⟩ := Int.eq_ofNat_of_zero_le hc.1
    have hn : ((n : Nat) : Int) < M 3 2 := hc.2.1
    have hD := fd_Rel_D h
    by_cases hq : M 14 4 / 2 ^ n % 2 = w
    · have eA : fd_A_opens (fd_Y_opens M (n : Int) w) (n : Int) w = fd_X_opens M (n : Int) w := by
        unfold fd_A_opens fd_X_opens
        rw [e4, e8, if_neg (not_not_intro hc), if_neg (not_not_intro hc2), fd_bi_mod]
        rw [if_pos (show M 14 4 / 2 ^ ((n : Nat) : Int).toNat % 2 = w from hq), if_pos (show M 14 4 / 2 ^ ((n : Nat) : Int).toNat % 2 = w from hq)]
      rw [eA] at b
      refine ⟨_, _, _, fd_callD a (by decide), fd_callD b (by decide), ?_⟩
      unfold fd_B_opens
      rw [e4, e8, if_neg (not_not_intro hc), if_pos (show M 14 4 / 2 ^ ((n : Nat) : Int).toNat % 2 = w from hq)]
      unfold fd_Y_opens
      rw [if_neg (not_not_intro hc2), fd_bi_mod, if_pos (show M 14 4 / 2 ^ ((n : Nat) : Int).toNat % 2 = w from hq)]
      exact h
    · have ey : fd_Y_opens M (n : Int) w = fd_up (fd_push M) 14 4 (fd_xor (M 14 4) (2 ^ n)) := by
        unfold fd_Y_opens
        rw [if_neg (not_not_intro hc2), fd_bi_mod]
        exact if_neg hq
      have xr := fd_xor_rng (a := M 14 4) h.2.1.1.2.2.2.2.1 (k := n) (by omega)
      have hN : fd_Rel (fd_up (fd_know (fd_up (fd_push M) 14 4 (fd_xor (M 14 4) (2 ^ n)))) 208 12 (fd_xor (M 14 4) (2 ^ n))) := by
        rw [fd_know_up _ (by decide)]
        exact fd_Rel_14 (fd_Rel_push h) (by omega) xr (fun z => absurd rfl z)
      have n3 : fd_up (fd_know (fd_up (fd_push M) 14 4 (fd_xor (M 14 4) (2 ^ n)))) 208 12 (fd_xor (M 14 4) (2 ^ n)) 3 = M 3 := by
        rw [fd_up_ne (by decide), fd_know_fr (by decide), fd_up_ne (by decide), fd_push_c h (by omega)]
      have eA : fd_A_opens (fd_Y_opens M (n : Int) w) (n : Int) w = fd_X_opens M (n : Int) w := by
        unfold fd_A_opens fd_X_opens
        rw [e4, e8, if_neg (not_not_intro hc), if_neg (not_not_intro hc2), fd_bi_mod]
        rw [if_neg (show ¬ M 14 4 / 2 ^ ((n : Nat) : Int).toNat % 2 = w from hq), if_neg (show ¬ M 14 4 / 2 ^ ((n : Nat) : Int).toNat % 2 = w from hq), ey]
        exact fd_Rel_d2 hN (fun c hc => by rw [fd_up_ne (by omega), fd_know_fr (by omega)]; rfl) (by rw [n3]; exact hn)
      rw [eA] at b
      refine ⟨_, _, _, fd_callD a (by decide), fd_callD b (by decide), ?_⟩
      unfold fd_B_opens
      rw [e4, e8, if_neg (not_not_intro hc), if_neg (show ¬ M 14 4 / 2 ^ ((n : Nat) : Int).toNat % 2 = w from hq), ey]
      exact fd_Rel_sm hN (fd_smR_tak _)
  · have hc2 : ¬ (0 ≤ d ∧ d < M 3 2 ∧ (w = 0 ∨ w = 1)) := by omega
    have eA : fd_A_opens (fd_Y_opens M d w) d w = fd_X_opens M d w := by
      unfold fd_A_opens fd_X_opens
      rw [e4, if_pos hc, if_pos hc2]
    rw [eA] at b
    refine ⟨_, _, _, fd_callD a (by decide), fd_callD b (by decide), ?_⟩
    unfold fd_B_opens
    rw [e4, if_pos hc]
    unfold fd_Y_opens
    rw [if_pos hc2]
    exact h
theorem fd_o_leaf : fd_op fd_Rel 10 89 1 := fd_op1 fun M h w hw => by
  have a := fd_x_leaf M (fd_Rel_CG h) h.1.2.1 h.1.2.2.2.1 w hw
  have p2 := h.2.2.2.1.2.2.1
  have sn := fd_Rel_SN h
  have fr : ∀ c, 71 ≤ c → fd_Y_leaf M w c = M c := fun c hc => by
    unfold fd_Y_leaf
    split
    · rfl
    · split
      · rfl
      · rw [fd_up_ne (by omega), fd_push_c h (by omega)]
  have b := fd_r_leaf (fd_Y_leaf M w) (fd_RP_of (fd_Rel_RP h) (fr _ (by omega)) (fr _ (by omega)) (fr _ (by omega)) (fr _ (by omega)) (fr _ (by omega))) (fd_RS_of (fd_Rel_RS h) (fr _ (by omega)) (fr _ (by omega))) w hw
  have e4 : fd_Y_leaf M w 204 0 = M 3 2 := by rw [fr 204 (by omega)]; exact p2
  have e8 : fd_Y_leaf M w 208 13 = M 14 6 := by rw [fr 208 (by omega)]; exact sn.2.2.2.1
  by_cases hc : 0 ≤ w ∧ w ≤ 1
  · have hc2 : w = 0 ∨ w = 1 := by omega
    by_cases hq : M 14 6 = w
    · have eA : fd_A_leaf (fd_Y_leaf M w) w = fd_X_leaf M w := by
        unfold fd_A_leaf fd_X_leaf
        rw [e8, if_neg (not_not_intro hc), if_neg (not_not_intro hc2), if_pos hq, if_pos hq]
      rw [eA] at b
      refine ⟨_, _, _, fd_callD a (by decide), fd_callD b (by decide), ?_⟩
      unfold fd_B_leaf
      rw [e8, if_neg (not_not_intro hc), if_pos hq]
      unfold fd_Y_leaf
      rw [if_neg (not_not_intro hc2), if_pos hq]
      exact h
    · have ey : fd_Y_leaf M w = fd_up (fd_push M) 14 6 w := by
        unfold fd_Y_leaf
        rw [if_neg (not_not_intro hc2), if_neg hq]
      have hN : fd_Rel (fd_up (fd_know (fd_up (fd_push M) 14 6 w)) 208 13 w) := by
        rw [fd_know_up _ (by decide)]
        exact fd_Rel_14 (fd_Rel_push h) (by omega) (by omega) (fun z => by omega)
      have n3 : fd_up (fd_know (fd_up (fd_push M) 14 6 w)) 208 13 w 3 = M 3 := by
        rw [fd_up_ne (by decide), fd_know_fr (by decide), fd_up_ne (by decide), fd_push_c h (by omega)]
      have eA : fd_A_leaf (fd_Y_leaf M w) w = fd_X_leaf M w := by
        unfold fd_A_leaf fd_X_leaf
        rw [e4, e8, if_neg (not_not_intro hc), if_neg (not_not_intro hc2), if_neg hq, if_neg hq, ey]
        exact fd_sum_congr _ (fun j hj => fd_Rel_d2 hN (fun c hc => by rw [fd_up_ne (by omega), fd_know_fr (by omega)]) (by rw [n3]; omega))
      rw [eA] at b
      refine ⟨_, _, _, fd_callD a (by decide), fd_callD b (by decide), ?_⟩
      unfold fd_B_leaf
      rw [e8, if_neg (not_not_intro hc), if_neg hq, ey]
      exact fd_Rel_sm hN (fd_smR_tak _)
  · have hc2 : ¬ (w = 0 ∨ w = 1) := by omega
    have eA : fd_A_leaf (fd_Y_leaf M w) w = fd_X_leaf M w := by
      unfold fd_A_leaf fd_X_leaf
      rw [if_pos hc, if_pos hc2]
    rw [eA] at b
    refine ⟨_, _, _, fd_callD a (by decide), fd_callD b (by decide), ?_⟩
    unfold fd_B_leaf
    rw [if_pos hc]
    unfold fd_Y_leaf
    rw [if_pos hc2]
    exact h
theorem fd_o_fog : fd_op fd_Rel 11 90 1 := fd_op1 fun M h w hw => by
  have a := fd_x_fog M (fd_Rel_CG h) h.1.2.1 h.1.2.2.2.1 w hw
  have p2 := h.2.2.2.1.2.2.1
  have sn := fd_Rel_SN h
  have fr : ∀ c, 71 ≤ c → fd_Y_fog M w c = M c := fun c hc => by
    unfold fd_Y_fog
    split
    · rfl
    · split
      · rfl
      · rw [fd_up_ne (by omega), fd_push_c h (by omega)]
  have b := fd_r_fog (fd_Y_fog M w) (fd_RP_of (fd_Rel_RP h) (fr _ (by omega)) (fr _ (by omega)) (fr _ (by omega)) (fr _ (by omega)) (fr _ (by omega))) (fd_RS_of (fd_Rel_RS h) (fr _ (by omega)) (fr _ (by omega))) w hw
  have e4 : fd_Y_fog M w 204 0 = M 3 2 := by rw [fr 204 (by omega)]; exact p2
  have e8 : fd_Y_fog M w 208 14 = M 14 7 := by rw [fr 208 (by omega)]; exact sn.2.2.2.2.1
  by_cases hc : 0 ≤ w ∧ w ≤ 1
  · have hc2 : w = 0 ∨ w = 1 := by omega
    by_cases hq : M 14 7 = w
    · have eA : fd_A_fog (fd_Y_fog M w) w = fd_X_fog M w := by
        unfold fd_A_fog fd_X_fog
        rw [e8, if_neg (not_not_intro hc), if_neg (not_not_intro hc2), if_pos hq, if_pos hq]
      rw [eA] at b
      refine ⟨_, _, _, fd_callD a (by decide), fd_callD b (by decide), ?_⟩
      unfold fd_B_fog
      rw [e8, if_neg (not_not_intro hc), if_pos hq]
      unfold fd_Y_fog
      rw [if_neg (not_not_intro hc2), if_pos hq]
      exact h
    · have ey : fd_Y_fog M w = fd_up (fd_push M) 14 7 w := by
        unfold fd_Y_fog
        rw [if_neg (not_not_intro hc2), if_neg hq]
      have hN : fd_Rel (fd_up (fd_know (fd_up (fd_push M) 14 7 w)) 208 14 w) := by
        rw [fd_know_up _ (by decide)]
        exact fd_Rel_14 (fd_Rel_push h) (by omega) (by omega) (fun z => by omega)
      have n3 : fd_up (fd_know (fd_up (fd_push M) 14 7 w)) 208 14 w 3 = M 3 := by
        rw [fd_up_ne (by decide), fd_know_fr (by decide), fd_up_ne (by decide), fd_push_c h (by omega)]
      have eA : fd_A_fog (fd_Y_fog M w) w = fd_X_fog M w := by
        unfold fd_A_fog fd_X_fog
        rw [e4, e8, if_neg (not_not_intro hc), if_neg (not_not_intro hc2), if_neg hq, if_neg hq, ey]
        exact fd_sum_congr _ (fun j hj => fd_Rel_d2 hN (fun c hc => by rw [fd_up_ne (by omega), fd_know_fr (by omega)]) (by rw [n3]; omega))
      rw [eA] at b
      refine ⟨_, _, _, fd_callD a (by decide), fd_callD b (by decide), ?_⟩
      unfold fd_B_fog
      rw [e8, if_neg (not_not_intro hc), if_neg hq, ey]
      exact fd_Rel_sm hN (fd_smR_tak _)
  · have hc2 : ¬ (w = 0 ∨ w = 1) := by omega
    have eA : fd_A_fog (fd_Y_fog M w) w = fd_X_fog M w := by
      unfold fd_A_fog fd_X_fog
      rw [if_pos hc, if_pos hc2]
    rw [eA] at b
    refine ⟨_, _, _, fd_callD a (by decide), fd_callD b (by decide), ?_⟩
    unfold fd_B_fog
    rw [if_pos hc]
    unfold fd_Y_fog
    rw [if_pos hc2]
    exact h

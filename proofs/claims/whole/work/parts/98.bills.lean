/-! bills, undo -/
theorem fd_tak_c {N K : fd_M} (h8 : N 208 = K 208) {c : Nat} (hc : N c = K c) : fd_tak N c = fd_tak K c := by
  funext j
  unfold fd_tak
  rw [h8, hc]
theorem fd_o_bills : fd_op fd_Rel 12 91 0 := fd_op0 fun M h => by
  have a := fd_x_bills M (fd_Rel_CG h) h.1.2.1 h.1.2.2.2.1
  have p2 := h.2.2.2.1.2.2.1
  have hD := fd_Rel_D h
  have y : ∀ c, c ≠ 18 → fd_Y_bills M c = fd_push M c := fun c hc => fd_bil_fr hc
  have fr : ∀ c, 71 ≤ c → fd_Y_bills M c = M c := fun c hc => by rw [y c (by omega), fd_push_c h (by omega)]
  have b := fd_r_bills (fd_Y_bills M) (fd_RP_of (fd_Rel_RP h) (fr _ (by omega)) (fr _ (by omega)) (fr _ (by omega)) (fr _ (by omega)) (fr _ (by omega))) (fd_RS_of (fd_Rel_RS h) (fr _ (by omega)) (fr _ (by omega)))
  have e4 : fd_Y_bills M 204 0 = M 3 2 := by rw [fr 204 (by omega)]; exact p2
  have hP := fd_Rel_push h
  have k8 : fd_know (fd_Y_bills M) 208 = fd_know (fd_push M) 208 := fd_know_208 (y 208 (by decide))
  have kc : ∀ c, c ≠ 18 → fd_know (fd_Y_bills M) c = fd_know (fd_push M) c := fun c hc => by
    by_cases z : c = 208
    · subst z; exact k8
    · rw [fd_know_fr z, fd_know_fr z, y c hc]
  have tc : ∀ c, c ≠ 18 → fd_tak (fd_know (fd_Y_bills M)) c = fd_tak (fd_know (fd_push M)) c := fun c hc => fd_tak_c k8 (kc c hc)
  have P3 : fd_know (fd_push M) 3 = M 3 := fd_P_c h (by omega) (by omega)
  have dC : fd_dueC (fd_push M) = fd_dueC M := fd_dueC_of (fd_push_c h (by omega)) (fd_push_c h (by omega)) (fd_push_c h (by omega)) (fd_push_c h (by omega)) (fd_push_c h (by omega)) (fd_push_c h (by omega))
  have dP : fd_dueC (fd_know (fd_push M)) = fd_dueC M := fd_dueC_of (fd_P_c h (by omega) (by omega)) (fd_P_c h (by omega) (by omega)) (fd_P_c h (by omega) (by omega)) (fd_P_c h (by omega) (by omega)) (fd_P_c h (by omega) (by omega)) (fd_P_c h (by omega) (by omega))
  have dR : ∀ d : Nat, (d : Int) < M 3 2 → fd_dR (fd_tak (fd_know (fd_Y_bills M))) d = fd_dueC M d := fun d hd => by
    have z := fd_Rel_d hP (d := d) (by rw [P3]; exact hd)
    rw [dP] at z
    rw [← z]
    have cv : fd_cvR (fd_tak (fd_know (fd_Y_bills M))) = fd_cvR (fd_tak (fd_know (fd_push M))) := by
      funext x y
      unfold fd_cvR fd_dpR
      rw [tc 201 (by decide), tc 202 (by decide), tc 203 (by decide), tc 204 (by decide), tc 208 (by decide)]
    exact fd_dR_of cv (tc 207 (by decide)) (by rw [tc 208 (by decide)]) (by rw [tc 208 (by decide)]) (by rw [tc 199 (by decide)]) (by rw [tc 199 (by decide)]) (tc 210 (by decide))
  have e : fd_A_bills (fd_Y_bills M) = fd_sum (fd_dueC M) (M 3 2).toNat := by
    unfold fd_A_bills
    rw [e4]
    exact fd_sum_congr _ (fun j hj => dR j (by omega))
  rw [e] at b
  refine ⟨_, _, _, fd_callD a (by decide), fd_callD b (by decide), ?_⟩
  unfold fd_B_bills
  rw [e4]
  have u8 : ∀ k, fd_rbl (fd_tak (fd_know (fd_Y_bills M))) (M 3 2).toNat 208 k = if 15 ≤ k ∧ k < 15 + (M 3 2).toNat then (if 9999 < fd_know (fd_push M) 208 k + fd_dR (fd_tak (fd_know (fd_Y_bills M))) (k - 15) then 9999 else fd_know (fd_push M) 208 k + fd_dR (fd_tak (fd_know (fd_Y_bills M))) (k - 15)) else fd_know (fd_push M) 208 k := fun k => by
    have t8 : fd_tak (fd_know (fd_Y_bills M)) 208 = fd_know (fd_push M) 208 := by rw [tc 208 (by decide), fd_tak_fr (by decide) (by decide)]
    unfold fd_rbl
    rw [t8]
    by_cases z : 15 ≤ k ∧ k < 15 + (M 3 2).toNat
    · rw [if_pos ⟨rfl, z⟩, if_pos z]
    · rw [if_neg (fun q => z q.2), if_neg z]
  have uc : ∀ c, c ≠ 208 → fd_rbl (fd_tak (fd_know (fd_Y_bills M))) (M 3 2).toNat c = fd_tak (fd_know (fd_Y_bills M)) c := fun c hc => fd_rbl_fr hc
  have un : ∀ c, c ≠ 208 → c ≠ 18 → c ≠ 199 → c ≠ 210 → fd_rbl (fd_tak (fd_know (fd_Y_bills M))) (M 3 2).toNat c = fd_know (fd_push M) c := fun c h1 h2 h3 h4 => by rw [uc c h1, tc c h2, fd_tak_fr h4 h3]
  have u199 : ∀ k, k ≠ 19 → k ≠ 20 → fd_rbl (fd_tak (fd_know (fd_Y_bills M))) (M 3 2).toNat 199 k = fd_know (fd_push M) 199 k := fun k h1 h2 => by
    rw [uc 199 (by decide), tc 199 (by decide)]
    exact (fd_smR_tak _).2 k h1 h2
  have u18 : ∀ k, fd_rbl (fd_tak (fd_know (fd_Y_bills M))) (M 3 2).toNat 18 k = if k < (M 3 2).toNat then (if M 18 k + fd_dueC M k < 9999 then M 18 k + fd_dueC M k else 9999) else M 18 k := fun k => by
    rw [uc 18 (by decide), fd_tak_fr (by decide) (by decide), fd_know_fr (by decide)]
    unfold fd_Y_bills fd_bil
    rw [dC, fd_push_c h (by omega)]
    by_cases z : k < (M 3 2).toNat
    · rw [if_pos ⟨rfl, z⟩, if_pos z]
    · rw [if_neg (fun q => z q.2), if_neg z]
  obtain ⟨t1, t2, t3, t4, t5, t6, t7, t8⟩ := hP.2.2.1
  obtain ⟨q1, q2, q3, q4, q5, q6⟩ := fd_Rel_SN hP
  obtain ⟨s1, s2, s3, s4, s5, s6, s7, s8⟩ := hP.2.1.1
  refine fd_Rel_up hP (fun c hc => un c (fun z => hc (by unfold fd_tmp2; omega)) (fun z => hc (by unfold fd_tmp2; omega)) (fun z => hc (by unfold fd_tmp2 fd_tmp; omega)) (fun z => hc (by unfold fd_tmp2 fd_tmp; omega))) (fun k hk => by rw [u8, if_neg (by omega)]) ?_ (un 76 (by decide) (by decide) (by decide) (by decide)) ?_ ?_
  · refine ⟨?_, ?_, ?_, ?_, ?_, ?_, ?_, ?_⟩
    · unfold fd_TG; rw [un 78 (by decide) (by decide) (by decide) (by decide), un 79 (by decide) (by decide) (by decide) (by decide), un 80 (by decide) (by decide) (by decide) (by decide), un 3 (by decide) (by decide) (by decide) (by decide)]; exact t1
    · rw [u199 23 (by decide) (by decide), un 78 (by decide) (by decide) (by decide) (by decide)]; exact t2
    · rw [un 211 (by decide) (by decide) (by decide) (by decide), un 79 (by decide) (by decide) (by decide) (by decide)]; exact t3
    · rw [un 212 (by decide) (by decide) (by decide) (by decide), un 80 (by decide) (by decide) (by decide) (by decide)]; exact t4
    · unfold tk_XG; rw [un 1 (by decide) (by decide) (by decide) (by decide), un 2 (by decide) (by decide) (by decide) (by decide)]; exact t5
    · rw [u199 2 (by decide) (by decide), un 1 (by decide) (by decide) (by decide) (by decide)]; exact t6
    · rw [un 200 (by decide) (by decide) (by decide) (by decide), un 2 (by decide) (by decide) (by decide) (by decide)]; exact t7
    · rw [u199 0 (by decide) (by decide), un 0 (by decide) (by decide) (by decide) (by decide)]; exact t8
  · unfold fd_SG
    rw [un 14 (by decide) (by decide) (by decide) (by decide), un (14 + 1) (by decide) (by decide) (by decide) (by decide), un (14 + 2) (by decide) (by decide) (by decide) (by decide), un (14 + 3) (by decide) (by decide) (by decide) (by decide)]
    refine ⟨s1, s2, s3, fun d => ?_, s5, s6, s7, s8⟩
    rw [show 14 + 4 = 18 from rfl, u18]
    have r : 0 ≤ M 18 d ∧ M 18 d ≤ 9999 := h.2.1.1.2.2.2.1 d
    have r2 := fd_due_rng (wy := M 17) h.1.1.2.2.2.1 (fd_sw M d) d
    have r3 : 0 ≤ fd_dueC M d ∧ fd_dueC M d ≤ 18 := r2
    split
    · split <;> omega
    · exact r
  · rw [fd_SN_eq]
    unfold fd_SN
    rw [un 3 (by decide) (by decide) (by decide) (by decide), un 14 (by decide) (by decide) (by decide) (by decide), un 15 (by decide) (by decide) (by decide) (by decide), un 16 (by decide) (by decide) (by decide) (by decide), un 17 (by decide) (by decide) (by decide) (by decide)]
    have pD : fd_know (fd_push M) 3 2 = M 3 2 := by rw [P3]
    refine ⟨fun d hd => ?_, q2, ?_, ?_, ?_, fun y hy => ?_⟩
    · obtain ⟨⟨a1, a2, a3⟩, a4, a5⟩ := q1 d hd
      rw [pD] at hd
      refine ⟨⟨?_, ?_, ?_⟩, a4, a5⟩
      · rw [u8, if_neg (by omega)]; exact a1
      · rw [u8, if_neg (by omega)]; exact a2
      · rw [u8, if_pos (show 15 ≤ 15 + d ∧ 15 + d < 15 + (M 3 2).toNat by omega), show 15 + d - 15 = d by omega, dR d hd, a3, fd_P_c h (c := 18) (by omega) (by omega), u18, if_pos (show d < (M 3 2).toNat by omega)]
        by_cases z : M 18 d + fd_dueC M d < 9999
        · rw [if_neg (by omega), if_pos z]
        · rw [if_neg z]
          split <;> omega
    · rw [u8, if_neg (by omega)]; exact q3
    · rw [u8, if_neg (by omega)]; exact q4
    · rw [u8, if_neg (by omega)]; exact q5
    · rw [u8, if_neg (by omega)]; exact q6 y hy
theorem fd_o_undo : fd_op fd_Rel 13 92 0 := fd_op0 fun M h => by
  have h19 := h.1.2.2.2.1
  have hs := h.1.2.1
  have hD := fd_Rel_D h
  obtain ⟨n1, n2, n3⟩ := h.2.2.2.2.1
  have sgs : 1 ≤ M 19 1 → ∃ j, j < 10 ∧ M 20 (M 19 1 - 1).toNat = ((21 + 5 * j : Nat) : Int) := fun z => hs _ (by omega)
  have a := fd_x_undo M hs h19 (fun z => by
    obtain ⟨j, hj, ej⟩ := sgs z
    rw [ej]
    exact ⟨(h.2.1.2.2.2 j hj).1.2.2.2.2.2.2.1, (h.2.1.2.2.2 j hj).1.2.2.2.2.2.2.2⟩)
  have b := fd_r_undo (fd_Y_undo M)
  by_cases z : M 19 1 ≤ 0
  · have ey : fd_Y_undo M = M := by unfold fd_Y_undo; rw [if_pos z]
    rw [ey] at a b
    have b := b (by rw [n2]; exact h19)
    have e : fd_A_undo M = fd_X_undo M := by unfold fd_A_undo fd_X_undo; rw [if_pos (by omega), if_pos z]
    rw [e] at b
    refine ⟨_, _, _, fd_callD a (by decide), fd_callD b (by decide), ?_⟩
    unfold fd_B_undo
    rw [if_pos (by omega)]
    exact h
  · obtain ⟨j, hj, ej⟩ := sgs (by omega)
    have ey : fd_Y_undo M = fd_pop M := by unfold fd_Y_undo; rw [if_neg z]
    have eb : (M 20 (M 19 1 - 1).toNat).toNat = 21 + 5 * j := by rw [ej]; rfl
    have pc : ∀ c, ¬ (14 ≤ c ∧ c ≤ 19) → fd_pop M c = M c := fun c hc => by
      funext k
      unfold fd_pop
      rw [eb]
      unfold fd_cps
      rw [if_neg (by omega), if_neg (by omega), fd_up_ne (by omega)]
    have p19 : fd_pop M 19 1 = M 19 1 - 1 := fd_pop_sz M hs (by omega)
    have b := b (by rw [ey, pc 208 (by omega), n2]; exact h19)
    have e28 : fd_Y_undo M 208 28 = M 19 1 := by rw [ey, pc 208 (by omega)]; exact n2
    have e : fd_A_undo (fd_Y_undo M) = fd_X_undo M := by
      unfold fd_A_undo fd_X_undo
      rw [e28, if_neg (by omega), if_neg z, p19]
    rw [e] at b
    refine ⟨_, _, _, fd_callD a (by decide), fd_callD b (by decide), ?_⟩
    unfold fd_B_undo
    rw [e28, if_neg (by omega), ey]
    have uc : ∀ c, c ≠ 208 → fd_cp (fd_un0 (fd_pop M)) 208 (29 + 28 * (M 19 1 - 1).toNat) 208 0 28 c = fd_pop M c := fun c hc => by
      rw [fd_cp_fr hc]
      unfold fd_un0
      rw [fd_up_ne hc]
    have u0 : ∀ k, fd_un0 (fd_pop M) 208 k = if k = 28 then M 19 1 - 1 else M 208 k := fun k => by
      unfold fd_un0
      rw [fd_up_at, pc 208 (by omega), n2]
    have ulo : ∀ k, k < 28 → fd_cp (fd_un0 (fd_pop M)) 208 (29 + 28 * (M 19 1 - 1).toNat) 208 0 28 208 k = M 208 (29 + 28 * (M 19 1 - 1).toNat + k) := fun k hk => by
      rw [fd_cp_in (by omega), u0, if_neg (by omega), Nat.sub_zero]
    have uhi : ∀ k, 28 < k → fd_cp (fd_un0 (fd_pop M)) 208 (29 + 28 * (M 19 1 - 1).toNat) 208 0 28 208 k = M 208 k := fun k hk => by
      rw [fd_cp_out (by omega), u0, if_neg (by omega)]
    have u28 : fd_cp (fd_un0 (fd_pop M)) 208 (29 + 28 * (M 19 1 - 1).toNat) 208 0 28 208 28 = M 19 1 - 1 := by
      rw [fd_cp_out (by omega), u0, if_pos rfl]
    have sg : fd_SG (fd_pop M) 14 := by
      unfold fd_pop
      rw [eb]
      exact fd_SG_cps (a := 14) (b := 21 + 5 * j) (by omega) (fd_SG_c h.2.1.1 (fun i hi => fd_up_ne (by omega))) (fd_SG_c (h.2.1.2.2.2 j hj).1 (fun i hi => fd_up_ne (by omega)))
    have e3 : fd_cp (fd_un0 (fd_pop M)) 208 (29 + 28 * (M 19 1 - 1).toNat) 208 0 28 3 = M 3 := by rw [uc 3 (by decide), pc 3 (by omega)]
    have e20 : fd_cp (fd_un0 (fd_pop M)) 208 (29 + 28 * (M 19 1 - 1).toNat) 208 0 28 20 = M 20 := by rw [uc 20 (by decide), pc 20 (by omega)]
    have e19 : fd_cp (fd_un0 (fd_pop M)) 208 (29 + 28 * (M 19 1 - 1).toNat) 208 0 28 19 1 = M 19 1 - 1 := by rw [uc 19 (by decide), p19]
    refine fd_Rel_H h (fun c h1 h2 h3 => by rw [uc c h3, pc c (by omega)]) (fun k _ _ => by rw [uc 199 (by decide), pc 199 (by omega)]) (by rw [uc 76 (by decide), pc 76 (by omega)]) (fun k hk => uhi k (by omega)) (by unfold fd_HS; rw [e20]; exact hs) (by rw [e20]; exact h.1.2.2.1) (by rw [e19]; omega) (fd_SG_c sg (fun i hi => uc _ (by omega))) (fun i hi => fd_SG_c (h.2.1.2.2.2 i hi).1 (fun q hq => by rw [uc _ (by omega), pc _ (by omega)])) ⟨?_, ?_, fun i hi => ?_⟩
    · have w := n3 (M 19 1 - 1).toNat (by omega)
      rw [ej] at w
      refine fd_SR_of (a := 14) (b := 21 + 5 * j) (o := 0) w (by rw [e3]) (by rw [e3]) (by rw [e3]) hD.2 (fun i h1 h2 k hk => ?_) (fun k h1 h2 => ?_) (fun k hk => by rw [Nat.zero_add]; exact ulo k hk)
      · rw [uc _ (by omega)]
        unfold fd_pop
        rw [eb]
        unfold fd_cps
        rw [if_neg (by omega), if_pos (by omega), fd_up_ne (by omega), show 21 + 5 * j + (14 + i - 14) = 21 + 5 * j + i by omega]
      · rw [uc _ (by omega)]
        unfold fd_pop
        rw [eb]
        unfold fd_cps
        rw [if_pos ⟨rfl, h1, h2⟩, fd_up_ne (by omega)]
    · rw [u28, e19]
    · rw [e19] at hi
      rw [e20]
      obtain ⟨q, hq, eq⟩ := hs i (by omega)
      have w := n3 i (by omega)
      rw [eq] at w ⊢
      exact fd_SR_c w e3 (fun r hr => by rw [show (((21 + 5 * q : Nat) : Int)).toNat = 21 + 5 * q from rfl, uc _ (by omega), pc _ (by omega)]) (fun k hk => uhi _ (by omega)) hD.2

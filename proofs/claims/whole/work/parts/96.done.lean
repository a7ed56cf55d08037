/-! what is done: class and reference -/
theorem fd_Rel_now {P N : fd_M} (h : fd_Rel P) (hc : ∀ c, ¬ (14 ≤ c ∧ c ≤ 18) → c ≠ 208 → N c = P c) (h8 : ∀ k, 28 ≤ k → N 208 k = P 208 k) (hS : fd_SG N 14) (hN : fd_SN N) : fd_Rel N := by
  refine fd_Rel_up h (fun c h1 => hc c (fun z => h1 (by unfold fd_tmp2 fd_tmp; omega)) (fun z => h1 (by unfold fd_tmp2 fd_tmp; omega))) h8 ?_ (hc 76 (by omega) (by omega)) hS (by rw [fd_SN_eq]; exact hN)
  obtain ⟨t1, t2, t3, t4, t5, t6, t7, t8⟩ := h.2.2.1
  have e : ∀ c, ¬ (14 ≤ c ∧ c ≤ 18) → c ≠ 208 → N c = P c := hc
  refine ⟨?_, ?_, ?_, ?_, ?_, ?_, ?_, ?_⟩
  · unfold fd_TG; rw [e 78 (by omega) (by omega), e 79 (by omega) (by omega), e 80 (by omega) (by omega), e 3 (by omega) (by omega)]; exact t1
  · rw [e 199 (by omega) (by omega), e 78 (by omega) (by omega)]; exact t2
  · rw [e 211 (by omega) (by omega), e 79 (by omega) (by omega)]; exact t3
  · rw [e 212 (by omega) (by omega), e 80 (by omega) (by omega)]; exact t4
  · unfold tk_XG; rw [e 1 (by omega) (by omega), e 2 (by omega) (by omega)]; exact t5
  · rw [e 199 (by omega) (by omega), e 1 (by omega) (by omega)]; exact t6
  · rw [e 200 (by omega) (by omega), e 2 (by omega) (by omega)]; exact t7
  · rw [e 199 (by omega) (by omega), e 0 (by omega) (by omega)]; exact t8
theorem fd_P_c {M : fd_M} (h : fd_Rel M) {c : Nat} (hc : c < 19 ∨ 71 ≤ c) (h8 : c ≠ 208) : fd_know (fd_push M) c = M c := by
  rw [fd_know_fr h8, fd_push_fr h.1.2.1 h.1.2.2.2.1 hc]
theorem fd_P_8 {M : fd_M} (h : fd_Rel M) {k : Nat} (hk : k < 28) : fd_know (fd_push M) 208 k = M 208 k := by
  rw [fd_know_lo hk, fd_push_fr h.1.2.1 h.1.2.2.2.1 (by omega)]
theorem fd_push_c {M : fd_M} (h : fd_Rel M) {c : Nat} (hc : c < 19 ∨ 71 ≤ c) : fd_push M c = M c := fd_push_fr h.1.2.1 h.1.2.2.2.1 hc
theorem fd_push_RP {M : fd_M} (h : fd_Rel M) : fd_RP (fd_push M) := fd_RP_of (fd_Rel_RP h) (fd_push_c h (by omega)) (fd_push_c h (by omega)) (fd_push_c h (by omega)) (fd_push_c h (by omega)) (fd_push_c h (by omega))
theorem fd_push_RS {M : fd_M} (h : fd_Rel M) : fd_RS (fd_push M) := fd_RS_of (fd_Rel_RS h) (fd_push_c h (by omega)) (fd_push_c h (by omega))
/-- hinges -/
theorem fd_o_hinges : fd_op fd_Rel 6 83 2 := fd_op2 fun M h d w hd hw => by
  have a := fd_x_hinges M (fd_Rel_CG h) h.1.2.1 h.1.2.2.2.1 d hd w hw
  have p2 := h.2.2.2.1.2.2.1
  have sn := fd_Rel_SN h
  have fr : ∀ c, 71 ≤ c → fd_Y_hinges M d w c = M c := fun c hc => by
    unfold fd_Y_hinges
    split
    · rfl
    · split
      · rfl
      · rw [fd_up_ne (by omega), fd_push_c h (by omega)]
  have b := fd_r_hinges (fd_Y_hinges M d w) (fd_RP_of (fd_Rel_RP h) (fr _ (by omega)) (fr _ (by omega)) (fr _ (by omega)) (fr _ (by omega)) (fr _ (by omega))) (fd_RS_of (fd_Rel_RS h) (fr _ (by omega)) (fr _ (by omega))) d hd w hw
  have e4 : fd_Y_hinges M d w 204 0 = M 3 2 := by rw [fr 204 (by omega)]; exact p2
  have e8 : fd_Y_hinges M d w 208 = M 208 := fr 208 (by omega)
  have e : fd_A_hinges (fd_Y_hinges M d w) d w = fd_X_hinges M d w := by
    unfold fd_A_hinges fd_X_hinges
    rw [e4, e8]
    by_cases hc : 0 ≤ d ∧ d < M 3 2 ∧ 0 ≤ w ∧ w ≤ 3
    · rw [if_neg (not_not_intro hc), if_neg (show ¬ ¬ (0 ≤ d ∧ d < M 3 2 ∧ 0 ≤ w ∧ w < 4) by omega), (sn.1 d.toNat (by omega)).1.2.1]
    · rw [if_pos hc, if_pos (show ¬ (0 ≤ d ∧ d < M 3 2 ∧ 0 ≤ w ∧ w < 4) by omega)]
  rw [e] at b
  refine ⟨_, _, _, fd_callD a (by decide), fd_callD b (by decide), ?_⟩
  unfold fd_B_hinges
  rw [e4, e8]
  by_cases hc : 0 ≤ d ∧ d < M 3 2 ∧ 0 ≤ w ∧ w ≤ 3
  · obtain ⟨n, rfl⟩ := Int.eq_ofNat_of_zero_le hc.1
    have hn : ((n : Nat) : Int) < M 3 2 := hc.2.1
    rw [if_neg (not_not_intro hc), show ((n : Nat) : Int).toNat = n from rfl, (sn.1 n hn).1.2.1]
    by_cases hq : M 17 n = w
    · rw [if_pos hq]
      unfold fd_Y_hinges
      rw [if_neg (show ¬ ¬ (0 ≤ ((n : Nat) : Int) ∧ ((n : Nat) : Int) < M 3 2 ∧ 0 ≤ w ∧ w < 4) by omega), if_pos (show M 17 ((n : Nat) : Int).toNat = w from hq)]
      exact h
    · rw [if_neg hq]
      have ey : fd_Y_hinges M (n : Int) w = fd_up (fd_push M) 17 n w := by
        unfold fd_Y_hinges
        rw [if_neg (show ¬ ¬ (0 ≤ ((n : Nat) : Int) ∧ ((n : Nat) : Int) < M 3 2 ∧ 0 ≤ w ∧ w < 4) by omega), if_neg (show ¬ M 17 ((n : Nat) : Int).toNat = w from hq)]
        rfl
      rw [ey, fd_know_up _ (by decide)]
      have hP := fd_Rel_push h
      have sP := fd_Rel_SN hP
      have p17 : fd_know (fd_push M) 3 2 = M 3 2 := by rw [fd_P_c h (by omega) (by omega)]
      refine fd_Rel_now hP (fun c h1 h2 => by rw [fd_up_ne h2, fd_up_ne (by omega)]) (fun k hk => by rw [fd_up_at, if_neg (by have := fd_Rel_D h; omega), fd_up_ne (by decide)]) ⟨hP.2.1.1.1, hP.2.1.1.2.1, fd_up_all (P := fun z => 0 ≤ z ∧ z ≤ 3) (M := fd_know (fd_push M)) (c := 17) hP.2.1.1.2.2.1 (by omega), hP.2.1.1.2.2.2⟩ ?_
      obtain ⟨q1, q2, q3, q4, q5, q6⟩ := sP
      have hD := fd_Rel_D h
      have u : ∀ k, fd_up (fd_up (fd_know (fd_push M)) 17 n w) 208 (6 + n) w 208 k = if k = 6 + n then w else fd_know (fd_push M) 208 k := fun k => by
        rw [fd_up_at, fd_up_ne (by decide)]
      refine ⟨fun e he => ?_, q2, ?_, ?_, ?_, fun y hy => ?_⟩
      · have he2 : (e : Int) < fd_know (fd_push M) 3 2 := he
        obtain ⟨⟨a1, a2, a3⟩, a4, a5⟩ := q1 e he2
        rw [p17] at he2
        refine ⟨⟨?_, ?_, ?_⟩, a4, a5⟩
        · rw [u, if_neg (by omega)]; exact a1
        · rw [u]
          show _ = fd_up (fd_know (fd_push M)) 17 n w 17 e
          rw [fd_up_at]
          by_cases z : e = n
          · rw [if_pos (by omega), if_pos z]
          · rw [if_neg (by omega), if_neg z]; exact a2
        · rw [u, if_neg (by omega)]; exact a3
      · rw [u, if_neg (by omega)]; exact q3
      · rw [u, if_neg (by omega)]; exact q4
      · rw [u, if_neg (by omega)]; exact q5
      · rw [u, if_neg (by omega)]; exact q6 y hy
  · rw [if_pos hc]
    unfold fd_Y_hinges
    rw [if_pos (show ¬ (0 ≤ d ∧ d < M 3 2 ∧ 0 ≤ w ∧ w < 4) by omega)]
    exact h
theorem fd_dr_none {px py : Nat → Int} {x y : Int} : ∀ (n k : Nat), fd_dr px py x y n k = -1 → ∀ d, k ≤ d → d < k + n → ¬ (px d = x ∧ py d = y)
  | 0, k, _, d, h1, h2 => by omega
  | n + 1, k, h, d, h1, h2 => by
    rw [fd_dr] at h
    by_cases q : px k = x ∧ py k = y
    · rw [if_pos q] at h; omega
    · rw [if_neg q] at h
      by_cases z : d = k
      · subst z; exact q
      · exact fd_dr_none n (k + 1) h d (by omega) (by omega)
/-- moves -/
theorem fd_o_moves : fd_op fd_Rel 7 84 2 := fd_op2 fun M h d w hd hw => by
  have a := fd_x_moves M (fd_Rel_CG h) h.1.2.1 h.1.2.2.2.1 d hd w hw
  have p2 := h.2.2.2.1.2.2.1
  have sn := fd_Rel_SN h
  have n2 := h.2.2.2.2.1.2.1
  have fr : ∀ c, 71 ≤ c → fd_Y_moves M d w c = M c := fun c hc => by
    unfold fd_Y_moves
    split
    · rfl
    · split
      · rfl
      · rw [fd_up_ne (by omega), fd_up_ne (by omega), fd_push_c h (by omega)]
  have b := fd_r_moves (fd_Y_moves M d w) (fd_RP_of (fd_Rel_RP h) (fr _ (by omega)) (fr _ (by omega)) (fr _ (by omega)) (fr _ (by omega)) (fr _ (by omega))) (fd_RS_of (fd_Rel_RS h) (fr _ (by omega)) (fr _ (by omega))) d hd w hw
  have e4 : fd_Y_moves M d w 204 0 = M 3 2 := by rw [fr 204 (by omega)]; exact p2
  have e8 : fd_Y_moves M d w 208 = M 208 := fr 208 (by omega)
  have ecv : fd_cvR (fd_Y_moves M d w) = fd_cvC M := by
    rw [← fd_Rel_cv h]
    exact fd_cvR_of (fr _ (by omega)) (fr _ (by omega)) (fr _ (by omega)) (fr _ (by omega)) (by rw [p2]; exact (fd_Rel_D h).2) (fun _ _ => by rw [e8]) (fun _ _ _ => by rw [e8]) (fd_Rel_RP h).2.1.2
  have dm : ∀ n : Nat, (n : Int) < M 3 2 → M 208 n % 7 = M 15 n ∧ M 208 n / 7 = M 16 n := fun n hn => by
    have a1 := (sn.1 n hn).1.1
    have b1 : 0 ≤ M 15 n ∧ M 15 n ≤ 6 := h.2.1.1.1 n
    rw [a1]
    omega
  have e28 : fd_know (fd_Y_moves M d w) 208 28 = if M 19 1 = 10 then 10 else M 19 1 + 1 := by rw [fd_know_28, e8, n2]
  have e : fd_A_moves (fd_Y_moves M d w) d w = fd_X_moves M d w := by
    unfold fd_A_moves fd_X_moves
    rw [e4, e8, ecv, e28, fd_push_sz h.1.2.1 h.1.2.2.2.1]
    by_cases hc : 0 ≤ d ∧ d < M 3 2 ∧ 0 ≤ w ∧ w ≤ 3
    · rw [if_neg (not_not_intro hc), if_neg (show ¬ ¬ (0 ≤ d ∧ d < M 3 2 ∧ 0 ≤ w ∧ w < 4) by omega), (dm d.toNat (by omega)).1, (dm d.toNat (by omega)).2]
    · rw [if_pos hc, if_pos (show ¬ (0 ≤ d ∧ d < M 3 2 ∧ 0 ≤ w ∧ w < 4) by omega)]
  rw [e] at b
  refine ⟨_, _, _, fd_callD a (by decide), fd_callD b (by decide), ?_⟩
  unfold fd_B_moves
  rw [e4, e8, ecv]
  by_cases hc : 0 ≤ d ∧ d < M 3 2 ∧ 0 ≤ w ∧ w ≤ 3
  · obtain ⟨n, rfl⟩ := Int.eq_ofNat_of_zero_le hc.1
    have hn : ((n : Nat) : Int) < M 3 2 := hc.2.1
    have hD := fd_Rel_D h
    rw [if_neg (not_not_intro hc), show ((n : Nat) : Int).toNat = n from rfl, (dm n hn).1, (dm n hn).2]
    have hY := show ¬ ¬ (0 ≤ ((n : Nat) : Int) ∧ ((n : Nat) : Int) < M 3 2 ∧ 0 ≤ w ∧ w < 4) by omega
    by_cases hq : fd_cvC M (M 15 n + fd_sx w) (M 16 n + fd_sy w) = 0
    · rw [if_neg (not_not_intro hq)]
      have ey : fd_Y_moves M (n : Int) w = fd_up (fd_up (fd_push M) 15 n (M 15 n + fd_sx w)) 16 n (M 16 n + fd_sy w) := by
        unfold fd_Y_moves
        rw [if_neg hY]
        exact if_neg (not_not_intro hq)
      rw [ey, fd_know_up _ (by decide), fd_know_up _ (by decide)]
      obtain ⟨z1, z2, z3, z4⟩ := (fd_cvC_zero (fd_Rel_CG h) _ _).mp hq
      have hP := fd_Rel_push h
      obtain ⟨q1, q2, q3, q4, q5, q6⟩ := fd_Rel_SN hP
      have c3 : fd_know (fd_push M) 3 = M 3 := fd_P_c h (by omega) (by omega)
      have c15 : fd_know (fd_push M) 15 = M 15 := fd_P_c h (by omega) (by omega)
      have c16 : fd_know (fd_push M) 16 = M 16 := fd_P_c h (by omega) (by omega)
      have c14 : fd_know (fd_push M) 14 = M 14 := fd_P_c h (by omega) (by omega)
      have g0 := h.1.1.1
      have g1 := h.1.1.2.1
      generalize hx : M 15 n + fd_sx w = nx at *
      generalize hy : M 16 n + fd_sy w = ny at *
      have nod : ∀ e : Nat, (e : Int) < M 3 2 → ¬ (M 15 e = nx ∧ M 16 e = ny) := fun e he => fd_dr_none (M 3 2).toNat 0 z4 e (by omega) (by omega)
      refine fd_Rel_now hP (fun c h1 h2 => by rw [fd_up_ne h2, fd_up_ne (by omega), fd_up_ne (by omega)]) (fun k hk => by rw [fd_up_at, if_neg (by omega), fd_up_ne (by decide), fd_up_ne (by decide)]) ⟨fd_up_all (P := fun z => 0 ≤ z ∧ z ≤ 6) (M := fd_know (fd_push M)) (c := 15) hP.2.1.1.1 (by omega), fd_up_all (P := fun z => 0 ≤ z ∧ z ≤ 6) (M := fd_know (fd_push M)) (c := 16) hP.2.1.1.2.1 (by omega), hP.2.1.1.2.2⟩ ?_
      have u : ∀ k, fd_up (fd_up (fd_up (fd_know (fd_push M)) 15 n nx) 16 n ny) 208 n (7 * ny + nx) 208 k = if k = n then 7 * ny + nx else fd_know (fd_push M) 208 k := fun k => by
        rw [fd_up_at, fd_up_ne (by decide), fd_up_ne (by decide)]
      have ux : ∀ k, fd_up (fd_up (fd_up (fd_know (fd_push M)) 15 n nx) 16 n ny) 208 n (7 * ny + nx) 15 k = if k = n then nx else M 15 k := fun k => by
        rw [fd_up_ne (by decide), fd_up_ne (by decide), fd_up_at, c15]
      have uy : ∀ k, fd_up (fd_up (fd_up (fd_know (fd_push M)) 15 n nx) 16 n ny) 208 n (7 * ny + nx) 16 k = if k = n then ny else M 16 k := fun k => by
        rw [fd_up_ne (by decide), fd_up_at, fd_up_ne (by decide), c16]
      have u3 : fd_up (fd_up (fd_up (fd_know (fd_push M)) 15 n nx) 16 n ny) 208 n (7 * ny + nx) 3 = M 3 := by
        rw [fd_up_ne (by decide), fd_up_ne (by decide), fd_up_ne (by decide), c3]
      have u14 : fd_up (fd_up (fd_up (fd_know (fd_push M)) 15 n nx) 16 n ny) 208 n (7 * ny + nx) 14 = M 14 := by
        rw [fd_up_ne (by decide), fd_up_ne (by decide), fd_up_ne (by decide), c14]
      rw [c3] at q1 q2
      unfold fd_SN
      rw [u3, u14]
      refine ⟨fun e he => ?_, fun e f he hf hxx hyy => ?_, ?_, ?_, ?_, fun y hy => ?_⟩
      · obtain ⟨⟨a1, a2, a3⟩, a4, a5⟩ := q1 e he
        rw [c15, c16] at a1 a4 a5
        rw [c14] at a5
        rw [u, u, u, ux, uy, if_neg (show ¬ 6 + e = n by omega), if_neg (show ¬ 15 + e = n by omega)]
        by_cases z : e = n
        · subst z
          rw [if_pos rfl, if_pos rfl, if_pos rfl]
          exact ⟨⟨rfl, a2, a3⟩, ⟨by omega, by omega⟩, by rcases fd_mod2 (v := M 14 5 / 2 ^ (ny * 7 + nx).toNat) with r | r; exact absurd r z3; exact r⟩
        · rw [if_neg z, if_neg z, if_neg z]
          exact ⟨⟨a1, a2, a3⟩, a4, a5⟩
      · rw [ux, ux] at hxx
        rw [uy, uy] at hyy
        by_cases z : e = n
        · by_cases y : f = n
          · omega
          · rw [if_pos z, if_neg y] at hxx hyy
            exact absurd ⟨hxx.symm, hyy.symm⟩ (nod f hf)
        · by_cases y : f = n
          · rw [if_neg z, if_pos y] at hxx hyy
            exact absurd ⟨hxx, hyy⟩ (nod e he)
          · rw [if_neg z, if_neg y] at hxx hyy
            exact sn.2.1 e f he hf hxx hyy
      · rw [u, if_neg (by omega), q3, c14]
      · rw [u, if_neg (by omega), q4, c14]
      · rw [u, if_neg (by omega), q5, c14]
      · rw [u, if_neg (by omega), q6 y hy, c14]
    · rw [if_pos hq]
      unfold fd_Y_moves
      rw [if_neg hY]
      rw [if_pos (show ¬ fd_cvC M (M 15 ((n : Nat) : Int).toNat + fd_sx w) (M 16 ((n : Nat) : Int).toNat + fd_sy w) = 0 from hq)]
      exact h
  · rw [if_pos hc]
    unfold fd_Y_moves
    rw [if_pos (show ¬ (0 ≤ d ∧ d < M 3 2 ∧ 0 ≤ w ∧ w < 4) by omega)]
    exact h

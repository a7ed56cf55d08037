/-! calls that ask, and small changes -/
def fd_tmp2 (c : Nat) : Prop := fd_tmp c ∨ c ≤ 2 ∨ (78 ≤ c ∧ c ≤ 80) ∨ c = 200 ∨ c = 211 ∨ c = 212 ∨ (14 ≤ c ∧ c ≤ 18) ∨ c = 208
theorem fd_Rel_up {M N : fd_M} (h : fd_Rel M) (hc : ∀ c, ¬ fd_tmp2 c → N c = M c) (h8 : ∀ k, 28 ≤ k → N 208 k = M 208 k) (hT : fd_GT N) (h76 : N 76 = M 76) (hS : fd_SG N 14) (hN : fd_SR N 14 0) : fd_Rel N := by
  obtain ⟨⟨c1, c2, c3, c4, c5, c6, c7, c8, c9, c10, c11⟩, ⟨s1, s2, s3, s4⟩, -, ⟨p0, p1, p2, p3, p4, p5⟩, ⟨n1, n2, n3⟩, i0, i1⟩ := h
  have q : ∀ c, ¬ fd_tmp2 c → N c = M c := hc
  have e3 : N 3 = M 3 := q 3 (by unfold fd_tmp2 fd_tmp; omega)
  have e19 : N 19 = M 19 := q 19 (by unfold fd_tmp2 fd_tmp; omega)
  have e20 : N 20 = M 20 := q 20 (by unfold fd_tmp2 fd_tmp; omega)
  have hD := c1.2.2.1.2
  refine ⟨⟨?_, ?_, ?_, ?_, ?_, ?_, ?_, ?_, ?_, by rw [h76]; exact c10, ?_⟩, ⟨hS, ?_, ?_, ?_⟩, hT, ⟨?_, ?_, ?_, ?_, ?_, ?_⟩, ⟨hN, ?_, ?_⟩, ?_, ?_⟩
  · unfold fd_PG; rw [e3, q 4 (by unfold fd_tmp2 fd_tmp; omega)]; exact c1
  · unfold fd_HS; rw [e20]; exact c2
  · rw [e20]; exact c3
  · rw [e19]; exact c4
  · unfold fd_IM; rw [q 71 (by unfold fd_tmp2 fd_tmp; omega), q 90 (by unfold fd_tmp2 fd_tmp; omega), q 148 (by unfold fd_tmp2 fd_tmp; omega)]; exact c5
  · rw [q 83 (by unfold fd_tmp2 fd_tmp; omega)]; exact c6
  · rw [q 141 (by unfold fd_tmp2 fd_tmp; omega)]; exact c7
  · rw [q 89 (by unfold fd_tmp2 fd_tmp; omega)]; exact c8
  · rw [q 147 (by unfold fd_tmp2 fd_tmp; omega)]; exact c9
  · unfold fd_DG; rw [q 9 (by unfold fd_tmp2 fd_tmp; omega), q 10 (by unfold fd_tmp2 fd_tmp; omega), q 11 (by unfold fd_tmp2 fd_tmp; omega), q 12 (by unfold fd_tmp2 fd_tmp; omega)]; exact c11
  · exact fd_SG_c s2 (fun i hi => q _ (by unfold fd_tmp2 fd_tmp; omega))
  · exact fd_SG_c s3 (fun i hi => q _ (by unfold fd_tmp2 fd_tmp; omega))
  · exact fun j hj => ⟨fd_SG_c (s4 j hj).1 (fun i hi => q _ (by unfold fd_tmp2 fd_tmp; omega)), fd_SG_c (s4 j hj).2.1 (fun i hi => q _ (by unfold fd_tmp2 fd_tmp; omega)), fd_SG_c (s4 j hj).2.2 (fun i hi => q _ (by unfold fd_tmp2 fd_tmp; omega))⟩
  · rw [q 201 (by unfold fd_tmp2 fd_tmp; omega), e3]; exact p0
  · rw [q 202 (by unfold fd_tmp2 fd_tmp; omega), e3]; exact p1
  · rw [q 204 (by unfold fd_tmp2 fd_tmp; omega), e3]; exact p2
  · rw [q 207 (by unfold fd_tmp2 fd_tmp; omega), e3]; exact p3
  · rw [q 207 (by unfold fd_tmp2 fd_tmp; omega), e3]; exact p4
  · rw [q 203 (by unfold fd_tmp2 fd_tmp; omega), e3, q 4 (by unfold fd_tmp2 fd_tmp; omega)]; exact p5
  · rw [h8 28 (by omega), e19]; exact n2
  · rw [e19, e20]
    intro i hi
    obtain ⟨j, hj, ej⟩ := c2 i (by omega)
    have := n3 i hi
    rw [ej] at this ⊢
    exact fd_SR_c this e3 (fun i hi => q _ (by unfold fd_tmp2 fd_tmp; omega)) (fun k _ => h8 _ (by omega)) hD
  · exact fd_GI_of i0 hD (q 83 (by unfold fd_tmp2 fd_tmp; omega)) (q 89 (by unfold fd_tmp2 fd_tmp; omega)) e3 (fun k hk => h8 _ (by omega)) (q 209 (by unfold fd_tmp2 fd_tmp; omega)) (fun j hj => q _ (by unfold fd_tmp2 fd_tmp; omega)) (fun c h1 h2 => q _ (by unfold fd_tmp2 fd_tmp; omega)) c8.2
  · exact fd_GI_of i1 hD (q 141 (by unfold fd_tmp2 fd_tmp; omega)) (q 147 (by unfold fd_tmp2 fd_tmp; omega)) e3 (fun k hk => h8 _ (by omega)) (q 209 (by unfold fd_tmp2 fd_tmp; omega)) (fun j hj => q _ (by unfold fd_tmp2 fd_tmp; omega)) (fun c h1 h2 => q _ (by unfold fd_tmp2 fd_tmp; omega)) c9.2
/-- nothing of the scenes has changed -/
theorem fd_Rel_T {M N : fd_M} (h : fd_Rel M) (hc : ∀ c, ¬ (c ≤ 2 ∨ (78 ≤ c ∧ c ≤ 80) ∨ c = 199 ∨ c = 200 ∨ c = 211 ∨ c = 212) → N c = M c) (hT : fd_GT N) : fd_Rel N :=
  fd_Rel_up h (fun c hc2 => hc c (fun z => hc2 (by unfold fd_tmp2 fd_tmp; omega))) (fun k _ => by rw [hc 208 (by omega)]) hT (hc 76 (by omega)) (fd_SG_c h.2.1.1 (fun i hi => hc _ (by omega))) (fd_SR_c h.2.2.2.2.1.1 (hc 3 (by omega)) (fun i hi => hc _ (by omega)) (fun k _ => by rw [hc 208 (by omega)]) (fd_Rel_D h).2)
theorem fd_op0 {Rel : fd_M → Prop} {mx mr : Nat} (h : ∀ M, Rel M → ∃ r M1 M2, fd_call 40 mx [fd_R 0] M (some (fd_I r)) M1 ∧ fd_call 40 mr [fd_R 199] M1 (some (fd_I r)) M2 ∧ Rel M2) : fd_op Rel mx mr 0 := by
  intro M hM as hl hr
  obtain rfl := List.eq_nil_of_length_eq_zero hl
  exact h M hM
theorem fd_op1 {Rel : fd_M → Prop} {mx mr : Nat} (h : ∀ M, Rel M → ∀ a : Int, -2147483648 ≤ a ∧ a < 2147483648 → ∃ r M1 M2, fd_call 40 mx [fd_R 0, fd_I a] M (some (fd_I r)) M1 ∧ fd_call 40 mr [fd_R 199, fd_I a] M1 (some (fd_I r)) M2 ∧ Rel M2) : fd_op Rel mx mr 1 := by
  intro M hM as hl hr
  match as, hl, hr with
  | [a], _, hr => exact h M hM a (hr a (by simp))
theorem fd_op2 {Rel : fd_M → Prop} {mx mr : Nat} (h : ∀ M, Rel M → ∀ a b : Int, -2147483648 ≤ a ∧ a < 2147483648 → -2147483648 ≤ b ∧ b < 2147483648 → ∃ r M1 M2, fd_call 40 mx [fd_R 0, fd_I a, fd_I b] M (some (fd_I r)) M1 ∧ fd_call 40 mr [fd_R 199, fd_I a, fd_I b] M1 (some (fd_I r)) M2 ∧ Rel M2) : fd_op Rel mx mr 2 := by
  intro M hM as hl hr
  match as, hl, hr with
  | [a, b], _, hr => exact h M hM a b (hr a (by simp)) (hr b (by simp))
theorem fd_op3 {Rel : fd_M → Prop} {mx mr : Nat} (h : ∀ M, Rel M → ∀ a b c : Int, -2147483648 ≤ a ∧ a < 2147483648 → -2147483648 ≤ b ∧ b < 2147483648 → -2147483648 ≤ c ∧ c < 2147483648 → ∃ r M1 M2, fd_call 40 mx [fd_R 0, fd_I a, fd_I b, fd_I c] M (some (fd_I r)) M1 ∧ fd_call 40 mr [fd_R 199, fd_I a, fd_I b, fd_I c] M1 (some (fd_I r)) M2 ∧ Rel M2) : fd_op Rel mx mr 3 := by
  intro M hM as hl hr
  match as, hl, hr with
  | [a, b, c], _, hr => exact h M hM a b c (hr a (by simp)) (hr b (by simp)) (hr c (by simp))
theorem fd_o_cell : fd_op fd_Rel 4 70 2 := fd_op2 fun M h x y hx hy => by
  have a := fd_x_cell M (fd_Rel_CG h) x y hx hy
  have b := fd_r_cell M (fd_Rel_RP h) (fd_Rel_RS h) x y hx hy
  rw [fd_Rel_cv h] at b
  exact ⟨_, M, M, fd_callD a (by decide), fd_callD b (by decide), h⟩
theorem fd_bi_mod {v : Int} : fd_bi (v % 2 = 1) = v % 2 := by
  rcases fd_mod2 (v := v) with h | h
  · rw [fd_bi1 h, h]
  · rw [fd_bi0 (by omega), h]
theorem fd_nb_eq {r : Int} {d : Nat} (h : r = -9 ∨ 0 ≤ r) : fd_nb r = (d : Int) ↔ r = (d : Int) := by
  unfold fd_nb
  rcases h with h | h
  · rw [if_pos h]; omega
  · rw [if_neg (by omega)]
theorem fd_bits_congr {p q : Nat → Prop} [DecidablePred p] [DecidablePred q] (n : Nat) (h : ∀ j, j < n → (p j ↔ q j)) : fd_bits p n = fd_bits q n := by
  apply fd_sum_congr
  intro j hj
  by_cases a : p j
  · rw [if_pos a, if_pos ((h j hj).mp a)]
  · rw [if_neg a, if_neg (fun z => a ((h j hj).mpr z))]
theorem fd_Rel_seen {M : fd_M} (h : fd_Rel M) (e : Nat) : fd_bits (fun j => fd_sR (fd_tak M) j = (e : Int)) (M 204 0).toNat = fd_bits (fun j => fd_nb (fd_sw M j) = (e : Int)) (M 3 2).toNat := by
  rw [h.2.2.2.1.2.2.1]
  refine fd_bits_congr _ (fun j hj => ?_)
  rw [fd_Rel_s h (by omega)]
  have r := fd_sw_rng (fd_Rel_CG h) j
  exact (fd_nb_eq (by omega)).symm
theorem fd_bi_c {p q : Prop} [Decidable p] [Decidable q] (h : p ↔ q) : fd_bi p = fd_bi q := by
  by_cases a : p
  · rw [fd_bi1 a, fd_bi1 (h.mp a)]
  · rw [fd_bi0 a, fd_bi0 (fun z => a (h.mpr z))]
theorem fd_o_door : fd_op fd_Rel 5 80 2 := fd_op2 fun M h d w hd hw => by
  have a := fd_x_door M (fd_Rel_CG h) d hd w hw
  have b := fd_r_door M (fd_Rel_RP h) (fd_Rel_RS h) d hd w hw
  have e : fd_A_door M d w = fd_X_door M d w := by
    unfold fd_A_door fd_X_door
    have p2 := h.2.2.2.1.2.2.1
    rw [p2]
    by_cases hc : 0 ≤ d ∧ d < M 3 2
    · rw [if_neg (not_not_intro hc), if_neg (not_not_intro hc)]
      obtain ⟨n, rfl⟩ := Int.eq_ofNat_of_zero_le hc.1
      have hn : ((n : Nat) : Int) < M 3 2 := hc.2
      obtain ⟨n1, n2, n3, n4, n5, n6⟩ := fd_Rel_SN h
      obtain ⟨⟨a1, a2, a3⟩, -, -⟩ := n1 n hn
      have b1 : 0 ≤ M 15 n ∧ M 15 n ≤ 6 := h.2.1.1.1 n
      have r := fd_sw_rng (fd_Rel_CG h) n
      have e7 := fd_Rel_seen h n
      rw [p2] at e7
      rw [show ((n : Nat) : Int).toNat = n from rfl, a1, a2, a3, n3, fd_Rel_s h hn, fd_Rel_d h hn, e7, show (7 * M 16 n + M 15 n) % 7 = M 15 n by omega, show (7 * M 16 n + M 15 n) / 7 = M 16 n by omega, fd_bi_mod, fd_bi_c ((fd_vR_sm (fd_smR_tak M) n _).trans (fd_Rel_v h hn _)), fd_Rel_tw h hn]
      have e4 : (if fd_sw M n = -9 then (0 : Int) else 2 ^ (fd_sw M n).toNat) = if fd_nb (fd_sw M n) = -1 then 0 else 2 ^ (fd_nb (fd_sw M n)).toNat := by
        unfold fd_nb
        by_cases z : fd_sw M n = -9
        · rw [if_pos z, if_pos z, if_pos rfl]
        · rw [if_neg z, if_neg z, if_neg (by omega)]
      rw [e4]
    · rw [if_pos hc, if_pos hc]
  rw [e] at b
  refine ⟨_, M, _, fd_callD a (by decide), fd_callD b (by decide), ?_⟩
  unfold fd_B_door
  split
  · exact h
  · exact fd_Rel_sm h (fd_smR_tak M)
theorem fd_o_count : fd_op fd_Rel 26 110 1 := fd_op1 fun M h w hw => by
  have a := fd_x_count M (fd_Rel_CG h) w hw
  have b := fd_r_count M w hw
  obtain ⟨p0, p1, p2, p3, p4, -⟩ := h.2.2.2.1
  have e : fd_A_count M w = fd_X_count M w := by
    unfold fd_A_count fd_X_count
    rw [p0, p1, p2, p3, p4, h.2.2.1.2.1, h.2.2.2.2.1.2.1, h.2.2.1.2.2.2.2.2.1]
  rw [e] at b
  exact ⟨_, M, M, fd_callD a (by decide), fd_callD b (by decide), h⟩
theorem fd_o_forget : fd_op fd_Rel 19 101 0 := fd_op0 fun M h => by
  have a := fd_x_forget M
  have b := fd_r_forget (fd_up M 78 2 0)
  have e : fd_up M 78 2 0 199 23 = M 78 2 := h.2.2.1.2.1
  rw [e] at b
  refine ⟨_, _, _, fd_callD a (by decide), fd_callD b (by decide), fd_Rel_T h (fun c hc => ?_) ?_⟩
  · rw [fd_up_ne (by omega), fd_up_ne (by omega)]
  · obtain ⟨t1, t2, t3, t4, t5, t6, t7, t8⟩ := h.2.2.1
    exact ⟨⟨(by show (0 : Int) ≤ 0 ∧ (0 : Int) ≤ 6; omega), fun i hi => absurd hi (by show ¬ (i : Int) < 0; omega)⟩, rfl, t3, t4, t5, t6, t7, t8⟩
theorem fd_o_clear : fd_op fd_Rel 2 54 0 := fd_op0 fun M h => by
  have a := fd_x_clear M
  have b := fd_r_clear (fd_up M 1 1 0)
  have e : fd_up M 1 1 0 199 2 = M 1 1 := h.2.2.1.2.2.2.2.2.1
  rw [e] at b
  refine ⟨_, _, _, fd_callD a (by decide), fd_callD b (by decide), fd_Rel_T h (fun c hc => ?_) ?_⟩
  · rw [fd_up_ne (by omega), fd_up_ne (by omega)]
  · obtain ⟨t1, t2, t3, t4, t5, t6, t7, t8⟩ := h.2.2.1
    exact ⟨t1, t2, t3, t4, ⟨(by show (0 : Int) ≤ 0 ∧ (0 : Int) ≤ 150; omega), t5.2⟩, rfl, t7, t8⟩
theorem fd_o_trace : fd_opJ fd_Rel 27 111 := by
  intro M h
  have a := fd_x_trace M
  have b := fd_r_trace M
  rw [h.2.2.1.2.2.2.2.2.2.2] at b
  exact ⟨_, M, M, fd_callD a (by decide), fd_callD b (by decide), h⟩

/-! images brought back -/
theorem fd_give0_ok {M : fd_M} (h : fd_Rel M) : (∀ q, 1 ≤ q → q ≤ 4 → ∀ t, t < 6 → fd_give0 M (14 + q) t = M (84 + q) t) ∧ (∀ t, 4 ≤ t → t ≤ 7 → fd_give0 M 14 t = M 84 t) ∧ fd_give0 M 19 1 = M 89 1 ∧ (∀ i : Nat, (i : Int) < M 89 1 → (∀ q, 1 ≤ q → q ≤ 4 → ∀ t, t < 6 → fd_give0 M ((M 20 i).toNat + q) t = M (91 + 5 * i + q) t) ∧ (∀ t, 4 ≤ t → t ≤ 7 → fd_give0 M (M 20 i).toNat t = M (91 + 5 * i) t)) ∧ fd_SG (fd_give0 M) 14 ∧ (∀ j, j < 10 → fd_SG (fd_give0 M) (21 + 5 * j)) := by
  have hI := h.1.2.2.2.2.1
  have hz := h.1.2.2.2.2.2.2.2.1
  have xr : ∀ c, ¬ (14 ≤ c ∧ c ≤ 19) → (fd_up (fd_cps M 14 84) 19 1 (M 89 1)) c = M c := fun c h1 => by rw [fd_up_ne (by omega), fd_cps_fr (by omega)]
  have R2 : fd_HR (fd_up (fd_cps M 14 84) 19 1 (M 89 1)) 90 91 := by unfold fd_HR; rw [xr 90 (by omega)]; exact fd_HR90 hI
  have R1 : fd_HR (fd_up (fd_cps M 14 84) 19 1 (M 89 1)) 20 21 := by unfold fd_HR; rw [xr 20 (by omega)]; exact h.1.2.1
  have IMr : ∀ i : Nat, i < 10 → M 90 i = ((91 + 5 * i : Nat) : Int) := hI.2.2.1
  have inj : ∀ i j : Nat, i < 10 → j < 10 → (fd_up (fd_cps M 14 84) 19 1 (M 89 1)) 20 i = (fd_up (fd_cps M 14 84) 19 1 (M 89 1)) 20 j → i = j := fun i j hi hj e => by
    rw [xr 20 (by omega)] at e
    exact h.1.2.2.1 i j hi hj e
  obtain ⟨k1, k2⟩ := fd_hcp_ok R1 R2 (by omega) inj (fun j hj => fd_SG_c (h.2.1.2.2.2 j hj).1 (fun i hi => xr _ (by omega))) (fun j hj => fd_SG_c (h.2.1.2.2.2 j hj).2.1 (fun i hi => xr _ (by omega))) (M 89 1).toNat (by omega)
  have fr : ∀ c, c < 21 ∨ 71 ≤ c → fd_give0 M c = (fd_up (fd_cps M 14 84) 19 1 (M 89 1)) c := fun c hc => by
    unfold fd_give0
    exact fd_hcp_fr R1 (by omega) _ (by omega)
  refine ⟨fun q q1 q4 t ht => ?_, fun t t4 t7 => ?_, ?_, fun i hi => ?_, ?_, fun j hj => ?_⟩
  · rw [fr _ (by omega), fd_up_ne (by omega)]
    unfold fd_cps
    rw [if_neg (by omega), if_pos (by omega), show 84 + (14 + q - 14) = 84 + q by omega]
  · rw [fr _ (by omega), fd_up_ne (by omega)]
    unfold fd_cps
    rw [if_pos ⟨rfl, t4, t7⟩]
  · rw [fr _ (by omega), fd_up_at, if_pos rfl]
  · obtain ⟨g1, g2⟩ := k1 i (by omega)
    obtain ⟨j, hj, ej⟩ := h.1.2.1 i (by omega)
    rw [xr 90 (by omega), xr 20 (by omega), IMr i (by omega), ej] at g1 g2
    rw [ej]
    refine ⟨fun q q1 q4 t ht => ?_, fun t t4 t7 => ?_⟩
    · have z := g1 q q1 q4 t ht
      rw [show (((91 + 5 * i : Nat) : Int)).toNat = 91 + 5 * i from rfl, xr _ (by omega)] at z
      exact z
    · have z := g2 t t4 t7
      rw [show (((91 + 5 * i : Nat) : Int)).toNat = 91 + 5 * i from rfl, xr _ (by omega)] at z
      exact z
  · exact fd_SG_c (M := (fd_up (fd_cps M 14 84) 19 1 (M 89 1))) (fd_SG_c (M := fd_cps M 14 84) (fd_SG_cps (by omega) h.2.1.1 h.2.1.2.1) (fun i hi => fd_up_ne (by omega))) (fun i hi => fr _ (by omega))
  · exact k2 j hj
theorem fd_Rel_back0 {M : fd_M} (h : fd_Rel M) (hk : ¬ M 83 2 = 0) : fd_Rel (fd_bk (fd_give0 M) 0) := by
  have hD := fd_Rel_D h
  have hz := h.1.2.2.2.2.2.2.2.1
  obtain ⟨k1, k2, k3, k6, k7, k8⟩ := fd_give0_ok h
  obtain ⟨w1, w2, w3⟩ := (h.2.2.2.2.2.1).2 hk
  have tf : ∀ c, c < 14 ∨ 71 ≤ c ∨ c = 20 → fd_give0 M c = M c := fun c hc => fd_give0_fr h.1.2.1 hz hc
  have uc : ∀ c, c ≠ 208 → fd_bk (fd_give0 M) 0 c = fd_give0 M c := fun c h1 => by
    unfold fd_bk
    rw [fd_cp_fr h1]
  have ulo : ∀ k, k < 309 → fd_bk (fd_give0 M) 0 208 k = M 208 (309 * (1 + 0) + k) := fun k hk => by
    unfold fd_bk
    rw [fd_cp_in (by omega), tf 208 (by omega), Nat.sub_zero]
  have uhi : ∀ k, 309 ≤ k → fd_bk (fd_give0 M) 0 208 k = M 208 k := fun k hk => by
    unfold fd_bk
    rw [fd_cp_out (by omega), tf 208 (by omega)]
  have e3 : fd_bk (fd_give0 M) 0 3 = M 3 := by rw [uc 3 (by decide), tf 3 (by omega)]
  have e20 : fd_bk (fd_give0 M) 0 20 = M 20 := by rw [uc 20 (by decide), tf 20 (by omega)]
  have e19 : fd_bk (fd_give0 M) 0 19 1 = M 89 1 := by rw [uc 19 (by decide), k3]
  refine fd_Rel_H h (fun c h1 h2 h3 => by rw [uc c h3, tf c (by omega)]) (fun k _ _ => by rw [uc 199 (by decide), tf 199 (by omega)]) (by rw [uc 76 (by decide), tf 76 (by omega)]) uhi (by unfold fd_HS; rw [e20]; exact h.1.2.1) (by rw [e20]; exact h.1.2.2.1) (by rw [e19]; exact hz) (fd_SG_c k7 (fun i hi => uc _ (by omega))) (fun j hj => fd_SG_c (k8 j hj) (fun i hi => uc _ (by omega))) ⟨?_, ?_, fun i hi => ?_⟩
  · exact fd_SR_of (a := 14) (o := 0) w1 (by rw [e3]) (by rw [e3]) (by rw [e3]) hD.2 (fun i h1 h2 k hk => by rw [uc _ (by omega)]; exact k1 i h1 h2 k hk) (fun k h1 h2 => by rw [uc _ (by decide)]; exact k2 k h1 h2) (fun k hk => by rw [Nat.zero_add]; exact ulo k (by omega))
  · rw [ulo 28 (by omega), e19]; exact w2
  · rw [e19] at hi
    rw [e20]
    obtain ⟨y1, y2⟩ := k6 i hi
    obtain ⟨a, ha, ea⟩ := h.1.2.1 i (by omega)
    refine fd_SR_of (w3 i hi) (by rw [e3]) (by rw [e3]) (by rw [e3]) hD.2 (fun q h1 h2 k hk => by rw [uc _ (by rw [ea]; show 21 + 5 * a + q ≠ 208; omega)]; exact y1 q h1 h2 k hk) (fun k h1 h2 => by rw [uc _ (by rw [ea]; show 21 + 5 * a ≠ 208; omega)]; exact y2 k h1 h2) (fun k hk => by rw [ulo _ (by omega), show 309 * (1 + 0) + (29 + 28 * i + k) = 309 * (1 + 0) + (29 + 28 * i) + k by omega])
theorem fd_give1_ok {M : fd_M} (h : fd_Rel M) : (∀ q, 1 ≤ q → q ≤ 4 → ∀ t, t < 6 → fd_give1 M (14 + q) t = M (142 + q) t) ∧ (∀ t, 4 ≤ t → t ≤ 7 → fd_give1 M 14 t = M 142 t) ∧ fd_give1 M 19 1 = M 147 1 ∧ (∀ i : Nat, (i : Int) < M 147 1 → (∀ q, 1 ≤ q → q ≤ 4 → ∀ t, t < 6 → fd_give1 M ((M 20 i).toNat + q) t = M (149 + 5 * i + q) t) ∧ (∀ t, 4 ≤ t → t ≤ 7 → fd_give1 M (M 20 i).toNat t = M (149 + 5 * i) t)) ∧ fd_SG (fd_give1 M) 14 ∧ (∀ j, j < 10 → fd_SG (fd_give1 M) (21 + 5 * j)) := by
  have hI := h.1.2.2.2.2.1
  have hz := h.1.2.2.2.2.2.2.2.2.1
  have xr : ∀ c, ¬ (14 ≤ c ∧ c ≤ 19) → (fd_up (fd_cps M 14 142) 19 1 (M 147 1)) c = M c := fun c h1 => by rw [fd_up_ne (by omega), fd_cps_fr (by omega)]
  have R2 : fd_HR (fd_up (fd_cps M 14 142) 19 1 (M 147 1)) 148 149 := by unfold fd_HR; rw [xr 148 (by omega)]; exact fd_HR148 hI
  have R1 : fd_HR (fd_up (fd_cps M 14 142) 19 1 (M 147 1)) 20 21 := by unfold fd_HR; rw [xr 20 (by omega)]; exact h.1.2.1
  have IMr : ∀ i : Nat, i < 10 → M 148 i = ((149 + 5 * i : Nat) : Int) := hI.2.2.2
  have inj : ∀ i j : Nat, i < 10 → j < 10 → (fd_up (fd_cps M 14 142) 19 1 (M 147 1)) 20 i = (fd_up (fd_cps M 14 142) 19 1 (M 147 1)) 20 j → i = j := fun i j hi hj e => by
    rw [xr 20 (by omega)] at e
    exact h.1.2.2.1 i j hi hj e
  obtain ⟨k1, k2⟩ := fd_hcp_ok R1 R2 (by omega) inj (fun j hj => fd_SG_c (h.2.1.2.2.2 j hj).1 (fun i hi => xr _ (by omega))) (fun j hj => fd_SG_c (h.2.1.2.2.2 j hj).2.2 (fun i hi => xr _ (by omega))) (M 147 1).toNat (by omega)
  have fr : ∀ c, c < 21 ∨ 71 ≤ c → fd_give1 M c = (fd_up (fd_cps M 14 142) 19 1 (M 147 1)) c := fun c hc => by
    unfold fd_give1
    exact fd_hcp_fr R1 (by omega) _ (by omega)
  refine ⟨fun q q1 q4 t ht => ?_, fun t t4 t7 => ?_, ?_, fun i hi => ?_, ?_, fun j hj => ?_⟩
  · rw [fr _ (by omega), fd_up_ne (by omega)]
    unfold fd_cps
    rw [if_neg (by omega), if_pos (by omega), show 142 + (14 + q - 14) = 142 + q by omega]
  · rw [fr _ (by omega), fd_up_ne (by omega)]
    unfold fd_cps
    rw [if_pos ⟨rfl, t4, t7⟩]
  · rw [fr _ (by omega), fd_up_at, if_pos rfl]
  · obtain ⟨g1, g2⟩ := k1 i (by omega)
    obtain ⟨j, hj, ej⟩ := h.1.2.1 i (by omega)
    rw [xr 148 (by omega), xr 20 (by omega), IMr i (by omega), ej] at g1 g2
    rw [ej]
    refine ⟨fun q q1 q4 t ht => ?_, fun t t4 t7 => ?_⟩
    · have z := g1 q q1 q4 t ht
      rw [show (((149 + 5 * i : Nat) : Int)).toNat = 149 + 5 * i from rfl, xr _ (by omega)] at z
      exact z
    · have z := g2 t t4 t7
      rw [show (((149 + 5 * i : Nat) : Int)).toNat = 149 + 5 * i from rfl, xr _ (by omega)] at z
      exact z
  · exact fd_SG_c (M := (fd_up (fd_cps M 14 142) 19 1 (M 147 1))) (fd_SG_c (M := fd_cps M 14 142) (fd_SG_cps (by omega) h.2.1.1 h.2.1.2.2.1) (fun i hi => fd_up_ne (by omega))) (fun i hi => fr _ (by omega))
  · exact k2 j hj
theorem fd_Rel_back1 {M : fd_M} (h : fd_Rel M) (hk : ¬ M 141 2 = 0) : fd_Rel (fd_bk (fd_give1 M) 1) := by
  have hD := fd_Rel_D h
  have hz := h.1.2.2.2.2.2.2.2.2.1
  obtain ⟨k1, k2, k3, k6, k7, k8⟩ := fd_give1_ok h
  obtain ⟨w1, w2, w3⟩ := (h.2.2.2.2.2.2).2 hk
  have tf : ∀ c, c < 14 ∨ 71 ≤ c ∨ c = 20 → fd_give1 M c = M c := fun c hc => fd_give1_fr h.1.2.1 hz hc
  have uc : ∀ c, c ≠ 208 → fd_bk (fd_give1 M) 1 c = fd_give1 M c := fun c h1 => by
    unfold fd_bk
    rw [fd_cp_fr h1]
  have ulo : ∀ k, k < 309 → fd_bk (fd_give1 M) 1 208 k = M 208 (309 * (1 + 1) + k) := fun k hk => by
    unfold fd_bk
    rw [fd_cp_in (by omega), tf 208 (by omega), Nat.sub_zero]
  have uhi : ∀ k, 309 ≤ k → fd_bk (fd_give1 M) 1 208 k = M 208 k := fun k hk => by
    unfold fd_bk
    rw [fd_cp_out (by omega), tf 208 (by omega)]
  have e3 : fd_bk (fd_give1 M) 1 3 = M 3 := by rw [uc 3 (by decide), tf 3 (by omega)]
  have e20 : fd_bk (fd_give1 M) 1 20 = M 20 := by rw [uc 20 (by decide), tf 20 (by omega)]
  have e19 : fd_bk (fd_give1 M) 1 19 1 = M 147 1 := by rw [uc 19 (by decide), k3]
  refine fd_Rel_H h (fun c h1 h2 h3 => by rw [uc c h3, tf c (by omega)]) (fun k _ _ => by rw [uc 199 (by decide), tf 199 (by omega)]) (by rw [uc 76 (by decide), tf 76 (by omega)]) uhi (by unfold fd_HS; rw [e20]; exact h.1.2.1) (by rw [e20]; exact h.1.2.2.1) (by rw [e19]; exact hz) (fd_SG_c k7 (fun i hi => uc _ (by omega))) (fun j hj => fd_SG_c (k8 j hj) (fun i hi => uc _ (by omega))) ⟨?_, ?_, fun i hi => ?_⟩
  · exact fd_SR_of (a := 14) (o := 0) w1 (by rw [e3]) (by rw [e3]) (by rw [e3]) hD.2 (fun i h1 h2 k hk => by rw [uc _ (by omega)]; exact k1 i h1 h2 k hk) (fun k h1 h2 => by rw [uc _ (by decide)]; exact k2 k h1 h2) (fun k hk => by rw [Nat.zero_add]; exact ulo k (by omega))
  · rw [ulo 28 (by omega), e19]; exact w2
  · rw [e19] at hi
    rw [e20]
    obtain ⟨y1, y2⟩ := k6 i hi
    obtain ⟨a, ha, ea⟩ := h.1.2.1 i (by omega)
    refine fd_SR_of (w3 i hi) (by rw [e3]) (by rw [e3]) (by rw [e3]) hD.2 (fun q h1 h2 k hk => by rw [uc _ (by rw [ea]; show 21 + 5 * a + q ≠ 208; omega)]; exact y1 q h1 h2 k hk) (fun k h1 h2 => by rw [uc _ (by rw [ea]; show 21 + 5 * a ≠ 208; omega)]; exact y2 k h1 h2) (fun k hk => by rw [ulo _ (by omega), show 309 * (1 + 1) + (29 + 28 * i + k) = 309 * (1 + 1) + (29 + 28 * i) + k by omega])
theorem fd_o_back : fd_op fd_Rel 25 109 1 := fd_op1 fun M h w hw => by
  obtain ⟨c1, c2, c3, c4, c5, c6, c7, c8, c9, c10, c11⟩ := id h.1
  have p2 := h.2.2.2.1.2.2.1
  have hD := fd_Rel_D h
  have a := fd_x_back M (fd_Rel_CG h) c5 c2 c6 c7 c8 c9 h.2.1.2.1 h.2.1.2.2.1 (fun i hi => by rw [c5.2.2.1 i hi]; exact ⟨(h.2.1.2.2.2 i hi).2.1.2.2.2.2.2.2.1, (h.2.1.2.2.2 i hi).2.1.2.2.2.2.2.2.2⟩) (fun i hi => by rw [c5.2.2.2 i hi]; exact ⟨(h.2.1.2.2.2 i hi).2.2.2.2.2.2.2.2.1, (h.2.1.2.2.2 i hi).2.2.2.2.2.2.2.2.2⟩) w hw
  have fr : ∀ c, 71 ≤ c → fd_Y_back M w c = M c := fun c hc => by
    unfold fd_Y_back
    split
    · rfl
    · split
      · split
        · rfl
        · exact fd_give0_fr c2 c8 (by omega)
      · split
        · rfl
        · exact fd_give1_fr c2 c9 (by omega)
  have k0 : M 209 0 = M 83 2 := h.2.2.2.2.2.1.1
  have k1 : M 209 1 = M 141 2 := h.2.2.2.2.2.2.1
  have b := fd_r_back (fd_Y_back M w) (fd_RP_of (fd_Rel_RP h) (fr _ (by omega)) (fr _ (by omega)) (fr _ (by omega)) (fr _ (by omega)) (fr _ (by omega))) (fun i hi => by
    rw [fr 209 (by omega)]
    by_cases z : i = 0
    · subst z; rw [k0]; exact c6
    · have : i = 1 := by omega
      subst this; rw [k1]; exact c7) (fun i hi hk => by
    rw [fr 209 (by omega)] at hk
    have e8 : ∀ k, k < 309 → fd_bk (fd_Y_back M w) i 208 k = M 208 (309 * (1 + i) + k) := fun k hk => by
      unfold fd_bk
      rw [fd_cp_in (by omega), fr 208 (by omega), Nat.sub_zero]
    have e4 : fd_bk (fd_Y_back M w) i 204 0 = M 3 2 := by
      unfold fd_bk
      rw [fd_cp_fr (by decide), fr 204 (by omega)]
      exact p2
    by_cases z : i = 0
    · subst z
      rw [k0] at hk
      obtain ⟨w1, w2, w3⟩ := h.2.2.2.2.2.1.2 hk
      exact fd_RS_SR w1 h.2.1.2.1 hD.2 e4 (fun k hk => e8 k (by omega)) (by rw [e8 28 (by omega), w2]; exact c8)
    · have : i = 1 := by omega
      subst this
      rw [k1] at hk
      obtain ⟨w1, w2, w3⟩ := h.2.2.2.2.2.2.2 hk
      exact fd_RS_SR w1 h.2.1.2.2.1 hD.2 e4 (fun k hk => e8 k (by omega)) (by rw [e8 28 (by omega), w2]; exact c9)) w hw
  have e4 : fd_Y_back M w 204 0 = M 3 2 := by rw [fr 204 (by omega)]; exact p2
  have e9 : fd_Y_back M w 209 = M 209 := fr 209 (by omega)
  by_cases hc : 0 ≤ w ∧ w ≤ 1
  · have hc2 : 0 ≤ w ∧ w < 2 := by omega
    have hX : fd_X_back M w = if M 209 w.toNat = 0 then -2 else fd_sum (fd_dueC (fd_Y_back M w)) (M 3 2).toNat := by
      unfold fd_X_back fd_Y_back
      rw [if_neg (not_not_intro hc2), if_neg (not_not_intro hc2)]
      by_cases z : w = 0
      · subst z
        rw [if_pos rfl, if_pos rfl, show (0 : Int).toNat = 0 from rfl, k0]
        by_cases q : M 83 2 = 0
        · rw [if_pos q, if_pos q]
        · rw [if_neg q, if_neg q, if_neg q]
      · have : w = 1 := by omega
        subst this
        rw [if_neg z, if_neg z, show (1 : Int).toNat = 1 from rfl, k1]
        by_cases q : M 141 2 = 0
        · rw [if_pos q, if_pos q]
        · rw [if_neg q, if_neg q, if_neg q]
    by_cases hk : M 209 w.toNat = 0
    · have eA : fd_A_back (fd_Y_back M w) w = fd_X_back M w := by
        rw [hX]
        unfold fd_A_back
        rw [e9, if_neg (not_not_intro hc), if_pos hk, if_pos hk]
      have ey : fd_Y_back M w = M := by
        unfold fd_Y_back
        rw [if_neg (not_not_intro hc2)]
        by_cases z : w = 0
        · subst z
          rw [show (0 : Int).toNat = 0 from rfl, k0] at hk
          rw [if_pos rfl, if_pos hk]
        · have : w = 1 := by omega
          subst this
          rw [show (1 : Int).toNat = 1 from rfl, k1] at hk
          rw [if_neg z, if_pos hk]
      rw [eA] at b
      refine ⟨_, _, _, fd_callD a (by decide), fd_callD b (by decide), ?_⟩
      unfold fd_B_back
      rw [e9, if_neg (not_not_intro hc), if_pos hk, ey]
      exact h
    · have hN : fd_Rel (fd_bk (fd_Y_back M w) w.toNat) := by
        unfold fd_Y_back
        rw [if_neg (not_not_intro hc2)]
        by_cases z : w = 0
        · subst z
          rw [show (0 : Int).toNat = 0 from rfl, k0] at hk
          rw [if_pos rfl, if_neg hk]
          exact fd_Rel_back0 h hk
        · have : w = 1 := by omega
          subst this
          rw [show (1 : Int).toNat = 1 from rfl, k1] at hk
          rw [if_neg z, if_neg hk]
          exact fd_Rel_back1 h hk
      have nc : ∀ c, c < 199 → fd_bk (fd_Y_back M w) w.toNat c = fd_Y_back M w c := fun c hc => by
        unfold fd_bk
        rw [fd_cp_fr (by omega)]
      have n3 : fd_Y_back M w 3 = M 3 := by
        unfold fd_Y_back
        split
        · rfl
        · split
          · split
            · rfl
            · exact fd_give0_fr c2 c8 (by omega)
          · split
            · rfl
            · exact fd_give1_fr c2 c9 (by omega)
      have eA : fd_A_back (fd_Y_back M w) w = fd_X_back M w := by
        rw [hX]
        unfold fd_A_back
        rw [e9, e4, if_neg (not_not_intro hc), if_neg hk, if_neg hk]
        exact fd_sum_congr _ (fun j hj => fd_Rel_d2 hN nc (by rw [nc 3 (by omega), n3]; omega))
      rw [eA] at b
      refine ⟨_, _, _, fd_callD a (by decide), fd_callD b (by decide), ?_⟩
      unfold fd_B_back
      rw [e9, if_neg (not_not_intro hc), if_neg hk]
      exact fd_Rel_sm hN (fd_smR_tak _)
  · have hc2 : ¬ (0 ≤ w ∧ w < 2) := by omega
    have eA : fd_A_back (fd_Y_back M w) w = fd_X_back M w := by
      unfold fd_A_back fd_X_back
      rw [if_pos hc, if_pos hc2]
    rw [eA] at b
    refine ⟨_, _, _, fd_callD a (by decide), fd_callD b (by decide), ?_⟩
    unfold fd_B_back
    rw [if_pos hc]
    unfold fd_Y_back
    rw [if_pos hc2]
    exact h

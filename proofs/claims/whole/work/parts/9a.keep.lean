/-! images -/
theorem fd_hcp_ok {X : fd_M} {r1 r2 B1 B2 : Nat} (h1 : fd_HR X r1 B1) (h2 : fd_HR X r2 B2) (hd : B1 + 50 ≤ B2 ∨ B2 + 50 ≤ B1) (hin : ∀ i j : Nat, i < 10 → j < 10 → X r1 i = X r1 j → i = j) (s1 : ∀ j, j < 10 → fd_SG X (B1 + 5 * j)) (s2 : ∀ j, j < 10 → fd_SG X (B2 + 5 * j)) : ∀ k : Nat, k ≤ 10 → (∀ i, i < k → (∀ q, 1 ≤ q → q ≤ 4 → ∀ t, t < 6 → fd_hcp X r1 r2 k ((X r1 i).toNat + q) t = X ((X r2 i).toNat + q) t) ∧ (∀ t, 4 ≤ t → t ≤ 7 → fd_hcp X r1 r2 k (X r1 i).toNat t = X (X r2 i).toNat t)) ∧ (∀ j, j < 10 → fd_SG (fd_hcp X r1 r2 k) (B1 + 5 * j))
  | 0, _ => ⟨fun i hi => absurd hi (by omega), s1⟩
  | k + 1, hk => by
    obtain ⟨ih1, ih2⟩ := fd_hcp_ok h1 h2 hd hin s1 s2 k (by omega)
    obtain ⟨a, ha, ea⟩ := h1 k (by omega)
    obtain ⟨b, hb, eb⟩ := h2 k (by omega)
    have e : fd_hcp X r1 r2 (k + 1) = fd_cps (fd_hcp X r1 r2 k) (B1 + 5 * a) (B2 + 5 * b) := by
      show fd_cps (fd_hcp X r1 r2 k) (X r1 k).toNat (X r2 k).toNat = _
      rw [ea, eb]
      rfl
    have fb : ∀ q, q ≤ 4 → fd_hcp X r1 r2 k (B2 + 5 * b + q) = X (B2 + 5 * b + q) := fun q hq => fd_hcp_fr h1 (by omega) k (by omega)
    refine ⟨fun i hi => ?_, fun j hj => ?_⟩
    · rw [e]
      by_cases z : i = k
      · subst z
        rw [ea, eb]
        refine ⟨fun q q1 q4 t ht => ?_, fun t t4 t7 => ?_⟩
        · show fd_cps _ (B1 + 5 * a) (B2 + 5 * b) (B1 + 5 * a + q) t = X (B2 + 5 * b + q) t
          unfold fd_cps
          rw [if_neg (by omega), if_pos (by omega), show B2 + 5 * b + (B1 + 5 * a + q - (B1 + 5 * a)) = B2 + 5 * b + q by omega, fb q q4]
        · show fd_cps _ (B1 + 5 * a) (B2 + 5 * b) (B1 + 5 * a) t = X (B2 + 5 * b) t
          have f0 := fb 0 (by omega)
          rw [Nat.add_zero] at f0
          unfold fd_cps
          rw [if_pos ⟨rfl, t4, t7⟩, f0]
      · obtain ⟨a2, ha2, ea2⟩ := h1 i (by omega)
        have na : a2 ≠ a := fun w => z (hin i k (by omega) (by omega) (by rw [ea2, ea, w]))
        obtain ⟨g1, g2⟩ := ih1 i (by omega)
        rw [ea2] at g1 g2 ⊢
        refine ⟨fun q q1 q4 t ht => ?_, fun t t4 t7 => ?_⟩
        · rw [show (((B1 + 5 * a2 : Nat) : Int)).toNat = B1 + 5 * a2 from rfl, fd_cps_fr (by omega)]
          exact g1 q q1 q4 t ht
        · rw [show (((B1 + 5 * a2 : Nat) : Int)).toNat = B1 + 5 * a2 from rfl, fd_cps_fr (by omega)]
          exact g2 t t4 t7
    · rw [e]
      by_cases z : j = a
      · subst z
        exact fd_SG_cps (by omega) (ih2 j hj) (fd_SG_c (s2 b hb) (fun q hq => fb q hq))
      · exact fd_SG_c (ih2 j hj) (fun q hq => fd_cps_fr (by omega))
theorem fd_RS_SR {M N : fd_M} {a p : Nat} (h : fd_SR M a p) (hS : fd_SG M a) (hD : M 3 2 ≤ 6) (e4 : N 204 0 = M 3 2) (e8 : ∀ k, k < 28 → N 208 k = M 208 (p + k)) (e28 : 0 ≤ N 208 28 ∧ N 208 28 ≤ 10) : fd_RS N := by
  obtain ⟨n1, n2, n3, n4, n5, n6⟩ := h
  obtain ⟨s1, s2, s3, s4, s5, s6, s7, s8⟩ := hS
  refine ⟨fun d hd => ?_, fun y hy => ?_, ?_, ?_, ?_, e28⟩
  · rw [e4] at hd
    obtain ⟨⟨a1, a2, a3⟩, -, -⟩ := n1 d hd
    dsimp only at a1 a2 a3
    rw [e8 d (by omega), e8 (6 + d) (by omega), e8 (15 + d) (by omega), a1, a2, a3]
    have b1 := s1 d
    have b2 := s2 d
    exact ⟨by omega, s3 d, s4 d⟩
  · rw [e8 _ (by omega)]
    have z : M 208 (p + (21 + y)) = M (a + 0) 5 / 2 ^ (7 * y) % 128 := n6 y hy
    rw [z]
    omega
  · rw [e8 12 (by omega)]
    have z : M 208 (p + 12) = M (a + 0) 4 := n3
    rw [z]; exact s5
  · rw [e8 13 (by omega)]
    have z : M 208 (p + 13) = M (a + 0) 6 := n4
    rw [z]; exact s7
  · rw [e8 14 (by omega)]
    have z : M 208 (p + 14) = M (a + 0) 7 := n5
    rw [z]; exact s8
theorem fd_Rel_I {M N : fd_M} (h : fd_Rel M) (hc : ∀ c, ¬ fd_tmp c → ¬ (83 ≤ c ∧ c < 199) → c ≠ 208 → c ≠ 209 → N c = M c) (h199 : ∀ k, k ≠ 19 → k ≠ 20 → N 199 k = M 199 k) (h76 : N 76 = M 76) (h8 : ∀ k, k < 309 → N 208 k = M 208 k) (h90 : N 90 = M 90) (h148 : N 148 = M 148) (f0 : 0 ≤ N 83 2 ∧ N 83 2 ≤ 1) (f1 : 0 ≤ N 141 2 ∧ N 141 2 ≤ 1) (z0 : 0 ≤ N 89 1 ∧ N 89 1 ≤ 10) (z1 : 0 ≤ N 147 1 ∧ N 147 1 ≤ 10) (S0 : fd_SG N 84) (S1 : fd_SG N 142) (S2 : ∀ j, j < 10 → fd_SG N (91 + 5 * j)) (S3 : ∀ j, j < 10 → fd_SG N (149 + 5 * j)) (i0 : fd_GI N 83 84 89 90 91 0) (i1 : fd_GI N 141 142 147 148 149 1) : fd_Rel N := by
  obtain ⟨⟨c1, c2, c3, c4, c5, c6, c7, c8, c9, c10, c11⟩, ⟨s1, s2, s3, s4⟩, ⟨t1, t2, t3, t4, t5, t6, t7, t8⟩, ⟨p0, p1, p2, p3, p4, p5⟩, ⟨n1, n2, n3⟩, -, -⟩ := h
  have q : ∀ c, ¬ fd_tmp c → ¬ (83 ≤ c ∧ c < 199) → c ≠ 208 → c ≠ 209 → N c = M c := hc
  have e3 : N 3 = M 3 := q 3 (by unfold fd_tmp; omega) (by omega) (by omega) (by omega)
  have e19 : N 19 = M 19 := q 19 (by unfold fd_tmp; omega) (by omega) (by omega) (by omega)
  have e20 : N 20 = M 20 := q 20 (by unfold fd_tmp; omega) (by omega) (by omega) (by omega)
  have hD := c1.2.2.1.2
  refine ⟨⟨?_, ?_, ?_, ?_, ?_, f0, f1, z0, z1, by rw [h76]; exact c10, ?_⟩, ⟨?_, S0, S1, ?_⟩, ⟨?_, ?_, ?_, ?_, ?_, ?_, ?_, ?_⟩, ⟨?_, ?_, ?_, ?_, ?_, ?_⟩, ⟨?_, ?_, ?_⟩, i0, i1⟩
  · unfold fd_PG; rw [e3, q 4 (by unfold fd_tmp; omega) (by omega) (by omega) (by omega)]; exact c1
  · unfold fd_HS; rw [e20]; exact c2
  · rw [e20]; exact c3
  · rw [e19]; exact c4
  · unfold fd_IM; rw [q 71 (by unfold fd_tmp; omega) (by omega) (by omega) (by omega), h90, h148]; exact c5
  · unfold fd_DG; rw [q 9 (by unfold fd_tmp; omega) (by omega) (by omega) (by omega), q 10 (by unfold fd_tmp; omega) (by omega) (by omega) (by omega), q 11 (by unfold fd_tmp; omega) (by omega) (by omega) (by omega), q 12 (by unfold fd_tmp; omega) (by omega) (by omega) (by omega)]; exact c11
  · exact fd_SG_c s1 (fun i hi => q _ (by unfold fd_tmp; omega) (by omega) (by omega) (by omega))
  · exact fun j hj => ⟨fd_SG_c (s4 j hj).1 (fun i hi => q _ (by unfold fd_tmp; omega) (by omega) (by omega) (by omega)), S2 j hj, S3 j hj⟩
  · unfold fd_TG; rw [q 78 (by unfold fd_tmp; omega) (by omega) (by omega) (by omega), q 79 (by unfold fd_tmp; omega) (by omega) (by omega) (by omega), q 80 (by unfold fd_tmp; omega) (by omega) (by omega) (by omega), e3]; exact t1
  · rw [h199 23 (by decide) (by decide), q 78 (by unfold fd_tmp; omega) (by omega) (by omega) (by omega)]; exact t2
  · rw [q 211 (by unfold fd_tmp; omega) (by omega) (by omega) (by omega), q 79 (by unfold fd_tmp; omega) (by omega) (by omega) (by omega)]; exact t3
  · rw [q 212 (by unfold fd_tmp; omega) (by omega) (by omega) (by omega), q 80 (by unfold fd_tmp; omega) (by omega) (by omega) (by omega)]; exact t4
  · unfold tk_XG; rw [q 1 (by unfold fd_tmp; omega) (by omega) (by omega) (by omega), q 2 (by unfold fd_tmp; omega) (by omega) (by omega) (by omega)]; exact t5
  · rw [h199 2 (by decide) (by decide), q 1 (by unfold fd_tmp; omega) (by omega) (by omega) (by omega)]; exact t6
  · rw [q 200 (by unfold fd_tmp; omega) (by omega) (by omega) (by omega), q 2 (by unfold fd_tmp; omega) (by omega) (by omega) (by omega)]; exact t7
  · rw [h199 0 (by decide) (by decide), q 0 (by unfold fd_tmp; omega) (by omega) (by omega) (by omega)]; exact t8
  · rw [q 201 (by unfold fd_tmp; omega) (by omega) (by omega) (by omega), e3]; exact p0
  · rw [q 202 (by unfold fd_tmp; omega) (by omega) (by omega) (by omega), e3]; exact p1
  · rw [q 204 (by unfold fd_tmp; omega) (by omega) (by omega) (by omega), e3]; exact p2
  · rw [q 207 (by unfold fd_tmp; omega) (by omega) (by omega) (by omega), e3]; exact p3
  · rw [q 207 (by unfold fd_tmp; omega) (by omega) (by omega) (by omega), e3]; exact p4
  · rw [q 203 (by unfold fd_tmp; omega) (by omega) (by omega) (by omega), e3, q 4 (by unfold fd_tmp; omega) (by omega) (by omega) (by omega)]; exact p5
  · exact fd_SR_c n1 e3 (fun i hi => q _ (by unfold fd_tmp; omega) (by omega) (by omega) (by omega)) (fun k hk => h8 _ (by omega)) hD
  · rw [h8 28 (by omega), e19]; exact n2
  · rw [e19, e20]
    intro i hi
    obtain ⟨j, hj, ej⟩ := c2 i (by omega)
    have := n3 i hi
    rw [ej] at this ⊢
    exact fd_SR_c this e3 (fun i hi => q _ (by unfold fd_tmp; omega) (by omega) (by omega) (by omega)) (fun k hk => h8 _ (by omega)) hD
theorem fd_take0_ok {M : fd_M} (h : fd_Rel M) : (∀ q, 1 ≤ q → q ≤ 4 → ∀ t, t < 6 → fd_take0 M (84 + q) t = M (14 + q) t) ∧ (∀ t, 4 ≤ t → t ≤ 7 → fd_take0 M 84 t = M 14 t) ∧ fd_take0 M 89 1 = M 19 1 ∧ fd_take0 M 83 2 = 1 ∧ fd_take0 M 90 = M 90 ∧ (∀ i : Nat, (i : Int) < M 19 1 → (∀ q, 1 ≤ q → q ≤ 4 → ∀ t, t < 6 → fd_take0 M (91 + 5 * i + q) t = M ((M 20 i).toNat + q) t) ∧ (∀ t, 4 ≤ t → t ≤ 7 → fd_take0 M (91 + 5 * i) t = M (M 20 i).toNat t)) ∧ fd_SG (fd_take0 M) 84 ∧ (∀ j, j < 10 → fd_SG (fd_take0 M) (91 + 5 * j)) := by
  have hI := h.1.2.2.2.2.1
  have h19 := h.1.2.2.2.1
  have xr : ∀ c, ¬ (84 ≤ c ∧ c ≤ 84 + 4) → c ≠ 89 → (fd_up (fd_cps M 84 14) 89 1 (M 19 1)) c = M c := fun c h1 h2 => by rw [fd_up_ne h2, fd_cps_fr (by omega)]
  have R1 : fd_HR (fd_up (fd_cps M 84 14) 89 1 (M 19 1)) 90 91 := by unfold fd_HR; rw [xr 90 (by omega) (by omega)]; exact fd_HR90 hI
  have R2 : fd_HR (fd_up (fd_cps M 84 14) 89 1 (M 19 1)) 20 21 := by unfold fd_HR; rw [xr 20 (by omega) (by omega)]; exact h.1.2.1
  have IMr : ∀ i : Nat, i < 10 → M 90 i = ((91 + 5 * i : Nat) : Int) := hI.2.2.1
  have inj : ∀ i j : Nat, i < 10 → j < 10 → (fd_up (fd_cps M 84 14) 89 1 (M 19 1)) 90 i = (fd_up (fd_cps M 84 14) 89 1 (M 19 1)) 90 j → i = j := fun i j hi hj e => by
    rw [xr 90 (by omega) (by omega), IMr i hi, IMr j hj] at e
    omega
  obtain ⟨k1, k2⟩ := fd_hcp_ok R1 R2 (by omega) inj (fun j hj => fd_SG_c (h.2.1.2.2.2 j hj).2.1 (fun i hi => xr _ (by omega) (by omega))) (fun j hj => fd_SG_c (h.2.1.2.2.2 j hj).1 (fun i hi => xr _ (by omega) (by omega))) (M 19 1).toNat (by omega)
  have fr : ∀ c, c < 91 ∨ 91 + 50 ≤ c → c ≠ 83 → fd_take0 M c = (fd_up (fd_cps M 84 14) 89 1 (M 19 1)) c := fun c hc hf => by
    unfold fd_take0
    rw [fd_up_ne hf, fd_hcp_fr R1 hc _ (by omega)]
  have inn : ∀ c, 91 ≤ c → c < 91 + 50 → fd_take0 M c = fd_hcp (fd_up (fd_cps M 84 14) 89 1 (M 19 1)) 90 20 (M 19 1).toNat c := fun c h1 h2 => by
    unfold fd_take0
    rw [fd_up_ne (by omega)]
  refine ⟨fun q q1 q4 t ht => ?_, fun t t4 t7 => ?_, ?_, ?_, ?_, fun i hi => ?_, ?_, fun j hj => ?_⟩
  · rw [fr _ (by omega) (by omega), fd_up_ne (by omega)]
    unfold fd_cps
    rw [if_neg (by omega), if_pos (by omega), show 14 + (84 + q - 84) = 14 + q by omega]
  · rw [fr _ (by omega) (by omega), fd_up_ne (by omega)]
    unfold fd_cps
    rw [if_pos ⟨rfl, t4, t7⟩]
  · rw [fr _ (by omega) (by omega), fd_up_at, if_pos rfl]
  · unfold fd_take0
    rw [fd_up_at, if_pos rfl]
  · rw [fr _ (by omega) (by omega), xr _ (by omega) (by omega)]
  · obtain ⟨g1, g2⟩ := k1 i (by omega)
    obtain ⟨j, hj, ej⟩ := h.1.2.1 i (by omega)
    rw [xr 90 (by omega) (by omega), xr 20 (by omega) (by omega), IMr i (by omega), ej] at g1 g2
    rw [ej]
    refine ⟨fun q q1 q4 t ht => ?_, fun t t4 t7 => ?_⟩
    · rw [inn _ (by omega) (by omega)]
      have z := g1 q q1 q4 t ht
      rw [show (((21 + 5 * j : Nat) : Int)).toNat = 21 + 5 * j from rfl] at z ⊢
      rw [xr _ (by omega) (by omega)] at z
      exact z
    · rw [inn _ (by omega) (by omega)]
      have z := g2 t t4 t7
      rw [show (((21 + 5 * j : Nat) : Int)).toNat = 21 + 5 * j from rfl] at z ⊢
      rw [xr _ (by omega) (by omega)] at z
      exact z
  · refine fd_SG_c (M := (fd_up (fd_cps M 84 14) 89 1 (M 19 1))) (fd_SG_c (M := fd_cps M 84 14) (fd_SG_cps (by omega) h.2.1.2.1 h.2.1.1) (fun i hi => fd_up_ne (by omega))) (fun i hi => fr _ (by omega) (by omega))
  · exact fd_SG_c (k2 j hj) (fun i hi => inn _ (by omega) (by omega))
theorem fd_Rel_keep0 {M : fd_M} (h : fd_Rel M) : fd_Rel (fd_kp (fd_take0 M) 0) := by
  have hI := h.1.2.2.2.2.1
  have h19 := h.1.2.2.2.1
  have hD := fd_Rel_D h
  obtain ⟨k1, k2, k3, k4, k5, k6, k7, k8⟩ := fd_take0_ok h
  obtain ⟨n1, n2, n3⟩ := h.2.2.2.2.1
  have tf : ∀ c, c < 83 ∨ 141 ≤ c → fd_take0 M c = M c := fun c hc => fd_take0_fr hI h19 hc
  have uc : ∀ c, c ≠ 208 → c ≠ 209 → fd_kp (fd_take0 M) 0 c = fd_take0 M c := fun c h1 h2 => by
    unfold fd_kp
    rw [fd_up_ne h2, fd_cp_fr h1]
  have u8 : ∀ k, (k < 309 ∨ 309 + 309 ≤ k) → fd_kp (fd_take0 M) 0 208 k = M 208 k := fun k hk => by
    unfold fd_kp
    rw [fd_up_ne (by decide), fd_cp_out (by omega), tf 208 (by omega)]
  have u8i : ∀ k, k < 309 → fd_kp (fd_take0 M) 0 208 (309 + k) = M 208 k := fun k hk => by
    unfold fd_kp
    rw [fd_up_ne (by decide), fd_cp_in (by omega), tf 208 (by omega), show 0 + (309 + k - 309 * (1 + 0)) = k by omega]
  have u9 : ∀ k, fd_kp (fd_take0 M) 0 209 k = if k = 0 then 1 else M 209 k := fun k => by
    unfold fd_kp
    rw [fd_up_at, fd_cp_fr (by decide), tf 209 (by omega)]
  have e3 : fd_kp (fd_take0 M) 0 3 = M 3 := by rw [uc 3 (by decide) (by decide), tf 3 (by omega)]
  have g : ∀ c, c < 83 ∨ 141 ≤ c → c ≠ 208 → c ≠ 209 → fd_kp (fd_take0 M) 0 c = M c := fun c h1 h2 h3 => by rw [uc c h2 h3, tf c h1]
  have GIn : fd_GI (fd_kp (fd_take0 M) 0) 83 84 89 90 91 0 := by
    unfold fd_GI
    rw [uc 83 (by decide) (by decide), uc 89 (by decide) (by decide), k3, k4, u9, if_pos rfl]
    refine ⟨rfl, fun _ => ⟨?_, ?_, fun j hj => ?_⟩⟩
    · exact fd_SR_of (b := 14) (p := 0) n1 (by rw [e3]) (by rw [e3]) (by rw [e3]) hD.2 (fun i h1 h2 k hk => by rw [uc _ (by omega) (by omega)]; exact k1 i h1 h2 k hk) (fun k h1 h2 => by rw [uc _ (by decide) (by decide)]; exact k2 k h1 h2) (fun k hk => by rw [Nat.zero_add]; exact u8i k (by omega))
    · exact (u8i 28 (by omega)).trans n2
    · obtain ⟨y1, y2⟩ := k6 j hj
      obtain ⟨a, ha, ea⟩ := h.1.2.1 j (by omega)
      have w := n3 j hj
      refine fd_SR_of (b := (M 20 j).toNat) w (by rw [e3]) (by rw [e3]) (by rw [e3]) hD.2 (fun i h1 h2 k hk => by rw [uc _ (by omega) (by omega)]; exact y1 i h1 h2 k hk) (fun k h1 h2 => by rw [uc _ (by omega) (by omega)]; exact y2 k h1 h2) (fun k hk => ?_)
      have z := u8i (29 + 28 * j + k) (by omega)
      rw [← z, show 309 * (1 + 0) + (29 + 28 * j) + k = 309 + (29 + 28 * j + k) by omega]
  have GIo : fd_GI (fd_kp (fd_take0 M) 0) 141 142 147 148 149 1 := by
    obtain ⟨y1, y2⟩ := h.2.2.2.2.2.2
    unfold fd_GI
    rw [g 141 (by omega) (by decide) (by decide), g 147 (by omega) (by decide) (by decide), u9, if_neg (by decide)]
    refine ⟨y1, fun z => ?_⟩
    obtain ⟨w1, w2, w3⟩ := y2 z
    have oz := h.1.2.2.2.2.2.2.2.2.1
    exact ⟨fd_SR_c w1 e3 (fun i hi => g _ (by omega) (by omega) (by omega)) (fun k hk => u8 _ (by omega)) hD.2, by rw [u8 _ (by omega)]; exact w2, fun j hj => fd_SR_c (w3 j hj) e3 (fun i hi => g _ (by omega) (by omega) (by omega)) (fun k hk => u8 _ (by omega)) hD.2⟩
  refine fd_Rel_I h (fun c h1 h2 h3 h4 => g c (by omega) h3 h4) (fun k _ _ => by rw [g 199 (by omega) (by decide) (by decide)]) (g 76 (by omega) (by decide) (by decide)) (fun k hk => u8 k (by omega)) (by rw [uc 90 (by decide) (by decide), k5]) (by rw [g 148 (by omega) (by decide) (by decide)]) (by rw [uc 83 (by decide) (by decide), k4]; decide) (by rw [g 141 (by omega) (by decide) (by decide)]; exact h.1.2.2.2.2.2.2.1) (by rw [uc 89 (by decide) (by decide), k3]; exact h19) (by rw [g 147 (by omega) (by decide) (by decide)]; exact h.1.2.2.2.2.2.2.2.2.1) (fd_SG_c k7 (fun i hi => uc _ (by omega) (by omega))) (fd_SG_c h.2.1.2.2.1 (fun i hi => g _ (by omega) (by omega) (by omega))) (fun j hj => fd_SG_c (k8 j hj) (fun i hi => uc _ (by omega) (by omega))) (fun j hj => fd_SG_c (h.2.1.2.2.2 j hj).2.2 (fun i hi => g _ (by omega) (by omega) (by omega))) GIn GIo
theorem fd_take1_ok {M : fd_M} (h : fd_Rel M) : (∀ q, 1 ≤ q → q ≤ 4 → ∀ t, t < 6 → fd_take1 M (142 + q) t = M (14 + q) t) ∧ (∀ t, 4 ≤ t → t ≤ 7 → fd_take1 M 142 t = M 14 t) ∧ fd_take1 M 147 1 = M 19 1 ∧ fd_take1 M 141 2 = 1 ∧ fd_take1 M 148 = M 148 ∧ (∀ i : Nat, (i : Int) < M 19 1 → (∀ q, 1 ≤ q → q ≤ 4 → ∀ t, t < 6 → fd_take1 M (149 + 5 * i + q) t = M ((M 20 i).toNat + q) t) ∧ (∀ t, 4 ≤ t → t ≤ 7 → fd_take1 M (149 + 5 * i) t = M (M 20 i).toNat t)) ∧ fd_SG (fd_take1 M) 142 ∧ (∀ j, j < 10 → fd_SG (fd_take1 M) (149 + 5 * j)) := by
  have hI := h.1.2.2.2.2.1
  have h19 := h.1.2.2.2.1
  have xr : ∀ c, ¬ (142 ≤ c ∧ c ≤ 142 + 4) → c ≠ 147 → (fd_up (fd_cps M 142 14) 147 1 (M 19 1)) c = M c := fun c h1 h2 => by rw [fd_up_ne h2, fd_cps_fr (by omega)]
  have R1 : fd_HR (fd_up (fd_cps M 142 14) 147 1 (M 19 1)) 148 149 := by unfold fd_HR; rw [xr 148 (by omega) (by omega)]; exact fd_HR148 hI
  have R2 : fd_HR (fd_up (fd_cps M 142 14) 147 1 (M 19 1)) 20 21 := by unfold fd_HR; rw [xr 20 (by omega) (by omega)]; exact h.1.2.1
  have IMr : ∀ i : Nat, i < 10 → M 148 i = ((149 + 5 * i : Nat) : Int) := hI.2.2.2
  have inj : ∀ i j : Nat, i < 10 → j < 10 → (fd_up (fd_cps M 142 14) 147 1 (M 19 1)) 148 i = (fd_up (fd_cps M 142 14) 147 1 (M 19 1)) 148 j → i = j := fun i j hi hj e => by
    rw [xr 148 (by omega) (by omega), IMr i hi, IMr j hj] at e
    omega
  obtain ⟨k1, k2⟩ := fd_hcp_ok R1 R2 (by omega) inj (fun j hj => fd_SG_c (h.2.1.2.2.2 j hj).2.2 (fun i hi => xr _ (by omega) (by omega))) (fun j hj => fd_SG_c (h.2.1.2.2.2 j hj).1 (fun i hi => xr _ (by omega) (by omega))) (M 19 1).toNat (by omega)
  have fr : ∀ c, c < 149 ∨ 149 + 50 ≤ c → c ≠ 141 → fd_take1 M c = (fd_up (fd_cps M 142 14) 147 1 (M 19 1)) c := fun c hc hf => by
    unfold fd_take1
    rw [fd_up_ne hf, fd_hcp_fr R1 hc _ (by omega)]
  have inn : ∀ c, 149 ≤ c → c < 149 + 50 → fd_take1 M c = fd_hcp (fd_up (fd_cps M 142 14) 147 1 (M 19 1)) 148 20 (M 19 1).toNat c := fun c h1 h2 => by
    unfold fd_take1
    rw [fd_up_ne (by omega)]
  refine ⟨fun q q1 q4 t ht => ?_, fun t t4 t7 => ?_, ?_, ?_, ?_, fun i hi => ?_, ?_, fun j hj => ?_⟩
  · rw [fr _ (by omega) (by omega), fd_up_ne (by omega)]
    unfold fd_cps
    rw [if_neg (by omega), if_pos (by omega), show 14 + (142 + q - 142) = 14 + q by omega]
  · rw [fr _ (by omega) (by omega), fd_up_ne (by omega)]
    unfold fd_cps
    rw [if_pos ⟨rfl, t4, t7⟩]
  · rw [fr _ (by omega) (by omega), fd_up_at, if_pos rfl]
  · unfold fd_take1
    rw [fd_up_at, if_pos rfl]
  · rw [fr _ (by omega) (by omega), xr _ (by omega) (by omega)]
  · obtain ⟨g1, g2⟩ := k1 i (by omega)
    obtain ⟨j, hj, ej⟩ := h.1.2.1 i (by omega)
    rw [xr 148 (by omega) (by omega), xr 20 (by omega) (by omega), IMr i (by omega), ej] at g1 g2
    rw [ej]
    refine ⟨fun q q1 q4 t ht => ?_, fun t t4 t7 => ?_⟩
    · rw [inn _ (by omega) (by omega)]
      have z := g1 q q1 q4 t ht
      rw [show (((21 + 5 * j : Nat) : Int)).toNat = 21 + 5 * j from rfl] at z ⊢
      rw [xr _ (by omega) (by omega)] at z
      exact z
    · rw [inn _ (by omega) (by omega)]
      have z := g2 t t4 t7
      rw [show (((21 + 5 * j : Nat) : Int)).toNat = 21 + 5 * j from rfl] at z ⊢
      rw [xr _ (by omega) (by omega)] at z
      exact z
  · refine fd_SG_c (M := (fd_up (fd_cps M 142 14) 147 1 (M 19 1))) (fd_SG_c (M := fd_cps M 142 14) (fd_SG_cps (by omega) h.2.1.2.2.1 h.2.1.1) (fun i hi => fd_up_ne (by omega))) (fun i hi => fr _ (by omega) (by omega))
  · exact fd_SG_c (k2 j hj) (fun i hi => inn _ (by omega) (by omega))
theorem fd_Rel_keep1 {M : fd_M} (h : fd_Rel M) : fd_Rel (fd_kp (fd_take1 M) 1) := by
  have hI := h.1.2.2.2.2.1
  have h19 := h.1.2.2.2.1
  have hD := fd_Rel_D h
  obtain ⟨k1, k2, k3, k4, k5, k6, k7, k8⟩ := fd_take1_ok h
  obtain ⟨n1, n2, n3⟩ := h.2.2.2.2.1
  have tf : ∀ c, c < 141 ∨ 199 ≤ c → fd_take1 M c = M c := fun c hc => fd_take1_fr hI h19 hc
  have uc : ∀ c, c ≠ 208 → c ≠ 209 → fd_kp (fd_take1 M) 1 c = fd_take1 M c := fun c h1 h2 => by
    unfold fd_kp
    rw [fd_up_ne h2, fd_cp_fr h1]
  have u8 : ∀ k, (k < 618 ∨ 618 + 309 ≤ k) → fd_kp (fd_take1 M) 1 208 k = M 208 k := fun k hk => by
    unfold fd_kp
    rw [fd_up_ne (by decide), fd_cp_out (by omega), tf 208 (by omega)]
  have u8i : ∀ k, k < 309 → fd_kp (fd_take1 M) 1 208 (618 + k) = M 208 k := fun k hk => by
    unfold fd_kp
    rw [fd_up_ne (by decide), fd_cp_in (by omega), tf 208 (by omega), show 0 + (618 + k - 309 * (1 + 1)) = k by omega]
  have u9 : ∀ k, fd_kp (fd_take1 M) 1 209 k = if k = 1 then 1 else M 209 k := fun k => by
    unfold fd_kp
    rw [fd_up_at, fd_cp_fr (by decide), tf 209 (by omega)]
  have e3 : fd_kp (fd_take1 M) 1 3 = M 3 := by rw [uc 3 (by decide) (by decide), tf 3 (by omega)]
  have g : ∀ c, c < 141 ∨ 199 ≤ c → c ≠ 208 → c ≠ 209 → fd_kp (fd_take1 M) 1 c = M c := fun c h1 h2 h3 => by rw [uc c h2 h3, tf c h1]
  have GIn : fd_GI (fd_kp (fd_take1 M) 1) 141 142 147 148 149 1 := by
    unfold fd_GI
    rw [uc 141 (by decide) (by decide), uc 147 (by decide) (by decide), k3, k4, u9, if_pos rfl]
    refine ⟨rfl, fun _ => ⟨?_, ?_, fun j hj => ?_⟩⟩
    · exact fd_SR_of (b := 14) (p := 0) n1 (by rw [e3]) (by rw [e3]) (by rw [e3]) hD.2 (fun i h1 h2 k hk => by rw [uc _ (by omega) (by omega)]; exact k1 i h1 h2 k hk) (fun k h1 h2 => by rw [uc _ (by decide) (by decide)]; exact k2 k h1 h2) (fun k hk => by rw [Nat.zero_add]; exact u8i k (by omega))
    · exact (u8i 28 (by omega)).trans n2
    · obtain ⟨y1, y2⟩ := k6 j hj
      obtain ⟨a, ha, ea⟩ := h.1.2.1 j (by omega)
      have w := n3 j hj
      refine fd_SR_of (b := (M 20 j).toNat) w (by rw [e3]) (by rw [e3]) (by rw [e3]) hD.2 (fun i h1 h2 k hk => by rw [uc _ (by omega) (by omega)]; exact y1 i h1 h2 k hk) (fun k h1 h2 => by rw [uc _ (by omega) (by omega)]; exact y2 k h1 h2) (fun k hk => ?_)
      have z := u8i (29 + 28 * j + k) (by omega)
      rw [← z, show 309 * (1 + 1) + (29 + 28 * j) + k = 618 + (29 + 28 * j + k) by omega]
  have GIo : fd_GI (fd_kp (fd_take1 M) 1) 83 84 89 90 91 0 := by
    obtain ⟨y1, y2⟩ := h.2.2.2.2.2.1
    unfold fd_GI
    rw [g 83 (by omega) (by decide) (by decide), g 89 (by omega) (by decide) (by decide), u9, if_neg (by decide)]
    refine ⟨y1, fun z => ?_⟩
    obtain ⟨w1, w2, w3⟩ := y2 z
    have oz := h.1.2.2.2.2.2.2.2.1
    exact ⟨fd_SR_c w1 e3 (fun i hi => g _ (by omega) (by omega) (by omega)) (fun k hk => u8 _ (by omega)) hD.2, by rw [u8 _ (by omega)]; exact w2, fun j hj => fd_SR_c (w3 j hj) e3 (fun i hi => g _ (by omega) (by omega) (by omega)) (fun k hk => u8 _ (by omega)) hD.2⟩
  refine fd_Rel_I h (fun c h1 h2 h3 h4 => g c (by omega) h3 h4) (fun k _ _ => by rw [g 199 (by omega) (by decide) (by decide)]) (g 76 (by omega) (by decide) (by decide)) (fun k hk => u8 k (by omega)) (by rw [g 90 (by omega) (by decide) (by decide)]) (by rw [uc 148 (by decide) (by decide), k5]) (by rw [g 83 (by omega) (by decide) (by decide)]; exact h.1.2.2.2.2.2.1) (by rw [uc 141 (by decide) (by decide), k4]; decide) (by rw [g 89 (by omega) (by decide) (by decide)]; exact h.1.2.2.2.2.2.2.2.1) (by rw [uc 147 (by decide) (by decide), k3]; exact h19) (fd_SG_c h.2.1.2.1 (fun i hi => g _ (by omega) (by omega) (by omega))) (fd_SG_c k7 (fun i hi => uc _ (by omega) (by omega))) (fun j hj => fd_SG_c (h.2.1.2.2.2 j hj).2.1 (fun i hi => g _ (by omega) (by omega) (by omega))) (fun j hj => fd_SG_c (k8 j hj) (fun i hi => uc _ (by omega) (by omega))) GIo GIn
theorem fd_S67_20 {M : fd_M} (h : fd_Rel M) : fd_S67 M 20 := fun i hi => by
  obtain ⟨j, hj, ej⟩ := h.1.2.1 i hi
  rw [ej]
  exact ⟨(h.2.1.2.2.2 j hj).1.2.2.2.2.2.2.1, (h.2.1.2.2.2 j hj).1.2.2.2.2.2.2.2⟩
theorem fd_o_keep : fd_op fd_Rel 24 108 1 := fd_op1 fun M h w hw => by
  have hI := h.1.2.2.2.2.1
  have h19 := h.1.2.2.2.1
  have p2 := h.2.2.2.1.2.2.1
  have a := fd_x_keep M (fd_Rel_CG h) hI h.1.2.1 h19 (fd_S67_20 h) w hw
  have fr : ∀ c, c < 83 ∨ 199 ≤ c → fd_Y_keep M w c = M c := fun c hc => by
    unfold fd_Y_keep
    split
    · rfl
    · split
      · exact fd_take0_fr hI h19 (by omega)
      · exact fd_take1_fr hI h19 (by omega)
  have b := fd_r_keep (fd_Y_keep M w) (fd_RP_of (fd_Rel_RP h) (fr _ (by omega)) (fr _ (by omega)) (fr _ (by omega)) (fr _ (by omega)) (fr _ (by omega))) (fd_RS_of (fd_Rel_RS h) (fr _ (by omega)) (fr _ (by omega))) w hw
  by_cases hc : 0 ≤ w ∧ w ≤ 1
  · have hc2 : 0 ≤ w ∧ w < 2 := by omega
    have hN : fd_Rel (fd_kp (fd_Y_keep M w) w.toNat) := by
      unfold fd_Y_keep
      rw [if_neg (not_not_intro hc2)]
      by_cases z : w = 0
      · subst z
        rw [if_pos rfl]
        exact fd_Rel_keep0 h
      · have : w = 1 := by omega
        subst this
        rw [if_neg z]
        exact fd_Rel_keep1 h
    have nc : ∀ c, c < 83 → fd_kp (fd_Y_keep M w) w.toNat c = M c := fun c hc => by
      unfold fd_kp
      rw [fd_up_ne (by omega), fd_cp_fr (by omega), fr c (by omega)]
    have eA : fd_A_keep (fd_Y_keep M w) w = fd_X_keep M w := by
      unfold fd_A_keep fd_X_keep
      rw [if_neg (not_not_intro hc), if_neg (not_not_intro hc2), fr 204 (by omega), p2]
      refine fd_sum_congr _ (fun j hj => ?_)
      rw [fd_Rel_d hN (by rw [nc 3 (by omega)]; omega), fd_dueC_of (nc 3 (by omega)) (nc 4 (by omega)) (nc 14 (by omega)) (nc 15 (by omega)) (nc 16 (by omega)) (nc 17 (by omega))]
    rw [eA] at b
    refine ⟨_, _, _, fd_callD a (by decide), fd_callD b (by decide), ?_⟩
    unfold fd_B_keep
    rw [if_neg (not_not_intro hc)]
    exact fd_Rel_sm hN (fd_smR_tak _)
  · have hc2 : ¬ (0 ≤ w ∧ w < 2) := by omega
    have eA : fd_A_keep (fd_Y_keep M w) w = fd_X_keep M w := by
      unfold fd_A_keep fd_X_keep
      rw [if_pos hc, if_pos hc2]
    rw [eA] at b
    refine ⟨_, _, _, fd_callD a (by decide), fd_callD b (by decide), ?_⟩
    unfold fd_B_keep
    rw [if_pos hc]
    unfold fd_Y_keep
    rw [if_pos hc2]
    exact h

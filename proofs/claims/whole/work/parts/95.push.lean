/-! what may be undone -/
theorem fd_Rel_H {M N : fd_M} (h : fd_Rel M) (hc : ∀ c, ¬ fd_tmp c → ¬ (14 ≤ c ∧ c ≤ 70) → c ≠ 208 → N c = M c) (h199 : ∀ k, k ≠ 19 → k ≠ 20 → N 199 k = M 199 k) (h76 : N 76 = M 76) (h8 : ∀ k, 309 ≤ k → N 208 k = M 208 k) (hHS : fd_HS N) (hin : ∀ i j : Nat, i < 10 → j < 10 → N 20 i = N 20 j → i = j) (h19 : 0 ≤ N 19 1 ∧ N 19 1 ≤ 10) (hS : fd_SG N 14) (hS2 : ∀ j, j < 10 → fd_SG N (21 + 5 * j)) (hN : fd_GN N) : fd_Rel N := by
  obtain ⟨⟨c1, c2, c3, c4, c5, c6, c7, c8, c9, c10, c11⟩, ⟨s1, s2, s3, s4⟩, ⟨t1, t2, t3, t4, t5, t6, t7, t8⟩, ⟨p0, p1, p2, p3, p4, p5⟩, -, i0, i1⟩ := h
  have q : ∀ c, ¬ fd_tmp c → ¬ (14 ≤ c ∧ c ≤ 70) → c ≠ 208 → N c = M c := hc
  have e3 : N 3 = M 3 := q 3 (by unfold fd_tmp; omega) (by omega) (by omega)
  have hD := c1.2.2.1.2
  refine ⟨⟨?_, hHS, hin, h19, ?_, ?_, ?_, ?_, ?_, by rw [h76]; exact c10, ?_⟩, ⟨hS, ?_, ?_, ?_⟩, ⟨?_, ?_, ?_, ?_, ?_, ?_, ?_, ?_⟩, ⟨?_, ?_, ?_, ?_, ?_, ?_⟩, hN, ?_, ?_⟩
  · unfold fd_PG; rw [e3, q 4 (by unfold fd_tmp; omega) (by omega) (by omega)]; exact c1
  · unfold fd_IM; rw [q 71 (by unfold fd_tmp; omega) (by omega) (by omega), q 90 (by unfold fd_tmp; omega) (by omega) (by omega), q 148 (by unfold fd_tmp; omega) (by omega) (by omega)]; exact c5
  · rw [q 83 (by unfold fd_tmp; omega) (by omega) (by omega)]; exact c6
  · rw [q 141 (by unfold fd_tmp; omega) (by omega) (by omega)]; exact c7
  · rw [q 89 (by unfold fd_tmp; omega) (by omega) (by omega)]; exact c8
  · rw [q 147 (by unfold fd_tmp; omega) (by omega) (by omega)]; exact c9
  · unfold fd_DG; rw [q 9 (by unfold fd_tmp; omega) (by omega) (by omega), q 10 (by unfold fd_tmp; omega) (by omega) (by omega), q 11 (by unfold fd_tmp; omega) (by omega) (by omega), q 12 (by unfold fd_tmp; omega) (by omega) (by omega)]; exact c11
  · exact fd_SG_c s2 (fun i hi => q _ (by unfold fd_tmp; omega) (by omega) (by omega))
  · exact fd_SG_c s3 (fun i hi => q _ (by unfold fd_tmp; omega) (by omega) (by omega))
  · exact fun j hj => ⟨hS2 j hj, fd_SG_c (s4 j hj).2.1 (fun i hi => q _ (by unfold fd_tmp; omega) (by omega) (by omega)), fd_SG_c (s4 j hj).2.2 (fun i hi => q _ (by unfold fd_tmp; omega) (by omega) (by omega))⟩
  · unfold fd_TG; rw [q 78 (by unfold fd_tmp; omega) (by omega) (by omega), q 79 (by unfold fd_tmp; omega) (by omega) (by omega), q 80 (by unfold fd_tmp; omega) (by omega) (by omega), e3]; exact t1
  · rw [h199 23 (by decide) (by decide), q 78 (by unfold fd_tmp; omega) (by omega) (by omega)]; exact t2
  · rw [q 211 (by unfold fd_tmp; omega) (by omega) (by omega), q 79 (by unfold fd_tmp; omega) (by omega) (by omega)]; exact t3
  · rw [q 212 (by unfold fd_tmp; omega) (by omega) (by omega), q 80 (by unfold fd_tmp; omega) (by omega) (by omega)]; exact t4
  · unfold tk_XG; rw [q 1 (by unfold fd_tmp; omega) (by omega) (by omega), q 2 (by unfold fd_tmp; omega) (by omega) (by omega)]; exact t5
  · rw [h199 2 (by decide) (by decide), q 1 (by unfold fd_tmp; omega) (by omega) (by omega)]; exact t6
  · rw [q 200 (by unfold fd_tmp; omega) (by omega) (by omega), q 2 (by unfold fd_tmp; omega) (by omega) (by omega)]; exact t7
  · rw [h199 0 (by decide) (by decide), q 0 (by unfold fd_tmp; omega) (by omega) (by omega)]; exact t8
  · rw [q 201 (by unfold fd_tmp; omega) (by omega) (by omega), e3]; exact p0
  · rw [q 202 (by unfold fd_tmp; omega) (by omega) (by omega), e3]; exact p1
  · rw [q 204 (by unfold fd_tmp; omega) (by omega) (by omega), e3]; exact p2
  · rw [q 207 (by unfold fd_tmp; omega) (by omega) (by omega), e3]; exact p3
  · rw [q 207 (by unfold fd_tmp; omega) (by omega) (by omega), e3]; exact p4
  · rw [q 203 (by unfold fd_tmp; omega) (by omega) (by omega), e3, q 4 (by unfold fd_tmp; omega) (by omega) (by omega)]; exact p5
  · exact fd_GI_of i0 hD (q 83 (by unfold fd_tmp; omega) (by omega) (by omega)) (q 89 (by unfold fd_tmp; omega) (by omega) (by omega)) e3 h8 (q 209 (by unfold fd_tmp; omega) (by omega) (by omega)) (fun j hj => q _ (by unfold fd_tmp; omega) (by omega) (by omega)) (fun c h1 h2 => q _ (by unfold fd_tmp; omega) (by omega) (by omega)) c8.2
  · exact fd_GI_of i1 hD (q 141 (by unfold fd_tmp; omega) (by omega) (by omega)) (q 147 (by unfold fd_tmp; omega) (by omega) (by omega)) e3 h8 (q 209 (by unfold fd_tmp; omega) (by omega) (by omega)) (fun j hj => q _ (by unfold fd_tmp; omega) (by omega) (by omega)) (fun c h1 h2 => q _ (by unfold fd_tmp; omega) (by omega) (by omega)) c9.2
theorem fd_kn1_fr {M : fd_M} {c : Nat} (h : c ≠ 208) : fd_kn1 M c = M c := by
  unfold fd_kn1
  rw [fd_up_ne h, fd_cp_fr h]
theorem fd_kn0_fr {M : fd_M} {c : Nat} (h : c ≠ 208) : fd_kn0 M c = M c := by
  unfold fd_kn0
  rw [fd_up_ne h, fd_cp_fr h]
theorem fd_kn1_208 {M N : fd_M} (h : M 208 = N 208) : fd_kn1 M 208 = fd_kn1 N 208 := by
  funext k
  simp only [fd_kn1, fd_up, fd_cp, h]
theorem fd_kn0_208 {M N : fd_M} (h : M 208 = N 208) : fd_kn0 M 208 = fd_kn0 N 208 := by
  funext k
  simp only [fd_kn0, fd_up, fd_cp, h]
theorem fd_know_208 {M N : fd_M} (h : M 208 = N 208) : fd_know M 208 = fd_know N 208 := by
  unfold fd_know
  rw [h]
  split
  · exact fd_kn1_208 (fd_kn0_208 h)
  · exact fd_kn1_208 h
theorem fd_know_up (N : fd_M) {c : Nat} (hc : c ≠ 208) (k : Nat) (v : Int) : fd_know (fd_up N c k v) = fd_up (fd_know N) c k v := by
  funext a
  by_cases ha : a = 208
  · subst ha
    rw [fd_know_208 (N := N) (fd_up_ne (fun z => hc z.symm)), fd_up_ne (fun z => hc z.symm)]
  · rw [fd_know_fr ha]
    funext b
    unfold fd_up
    rw [fd_know_fr ha]
/-- the scene that is pushed -/
theorem fd_psh_at {M : fd_M} (hs : fd_HS M) (h19 : 0 ≤ M 19 1 ∧ M 19 1 ≤ 9) : ∃ j : Nat, j < 10 ∧ M 20 (M 19 1).toNat = ((21 + 5 * j : Nat) : Int) ∧ (∀ c, ¬ (21 + 5 * j ≤ c ∧ c ≤ 25 + 5 * j) → c ≠ 19 → fd_psh M c = M c) ∧ (∀ i, 1 ≤ i → i ≤ 4 → ∀ k, k < 6 → fd_psh M (21 + 5 * j + i) k = M (14 + i) k) ∧ (∀ k, 4 ≤ k → k ≤ 7 → fd_psh M (21 + 5 * j) k = M 14 k) ∧ (fd_psh M 19 1 = M 19 1 + 1) ∧ (∀ d, fd_SG M d → True) ∧ (fd_SG M 14 → fd_SG M (21 + 5 * j) → fd_SG (fd_psh M) (21 + 5 * j)) := by
  obtain ⟨j, hj, ej⟩ := hs (M 19 1).toNat (by omega)
  have e : (M 20 (M 19 1).toNat).toNat = 21 + 5 * j := by rw [ej]; rfl
  refine ⟨j, hj, ej, fun c h1 h2 => ?_, fun i h1 h2 k hk => ?_, fun k h1 h2 => ?_, ?_, fun _ _ => trivial, fun g1 g2 => ?_⟩
  · funext k
    unfold fd_psh
    rw [e, fd_up_ne h2]
    unfold fd_cps
    rw [if_neg (by omega), if_neg (by omega)]
  · unfold fd_psh
    rw [e, fd_up_ne (by omega)]
    unfold fd_cps
    rw [if_neg (by omega), if_pos (by omega), show 14 + (21 + 5 * j + i - (21 + 5 * j)) = 14 + i by omega]
  · unfold fd_psh
    rw [e, fd_up_ne (by omega)]
    unfold fd_cps
    rw [if_pos (by omega)]
  · unfold fd_psh
    rw [e, fd_up_at, if_pos rfl]
    unfold fd_cps
    rw [if_neg (by omega), if_neg (by omega)]
  · have z := fd_SG_cps (a := 21 + 5 * j) (b := 14) (by omega) g2 g1
    refine fd_SG_c z (fun i hi => ?_)
    unfold fd_psh
    rw [e, fd_up_ne (by omega)]
theorem fd_Rel_psh {M : fd_M} (h : fd_Rel M) (h9 : M 19 1 ≤ 9) : fd_Rel (fd_kn1 (fd_psh M)) := by
  have hD := fd_Rel_D h
  have h19 := h.1.2.2.2.1
  obtain ⟨j, hj, ej, f1, f2, f3, f4, -, f5⟩ := fd_psh_at h.1.2.1 ⟨h19.1, h9⟩
  obtain ⟨n1, n2, n3⟩ := h.2.2.2.2.1
  have p8 : fd_psh M 208 = M 208 := f1 208 (by omega) (by decide)
  have e20 : fd_kn1 (fd_psh M) 20 = M 20 := by rw [fd_kn1_fr (by decide), f1 20 (by omega) (by decide)]
  have e19 : fd_kn1 (fd_psh M) 19 1 = M 19 1 + 1 := by rw [fd_kn1_fr (by decide), f4]
  have e3 : fd_kn1 (fd_psh M) 3 = M 3 := by rw [fd_kn1_fr (by decide), f1 3 (by omega) (by decide)]
  have s28 : fd_psh M 208 28 = M 19 1 := by rw [p8]; exact n2
  have lo : ∀ k, (k < 28 ∨ (28 < k ∧ k < 29 + 28 * (M 19 1).toNat) ∨ 57 + 28 * (M 19 1).toNat ≤ k) → fd_kn1 (fd_psh M) 208 k = M 208 k := fun k hk => by
    unfold fd_kn1
    rw [s28, fd_up_at, if_neg (by omega), fd_cp_out (by omega), p8]
  have mid : ∀ k, k < 28 → fd_kn1 (fd_psh M) 208 (29 + 28 * (M 19 1).toNat + k) = M 208 k := fun k hk => by
    unfold fd_kn1
    rw [s28, fd_up_at, if_neg (by omega), fd_cp_in (by omega), p8, show 0 + (29 + 28 * (M 19 1).toNat + k - (29 + 28 * (M 19 1).toNat)) = k by omega]
  have s14 : ∀ i, i ≤ 4 → fd_kn1 (fd_psh M) (14 + i) = M (14 + i) := fun i hi => by rw [fd_kn1_fr (by omega), f1 _ (by omega) (by omega)]
  refine fd_Rel_H h (fun c h1 h2 h3 => ?_) (fun k _ _ => ?_) ?_ (fun k hk => lo k (by omega)) ?_ ?_ ?_ ?_ (fun i hi => ?_) ⟨?_, ?_, fun i hi => ?_⟩
  · rw [fd_kn1_fr h3, f1 c (by omega) (by omega)]
  · rw [fd_kn1_fr (by decide), f1 199 (by omega) (by decide)]
  · rw [fd_kn1_fr (by decide), f1 76 (by omega) (by decide)]
  · unfold fd_HS; rw [e20]; exact h.1.2.1
  · rw [e20]; exact h.1.2.2.1
  · rw [e19]; omega
  · exact fd_SG_c h.2.1.1 s14
  · by_cases hij : i = j
    · subst hij
      exact fd_SG_c (f5 h.2.1.1 (h.2.1.2.2.2 i hi).1) (fun q hq => by rw [fd_kn1_fr (by omega)])
    · exact fd_SG_c (h.2.1.2.2.2 i hi).1 (fun q hq => by rw [fd_kn1_fr (by omega), f1 _ (by omega) (by omega)])
  · exact fd_SR_c n1 e3 s14 (fun k hk => by rw [Nat.zero_add]; exact lo k (by omega)) hD.2
  · rw [e19]
    unfold fd_kn1
    rw [fd_up_at, if_pos rfl, s28]
  · rw [e19] at hi
    rw [e20]
    by_cases hs : (i : Int) = M 19 1
    · have ei : i = (M 19 1).toNat := by omega
      subst ei
      rw [ej]
      refine fd_SR_of (a := 21 + 5 * j) (b := 14) (p := 0) n1 (by rw [e3]) (by rw [e3]) (by rw [e3]) hD.2 (fun q h1 h2 k hk => by rw [fd_kn1_fr (by omega)]; exact f2 q h1 h2 k hk) (fun k h1 h2 => by rw [fd_kn1_fr (by omega)]; exact f3 k h1 h2) (fun k hk => by rw [Nat.zero_add]; exact mid k hk)
    · obtain ⟨q, hq, eq⟩ := h.1.2.1 i (by omega)
      have hqj : q ≠ j := fun z => by
        subst z
        have := h.1.2.2.1 i (M 19 1).toNat (by omega) (by omega) (eq.trans ej.symm)
        omega
      have z := n3 i (by omega)
      rw [eq] at z ⊢
      exact fd_SR_c z e3 (fun r hr => by show fd_kn1 (fd_psh M) (21 + 5 * q + r) = M (21 + 5 * q + r); rw [fd_kn1_fr (by omega), f1 _ (by omega) (by omega)]) (fun k hk => lo _ (by omega)) hD.2
theorem fd_Rel_los {M : fd_M} (h : fd_Rel M) (h10 : M 19 1 = 10) : fd_Rel (fd_kn0 (fd_lose M)) := by
  have hD := fd_Rel_D h
  obtain ⟨n1, n2, n3⟩ := h.2.2.2.2.1
  have l : ∀ c, c < 19 ∨ 21 ≤ c → fd_lose M c = M c := fun c hc => fd_lose_fr hc
  have p8 : fd_lose M 208 = M 208 := l 208 (by omega)
  have e20 : ∀ i, i < 9 → fd_kn0 (fd_lose M) 20 i = M 20 (i + 1) := fun i hi => by
    rw [fd_kn0_fr (by decide)]
    unfold fd_lose
    rw [if_pos ⟨rfl, hi⟩]
  have e209 : fd_kn0 (fd_lose M) 20 9 = M 20 0 := by
    rw [fd_kn0_fr (by decide)]
    unfold fd_lose
    rw [if_neg (by omega), if_pos ⟨rfl, rfl⟩]
  have e19 : fd_kn0 (fd_lose M) 19 1 = 9 := by
    rw [fd_kn0_fr (by decide)]
    unfold fd_lose
    rw [if_neg (by omega), if_neg (by omega), if_pos ⟨rfl, rfl⟩]
  have e3 : fd_kn0 (fd_lose M) 3 = M 3 := by rw [fd_kn0_fr (by decide), l 3 (by omega)]
  have lo : ∀ k, (k < 28 ∨ 281 ≤ k) → fd_kn0 (fd_lose M) 208 k = M 208 k := fun k hk => by
    unfold fd_kn0
    rw [fd_up_at, if_neg (by omega), fd_cp_out (by omega), p8]
  have mid : ∀ k, 29 ≤ k → k < 281 → fd_kn0 (fd_lose M) 208 k = M 208 (k + 28) := fun k h1 h2 => by
    unfold fd_kn0
    rw [fd_up_at, if_neg (by omega), fd_cp_in (by omega), p8, show 57 + (k - 29) = k + 28 by omega]
  have sc : ∀ c, 21 ≤ c → c ≠ 208 → fd_kn0 (fd_lose M) c = M c := fun c h1 h2 => by rw [fd_kn0_fr h2, l c (by omega)]
  have s14 : ∀ i, i ≤ 4 → fd_kn0 (fd_lose M) (14 + i) = M (14 + i) := fun i hi => by rw [fd_kn0_fr (by omega), l _ (by omega)]
  have rot : ∀ i, i < 10 → fd_kn0 (fd_lose M) 20 i = M 20 (if i = 9 then 0 else i + 1) := fun i hi => by
    by_cases z : i = 9
    · subst z; rw [if_pos rfl]; exact e209
    · rw [if_neg z]; exact e20 i (by omega)
  refine fd_Rel_H h (fun c h1 h2 h3 => ?_) (fun k _ _ => ?_) ?_ (fun k hk => lo k (by omega)) (fun i hi => ?_) (fun i j hi hj q => ?_) ?_ ?_ (fun i hi => ?_) ⟨?_, ?_, fun i hi => ?_⟩
  · rw [fd_kn0_fr h3, l c (by omega)]
  · rw [fd_kn0_fr (by decide), l 199 (by omega)]
  · rw [fd_kn0_fr (by decide), l 76 (by omega)]
  · rw [rot i hi]
    exact h.1.2.1 _ (by split <;> omega)
  · rw [rot i hi, rot j hj] at q
    have z := h.1.2.2.1 _ _ (by split <;> omega) (by split <;> omega) q
    by_cases a : i = 9
    · rw [if_pos a] at z
      by_cases b : j = 9
      · omega
      · rw [if_neg b] at z; omega
    · rw [if_neg a] at z
      by_cases b : j = 9
      · rw [if_pos b] at z; omega
      · rw [if_neg b] at z; omega
  · rw [e19]; omega
  · exact fd_SG_c h.2.1.1 s14
  · exact fd_SG_c (h.2.1.2.2.2 i hi).1 (fun q hq => sc _ (by omega) (by omega))
  · exact fd_SR_c n1 e3 s14 (fun k hk => by rw [Nat.zero_add]; exact lo k (by omega)) hD.2
  · rw [e19]
    unfold fd_kn0
    rw [fd_up_at, if_pos rfl]
  · rw [e19] at hi
    rw [e20 i (by omega)]
    obtain ⟨q, hq, eq⟩ := h.1.2.1 (i + 1) (by omega)
    have z := n3 (i + 1) (by omega)
    rw [eq] at z ⊢
    exact fd_SR_of (a := 21 + 5 * q) (b := 21 + 5 * q) (p := 29 + 28 * (i + 1)) z (by rw [e3]) (by rw [e3]) (by rw [e3]) hD.2 (fun r h1 h2 k hk => by rw [sc _ (by omega) (by omega)]) (fun k h1 h2 => by rw [sc _ (by omega) (by omega)]) (fun k hk => by rw [mid _ (by omega) (by omega)]; congr 1; omega)
theorem fd_psh_kn0 {M : fd_M} (hs : fd_HS M) (h19 : 0 ≤ M 19 1 ∧ M 19 1 ≤ 9) : fd_kn0 (fd_psh M) = fd_psh (fd_kn0 M) := by
  have g : ∀ c, c ≠ 208 → fd_kn0 M c = M c := fun c hc => fd_kn0_fr hc
  have e20 : fd_kn0 M 20 = M 20 := g 20 (by decide)
  have e19 : fd_kn0 M 19 = M 19 := g 19 (by decide)
  obtain ⟨j, hj, ej⟩ := hs (M 19 1).toNat (by omega)
  have e : (M 20 (M 19 1).toNat).toNat = 21 + 5 * j := by rw [ej]; rfl
  funext c
  by_cases hc : c = 208
  · subst hc
    have e1 : fd_psh M 208 = M 208 := fd_psh_fr hs h19 (by omega)
    have e2 : fd_psh (fd_kn0 M) 208 = fd_kn0 M 208 := fd_psh_fr (by unfold fd_HS; rw [e20]; exact hs) (by rw [e19]; exact h19) (by omega)
    rw [fd_kn0_208 e1, e2]
  · rw [fd_kn0_fr hc]
    funext k
    unfold fd_psh
    rw [e20, e19, e]
    unfold fd_up
    have z : fd_cps (fd_kn0 M) (21 + 5 * j) 14 19 1 = fd_cps M (21 + 5 * j) 14 19 1 := by
      unfold fd_cps
      rw [if_neg (by omega), if_neg (by omega), if_neg (by omega), if_neg (by omega), e19]
    rw [z]
    have y : fd_cps (fd_kn0 M) (21 + 5 * j) 14 c k = fd_cps M (21 + 5 * j) 14 c k := by
      unfold fd_cps
      rw [g 14 (by decide), g c hc]
      by_cases q : 21 + 5 * j < c ∧ c ≤ 21 + 5 * j + 4 ∧ k < 6
      · rw [g (14 + (c - (21 + 5 * j))) (by omega)]
      · rw [if_neg q, if_neg q]
    rw [y]
/-- NOW is known: the relation holds as before -/
theorem fd_Rel_push {M : fd_M} (h : fd_Rel M) : fd_Rel (fd_know (fd_push M)) := by
  have h19 := h.1.2.2.2.1
  have n2 := h.2.2.2.2.1.2.1
  have e28 : fd_push M 208 28 = M 19 1 := by rw [fd_push_fr h.1.2.1 h19 (by omega)]; exact n2
  unfold fd_know
  rw [e28]
  by_cases z : M 19 1 = 10
  · rw [if_pos z]
    have ep : fd_push M = fd_psh (fd_lose M) := by unfold fd_push; rw [if_pos z]
    rw [ep, fd_psh_kn0 (fd_HS_lose h.1.2.1) (by simp [fd_lose])]
    refine fd_Rel_psh (fd_Rel_los h z) ?_
    rw [fd_kn0_fr (by decide)]
    simp [fd_lose]
  · rw [if_neg z]
    have ep : fd_push M = fd_psh M := by unfold fd_push; rw [if_neg z]
    rw [ep]
    exact fd_Rel_psh h (by omega)

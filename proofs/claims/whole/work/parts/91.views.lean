/-! how the relation is kept, and what it gives -/
theorem fd_SR_of {M N : fd_M} {a b o p : Nat} (h : fd_SR M b p) (e2 : N 3 2 = M 3 2) (e0 : N 3 0 = M 3 0) (e1 : N 3 1 = M 3 1) (hD : M 3 2 ≤ 6) (hs : ∀ i, 1 ≤ i → i ≤ 4 → ∀ k, k < 6 → N (a + i) k = M (b + i) k) (h0 : ∀ k, 4 ≤ k → k ≤ 7 → N a k = M b k) (hn : ∀ k, k < 28 → N 208 (o + k) = M 208 (p + k)) : fd_SR N a o := by
  obtain ⟨n1, n2, n3, n4, n5, n6⟩ := h
  unfold fd_SR
  rw [e2, e0, e1]
  refine ⟨fun d hd => ?_, fun d e hd he hx hy => ?_, ?_, ?_, ?_, fun y hy => ?_⟩
  · obtain ⟨⟨a1, a2, a3⟩, ⟨a4, a5⟩, a6⟩ := n1 d hd
    dsimp only at a1 a2 a3 a4 a5 a6 ⊢
    rw [hn d (by omega), hn (6 + d) (by omega), hn (15 + d) (by omega), hs 1 (by omega) (by omega) d (by omega), hs 2 (by omega) (by omega) d (by omega), hs 3 (by omega) (by omega) d (by omega), hs 4 (by omega) (by omega) d (by omega), show N (a + 0) 5 = M (b + 0) 5 from h0 5 (by omega) (by omega)]
    exact ⟨⟨a1, a2, a3⟩, ⟨a4, a5⟩, a6⟩
  · dsimp only at hx hy
    rw [hs 1 (by omega) (by omega) d (by omega), hs 1 (by omega) (by omega) e (by omega)] at hx
    rw [hs 2 (by omega) (by omega) d (by omega), hs 2 (by omega) (by omega) e (by omega)] at hy
    exact n2 d e hd he hx hy
  · show N 208 (o + 12) = N (a + 0) 4
    rw [hn 12 (by omega), show N (a + 0) 4 = M (b + 0) 4 from h0 4 (by omega) (by omega)]; exact n3
  · show N 208 (o + 13) = N (a + 0) 6
    rw [hn 13 (by omega), show N (a + 0) 6 = M (b + 0) 6 from h0 6 (by omega) (by omega)]; exact n4
  · show N 208 (o + 14) = N (a + 0) 7
    rw [hn 14 (by omega), show N (a + 0) 7 = M (b + 0) 7 from h0 7 (by omega) (by omega)]; exact n5
  · show N 208 (o + (21 + y)) = N (a + 0) 5 / 2 ^ (7 * y) % 128
    rw [hn (21 + y) (by omega), show N (a + 0) 5 = M (b + 0) 5 from h0 5 (by omega) (by omega)]; exact n6 y hy
/-- a scene's cells are the same -/
theorem fd_SR_c {M N : fd_M} {a o : Nat} (h : fd_SR M a o) (e3 : N 3 = M 3) (hs : ∀ i, i ≤ 4 → N (a + i) = M (a + i)) (hn : ∀ k, k < 28 → N 208 (o + k) = M 208 (o + k)) (hD : M 3 2 ≤ 6) : fd_SR N a o :=
  fd_SR_of h (by rw [e3]) (by rw [e3]) (by rw [e3]) hD (fun i _ h2 k _ => by rw [hs i h2]) (fun k _ _ => by have := hs 0 (by omega); rw [Nat.add_zero] at this; rw [this]) hn
theorem fd_SG_c {M N : fd_M} {a : Nat} (h : fd_SG M a) (hs : ∀ i, i ≤ 4 → N (a + i) = M (a + i)) : fd_SG N a := by
  unfold fd_SG at h ⊢
  have e0 := hs 0 (by omega)
  rw [Nat.add_zero] at e0
  rw [hs 1 (by omega), hs 2 (by omega), hs 3 (by omega), hs 4 (by omega), e0]
  exact h
/-- cells that the relation doesn't speak of -/
def fd_tmp (c : Nat) : Prop := (73 ≤ c ∧ c ≤ 77) ∨ c = 81 ∨ c = 82 ∨ c = 199 ∨ c = 210
theorem fd_GI_of {M N : fd_M} {f s h r b i : Nat} (g : fd_GI M f s h r b i) (hD : M 3 2 ≤ 6) (hf : N f = M f) (hh : N h = M h) (e3 : N 3 = M 3) (e8 : ∀ k, 309 ≤ k → N 208 k = M 208 k) (e9 : N 209 = M 209) (hs : ∀ j, j ≤ 4 → N (s + j) = M (s + j)) (hb : ∀ c, b ≤ c → c < b + 50 → N c = M c) (hz : M h 1 ≤ 10) : fd_GI N f s h r b i := by
  obtain ⟨g1, g2⟩ := g
  unfold fd_GI
  rw [hf, hh, e9]
  refine ⟨g1, fun k => ?_⟩
  obtain ⟨k1, k2, k3⟩ := g2 k
  refine ⟨fd_SR_c k1 e3 hs (fun q _ => e8 _ (by omega)) hD, by rw [e8 _ (by omega)]; exact k2, fun j hj => fd_SR_c (k3 j hj) e3 (fun i hi => hb _ (by omega) (by omega)) (fun q _ => e8 _ (by omega)) hD⟩
theorem fd_Rel_of {M N : fd_M} (h : fd_Rel M) (hc : ∀ c, ¬ fd_tmp c → N c = M c) (h199 : ∀ k, k ≠ 19 → k ≠ 20 → N 199 k = M 199 k) (h76 : ∀ k : Nat, 0 ≤ N 76 k ∧ N 76 k ≤ 3) : fd_Rel N := by
  obtain ⟨⟨c1, c2, c3, c4, c5, c6, c7, c8, c9, c10, c11⟩, ⟨s1, s2, s3, s4⟩, ⟨t1, t2, t3, t4, t5, t6, t7, t8⟩, ⟨p0, p1, p2, p3, p4, p5⟩, ⟨n1, n2, n3⟩, i0, i1⟩ := h
  have q : ∀ c, ¬ fd_tmp c → N c = M c := hc
  have e3 : N 3 = M 3 := q 3 (by unfold fd_tmp; omega)
  have e19 : N 19 = M 19 := q 19 (by unfold fd_tmp; omega)
  have e20 : N 20 = M 20 := q 20 (by unfold fd_tmp; omega)
  have e8 : N 208 = M 208 := q 208 (by unfold fd_tmp; omega)
  have hD := c1.2.2.1.2
  refine ⟨⟨?_, ?_, ?_, ?_, ?_, ?_, ?_, ?_, ?_, h76, ?_⟩, ⟨?_, ?_, ?_, ?_⟩, ⟨?_, ?_, ?_, ?_, ?_, ?_, ?_, ?_⟩, ⟨?_, ?_, ?_, ?_, ?_, ?_⟩, ⟨?_, ?_, ?_⟩, ?_, ?_⟩
  · unfold fd_PG; rw [e3, q 4 (by unfold fd_tmp; omega)]; exact c1
  · unfold fd_HS; rw [e20]; exact c2
  · rw [e20]; exact c3
  · rw [e19]; exact c4
  · unfold fd_IM; rw [q 71 (by unfold fd_tmp; omega), q 90 (by unfold fd_tmp; omega), q 148 (by unfold fd_tmp; omega)]; exact c5
  · rw [q 83 (by unfold fd_tmp; omega)]; exact c6
  · rw [q 141 (by unfold fd_tmp; omega)]; exact c7
  · rw [q 89 (by unfold fd_tmp; omega)]; exact c8
  · rw [q 147 (by unfold fd_tmp; omega)]; exact c9
  · unfold fd_DG; rw [q 9 (by unfold fd_tmp; omega), q 10 (by unfold fd_tmp; omega), q 11 (by unfold fd_tmp; omega), q 12 (by unfold fd_tmp; omega)]; exact c11
  · exact fd_SG_c s1 (fun i hi => q _ (by unfold fd_tmp; omega))
  · exact fd_SG_c s2 (fun i hi => q _ (by unfold fd_tmp; omega))
  · exact fd_SG_c s3 (fun i hi => q _ (by unfold fd_tmp; omega))
  · exact fun j hj => ⟨fd_SG_c (s4 j hj).1 (fun i hi => q _ (by unfold fd_tmp; omega)), fd_SG_c (s4 j hj).2.1 (fun i hi => q _ (by unfold fd_tmp; omega)), fd_SG_c (s4 j hj).2.2 (fun i hi => q _ (by unfold fd_tmp; omega))⟩
  · unfold fd_TG; rw [q 78 (by unfold fd_tmp; omega), q 79 (by unfold fd_tmp; omega), q 80 (by unfold fd_tmp; omega), e3]; exact t1
  · rw [h199 23 (by decide) (by decide), q 78 (by unfold fd_tmp; omega)]; exact t2
  · rw [q 211 (by unfold fd_tmp; omega), q 79 (by unfold fd_tmp; omega)]; exact t3
  · rw [q 212 (by unfold fd_tmp; omega), q 80 (by unfold fd_tmp; omega)]; exact t4
  · unfold tk_XG; rw [q 1 (by unfold fd_tmp; omega), q 2 (by unfold fd_tmp; omega)]; exact t5
  · rw [h199 2 (by decide) (by decide), q 1 (by unfold fd_tmp; omega)]; exact t6
  · rw [q 200 (by unfold fd_tmp; omega), q 2 (by unfold fd_tmp; omega)]; exact t7
  · rw [h199 0 (by decide) (by decide), q 0 (by unfold fd_tmp; omega)]; exact t8
  · rw [q 201 (by unfold fd_tmp; omega), e3]; exact p0
  · rw [q 202 (by unfold fd_tmp; omega), e3]; exact p1
  · rw [q 204 (by unfold fd_tmp; omega), e3]; exact p2
  · rw [q 207 (by unfold fd_tmp; omega), e3]; exact p3
  · rw [q 207 (by unfold fd_tmp; omega), e3]; exact p4
  · rw [q 203 (by unfold fd_tmp; omega), e3, q 4 (by unfold fd_tmp; omega)]; exact p5
  · exact fd_SR_c n1 e3 (fun i hi => q _ (by unfold fd_tmp; omega)) (fun k _ => by rw [e8]) hD
  · rw [e8, e19]; exact n2
  · rw [e19, e20]
    intro i hi
    obtain ⟨j, hj, ej⟩ := c2 i (by omega)
    have := n3 i hi
    rw [ej] at this ⊢
    exact fd_SR_c this e3 (fun i hi => q _ (by unfold fd_tmp; omega)) (fun k _ => by rw [e8]) hD
  · exact fd_GI_of i0 hD (q 83 (by unfold fd_tmp; omega)) (q 89 (by unfold fd_tmp; omega)) e3 (fun k _ => by rw [e8]) (q 209 (by unfold fd_tmp; omega)) (fun j hj => q _ (by unfold fd_tmp; omega)) (fun c h1 h2 => q _ (by unfold fd_tmp; omega)) c8.2
  · exact fd_GI_of i1 hD (q 141 (by unfold fd_tmp; omega)) (q 147 (by unfold fd_tmp; omega)) e3 (fun k _ => by rw [e8]) (q 209 (by unfold fd_tmp; omega)) (fun j hj => q _ (by unfold fd_tmp; omega)) (fun c h1 h2 => q _ (by unfold fd_tmp; omega)) c9.2
theorem fd_Rel_sm {M N : fd_M} (h : fd_Rel M) (hs : fd_smR M N) : fd_Rel N := fd_Rel_of h (fun c hc => hs.1 c (fun z => hc (by unfold fd_tmp; omega)) (fun z => hc (by unfold fd_tmp; omega))) hs.2 (by rw [hs.1 76 (by decide) (by decide)]; exact h.1.2.2.2.2.2.2.2.2.2.1)
/-! what is seen, what is due -/
theorem fd_Rel_SN {M : fd_M} (h : fd_Rel M) : fd_SN M := by
  have := h.2.2.2.2.1.1
  rw [fd_SN_eq] at this
  exact this
theorem fd_Rel_w {M : fd_M} (h : fd_Rel M) {d : Nat} (hd : (d : Int) < M 3 2) (w : Int) : fd_wR M d w = fd_wsee M d w := by
  obtain ⟨n1, n2, n3, n4, n5, n6⟩ := fd_Rel_SN h
  have a := (n1 d hd).1.1
  have b : 0 ≤ M 15 d ∧ M 15 d ≤ 6 := h.2.1.1.1 d
  unfold fd_wR fd_wsee
  rw [fd_Rel_cv h, n4, h.2.2.2.1.2.2.2.2.1, a, show (7 * M 16 d + M 15 d) % 7 = M 15 d by omega, show (7 * M 16 d + M 15 d) / 7 = M 16 d by omega]
theorem fd_Rel_v {M : fd_M} (h : fd_Rel M) {d : Nat} (hd : (d : Int) < M 3 2) (w : Int) : fd_vR M d w ↔ fd_vac M d w := by
  obtain ⟨n1, n2, n3, n4, n5, n6⟩ := fd_Rel_SN h
  have a := (n1 d hd).1.1
  have b : 0 ≤ M 15 d ∧ M 15 d ≤ 6 := h.2.1.1.1 d
  unfold fd_vR fd_vac
  rw [fd_Rel_cv h, a, show (7 * M 16 d + M 15 d) % 7 = M 15 d by omega, show (7 * M 16 d + M 15 d) / 7 = M 16 d by omega]
theorem fd_vR_sm {M N : fd_M} (h : fd_smR M N) (d : Nat) (w : Int) : fd_vR N d w ↔ fd_vR M d w := by
  unfold fd_vR
  rw [fd_cvR_sm h, h.1 208 (by decide) (by decide)]
theorem fd_due_c {wy wz : Nat → Int} {pr o : Int} {d : Nat} (h1 : wy d = wz d) (h2 : ¬ o = -9 → wy o.toNat = wz o.toNat) : fd_due wy pr o d = fd_due wz pr o d := by
  unfold fd_due
  by_cases h : o = -9
  · rw [if_pos h, if_pos h]
  · rw [if_neg h, if_neg h, h1, h2 h]
theorem fd_Rel_D {M : fd_M} (h : fd_Rel M) : 0 ≤ M 3 2 ∧ M 3 2 ≤ 6 := h.1.1.2.2.1
theorem fd_Rel_tw {M : fd_M} (h : fd_Rel M) {d : Nat} (hd : (d : Int) < M 3 2) : fd_tak M 210 d = M 17 d := by
  have hD := fd_Rel_D h
  rw [fd_tak_w (by omega)]
  exact ((fd_Rel_SN h).1 d hd).1.2.1
theorem fd_Rel_to {M : fd_M} (h : fd_Rel M) : fd_tak M 199 19 = M 14 4 ∧ fd_tak M 199 20 = M 14 7 := ⟨(fd_Rel_SN h).2.2.1, (fd_Rel_SN h).2.2.2.2.1⟩
theorem fd_Rel_s {M : fd_M} (h : fd_Rel M) {d : Nat} (hd : (d : Int) < M 3 2) : fd_sR (fd_tak M) d = fd_sw M d := by
  unfold fd_sR fd_sw
  rw [(fd_Rel_to h).1, (fd_Rel_to h).2, fd_Rel_tw h hd, fd_wR_sm (fd_smR_tak M), fd_Rel_w h hd]
theorem fd_Rel_d {M : fd_M} (h : fd_Rel M) {d : Nat} (hd : (d : Int) < M 3 2) : fd_dR (fd_tak M) d = fd_dueC M d := by
  unfold fd_dR fd_dueC
  rw [fd_Rel_s h hd, show fd_tak M 207 = M 207 from fd_tak_fr (by decide) (by decide), h.2.2.2.1.2.2.2.1]
  have r := fd_sw_rng (fd_Rel_CG h) d
  exact fd_due_c (fd_Rel_tw h hd) (fun z => fd_Rel_tw h (by omega))
theorem fd_Rel_ds {M : fd_M} (h : fd_Rel M) : fd_sum (fd_dR (fd_tak M)) (M 204 0).toNat = fd_sum (fd_dueC M) (M 3 2).toNat := by
  rw [h.2.2.2.1.2.2.1]
  exact fd_sum_congr _ (fun j hj => fd_Rel_d h (by omega))

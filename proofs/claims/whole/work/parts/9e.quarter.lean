/-! quarter -/
def pz_V (Z : fd_M) : Prop := (∀ d : Nat, (d : Int) < Z 0 2 → Z 2 d < Z 0 0 ∧ Z 3 d < Z 0 1) ∧ (∀ d e : Nat, (d : Int) < Z 0 2 → (e : Int) < Z 0 2 → Z 2 d = Z 2 e → Z 3 d = Z 3 e → d = e)
theorem pz_r_D {tx : Nat → Int} {len : Nat} : ∀ (n x p : Nat) (Z : fd_M), (pz_r tx len n x p Z).2.2 0 2 = Z 0 2
  | 0, x, p, Z => by
    show (pz_e tx len p _).2.2 0 2 = _
    rw [pz_e_Z]
    rfl
  | n + 1, x, p, Z => by
    rw [pz_r]
    split
    · rfl
    · exact pz_r_D n (x + 1) _ _
theorem pz_V_0 {Z : fd_M} (h : Z 0 2 = 0) : pz_V Z := ⟨fun d hd => absurd hd (by omega), fun d e hd _ => absurd hd (by omega)⟩
theorem pz_V_i {tx : Nat → Int} {len : Nat} {it : Int} {p : Nat} {Z : fd_M} (hG : pz_G Z) (hV : pz_V Z) (h0 : it = 0 → Z 0 2 = 0) (ok : (pz_i tx len it p Z).1 = true) : pz_V (pz_i tx len it p Z).2.2 := by
  have fail : ∀ q, ((false, q, Z) : pz_R).1 = true → pz_V ((false, q, Z) : pz_R).2.2 := fun q z => by cases z
  have g2 := hG.2.2.1
  unfold pz_i at ok ⊢
  by_cases k1 : tk_kd tx len p = 1
  · rw [if_neg (not_not_intro k1)] at ok ⊢
    by_cases v1 : tk_vl tx len p = 119
    · rw [if_pos v1, pz_w] at ok ⊢
      by_cases h1 : it = 0
      · rw [if_neg (not_not_intro h1)] at ok ⊢
        by_cases h2 : pz_n tx len (tk_nx tx len p) 1 7
        · rw [if_neg (not_not_intro h2), pz_e_Z]
          exact pz_V_0 (h0 h1)
        · rw [if_pos h2] at ok; cases ok
      · rw [if_pos h1] at ok; cases ok
    · rw [if_neg v1] at ok ⊢
      by_cases v2 : tk_vl tx len p = 114
      · rw [if_pos v2, pz_ro] at ok ⊢
        by_cases h1 : Z 0 0 = 0 ∨ 7 ≤ Z 0 1 ∨ 0 < Z 0 2
        · rw [if_pos h1] at ok; cases ok
        · rw [if_neg h1]
          exact pz_V_0 (by rw [pz_r_D]; omega)
      · rw [if_neg v2] at ok ⊢
        by_cases v3 : tk_vl tx len p = 100
        · rw [if_pos v3, pz_d] at ok ⊢
          by_cases h1 : 6 ≤ Z 0 2
          · rw [if_pos h1] at ok; cases ok
          · rw [if_neg h1] at ok ⊢
            by_cases h2 : pz_n tx len (tk_nx tx len p) 0 (Z 0 0 - 1)
            · rw [if_neg (not_not_intro h2)] at ok ⊢
              by_cases h3 : pz_n tx len (tk_nx tx len (tk_nx tx len p)) 0 (Z 0 1 - 1) ∧ pz_f Z (tk_vl tx len (tk_nx tx len p)) (tk_vl tx len (tk_nx tx len (tk_nx tx len p))) = true
              · rw [if_neg (not_not_intro h3)] at ok ⊢
                by_cases h4 : pz_n tx len (tk_nx tx len (tk_nx tx len (tk_nx tx len p))) 0 3
                · rw [if_neg (not_not_intro h4), pz_e_Z]
                  have b2 := h2.2
                  have b3 := h3.1.2
                  have fr := h3.2
                  unfold pz_f at fr
                  rw [Bool.and_eq_true, fd_all_iff] at fr
                  clear ok h4 h3 h2
                  generalize tk_vl tx len (tk_nx tx len p) = x at *
                  generalize tk_vl tx len (tk_nx tx len (tk_nx tx len p)) = y at *
                  generalize tk_vl tx len (tk_nx tx len (tk_nx tx len (tk_nx tx len p))) = w at *
                  have nod : ∀ d : Nat, (d : Int) < Z 0 2 → ¬ (Z 2 d = x ∧ Z 3 d = y) := fun d hd => of_decide_eq_true (fr.2 d (by omega))
                  have ux : ∀ d, pz_dz Z x y w 2 d = if d = (Z 0 2).toNat then x else Z 2 d := fun d => fd_up_at Z 2 (Z 0 2).toNat x d
                  have uy : ∀ d, pz_dz Z x y w 3 d = if d = (Z 0 2).toNat then y else Z 3 d := fun d => fd_up_at Z 3 (Z 0 2).toNat y d
                  have u2 : pz_dz Z x y w 0 2 = Z 0 2 + 1 := rfl
                  have u0 : pz_dz Z x y w 0 0 = Z 0 0 := rfl
                  have u1 : pz_dz Z x y w 0 1 = Z 0 1 := rfl
                  refine ⟨fun d hd => ?_, fun d e hd he ex ey => ?_⟩
                  · rw [u2] at hd
                    rw [ux, uy, u0, u1]
                    by_cases z : d = (Z 0 2).toNat
                    · rw [if_pos z, if_pos z]; omega
                    · rw [if_neg z, if_neg z]; exact hV.1 d (by omega)
                  · rw [u2] at hd he
                    rw [ux, ux] at ex
                    rw [uy, uy] at ey
                    by_cases z : d = (Z 0 2).toNat
                    · by_cases z2 : e = (Z 0 2).toNat
                      · omega
                      · rw [if_pos z, if_neg z2] at ex ey
                        exact absurd ⟨ex.symm, ey.symm⟩ (nod e (by omega))
                    · by_cases z2 : e = (Z 0 2).toNat
                      · rw [if_neg z, if_pos z2] at ex ey
                        exact absurd ⟨ex, ey⟩ (nod d (by omega))
                      · rw [if_neg z, if_neg z2] at ex ey
                        exact hV.2 d e (by omega) (by omega) ex ey
                · rw [if_pos h4] at ok; cases ok
              · rw [if_pos h3] at ok; cases ok
            · rw [if_pos h2] at ok; cases ok
        · rw [if_neg v3] at ok ⊢
          by_cases v4 : tk_vl tx len p = 112
          · rw [if_pos v4, pz_p] at ok ⊢
            by_cases h1 : Z 0 5 = 0
            · rw [if_neg (not_not_intro h1)] at ok ⊢
              by_cases h2 : pz_n tx len (tk_nx tx len p) 1 9
              · rw [if_neg (not_not_intro h2), pz_e_Z]
                exact hV
              · rw [if_pos h2] at ok; cases ok
            · rw [if_pos h1] at ok; cases ok
          · rw [if_neg v4] at ok ⊢
            by_cases v5 : tk_vl tx len p = 115
            · rw [if_pos v5, pz_s] at ok ⊢
              by_cases h1 : Z 0 6 = 0
              · rw [if_neg (not_not_intro h1)] at ok ⊢
                by_cases h2 : pz_n tx len (tk_nx tx len p) 1 7
                · rw [if_neg (not_not_intro h2), pz_e_Z]
                  exact hV
                · rw [if_pos h2] at ok; cases ok
              · rw [if_pos h1] at ok; cases ok
            · rw [if_neg v5] at ok; cases ok
  · rw [if_pos k1] at ok; cases ok
theorem pz_a_V {tx : Nat → Int} {len : Nat} : ∀ (n : Nat) (it : Int) (p : Nat) (Z : fd_M), p ≤ len → 0 ≤ it → pz_G Z → pz_V Z → (it = 0 → Z 0 2 = 0) → (pz_a tx len n it p Z).1.2.1 ≤ len ∧ ((pz_a tx len n it p Z).1.1 = true → pz_V (pz_a tx len n it p Z).1.2.2)
  | 0, it, p, Z, hp, _, _, _, _ => ⟨hp, fun z => by cases z⟩
  | n + 1, it, p, Z, hp, hi, hG, hV, h0 => by
    rw [pz_a]
    have o := pz_i_ok (tx := tx) it hp hG
    split
    · exact ⟨hp, fun _ => hV⟩
    · split
      · rename_i ok
        exact pz_a_V n (it + 1) _ _ o.1.1 (by omega) o.2 (pz_V_i hG hV h0 ok) (fun z => by omega)
      · rename_i no
        exact ⟨o.1.1, fun z => absurd z no⟩
theorem fd_Rel_Q {M N : fd_M} (h : fd_Rel M) (q : ∀ c, c < 8 ∨ (14 ≤ c ∧ c < 199) ∨ c = 200 ∨ 208 ≤ c → N c = M c) (h199 : ∀ k, k < 10 ∨ 16 ≤ k → N 199 k = M 199 k) (e1 : N 201 0 = M 201 0) (e2 : N 202 0 = M 202 0) (e4 : N 204 0 = M 204 0) (e70 : N 207 0 = M 207 0) (e71 : N 207 1 = M 207 1) (e3 : ∀ k, k < 49 → N 203 k = M 203 k) (hG : fd_DG N) : fd_Rel N := by
  obtain ⟨⟨c1, c2, c3, c4, c5, c6, c7, c8, c9, c10, c11⟩, ⟨s1, s2, s3, s4⟩, ⟨t1, t2, t3, t4, t5, t6, t7, t8⟩, ⟨p0, p1, p2, p3, p4, p5⟩, ⟨n1, n2, n3⟩, i0, i1⟩ := h
  have w3 : N 3 = M 3 := q 3 (by omega)
  have e19 : N 19 = M 19 := q 19 (by omega)
  have e20 : N 20 = M 20 := q 20 (by omega)
  have e8 : N 208 = M 208 := q 208 (by omega)
  have hD := c1.2.2.1.2
  refine ⟨⟨?_, ?_, ?_, ?_, ?_, ?_, ?_, ?_, ?_, ?_, hG⟩, ⟨?_, ?_, ?_, ?_⟩, ⟨?_, ?_, ?_, ?_, ?_, ?_, ?_, ?_⟩, ⟨?_, ?_, ?_, ?_, ?_, ?_⟩, ⟨?_, ?_, ?_⟩, ?_, ?_⟩
  · unfold fd_PG; rw [w3, q 4 (by omega)]; exact c1
  · unfold fd_HS; rw [e20]; exact c2
  · rw [e20]; exact c3
  · rw [e19]; exact c4
  · unfold fd_IM; rw [q 71 (by omega), q 90 (by omega), q 148 (by omega)]; exact c5
  · rw [q 83 (by omega)]; exact c6
  · rw [q 141 (by omega)]; exact c7
  · rw [q 89 (by omega)]; exact c8
  · rw [q 147 (by omega)]; exact c9
  · rw [q 76 (by omega)]; exact c10
  · exact fd_SG_c s1 (fun i hi => q _ (by omega))
  · exact fd_SG_c s2 (fun i hi => q _ (by omega))
  · exact fd_SG_c s3 (fun i hi => q _ (by omega))
  · exact fun j hj => ⟨fd_SG_c (s4 j hj).1 (fun i hi => q _ (by omega)), fd_SG_c (s4 j hj).2.1 (fun i hi => q _ (by omega)), fd_SG_c (s4 j hj).2.2 (fun i hi => q _ (by omega))⟩
  · unfold fd_TG; rw [q 78 (by omega), q 79 (by omega), q 80 (by omega), w3]; exact t1
  · rw [h199 23 (by decide), q 78 (by omega)]; exact t2
  · rw [q 211 (by omega), q 79 (by omega)]; exact t3
  · rw [q 212 (by omega), q 80 (by omega)]; exact t4
  · unfold tk_XG; rw [q 1 (by omega), q 2 (by omega)]; exact t5
  · rw [h199 2 (by decide), q 1 (by omega)]; exact t6
  · rw [q 200 (by omega), q 2 (by omega)]; exact t7
  · rw [h199 0 (by decide), q 0 (by omega)]; exact t8
  · rw [e1, w3]; exact p0
  · rw [e2, w3]; exact p1
  · rw [e4, w3]; exact p2
  · rw [e70, w3]; exact p3
  · rw [e71, w3]; exact p4
  · rw [w3, q 4 (by omega)]
    intro x y hx hy
    rw [e3 _ (by have := c1.1.2; have := c1.2.1.2; omega)]
    exact p5 x y hx hy
  · exact fd_SR_c n1 w3 (fun i hi => q _ (by omega)) (fun k _ => by rw [e8]) hD
  · rw [e8, e19]; exact n2
  · rw [e19, e20]
    intro i hi
    obtain ⟨j, hj, ej⟩ := c2 i (by omega)
    have := n3 i hi
    rw [ej] at this ⊢
    exact fd_SR_c this w3 (fun i hi => q _ (by omega)) (fun k _ => by rw [e8]) hD
  · exact fd_GI_of i0 hD (q 83 (by omega)) (q 89 (by omega)) w3 (fun k _ => by rw [e8]) (q 209 (by omega)) (fun j hj => q _ (by omega)) (fun c h1 h2 => q _ (by omega)) c8.2
  · exact fd_GI_of i1 hD (q 141 (by omega)) (q 147 (by omega)) w3 (fun k _ => by rw [e8]) (q 209 (by omega)) (fun j hj => q _ (by omega)) (fun c h1 h2 => q _ (by omega)) c9.2
theorem fd_tdr_fr {S : fd_M} {c : Nat} (h : c < 199 ∨ c = 200 ∨ 210 ≤ c) : fd_tdr S c = S c := by
  have g : c ≠ 199 ∧ c ≠ 201 ∧ c ≠ 202 ∧ c ≠ 203 ∧ c ≠ 204 ∧ c ≠ 207 ∧ c ≠ 208 ∧ c ≠ 209 := by omega
  obtain ⟨g1, g2, g3, g4, g5, g6, g7, g8⟩ := g
  funext k
  simp [fd_tdr, fd_td4, fd_pd, fd_td3, fd_zr, fd_cp, fd_td1, fd_up, g1, g2, g3, g4, g5, g6, g7, g8]
theorem fd_tdr_199 {S : fd_M} {k : Nat} (h : k ≠ 23) : fd_tdr S 199 k = S 199 k := by
  simp [fd_tdr, fd_td4, fd_pd, fd_td3, fd_zr, fd_cp, fd_td1, fd_up, h]
theorem fd_tdr_203 {S : fd_M} {k : Nat} (h : k < 49) : fd_tdr S 203 k = S 203 (49 + k) := by
  simp [fd_tdr, fd_td4, fd_pd, fd_td3, fd_zr, fd_cp, fd_td1, fd_up, h, Nat.add_comm]
theorem fd_tdr_p {S : fd_M} {d : Nat} (hn : S 204 1 ≤ 6) (h : (d : Int) < S 204 1) : fd_tdr S 208 d = S 205 d ∧ fd_tdr S 208 (6 + d) = S 206 d ∧ fd_tdr S 208 (15 + d) = 0 := by
  have a1 : d < (S 204 1).toNat := by omega
  have a2 : ¬ 6 + d < (S 204 1).toNat := by omega
  have a3 : ¬ 15 + d < (S 204 1).toNat := by omega
  have a4 : ¬ 15 + d < 6 + (S 204 1).toNat := by omega
  have b1 : d ≠ 12 ∧ d ≠ 13 ∧ d ≠ 28 := by omega
  have b2 : 6 + d ≠ 12 ∧ 6 + d ≠ 13 ∧ 6 + d ≠ 28 := by omega
  have b3 : 15 + d ≠ 12 ∧ 15 + d ≠ 13 ∧ 15 + d ≠ 28 := by omega
  have b4 : 15 + d < 28 := by omega
  refine ⟨?_, ?_, ?_⟩
  · simp [fd_tdr, fd_td4, fd_pd, fd_td3, fd_zr, fd_cp, fd_td1, fd_up, a1, b1]
  · simp [fd_tdr, fd_td4, fd_pd, fd_td3, fd_zr, fd_cp, fd_td1, fd_up, a1, a2, b2]
  · simp [fd_tdr, fd_td4, fd_pd, fd_td3, fd_zr, fd_cp, fd_td1, fd_up, a3, a4, b3, b4]
theorem fd_tdr_s {S : fd_M} {j : Nat} (hn : S 204 1 ≤ 6) (h : 14 = j ∨ (21 ≤ j ∧ j < 28)) : fd_tdr S 208 j = 0 := by
  have a3 : ¬ j < (S 204 1).toNat := by omega
  have a4 : ¬ (6 ≤ j ∧ j < 6 + (S 204 1).toNat) := by omega
  have b3 : j ≠ 12 ∧ j ≠ 13 ∧ j ≠ 28 := by omega
  have b4 : j < 28 := by omega
  simp [fd_tdr, fd_td4, fd_pd, fd_td3, fd_zr, fd_cp, fd_td1, fd_up, a3, a4, b3, b4]
theorem fd_qall_fr {K : fd_M} {c : Nat} (h : c = 0 ∨ c = 2 ∨ (8 ≤ c ∧ c < 14) ∨ (20 ≤ c ∧ c < 78) ∨ (79 ≤ c ∧ c < 83) ∨ (84 ≤ c ∧ c < 141) ∨ 142 ≤ c) : fd_qall K c = K c := by
  have g : c ≠ 1 ∧ c ≠ 3 ∧ c ≠ 4 ∧ c ≠ 5 ∧ c ≠ 6 ∧ c ≠ 7 ∧ c ≠ 14 ∧ c ≠ 15 ∧ c ≠ 16 ∧ c ≠ 17 ∧ c ≠ 18 ∧ c ≠ 19 ∧ c ≠ 78 ∧ c ≠ 83 ∧ c ≠ 141 := by omega
  obtain ⟨g1, g2, g3, g4, g5, g6, g7, g8, g9, g10, g11, g12, g13, g14, g15⟩ := g
  funext k
  simp [fd_qall, fd_qs, fd_qb, fd_qp, fd_up, g1, g2, g3, g4, g5, g6, g7, g8, g9, g10, g11, g12, g13, g14, g15]
theorem fd_qall_g (K : fd_M) (k : Nat) : fd_qall K 4 k = if k < 49 then K 9 k else K 4 k := by
  simp [fd_qall, fd_qs, fd_qb, fd_qp, fd_up]
theorem fd_qall_d (K : fd_M) (k : Nat) : (fd_qall K 15 k = if k < 6 then K 10 k else K 15 k) ∧ (fd_qall K 16 k = if k < 6 then K 11 k else K 16 k) ∧ (fd_qall K 17 k = if k < 6 then K 12 k else K 17 k) ∧ (fd_qall K 18 k = if k < 6 then 0 else K 18 k) := by
  refine ⟨?_, ?_, ?_, ?_⟩ <;> by_cases h : k < 6 <;> simp [fd_qall, fd_qs, fd_qb, fd_qp, fd_up, h]
theorem fd_Rel_F {M K S Z : fd_M} (h : fd_Rel M) (hz : fd_zc K = Z) (hG : pz_G Z) (hV : pz_V Z) (hK : ∀ c, c < 8 ∨ 14 ≤ c → K c = M c) (f : tk_RF (fd_qall K) S) (z : tk_RZ S Z) : fd_Rel (fd_up (fd_tdr S) 199 2 0) := by
  obtain ⟨⟨c1, c2, c3, c4, c5, c6, c7, c8, c9, c10, c11⟩, ⟨s1, s2, s3, s4⟩, ⟨t1, t2, t3, t4, t5, t6, t7, t8⟩, -, -, -, -⟩ := h
  obtain ⟨z1, z2, z3, z4, z5, z6, z7, z8⟩ := z
  obtain ⟨f1, f2, -⟩ := f
  subst hz
  obtain ⟨g0, g1, g2, g3, g4, -, -, g5, g6, g7, g8⟩ := hG
  have g0 : 0 ≤ K 8 0 ∧ K 8 0 ≤ 7 := g0
  have g1 : 0 ≤ K 8 1 ∧ K 8 1 ≤ 7 := g1
  have g2 : 0 ≤ K 8 2 ∧ K 8 2 ≤ 6 := g2
  have g3 : 1 ≤ K 8 3 ∧ K 8 3 ≤ 9 := g3
  have g4 : 1 ≤ K 8 4 ∧ K 8 4 ≤ 7 := g4
  have g5 : ∀ k, 0 ≤ K 9 k ∧ K 9 k ≤ 2 := g5
  have g6 : ∀ k, 0 ≤ K 10 k ∧ K 10 k ≤ 6 := g6
  have g7 : ∀ k, 0 ≤ K 11 k ∧ K 11 k ≤ 6 := g7
  have g8 : ∀ k, 0 ≤ K 12 k ∧ K 12 k ≤ 3 := g8
  have z1 : S 201 1 = K 8 0 := z1
  have z2 : S 202 1 = K 8 1 := z2
  have z3 : S 204 1 = K 8 2 := z3
  have z4 : S 207 2 = K 8 3 := z4
  have z5 : S 207 3 = K 8 4 := z5
  have z7 : ∀ x y : Nat, (x : Int) < K 8 0 → (y : Int) < K 8 1 → S 203 (49 + (7 * y + x)) = K 9 (7 * y + x) := z7
  have z8 : ∀ d : Nat, (d : Int) < K 8 2 → S 205 d = 7 * K 11 d + K 10 d ∧ S 206 d = K 12 d := z8
  have v1 : ∀ d : Nat, (d : Int) < K 8 2 → K 10 d < K 8 0 ∧ K 11 d < K 8 1 := hV.1
  have v2 : ∀ d e : Nat, (d : Int) < K 8 2 → (e : Int) < K 8 2 → K 10 d = K 10 e → K 11 d = K 11 e → d = e := hV.2
  have hn : S 204 1 ≤ 6 := by omega
  generalize hN : fd_up (fd_tdr S) 199 2 0 = N
  have u : ∀ c, c < 199 ∨ c = 200 ∨ 210 ≤ c → N c = fd_qall K c := fun c hc => by
    rw [← hN, fd_up_ne (by omega), fd_tdr_fr hc, f1 c (by omega)]
  have w : ∀ c, c = 0 ∨ c = 2 ∨ (20 ≤ c ∧ c < 78) ∨ (79 ≤ c ∧ c < 83) ∨ (84 ≤ c ∧ c < 141) ∨ (142 ≤ c ∧ c < 199) ∨ c = 200 ∨ 210 ≤ c → N c = M c := fun c hc => by
    rw [u c (by omega), fd_qall_fr (by omega), hK c (by omega)]
  have wd : ∀ c, 8 ≤ c ∧ c < 14 → N c = K c := fun c hc => by
    rw [u c (by omega), fd_qall_fr (by omega)]
  have a30 : N 3 0 = K 8 0 := by rw [u 3 (by omega)]; rfl
  have a31 : N 3 1 = K 8 1 := by rw [u 3 (by omega)]; rfl
  have a32 : N 3 2 = K 8 2 := by rw [u 3 (by omega)]; rfl
  have a33 : N 3 3 = K 8 3 := by rw [u 3 (by omega)]; rfl
  have a34 : N 3 4 = K 8 4 := by rw [u 3 (by omega)]; rfl
  have a11 : N 1 1 = 0 := by rw [u 1 (by omega)]; rfl
  have a191 : N 19 1 = 0 := by rw [u 19 (by omega)]; rfl
  have a782 : N 78 2 = 0 := by rw [u 78 (by omega)]; rfl
  have a832 : N 83 2 = 0 := by rw [u 83 (by omega)]; rfl
  have a1412 : N 141 2 = 0 := by rw [u 141 (by omega)]; rfl
  have a144 : N 14 4 = 2 ^ (K 8 2).toNat - 1 := by rw [u 14 (by omega)]; rfl
  have a145 : N 14 5 = 0 := by rw [u 14 (by omega)]; rfl
  have a146 : N 14 6 = 1 := by rw [u 14 (by omega)]; rfl
  have a147 : N 14 7 = 0 := by rw [u 14 (by omega)]; rfl
  have a4 : ∀ k, N 4 k = if k < 49 then K 9 k else M 4 k := fun k => by rw [u 4 (by omega), fd_qall_g, hK 4 (by omega)]
  have a15 : ∀ k, N 15 k = if k < 6 then K 10 k else M 15 k := fun k => by rw [u 15 (by omega), (fd_qall_d K k).1, hK 15 (by omega)]
  have a16 : ∀ k, N 16 k = if k < 6 then K 11 k else M 16 k := fun k => by rw [u 16 (by omega), (fd_qall_d K k).2.1, hK 16 (by omega)]
  have a17 : ∀ k, N 17 k = if k < 6 then K 12 k else M 17 k := fun k => by rw [u 17 (by omega), (fd_qall_d K k).2.2.1, hK 17 (by omega)]
  have a18 : ∀ k, N 18 k = if k < 6 then 0 else M 18 k := fun k => by rw [u 18 (by omega), (fd_qall_d K k).2.2.2, hK 18 (by omega)]
  have b0 : N 201 0 = K 8 0 := by rw [← hN, fd_up_ne (by omega), ← z1]; rfl
  have b1 : N 202 0 = K 8 1 := by rw [← hN, fd_up_ne (by omega), ← z2]; rfl
  have b2 : N 204 0 = K 8 2 := by rw [← hN, fd_up_ne (by omega), ← z3]; rfl
  have b3 : N 207 0 = K 8 3 := by rw [← hN, fd_up_ne (by omega), ← z4]; rfl
  have b4 : N 207 1 = K 8 4 := by rw [← hN, fd_up_ne (by omega), ← z5]; rfl
  have b5 : N 208 12 = 2 ^ (K 8 2).toNat - 1 := by rw [← hN, fd_up_ne (by omega), ← z3]; rfl
  have b6 : N 208 13 = 1 := by rw [← hN, fd_up_ne (by omega)]; rfl
  have b7 : N 208 28 = 0 := by rw [← hN, fd_up_ne (by omega)]; rfl
  have b8 : N 209 0 = 0 := by rw [← hN, fd_up_ne (by omega)]; rfl
  have b9 : N 209 1 = 0 := by rw [← hN, fd_up_ne (by omega)]; rfl
  have d23 : N 199 23 = 0 := by rw [← hN]; rfl
  have d2 : N 199 2 = 0 := by rw [← hN]; rfl
  have d0 : N 199 0 = M 199 0 := by
    rw [← hN, fd_up_at, if_neg (by decide), fd_tdr_199 (by decide), f2 0 (by decide), fd_qall_fr (by omega), hK 199 (by omega)]
  have e3 : ∀ k, k < 49 → N 203 k = S 203 (49 + k) := fun k hk => by rw [← hN, fd_up_ne (by omega), fd_tdr_203 hk]
  have ep : ∀ d : Nat, (d : Int) < K 8 2 → N 208 d = S 205 d ∧ N 208 (6 + d) = S 206 d ∧ N 208 (15 + d) = 0 := fun d hd => by
    rw [← hN, fd_up_ne (by omega)]; exact fd_tdr_p hn (by omega)
  have es : ∀ j, 14 = j ∨ (21 ≤ j ∧ j < 28) → N 208 j = 0 := fun j hj => by
    rw [← hN, fd_up_ne (by omega)]; exact fd_tdr_s hn hj
  have p2 : (2 : Int) ^ (K 8 2).toNat ≤ 64 ∧ (1 : Int) ≤ 2 ^ (K 8 2).toNat := by
    have q : ∀ n : Fin 7, (2 : Int) ^ n.val ≤ 64 ∧ (1 : Int) ≤ 2 ^ n.val := by decide
    exact q ⟨(K 8 2).toNat, by omega⟩
  clear hN u f1 f2 hV
  refine ⟨⟨?_, ?_, ?_, ?_, ?_, ?_, ?_, ?_, ?_, ?_, ?_⟩, ⟨?_, ?_, ?_, ?_⟩, ⟨?_, ?_, ?_, ?_, ?_, ?_, ?_, ?_⟩, ⟨?_, ?_, ?_, ?_, ?_, ?_⟩, ⟨?_, ?_, ?_⟩, ?_, ?_⟩
  · unfold fd_PG
    rw [a30, a31, a32, a33, a34]
    refine ⟨g0, g1, g2, g3, g4, fun k => ?_⟩
    rw [a4]
    split
    · exact g5 k
    · exact c1.2.2.2.2.2 k
  · unfold fd_HS; rw [w 20 (by omega)]; exact c2
  · rw [w 20 (by omega)]; exact c3
  · omega
  · unfold fd_IM; rw [w 71 (by omega), w 90 (by omega), w 148 (by omega)]; exact c5
  · omega
  · omega
  · rw [w 89 (by omega)]; exact c8
  · rw [w 147 (by omega)]; exact c9
  · rw [w 76 (by omega)]; exact c10
  · unfold fd_DG; rw [wd 9 (by omega), wd 10 (by omega), wd 11 (by omega), wd 12 (by omega)]; exact ⟨g5, g6, g7, g8⟩
  · obtain ⟨k1, k2, k3, k4, -⟩ := s1
    refine ⟨fun d => ?_, fun d => ?_, fun d => ?_, fun d => ?_, ?_, ?_, ?_, ?_⟩
    · show 0 ≤ N 15 d ∧ N 15 d ≤ 6
      rw [a15]; split
      · exact g6 d
      · exact k1 d
    · show 0 ≤ N 16 d ∧ N 16 d ≤ 6
      rw [a16]; split
      · exact g7 d
      · exact k2 d
    · show 0 ≤ N 17 d ∧ N 17 d ≤ 3
      rw [a17]; split
      · exact g8 d
      · exact k3 d
    · show 0 ≤ N 18 d ∧ N 18 d ≤ 9999
      rw [a18]; split
      · omega
      · exact k4 d
    · rw [a144]; omega
    · rw [a145]; omega
    · rw [a146]; omega
    · rw [a147]; omega
  · exact fd_SG_c s2 (fun i hi => w _ (by omega))
  · exact fd_SG_c s3 (fun i hi => w _ (by omega))
  · exact fun j hj => ⟨fd_SG_c (s4 j hj).1 (fun i hi => w _ (by omega)), fd_SG_c (s4 j hj).2.1 (fun i hi => w _ (by omega)), fd_SG_c (s4 j hj).2.2 (fun i hi => w _ (by omega))⟩
  · unfold fd_TG; rw [a782]; exact ⟨by omega, fun i hi => absurd hi (by omega)⟩
  · rw [d23, a782]
  · rw [w 211 (by omega), w 79 (by omega)]; exact t3
  · rw [w 212 (by omega), w 80 (by omega)]; exact t4
  · unfold tk_XG; rw [a11, w 2 (by omega)]; exact ⟨by omega, t5.2⟩
  · rw [d2, a11]
  · rw [w 200 (by omega), w 2 (by omega)]; exact t7
  · rw [d0, w 0 (by omega)]; exact t8
  · rw [b0, a30]
  · rw [b1, a31]
  · rw [b2, a32]
  · rw [b3, a33]
  · rw [b4, a34]
  · rw [a30, a31]
    intro x y hx hy
    rw [e3 _ (by omega), z7 x y hx hy, a4, if_pos (by omega)]
  · rw [fd_SN_eq]
    unfold fd_SN
    rw [a30, a31, a32, a144, a145, a146, a147]
    refine ⟨fun d hd => ?_, fun d e hd he hx hy => ?_, b5, b6, es 14 (by omega), fun y hy => ?_⟩
    · obtain ⟨x1, x2, x3⟩ := ep d hd
      obtain ⟨y1, y2⟩ := z8 d hd
      have q := v1 d hd
      rw [x1, x2, x3, a15, a16, a17, a18, if_pos (by omega), if_pos (by omega), if_pos (by omega), if_pos (by omega)]
      exact ⟨⟨y1, y2, rfl⟩, q, by rw [Int.zero_ediv]; rfl⟩
    · rw [a15, a15, if_pos (by omega), if_pos (by omega)] at hx
      rw [a16, a16, if_pos (by omega), if_pos (by omega)] at hy
      exact v2 d e hd he hx hy
    · rw [es _ (by omega), Int.zero_ediv]; rfl
  · rw [b7, a191]
  · rw [a191]; exact fun i hi => absurd hi (by omega)
  · unfold fd_GI; rw [b8, a832]; exact ⟨rfl, fun q => absurd rfl q⟩
  · unfold fd_GI; rw [b9, a1412]; exact ⟨rfl, fun q => absurd rfl q⟩
theorem fd_o_quarter : fd_op fd_Rel 3 65 0 := fd_op0 fun M h => by
  obtain ⟨t1, t2, t3, t4, t5, t6, t7, t8⟩ := h.2.2.1
  have hD : fd_DG M := h.1.2.2.2.2.2.2.2.2.2.2
  have hI := h.1.2.2.2.2.1
  have hx : tk_Tx (M 2) (M 1 1).toNat M := ⟨rfl, by have := t5.1.1; omega, by have := t5.1.2; omega, t5.2⟩
  have hG0 := pz_0_G hD
  have V := pz_a_V (tx := M 2) (len := (M 1 1).toNat) ((M 1 1).toNat + 1) 0 0 (pz_0 (fd_zc M)) (Nat.zero_le _) (Int.le_refl 0) hG0 (pz_V_0 rfl) (fun _ => rfl)
  have V1 : (pz_rd (M 2) (M 1 1).toNat (fd_zc M)).1.2.1 ≤ (M 1 1).toNat := V.1
  have V2 : (pz_rd (M 2) (M 1 1).toNat (fd_zc M)).1.1 = true → pz_V (pz_rd (M 2) (M 1 1).toNat (fd_zc M)).1.2.2 := V.2
  have it := pz_a_it (M 2) (M 1 1).toNat ((M 1 1).toNat + 1) 0 0 (pz_0 (fd_zc M)) (Int.le_refl 0)
  have it : 0 ≤ (pz_rd (M 2) (M 1 1).toNat (fd_zc M)).2 ∧ (pz_rd (M 2) (M 1 1).toNat (fd_zc M)).2 ≤ 0 + (((M 1 1).toNat + 1 : Nat) : Int) := it
  have ls := tk_ls_rng (tx := M 2) V1
  have t51 := t5.1
  have hq : -1000 ≤ fd_X_quarter (M 2) (M 1 1).toNat M ∧ fd_X_quarter (M 2) (M 1 1).toNat M ≤ 1000 := by
    unfold fd_X_quarter
    split <;> omega
  obtain ⟨r, M1, cx, K, er, hz, hG, hK, e1⟩ := fd_x_quarter M hx hD ⟨hI.1, hI.2.1⟩ hq
  subst er
  have k1 : ∀ c, 199 ≤ c → M1 c = M c := fun c hc => by
    rw [e1]
    split
    · rw [fd_qall_fr (by omega), hK c (by omega)]
    · exact hK c (by omega)
  have hy : tk_TxR (M 2) (M 1 1).toNat M1 := ⟨by rw [k1 199 (by omega), t6]; exact hx.2.1, hx.2.2.1, hx.2.2.2, fun k => by rw [k1 200 (by omega)]; exact t7 k⟩
  obtain ⟨r2, M2, cy, e2, e3⟩ := fd_y_quarter M1 hy (fd_zc M) hG0
  subst e2
  refine ⟨fd_X_quarter (M 2) (M 1 1).toNat M, M1, M2, fd_callD cx (by decide), fd_callD cy (by decide), ?_⟩
  by_cases ok : (pz_rd (M 2) (M 1 1).toNat (fd_zc M)).1.1 = true
  · rw [if_pos ok] at e1 e3
    obtain ⟨S, f, z, rfl⟩ := e3
    subst e1
    exact fd_Rel_F h hz hG (V2 ok) hK f z
  · rw [if_neg ok] at e1 e3
    subst e1
    have g := hG
    rw [← hz] at g
    obtain ⟨f1, f2, f3, f4, f5, f6, f7, f8⟩ := e3
    refine fd_Rel_Q h (fun c hc => by rw [f1 c (by omega), hK c (by omega)]) (fun k hk => by rw [f2 k hk, hK 199 (by omega)]) (by rw [f3, hK 201 (by omega)]) (by rw [f4, hK 202 (by omega)]) (by rw [f5, hK 204 (by omega)]) (by rw [f6, hK 207 (by omega)]) (by rw [f7, hK 207 (by omega)]) (fun k hk => by rw [f8 k hk, hK 203 (by omega)]) ?_
    unfold fd_DG
    rw [f1 9 (by omega), f1 10 (by omega), f1 11 (by omega), f1 12 (by omega)]
    exact ⟨g.2.2.2.2.2.2.2.1, g.2.2.2.2.2.2.2.2.1, g.2.2.2.2.2.2.2.2.2.1, g.2.2.2.2.2.2.2.2.2.2⟩

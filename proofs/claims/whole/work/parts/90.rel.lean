/-! the relation of class and reference -/
def fd_SRf (D W H : Int) (s : Nat → Nat → Int) (nw : Nat → Int) : Prop :=
  (∀ d : Nat, (d : Int) < D → (nw d = 7 * s 2 d + s 1 d ∧ nw (6 + d) = s 3 d ∧ nw (15 + d) = s 4 d) ∧ (s 1 d < W ∧ s 2 d < H) ∧ s 0 5 / 2 ^ (s 2 d * 7 + s 1 d).toNat % 2 = 0) ∧
  (∀ d e : Nat, (d : Int) < D → (e : Int) < D → s 1 d = s 1 e → s 2 d = s 2 e → d = e) ∧
  nw 12 = s 0 4 ∧ nw 13 = s 0 6 ∧ nw 14 = s 0 7 ∧ (∀ y : Nat, y < 7 → nw (21 + y) = s 0 5 / 2 ^ (7 * y) % 128)
def fd_SR (M : fd_M) (a o : Nat) : Prop := fd_SRf (M 3 2) (M 3 0) (M 3 1) (fun i k => M (a + i) k) (fun k => M 208 (o + k))
def fd_GC (M : fd_M) : Prop := fd_PG M ∧ fd_HS M ∧ (∀ i j : Nat, i < 10 → j < 10 → M 20 i = M 20 j → i = j) ∧ (0 ≤ M 19 1 ∧ M 19 1 ≤ 10) ∧ fd_IM M ∧ (0 ≤ M 83 2 ∧ M 83 2 ≤ 1) ∧ (0 ≤ M 141 2 ∧ M 141 2 ≤ 1) ∧ (0 ≤ M 89 1 ∧ M 89 1 ≤ 10) ∧ (0 ≤ M 147 1 ∧ M 147 1 ≤ 10) ∧ (∀ k : Nat, 0 ≤ M 76 k ∧ M 76 k ≤ 3) ∧ fd_DG M
def fd_GS (M : fd_M) : Prop := fd_SG M 14 ∧ fd_SG M 84 ∧ fd_SG M 142 ∧ (∀ j, j < 10 → fd_SG M (21 + 5 * j) ∧ fd_SG M (91 + 5 * j) ∧ fd_SG M (149 + 5 * j))
def fd_GT (M : fd_M) : Prop := fd_TG M ∧ M 199 23 = M 78 2 ∧ M 211 = M 79 ∧ M 212 = M 80 ∧ tk_XG M ∧ M 199 2 = M 1 1 ∧ (∀ k, M 200 k = fd_i2b (M 2 k)) ∧ M 199 0 = M 0 12
def fd_GP (M : fd_M) : Prop := M 201 0 = M 3 0 ∧ M 202 0 = M 3 1 ∧ M 204 0 = M 3 2 ∧ M 207 0 = M 3 3 ∧ M 207 1 = M 3 4 ∧ (∀ x y : Nat, (x : Int) < M 3 0 → (y : Int) < M 3 1 → M 203 (7 * y + x) = M 4 (7 * y + x))
def fd_GN (M : fd_M) : Prop := fd_SR M 14 0 ∧ M 208 28 = M 19 1 ∧ (∀ i : Nat, (i : Int) < M 19 1 → fd_SR M (M 20 i).toNat (29 + 28 * i))
def fd_GI (M : fd_M) (f s h r b : Nat) (i : Nat) : Prop := M 209 i = M f 2 ∧ (¬ M f 2 = 0 → fd_SR M s (309 * (1 + i)) ∧ M 208 (309 * (1 + i) + 28) = M h 1 ∧ (∀ j : Nat, (j : Int) < M h 1 → fd_SR M (b + 5 * j) (309 * (1 + i) + (29 + 28 * j))))
def fd_Rel (M : fd_M) : Prop := fd_GC M ∧ fd_GS M ∧ fd_GT M ∧ fd_GP M ∧ fd_GN M ∧ fd_GI M 83 84 89 90 91 0 ∧ fd_GI M 141 142 147 148 149 1
/-- the same of NOW, plain -/
def fd_SN (M : fd_M) : Prop :=
  (∀ d : Nat, (d : Int) < M 3 2 → (M 208 d = 7 * M 16 d + M 15 d ∧ M 208 (6 + d) = M 17 d ∧ M 208 (15 + d) = M 18 d) ∧ (M 15 d < M 3 0 ∧ M 16 d < M 3 1) ∧ M 14 5 / 2 ^ (M 16 d * 7 + M 15 d).toNat % 2 = 0) ∧
  (∀ d e : Nat, (d : Int) < M 3 2 → (e : Int) < M 3 2 → M 15 d = M 15 e → M 16 d = M 16 e → d = e) ∧
  M 208 12 = M 14 4 ∧ M 208 13 = M 14 6 ∧ M 208 14 = M 14 7 ∧ (∀ y : Nat, y < 7 → M 208 (21 + y) = M 14 5 / 2 ^ (7 * y) % 128)
theorem fd_SN_eq (M : fd_M) : fd_SR M 14 0 = fd_SN M := by
  unfold fd_SR fd_SRf fd_SN
  simp only [Nat.zero_add, Nat.reduceAdd, Nat.add_zero]
/-! bits -/
theorem fd_bitN (n a x : Nat) (hx : x < 7) : n / 2 ^ a % 128 / 2 ^ x % 2 = n / 2 ^ (a + x) % 2 := by
  have e : ∀ m k : Nat, m / 2 ^ k % 2 = (m.testBit k).toNat := fun m k => by
    rw [Nat.testBit_eq_decide_div_mod_eq]
    have := Nat.mod_lt (m / 2 ^ k) (show 2 > 0 by decide)
    by_cases h : m / 2 ^ k % 2 = 1
    · simp [h]
    · have : m / 2 ^ k % 2 = 0 := by omega
      simp [this]
  rw [e, e, show (128 : Nat) = 2 ^ 7 from rfl, Nat.testBit_mod_two_pow, Nat.testBit_div_two_pow]
  simp [hx, Nat.add_comm]
theorem fd_bitI {v : Int} (hv : 0 ≤ v) (a x : Nat) (hx : x < 7) : v / 2 ^ a % 128 / 2 ^ x % 2 = v / 2 ^ (a + x) % 2 := by
  obtain ⟨n, rfl⟩ := Int.eq_ofNat_of_zero_le hv
  have := fd_bitN n a x hx
  rw [fd_pw a, fd_pw x, fd_pw (a + x)]
  exact_mod_cast this
theorem fd_mod2 {v : Int} : v % 2 = 1 ∨ v % 2 = 0 := by omega
/-! views -/
theorem fd_dp_dr {f px py : Nat → Int} {x y : Int} {D : Nat} (h : ∀ d, d < D → f d = 7 * py d + px d) (hx : ∀ d, 0 ≤ px d ∧ px d ≤ 6) (hX : 0 ≤ x ∧ x ≤ 6) : ∀ (n k : Nat), k + n ≤ D → fd_dp f (7 * y + x) n k = (if fd_dr px py x y n k = -1 then -9 else fd_dr px py x y n k)
  | 0, k, _ => rfl
  | n + 1, k, hk => by
    rw [fd_dp, fd_dr]
    have a := h k (by omega)
    have b := hx k
    by_cases q : px k = x ∧ py k = y
    · rw [if_pos q, if_pos (by rw [a, q.1, q.2]), if_neg (by omega)]
    · rw [if_neg q, if_neg (by rw [a]; omega)]
      exact fd_dp_dr h hx hX n (k + 1) (by omega)
theorem fd_Rel_cv {M : fd_M} (h : fd_Rel M) : fd_cvR M = fd_cvC M := by
  obtain ⟨hC, hS, hT, hP, hN, -, -⟩ := h
  obtain ⟨p0, p1, p2, p3, p4, p5⟩ := hP
  obtain ⟨g0, g1, g2, g3, g4, g5⟩ := hC.1
  have hN1 := hN.1
  rw [fd_SN_eq] at hN1
  obtain ⟨n1, n2, n3, n4, n5, n6⟩ := hN1
  obtain ⟨s1, s2, s3, s4, s5, s6, s7, s8⟩ := hS.1
  have s1 : ∀ d : Nat, 0 ≤ M 15 d ∧ M 15 d ≤ 6 := s1
  funext x y
  unfold fd_cvR fd_cvC
  rw [p0, p1]
  by_cases hc : 0 ≤ x ∧ x < M 3 0 ∧ 0 ≤ y ∧ y < M 3 1
  · rw [if_pos hc, if_pos hc]
    have e1 : fd_dpR M x.toNat y.toNat = (if fd_dor M x y = -1 then -9 else fd_dor M x y) := by
      unfold fd_dpR fd_dor
      rw [p2, show (7 * (y.toNat : Int) + (x.toNat : Int)) = 7 * y + x by omega]
      exact fd_dp_dr (px := M 15) (py := M 16) (D := (M 3 2).toNat) (fun d hd => (n1 d (by omega)).1.1) s1 (by omega) (M 3 2).toNat 0 (by omega)
    have dr := fd_dor_rng g2.1 x y
    have e2 : M 208 (21 + y.toNat) / 2 ^ x.toNat % 2 = M 14 5 / 2 ^ (y * 7 + x).toNat % 2 := by
      rw [n6 y.toNat (by omega), fd_bitI s6.1 _ _ (by omega), show 7 * y.toNat + x.toNat = (y * 7 + x).toNat by omega]
    rw [e1, e2, p5 x.toNat y.toNat (by omega) (by omega), show 7 * y.toNat + x.toNat = (y * 7 + x).toNat by omega]
    by_cases q : fd_dor M x y = -1
    · rw [if_pos q, if_pos rfl, if_pos q]
    · rw [if_neg q, if_neg (by omega), if_neg q]
  · rw [if_neg hc, if_neg hc]
theorem fd_Rel_CG {M : fd_M} (h : fd_Rel M) : fd_CG M := ⟨h.1.1, h.2.1.1⟩
theorem fd_Rel_RP {M : fd_M} (h : fd_Rel M) : fd_RP M := by
  obtain ⟨hC, hS, hT, hP, hN, -, -⟩ := h
  obtain ⟨p0, p1, p2, p3, p4, p5⟩ := hP
  obtain ⟨g0, g1, g2, g3, g4, g5⟩ := hC.1
  unfold fd_RP
  rw [p0, p1, p2, p3, p4]
  exact ⟨g0, g1, g2, g3, g4, fun x y hx hy => by rw [p5 x y hx hy]; exact g5 _⟩
theorem fd_Rel_RS {M : fd_M} (h : fd_Rel M) : fd_RS M := by
  obtain ⟨hC, hS, hT, hP, hN, -, -⟩ := h
  have hN1 := hN.1
  rw [fd_SN_eq] at hN1
  obtain ⟨n1, n2, n3, n4, n5, n6⟩ := hN1
  obtain ⟨s1, s2, s3, s4, s5, s6, s7, s8⟩ := hS.1
  refine ⟨fun d hd => ?_, fun y hy => ?_, ?_, ?_, ?_, ?_⟩
  · rw [hP.2.2.1] at hd
    obtain ⟨⟨a1, a2, a3⟩, -, -⟩ := n1 d hd
    rw [a1, a2, a3]
    have b1 : 0 ≤ M 15 d ∧ M 15 d ≤ 6 := s1 d
    have b2 : 0 ≤ M 16 d ∧ M 16 d ≤ 6 := s2 d
    exact ⟨by omega, s3 d, s4 d⟩
  · rw [n6 y hy]
    omega
  · rw [n3]; exact s5
  · rw [n4]; exact s7
  · rw [n5]; exact s8
  · rw [hN.2.1]; exact hC.2.2.2.1

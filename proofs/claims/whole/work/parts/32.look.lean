/-! the look along a line -/
theorem fd_sx_rng (w : Int) : -1 ≤ fd_sx w ∧ fd_sx w ≤ 1 := by unfold fd_sx; split <;> (try split) <;> omega
theorem fd_sy_rng (w : Int) : -1 ≤ fd_sy w ∧ fd_sy w ≤ 1 := by unfold fd_sy; split <;> (try split) <;> omega
def fd_nb (r : Int) : Int := if r = -9 then -1 else r
def fd_wsee (M : fd_M) (d : Nat) (w : Int) : Int := fd_see (fd_cvC M) (M 14 6) (fd_sx w) (fd_sy w) (M 3 4).toNat (M 15 d) (M 16 d)
def fd_sw (M : fd_M) (d : Nat) : Int := if M 14 7 = 1 ∨ ¬ M 14 4 / 2 ^ d % 2 = 1 then -9 else fd_wsee M d (M 17 d)
def fd_due (wy : Nat → Int) (pr o : Int) (d : Nat) : Int := if o = -9 then 0 else if wy o.toNat = (wy d + 2) % 4 then 2 * pr else pr
def fd_dio (M : fd_M) (d : Nat) : Int := fd_due (M 17) (M 3 3) (if M 14 7 = 1 then -9 else fd_wsee M d (M 17 d)) d
def fd_dueC (M : fd_M) (d : Nat) : Int := fd_due (M 17) (M 3 3) (fd_sw M d) d
def fd_sum (f : Nat → Int) : Nat → Int
  | 0 => 0
  | n + 1 => fd_sum f n + f n
theorem fd_cvC_rng {M : fd_M} (hG : fd_CG M) (x y : Int) : -1 ≤ fd_cvC M x y ∧ (fd_cvC M x y ≤ 3 ∨ (10 ≤ fd_cvC M x y ∧ fd_cvC M x y < 10 + M 3 2)) := by
  obtain ⟨g0, g1, g2, g3, g4, g5⟩ := hG.1
  unfold fd_cvC
  have q := fd_dor_rng g2.1 x y
  have q5 := g5 (y * 7 + x).toNat
  split
  · split
    · split <;> omega
    · omega
  · omega
theorem fd_see_rng {cv : Int → Int → Int} {D : Int} (h : ∀ x y, -1 ≤ cv x y ∧ (cv x y ≤ 3 ∨ (10 ≤ cv x y ∧ cv x y < 10 + D))) (lf dx dy : Int) : ∀ (n : Nat) (x y : Int), fd_see cv lf dx dy n x y = -9 ∨ (0 ≤ fd_see cv lf dx dy n x y ∧ fd_see cv lf dx dy n x y < D)
  | 0, _, _ => Or.inl rfl
  | n + 1, x, y => by
    rw [fd_see]
    have q := h (x + dx) (y + dy)
    split
    · right; omega
    · split
      · exact Or.inl rfl
      · exact fd_see_rng h lf dx dy n _ _
theorem fd_wsee_rng {M : fd_M} (hG : fd_CG M) (d : Nat) (w : Int) : fd_wsee M d w = -9 ∨ (0 ≤ fd_wsee M d w ∧ fd_wsee M d w < M 3 2) := fd_see_rng (fd_cvC_rng hG) _ _ _ _ _ _
theorem fd_sw_rng {M : fd_M} (hG : fd_CG M) (d : Nat) : fd_sw M d = -9 ∨ (0 ≤ fd_sw M d ∧ fd_sw M d < M 3 2) := by
  unfold fd_sw
  split
  · exact Or.inl rfl
  · exact fd_wsee_rng hG _ _
theorem fd_due_rng {wy : Nat → Int} {pr : Int} (h : 1 ≤ pr ∧ pr ≤ 9) (o : Int) (d : Nat) : 0 ≤ fd_due wy pr o d ∧ fd_due wy pr o d ≤ 18 := by
  unfold fd_due
  split
  · omega
  · split <;> omega
theorem fd_sum_rng {f : Nat → Int} {B : Int} (h : ∀ d, 0 ≤ f d ∧ f d ≤ B) : ∀ n : Nat, 0 ≤ fd_sum f n ∧ fd_sum f n ≤ B * n
  | 0 => by simp [fd_sum]
  | n + 1 => by
    have := fd_sum_rng h n
    have := h n
    rw [fd_sum, Int.natCast_add, Int.mul_add]
    simp
    omega
theorem fd_orP : ∀ k : Fin 6, ∀ a : Fin 64, a.val < 2 ^ k.val → fd_or (a.val : Int) (2 ^ k.val) = (a.val : Int) + 2 ^ k.val := by decide +kernel
theorem fd_orS {a : Int} {k : Nat} (hk : k < 6) (h0 : 0 ≤ a) (h : a < 2 ^ k) : fd_or a (2 ^ k) = a + 2 ^ k := by
  obtain ⟨n, rfl⟩ := Int.eq_ofNat_of_zero_le h0
  have hn : n < 2 ^ k := by exact_mod_cast h
  have : 2 ^ k ≤ 2 ^ 6 := Nat.pow_le_pow_right (by decide) (by omega)
  exact fd_orP ⟨k, hk⟩ ⟨n, by omega⟩ hn
def fd_bits (p : Nat → Prop) [DecidablePred p] (n : Nat) : Int := fd_sum (fun k => if p k then 2 ^ k else 0) n
theorem fd_bits_rng (p : Nat → Prop) [DecidablePred p] : ∀ n : Nat, 0 ≤ fd_bits p n ∧ fd_bits p n < 2 ^ n
  | 0 => by simp [fd_bits, fd_sum]
  | n + 1 => by
    have q := fd_bits_rng p n
    have e : fd_bits p (n + 1) = fd_bits p n + (if p n then 2 ^ n else 0) := rfl
    rw [e, Int.pow_succ]
    have := fd_pow_pos n
    split <;> omega
theorem fd_cvC_zero {M : fd_M} (hG : fd_CG M) (x y : Int) : fd_cvC M x y = 0 ↔ (0 ≤ x ∧ x < M 3 0 ∧ 0 ≤ y ∧ y < M 3 1) ∧ (if 0 ≤ x ∧ x < M 3 0 ∧ 0 ≤ y ∧ y < M 3 1 then M 4 (y * 7 + x).toNat else 1) = 0 ∧ ¬ M 14 5 / 2 ^ (y * 7 + x).toNat % 2 = 1 ∧ fd_dor M x y = -1 := by
  obtain ⟨g0, g1, g2, g3, g4, g5⟩ := hG.1
  have q := fd_dor_rng g2.1 x y
  unfold fd_cvC
  by_cases h1 : 0 ≤ x ∧ x < M 3 0 ∧ 0 ≤ y ∧ y < M 3 1
  · rw [if_pos h1, if_pos h1]
    by_cases h2 : fd_dor M x y = -1
    · rw [if_pos h2]
      by_cases h3 : M 14 5 / 2 ^ (y * 7 + x).toNat % 2 = 1
      · rw [if_pos h3]
        simp [h3]
      · rw [if_neg h3]
        simp [h1, h2, h3]
    · rw [if_neg h2]
      constructor
      · intro z; omega
      · intro z; exact absurd z.2.2.2 h2
  · rw [if_neg h1]
    constructor
    · intro z; omega
    · intro z; exact absurd z.1 h1
theorem fd_l_doorOn (M : fd_M) (hG : fd_CG M) (x y : Int) (hx : -2147483648 ≤ x ∧ x < 2147483648) (hy : -2147483648 ≤ y ∧ y < 2147483648) : ∀ (n : Nat) (k : Nat) (hk : (k : Int) + n = M 3 2), fd_run 1 147 2 [fd_R 14, fd_I x, fd_I y, fd_I (M 3 2), fd_I ((k : Nat) : Int)] [] M (some (fd_I (fd_dr (M 15) (M 16) x y n k))) M := by
  obtain ⟨g0, g1, g2, g3, g4, g5⟩ := hG.1
  obtain ⟨s1, s2, s3, s4, s5, s6, s7, s8⟩ := hG.2
  intro n
  induction n with
  | zero =>
    intro k hk
    refine fd_u_blk 2 (C := fd_c147) (b := true) (L' := [fd_R 14, fd_I x, fd_I y, fd_I (M 3 2), fd_I ((k : Nat) : Int)]) (st' := [fd_I (M 3 2), fd_I ((k : Nat) : Int)]) (M' := M) rfl rfl (j := 4) rfl (rfl) ?_
    refine fd_u_br (C := fd_c147) (t := 24) (e := 5) (st' := []) (c := (M 3 2) ≤ ((k : Nat) : Int)) (b := (fd_rng ((k : Nat) : Int) && fd_rng (M 3 2))) rfl rfl rfl (fd_bA (fd_bR (by omega) (by omega)) (fd_bR (by omega) (by omega))) (fun h4 => ?_) (fun h4 => absurd h4 (by omega))
    refine fd_u_blk 1 (C := fd_c147) (b := true) (L' := [fd_R 14, fd_I x, fd_I y, fd_I (M 3 2), fd_I ((k : Nat) : Int)]) (st' := [fd_I (-1)]) (M' := M) rfl rfl (j := 25) rfl (rfl) ?_
    refine fd_u_ret (C := fd_c147) (b := true) (r' := some (fd_I (-1))) rfl rfl rfl (rfl) ?_ ?_
    · rfl
    · rfl
  | succ n ih =>
    intro k hk
    refine fd_u_blk 2 (C := fd_c147) (b := true) (L' := [fd_R 14, fd_I x, fd_I y, fd_I (M 3 2), fd_I ((k : Nat) : Int)]) (st' := [fd_I (M 3 2), fd_I ((k : Nat) : Int)]) (M' := M) rfl rfl (j := 4) rfl (rfl) ?_
    refine fd_u_br (C := fd_c147) (t := 24) (e := 5) (st' := []) (c := (M 3 2) ≤ ((k : Nat) : Int)) (b := (fd_rng ((k : Nat) : Int) && fd_rng (M 3 2))) rfl rfl rfl (fd_bA (fd_bR (by omega) (by omega)) (fd_bR (by omega) (by omega))) (fun h4 => absurd h4 (by omega)) (fun h4 => ?_)
    refine fd_u_blk 2 (C := fd_c147) (b := true) (L' := [fd_R 14, fd_I x, fd_I y, fd_I (M 3 2), fd_I ((k : Nat) : Int)]) (st' := [fd_I 6, fd_I ((k : Nat) : Int)]) (M' := M) rfl rfl (j := 7) rfl (rfl) ?_
    refine fd_u_br (C := fd_c147) (t := 24) (e := 8) (st' := []) (c := 6 ≤ ((k : Nat) : Int)) (b := (fd_rng ((k : Nat) : Int) && fd_rng 6)) rfl rfl rfl (fd_bA (fd_bR (by omega) (by omega)) (fd_bR (by omega) (by omega))) (fun h7 => absurd h7 (by omega)) (fun h7 => ?_)
    refine fd_u_blk 4 (C := fd_c147) (b := (fd_inb ((k : Nat) : Int) 6 && true)) (L' := [fd_R 14, fd_I x, fd_I y, fd_I (M 3 2), fd_I ((k : Nat) : Int)]) (st' := [fd_I (M 15 k)]) (M' := M) rfl rfl (j := 12) rfl (fd_bA (fd_bI (by omega) (by omega)) (rfl)) ?_
    have q1 := s1 k
    simp only [Nat.reduceAdd] at q1
    refine fd_u_blk 1 (C := fd_c147) (b := true) (L' := [fd_R 14, fd_I x, fd_I y, fd_I (M 3 2), fd_I ((k : Nat) : Int)]) (st' := [fd_I x, fd_I (M 15 k)]) (M' := M) rfl rfl (j := 13) rfl (rfl) ?_
    refine fd_u_br (C := fd_c147) (t := 22) (e := 14) (st' := []) (c := ¬ (M 15 k) = x) (b := (fd_rng (M 15 k) && fd_rng x)) rfl rfl rfl (fd_bA (fd_bR (by omega) (by omega)) (fd_bR (by omega) (by omega))) (fun h13 => ?_) (fun h13 => ?_)
    · refine fd_u_blk 1 (C := fd_c147) (b := true) (L' := [fd_R 14, fd_I x, fd_I y, fd_I (M 3 2), fd_I (((k + 1) : Nat) : Int)]) (st' := []) (M' := M) rfl rfl (j := 23) rfl (rfl) ?_
      refine fd_u_jmp (C := fd_c147) (j := 2) (st' := []) rfl rfl (b := true) rfl rfl ?_
      rw [fd_dr, if_neg (fun q => by first | exact h13 q.1 | exact h19 q.2)]
      exact ih (k + 1) (by omega)
    · refine fd_u_blk 4 (C := fd_c147) (b := (fd_inb ((k : Nat) : Int) 6 && true)) (L' := [fd_R 14, fd_I x, fd_I y, fd_I (M 3 2), fd_I ((k : Nat) : Int)]) (st' := [fd_I (M 16 k)]) (M' := M) rfl rfl (j := 18) rfl (fd_bA (fd_bI (by omega) (by omega)) (rfl)) ?_
      have q2 := s2 k
      simp only [Nat.reduceAdd] at q2
      refine fd_u_blk 1 (C := fd_c147) (b := true) (L' := [fd_R 14, fd_I x, fd_I y, fd_I (M 3 2), fd_I ((k : Nat) : Int)]) (st' := [fd_I y, fd_I (M 16 k)]) (M' := M) rfl rfl (j := 19) rfl (rfl) ?_
      refine fd_u_br (C := fd_c147) (t := 22) (e := 20) (st' := []) (c := ¬ (M 16 k) = y) (b := (fd_rng (M 16 k) && fd_rng y)) rfl rfl rfl (fd_bA (fd_bR (by omega) (by omega)) (fd_bR (by omega) (by omega))) (fun h19 => ?_) (fun h19 => ?_)
      · refine fd_u_blk 1 (C := fd_c147) (b := true) (L' := [fd_R 14, fd_I x, fd_I y, fd_I (M 3 2), fd_I (((k + 1) : Nat) : Int)]) (st' := []) (M' := M) rfl rfl (j := 23) rfl (rfl) ?_
        refine fd_u_jmp (C := fd_c147) (j := 2) (st' := []) rfl rfl (b := true) rfl rfl ?_
        rw [fd_dr, if_neg (fun q => by first | exact h13 q.1 | exact h19 q.2)]
        exact ih (k + 1) (by omega)
      · refine fd_u_blk 1 (C := fd_c147) (b := true) (L' := [fd_R 14, fd_I x, fd_I y, fd_I (M 3 2), fd_I ((k : Nat) : Int)]) (st' := [fd_I ((k : Nat) : Int)]) (M' := M) rfl rfl (j := 21) rfl (rfl) ?_
        refine fd_u_ret (C := fd_c147) (b := true) (r' := some (fd_I ((k : Nat) : Int))) rfl rfl rfl (rfl) ?_ ?_
        · rw [fd_dr, if_pos ⟨Classical.not_not.mp h13, Classical.not_not.mp h19⟩]
        · rfl

theorem fd_s_doorOn (M : fd_M) (hG : fd_CG M) (x y : Int) (hx : -2147483648 ≤ x ∧ x < 2147483648) (hy : -2147483648 ≤ y ∧ y < 2147483648) : fd_call 1 147 [fd_R 14, fd_I x, fd_I y, fd_I (M 3 2)] M (some (fd_I (fd_dor M x y))) M := by
  refine fd_u_in (L := [fd_R 14, fd_I x, fd_I y, fd_I (M 3 2), fd_R 1003]) rfl ?_
  obtain ⟨g0, g1, g2, g3, g4, g5⟩ := hG.1
  refine fd_u_blk 2 (C := fd_c147) (b := true) (L' := [fd_R 14, fd_I x, fd_I y, fd_I (M 3 2), fd_I 0]) (st' := []) (M' := M) rfl rfl (j := 2) rfl (rfl) ?_
  exact fd_l_doorOn M hG x y hx hy (M 3 2).toNat 0 (by omega)

theorem fd_s_isVacant (M : fd_M) (hG : fd_CG M) (x y : Int) (hx : -2147483648 ≤ x ∧ x < 2147483648) (hy : -2147483648 ≤ y ∧ y < 2147483648) : fd_call 3 150 [fd_R 72, fd_I x, fd_I y] M (some (fd_I (fd_bi (fd_cvC M x y = 0)))) M := by
  refine fd_u_in (L := [fd_R 72, fd_I x, fd_I y]) rfl ?_
  obtain ⟨g0, g1, g2, g3, g4, g5⟩ := hG.1
  have q5 := g5 (y * 7 + x).toNat
  have eg : 0 ≤ (if 0 ≤ x ∧ x < M 3 0 ∧ 0 ≤ y ∧ y < M 3 1 then M 4 (y * 7 + x).toNat else 1) ∧ (if 0 ≤ x ∧ x < M 3 0 ∧ 0 ≤ y ∧ y < M 3 1 then M 4 (y * 7 + x).toNat else 1) ≤ 2 := by split <;> omega
  refine fd_u_blk 4 (C := fd_c150) (b := true) (L' := [fd_R 72, fd_I x, fd_I y]) (st' := [fd_I y, fd_I x, fd_R 3]) (M' := M) rfl rfl (j := 4) rfl (rfl) ?_
  refine fd_u_call (C := fd_c150) (d0 := 0) (mid := 123) (np := 3) (args := [fd_R 3, fd_I x, fd_I y]) (r1 := some (fd_I (fd_bi (0 ≤ x ∧ x < M 3 0 ∧ 0 ≤ y ∧ y < M 3 1)))) (M1 := M) (st' := [fd_I (fd_bi (0 ≤ x ∧ x < M 3 0 ∧ 0 ≤ y ∧ y < M 3 1))]) rfl rfl rfl rfl rfl rfl (rfl) (fd_s_hasCell M x y (by omega) (by omega) (by omega) (by omega)) rfl (by omega) ?_
  refine fd_u_br (C := fd_c150) (t := 30) (e := 6) (st' := []) (c := (fd_bi (0 ≤ x ∧ x < M 3 0 ∧ 0 ≤ y ∧ y < M 3 1)) = 0) (b := (fd_rng (fd_bi (0 ≤ x ∧ x < M 3 0 ∧ 0 ≤ y ∧ y < M 3 1)))) rfl rfl rfl (fd_biR) (fun h5 => ?_) (fun h5 => ?_)
  · have h5 := fd_biF.mp h5
    refine fd_u_blk 1 (C := fd_c150) (b := true) (L' := [fd_R 72, fd_I x, fd_I y]) (st' := [fd_I 0]) (M' := M) rfl rfl (j := 31) rfl (rfl) ?_
    refine fd_u_ret (C := fd_c150) (b := true) (r' := some (fd_I 0)) rfl rfl rfl (rfl) ?_ ?_
    · refine fd_ok0 (fun q => ?_)
      obtain ⟨q1, q2, q3, q4⟩ := (fd_cvC_zero hG x y).mp q
      first | exact absurd q1 h5 | exact absurd q2 h11 | exact absurd h17 q3 | exact absurd q4 h27
    · rfl
  · have h5 := fd_biT.mp h5
    refine fd_u_blk 4 (C := fd_c150) (b := true) (L' := [fd_R 72, fd_I x, fd_I y]) (st' := [fd_I y, fd_I x, fd_R 3]) (M' := M) rfl rfl (j := 10) rfl (rfl) ?_
    refine fd_u_call (C := fd_c150) (d0 := 1) (mid := 125) (np := 3) (args := [fd_R 3, fd_I x, fd_I y]) (r1 := some (fd_I (if 0 ≤ x ∧ x < M 3 0 ∧ 0 ≤ y ∧ y < M 3 1 then M 4 (y * 7 + x).toNat else 1))) (M1 := M) (st' := [fd_I (if 0 ≤ x ∧ x < M 3 0 ∧ 0 ≤ y ∧ y < M 3 1 then M 4 (y * 7 + x).toNat else 1)]) rfl rfl rfl rfl rfl rfl (rfl) (fd_s_groundAt M hG.1 x y (by omega) (by omega)) rfl (by omega) ?_
    refine fd_u_br (C := fd_c150) (t := 30) (e := 12) (st' := []) (c := ¬ (if 0 ≤ x ∧ x < M 3 0 ∧ 0 ≤ y ∧ y < M 3 1 then M 4 (y * 7 + x).toNat else 1) = 0) (b := (fd_rng (if 0 ≤ x ∧ x < M 3 0 ∧ 0 ≤ y ∧ y < M 3 1 then M 4 (y * 7 + x).toNat else 1))) rfl rfl rfl (fd_bR (by omega) (by omega)) (fun h11 => ?_) (fun h11 => ?_)
    · refine fd_u_blk 1 (C := fd_c150) (b := true) (L' := [fd_R 72, fd_I x, fd_I y]) (st' := [fd_I 0]) (M' := M) rfl rfl (j := 31) rfl (rfl) ?_
      refine fd_u_ret (C := fd_c150) (b := true) (r' := some (fd_I 0)) rfl rfl rfl (rfl) ?_ ?_
      · refine fd_ok0 (fun q => ?_)
        obtain ⟨q1, q2, q3, q4⟩ := (fd_cvC_zero hG x y).mp q
        first | exact absurd q1 h5 | exact absurd q2 h11 | exact absurd h17 q3 | exact absurd q4 h27
      · rfl
    · refine fd_u_blk 4 (C := fd_c150) (b := true) (L' := [fd_R 72, fd_I x, fd_I y]) (st' := [fd_I y, fd_I x, fd_R 14]) (M' := M) rfl rfl (j := 16) rfl (rfl) ?_
      refine fd_u_call (C := fd_c150) (d0 := 2) (mid := 145) (np := 3) (args := [fd_R 14, fd_I x, fd_I y]) (r1 := some (fd_I (fd_bi (M 14 5 / 2 ^ (y * 7 + x).toNat % 2 = 1)))) (M1 := M) (st' := [fd_I (fd_bi (M 14 5 / 2 ^ (y * 7 + x).toNat % 2 = 1))]) rfl rfl rfl rfl rfl rfl (rfl) (fd_s_hasCart M hG x y (by omega) (by omega)) rfl (by omega) ?_
      refine fd_u_br (C := fd_c150) (t := 30) (e := 18) (st' := []) (c := ¬ (fd_bi (M 14 5 / 2 ^ (y * 7 + x).toNat % 2 = 1)) = 0) (b := (fd_rng (fd_bi (M 14 5 / 2 ^ (y * 7 + x).toNat % 2 = 1)))) rfl rfl rfl (fd_biR) (fun h17 => ?_) (fun h17 => ?_)
      · have h17 := fd_biT.mp h17
        refine fd_u_blk 1 (C := fd_c150) (b := true) (L' := [fd_R 72, fd_I x, fd_I y]) (st' := [fd_I 0]) (M' := M) rfl rfl (j := 31) rfl (rfl) ?_
        refine fd_u_ret (C := fd_c150) (b := true) (r' := some (fd_I 0)) rfl rfl rfl (rfl) ?_ ?_
        · refine fd_ok0 (fun q => ?_)
          obtain ⟨q1, q2, q3, q4⟩ := (fd_cvC_zero hG x y).mp q
          first | exact absurd q1 h5 | exact absurd q2 h11 | exact absurd h17 q3 | exact absurd q4 h27
        · rfl
      · have h17 := fd_biF2  h17
        refine fd_u_blk 7 (C := fd_c150) (b := true) (L' := [fd_R 72, fd_I x, fd_I y]) (st' := [fd_I (M 3 2), fd_I y, fd_I x, fd_R 14]) (M' := M) rfl rfl (j := 25) rfl (rfl) ?_
        refine fd_u_call (C := fd_c150) (d0 := 1) (mid := 147) (np := 4) (args := [fd_R 14, fd_I x, fd_I y, fd_I (M 3 2)]) (r1 := some (fd_I (fd_dor M x y))) (M1 := M) (st' := [fd_I (fd_dor M x y)]) rfl rfl rfl rfl rfl rfl (rfl) (fd_s_doorOn M hG x y (by omega) (by omega)) rfl (by omega) ?_
        have qd := fd_dor_rng (M := M) (by omega) x y
        refine fd_u_blk 1 (C := fd_c150) (b := true) (L' := [fd_R 72, fd_I x, fd_I y]) (st' := [fd_I (-1), fd_I (fd_dor M x y)]) (M' := M) rfl rfl (j := 27) rfl (rfl) ?_
        refine fd_u_br (C := fd_c150) (t := 30) (e := 28) (st' := []) (c := ¬ (fd_dor M x y) = (-1)) (b := (fd_rng (fd_dor M x y) && fd_rng (-1))) rfl rfl rfl (fd_bA (fd_bR (by omega) (by omega)) (fd_bR (by omega) (by omega))) (fun h27 => ?_) (fun h27 => ?_)
        · refine fd_u_blk 1 (C := fd_c150) (b := true) (L' := [fd_R 72, fd_I x, fd_I y]) (st' := [fd_I 0]) (M' := M) rfl rfl (j := 31) rfl (rfl) ?_
          refine fd_u_ret (C := fd_c150) (b := true) (r' := some (fd_I 0)) rfl rfl rfl (rfl) ?_ ?_
          · refine fd_ok0 (fun q => ?_)
            obtain ⟨q1, q2, q3, q4⟩ := (fd_cvC_zero hG x y).mp q
            first | exact absurd q1 h5 | exact absurd q2 h11 | exact absurd h17 q3 | exact absurd q4 h27
          · rfl
        · refine fd_u_blk 1 (C := fd_c150) (b := true) (L' := [fd_R 72, fd_I x, fd_I y]) (st' := [fd_I 1]) (M' := M) rfl rfl (j := 29) rfl (rfl) ?_
          refine fd_u_jmp (C := fd_c150) (j := 31) (st' := [fd_I 1]) rfl rfl (b := true) rfl rfl ?_
          refine fd_u_ret (C := fd_c150) (b := true) (r' := some (fd_I 1)) rfl rfl rfl (rfl) ?_ ?_
          · exact fd_ok1 ((fd_cvC_zero hG x y).mpr ⟨h5, Classical.not_not.mp h11, h17, Classical.not_not.mp h27⟩)
          · rfl

theorem fd_s_hides (M : fd_M) (hG : fd_CG M) (p : Int) (hp : 0 ≤ p ∧ p < 49) : fd_call 3 151 [fd_R 72, fd_I p] M (some (fd_I (fd_bi (M 4 p.toNat = 1 ∨ (M 4 p.toNat = 2 ∧ M 14 6 = 1) ∨ M 14 5 / 2 ^ p.toNat % 2 = 1)))) M := by
  refine fd_u_in (L := [fd_R 72, fd_I p, fd_R 1003]) rfl ?_
  obtain ⟨g0, g1, g2, g3, g4, g5⟩ := hG.1
  obtain ⟨s1, s2, s3, s4, s5, s6, s7, s8⟩ := hG.2
  have q5 := g5 p.toNat
  have e1 := fd_land1 (fd_ldiv_rng p.toNat s6)
  have e3 : -2147483648 ≤ fd_lcmp (fd_land (M 14 5 / 2 ^ p.toNat) 1) 0 ∧ fd_lcmp (fd_land (M 14 5 / 2 ^ p.toNat) 1) 0 < 2147483648 := fd_xrng _
  refine fd_u_blk 8 (C := fd_c151) (b := (fd_inb p 49 && true)) (L' := [fd_R 72, fd_I p, fd_I (M 4 (p).toNat)]) (st' := [fd_I 1, fd_I (M 4 (p).toNat)]) (M' := M) rfl rfl (j := 8) rfl (fd_bA (fd_bI (by omega) (by omega)) (rfl)) ?_
  refine fd_u_br (C := fd_c151) (t := 26) (e := 9) (st' := []) (c := (M 4 (p).toNat) = 1) (b := (fd_rng (M 4 (p).toNat) && fd_rng 1)) rfl rfl rfl (fd_bA (fd_bR (by omega) (by omega)) (fd_bR (by omega) (by omega))) (fun h8 => ?_) (fun h8 => ?_)
  · refine fd_u_blk 1 (C := fd_c151) (b := true) (L' := [fd_R 72, fd_I p, fd_I (M 4 (p).toNat)]) (st' := [fd_I 1]) (M' := M) rfl rfl (j := 27) rfl (rfl) ?_
    refine fd_u_jmp (C := fd_c151) (j := 29) (st' := [fd_I 1]) rfl rfl (b := true) rfl rfl ?_
    refine fd_u_ret (C := fd_c151) (b := true) (r' := some (fd_I 1)) rfl rfl rfl (rfl) ?_ ?_
    · refine fd_ok1 ?_
      omega
    · rfl
  · refine fd_u_blk 2 (C := fd_c151) (b := true) (L' := [fd_R 72, fd_I p, fd_I (M 4 (p).toNat)]) (st' := [fd_I 2, fd_I (M 4 (p).toNat)]) (M' := M) rfl rfl (j := 11) rfl (rfl) ?_
    refine fd_u_br (C := fd_c151) (t := 16) (e := 12) (st' := []) (c := ¬ (M 4 (p).toNat) = 2) (b := (fd_rng (M 4 (p).toNat) && fd_rng 2)) rfl rfl rfl (fd_bA (fd_bR (by omega) (by omega)) (fd_bR (by omega) (by omega))) (fun h11 => ?_) (fun h11 => ?_)
    · refine fd_u_blk 9 (C := fd_c151) (b := ((fd_inb (M 14 5) 9223372036854775808 && fd_inb p 64) && true)) (L' := [fd_R 72, fd_I p, fd_I (M 4 (p).toNat)]) (st' := [fd_I (fd_lcmp (fd_land ((M 14 5) / 2 ^ (p).toNat) 1) 0)]) (M' := M) rfl rfl (j := 25) rfl (fd_bA (fd_bA (fd_bI (by omega) (by omega)) (fd_bI (by omega) (by omega))) (rfl)) ?_
      refine fd_u_br (C := fd_c151) (t := 28) (e := 26) (st' := []) (c := (fd_lcmp (fd_land ((M 14 5) / 2 ^ (p).toNat) 1) 0) = 0) (b := (fd_rng (fd_lcmp (fd_land ((M 14 5) / 2 ^ (p).toNat) 1) 0))) rfl rfl rfl (fd_bR (by omega) (by omega)) (fun h25 => ?_) (fun h25 => ?_)
      · refine fd_u_blk 1 (C := fd_c151) (b := true) (L' := [fd_R 72, fd_I p, fd_I (M 4 (p).toNat)]) (st' := [fd_I 0]) (M' := M) rfl rfl (j := 29) rfl (rfl) ?_
        refine fd_u_ret (C := fd_c151) (b := true) (r' := some (fd_I 0)) rfl rfl rfl (rfl) ?_ ?_
        · refine fd_ok0 ?_
          omega
        · rfl
      · refine fd_u_blk 1 (C := fd_c151) (b := true) (L' := [fd_R 72, fd_I p, fd_I (M 4 (p).toNat)]) (st' := [fd_I 1]) (M' := M) rfl rfl (j := 27) rfl (rfl) ?_
        refine fd_u_jmp (C := fd_c151) (j := 29) (st' := [fd_I 1]) rfl rfl (b := true) rfl rfl ?_
        refine fd_u_ret (C := fd_c151) (b := true) (r' := some (fd_I 1)) rfl rfl rfl (rfl) ?_ ?_
        · refine fd_ok1 ?_
          omega
        · rfl
    · refine fd_u_blk 3 (C := fd_c151) (b := true) (L' := [fd_R 72, fd_I p, fd_I (M 4 (p).toNat)]) (st' := [fd_I (M 14 6)]) (M' := M) rfl rfl (j := 15) rfl (rfl) ?_
      refine fd_u_br (C := fd_c151) (t := 26) (e := 16) (st' := []) (c := ¬ (M 14 6) = 0) (b := (fd_rng (M 14 6))) rfl rfl rfl (fd_bR (by omega) (by omega)) (fun h15 => ?_) (fun h15 => ?_)
      · refine fd_u_blk 1 (C := fd_c151) (b := true) (L' := [fd_R 72, fd_I p, fd_I (M 4 (p).toNat)]) (st' := [fd_I 1]) (M' := M) rfl rfl (j := 27) rfl (rfl) ?_
        refine fd_u_jmp (C := fd_c151) (j := 29) (st' := [fd_I 1]) rfl rfl (b := true) rfl rfl ?_
        refine fd_u_ret (C := fd_c151) (b := true) (r' := some (fd_I 1)) rfl rfl rfl (rfl) ?_ ?_
        · refine fd_ok1 ?_
          omega
        · rfl
      · refine fd_u_blk 9 (C := fd_c151) (b := ((fd_inb (M 14 5) 9223372036854775808 && fd_inb p 64) && true)) (L' := [fd_R 72, fd_I p, fd_I (M 4 (p).toNat)]) (st' := [fd_I (fd_lcmp (fd_land ((M 14 5) / 2 ^ (p).toNat) 1) 0)]) (M' := M) rfl rfl (j := 25) rfl (fd_bA (fd_bA (fd_bI (by omega) (by omega)) (fd_bI (by omega) (by omega))) (rfl)) ?_
        refine fd_u_br (C := fd_c151) (t := 28) (e := 26) (st' := []) (c := (fd_lcmp (fd_land ((M 14 5) / 2 ^ (p).toNat) 1) 0) = 0) (b := (fd_rng (fd_lcmp (fd_land ((M 14 5) / 2 ^ (p).toNat) 1) 0))) rfl rfl rfl (fd_bR (by omega) (by omega)) (fun h25 => ?_) (fun h25 => ?_)
        · refine fd_u_blk 1 (C := fd_c151) (b := true) (L' := [fd_R 72, fd_I p, fd_I (M 4 (p).toNat)]) (st' := [fd_I 0]) (M' := M) rfl rfl (j := 29) rfl (rfl) ?_
          refine fd_u_ret (C := fd_c151) (b := true) (r' := some (fd_I 0)) rfl rfl rfl (rfl) ?_ ?_
          · refine fd_ok0 ?_
            omega
          · rfl
        · refine fd_u_blk 1 (C := fd_c151) (b := true) (L' := [fd_R 72, fd_I p, fd_I (M 4 (p).toNat)]) (st' := [fd_I 1]) (M' := M) rfl rfl (j := 27) rfl (rfl) ?_
          refine fd_u_jmp (C := fd_c151) (j := 29) (st' := [fd_I 1]) rfl rfl (b := true) rfl rfl ?_
          refine fd_u_ret (C := fd_c151) (b := true) (r' := some (fd_I 1)) rfl rfl rfl (rfl) ?_ ?_
          · refine fd_ok1 ?_
            omega
          · rfl

theorem fd_see_hit {cv : Int → Int → Int} {lf dx dy : Int} {n : Nat} {x y c : Int} (e : cv (x + dx) (y + dy) = c) (h : 10 ≤ c) : fd_see cv lf dx dy (n + 1) x y = c - 10 := by
  rw [fd_see, e, if_pos h]
theorem fd_see_end {cv : Int → Int → Int} {lf dx dy : Int} {n : Nat} {x y c : Int} (e : cv (x + dx) (y + dy) = c) (h : c = -1 ∨ c = 1 ∨ c = 3 ∨ (c = 2 ∧ lf = 1)) : fd_see cv lf dx dy (n + 1) x y = -9 := by
  rw [fd_see, e, if_neg (by omega), if_pos h]
theorem fd_see_on {cv : Int → Int → Int} {lf dx dy : Int} {n : Nat} {x y c : Int} (e : cv (x + dx) (y + dy) = c) (h : ¬ 10 ≤ c) (h2 : ¬ (c = -1 ∨ c = 1 ∨ c = 3 ∨ (c = 2 ∧ lf = 1))) : fd_see cv lf dx dy (n + 1) x y = fd_see cv lf dx dy n (x + dx) (y + dy) := by
  rw [fd_see, e, if_neg h, if_neg h2]
theorem fd_l_wouldSee (M : fd_M) (hG : fd_CG M) (d w : Int) (hw : 0 ≤ w ∧ w ≤ 3) : ∀ (n : Nat) (k : Nat) (x y : Int) (u : fd_V) (hk : (k : Int) + n = M 3 4) (hx : 0 ≤ x ∧ x ≤ 6) (hy : 0 ≤ y ∧ y ≤ 6), fd_run 4 152 14 [fd_R 72, fd_I d, fd_I w, fd_I x, fd_I y, fd_I ((k : Nat) : Int), u] [] M (some (fd_I (fd_nb (fd_see (fd_cvC M) (M 14 6) (fd_sx w) (fd_sy w) n x y)))) M := by
  obtain ⟨g0, g1, g2, g3, g4, g5⟩ := hG.1
  obtain ⟨s1, s2, s3, s4, s5, s6, s7, s8⟩ := hG.2
  have qx := fd_sx_rng w
  have qy := fd_sy_rng w
  intro n
  induction n with
  | zero =>
    intro k x y u hk hx hy
    refine fd_u_blk 4 (C := fd_c152) (b := true) (L' := [fd_R 72, fd_I d, fd_I w, fd_I x, fd_I y, fd_I ((k : Nat) : Int), u]) (st' := [fd_I (M 3 4), fd_I ((k : Nat) : Int)]) (M' := M) rfl rfl (j := 18) rfl (rfl) ?_
    refine fd_u_br (C := fd_c152) (t := 63) (e := 19) (st' := []) (c := (M 3 4) ≤ ((k : Nat) : Int)) (b := (fd_rng ((k : Nat) : Int) && fd_rng (M 3 4))) rfl rfl rfl (fd_bA (fd_bR (by omega) (by omega)) (fd_bR (by omega) (by omega))) (fun h18 => ?_) (fun h18 => absurd h18 (by omega))
    refine fd_u_blk 1 (C := fd_c152) (b := true) (L' := [fd_R 72, fd_I d, fd_I w, fd_I x, fd_I y, fd_I ((k : Nat) : Int), u]) (st' := [fd_I (-1)]) (M' := M) rfl rfl (j := 64) rfl (rfl) ?_
    refine fd_u_ret (C := fd_c152) (b := true) (r' := some (fd_I (-1))) rfl rfl rfl (rfl) ?_ ?_
    · rfl
    · rfl
  | succ n ih =>
    intro k x y u hk hx hy
    refine fd_u_blk 4 (C := fd_c152) (b := true) (L' := [fd_R 72, fd_I d, fd_I w, fd_I x, fd_I y, fd_I ((k : Nat) : Int), u]) (st' := [fd_I (M 3 4), fd_I ((k : Nat) : Int)]) (M' := M) rfl rfl (j := 18) rfl (rfl) ?_
    refine fd_u_br (C := fd_c152) (t := 63) (e := 19) (st' := []) (c := (M 3 4) ≤ ((k : Nat) : Int)) (b := (fd_rng ((k : Nat) : Int) && fd_rng (M 3 4))) rfl rfl rfl (fd_bA (fd_bR (by omega) (by omega)) (fd_bR (by omega) (by omega))) (fun h18 => absurd h18 (by omega)) (fun h18 => ?_)
    refine fd_u_blk 16 (C := fd_c152) (b := (fd_inb w 4 && (fd_inb w 4 && true))) (L' := [fd_R 72, fd_I d, fd_I w, fd_I (x + (fd_sx w)), fd_I (y + (fd_sy w)), fd_I ((k : Nat) : Int), u]) (st' := [fd_I (y + (fd_sy w)), fd_I (x + (fd_sx w)), fd_R 3]) (M' := M) rfl rfl (j := 35) rfl (fd_bA (fd_bI (by omega) (by omega)) (fd_bA (fd_bI (by omega) (by omega)) (rfl))) ?_
    refine fd_u_call (C := fd_c152) (d0 := 0) (mid := 123) (np := 3) (args := [fd_R 3, fd_I (x + (fd_sx w)), fd_I (y + (fd_sy w))]) (r1 := some (fd_I (fd_bi (0 ≤ (x + (fd_sx w)) ∧ (x + (fd_sx w)) < M 3 0 ∧ 0 ≤ (y + (fd_sy w)) ∧ (y + (fd_sy w)) < M 3 1)))) (M1 := M) (st' := [fd_I (fd_bi (0 ≤ (x + (fd_sx w)) ∧ (x + (fd_sx w)) < M 3 0 ∧ 0 ≤ (y + (fd_sy w)) ∧ (y + (fd_sy w)) < M 3 1))]) rfl rfl rfl rfl rfl rfl (rfl) (fd_s_hasCell M (x + (fd_sx w)) (y + (fd_sy w)) (by omega) (by omega) (by omega) (by omega)) rfl (by omega) ?_
    refine fd_u_br (C := fd_c152) (t := 39) (e := 37) (st' := []) (c := ¬ (fd_bi (0 ≤ (x + (fd_sx w)) ∧ (x + (fd_sx w)) < M 3 0 ∧ 0 ≤ (y + (fd_sy w)) ∧ (y + (fd_sy w)) < M 3 1)) = 0) (b := (fd_rng (fd_bi (0 ≤ (x + (fd_sx w)) ∧ (x + (fd_sx w)) < M 3 0 ∧ 0 ≤ (y + (fd_sy w)) ∧ (y + (fd_sy w)) < M 3 1)))) rfl rfl rfl (fd_biR) (fun h36 => ?_) (fun h36 => ?_)
    · have h36 := fd_biT.mp h36
      refine fd_u_blk 7 (C := fd_c152) (b := true) (L' := [fd_R 72, fd_I d, fd_I w, fd_I (x + (fd_sx w)), fd_I (y + (fd_sy w)), fd_I ((k : Nat) : Int), u]) (st' := [fd_I (M 3 2), fd_I (y + (fd_sy w)), fd_I (x + (fd_sx w)), fd_R 14]) (M' := M) rfl rfl (j := 46) rfl (rfl) ?_
      refine fd_u_call (C := fd_c152) (d0 := 1) (mid := 147) (np := 4) (args := [fd_R 14, fd_I (x + (fd_sx w)), fd_I (y + (fd_sy w)), fd_I (M 3 2)]) (r1 := some (fd_I (fd_dor M (x + (fd_sx w)) (y + (fd_sy w))))) (M1 := M) (st' := [fd_I (fd_dor M (x + (fd_sx w)) (y + (fd_sy w)))]) rfl rfl rfl rfl rfl rfl (rfl) (fd_s_doorOn M hG (x + (fd_sx w)) (y + (fd_sy w)) (by omega) (by omega)) rfl (by omega) ?_
      have qd := fd_dor_rng (M := M) (by omega) (x + (fd_sx w)) (y + (fd_sy w))
      refine fd_u_blk 3 (C := fd_c152) (b := true) (L' := [fd_R 72, fd_I d, fd_I w, fd_I (x + (fd_sx w)), fd_I (y + (fd_sy w)), fd_I ((k : Nat) : Int), fd_I (fd_dor M (x + (fd_sx w)) (y + (fd_sy w)))]) (st' := [fd_I (-1), fd_I (fd_dor M (x + (fd_sx w)) (y + (fd_sy w)))]) (M' := M) rfl rfl (j := 50) rfl (rfl) ?_
      refine fd_u_br (C := fd_c152) (t := 53) (e := 51) (st' := []) (c := (fd_dor M (x + (fd_sx w)) (y + (fd_sy w))) = (-1)) (b := (fd_rng (fd_dor M (x + (fd_sx w)) (y + (fd_sy w))) && fd_rng (-1))) rfl rfl rfl (fd_bA (fd_bR (by omega) (by omega)) (fd_bR (by omega) (by omega))) (fun h50 => ?_) (fun h50 => ?_)
      · refine fd_u_blk 3 (C := fd_c152) (b := true) (L' := [fd_R 72, fd_I d, fd_I w, fd_I (x + (fd_sx w)), fd_I (y + (fd_sy w)), fd_I ((k : Nat) : Int), fd_I (fd_dor M (x + (fd_sx w)) (y + (fd_sy w)))]) (st' := [fd_I (y + (fd_sy w)), fd_I (x + (fd_sx w)), fd_R 72]) (M' := M) rfl rfl (j := 56) rfl (rfl) ?_
        refine fd_u_call (C := fd_c152) (d0 := 0) (mid := 46) (np := 2) (args := [fd_I (x + (fd_sx w)), fd_I (y + (fd_sy w))]) (r1 := some (fd_I (((y + (fd_sy w)) * 7) + (x + (fd_sx w))))) (M1 := M) (st' := [fd_I (((y + (fd_sy w)) * 7) + (x + (fd_sx w))), fd_R 72]) rfl rfl rfl rfl rfl rfl (rfl) (fd_s_placeOf M (x + (fd_sx w)) (y + (fd_sy w))) rfl (by omega) ?_
        refine fd_u_call (C := fd_c152) (d0 := 3) (mid := 151) (np := 2) (args := [fd_R 72, fd_I (((y + (fd_sy w)) * 7) + (x + (fd_sx w)))]) (r1 := some (fd_I (fd_bi (M 4 (((y + (fd_sy w)) * 7) + (x + (fd_sx w))).toNat = 1 ∨ (M 4 (((y + (fd_sy w)) * 7) + (x + (fd_sx w))).toNat = 2 ∧ M 14 6 = 1) ∨ M 14 5 / 2 ^ (((y + (fd_sy w)) * 7) + (x + (fd_sx w))).toNat % 2 = 1)))) (M1 := M) (st' := [fd_I (fd_bi (M 4 (((y + (fd_sy w)) * 7) + (x + (fd_sx w))).toNat = 1 ∨ (M 4 (((y + (fd_sy w)) * 7) + (x + (fd_sx w))).toNat = 2 ∧ M 14 6 = 1) ∨ M 14 5 / 2 ^ (((y + (fd_sy w)) * 7) + (x + (fd_sx w))).toNat % 2 = 1))]) rfl rfl rfl rfl rfl rfl (rfl) (fd_s_hides M hG (((y + (fd_sy w)) * 7) + (x + (fd_sx w))) (by omega)) rfl (by omega) ?_
        refine fd_u_br (C := fd_c152) (t := 61) (e := 59) (st' := []) (c := (fd_bi (M 4 (((y + (fd_sy w)) * 7) + (x + (fd_sx w))).toNat = 1 ∨ (M 4 (((y + (fd_sy w)) * 7) + (x + (fd_sx w))).toNat = 2 ∧ M 14 6 = 1) ∨ M 14 5 / 2 ^ (((y + (fd_sy w)) * 7) + (x + (fd_sx w))).toNat % 2 = 1)) = 0) (b := (fd_rng (fd_bi (M 4 (((y + (fd_sy w)) * 7) + (x + (fd_sx w))).toNat = 1 ∨ (M 4 (((y + (fd_sy w)) * 7) + (x + (fd_sx w))).toNat = 2 ∧ M 14 6 = 1) ∨ M 14 5 / 2 ^ (((y + (fd_sy w)) * 7) + (x + (fd_sx w))).toNat % 2 = 1)))) rfl rfl rfl (fd_biR) (fun h58 => ?_) (fun h58 => ?_)
        · have h58 := fd_biF.mp h58
          refine fd_u_blk 1 (C := fd_c152) (b := true) (L' := [fd_R 72, fd_I d, fd_I w, fd_I (x + (fd_sx w)), fd_I (y + (fd_sy w)), fd_I (((k + 1) : Nat) : Int), fd_I (fd_dor M (x + (fd_sx w)) (y + (fd_sy w)))]) (st' := []) (M' := M) rfl rfl (j := 62) rfl (rfl) ?_
          refine fd_u_jmp (C := fd_c152) (j := 14) (st' := []) rfl rfl (b := true) rfl rfl ?_
          have q5 := g5 ((y + (fd_sy w)) * 7 + (x + (fd_sx w))).toNat
          rw [fd_see_on (c := if M 14 5 / 2 ^ ((y + (fd_sy w)) * 7 + (x + (fd_sx w))).toNat % 2 = 1 then 3 else M 4 ((y + (fd_sy w)) * 7 + (x + (fd_sx w))).toNat) (by unfold fd_cvC; rw [if_pos h36, if_pos h50]) (by split <;> omega) (by split <;> omega)]
          exact ih (k + 1) _ _ _ (by omega) (by omega) (by omega)
        · have h58 := fd_biT.mp h58
          refine fd_u_blk 1 (C := fd_c152) (b := true) (L' := [fd_R 72, fd_I d, fd_I w, fd_I (x + (fd_sx w)), fd_I (y + (fd_sy w)), fd_I ((k : Nat) : Int), fd_I (fd_dor M (x + (fd_sx w)) (y + (fd_sy w)))]) (st' := [fd_I (-1)]) (M' := M) rfl rfl (j := 60) rfl (rfl) ?_
          refine fd_u_ret (C := fd_c152) (b := true) (r' := some (fd_I (-1))) rfl rfl rfl (rfl) ?_ ?_
          · first
            | rw [fd_see_end (c := -1) (by unfold fd_cvC; rw [if_neg h36]) (by omega)]; rfl
            | rw [fd_see_end (c := if M 14 5 / 2 ^ ((y + (fd_sy w)) * 7 + (x + (fd_sx w))).toNat % 2 = 1 then 3 else M 4 ((y + (fd_sy w)) * 7 + (x + (fd_sx w))).toNat) (by unfold fd_cvC; rw [if_pos h36, if_pos h50]) (by split <;> omega)]; rfl
          · rfl
      · refine fd_u_blk 1 (C := fd_c152) (b := true) (L' := [fd_R 72, fd_I d, fd_I w, fd_I (x + (fd_sx w)), fd_I (y + (fd_sy w)), fd_I ((k : Nat) : Int), fd_I (fd_dor M (x + (fd_sx w)) (y + (fd_sy w)))]) (st' := [fd_I (fd_dor M (x + (fd_sx w)) (y + (fd_sy w)))]) (M' := M) rfl rfl (j := 52) rfl (rfl) ?_
        refine fd_u_ret (C := fd_c152) (b := true) (r' := some (fd_I (fd_dor M (x + (fd_sx w)) (y + (fd_sy w))))) rfl rfl rfl (rfl) ?_ ?_
        · rw [fd_see_hit (c := 10 + fd_dor M (x + (fd_sx w)) (y + (fd_sy w))) (by unfold fd_cvC; rw [if_pos h36, if_neg h50]) (by omega)]
          rw [show 10 + fd_dor M (x + (fd_sx w)) (y + (fd_sy w)) - 10 = fd_dor M (x + (fd_sx w)) (y + (fd_sy w)) by omega, fd_nb, if_neg (by omega)]
        · rfl
    · have h36 := fd_biF2  h36
      refine fd_u_blk 1 (C := fd_c152) (b := true) (L' := [fd_R 72, fd_I d, fd_I w, fd_I (x + (fd_sx w)), fd_I (y + (fd_sy w)), fd_I ((k : Nat) : Int), u]) (st' := [fd_I (-1)]) (M' := M) rfl rfl (j := 38) rfl (rfl) ?_
      refine fd_u_ret (C := fd_c152) (b := true) (r' := some (fd_I (-1))) rfl rfl rfl (rfl) ?_ ?_
      · first
        | rw [fd_see_end (c := -1) (by unfold fd_cvC; rw [if_neg h36]) (by omega)]; rfl
        | rw [fd_see_end (c := if M 14 5 / 2 ^ ((y + (fd_sy w)) * 7 + (x + (fd_sx w))).toNat % 2 = 1 then 3 else M 4 ((y + (fd_sy w)) * 7 + (x + (fd_sx w))).toNat) (by unfold fd_cvC; rw [if_pos h36, if_pos h50]) (by split <;> omega)]; rfl
      · rfl

theorem fd_s_wouldSee (M : fd_M) (hG : fd_CG M) (d : Nat) (hd : d < 6) (w : Int) (hw : 0 ≤ w ∧ w ≤ 3) : fd_call 4 152 [fd_R 72, fd_I ((d : Nat) : Int), fd_I w] M (some (fd_I (fd_nb (fd_wsee M d w)))) M := by
  refine fd_u_in (L := [fd_R 72, fd_I ((d : Nat) : Int), fd_I w, fd_R 1003, fd_R 1003, fd_R 1003, fd_R 1003]) rfl ?_
  obtain ⟨g0, g1, g2, g3, g4, g5⟩ := hG.1
  obtain ⟨s1, s2, s3, s4, s5, s6, s7, s8⟩ := hG.2
  have q1 := s1 d
  have q2 := s2 d
  simp only [Nat.reduceAdd] at q1 q2
  refine fd_u_blk 14 (C := fd_c152) (b := (fd_inb ((d : Nat) : Int) 6 && (fd_inb ((d : Nat) : Int) 6 && true))) (L' := [fd_R 72, fd_I ((d : Nat) : Int), fd_I w, fd_I (M 15 d), fd_I (M 16 d), fd_I 0, fd_R 1003]) (st' := []) (M' := M) rfl rfl (j := 14) rfl (fd_bA (fd_bI (by omega) (by omega)) (fd_bA (fd_bI (by omega) (by omega)) (rfl))) ?_
  exact fd_l_wouldSee M hG _ w hw (M 3 4).toNat 0 _ _ _ (by omega) q1 q2


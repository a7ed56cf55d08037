/-! the reference: its views and small questions -/
theorem fd_okc {p q : Prop} [Decidable p] [Decidable q] (h : p ↔ q) : some (fd_I (fd_bi p)) = some (fd_I (fd_bi q)) := by
  by_cases hp : p
  · rw [fd_bi1 hp, fd_bi1 (h.mp hp)]
  · rw [fd_bi0 hp, fd_bi0 (fun z => hp (h.mpr z))]
theorem fd_orZ : ∀ a : Fin 64, fd_or (a.val : Int) 0 = (a.val : Int) := by decide +kernel
theorem fd_or0 {a : Int} (h : 0 ≤ a ∧ a < 64) : fd_or a 0 = a := by
  obtain ⟨n, rfl⟩ := Int.eq_ofNat_of_zero_le h.1
  exact fd_orZ ⟨n, by omega⟩
theorem fd_iA {c n : Nat} (h : fd_SH c = (20, n)) {M : fd_M} {i : Int} (h1 : 0 ≤ i) (h2 : i < n) : fd_isA true M c 20 i = true := by
  unfold fd_isA fd_al
  rw [h]
  simp [fd_inb_iff, h1, h2]
theorem fd_sh201 : fd_SH 201 = (20, 2) := by decide +kernel
theorem fd_sh202 : fd_SH 202 = (20, 2) := by decide +kernel
theorem fd_sh203 : fd_SH 203 = (20, 98) := by decide +kernel
theorem fd_sh204 : fd_SH 204 = (20, 2) := by decide +kernel
theorem fd_sh205 : fd_SH 205 = (20, 6) := by decide +kernel
theorem fd_sh206 : fd_SH 206 = (20, 6) := by decide +kernel
theorem fd_sh207 : fd_SH 207 = (20, 4) := by decide +kernel
theorem fd_sh208 : fd_SH 208 = (20, 927) := by decide +kernel
theorem fd_sh210 : fd_SH 210 = (20, 6) := by decide +kernel
theorem fd_sh211 : fd_SH 211 = (20, 6) := by decide +kernel
theorem fd_sh212 : fd_SH 212 = (20, 6) := by decide +kernel
def fd_dp (f : Nat → Int) (p : Int) : Nat → Nat → Int
  | 0, _ => -9
  | n + 1, k => if f k = p then (k : Int) else fd_dp f p n (k + 1)
theorem fd_dp_rng (f : Nat → Int) (p : Int) : ∀ (n k : Nat), fd_dp f p n k = -9 ∨ ((k : Int) ≤ fd_dp f p n k ∧ fd_dp f p n k < k + n)
  | 0, k => Or.inl rfl
  | n + 1, k => by
    rw [fd_dp]
    split
    · right; omega
    · rcases fd_dp_rng f p n (k + 1) with h | h
      · exact Or.inl h
      · right; omega
def fd_RP (M : fd_M) : Prop := (0 ≤ M 201 0 ∧ M 201 0 ≤ 7) ∧ (0 ≤ M 202 0 ∧ M 202 0 ≤ 7) ∧ (0 ≤ M 204 0 ∧ M 204 0 ≤ 6) ∧ (1 ≤ M 207 0 ∧ M 207 0 ≤ 9) ∧ (1 ≤ M 207 1 ∧ M 207 1 ≤ 7) ∧ (∀ x y : Nat, (x : Int) < M 201 0 → (y : Int) < M 202 0 → 0 ≤ M 203 (7 * y + x) ∧ M 203 (7 * y + x) ≤ 2)
def fd_RS (M : fd_M) : Prop := (∀ d : Nat, (d : Int) < M 204 0 → (0 ≤ M 208 d ∧ M 208 d ≤ 48) ∧ (0 ≤ M 208 (6 + d) ∧ M 208 (6 + d) ≤ 3) ∧ (0 ≤ M 208 (15 + d) ∧ M 208 (15 + d) ≤ 9999)) ∧ (∀ y : Nat, y < 7 → 0 ≤ M 208 (21 + y) ∧ M 208 (21 + y) < 128) ∧ (0 ≤ M 208 12 ∧ M 208 12 < 64) ∧ (0 ≤ M 208 13 ∧ M 208 13 ≤ 1) ∧ (0 ≤ M 208 14 ∧ M 208 14 ≤ 1) ∧ (0 ≤ M 208 28 ∧ M 208 28 ≤ 10)
def fd_RG (M : fd_M) : Prop := fd_RP M ∧ fd_RS M
def fd_RW (M : fd_M) : Prop := (∀ d : Nat, (d : Int) < M 204 0 → 0 ≤ M 210 d ∧ M 210 d ≤ 3) ∧ (0 ≤ M 199 19 ∧ M 199 19 < 64) ∧ (0 ≤ M 199 20 ∧ M 199 20 ≤ 1)
def fd_dpR (M : fd_M) (x y : Nat) : Int := fd_dp (M 208) (7 * (y : Int) + (x : Int)) (M 204 0).toNat 0
def fd_cvR (M : fd_M) (x y : Int) : Int := if 0 ≤ x ∧ x < M 201 0 ∧ 0 ≤ y ∧ y < M 202 0 then (if fd_dpR M x.toNat y.toNat = -9 then (if M 208 (21 + y.toNat) / 2 ^ x.toNat % 2 = 1 then 3 else M 203 (7 * y.toNat + x.toNat)) else 10 + fd_dpR M x.toNat y.toNat) else -1
theorem fd_dpR_rng {M : fd_M} (h : 0 ≤ M 204 0) (x y : Nat) : fd_dpR M x y = -9 ∨ (0 ≤ fd_dpR M x y ∧ fd_dpR M x y < M 204 0) := by
  rcases fd_dp_rng (M 208) (7 * (y : Int) + (x : Int)) (M 204 0).toNat 0 with q | q
  · exact Or.inl q
  · right
    unfold fd_dpR
    omega
theorem fd_cvR_rng {M : fd_M} (hP : fd_RP M) (x y : Int) : -1 ≤ fd_cvR M x y ∧ (fd_cvR M x y ≤ 3 ∨ (10 ≤ fd_cvR M x y ∧ fd_cvR M x y < 10 + M 204 0)) := by
  obtain ⟨g0, g1, g2, g3, g4, g5⟩ := hP
  unfold fd_cvR
  have q := fd_dpR_rng g2.1 x.toNat y.toNat
  split
  · have q5 := g5 x.toNat y.toNat (by omega) (by omega)
    split
    · split <;> omega
    · omega
  · omega
def fd_wR (M : fd_M) (d : Nat) (w : Int) : Int := fd_see (fd_cvR M) (M 208 13) (fd_sx w) (fd_sy w) (M 207 1).toNat (M 208 d % 7) (M 208 d / 7)
def fd_sR (M : fd_M) (d : Nat) : Int := if M 199 20 = 1 ∨ ¬ M 199 19 / 2 ^ d % 2 = 1 then -9 else fd_wR M d (M 210 d)
def fd_dR (M : fd_M) (d : Nat) : Int := fd_due (M 210) (M 207 0) (fd_sR M d) d
theorem fd_wR_rng {M : fd_M} (hP : fd_RP M) (d : Nat) (w : Int) : fd_wR M d w = -9 ∨ (0 ≤ fd_wR M d w ∧ fd_wR M d w < M 204 0) := fd_see_rng (fd_cvR_rng hP) _ _ _ _ _ _
theorem fd_sR_rng {M : fd_M} (hP : fd_RP M) (d : Nat) : fd_sR M d = -9 ∨ (0 ≤ fd_sR M d ∧ fd_sR M d < M 204 0) := by
  unfold fd_sR
  split
  · exact Or.inl rfl
  · exact fd_wR_rng hP _ _
theorem fd_r_in (M : fd_M) (v lo hi : Int) (hv : -2147483648 ≤ v ∧ v < 2147483648) (h1 : -2147483648 ≤ lo ∧ lo < 2147483648) (h2 : -2147483648 ≤ hi ∧ hi < 2147483648) : fd_call 0 52 [fd_I v, fd_I lo, fd_I hi] M (some (fd_I (fd_bi (lo ≤ v ∧ v ≤ hi)))) M := by
  refine fd_u_in (L := [fd_I v, fd_I lo, fd_I hi]) rfl ?_
  refine fd_u_blk 2 (C := fd_c52) (b := true) (L' := [fd_I v, fd_I lo, fd_I hi]) (st' := [fd_I lo, fd_I v]) (M' := M) rfl rfl (j := 2) rfl (rfl) ?_
  refine fd_u_br (C := fd_c52) (t := 8) (e := 3) (st' := []) (c := v < lo) (b := (fd_rng v && fd_rng lo)) rfl rfl rfl (fd_bA (fd_bR (by omega) (by omega)) (fd_bR (by omega) (by omega))) (fun h2 => ?_) (fun h2 => ?_)
  · refine fd_u_blk 1 (C := fd_c52) (b := true) (L' := [fd_I v, fd_I lo, fd_I hi]) (st' := [fd_I 0]) (M' := M) rfl rfl (j := 9) rfl (rfl) ?_
    refine fd_u_ret (C := fd_c52) (b := true) (r' := some (fd_I 0)) rfl rfl rfl (rfl) ?_ ?_
    · exact fd_ok0 (by omega)
    · rfl
  · refine fd_u_blk 2 (C := fd_c52) (b := true) (L' := [fd_I v, fd_I lo, fd_I hi]) (st' := [fd_I hi, fd_I v]) (M' := M) rfl rfl (j := 5) rfl (rfl) ?_
    refine fd_u_br (C := fd_c52) (t := 8) (e := 6) (st' := []) (c := hi < v) (b := (fd_rng v && fd_rng hi)) rfl rfl rfl (fd_bA (fd_bR (by omega) (by omega)) (fd_bR (by omega) (by omega))) (fun h5 => ?_) (fun h5 => ?_)
    · refine fd_u_blk 1 (C := fd_c52) (b := true) (L' := [fd_I v, fd_I lo, fd_I hi]) (st' := [fd_I 0]) (M' := M) rfl rfl (j := 9) rfl (rfl) ?_
      refine fd_u_ret (C := fd_c52) (b := true) (r' := some (fd_I 0)) rfl rfl rfl (rfl) ?_ ?_
      · exact fd_ok0 (by omega)
      · rfl
    · refine fd_u_blk 1 (C := fd_c52) (b := true) (L' := [fd_I v, fd_I lo, fd_I hi]) (st' := [fd_I 1]) (M' := M) rfl rfl (j := 7) rfl (rfl) ?_
      refine fd_u_jmp (C := fd_c52) (j := 9) (st' := [fd_I 1]) rfl rfl (b := true) rfl rfl ?_
      refine fd_u_ret (C := fd_c52) (b := true) (r' := some (fd_I 1)) rfl rfl rfl (rfl) ?_ ?_
      · exact fd_ok1 (by omega)
      · rfl

theorem fd_r_isDoor (M : fd_M) (hP : fd_RP M) (d : Int) (hd : -2147483648 ≤ d ∧ d < 2147483648) : fd_call 1 66 [fd_R 199, fd_I d] M (some (fd_I (fd_bi (0 ≤ d ∧ d < M 204 0)))) M := by
  refine fd_u_in (L := [fd_R 199, fd_I d]) rfl ?_
  obtain ⟨g0, g1, g2, g3, g4, g5⟩ := id hP
  refine fd_u_blk 8 (C := fd_c66) (b := true) (L' := [fd_R 199, fd_I d]) (st' := [fd_I ((M 204 0) - 1), fd_I 0, fd_I d]) (M' := M) rfl rfl (j := 8) rfl (rfl) ?_
  refine fd_u_call (C := fd_c66) (d0 := 0) (mid := 52) (np := 3) (args := [fd_I d, fd_I 0, fd_I ((M 204 0) - 1)]) (r1 := some (fd_I (fd_bi (0 ≤ d ∧ d ≤ ((M 204 0) - 1))))) (M1 := M) (st' := [fd_I (fd_bi (0 ≤ d ∧ d ≤ ((M 204 0) - 1)))]) rfl rfl rfl rfl rfl rfl (rfl) (fd_r_in M d 0 ((M 204 0) - 1) (by omega) (by omega) (by omega)) rfl (by omega) ?_
  refine fd_u_ret (C := fd_c66) (b := (fd_inb (fd_bi (0 ≤ d ∧ d ≤ ((M 204 0) - 1))) 2)) (r' := some (fd_I (fd_bi (0 ≤ d ∧ d ≤ ((M 204 0) - 1))))) rfl rfl rfl (fd_biI) ?_ ?_
  · exact fd_okc (by omega)
  · rfl

theorem fd_r_isCell (M : fd_M) (hP : fd_RP M) (x y : Int) (hx : -2147483648 ≤ x ∧ x < 2147483648) (hy : -2147483648 ≤ y ∧ y < 2147483648) : fd_call 1 67 [fd_R 199, fd_I x, fd_I y] M (some (fd_I (fd_bi (0 ≤ x ∧ x < M 201 0 ∧ 0 ≤ y ∧ y < M 202 0)))) M := by
  refine fd_u_in (L := [fd_R 199, fd_I x, fd_I y]) rfl ?_
  obtain ⟨g0, g1, g2, g3, g4, g5⟩ := id hP
  refine fd_u_blk 8 (C := fd_c67) (b := true) (L' := [fd_R 199, fd_I x, fd_I y]) (st' := [fd_I ((M 201 0) - 1), fd_I 0, fd_I x]) (M' := M) rfl rfl (j := 8) rfl (rfl) ?_
  refine fd_u_call (C := fd_c67) (d0 := 0) (mid := 52) (np := 3) (args := [fd_I x, fd_I 0, fd_I ((M 201 0) - 1)]) (r1 := some (fd_I (fd_bi (0 ≤ x ∧ x ≤ ((M 201 0) - 1))))) (M1 := M) (st' := [fd_I (fd_bi (0 ≤ x ∧ x ≤ ((M 201 0) - 1)))]) rfl rfl rfl rfl rfl rfl (rfl) (fd_r_in M x 0 ((M 201 0) - 1) (by omega) (by omega) (by omega)) rfl (by omega) ?_
  refine fd_u_br (C := fd_c67) (t := 22) (e := 10) (st' := []) (c := (fd_bi (0 ≤ x ∧ x ≤ ((M 201 0) - 1))) = 0) (b := (fd_rng (fd_bi (0 ≤ x ∧ x ≤ ((M 201 0) - 1))))) rfl rfl rfl (fd_biR) (fun h9 => ?_) (fun h9 => ?_)
  · have h9 := fd_biF.mp h9
    refine fd_u_blk 1 (C := fd_c67) (b := true) (L' := [fd_R 199, fd_I x, fd_I y]) (st' := [fd_I 0]) (M' := M) rfl rfl (j := 23) rfl (rfl) ?_
    refine fd_u_ret (C := fd_c67) (b := true) (r' := some (fd_I 0)) rfl rfl rfl (rfl) ?_ ?_
    · exact fd_ok0 (by omega)
    · rfl
  · have h9 := fd_biT.mp h9
    refine fd_u_blk 8 (C := fd_c67) (b := true) (L' := [fd_R 199, fd_I x, fd_I y]) (st' := [fd_I ((M 202 0) - 1), fd_I 0, fd_I y]) (M' := M) rfl rfl (j := 18) rfl (rfl) ?_
    refine fd_u_call (C := fd_c67) (d0 := 0) (mid := 52) (np := 3) (args := [fd_I y, fd_I 0, fd_I ((M 202 0) - 1)]) (r1 := some (fd_I (fd_bi (0 ≤ y ∧ y ≤ ((M 202 0) - 1))))) (M1 := M) (st' := [fd_I (fd_bi (0 ≤ y ∧ y ≤ ((M 202 0) - 1)))]) rfl rfl rfl rfl rfl rfl (rfl) (fd_r_in M y 0 ((M 202 0) - 1) (by omega) (by omega) (by omega)) rfl (by omega) ?_
    refine fd_u_br (C := fd_c67) (t := 22) (e := 20) (st' := []) (c := (fd_bi (0 ≤ y ∧ y ≤ ((M 202 0) - 1))) = 0) (b := (fd_rng (fd_bi (0 ≤ y ∧ y ≤ ((M 202 0) - 1))))) rfl rfl rfl (fd_biR) (fun h19 => ?_) (fun h19 => ?_)
    · have h19 := fd_biF.mp h19
      refine fd_u_blk 1 (C := fd_c67) (b := true) (L' := [fd_R 199, fd_I x, fd_I y]) (st' := [fd_I 0]) (M' := M) rfl rfl (j := 23) rfl (rfl) ?_
      refine fd_u_ret (C := fd_c67) (b := true) (r' := some (fd_I 0)) rfl rfl rfl (rfl) ?_ ?_
      · exact fd_ok0 (by omega)
      · rfl
    · have h19 := fd_biT.mp h19
      refine fd_u_blk 1 (C := fd_c67) (b := true) (L' := [fd_R 199, fd_I x, fd_I y]) (st' := [fd_I 1]) (M' := M) rfl rfl (j := 21) rfl (rfl) ?_
      refine fd_u_jmp (C := fd_c67) (j := 23) (st' := [fd_I 1]) rfl rfl (b := true) rfl rfl ?_
      refine fd_u_ret (C := fd_c67) (b := true) (r' := some (fd_I 1)) rfl rfl rfl (rfl) ?_ ?_
      · exact fd_ok1 (by omega)
      · rfl

theorem fd_r_hasCart (M : fd_M) (hS : fd_RS M) (x y : Nat) (hx : x < 7) (hy : y < 7) : fd_call 0 68 [fd_R 199, fd_I ((x : Nat) : Int), fd_I ((y : Nat) : Int)] M (some (fd_I (fd_bi (M 208 (21 + y) / 2 ^ x % 2 = 1)))) M := by
  refine fd_u_in (L := [fd_R 199, fd_I ((x : Nat) : Int), fd_I ((y : Nat) : Int)]) rfl ?_
  have q := hS.2.1 y hy
  have e1 := fd_and1 (fd_div_rng (a := M 208 (21 + y)) x (by omega))
  have hB : ∀ (q0 : Int) (q1 : Int), fd_bl 6 (List.drop 0 fd_c68) [fd_R 199, fd_I q0, fd_I q1] [] M = some ((fd_isA true M 208 20 (21 + q1) && true), [fd_R 199, fd_I q0, fd_I q1], [fd_I (M 208 (21 + q1).toNat)], M) := fun _ _ => rfl
  refine fd_u_blk 6 (C := fd_c68) (b := (fd_isA true M 208 20 (21 + ((y : Nat) : Int)) && true)) (L' := [fd_R 199, fd_I ((x : Nat) : Int), fd_I ((y : Nat) : Int)]) (st' := [fd_I (M 208 (21 + ((y : Nat) : Int)).toNat)]) (M' := M) rfl (hB ((x : Nat) : Int) ((y : Nat) : Int)) (j := 6) rfl (fd_bA (fd_iA fd_sh208 (by omega) (by omega)) (rfl)) ?_
  clear hB
  rw [show (21 + ((y : Nat) : Int)).toNat = 21 + y by omega]
  have hB : ∀ (q0 : Int) (q1 : Int), fd_bl 5 (List.drop 6 fd_c68) [fd_R 199, fd_I q0, fd_I q1] [fd_I (M 208 (21 + y))] M = some (((fd_inb (M 208 (21 + y)) 2147483648 && fd_inb q0 32) && true), [fd_R 199, fd_I q0, fd_I q1], [fd_I 1, fd_I (fd_and ((M 208 (21 + y)) / 2 ^ (q0).toNat) 1)], M) := fun _ _ => rfl
  refine fd_u_blk 5 (C := fd_c68) (b := ((fd_inb (M 208 (21 + y)) 2147483648 && fd_inb ((x : Nat) : Int) 32) && true)) (L' := [fd_R 199, fd_I ((x : Nat) : Int), fd_I ((y : Nat) : Int)]) (st' := [fd_I 1, fd_I (fd_and ((M 208 (21 + y)) / 2 ^ x) 1)]) (M' := M) rfl (hB ((x : Nat) : Int) ((y : Nat) : Int)) (j := 11) rfl (fd_bA (fd_bA (fd_bI (by omega) (by omega)) (fd_bI (by omega) (by omega))) (rfl)) ?_
  clear hB
  refine fd_u_br (C := fd_c68) (t := 14) (e := 12) (st' := []) (c := ¬ (fd_and ((M 208 (21 + y)) / 2 ^ x) 1) = 1) (b := (fd_rng (fd_and ((M 208 (21 + y)) / 2 ^ x) 1) && fd_rng 1)) rfl rfl rfl (fd_bA (fd_bR (by omega) (by omega)) (fd_bR (by omega) (by omega))) (fun h11 => ?_) (fun h11 => ?_)
  · have hB : ∀ (q0 : Int) (q1 : Int), fd_bl 1 (List.drop 14 fd_c68) [fd_R 199, fd_I q0, fd_I q1] [] M = some (true, [fd_R 199, fd_I q0, fd_I q1], [fd_I 0], M) := fun _ _ => rfl
    refine fd_u_blk 1 (C := fd_c68) (b := true) (L' := [fd_R 199, fd_I ((x : Nat) : Int), fd_I ((y : Nat) : Int)]) (st' := [fd_I 0]) (M' := M) rfl (hB ((x : Nat) : Int) ((y : Nat) : Int)) (j := 15) rfl (rfl) ?_
    clear hB
    refine fd_u_ret (C := fd_c68) (b := true) (r' := some (fd_I 0)) rfl rfl rfl (rfl) ?_ ?_
    · exact fd_ok0 (by omega)
    · rfl
  · have hB : ∀ (q0 : Int) (q1 : Int), fd_bl 1 (List.drop 12 fd_c68) [fd_R 199, fd_I q0, fd_I q1] [] M = some (true, [fd_R 199, fd_I q0, fd_I q1], [fd_I 1], M) := fun _ _ => rfl
    refine fd_u_blk 1 (C := fd_c68) (b := true) (L' := [fd_R 199, fd_I ((x : Nat) : Int), fd_I ((y : Nat) : Int)]) (st' := [fd_I 1]) (M' := M) rfl (hB ((x : Nat) : Int) ((y : Nat) : Int)) (j := 13) rfl (rfl) ?_
    clear hB
    refine fd_u_jmp (C := fd_c68) (j := 15) (st' := [fd_I 1]) rfl rfl (b := true) rfl rfl ?_
    refine fd_u_ret (C := fd_c68) (b := true) (r' := some (fd_I 1)) rfl rfl rfl (rfl) ?_ ?_
    · exact fd_ok1 (by omega)
    · rfl

theorem fd_l_doorAt (M : fd_M) (hP : fd_RP M) (hS : fd_RS M) (x y : Nat) (hx : x < 7) (hy : y < 7) : ∀ (n : Nat) (k : Nat) (hk : (k : Int) + n = M 204 0), fd_run 0 69 2 [fd_R 199, fd_I ((x : Nat) : Int), fd_I ((y : Nat) : Int), fd_I ((k : Nat) : Int)] [] M (some (fd_I (fd_dp (M 208) (7 * (y : Int) + (x : Int)) n k))) M := by
  obtain ⟨g0, g1, g2, g3, g4, g5⟩ := id hP
  intro n
  induction n with
  | zero =>
    intro k hk
    have hB : ∀ (q0 : Int) (q1 : Int) (q2 : Int), fd_bl 5 (List.drop 2 fd_c69) [fd_R 199, fd_I q0, fd_I q1, fd_I q2] [] M = some (true, [fd_R 199, fd_I q0, fd_I q1, fd_I q2], [fd_I (M 204 0), fd_I q2], M) := fun _ _ _ => rfl
    refine fd_u_blk 5 (C := fd_c69) (b := true) (L' := [fd_R 199, fd_I ((x : Nat) : Int), fd_I ((y : Nat) : Int), fd_I ((k : Nat) : Int)]) (st' := [fd_I (M 204 0), fd_I ((k : Nat) : Int)]) (M' := M) rfl (hB ((x : Nat) : Int) ((y : Nat) : Int) ((k : Nat) : Int)) (j := 7) rfl (rfl) ?_
    clear hB
    refine fd_u_br (C := fd_c69) (t := 24) (e := 8) (st' := []) (c := (M 204 0) ≤ ((k : Nat) : Int)) (b := (fd_rng ((k : Nat) : Int) && fd_rng (M 204 0))) rfl rfl rfl (fd_bA (fd_bR (by omega) (by omega)) (fd_bR (by omega) (by omega))) (fun h7 => ?_) (fun h7 => absurd h7 (by omega))
    have hB : ∀ (q0 : Int) (q1 : Int) (q2 : Int), fd_bl 1 (List.drop 24 fd_c69) [fd_R 199, fd_I q0, fd_I q1, fd_I q2] [] M = some (true, [fd_R 199, fd_I q0, fd_I q1, fd_I q2], [fd_I (-9)], M) := fun _ _ _ => rfl
    refine fd_u_blk 1 (C := fd_c69) (b := true) (L' := [fd_R 199, fd_I ((x : Nat) : Int), fd_I ((y : Nat) : Int), fd_I ((k : Nat) : Int)]) (st' := [fd_I (-9)]) (M' := M) rfl (hB ((x : Nat) : Int) ((y : Nat) : Int) ((k : Nat) : Int)) (j := 25) rfl (rfl) ?_
    clear hB
    refine fd_u_ret (C := fd_c69) (b := true) (r' := some (fd_I (-9))) rfl rfl rfl (rfl) ?_ ?_
    · rfl
    · rfl
  | succ n ih =>
    intro k hk
    have q := (hS.1 k (by omega)).1
    have hB : ∀ (q0 : Int) (q1 : Int) (q2 : Int), fd_bl 5 (List.drop 2 fd_c69) [fd_R 199, fd_I q0, fd_I q1, fd_I q2] [] M = some (true, [fd_R 199, fd_I q0, fd_I q1, fd_I q2], [fd_I (M 204 0), fd_I q2], M) := fun _ _ _ => rfl
    refine fd_u_blk 5 (C := fd_c69) (b := true) (L' := [fd_R 199, fd_I ((x : Nat) : Int), fd_I ((y : Nat) : Int), fd_I ((k : Nat) : Int)]) (st' := [fd_I (M 204 0), fd_I ((k : Nat) : Int)]) (M' := M) rfl (hB ((x : Nat) : Int) ((y : Nat) : Int) ((k : Nat) : Int)) (j := 7) rfl (rfl) ?_
    clear hB
    refine fd_u_br (C := fd_c69) (t := 24) (e := 8) (st' := []) (c := (M 204 0) ≤ ((k : Nat) : Int)) (b := (fd_rng ((k : Nat) : Int) && fd_rng (M 204 0))) rfl rfl rfl (fd_bA (fd_bR (by omega) (by omega)) (fd_bR (by omega) (by omega))) (fun h7 => absurd h7 (by omega)) (fun h7 => ?_)
    have hB : ∀ (q0 : Int) (q1 : Int) (q2 : Int), fd_bl 6 (List.drop 8 fd_c69) [fd_R 199, fd_I q0, fd_I q1, fd_I q2] [] M = some ((fd_isA true M 208 20 (0 + q2) && true), [fd_R 199, fd_I q0, fd_I q1, fd_I q2], [fd_I (M 208 (0 + q2).toNat)], M) := fun _ _ _ => rfl
    refine fd_u_blk 6 (C := fd_c69) (b := (fd_isA true M 208 20 (0 + ((k : Nat) : Int)) && true)) (L' := [fd_R 199, fd_I ((x : Nat) : Int), fd_I ((y : Nat) : Int), fd_I ((k : Nat) : Int)]) (st' := [fd_I (M 208 (0 + ((k : Nat) : Int)).toNat)]) (M' := M) rfl (hB ((x : Nat) : Int) ((y : Nat) : Int) ((k : Nat) : Int)) (j := 14) rfl (fd_bA (fd_iA fd_sh208 (by omega) (by omega)) (rfl)) ?_
    clear hB
    rw [show (0 + ((k : Nat) : Int)).toNat = k by omega]
    have hB : ∀ (q0 : Int) (q1 : Int) (q2 : Int), fd_bl 5 (List.drop 14 fd_c69) [fd_R 199, fd_I q0, fd_I q1, fd_I q2] [fd_I (M 208 k)] M = some (true, [fd_R 199, fd_I q0, fd_I q1, fd_I q2], [fd_I ((7 * q1) + q0), fd_I (M 208 k)], M) := fun _ _ _ => rfl
    refine fd_u_blk 5 (C := fd_c69) (b := true) (L' := [fd_R 199, fd_I ((x : Nat) : Int), fd_I ((y : Nat) : Int), fd_I ((k : Nat) : Int)]) (st' := [fd_I ((7 * ((y : Nat) : Int)) + ((x : Nat) : Int)), fd_I (M 208 k)]) (M' := M) rfl (hB ((x : Nat) : Int) ((y : Nat) : Int) ((k : Nat) : Int)) (j := 19) rfl (rfl) ?_
    clear hB
    refine fd_u_br (C := fd_c69) (t := 22) (e := 20) (st' := []) (c := ¬ (M 208 k) = ((7 * ((y : Nat) : Int)) + ((x : Nat) : Int))) (b := (fd_rng (M 208 k) && fd_rng ((7 * ((y : Nat) : Int)) + ((x : Nat) : Int)))) rfl rfl rfl (fd_bA (fd_bR (by omega) (by omega)) (fd_bR (by omega) (by omega))) (fun h19 => ?_) (fun h19 => ?_)
    · have hB : ∀ (q0 : Int) (q1 : Int) (q2 : Int), fd_bl 1 (List.drop 22 fd_c69) [fd_R 199, fd_I q0, fd_I q1, fd_I q2] [] M = some (true, [fd_R 199, fd_I q0, fd_I q1, fd_I (q2 + 1)], [], M) := fun _ _ _ => rfl
      refine fd_u_blk 1 (C := fd_c69) (b := true) (L' := [fd_R 199, fd_I ((x : Nat) : Int), fd_I ((y : Nat) : Int), fd_I (((k + 1) : Nat) : Int)]) (st' := []) (M' := M) rfl (hB ((x : Nat) : Int) ((y : Nat) : Int) ((k : Nat) : Int)) (j := 23) rfl (rfl) ?_
      clear hB
      refine fd_u_jmp (C := fd_c69) (j := 2) (st' := []) rfl rfl (b := true) rfl rfl ?_
      rw [fd_dp, if_neg h19]
      exact ih (k + 1) (by omega)
    · have hB : ∀ (q0 : Int) (q1 : Int) (q2 : Int), fd_bl 1 (List.drop 20 fd_c69) [fd_R 199, fd_I q0, fd_I q1, fd_I q2] [] M = some (true, [fd_R 199, fd_I q0, fd_I q1, fd_I q2], [fd_I q2], M) := fun _ _ _ => rfl
      refine fd_u_blk 1 (C := fd_c69) (b := true) (L' := [fd_R 199, fd_I ((x : Nat) : Int), fd_I ((y : Nat) : Int), fd_I ((k : Nat) : Int)]) (st' := [fd_I ((k : Nat) : Int)]) (M' := M) rfl (hB ((x : Nat) : Int) ((y : Nat) : Int) ((k : Nat) : Int)) (j := 21) rfl (rfl) ?_
      clear hB
      refine fd_u_ret (C := fd_c69) (b := true) (r' := some (fd_I ((k : Nat) : Int))) rfl rfl rfl (rfl) ?_ ?_
      · rw [fd_dp, if_pos (Classical.not_not.mp h19)]
      · rfl

theorem fd_r_doorAt (M : fd_M) (hP : fd_RP M) (hS : fd_RS M) (x y : Nat) (hx : x < 7) (hy : y < 7) : fd_call 0 69 [fd_R 199, fd_I ((x : Nat) : Int), fd_I ((y : Nat) : Int)] M (some (fd_I (fd_dpR M x y))) M := by
  refine fd_u_in (L := [fd_R 199, fd_I ((x : Nat) : Int), fd_I ((y : Nat) : Int), fd_R 1003]) rfl ?_
  obtain ⟨g0, g1, g2, g3, g4, g5⟩ := id hP
  have hB : ∀ (q0 : Int) (q1 : Int), fd_bl 2 (List.drop 0 fd_c69) [fd_R 199, fd_I q0, fd_I q1, fd_R 1003] [] M = some (true, [fd_R 199, fd_I q0, fd_I q1, fd_I 0], [], M) := fun _ _ => rfl
  refine fd_u_blk 2 (C := fd_c69) (b := true) (L' := [fd_R 199, fd_I ((x : Nat) : Int), fd_I ((y : Nat) : Int), fd_I 0]) (st' := []) (M' := M) rfl (hB ((x : Nat) : Int) ((y : Nat) : Int)) (j := 2) rfl (rfl) ?_
  clear hB
  exact fd_l_doorAt M hP hS x y hx hy (M 204 0).toNat 0 (by omega)

theorem fd_r_cell (M : fd_M) (hP : fd_RP M) (hS : fd_RS M) (x y : Int) (hx : -2147483648 ≤ x ∧ x < 2147483648) (hy : -2147483648 ≤ y ∧ y < 2147483648) : fd_call 2 70 [fd_R 199, fd_I x, fd_I y] M (some (fd_I (fd_cvR M x y))) M := by
  refine fd_u_in (L := [fd_R 199, fd_I x, fd_I y, fd_R 1003]) rfl ?_
  obtain ⟨g0, g1, g2, g3, g4, g5⟩ := id hP
  refine fd_u_blk 3 (C := fd_c70) (b := true) (L' := [fd_R 199, fd_I x, fd_I y, fd_R 1003]) (st' := [fd_I y, fd_I x, fd_R 199]) (M' := M) rfl rfl (j := 3) rfl (rfl) ?_
  refine fd_u_call (C := fd_c70) (d0 := 1) (mid := 67) (np := 3) (args := [fd_R 199, fd_I x, fd_I y]) (r1 := some (fd_I (fd_bi (0 ≤ x ∧ x < M 201 0 ∧ 0 ≤ y ∧ y < M 202 0)))) (M1 := M) (st' := [fd_I (fd_bi (0 ≤ x ∧ x < M 201 0 ∧ 0 ≤ y ∧ y < M 202 0))]) rfl rfl rfl rfl rfl rfl (rfl) (fd_r_isCell M hP x y (by omega) (by omega)) rfl (by omega) ?_
  refine fd_u_br (C := fd_c70) (t := 7) (e := 5) (st' := []) (c := ¬ (fd_bi (0 ≤ x ∧ x < M 201 0 ∧ 0 ≤ y ∧ y < M 202 0)) = 0) (b := (fd_rng (fd_bi (0 ≤ x ∧ x < M 201 0 ∧ 0 ≤ y ∧ y < M 202 0)))) rfl rfl rfl (fd_biR) (fun h4 => ?_) (fun h4 => ?_)
  · have h4 := fd_biT.mp h4
    obtain ⟨i, rfl⟩ := Int.eq_ofNat_of_zero_le (show 0 ≤ x by omega)
    obtain ⟨j, rfl⟩ := Int.eq_ofNat_of_zero_le (show 0 ≤ y by omega)
    have q5 := g5 i j (by omega) (by omega)
    have hB : ∀ (q0 : Int) (q1 : Int), fd_bl 3 (List.drop 7 fd_c70) [fd_R 199, fd_I q0, fd_I q1, fd_R 1003] [] M = some (true, [fd_R 199, fd_I q0, fd_I q1, fd_R 1003], [fd_I q1, fd_I q0, fd_R 199], M) := fun _ _ => rfl
    refine fd_u_blk 3 (C := fd_c70) (b := true) (L' := [fd_R 199, fd_I ((i : Nat) : Int), fd_I ((j : Nat) : Int), fd_R 1003]) (st' := [fd_I ((j : Nat) : Int), fd_I ((i : Nat) : Int), fd_R 199]) (M' := M) rfl (hB ((i : Nat) : Int) ((j : Nat) : Int)) (j := 10) rfl (rfl) ?_
    clear hB
    refine fd_u_call (C := fd_c70) (d0 := 0) (mid := 69) (np := 3) (args := [fd_R 199, fd_I ((i : Nat) : Int), fd_I ((j : Nat) : Int)]) (r1 := some (fd_I (fd_dpR M i j))) (M1 := M) (st' := [fd_I (fd_dpR M i j)]) rfl rfl rfl rfl rfl rfl (rfl) (fd_r_doorAt M hP hS i j (by omega) (by omega)) rfl (by omega) ?_
    have qd := fd_dpR_rng (M := M) (by omega) i j
    have hB : ∀ (q0 : Int) (q1 : Int), fd_bl 3 (List.drop 11 fd_c70) [fd_R 199, fd_I q0, fd_I q1, fd_R 1003] [fd_I (fd_dpR M i j)] M = some (true, [fd_R 199, fd_I q0, fd_I q1, fd_I (fd_dpR M i j)], [fd_I (-9), fd_I (fd_dpR M i j)], M) := fun _ _ => rfl
    refine fd_u_blk 3 (C := fd_c70) (b := true) (L' := [fd_R 199, fd_I ((i : Nat) : Int), fd_I ((j : Nat) : Int), fd_I (fd_dpR M i j)]) (st' := [fd_I (-9), fd_I (fd_dpR M i j)]) (M' := M) rfl (hB ((i : Nat) : Int) ((j : Nat) : Int)) (j := 14) rfl (rfl) ?_
    clear hB
    refine fd_u_br (C := fd_c70) (t := 19) (e := 15) (st' := []) (c := (fd_dpR M i j) = (-9)) (b := (fd_rng (fd_dpR M i j) && fd_rng (-9))) rfl rfl rfl (fd_bA (fd_bR (by omega) (by omega)) (fd_bR (by omega) (by omega))) (fun h14 => ?_) (fun h14 => ?_)
    · have hB : ∀ (q0 : Int) (q1 : Int), fd_bl 3 (List.drop 19 fd_c70) [fd_R 199, fd_I q0, fd_I q1, fd_I (fd_dpR M i j)] [] M = some (true, [fd_R 199, fd_I q0, fd_I q1, fd_I (fd_dpR M i j)], [fd_I q1, fd_I q0, fd_R 199], M) := fun _ _ => rfl
      refine fd_u_blk 3 (C := fd_c70) (b := true) (L' := [fd_R 199, fd_I ((i : Nat) : Int), fd_I ((j : Nat) : Int), fd_I (fd_dpR M i j)]) (st' := [fd_I ((j : Nat) : Int), fd_I ((i : Nat) : Int), fd_R 199]) (M' := M) rfl (hB ((i : Nat) : Int) ((j : Nat) : Int)) (j := 22) rfl (rfl) ?_
      clear hB
      refine fd_u_call (C := fd_c70) (d0 := 0) (mid := 68) (np := 3) (args := [fd_R 199, fd_I ((i : Nat) : Int), fd_I ((j : Nat) : Int)]) (r1 := some (fd_I (fd_bi (M 208 (21 + j) / 2 ^ i % 2 = 1)))) (M1 := M) (st' := [fd_I (fd_bi (M 208 (21 + j) / 2 ^ i % 2 = 1))]) rfl rfl rfl rfl rfl rfl (rfl) (fd_r_hasCart M hS i j (by omega) (by omega)) rfl (by omega) ?_
      refine fd_u_br (C := fd_c70) (t := 26) (e := 24) (st' := []) (c := (fd_bi (M 208 (21 + j) / 2 ^ i % 2 = 1)) = 0) (b := (fd_rng (fd_bi (M 208 (21 + j) / 2 ^ i % 2 = 1)))) rfl rfl rfl (fd_biR) (fun h23 => ?_) (fun h23 => ?_)
      · have h23 := fd_biF.mp h23
        have hB : ∀ (q0 : Int) (q1 : Int), fd_bl 8 (List.drop 26 fd_c70) [fd_R 199, fd_I q0, fd_I q1, fd_I (fd_dpR M i j)] [] M = some ((fd_isA true M 203 20 ((7 * q1) + q0) && true), [fd_R 199, fd_I q0, fd_I q1, fd_I (fd_dpR M i j)], [fd_I (M 203 ((7 * q1) + q0).toNat)], M) := fun _ _ => rfl
        refine fd_u_blk 8 (C := fd_c70) (b := (fd_isA true M 203 20 ((7 * ((j : Nat) : Int)) + ((i : Nat) : Int)) && true)) (L' := [fd_R 199, fd_I ((i : Nat) : Int), fd_I ((j : Nat) : Int), fd_I (fd_dpR M i j)]) (st' := [fd_I (M 203 ((7 * ((j : Nat) : Int)) + ((i : Nat) : Int)).toNat)]) (M' := M) rfl (hB ((i : Nat) : Int) ((j : Nat) : Int)) (j := 34) rfl (fd_bA (fd_iA fd_sh203 (by omega) (by omega)) (rfl)) ?_
        clear hB
        rw [show ((7 * ((j : Nat) : Int)) + ((i : Nat) : Int)).toNat = 7 * j + i by omega]
        refine fd_u_ret (C := fd_c70) (b := true) (r' := some (fd_I (M 203 (7 * j + i)))) rfl rfl rfl (rfl) ?_ ?_
        · rw [fd_cvR, if_pos h4]; show _ = some (fd_I (if fd_dpR M i j = -9 then (if M 208 (21 + j) / 2 ^ i % 2 = 1 then 3 else M 203 (7 * j + i)) else 10 + fd_dpR M i j)); rw [if_pos h14, if_neg h23]
        · rfl
      · have h23 := fd_biT.mp h23
        have hB : ∀ (q0 : Int) (q1 : Int), fd_bl 1 (List.drop 24 fd_c70) [fd_R 199, fd_I q0, fd_I q1, fd_I (fd_dpR M i j)] [] M = some (true, [fd_R 199, fd_I q0, fd_I q1, fd_I (fd_dpR M i j)], [fd_I 3], M) := fun _ _ => rfl
        refine fd_u_blk 1 (C := fd_c70) (b := true) (L' := [fd_R 199, fd_I ((i : Nat) : Int), fd_I ((j : Nat) : Int), fd_I (fd_dpR M i j)]) (st' := [fd_I 3]) (M' := M) rfl (hB ((i : Nat) : Int) ((j : Nat) : Int)) (j := 25) rfl (rfl) ?_
        clear hB
        refine fd_u_jmp (C := fd_c70) (j := 34) (st' := [fd_I 3]) rfl rfl (b := true) rfl rfl ?_
        refine fd_u_ret (C := fd_c70) (b := true) (r' := some (fd_I 3)) rfl rfl rfl (rfl) ?_ ?_
        · rw [fd_cvR, if_pos h4]; show _ = some (fd_I (if fd_dpR M i j = -9 then (if M 208 (21 + j) / 2 ^ i % 2 = 1 then 3 else M 203 (7 * j + i)) else 10 + fd_dpR M i j)); rw [if_pos h14, if_pos h23]
        · rfl
    · have hB : ∀ (q0 : Int) (q1 : Int), fd_bl 3 (List.drop 15 fd_c70) [fd_R 199, fd_I q0, fd_I q1, fd_I (fd_dpR M i j)] [] M = some (true, [fd_R 199, fd_I q0, fd_I q1, fd_I (fd_dpR M i j)], [fd_I (10 + (fd_dpR M i j))], M) := fun _ _ => rfl
      refine fd_u_blk 3 (C := fd_c70) (b := true) (L' := [fd_R 199, fd_I ((i : Nat) : Int), fd_I ((j : Nat) : Int), fd_I (fd_dpR M i j)]) (st' := [fd_I (10 + (fd_dpR M i j))]) (M' := M) rfl (hB ((i : Nat) : Int) ((j : Nat) : Int)) (j := 18) rfl (rfl) ?_
      clear hB
      refine fd_u_jmp (C := fd_c70) (j := 34) (st' := [fd_I (10 + (fd_dpR M i j))]) rfl rfl (b := true) rfl rfl ?_
      refine fd_u_ret (C := fd_c70) (b := true) (r' := some (fd_I (10 + (fd_dpR M i j)))) rfl rfl rfl (rfl) ?_ ?_
      · rw [fd_cvR, if_pos h4]; show _ = some (fd_I (if fd_dpR M i j = -9 then (if M 208 (21 + j) / 2 ^ i % 2 = 1 then 3 else M 203 (7 * j + i)) else 10 + fd_dpR M i j)); rw [if_neg h14]
      · rfl
  · have h4 := fd_biF2  h4
    refine fd_u_blk 1 (C := fd_c70) (b := true) (L' := [fd_R 199, fd_I x, fd_I y, fd_R 1003]) (st' := [fd_I (-1)]) (M' := M) rfl rfl (j := 6) rfl (rfl) ?_
    refine fd_u_ret (C := fd_c70) (b := true) (r' := some (fd_I (-1))) rfl rfl rfl (rfl) ?_ ?_
    · rw [fd_cvR, if_neg h4]
    · rfl

theorem fd_l_manyOf (M : fd_M) (v : Int) (hv : 0 ≤ v ∧ v < 2147483648) : ∀ (n : Nat) (k : Nat) (hk : k + n = 7), fd_run 0 71 4 [fd_I v, fd_I (fd_sum (fun j => v / 2 ^ j % 2) k), fd_I ((k : Nat) : Int)] [] M (some (fd_I (fd_many v))) M := by
  intro n
  induction n with
  | zero =>
    intro k hk
    have hB : ∀ (q0 : Int), fd_bl 2 (List.drop 4 fd_c71) [fd_I v, fd_I (fd_sum (fun j => v / 2 ^ j % 2) k), fd_I q0] [] M = some (true, [fd_I v, fd_I (fd_sum (fun j => v / 2 ^ j % 2) k), fd_I q0], [fd_I 7, fd_I q0], M) := fun _ => rfl
    refine fd_u_blk 2 (C := fd_c71) (b := true) (L' := [fd_I v, fd_I (fd_sum (fun j => v / 2 ^ j % 2) k), fd_I ((k : Nat) : Int)]) (st' := [fd_I 7, fd_I ((k : Nat) : Int)]) (M' := M) rfl (hB ((k : Nat) : Int)) (j := 6) rfl (rfl) ?_
    clear hB
    refine fd_u_br (C := fd_c71) (t := 17) (e := 7) (st' := []) (c := 7 ≤ ((k : Nat) : Int)) (b := (fd_rng ((k : Nat) : Int) && fd_rng 7)) rfl rfl rfl (fd_bA (fd_bR (by omega) (by omega)) (fd_bR (by omega) (by omega))) (fun h6 => ?_) (fun h6 => absurd h6 (by omega))
    have hB : ∀ (q0 : Int), fd_bl 1 (List.drop 17 fd_c71) [fd_I v, fd_I (fd_sum (fun j => v / 2 ^ j % 2) k), fd_I q0] [] M = some (true, [fd_I v, fd_I (fd_sum (fun j => v / 2 ^ j % 2) k), fd_I q0], [fd_I (fd_sum (fun j => v / 2 ^ j % 2) k)], M) := fun _ => rfl
    refine fd_u_blk 1 (C := fd_c71) (b := true) (L' := [fd_I v, fd_I (fd_sum (fun j => v / 2 ^ j % 2) k), fd_I ((k : Nat) : Int)]) (st' := [fd_I (fd_sum (fun j => v / 2 ^ j % 2) k)]) (M' := M) rfl (hB ((k : Nat) : Int)) (j := 18) rfl (rfl) ?_
    clear hB
    refine fd_u_ret (C := fd_c71) (b := true) (r' := some (fd_I (fd_sum (fun j => v / 2 ^ j % 2) k))) rfl rfl rfl (rfl) ?_ ?_
    · have e : k = 7 := by omega
      subst e; rfl
    · rfl
  | succ n ih =>
    intro k hk
    have hB : ∀ (q0 : Int), fd_bl 2 (List.drop 4 fd_c71) [fd_I v, fd_I (fd_sum (fun j => v / 2 ^ j % 2) k), fd_I q0] [] M = some (true, [fd_I v, fd_I (fd_sum (fun j => v / 2 ^ j % 2) k), fd_I q0], [fd_I 7, fd_I q0], M) := fun _ => rfl
    refine fd_u_blk 2 (C := fd_c71) (b := true) (L' := [fd_I v, fd_I (fd_sum (fun j => v / 2 ^ j % 2) k), fd_I ((k : Nat) : Int)]) (st' := [fd_I 7, fd_I ((k : Nat) : Int)]) (M' := M) rfl (hB ((k : Nat) : Int)) (j := 6) rfl (rfl) ?_
    clear hB
    refine fd_u_br (C := fd_c71) (t := 17) (e := 7) (st' := []) (c := 7 ≤ ((k : Nat) : Int)) (b := (fd_rng ((k : Nat) : Int) && fd_rng 7)) rfl rfl rfl (fd_bA (fd_bR (by omega) (by omega)) (fd_bR (by omega) (by omega))) (fun h6 => absurd h6 (by omega)) (fun h6 => ?_)
    have hB : ∀ (q0 : Int), fd_bl 9 (List.drop 7 fd_c71) [fd_I v, fd_I (fd_sum (fun j => v / 2 ^ j % 2) k), fd_I q0] [] M = some (((fd_inb v 2147483648 && fd_inb q0 32) && true), [fd_I v, fd_I ((fd_sum (fun j => v / 2 ^ j % 2) k) + (fd_and (v / 2 ^ (q0).toNat) 1)), fd_I (q0 + 1)], [], M) := fun _ => rfl
    refine fd_u_blk 9 (C := fd_c71) (b := ((fd_inb v 2147483648 && fd_inb ((k : Nat) : Int) 32) && true)) (L' := [fd_I v, fd_I ((fd_sum (fun j => v / 2 ^ j % 2) k) + (fd_and (v / 2 ^ k) 1)), fd_I (((k + 1) : Nat) : Int)]) (st' := []) (M' := M) rfl (hB ((k : Nat) : Int)) (j := 16) rfl (fd_bA (fd_bA (fd_bI (by omega) (by omega)) (fd_bI (by omega) (by omega))) (rfl)) ?_
    clear hB
    refine fd_u_jmp (C := fd_c71) (j := 4) (st' := []) rfl rfl (b := true) rfl rfl ?_
    rw [fd_and1 (fd_div_rng k hv)]
    exact ih (k + 1) (by omega)

theorem fd_r_manyOf (M : fd_M) (v : Int) (hv : 0 ≤ v ∧ v < 2147483648) : fd_call 0 71 [fd_I v] M (some (fd_I (fd_many v))) M := by
  refine fd_u_in (L := [fd_I v, fd_R 1003, fd_R 1003]) rfl ?_
  refine fd_u_blk 4 (C := fd_c71) (b := true) (L' := [fd_I v, fd_I 0, fd_I 0]) (st' := []) (M' := M) rfl rfl (j := 4) rfl (rfl) ?_
  exact fd_l_manyOf M v hv 7 0 (by omega)

theorem fd_r_stepX (M : fd_M) (w : Int) (hw : -2147483648 ≤ w ∧ w < 2147483648) : fd_call 0 73 [fd_I w] M (some (fd_I (fd_sx w))) M := by
  refine fd_u_in (L := [fd_I w]) rfl ?_
  refine fd_u_blk 2 (C := fd_c73) (b := true) (L' := [fd_I w]) (st' := [fd_I 1, fd_I w]) (M' := M) rfl rfl (j := 2) rfl (rfl) ?_
  refine fd_u_br (C := fd_c73) (t := 5) (e := 3) (st' := []) (c := ¬ w = 1) (b := (fd_rng w && fd_rng 1)) rfl rfl rfl (fd_bA (fd_bR (by omega) (by omega)) (fd_bR (by omega) (by omega))) (fun h2 => ?_) (fun h2 => ?_)
  · refine fd_u_blk 2 (C := fd_c73) (b := true) (L' := [fd_I w]) (st' := [fd_I 3, fd_I w]) (M' := M) rfl rfl (j := 7) rfl (rfl) ?_
    refine fd_u_br (C := fd_c73) (t := 10) (e := 8) (st' := []) (c := ¬ w = 3) (b := (fd_rng w && fd_rng 3)) rfl rfl rfl (fd_bA (fd_bR (by omega) (by omega)) (fd_bR (by omega) (by omega))) (fun h7 => ?_) (fun h7 => ?_)
    · refine fd_u_blk 1 (C := fd_c73) (b := true) (L' := [fd_I w]) (st' := [fd_I 0]) (M' := M) rfl rfl (j := 11) rfl (rfl) ?_
      refine fd_u_ret (C := fd_c73) (b := true) (r' := some (fd_I 0)) rfl rfl rfl (rfl) ?_ ?_
      · unfold fd_sx
        first | rw [if_pos (by omega)] | rw [if_neg (by omega), if_pos (by omega)] | rw [if_neg (by omega), if_neg (by omega)]
      · rfl
    · refine fd_u_blk 1 (C := fd_c73) (b := true) (L' := [fd_I w]) (st' := [fd_I (-1)]) (M' := M) rfl rfl (j := 9) rfl (rfl) ?_
      refine fd_u_jmp (C := fd_c73) (j := 11) (st' := [fd_I (-1)]) rfl rfl (b := true) rfl rfl ?_
      refine fd_u_ret (C := fd_c73) (b := true) (r' := some (fd_I (-1))) rfl rfl rfl (rfl) ?_ ?_
      · unfold fd_sx
        first | rw [if_pos (by omega)] | rw [if_neg (by omega), if_pos (by omega)] | rw [if_neg (by omega), if_neg (by omega)]
      · rfl
  · refine fd_u_blk 1 (C := fd_c73) (b := true) (L' := [fd_I w]) (st' := [fd_I 1]) (M' := M) rfl rfl (j := 4) rfl (rfl) ?_
    refine fd_u_jmp (C := fd_c73) (j := 11) (st' := [fd_I 1]) rfl rfl (b := true) rfl rfl ?_
    refine fd_u_ret (C := fd_c73) (b := true) (r' := some (fd_I 1)) rfl rfl rfl (rfl) ?_ ?_
    · unfold fd_sx
      first | rw [if_pos (by omega)] | rw [if_neg (by omega), if_pos (by omega)] | rw [if_neg (by omega), if_neg (by omega)]
    · rfl

theorem fd_r_stepY (M : fd_M) (w : Int) (hw : -2147483648 ≤ w ∧ w < 2147483648) : fd_call 0 74 [fd_I w] M (some (fd_I (fd_sy w))) M := by
  refine fd_u_in (L := [fd_I w]) rfl ?_
  refine fd_u_blk 2 (C := fd_c74) (b := true) (L' := [fd_I w]) (st' := [fd_I 2, fd_I w]) (M' := M) rfl rfl (j := 2) rfl (rfl) ?_
  refine fd_u_br (C := fd_c74) (t := 5) (e := 3) (st' := []) (c := ¬ w = 2) (b := (fd_rng w && fd_rng 2)) rfl rfl rfl (fd_bA (fd_bR (by omega) (by omega)) (fd_bR (by omega) (by omega))) (fun h2 => ?_) (fun h2 => ?_)
  · refine fd_u_blk 1 (C := fd_c74) (b := true) (L' := [fd_I w]) (st' := [fd_I w]) (M' := M) rfl rfl (j := 6) rfl (rfl) ?_
    refine fd_u_br (C := fd_c74) (t := 9) (e := 7) (st' := []) (c := ¬ w = 0) (b := (fd_rng w)) rfl rfl rfl (fd_bR (by omega) (by omega)) (fun h6 => ?_) (fun h6 => ?_)
    · refine fd_u_blk 1 (C := fd_c74) (b := true) (L' := [fd_I w]) (st' := [fd_I 0]) (M' := M) rfl rfl (j := 10) rfl (rfl) ?_
      refine fd_u_ret (C := fd_c74) (b := true) (r' := some (fd_I 0)) rfl rfl rfl (rfl) ?_ ?_
      · unfold fd_sy
        first | rw [if_pos (by omega)] | rw [if_neg (by omega), if_pos (by omega)] | rw [if_neg (by omega), if_neg (by omega)]
      · rfl
    · refine fd_u_blk 1 (C := fd_c74) (b := true) (L' := [fd_I w]) (st' := [fd_I (-1)]) (M' := M) rfl rfl (j := 8) rfl (rfl) ?_
      refine fd_u_jmp (C := fd_c74) (j := 10) (st' := [fd_I (-1)]) rfl rfl (b := true) rfl rfl ?_
      refine fd_u_ret (C := fd_c74) (b := true) (r' := some (fd_I (-1))) rfl rfl rfl (rfl) ?_ ?_
      · unfold fd_sy
        first | rw [if_pos (by omega)] | rw [if_neg (by omega), if_pos (by omega)] | rw [if_neg (by omega), if_neg (by omega)]
      · rfl
  · refine fd_u_blk 1 (C := fd_c74) (b := true) (L' := [fd_I w]) (st' := [fd_I 1]) (M' := M) rfl rfl (j := 4) rfl (rfl) ?_
    refine fd_u_jmp (C := fd_c74) (j := 10) (st' := [fd_I 1]) rfl rfl (b := true) rfl rfl ?_
    refine fd_u_ret (C := fd_c74) (b := true) (r' := some (fd_I 1)) rfl rfl rfl (rfl) ?_ ?_
    · unfold fd_sy
      first | rw [if_pos (by omega)] | rw [if_neg (by omega), if_pos (by omega)] | rw [if_neg (by omega), if_neg (by omega)]
    · rfl

def fd_tkw (M : fd_M) (k : Nat) : fd_M := fun c j => if c = 210 ∧ j < k then M 208 (6 + j) else M c j
def fd_tak (M : fd_M) : fd_M := fun c j => if c = 210 ∧ j < 6 then M 208 (6 + j) else if c = 199 ∧ j = 19 then M 208 12 else if c = 199 ∧ j = 20 then M 208 14 else M c j
theorem fd_tkw_0 (M : fd_M) : fd_tkw M 0 = M := by
  funext c j
  unfold fd_tkw
  rw [if_neg (by omega)]
theorem fd_tkw_fr {M : fd_M} {k c : Nat} (h : c ≠ 210) : fd_tkw M k c = M c := by
  funext j
  unfold fd_tkw
  rw [if_neg (fun q => h q.1)]
theorem fd_tkw_S (M : fd_M) (k : Nat) : fd_up (fd_tkw M k) 210 k (fd_tkw M k 208 (6 + k)) = fd_tkw M (k + 1) := by
  funext c j
  rw [fd_tkw_fr (by decide)]
  unfold fd_up fd_tkw
  by_cases h : c = 210 ∧ j = k
  · obtain ⟨rfl, rfl⟩ := h
    rw [if_pos ⟨rfl, rfl⟩, if_pos ⟨rfl, by omega⟩]
  · rw [if_neg h]
    by_cases h2 : c = 210 ∧ j < k
    · rw [if_pos h2, if_pos (by omega)]
    · rw [if_neg h2, if_neg (by omega)]
theorem fd_tak_eq (M : fd_M) (v : Int) (hv : v = M 208 14) : fd_up (fd_up (fd_tkw M 6) 199 19 (M 208 12)) 199 20 v = fd_tak M := by
  subst hv
  funext c j
  unfold fd_up fd_tkw fd_tak
  by_cases h : c = 210 ∧ j < 6
  · rw [if_neg (by omega), if_neg (by omega), if_pos h, if_pos h]
  · rw [if_neg h, if_neg h]
    by_cases h1 : c = 199 ∧ j = 20
    · rw [if_pos h1, if_neg (by omega), if_pos h1]
    · rw [if_neg h1, if_neg h1]
theorem fd_tak_fr {M : fd_M} {c : Nat} (h : c ≠ 210) (h2 : c ≠ 199) : fd_tak M c = M c := by
  funext j
  unfold fd_tak
  rw [if_neg (fun q => h q.1), if_neg (fun q => h2 q.1), if_neg (fun q => h2 q.1)]
theorem fd_f_take (M : fd_M) (h14 : 0 ≤ M 208 14 ∧ M 208 14 ≤ 1) (u : fd_V) : fd_run 0 72 17 [fd_R 199, u] [] (fd_tkw M 6) (none) (fd_tak M) := by
  have e0 : fd_tkw M 6 208 = M 208 := fd_tkw_fr (by decide)
  have e14 : fd_tkw M 6 208 14 = M 208 14 := by rw [e0]
  refine fd_u_blk 12 (C := fd_c72) (b := true) (L' := [fd_R 199, u]) (st' := [fd_I 1, fd_I ((fd_tkw M 6) 208 14), fd_R 199]) (M' := (fd_up (fd_tkw M 6) 199 19 ((fd_tkw M 6) 208 12))) rfl rfl (j := 29) rfl (rfl) ?_
  refine fd_u_br (C := fd_c72) (t := 32) (e := 30) (st' := [fd_R 199]) (c := ¬ ((fd_tkw M 6) 208 14) = 1) (b := (fd_rng ((fd_tkw M 6) 208 14) && fd_rng 1)) rfl rfl rfl (fd_bA (fd_bR (by omega) (by omega)) (fd_bR (by omega) (by omega))) (fun h29 => ?_) (fun h29 => ?_)
  · refine fd_u_blk 2 (C := fd_c72) (b := true) (L' := [fd_R 199, u]) (st' := []) (M' := (fd_up (fd_up (fd_tkw M 6) 199 19 ((fd_tkw M 6) 208 12)) 199 20 0)) rfl rfl (j := 34) rfl (rfl) ?_
    refine fd_u_ret (C := fd_c72) (b := true) (r' := none) rfl rfl rfl (rfl) ?_ ?_
    · rfl
    · rw [← fd_tak_eq M 0 (by rw [← e14]; first | exact (Classical.not_not.mp h29).symm | (have z : ¬ fd_tkw M 6 208 14 = 1 := h29; omega)), e0]
  · refine fd_u_blk 1 (C := fd_c72) (b := true) (L' := [fd_R 199, u]) (st' := [fd_I 1, fd_R 199]) (M' := (fd_up (fd_tkw M 6) 199 19 ((fd_tkw M 6) 208 12))) rfl rfl (j := 31) rfl (rfl) ?_
    refine fd_u_jmp (C := fd_c72) (j := 33) (st' := [fd_I 1, fd_R 199]) rfl rfl (b := true) rfl rfl ?_
    refine fd_u_blk 1 (C := fd_c72) (b := true) (L' := [fd_R 199, u]) (st' := []) (M' := (fd_up (fd_up (fd_tkw M 6) 199 19 ((fd_tkw M 6) 208 12)) 199 20 1)) rfl rfl (j := 34) rfl (rfl) ?_
    refine fd_u_ret (C := fd_c72) (b := true) (r' := none) rfl rfl rfl (rfl) ?_ ?_
    · rfl
    · rw [← fd_tak_eq M 1 (by rw [← e14]; first | exact (Classical.not_not.mp h29).symm | (have z : ¬ fd_tkw M 6 208 14 = 1 := h29; omega)), e0]

theorem fd_l_take (M : fd_M) (h14 : 0 ≤ M 208 14 ∧ M 208 14 ≤ 1) : ∀ (n : Nat) (k : Nat) (hk : k + n = 6), fd_run 0 72 2 [fd_R 199, fd_I ((k : Nat) : Int)] [] (fd_tkw M k) (none) (fd_tak M) := by
  intro n
  induction n with
  | zero =>
    intro k hk
    have hB : ∀ (q0 : Int), fd_bl 2 (List.drop 2 fd_c72) [fd_R 199, fd_I q0] [] (fd_tkw M k) = some (true, [fd_R 199, fd_I q0], [fd_I 6, fd_I q0], (fd_tkw M k)) := fun _ => rfl
    refine fd_u_blk 2 (C := fd_c72) (b := true) (L' := [fd_R 199, fd_I ((k : Nat) : Int)]) (st' := [fd_I 6, fd_I ((k : Nat) : Int)]) (M' := (fd_tkw M k)) rfl (hB ((k : Nat) : Int)) (j := 4) rfl (rfl) ?_
    clear hB
    refine fd_u_br (C := fd_c72) (t := 17) (e := 5) (st' := []) (c := 6 ≤ ((k : Nat) : Int)) (b := (fd_rng ((k : Nat) : Int) && fd_rng 6)) rfl rfl rfl (fd_bA (fd_bR (by omega) (by omega)) (fd_bR (by omega) (by omega))) (fun h4 => ?_) (fun h4 => absurd h4 (by omega))
    have e : k = 6 := by omega
    subst e
    exact fd_f_take M h14 _
  | succ n ih =>
    intro k hk
    have hB : ∀ (q0 : Int), fd_bl 2 (List.drop 2 fd_c72) [fd_R 199, fd_I q0] [] (fd_tkw M k) = some (true, [fd_R 199, fd_I q0], [fd_I 6, fd_I q0], (fd_tkw M k)) := fun _ => rfl
    refine fd_u_blk 2 (C := fd_c72) (b := true) (L' := [fd_R 199, fd_I ((k : Nat) : Int)]) (st' := [fd_I 6, fd_I ((k : Nat) : Int)]) (M' := (fd_tkw M k)) rfl (hB ((k : Nat) : Int)) (j := 4) rfl (rfl) ?_
    clear hB
    refine fd_u_br (C := fd_c72) (t := 17) (e := 5) (st' := []) (c := 6 ≤ ((k : Nat) : Int)) (b := (fd_rng ((k : Nat) : Int) && fd_rng 6)) rfl rfl rfl (fd_bA (fd_bR (by omega) (by omega)) (fd_bR (by omega) (by omega))) (fun h4 => absurd h4 (by omega)) (fun h4 => ?_)
    have hB : ∀ (q0 : Int), fd_bl 9 (List.drop 5 fd_c72) [fd_R 199, fd_I q0] [] (fd_tkw M k) = some ((fd_isA true (fd_tkw M k) 208 20 (6 + q0) && true), [fd_R 199, fd_I q0], [fd_I ((fd_tkw M k) 208 (6 + q0).toNat), fd_I q0, fd_R 210], (fd_tkw M k)) := fun _ => rfl
    refine fd_u_blk 9 (C := fd_c72) (b := (fd_isA true (fd_tkw M k) 208 20 (6 + ((k : Nat) : Int)) && true)) (L' := [fd_R 199, fd_I ((k : Nat) : Int)]) (st' := [fd_I ((fd_tkw M k) 208 (6 + ((k : Nat) : Int)).toNat), fd_I ((k : Nat) : Int), fd_R 210]) (M' := (fd_tkw M k)) rfl (hB ((k : Nat) : Int)) (j := 14) rfl (fd_bA (fd_iA fd_sh208 (by omega) (by omega)) (rfl)) ?_
    clear hB
    rw [show (6 + ((k : Nat) : Int)).toNat = 6 + k by omega]
    have hB : ∀ (q0 : Int), fd_bl 2 (List.drop 14 fd_c72) [fd_R 199, fd_I q0] [fd_I ((fd_tkw M k) 208 (6 + k)), fd_I q0, fd_R 210] (fd_tkw M k) = some ((fd_isA true (fd_tkw M k) 210 20 q0 && true), [fd_R 199, fd_I (q0 + 1)], [], (fd_up (fd_tkw M k) 210 (q0).toNat ((fd_tkw M k) 208 (6 + k)))) := fun _ => rfl
    refine fd_u_blk 2 (C := fd_c72) (b := (fd_isA true (fd_tkw M k) 210 20 ((k : Nat) : Int) && true)) (L' := [fd_R 199, fd_I (((k + 1) : Nat) : Int)]) (st' := []) (M' := (fd_up (fd_tkw M k) 210 k ((fd_tkw M k) 208 (6 + k)))) rfl (hB ((k : Nat) : Int)) (j := 16) rfl (fd_bA (fd_iA fd_sh210 (by omega) (by omega)) (rfl)) ?_
    clear hB
    refine fd_u_jmp (C := fd_c72) (j := 2) (st' := []) rfl rfl (b := true) rfl rfl ?_
    rw [fd_tkw_S]
    exact ih (k + 1) (by omega)

theorem fd_r_take (M : fd_M) (h14 : 0 ≤ M 208 14 ∧ M 208 14 ≤ 1) : fd_call 0 72 [fd_R 199] M (none) (fd_tak M) := by
  refine fd_u_in (L := [fd_R 199, fd_R 1003]) rfl ?_
  refine fd_u_blk 2 (C := fd_c72) (b := true) (L' := [fd_R 199, fd_I 0]) (st' := []) (M' := M) rfl rfl (j := 2) rfl (rfl) ?_
  have z := fd_l_take M h14 6 0 (by omega)
  rw [fd_tkw_0] at z
  exact z


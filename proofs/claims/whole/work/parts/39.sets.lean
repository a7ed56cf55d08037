/-! who stood open: the class -/
theorem fd_sum_congr {f g : Nat → Int} : ∀ n : Nat, (∀ j, j < n → f j = g j) → fd_sum f n = fd_sum g n
  | 0, _ => rfl
  | n + 1, h => by
    show fd_sum f n + f n = fd_sum g n + g n
    rw [fd_sum_congr n (fun j hj => h j (by omega)), h n (by omega)]
theorem fd_sumR {f : Nat → Int} {B : Int} : ∀ n : Nat, (∀ j, j < n → 0 ≤ f j ∧ f j ≤ B) → 0 ≤ fd_sum f n ∧ fd_sum f n ≤ n * B
  | 0, _ => by
    show (0 : Int) ≤ 0 ∧ (0 : Int) ≤ ((0 : Nat) : Int) * B
    simp
  | n + 1, h => by
    have a := fd_sumR n (fun j hj => h j (by omega))
    have b := h n (by omega)
    show 0 ≤ fd_sum f n + f n ∧ fd_sum f n + f n ≤ ((n + 1 : Nat) : Int) * B
    have e : ((n + 1 : Nat) : Int) * B = n * B + B := by rw [Int.natCast_add, Int.add_mul]; simp
    omega
def fd_prod (f : Nat → Int) : Nat → Int
  | 0 => 1
  | n + 1 => fd_prod f n * f n
theorem fd_prod_rng {f : Nat → Int} : ∀ n : Nat, (∀ j, j < n → 0 ≤ f j ∧ f j ≤ 10) → 0 ≤ fd_prod f n ∧ fd_prod f n ≤ 10 ^ n
  | 0, _ => by
    show (0 : Int) ≤ 1 ∧ (1 : Int) ≤ 10 ^ 0
    simp
  | n + 1, h => by
    have a := fd_prod_rng n (fun j hj => h j (by omega))
    have b := h n (by omega)
    show 0 ≤ fd_prod f n * f n ∧ fd_prod f n * f n ≤ 10 ^ (n + 1)
    rw [Int.pow_succ]
    exact ⟨Int.mul_nonneg a.1 b.1, Int.mul_le_mul a.2 b.2 b.1 (by omega)⟩
def fd_all (p : Nat → Bool) : Nat → Bool
  | 0 => true
  | n + 1 => fd_all p n && p n
theorem fd_all_iff {p : Nat → Bool} : ∀ n : Nat, fd_all p n = true ↔ ∀ j, j < n → p j = true
  | 0 => by simp [fd_all]
  | n + 1 => by
    show (fd_all p n && p n) = true ↔ _
    rw [Bool.and_eq_true, fd_all_iff n]
    constructor
    · intro h j hj
      by_cases e : j = n
      · rw [e]; exact h.2
      · exact h.1 j (by omega)
    · intro h
      exact ⟨fun j hj => h j (by omega), h n (by omega)⟩
def fd_cnt (q : Nat → Bool) (n : Nat) : Int := fd_sum (fun s => if q s = true then 1 else 0) n
theorem fd_cnt_rng (q : Nat → Bool) (n : Nat) : 0 ≤ fd_cnt q n ∧ fd_cnt q n ≤ n := by
  have := fd_sumR (f := fun s => if q s = true then 1 else 0) (B := 1) n (by intro j _; split <;> omega)
  unfold fd_cnt
  omega
def fd_fst (q : Nat → Bool) : Nat → Int
  | 0 => -9
  | n + 1 => if fd_fst q n = -9 then (if q n = true then (n : Int) else -9) else fd_fst q n
theorem fd_fst_rng (q : Nat → Bool) : ∀ n : Nat, -9 ≤ fd_fst q n ∧ fd_fst q n ≤ n
  | 0 => by
    show -9 ≤ (-9 : Int) ∧ (-9 : Int) ≤ ((0 : Nat) : Int)
    simp
  | n + 1 => by
    have a := fd_fst_rng q n
    unfold fd_fst
    split
    · split <;> omega
    · omega
theorem fd_fst_cnt (q : Nat → Bool) : ∀ n : Nat, (fd_fst q n = -9 ↔ fd_cnt q n = 0)
  | 0 => by simp [fd_fst, fd_cnt, fd_sum]
  | n + 1 => by
    have a := fd_fst_cnt q n
    have b := fd_cnt_rng q n
    have e : fd_cnt q (n + 1) = fd_cnt q n + (if q n = true then 1 else 0) := rfl
    rw [e]
    unfold fd_fst
    by_cases h : q n = true
    · rw [if_pos h, if_pos h]
      by_cases h2 : fd_fst q n = -9
      · rw [if_pos h2]; omega
      · rw [if_neg h2]; omega
    · rw [if_neg h, if_neg h]
      by_cases h2 : fd_fst q n = -9
      · rw [if_pos h2]; omega
      · rw [if_neg h2]; omega
def fd_com (q : Nat → Bool) (al : Int) : Nat → Int
  | 0 => al
  | n + 1 => if q n = true then fd_and (fd_com q al n) (n : Int) else fd_com q al n
def fd_lud (M : fd_M) (k : Nat) : fd_M := fun c j => if c = 81 ∧ j < k then fd_dio M j else M c j
theorem fd_lud_fr {M : fd_M} {k c : Nat} (h : c ≠ 81) : fd_lud M k c = M c := by
  funext j
  unfold fd_lud
  rw [if_neg (fun q => h q.1)]
theorem fd_lud_0 (M : fd_M) : fd_lud M 0 = M := by
  funext c j
  unfold fd_lud
  rw [if_neg (by omega)]
theorem fd_lud_S (M : fd_M) (k : Nat) : fd_up (fd_lud M k) 81 k (fd_dio M k) = fd_lud M (k + 1) := by
  funext c j
  unfold fd_up fd_lud
  by_cases h : c = 81 ∧ j = k
  · obtain ⟨rfl, rfl⟩ := h
    rw [if_pos (show 81 = 81 ∧ j = j from ⟨rfl, rfl⟩), if_pos (show 81 = 81 ∧ j < j + 1 from ⟨rfl, by omega⟩)]
  · rw [if_neg h]
    by_cases h2 : c = 81 ∧ j < k
    · rw [if_pos h2, if_pos (show c = 81 ∧ j < k + 1 by omega)]
    · rw [if_neg h2, if_neg (show ¬ (c = 81 ∧ j < k + 1) by omega)]
theorem fd_CG_lud {M : fd_M} (hG : fd_CG M) (k : Nat) : fd_CG (fd_lud M k) := fd_CG_of hG (fd_lud_fr (by decide)) (fd_lud_fr (by decide)) (fd_lud_fr (by decide)) (fd_lud_fr (by decide)) (fd_lud_fr (by decide)) (fd_lud_fr (by decide)) (fd_lud_fr (by decide))
theorem fd_lud_at {M : fd_M} {k j : Nat} (h : j < k) : fd_lud M k 81 j = fd_dio M j := by
  unfold fd_lud
  rw [if_pos ⟨rfl, h⟩]
theorem fd_dio_rng {M : fd_M} (hG : fd_CG M) (d : Nat) : 0 ≤ fd_dio M d ∧ fd_dio M d ≤ 18 := fd_due_rng hG.1.2.2.2.1 _ _
theorem fd_s_dio_lud (M : fd_M) (hG : fd_CG M) (k : Nat) (hk : k < 6) : fd_call 5 155 [fd_R 72, fd_I (k : Int)] (fd_lud M k) (some (fd_I (fd_dio M k))) (fd_lud M k) := by
  have z := fd_s_dueIfOpen (fd_lud M k) (fd_CG_lud hG k) (k : Int) (by omega)
  rw [fd_dio_of (M := M) (fd_lud_fr (by decide)) (fd_lud_fr (by decide)) (fd_lud_fr (by decide)) (fd_lud_fr (by decide)) (fd_lud_fr (by decide)) (fd_lud_fr (by decide))] at z
  exact z
theorem fd_l_lookUp (M : fd_M) (hG : fd_CG M) : ∀ (n : Nat) (k : Nat) (hk : (k : Int) + n = M 3 2), fd_run 6 35 2 [fd_R 0, fd_I ((k : Nat) : Int)] [] (fd_lud M k) (none) (fd_lud M (M 3 2).toNat) := by
  obtain ⟨g0, g1, g2, g3, g4, g5⟩ := hG.1
  intro n
  induction n with
  | zero =>
    intro k hk
    have e3 : fd_lud M k 3 2 = M 3 2 := rfl
    refine fd_u_blk 4 (C := fd_c35) (b := true) (L' := [fd_R 0, fd_I ((k : Nat) : Int)]) (st' := [fd_I ((fd_lud M k) 3 2), fd_I ((k : Nat) : Int)]) (M' := (fd_lud M k)) rfl rfl (j := 6) rfl (rfl) ?_
    refine fd_u_br (C := fd_c35) (t := 17) (e := 7) (st' := []) (c := ((fd_lud M k) 3 2) ≤ ((k : Nat) : Int)) (b := (fd_rng ((k : Nat) : Int) && fd_rng ((fd_lud M k) 3 2))) rfl rfl rfl (fd_bA (fd_bR (by omega) (by omega)) (fd_bR (by omega) (by omega))) (fun h6 => ?_) (fun h6 => absurd h6 (by omega))
    refine fd_u_ret (C := fd_c35) (b := true) (r' := none) rfl rfl rfl (rfl) ?_ ?_
    · rfl
    · rw [show (M 3 2).toNat = k by omega]
  | succ n ih =>
    intro k hk
    have e3 : fd_lud M k 3 2 = M 3 2 := rfl
    refine fd_u_blk 4 (C := fd_c35) (b := true) (L' := [fd_R 0, fd_I ((k : Nat) : Int)]) (st' := [fd_I ((fd_lud M k) 3 2), fd_I ((k : Nat) : Int)]) (M' := (fd_lud M k)) rfl rfl (j := 6) rfl (rfl) ?_
    refine fd_u_br (C := fd_c35) (t := 17) (e := 7) (st' := []) (c := ((fd_lud M k) 3 2) ≤ ((k : Nat) : Int)) (b := (fd_rng ((k : Nat) : Int) && fd_rng ((fd_lud M k) 3 2))) rfl rfl rfl (fd_bA (fd_bR (by omega) (by omega)) (fd_bR (by omega) (by omega))) (fun h6 => absurd h6 (by omega)) (fun h6 => ?_)
    refine fd_u_blk 6 (C := fd_c35) (b := true) (L' := [fd_R 0, fd_I ((k : Nat) : Int)]) (st' := [fd_I ((k : Nat) : Int), fd_R 72, fd_I ((k : Nat) : Int), fd_R 81]) (M' := (fd_lud M k)) rfl rfl (j := 13) rfl (rfl) ?_
    refine fd_u_call (C := fd_c35) (d0 := 5) (mid := 155) (np := 2) (args := [fd_R 72, fd_I ((k : Nat) : Int)]) (r1 := some (fd_I (fd_dio M k))) (M1 := (fd_lud M k)) (st' := [fd_I (fd_dio M k), fd_I ((k : Nat) : Int), fd_R 81]) rfl rfl rfl rfl rfl rfl (rfl) (fd_s_dio_lud M hG k (by omega)) rfl (by omega) ?_
    refine fd_u_blk 2 (C := fd_c35) (b := (fd_inb ((k : Nat) : Int) 6 && true)) (L' := [fd_R 0, fd_I (((k + 1) : Nat) : Int)]) (st' := []) (M' := (fd_up (fd_lud M k) 81 k (fd_dio M k))) rfl rfl (j := 16) rfl (fd_bA (fd_bI (by omega) (by omega)) (rfl)) ?_
    refine fd_u_jmp (C := fd_c35) (j := 2) (st' := []) rfl rfl (b := true) rfl rfl ?_
    rw [fd_lud_S]
    exact ih (k + 1) (by omega)

theorem fd_s_lookUpDues (M : fd_M) (hG : fd_CG M) : fd_call 6 35 [fd_R 0] M (none) (fd_lud M (M 3 2).toNat) := by
  refine fd_u_in (L := [fd_R 0, fd_R 1003]) rfl ?_
  obtain ⟨g0, g1, g2, g3, g4, g5⟩ := hG.1
  refine fd_u_blk 2 (C := fd_c35) (b := true) (L' := [fd_R 0, fd_I 0]) (st' := []) (M' := M) rfl rfl (j := 2) rfl (rfl) ?_
  have z := fd_l_lookUp M hG (M 3 2).toNat 0 (by omega)
  rw [fd_lud_0] at z
  exact z

def fd_ds (f : Nat → Int) (s : Int) (n : Nat) : Int := fd_sum (fun d => if s / 2 ^ d % 2 = 1 then f d else 0) n
def fd_wt (s x : Int) (n : Nat) : Int := fd_prod (fun d => if s / 2 ^ d % 2 = 1 then x else 10 - x) n
theorem fd_ds_rng {f : Nat → Int} (s : Int) (n : Nat) (h : ∀ j, j < n → 0 ≤ f j ∧ f j ≤ 18) : 0 ≤ fd_ds f s n ∧ fd_ds f s n ≤ n * 18 := by
  refine fd_sumR n ?_
  intro j hj
  try dsimp only
  split
  · exact h j hj
  · omega
theorem fd_wt_rng {s x : Int} (n : Nat) (h : 0 ≤ x ∧ x ≤ 10) : 0 ≤ fd_wt s x n ∧ fd_wt s x n ≤ 10 ^ n := by
  refine fd_prod_rng n ?_
  intro j hj
  try dsimp only
  split <;> omega
theorem fd_l_dueOfSet (M : fd_M) (hP : 0 ≤ M 3 2 ∧ M 3 2 ≤ 6) (s : Int) (hs : 0 ≤ s ∧ s < 2147483648) : ∀ (n : Nat) (k : Nat) (hk : (k : Int) + n = M 3 2), fd_run 1 36 4 [fd_R 0, fd_I s, fd_I (fd_ds (M 81) s k), fd_I ((k : Nat) : Int)] [] M (some (fd_I (fd_ds (M 81) s (M 3 2).toNat))) M := by
  intro n
  induction n with
  | zero =>
    intro k hk
    refine fd_u_blk 4 (C := fd_c36) (b := true) (L' := [fd_R 0, fd_I s, fd_I (fd_ds (M 81) s k), fd_I ((k : Nat) : Int)]) (st' := [fd_I (M 3 2), fd_I ((k : Nat) : Int)]) (M' := M) rfl rfl (j := 8) rfl (rfl) ?_
    refine fd_u_br (C := fd_c36) (t := 22) (e := 9) (st' := []) (c := (M 3 2) ≤ ((k : Nat) : Int)) (b := (fd_rng ((k : Nat) : Int) && fd_rng (M 3 2))) rfl rfl rfl (fd_bA (fd_bR (by omega) (by omega)) (fd_bR (by omega) (by omega))) (fun h8 => ?_) (fun h8 => absurd h8 (by omega))
    refine fd_u_blk 1 (C := fd_c36) (b := true) (L' := [fd_R 0, fd_I s, fd_I (fd_ds (M 81) s k), fd_I ((k : Nat) : Int)]) (st' := [fd_I (fd_ds (M 81) s k)]) (M' := M) rfl rfl (j := 23) rfl (rfl) ?_
    refine fd_u_ret (C := fd_c36) (b := true) (r' := some (fd_I (fd_ds (M 81) s k))) rfl rfl rfl (rfl) ?_ ?_
    · rw [show (M 3 2).toNat = k by omega]
    · rfl
  | succ n ih =>
    intro k hk
    refine fd_u_blk 4 (C := fd_c36) (b := true) (L' := [fd_R 0, fd_I s, fd_I (fd_ds (M 81) s k), fd_I ((k : Nat) : Int)]) (st' := [fd_I (M 3 2), fd_I ((k : Nat) : Int)]) (M' := M) rfl rfl (j := 8) rfl (rfl) ?_
    refine fd_u_br (C := fd_c36) (t := 22) (e := 9) (st' := []) (c := (M 3 2) ≤ ((k : Nat) : Int)) (b := (fd_rng ((k : Nat) : Int) && fd_rng (M 3 2))) rfl rfl rfl (fd_bA (fd_bR (by omega) (by omega)) (fd_bR (by omega) (by omega))) (fun h8 => absurd h8 (by omega)) (fun h8 => ?_)
    refine fd_u_blk 2 (C := fd_c36) (b := true) (L' := [fd_R 0, fd_I s, fd_I (fd_ds (M 81) s k), fd_I ((k : Nat) : Int)]) (st' := [fd_I ((k : Nat) : Int), fd_I s]) (M' := M) rfl rfl (j := 11) rfl (rfl) ?_
    refine fd_u_call (C := fd_c36) (d0 := 0) (mid := 44) (np := 2) (args := [fd_I s, fd_I ((k : Nat) : Int)]) (r1 := some (fd_I (fd_bi (s / 2 ^ ((k : Nat) : Int).toNat % 2 = 1)))) (M1 := M) (st' := [fd_I (fd_bi (s / 2 ^ ((k : Nat) : Int).toNat % 2 = 1))]) rfl rfl rfl rfl rfl rfl (rfl) (fd_s_hasBit M s ((k : Nat) : Int) (by omega) (by omega)) rfl (by omega) ?_
    refine fd_u_br (C := fd_c36) (t := 20) (e := 13) (st' := []) (c := (fd_bi (s / 2 ^ ((k : Nat) : Int).toNat % 2 = 1)) = 0) (b := (fd_rng (fd_bi (s / 2 ^ ((k : Nat) : Int).toNat % 2 = 1)))) rfl rfl rfl (fd_biR) (fun h12 => ?_) (fun h12 => ?_)
    · have h12 := fd_biF.mp h12
      refine fd_u_blk 1 (C := fd_c36) (b := true) (L' := [fd_R 0, fd_I s, fd_I (fd_ds (M 81) s k), fd_I (((k + 1) : Nat) : Int)]) (st' := []) (M' := M) rfl rfl (j := 21) rfl (rfl) ?_
      refine fd_u_jmp (C := fd_c36) (j := 4) (st' := []) rfl rfl (b := true) rfl rfl ?_
      have e5 : (fd_ds (M 81) s k) = (fd_ds (M 81) s (k + 1)) := by
        show _ = fd_ds (M 81) s k + (if s / 2 ^ k % 2 = 1 then M 81 k else 0)
        rw [if_neg (show ¬ s / 2 ^ k % 2 = 1 from h12)]; omega
      rw [e5]
      exact ih (k + 1) (by omega)
    · have h12 := fd_biT.mp h12
      refine fd_u_blk 8 (C := fd_c36) (b := (fd_inb ((k : Nat) : Int) 6 && true)) (L' := [fd_R 0, fd_I s, fd_I ((fd_ds (M 81) s k) + (M 81 k)), fd_I (((k + 1) : Nat) : Int)]) (st' := []) (M' := M) rfl rfl (j := 21) rfl (fd_bA (fd_bI (by omega) (by omega)) (rfl)) ?_
      refine fd_u_jmp (C := fd_c36) (j := 4) (st' := []) rfl rfl (b := true) rfl rfl ?_
      have e5 : ((fd_ds (M 81) s k) + (M 81 k)) = (fd_ds (M 81) s (k + 1)) := by
        show _ = fd_ds (M 81) s k + (if s / 2 ^ k % 2 = 1 then M 81 k else 0)
        rw [if_pos (show s / 2 ^ k % 2 = 1 from h12)]
      rw [e5]
      exact ih (k + 1) (by omega)

theorem fd_s_dueOfSet (M : fd_M) (hP : 0 ≤ M 3 2 ∧ M 3 2 ≤ 6) (s : Int) (hs : 0 ≤ s ∧ s < 2147483648) : fd_call 1 36 [fd_R 0, fd_I s] M (some (fd_I (fd_ds (M 81) s (M 3 2).toNat))) M := by
  refine fd_u_in (L := [fd_R 0, fd_I s, fd_R 1003, fd_R 1003]) rfl ?_
  refine fd_u_blk 4 (C := fd_c36) (b := true) (L' := [fd_R 0, fd_I s, fd_I 0, fd_I 0]) (st' := []) (M' := M) rfl rfl (j := 4) rfl (rfl) ?_
  exact fd_l_dueOfSet M hP s hs (M 3 2).toNat 0 (by omega)

theorem fd_l_weight (M : fd_M) (hP : 0 ≤ M 3 2 ∧ M 3 2 ≤ 6) (s : Int) (hs : 0 ≤ s ∧ s < 2147483648) (x : Int) : ∀ (n : Nat) (k : Nat) (hk : (k : Int) + n = M 3 2), fd_run 1 37 4 [fd_R 0, fd_I s, fd_I x, fd_I (fd_wt s x k), fd_I ((k : Nat) : Int)] [] M (some (fd_I (fd_wt s x (M 3 2).toNat))) M := by
  intro n
  induction n with
  | zero =>
    intro k hk
    refine fd_u_blk 4 (C := fd_c37) (b := true) (L' := [fd_R 0, fd_I s, fd_I x, fd_I (fd_wt s x k), fd_I ((k : Nat) : Int)]) (st' := [fd_I (M 3 2), fd_I ((k : Nat) : Int)]) (M' := M) rfl rfl (j := 8) rfl (rfl) ?_
    refine fd_u_br (C := fd_c37) (t := 23) (e := 9) (st' := []) (c := (M 3 2) ≤ ((k : Nat) : Int)) (b := (fd_rng ((k : Nat) : Int) && fd_rng (M 3 2))) rfl rfl rfl (fd_bA (fd_bR (by omega) (by omega)) (fd_bR (by omega) (by omega))) (fun h8 => ?_) (fun h8 => absurd h8 (by omega))
    refine fd_u_blk 1 (C := fd_c37) (b := true) (L' := [fd_R 0, fd_I s, fd_I x, fd_I (fd_wt s x k), fd_I ((k : Nat) : Int)]) (st' := [fd_I (fd_wt s x k)]) (M' := M) rfl rfl (j := 24) rfl (rfl) ?_
    refine fd_u_ret (C := fd_c37) (b := true) (r' := some (fd_I (fd_wt s x k))) rfl rfl rfl (rfl) ?_ ?_
    · rw [show (M 3 2).toNat = k by omega]
    · rfl
  | succ n ih =>
    intro k hk
    refine fd_u_blk 4 (C := fd_c37) (b := true) (L' := [fd_R 0, fd_I s, fd_I x, fd_I (fd_wt s x k), fd_I ((k : Nat) : Int)]) (st' := [fd_I (M 3 2), fd_I ((k : Nat) : Int)]) (M' := M) rfl rfl (j := 8) rfl (rfl) ?_
    refine fd_u_br (C := fd_c37) (t := 23) (e := 9) (st' := []) (c := (M 3 2) ≤ ((k : Nat) : Int)) (b := (fd_rng ((k : Nat) : Int) && fd_rng (M 3 2))) rfl rfl rfl (fd_bA (fd_bR (by omega) (by omega)) (fd_bR (by omega) (by omega))) (fun h8 => absurd h8 (by omega)) (fun h8 => ?_)
    refine fd_u_blk 3 (C := fd_c37) (b := true) (L' := [fd_R 0, fd_I s, fd_I x, fd_I (fd_wt s x k), fd_I ((k : Nat) : Int)]) (st' := [fd_I ((k : Nat) : Int), fd_I s, fd_I (fd_wt s x k)]) (M' := M) rfl rfl (j := 12) rfl (rfl) ?_
    refine fd_u_call (C := fd_c37) (d0 := 0) (mid := 44) (np := 2) (args := [fd_I s, fd_I ((k : Nat) : Int)]) (r1 := some (fd_I (fd_bi (s / 2 ^ ((k : Nat) : Int).toNat % 2 = 1)))) (M1 := M) (st' := [fd_I (fd_bi (s / 2 ^ ((k : Nat) : Int).toNat % 2 = 1)), fd_I (fd_wt s x k)]) rfl rfl rfl rfl rfl rfl (rfl) (fd_s_hasBit M s ((k : Nat) : Int) (by omega) (by omega)) rfl (by omega) ?_
    refine fd_u_br (C := fd_c37) (t := 16) (e := 14) (st' := [fd_I (fd_wt s x k)]) (c := (fd_bi (s / 2 ^ ((k : Nat) : Int).toNat % 2 = 1)) = 0) (b := (fd_rng (fd_bi (s / 2 ^ ((k : Nat) : Int).toNat % 2 = 1)))) rfl rfl rfl (fd_biR) (fun h13 => ?_) (fun h13 => ?_)
    · have h13 := fd_biF.mp h13
      refine fd_u_blk 6 (C := fd_c37) (b := true) (L' := [fd_R 0, fd_I s, fd_I x, fd_I ((fd_wt s x k) * (10 - x)), fd_I (((k + 1) : Nat) : Int)]) (st' := []) (M' := M) rfl rfl (j := 22) rfl (rfl) ?_
      refine fd_u_jmp (C := fd_c37) (j := 4) (st' := []) rfl rfl (b := true) rfl rfl ?_
      have e5 : ((fd_wt s x k) * (10 - x)) = (fd_wt s x (k + 1)) := by
        show _ = fd_wt s x k * (if s / 2 ^ k % 2 = 1 then x else 10 - x)
        rw [if_neg (show ¬ s / 2 ^ k % 2 = 1 from h13)]
      rw [e5]
      exact ih (k + 1) (by omega)
    · have h13 := fd_biT.mp h13
      refine fd_u_blk 1 (C := fd_c37) (b := true) (L' := [fd_R 0, fd_I s, fd_I x, fd_I (fd_wt s x k), fd_I ((k : Nat) : Int)]) (st' := [fd_I x, fd_I (fd_wt s x k)]) (M' := M) rfl rfl (j := 15) rfl (rfl) ?_
      refine fd_u_jmp (C := fd_c37) (j := 19) (st' := [fd_I x, fd_I (fd_wt s x k)]) rfl rfl (b := true) rfl rfl ?_
      refine fd_u_blk 3 (C := fd_c37) (b := true) (L' := [fd_R 0, fd_I s, fd_I x, fd_I ((fd_wt s x k) * x), fd_I (((k + 1) : Nat) : Int)]) (st' := []) (M' := M) rfl rfl (j := 22) rfl (rfl) ?_
      refine fd_u_jmp (C := fd_c37) (j := 4) (st' := []) rfl rfl (b := true) rfl rfl ?_
      have e5 : ((fd_wt s x k) * x) = (fd_wt s x (k + 1)) := by
        show _ = fd_wt s x k * (if s / 2 ^ k % 2 = 1 then x else 10 - x)
        rw [if_pos (show s / 2 ^ k % 2 = 1 from h13)]
      rw [e5]
      exact ih (k + 1) (by omega)

theorem fd_s_weightOfSet (M : fd_M) (hP : 0 ≤ M 3 2 ∧ M 3 2 ≤ 6) (s : Int) (hs : 0 ≤ s ∧ s < 2147483648) (x : Int) : fd_call 1 37 [fd_R 0, fd_I s, fd_I x] M (some (fd_I (fd_wt s x (M 3 2).toNat))) M := by
  refine fd_u_in (L := [fd_R 0, fd_I s, fd_I x, fd_R 1003, fd_R 1003]) rfl ?_
  refine fd_u_blk 4 (C := fd_c37) (b := true) (L' := [fd_R 0, fd_I s, fd_I x, fd_I 1, fd_I 0]) (st' := []) (M' := M) rfl rfl (j := 4) rfl (rfl) ?_
  exact fd_l_weight M hP s hs x (M 3 2).toNat 0 (by omega)

def fd_agP (M : fd_M) (s : Int) (i : Nat) : Bool := decide ((if s / 2 ^ (M 79 i).toNat % 2 = 1 then M 81 (M 79 i).toNat else 0) = M 80 i)
def fd_TG (M : fd_M) : Prop := (0 ≤ M 78 2 ∧ M 78 2 ≤ 6) ∧ (∀ i : Nat, (i : Int) < M 78 2 → (0 ≤ M 79 i ∧ M 79 i < M 3 2) ∧ (0 ≤ M 80 i ∧ M 80 i ≤ 99))
theorem fd_l_agrees (M : fd_M) (hP : 0 ≤ M 3 2 ∧ M 3 2 ≤ 6) (hT : fd_TG M) (h81 : ∀ j : Nat, (j : Int) < M 3 2 → 0 ≤ M 81 j ∧ M 81 j ≤ 18) (s : Int) (hs : 0 ≤ s ∧ s < 2147483648) : ∀ (n : Nat) (k : Nat) (u : fd_V) (hk : (k : Int) + n = M 78 2) (ha : fd_all (fd_agP M s) k = true), fd_run 1 168 2 [fd_R 78, fd_I s, fd_R 81, fd_I ((k : Nat) : Int), u] [] M (some (fd_I (fd_bi (fd_all (fd_agP M s) (M 78 2).toNat = true)))) M := by
  have t0 := hT.1
  intro n
  induction n with
  | zero =>
    intro k u hk ha
    refine fd_u_blk 3 (C := fd_c168) (b := true) (L' := [fd_R 78, fd_I s, fd_R 81, fd_I ((k : Nat) : Int), u]) (st' := [fd_I (M 78 2), fd_I ((k : Nat) : Int)]) (M' := M) rfl rfl (j := 5) rfl (rfl) ?_
    refine fd_u_br (C := fd_c168) (t := 32) (e := 6) (st' := []) (c := (M 78 2) ≤ ((k : Nat) : Int)) (b := (fd_rng ((k : Nat) : Int) && fd_rng (M 78 2))) rfl rfl rfl (fd_bA (fd_bR (by omega) (by omega)) (fd_bR (by omega) (by omega))) (fun h5 => ?_) (fun h5 => absurd h5 (by omega))
    refine fd_u_blk 1 (C := fd_c168) (b := true) (L' := [fd_R 78, fd_I s, fd_R 81, fd_I ((k : Nat) : Int), u]) (st' := [fd_I 1]) (M' := M) rfl rfl (j := 33) rfl (rfl) ?_
    refine fd_u_ret (C := fd_c168) (b := true) (r' := some (fd_I 1)) rfl rfl rfl (rfl) ?_ ?_
    · refine fd_ok1 ?_
      rw [show (M 78 2).toNat = k by omega]
      exact ha
    · rfl
  | succ n ih =>
    intro k u hk ha
    have t1 := hT.2 k (by omega)
    have t2 := h81 (M 79 k).toNat (by omega)
    refine fd_u_blk 3 (C := fd_c168) (b := true) (L' := [fd_R 78, fd_I s, fd_R 81, fd_I ((k : Nat) : Int), u]) (st' := [fd_I (M 78 2), fd_I ((k : Nat) : Int)]) (M' := M) rfl rfl (j := 5) rfl (rfl) ?_
    refine fd_u_br (C := fd_c168) (t := 32) (e := 6) (st' := []) (c := (M 78 2) ≤ ((k : Nat) : Int)) (b := (fd_rng ((k : Nat) : Int) && fd_rng (M 78 2))) rfl rfl rfl (fd_bA (fd_bR (by omega) (by omega)) (fd_bR (by omega) (by omega))) (fun h5 => absurd h5 (by omega)) (fun h5 => ?_)
    refine fd_u_blk 5 (C := fd_c168) (b := (fd_inb ((k : Nat) : Int) 6 && true)) (L' := [fd_R 78, fd_I s, fd_R 81, fd_I ((k : Nat) : Int), u]) (st' := [fd_I (M 79 k), fd_I s]) (M' := M) rfl rfl (j := 11) rfl (fd_bA (fd_bI (by omega) (by omega)) (rfl)) ?_
    refine fd_u_call (C := fd_c168) (d0 := 0) (mid := 44) (np := 2) (args := [fd_I s, fd_I (M 79 k)]) (r1 := some (fd_I (fd_bi (s / 2 ^ (M 79 k).toNat % 2 = 1)))) (M1 := M) (st' := [fd_I (fd_bi (s / 2 ^ (M 79 k).toNat % 2 = 1))]) rfl rfl rfl rfl rfl rfl (rfl) (fd_s_hasBit M s (M 79 k) (by omega) (by omega)) rfl (by omega) ?_
    refine fd_u_br (C := fd_c168) (t := 20) (e := 13) (st' := []) (c := (fd_bi (s / 2 ^ (M 79 k).toNat % 2 = 1)) = 0) (b := (fd_rng (fd_bi (s / 2 ^ (M 79 k).toNat % 2 = 1)))) rfl rfl rfl (fd_biR) (fun h12 => ?_) (fun h12 => ?_)
    · have h12 := fd_biF.mp h12
      refine fd_u_blk 7 (C := fd_c168) (b := (fd_inb ((k : Nat) : Int) 6 && true)) (L' := [fd_R 78, fd_I s, fd_R 81, fd_I ((k : Nat) : Int), fd_I 0]) (st' := [fd_I (M 80 k), fd_I 0]) (M' := M) rfl rfl (j := 27) rfl (fd_bA (fd_bI (by omega) (by omega)) (rfl)) ?_
      refine fd_u_br (C := fd_c168) (t := 30) (e := 28) (st' := []) (c := 0 = (M 80 k)) (b := (fd_rng 0 && fd_rng (M 80 k))) rfl rfl rfl (fd_bA (fd_bR (by omega) (by omega)) (fd_bR (by omega) (by omega))) (fun h27 => ?_) (fun h27 => ?_)
      · refine fd_u_blk 1 (C := fd_c168) (b := true) (L' := [fd_R 78, fd_I s, fd_R 81, fd_I (((k + 1) : Nat) : Int), fd_I 0]) (st' := []) (M' := M) rfl rfl (j := 31) rfl (rfl) ?_
        refine fd_u_jmp (C := fd_c168) (j := 2) (st' := []) rfl rfl (b := true) rfl rfl ?_
        refine ih (k + 1) _ (by omega) ?_
        show (fd_all (fd_agP M s) k && fd_agP M s k) = true
        rw [ha, Bool.true_and]
        unfold fd_agP
        apply decide_eq_true
        first | (rw [if_pos h12]; omega) | (rw [if_neg h12]; omega)
      · refine fd_u_blk 1 (C := fd_c168) (b := true) (L' := [fd_R 78, fd_I s, fd_R 81, fd_I ((k : Nat) : Int), fd_I 0]) (st' := [fd_I 0]) (M' := M) rfl rfl (j := 29) rfl (rfl) ?_
        refine fd_u_ret (C := fd_c168) (b := true) (r' := some (fd_I 0)) rfl rfl rfl (rfl) ?_ ?_
        · refine fd_ok0 (fun q => ?_)
          have q2 := (fd_all_iff _).mp q k (by omega)
          unfold fd_agP at q2
          have q3 := of_decide_eq_true q2
          first | (rw [if_pos h12] at q3; exact h27 q3) | (rw [if_neg h12] at q3; exact h27 q3)
        · rfl
    · have h12 := fd_biT.mp h12
      refine fd_u_blk 6 (C := fd_c168) (b := (fd_inb ((k : Nat) : Int) 6 && (fd_inb (M 79 k) 6 && true))) (L' := [fd_R 78, fd_I s, fd_R 81, fd_I ((k : Nat) : Int), u]) (st' := [fd_I (M 81 (M 79 k).toNat)]) (M' := M) rfl rfl (j := 19) rfl (fd_bA (fd_bI (by omega) (by omega)) (fd_bA (fd_bI (by omega) (by omega)) (rfl))) ?_
      refine fd_u_jmp (C := fd_c168) (j := 21) (st' := [fd_I (M 81 (M 79 k).toNat)]) rfl rfl (b := true) rfl rfl ?_
      refine fd_u_blk 6 (C := fd_c168) (b := (fd_inb ((k : Nat) : Int) 6 && true)) (L' := [fd_R 78, fd_I s, fd_R 81, fd_I ((k : Nat) : Int), fd_I (M 81 (M 79 k).toNat)]) (st' := [fd_I (M 80 k), fd_I (M 81 (M 79 k).toNat)]) (M' := M) rfl rfl (j := 27) rfl (fd_bA (fd_bI (by omega) (by omega)) (rfl)) ?_
      refine fd_u_br (C := fd_c168) (t := 30) (e := 28) (st' := []) (c := (M 81 (M 79 k).toNat) = (M 80 k)) (b := (fd_rng (M 81 (M 79 k).toNat) && fd_rng (M 80 k))) rfl rfl rfl (fd_bA (fd_bR (by omega) (by omega)) (fd_bR (by omega) (by omega))) (fun h27 => ?_) (fun h27 => ?_)
      · refine fd_u_blk 1 (C := fd_c168) (b := true) (L' := [fd_R 78, fd_I s, fd_R 81, fd_I (((k + 1) : Nat) : Int), fd_I (M 81 (M 79 k).toNat)]) (st' := []) (M' := M) rfl rfl (j := 31) rfl (rfl) ?_
        refine fd_u_jmp (C := fd_c168) (j := 2) (st' := []) rfl rfl (b := true) rfl rfl ?_
        refine ih (k + 1) _ (by omega) ?_
        show (fd_all (fd_agP M s) k && fd_agP M s k) = true
        rw [ha, Bool.true_and]
        unfold fd_agP
        apply decide_eq_true
        first | (rw [if_pos h12]; omega) | (rw [if_neg h12]; omega)
      · refine fd_u_blk 1 (C := fd_c168) (b := true) (L' := [fd_R 78, fd_I s, fd_R 81, fd_I ((k : Nat) : Int), fd_I (M 81 (M 79 k).toNat)]) (st' := [fd_I 0]) (M' := M) rfl rfl (j := 29) rfl (rfl) ?_
        refine fd_u_ret (C := fd_c168) (b := true) (r' := some (fd_I 0)) rfl rfl rfl (rfl) ?_ ?_
        · refine fd_ok0 (fun q => ?_)
          have q2 := (fd_all_iff _).mp q k (by omega)
          unfold fd_agP at q2
          have q3 := of_decide_eq_true q2
          first | (rw [if_pos h12] at q3; exact h27 q3) | (rw [if_neg h12] at q3; exact h27 q3)
        · rfl

theorem fd_s_agrees (M : fd_M) (hP : 0 ≤ M 3 2 ∧ M 3 2 ≤ 6) (hT : fd_TG M) (h81 : ∀ j : Nat, (j : Int) < M 3 2 → 0 ≤ M 81 j ∧ M 81 j ≤ 18) (s : Int) (hs : 0 ≤ s ∧ s < 2147483648) : fd_call 1 168 [fd_R 78, fd_I s, fd_R 81] M (some (fd_I (fd_bi (fd_all (fd_agP M s) (M 78 2).toNat = true)))) M := by
  refine fd_u_in (L := [fd_R 78, fd_I s, fd_R 81, fd_R 1003, fd_R 1003]) rfl ?_
  have t0 := hT.1
  refine fd_u_blk 2 (C := fd_c168) (b := true) (L' := [fd_R 78, fd_I s, fd_R 81, fd_I 0, fd_R 1003]) (st' := []) (M' := M) rfl rfl (j := 2) rfl (rfl) ?_
  exact fd_l_agrees M hP hT h81 s hs (M 78 2).toNat 0 _ (by omega) rfl

theorem fd_l_open (M : fd_M) (hP : 0 ≤ M 3 2 ∧ M 3 2 ≤ 6) (hT : fd_TG M) (h81 : ∀ j : Nat, (j : Int) < M 3 2 → 0 ≤ M 81 j ∧ M 81 j ≤ 18) (A : Nat) (hA : A ≤ 64) (w : Int) (hw : 0 ≤ w ∧ w ≤ 2) : ∀ (n : Nat) (k : Nat) (hk : k + n = A), fd_run 7 20 24 [fd_R 0, fd_I w, fd_I ((A : Int) - 1), fd_I (fd_cnt (fun s => fd_all (fd_agP M (s : Int)) (M 78 2).toNat) k), fd_I (fd_fst (fun s => fd_all (fd_agP M (s : Int)) (M 78 2).toNat) k), fd_I (fd_com (fun s => fd_all (fd_agP M (s : Int)) (M 78 2).toNat) ((A : Int) - 1) k), fd_I ((k : Nat) : Int)] [] M (some (fd_I (if w = 0 then fd_cnt (fun s => fd_all (fd_agP M (s : Int)) (M 78 2).toNat) A else if fd_cnt (fun s => fd_all (fd_agP M (s : Int)) (M 78 2).toNat) A = 0 then -9 else if w = 1 then fd_fst (fun s => fd_all (fd_agP M (s : Int)) (M 78 2).toNat) A else fd_com (fun s => fd_all (fd_agP M (s : Int)) (M 78 2).toNat) ((A : Int) - 1) A))) M := by
  intro n
  induction n with
  | zero =>
    intro k hk
    have rf := fd_fst_rng (fun s => fd_all (fd_agP M (s : Int)) (M 78 2).toNat) k
    have rc := fd_cnt_rng (fun s => fd_all (fd_agP M (s : Int)) (M 78 2).toNat) k
    refine fd_u_blk 2 (C := fd_c20) (b := true) (L' := [fd_R 0, fd_I w, fd_I ((A : Int) - 1), fd_I (fd_cnt (fun s => fd_all (fd_agP M (s : Int)) (M 78 2).toNat) k), fd_I (fd_fst (fun s => fd_all (fd_agP M (s : Int)) (M 78 2).toNat) k), fd_I (fd_com (fun s => fd_all (fd_agP M (s : Int)) (M 78 2).toNat) ((A : Int) - 1) k), fd_I ((k : Nat) : Int)]) (st' := [fd_I ((A : Int) - 1), fd_I ((k : Nat) : Int)]) (M' := M) rfl rfl (j := 26) rfl (rfl) ?_
    refine fd_u_br (C := fd_c20) (t := 48) (e := 27) (st' := []) (c := ((A : Int) - 1) < ((k : Nat) : Int)) (b := (fd_rng ((k : Nat) : Int) && fd_rng ((A : Int) - 1))) rfl rfl rfl (fd_bA (fd_bR (by omega) (by omega)) (fd_bR (by omega) (by omega))) (fun h26 => ?_) (fun h26 => absurd h26 (by omega))
    refine fd_u_blk 1 (C := fd_c20) (b := true) (L' := [fd_R 0, fd_I w, fd_I ((A : Int) - 1), fd_I (fd_cnt (fun s => fd_all (fd_agP M (s : Int)) (M 78 2).toNat) k), fd_I (fd_fst (fun s => fd_all (fd_agP M (s : Int)) (M 78 2).toNat) k), fd_I (fd_com (fun s => fd_all (fd_agP M (s : Int)) (M 78 2).toNat) ((A : Int) - 1) k), fd_I ((k : Nat) : Int)]) (st' := [fd_I w]) (M' := M) rfl rfl (j := 49) rfl (rfl) ?_
    refine fd_u_br (C := fd_c20) (t := 52) (e := 50) (st' := []) (c := ¬ w = 0) (b := (fd_rng w)) rfl rfl rfl (fd_bR (by omega) (by omega)) (fun h49 => ?_) (fun h49 => ?_)
    · refine fd_u_blk 1 (C := fd_c20) (b := true) (L' := [fd_R 0, fd_I w, fd_I ((A : Int) - 1), fd_I (fd_cnt (fun s => fd_all (fd_agP M (s : Int)) (M 78 2).toNat) k), fd_I (fd_fst (fun s => fd_all (fd_agP M (s : Int)) (M 78 2).toNat) k), fd_I (fd_com (fun s => fd_all (fd_agP M (s : Int)) (M 78 2).toNat) ((A : Int) - 1) k), fd_I ((k : Nat) : Int)]) (st' := [fd_I (fd_cnt (fun s => fd_all (fd_agP M (s : Int)) (M 78 2).toNat) k)]) (M' := M) rfl rfl (j := 53) rfl (rfl) ?_
      refine fd_u_br (C := fd_c20) (t := 56) (e := 54) (st' := []) (c := ¬ (fd_cnt (fun s => fd_all (fd_agP M (s : Int)) (M 78 2).toNat) k) = 0) (b := (fd_rng (fd_cnt (fun s => fd_all (fd_agP M (s : Int)) (M 78 2).toNat) k))) rfl rfl rfl (fd_bR (by omega) (by omega)) (fun h53 => ?_) (fun h53 => ?_)
      · refine fd_u_blk 2 (C := fd_c20) (b := true) (L' := [fd_R 0, fd_I w, fd_I ((A : Int) - 1), fd_I (fd_cnt (fun s => fd_all (fd_agP M (s : Int)) (M 78 2).toNat) k), fd_I (fd_fst (fun s => fd_all (fd_agP M (s : Int)) (M 78 2).toNat) k), fd_I (fd_com (fun s => fd_all (fd_agP M (s : Int)) (M 78 2).toNat) ((A : Int) - 1) k), fd_I ((k : Nat) : Int)]) (st' := [fd_I 1, fd_I w]) (M' := M) rfl rfl (j := 58) rfl (rfl) ?_
        refine fd_u_br (C := fd_c20) (t := 61) (e := 59) (st' := []) (c := ¬ w = 1) (b := (fd_rng w && fd_rng 1)) rfl rfl rfl (fd_bA (fd_bR (by omega) (by omega)) (fd_bR (by omega) (by omega))) (fun h58 => ?_) (fun h58 => ?_)
        · refine fd_u_blk 1 (C := fd_c20) (b := true) (L' := [fd_R 0, fd_I w, fd_I ((A : Int) - 1), fd_I (fd_cnt (fun s => fd_all (fd_agP M (s : Int)) (M 78 2).toNat) k), fd_I (fd_fst (fun s => fd_all (fd_agP M (s : Int)) (M 78 2).toNat) k), fd_I (fd_com (fun s => fd_all (fd_agP M (s : Int)) (M 78 2).toNat) ((A : Int) - 1) k), fd_I ((k : Nat) : Int)]) (st' := [fd_I (fd_com (fun s => fd_all (fd_agP M (s : Int)) (M 78 2).toNat) ((A : Int) - 1) k)]) (M' := M) rfl rfl (j := 62) rfl (rfl) ?_
          refine fd_u_ret (C := fd_c20) (b := true) (r' := some (fd_I (fd_com (fun s => fd_all (fd_agP M (s : Int)) (M 78 2).toNat) ((A : Int) - 1) k))) rfl rfl rfl (rfl) ?_ ?_
          · first | (rw [if_pos (show w = 0 by omega)]; rw [show A = k by omega]) | (rw [if_neg (show ¬ w = 0 by omega), show A = k by omega, if_pos (show fd_cnt (fun s => fd_all (fd_agP M (s : Int)) (M 78 2).toNat) k = 0 by omega)]) | (rw [if_neg (show ¬ w = 0 by omega), show A = k by omega, if_neg (show ¬ fd_cnt (fun s => fd_all (fd_agP M (s : Int)) (M 78 2).toNat) k = 0 by omega), if_pos (show w = 1 by omega)]) | (rw [if_neg (show ¬ w = 0 by omega), show A = k by omega, if_neg (show ¬ fd_cnt (fun s => fd_all (fd_agP M (s : Int)) (M 78 2).toNat) k = 0 by omega), if_neg (show ¬ w = 1 by omega)])
          · rfl
        · refine fd_u_blk 1 (C := fd_c20) (b := true) (L' := [fd_R 0, fd_I w, fd_I ((A : Int) - 1), fd_I (fd_cnt (fun s => fd_all (fd_agP M (s : Int)) (M 78 2).toNat) k), fd_I (fd_fst (fun s => fd_all (fd_agP M (s : Int)) (M 78 2).toNat) k), fd_I (fd_com (fun s => fd_all (fd_agP M (s : Int)) (M 78 2).toNat) ((A : Int) - 1) k), fd_I ((k : Nat) : Int)]) (st' := [fd_I (fd_fst (fun s => fd_all (fd_agP M (s : Int)) (M 78 2).toNat) k)]) (M' := M) rfl rfl (j := 60) rfl (rfl) ?_
          refine fd_u_jmp (C := fd_c20) (j := 62) (st' := [fd_I (fd_fst (fun s => fd_all (fd_agP M (s : Int)) (M 78 2).toNat) k)]) rfl rfl (b := true) rfl rfl ?_
          refine fd_u_ret (C := fd_c20) (b := true) (r' := some (fd_I (fd_fst (fun s => fd_all (fd_agP M (s : Int)) (M 78 2).toNat) k))) rfl rfl rfl (rfl) ?_ ?_
          · first | (rw [if_pos (show w = 0 by omega)]; rw [show A = k by omega]) | (rw [if_neg (show ¬ w = 0 by omega), show A = k by omega, if_pos (show fd_cnt (fun s => fd_all (fd_agP M (s : Int)) (M 78 2).toNat) k = 0 by omega)]) | (rw [if_neg (show ¬ w = 0 by omega), show A = k by omega, if_neg (show ¬ fd_cnt (fun s => fd_all (fd_agP M (s : Int)) (M 78 2).toNat) k = 0 by omega), if_pos (show w = 1 by omega)]) | (rw [if_neg (show ¬ w = 0 by omega), show A = k by omega, if_neg (show ¬ fd_cnt (fun s => fd_all (fd_agP M (s : Int)) (M 78 2).toNat) k = 0 by omega), if_neg (show ¬ w = 1 by omega)])
          · rfl
      · refine fd_u_blk 1 (C := fd_c20) (b := true) (L' := [fd_R 0, fd_I w, fd_I ((A : Int) - 1), fd_I (fd_cnt (fun s => fd_all (fd_agP M (s : Int)) (M 78 2).toNat) k), fd_I (fd_fst (fun s => fd_all (fd_agP M (s : Int)) (M 78 2).toNat) k), fd_I (fd_com (fun s => fd_all (fd_agP M (s : Int)) (M 78 2).toNat) ((A : Int) - 1) k), fd_I ((k : Nat) : Int)]) (st' := [fd_I (-9)]) (M' := M) rfl rfl (j := 55) rfl (rfl) ?_
        refine fd_u_ret (C := fd_c20) (b := true) (r' := some (fd_I (-9))) rfl rfl rfl (rfl) ?_ ?_
        · first | (rw [if_pos (show w = 0 by omega)]; rw [show A = k by omega]) | (rw [if_neg (show ¬ w = 0 by omega), show A = k by omega, if_pos (show fd_cnt (fun s => fd_all (fd_agP M (s : Int)) (M 78 2).toNat) k = 0 by omega)]) | (rw [if_neg (show ¬ w = 0 by omega), show A = k by omega, if_neg (show ¬ fd_cnt (fun s => fd_all (fd_agP M (s : Int)) (M 78 2).toNat) k = 0 by omega), if_pos (show w = 1 by omega)]) | (rw [if_neg (show ¬ w = 0 by omega), show A = k by omega, if_neg (show ¬ fd_cnt (fun s => fd_all (fd_agP M (s : Int)) (M 78 2).toNat) k = 0 by omega), if_neg (show ¬ w = 1 by omega)])
        · rfl
    · refine fd_u_blk 1 (C := fd_c20) (b := true) (L' := [fd_R 0, fd_I w, fd_I ((A : Int) - 1), fd_I (fd_cnt (fun s => fd_all (fd_agP M (s : Int)) (M 78 2).toNat) k), fd_I (fd_fst (fun s => fd_all (fd_agP M (s : Int)) (M 78 2).toNat) k), fd_I (fd_com (fun s => fd_all (fd_agP M (s : Int)) (M 78 2).toNat) ((A : Int) - 1) k), fd_I ((k : Nat) : Int)]) (st' := [fd_I (fd_cnt (fun s => fd_all (fd_agP M (s : Int)) (M 78 2).toNat) k)]) (M' := M) rfl rfl (j := 51) rfl (rfl) ?_
      refine fd_u_ret (C := fd_c20) (b := true) (r' := some (fd_I (fd_cnt (fun s => fd_all (fd_agP M (s : Int)) (M 78 2).toNat) k))) rfl rfl rfl (rfl) ?_ ?_
      · first | (rw [if_pos (show w = 0 by omega)]; rw [show A = k by omega]) | (rw [if_neg (show ¬ w = 0 by omega), show A = k by omega, if_pos (show fd_cnt (fun s => fd_all (fd_agP M (s : Int)) (M 78 2).toNat) k = 0 by omega)]) | (rw [if_neg (show ¬ w = 0 by omega), show A = k by omega, if_neg (show ¬ fd_cnt (fun s => fd_all (fd_agP M (s : Int)) (M 78 2).toNat) k = 0 by omega), if_pos (show w = 1 by omega)]) | (rw [if_neg (show ¬ w = 0 by omega), show A = k by omega, if_neg (show ¬ fd_cnt (fun s => fd_all (fd_agP M (s : Int)) (M 78 2).toNat) k = 0 by omega), if_neg (show ¬ w = 1 by omega)])
      · rfl
  | succ n ih =>
    intro k hk
    have rf := fd_fst_rng (fun s => fd_all (fd_agP M (s : Int)) (M 78 2).toNat) k
    have rc := fd_cnt_rng (fun s => fd_all (fd_agP M (s : Int)) (M 78 2).toNat) k
    refine fd_u_blk 2 (C := fd_c20) (b := true) (L' := [fd_R 0, fd_I w, fd_I ((A : Int) - 1), fd_I (fd_cnt (fun s => fd_all (fd_agP M (s : Int)) (M 78 2).toNat) k), fd_I (fd_fst (fun s => fd_all (fd_agP M (s : Int)) (M 78 2).toNat) k), fd_I (fd_com (fun s => fd_all (fd_agP M (s : Int)) (M 78 2).toNat) ((A : Int) - 1) k), fd_I ((k : Nat) : Int)]) (st' := [fd_I ((A : Int) - 1), fd_I ((k : Nat) : Int)]) (M' := M) rfl rfl (j := 26) rfl (rfl) ?_
    refine fd_u_br (C := fd_c20) (t := 48) (e := 27) (st' := []) (c := ((A : Int) - 1) < ((k : Nat) : Int)) (b := (fd_rng ((k : Nat) : Int) && fd_rng ((A : Int) - 1))) rfl rfl rfl (fd_bA (fd_bR (by omega) (by omega)) (fd_bR (by omega) (by omega))) (fun h26 => absurd h26 (by omega)) (fun h26 => ?_)
    refine fd_u_blk 5 (C := fd_c20) (b := true) (L' := [fd_R 0, fd_I w, fd_I ((A : Int) - 1), fd_I (fd_cnt (fun s => fd_all (fd_agP M (s : Int)) (M 78 2).toNat) k), fd_I (fd_fst (fun s => fd_all (fd_agP M (s : Int)) (M 78 2).toNat) k), fd_I (fd_com (fun s => fd_all (fd_agP M (s : Int)) (M 78 2).toNat) ((A : Int) - 1) k), fd_I ((k : Nat) : Int)]) (st' := [fd_R 81, fd_I ((k : Nat) : Int), fd_R 78]) (M' := M) rfl rfl (j := 32) rfl (rfl) ?_
    refine fd_u_call (C := fd_c20) (d0 := 1) (mid := 168) (np := 3) (args := [fd_R 78, fd_I ((k : Nat) : Int), fd_R 81]) (r1 := some (fd_I (fd_bi (fd_all (fd_agP M ((k : Nat) : Int)) (M 78 2).toNat = true)))) (M1 := M) (st' := [fd_I (fd_bi (fd_all (fd_agP M ((k : Nat) : Int)) (M 78 2).toNat = true))]) rfl rfl rfl rfl rfl rfl (rfl) (fd_s_agrees M hP hT h81 ((k : Nat) : Int) (by omega)) rfl (by omega) ?_
    refine fd_u_br (C := fd_c20) (t := 46) (e := 34) (st' := []) (c := (fd_bi (fd_all (fd_agP M ((k : Nat) : Int)) (M 78 2).toNat = true)) = 0) (b := (fd_rng (fd_bi (fd_all (fd_agP M ((k : Nat) : Int)) (M 78 2).toNat = true)))) rfl rfl rfl (fd_biR) (fun h33 => ?_) (fun h33 => ?_)
    · have h33 := fd_biF.mp h33
      refine fd_u_blk 1 (C := fd_c20) (b := true) (L' := [fd_R 0, fd_I w, fd_I ((A : Int) - 1), fd_I (fd_cnt (fun s => fd_all (fd_agP M (s : Int)) (M 78 2).toNat) k), fd_I (fd_fst (fun s => fd_all (fd_agP M (s : Int)) (M 78 2).toNat) k), fd_I (fd_com (fun s => fd_all (fd_agP M (s : Int)) (M 78 2).toNat) ((A : Int) - 1) k), fd_I (((k + 1) : Nat) : Int)]) (st' := []) (M' := M) rfl rfl (j := 47) rfl (rfl) ?_
      refine fd_u_jmp (C := fd_c20) (j := 24) (st' := []) rfl rfl (b := true) rfl rfl ?_
      have e5 : (fd_cnt (fun s => fd_all (fd_agP M (s : Int)) (M 78 2).toNat) k) = (fd_cnt (fun s => fd_all (fd_agP M (s : Int)) (M 78 2).toNat) (k + 1)) := by
        show _ = fd_cnt (fun s => fd_all (fd_agP M (s : Int)) (M 78 2).toNat) k + (if fd_all (fd_agP M ((k : Nat) : Int)) (M 78 2).toNat = true then 1 else 0)
        rw [if_neg h33]; omega
      have e6 : (fd_fst (fun s => fd_all (fd_agP M (s : Int)) (M 78 2).toNat) k) = (fd_fst (fun s => fd_all (fd_agP M (s : Int)) (M 78 2).toNat) (k + 1)) := by
        show _ = if fd_fst (fun s => fd_all (fd_agP M (s : Int)) (M 78 2).toNat) k = -9 then (if fd_all (fd_agP M ((k : Nat) : Int)) (M 78 2).toNat = true then (k : Int) else -9) else fd_fst (fun s => fd_all (fd_agP M (s : Int)) (M 78 2).toNat) k
        rw [if_neg h33]
        by_cases z : fd_fst (fun s => fd_all (fd_agP M (s : Int)) (M 78 2).toNat) k = -9
        · rw [if_pos z, z]
        · rw [if_neg z]
      have e7 : (fd_com (fun s => fd_all (fd_agP M (s : Int)) (M 78 2).toNat) ((A : Int) - 1) k) = (fd_com (fun s => fd_all (fd_agP M (s : Int)) (M 78 2).toNat) ((A : Int) - 1) (k + 1)) := by
        show _ = if fd_all (fd_agP M ((k : Nat) : Int)) (M 78 2).toNat = true then fd_and (fd_com (fun s => fd_all (fd_agP M (s : Int)) (M 78 2).toNat) ((A : Int) - 1) k) (k : Int) else fd_com (fun s => fd_all (fd_agP M (s : Int)) (M 78 2).toNat) ((A : Int) - 1) k
        rw [if_neg h33]
      have zi := ih (k + 1) (by omega)
      rw [← e5, ← e6, ← e7] at zi
      exact zi
    · have h33 := fd_biT.mp h33
      refine fd_u_blk 3 (C := fd_c20) (b := true) (L' := [fd_R 0, fd_I w, fd_I ((A : Int) - 1), fd_I ((fd_cnt (fun s => fd_all (fd_agP M (s : Int)) (M 78 2).toNat) k) + 1), fd_I (fd_fst (fun s => fd_all (fd_agP M (s : Int)) (M 78 2).toNat) k), fd_I (fd_com (fun s => fd_all (fd_agP M (s : Int)) (M 78 2).toNat) ((A : Int) - 1) k), fd_I ((k : Nat) : Int)]) (st' := [fd_I (-9), fd_I (fd_fst (fun s => fd_all (fd_agP M (s : Int)) (M 78 2).toNat) k)]) (M' := M) rfl rfl (j := 37) rfl (rfl) ?_
      refine fd_u_br (C := fd_c20) (t := 40) (e := 38) (st' := []) (c := ¬ (fd_fst (fun s => fd_all (fd_agP M (s : Int)) (M 78 2).toNat) k) = (-9)) (b := (fd_rng (fd_fst (fun s => fd_all (fd_agP M (s : Int)) (M 78 2).toNat) k) && fd_rng (-9))) rfl rfl rfl (fd_bA (fd_bR (by omega) (by omega)) (fd_bR (by omega) (by omega))) (fun h37 => ?_) (fun h37 => ?_)
      · refine fd_u_blk 7 (C := fd_c20) (b := true) (L' := [fd_R 0, fd_I w, fd_I ((A : Int) - 1), fd_I ((fd_cnt (fun s => fd_all (fd_agP M (s : Int)) (M 78 2).toNat) k) + 1), fd_I (fd_fst (fun s => fd_all (fd_agP M (s : Int)) (M 78 2).toNat) k), fd_I (fd_and (fd_com (fun s => fd_all (fd_agP M (s : Int)) (M 78 2).toNat) ((A : Int) - 1) k) ((k : Nat) : Int)), fd_I (((k + 1) : Nat) : Int)]) (st' := []) (M' := M) rfl rfl (j := 47) rfl (rfl) ?_
        refine fd_u_jmp (C := fd_c20) (j := 24) (st' := []) rfl rfl (b := true) rfl rfl ?_
        have e5 : ((fd_cnt (fun s => fd_all (fd_agP M (s : Int)) (M 78 2).toNat) k) + 1) = (fd_cnt (fun s => fd_all (fd_agP M (s : Int)) (M 78 2).toNat) (k + 1)) := by
          show _ = fd_cnt (fun s => fd_all (fd_agP M (s : Int)) (M 78 2).toNat) k + (if fd_all (fd_agP M ((k : Nat) : Int)) (M 78 2).toNat = true then 1 else 0)
          rw [if_pos h33]
        have e6 : (fd_fst (fun s => fd_all (fd_agP M (s : Int)) (M 78 2).toNat) k) = (fd_fst (fun s => fd_all (fd_agP M (s : Int)) (M 78 2).toNat) (k + 1)) := by
          show _ = if fd_fst (fun s => fd_all (fd_agP M (s : Int)) (M 78 2).toNat) k = -9 then (if fd_all (fd_agP M ((k : Nat) : Int)) (M 78 2).toNat = true then (k : Int) else -9) else fd_fst (fun s => fd_all (fd_agP M (s : Int)) (M 78 2).toNat) k
          first | rw [if_pos (by omega), if_pos h33] | rw [if_neg (by omega)]
        have e7 : (fd_and (fd_com (fun s => fd_all (fd_agP M (s : Int)) (M 78 2).toNat) ((A : Int) - 1) k) ((k : Nat) : Int)) = (fd_com (fun s => fd_all (fd_agP M (s : Int)) (M 78 2).toNat) ((A : Int) - 1) (k + 1)) := by
          show _ = if fd_all (fd_agP M ((k : Nat) : Int)) (M 78 2).toNat = true then fd_and (fd_com (fun s => fd_all (fd_agP M (s : Int)) (M 78 2).toNat) ((A : Int) - 1) k) (k : Int) else fd_com (fun s => fd_all (fd_agP M (s : Int)) (M 78 2).toNat) ((A : Int) - 1) k
          rw [if_pos h33]
        have zi := ih (k + 1) (by omega)
        rw [← e5, ← e6, ← e7] at zi
        exact zi
      · refine fd_u_blk 1 (C := fd_c20) (b := true) (L' := [fd_R 0, fd_I w, fd_I ((A : Int) - 1), fd_I ((fd_cnt (fun s => fd_all (fd_agP M (s : Int)) (M 78 2).toNat) k) + 1), fd_I (fd_fst (fun s => fd_all (fd_agP M (s : Int)) (M 78 2).toNat) k), fd_I (fd_com (fun s => fd_all (fd_agP M (s : Int)) (M 78 2).toNat) ((A : Int) - 1) k), fd_I ((k : Nat) : Int)]) (st' := [fd_I ((k : Nat) : Int)]) (M' := M) rfl rfl (j := 39) rfl (rfl) ?_
        refine fd_u_jmp (C := fd_c20) (j := 41) (st' := [fd_I ((k : Nat) : Int)]) rfl rfl (b := true) rfl rfl ?_
        refine fd_u_blk 6 (C := fd_c20) (b := true) (L' := [fd_R 0, fd_I w, fd_I ((A : Int) - 1), fd_I ((fd_cnt (fun s => fd_all (fd_agP M (s : Int)) (M 78 2).toNat) k) + 1), fd_I ((k : Nat) : Int), fd_I (fd_and (fd_com (fun s => fd_all (fd_agP M (s : Int)) (M 78 2).toNat) ((A : Int) - 1) k) ((k : Nat) : Int)), fd_I (((k + 1) : Nat) : Int)]) (st' := []) (M' := M) rfl rfl (j := 47) rfl (rfl) ?_
        refine fd_u_jmp (C := fd_c20) (j := 24) (st' := []) rfl rfl (b := true) rfl rfl ?_
        have e5 : ((fd_cnt (fun s => fd_all (fd_agP M (s : Int)) (M 78 2).toNat) k) + 1) = (fd_cnt (fun s => fd_all (fd_agP M (s : Int)) (M 78 2).toNat) (k + 1)) := by
          show _ = fd_cnt (fun s => fd_all (fd_agP M (s : Int)) (M 78 2).toNat) k + (if fd_all (fd_agP M ((k : Nat) : Int)) (M 78 2).toNat = true then 1 else 0)
          rw [if_pos h33]
        have e6 : ((k : Nat) : Int) = (fd_fst (fun s => fd_all (fd_agP M (s : Int)) (M 78 2).toNat) (k + 1)) := by
          show _ = if fd_fst (fun s => fd_all (fd_agP M (s : Int)) (M 78 2).toNat) k = -9 then (if fd_all (fd_agP M ((k : Nat) : Int)) (M 78 2).toNat = true then (k : Int) else -9) else fd_fst (fun s => fd_all (fd_agP M (s : Int)) (M 78 2).toNat) k
          first | rw [if_pos (by omega), if_pos h33] | rw [if_neg (by omega)]
        have e7 : (fd_and (fd_com (fun s => fd_all (fd_agP M (s : Int)) (M 78 2).toNat) ((A : Int) - 1) k) ((k : Nat) : Int)) = (fd_com (fun s => fd_all (fd_agP M (s : Int)) (M 78 2).toNat) ((A : Int) - 1) (k + 1)) := by
          show _ = if fd_all (fd_agP M ((k : Nat) : Int)) (M 78 2).toNat = true then fd_and (fd_com (fun s => fd_all (fd_agP M (s : Int)) (M 78 2).toNat) ((A : Int) - 1) k) (k : Int) else fd_com (fun s => fd_all (fd_agP M (s : Int)) (M 78 2).toNat) ((A : Int) - 1) k
          rw [if_pos h33]
        have zi := ih (k + 1) (by omega)
        rw [← e5, ← e6, ← e7] at zi
        exact zi

theorem fd_pw (n : Nat) : (2 : Int) ^ n = ((2 ^ n : Nat) : Int) := by simp
theorem fd_pw6 {n : Nat} (h : n ≤ 6) : 2 ^ n ≤ 64 := (Nat.pow_le_pow_right (by decide) h : 2 ^ n ≤ 2 ^ 6)
def fd_oQ (M : fd_M) (s : Nat) : Bool := fd_all (fun i => decide ((if (s : Int) / 2 ^ (M 79 i).toNat % 2 = 1 then fd_dio M (M 79 i).toNat else 0) = M 80 i)) (M 78 2).toNat
def fd_X_open (M : fd_M) (w : Int) : Int := if ¬ (0 ≤ w ∧ w ≤ 2) then -1 else if w = 0 then fd_cnt (fd_oQ M) (2 ^ (M 3 2).toNat) else if fd_cnt (fd_oQ M) (2 ^ (M 3 2).toNat) = 0 then -9 else if w = 1 then fd_fst (fd_oQ M) (2 ^ (M 3 2).toNat) else fd_com (fd_oQ M) (((2 ^ (M 3 2).toNat : Nat) : Int) - 1) (2 ^ (M 3 2).toNat)
def fd_Y_open (M : fd_M) (w : Int) : fd_M := if ¬ (0 ≤ w ∧ w ≤ 2) then M else fd_lud M (M 3 2).toNat
theorem fd_all_congr {p q : Nat → Bool} : ∀ n : Nat, (∀ j, j < n → p j = q j) → fd_all p n = fd_all q n
  | 0, _ => rfl
  | n + 1, h => by
    show (fd_all p n && p n) = (fd_all q n && q n)
    rw [fd_all_congr n (fun j hj => h j (by omega)), h n (by omega)]
theorem fd_oQ_lud {M : fd_M} (hT : fd_TG M) : (fun s : Nat => fd_all (fd_agP (fd_lud M (M 3 2).toNat) (s : Int)) (fd_lud M (M 3 2).toNat 78 2).toNat) = fd_oQ M := by
  funext s
  unfold fd_oQ
  rw [show fd_lud M (M 3 2).toNat 78 = M 78 from fd_lud_fr (by decide)]
  apply fd_all_congr
  intro j hj
  have t := hT.2 j (by omega)
  unfold fd_agP
  rw [show fd_lud M (M 3 2).toNat 79 = M 79 from fd_lud_fr (by decide), show fd_lud M (M 3 2).toNat 80 = M 80 from fd_lud_fr (by decide), fd_lud_at (by omega)]
theorem fd_x_open (M : fd_M) (hG : fd_CG M) (hT : fd_TG M) (w : Int) (hw : -2147483648 ≤ w ∧ w < 2147483648) : fd_call 7 20 [fd_R 0, fd_I w] M (some (fd_I (fd_X_open M w))) (fd_Y_open M w) := by
  refine fd_u_in (L := [fd_R 0, fd_I w, fd_R 1003, fd_R 1003, fd_R 1003, fd_R 1003, fd_R 1003]) rfl ?_
  obtain ⟨g0, g1, g2, g3, g4, g5⟩ := hG.1
  refine fd_u_blk 1 (C := fd_c20) (b := true) (L' := [fd_R 0, fd_I w, fd_R 1003, fd_R 1003, fd_R 1003, fd_R 1003, fd_R 1003]) (st' := [fd_I w]) (M' := M) rfl rfl (j := 1) rfl (rfl) ?_
  refine fd_u_br (C := fd_c20) (t := 5) (e := 2) (st' := []) (c := w < 0) (b := (fd_rng w)) rfl rfl rfl (fd_bR (by omega) (by omega)) (fun h1 => ?_) (fun h1 => ?_)
  · refine fd_u_blk 1 (C := fd_c20) (b := true) (L' := [fd_R 0, fd_I w, fd_R 1003, fd_R 1003, fd_R 1003, fd_R 1003, fd_R 1003]) (st' := [fd_I (-1)]) (M' := M) rfl rfl (j := 6) rfl (rfl) ?_
    refine fd_u_ret (C := fd_c20) (b := true) (r' := some (fd_I (-1))) rfl rfl rfl (rfl) ?_ ?_
    · rw [fd_X_open, if_pos (show ¬ (0 ≤ w ∧ w ≤ 2) by omega)]
    · rw [fd_Y_open, if_pos (show ¬ (0 ≤ w ∧ w ≤ 2) by omega)]
  · refine fd_u_blk 2 (C := fd_c20) (b := true) (L' := [fd_R 0, fd_I w, fd_R 1003, fd_R 1003, fd_R 1003, fd_R 1003, fd_R 1003]) (st' := [fd_I 2, fd_I w]) (M' := M) rfl rfl (j := 4) rfl (rfl) ?_
    refine fd_u_br (C := fd_c20) (t := 7) (e := 5) (st' := []) (c := w ≤ 2) (b := (fd_rng w && fd_rng 2)) rfl rfl rfl (fd_bA (fd_bR (by omega) (by omega)) (fd_bR (by omega) (by omega))) (fun h4 => ?_) (fun h4 => ?_)
    · refine fd_u_blk 1 (C := fd_c20) (b := true) (L' := [fd_R 0, fd_I w, fd_R 1003, fd_R 1003, fd_R 1003, fd_R 1003, fd_R 1003]) (st' := [fd_R 0]) (M' := M) rfl rfl (j := 8) rfl (rfl) ?_
      refine fd_u_call (C := fd_c20) (d0 := 6) (mid := 35) (np := 1) (args := [fd_R 0]) (r1 := none) (M1 := (fd_lud M (M 3 2).toNat)) (st' := []) rfl rfl rfl rfl rfl rfl (rfl) (fd_s_lookUpDues M hG) rfl (by omega) ?_
      refine fd_u_blk 3 (C := fd_c20) (b := true) (L' := [fd_R 0, fd_I w, fd_R 1003, fd_R 1003, fd_R 1003, fd_R 1003, fd_R 1003]) (st' := [fd_I ((fd_lud M (M 3 2).toNat) 3 2)]) (M' := (fd_lud M (M 3 2).toNat)) rfl rfl (j := 12) rfl (rfl) ?_
      refine fd_u_call (C := fd_c20) (d0 := 0) (mid := 45) (np := 1) (args := [fd_I ((fd_lud M (M 3 2).toNat) 3 2)]) (r1 := some (fd_I (if M 3 2 = -1 then 0 else 2 ^ (M 3 2).toNat))) (M1 := (fd_lud M (M 3 2).toNat)) (st' := [fd_I (if M 3 2 = -1 then 0 else 2 ^ (M 3 2).toNat)]) rfl rfl rfl rfl rfl rfl (rfl) (fd_s_bitOf (fd_lud M (M 3 2).toNat) (M 3 2) (by omega)) rfl (by omega) ?_
      refine fd_u_blk 11 (C := fd_c20) (b := true) (L' := [fd_R 0, fd_I w, fd_I ((if M 3 2 = -1 then 0 else 2 ^ (M 3 2).toNat) - 1), fd_I 0, fd_I (-9), fd_I ((if M 3 2 = -1 then 0 else 2 ^ (M 3 2).toNat) - 1), fd_I 0]) (st' := []) (M' := (fd_lud M (M 3 2).toNat)) rfl rfl (j := 24) rfl (rfl) ?_
      rw [if_neg (show ¬ M 3 2 = -1 by omega), fd_pw]
      have z := fd_l_open (fd_lud M (M 3 2).toNat) g2 hT (fun j hj => by rw [fd_lud_at (by have : fd_lud M (M 3 2).toNat 3 2 = M 3 2 := rfl; omega)]; exact fd_dio_rng hG j) (2 ^ (M 3 2).toNat) (fd_pw6 (by omega)) w (by omega) (2 ^ (M 3 2).toNat) 0 (by omega)
      rw [fd_oQ_lud hT] at z
      rw [fd_X_open, fd_Y_open, if_neg (show ¬ ¬ (0 ≤ w ∧ w ≤ 2) by omega), if_neg (show ¬ ¬ (0 ≤ w ∧ w ≤ 2) by omega)]
      exact z
    · refine fd_u_blk 1 (C := fd_c20) (b := true) (L' := [fd_R 0, fd_I w, fd_R 1003, fd_R 1003, fd_R 1003, fd_R 1003, fd_R 1003]) (st' := [fd_I (-1)]) (M' := M) rfl rfl (j := 6) rfl (rfl) ?_
      refine fd_u_ret (C := fd_c20) (b := true) (r' := some (fd_I (-1))) rfl rfl rfl (rfl) ?_ ?_
      · rw [fd_X_open, if_pos (show ¬ (0 ≤ w ∧ w ≤ 2) by omega)]
      · rw [fd_Y_open, if_pos (show ¬ (0 ≤ w ∧ w ≤ 2) by omega)]

def fd_eu : Nat → Nat → Nat → Nat
  | 0, a, _ => a
  | n + 1, a, b => if b = 0 then a else fd_eu n b (a % b)
theorem fd_eu_gcd : ∀ (n a b : Nat), b < 2 ^ n → fd_eu (2 * n + 2) a b = Nat.gcd a b
  | 0, a, b, h => by
    have : b = 0 := by simpa using h
    subst this
    simp [fd_eu]
  | n + 1, a, b, h => by
    show fd_eu (2 * n + 1 + 1 + 1 + 1) a b = _
    rw [fd_eu]
    by_cases hb : b = 0
    · rw [if_pos hb, hb, Nat.gcd_zero_right]
    · rw [if_neg hb, fd_eu]
      by_cases hr : a % b = 0
      · rw [if_pos hr]
        have : b ∣ a := Nat.dvd_of_mod_eq_zero hr
        rw [Nat.gcd_comm, Nat.gcd_eq_left this]
      · rw [if_neg hr]
        have h1 : a % b < b := Nat.mod_lt _ (by omega)
        have h2 : b % (a % b) < a % b := Nat.mod_lt _ (by omega)
        have h3 : b % (a % b) + a % b ≤ b := by
          have e := Nat.div_add_mod b (a % b)
          have q : 1 ≤ b / (a % b) := (Nat.one_le_div_iff (by omega)).mpr (by omega)
          have m : (a % b) * 1 ≤ (a % b) * (b / (a % b)) := Nat.mul_le_mul_left _ q
          omega
        have h4 : b % (a % b) < 2 ^ n := by
          have : 2 ^ (n + 1) = 2 * 2 ^ n := by rw [Nat.pow_succ]; omega
          omega
        rw [show 2 * n + 1 + 1 = 2 * n + 2 from rfl, fd_eu_gcd n _ _ h4]
        rw [Nat.gcd_comm a b, Nat.gcd_rec b a, Nat.gcd_rec (a % b) b, Nat.gcd_comm (b % (a % b))]
theorem fd_l_gcd (M : fd_M) (u0 u1 : fd_V) : ∀ (n : Nat) (a b i : Nat) (u : fd_V) (hi : i + n = 64) (ha : a < 2147483648) (hb : b < 2147483648), fd_run 0 50 6 [u0, u1, fd_I ((a : Nat) : Int), fd_I ((b : Nat) : Int), fd_I ((i : Nat) : Int), u] [] M (some (fd_I ((fd_eu n a b : Nat) : Int))) M := by
  intro n
  induction n with
  | zero =>
    intro a b i u hi ha hb
    refine fd_u_blk 2 (C := fd_c50) (b := true) (L' := [u0, u1, fd_I ((a : Nat) : Int), fd_I ((b : Nat) : Int), fd_I ((i : Nat) : Int), u]) (st' := [fd_I 64, fd_I ((i : Nat) : Int)]) (M' := M) rfl rfl (j := 8) rfl (rfl) ?_
    refine fd_u_br (C := fd_c50) (t := 21) (e := 9) (st' := []) (c := 64 ≤ ((i : Nat) : Int)) (b := (fd_rng ((i : Nat) : Int) && fd_rng 64)) rfl rfl rfl (fd_bA (fd_bR (by omega) (by omega)) (fd_bR (by omega) (by omega))) (fun h8 => ?_) (fun h8 => absurd h8 (by omega))
    refine fd_u_blk 1 (C := fd_c50) (b := true) (L' := [u0, u1, fd_I ((a : Nat) : Int), fd_I ((b : Nat) : Int), fd_I ((i : Nat) : Int), u]) (st' := [fd_I ((a : Nat) : Int)]) (M' := M) rfl rfl (j := 22) rfl (rfl) ?_
    refine fd_u_ret (C := fd_c50) (b := true) (r' := some (fd_I ((a : Nat) : Int))) rfl rfl rfl (rfl) ?_ ?_
    · rfl
    · rfl
  | succ n ih =>
    intro a b i u hi ha hb
    refine fd_u_blk 2 (C := fd_c50) (b := true) (L' := [u0, u1, fd_I ((a : Nat) : Int), fd_I ((b : Nat) : Int), fd_I ((i : Nat) : Int), u]) (st' := [fd_I 64, fd_I ((i : Nat) : Int)]) (M' := M) rfl rfl (j := 8) rfl (rfl) ?_
    refine fd_u_br (C := fd_c50) (t := 21) (e := 9) (st' := []) (c := 64 ≤ ((i : Nat) : Int)) (b := (fd_rng ((i : Nat) : Int) && fd_rng 64)) rfl rfl rfl (fd_bA (fd_bR (by omega) (by omega)) (fd_bR (by omega) (by omega))) (fun h8 => absurd h8 (by omega)) (fun h8 => ?_)
    refine fd_u_blk 1 (C := fd_c50) (b := true) (L' := [u0, u1, fd_I ((a : Nat) : Int), fd_I ((b : Nat) : Int), fd_I ((i : Nat) : Int), u]) (st' := [fd_I ((b : Nat) : Int)]) (M' := M) rfl rfl (j := 10) rfl (rfl) ?_
    refine fd_u_br (C := fd_c50) (t := 21) (e := 11) (st' := []) (c := ((b : Nat) : Int) = 0) (b := (fd_rng ((b : Nat) : Int))) rfl rfl rfl (fd_bR (by omega) (by omega)) (fun h10 => ?_) (fun h10 => ?_)
    · refine fd_u_blk 1 (C := fd_c50) (b := true) (L' := [u0, u1, fd_I ((a : Nat) : Int), fd_I ((b : Nat) : Int), fd_I ((i : Nat) : Int), u]) (st' := [fd_I ((a : Nat) : Int)]) (M' := M) rfl rfl (j := 22) rfl (rfl) ?_
      refine fd_u_ret (C := fd_c50) (b := true) (r' := some (fd_I ((a : Nat) : Int))) rfl rfl rfl (rfl) ?_ ?_
      · unfold fd_eu
        rw [if_pos (by omega)]
      · rfl
    · refine fd_u_blk 2 (C := fd_c50) (b := true) (L' := [u0, u1, fd_I ((a : Nat) : Int), fd_I ((b : Nat) : Int), fd_I ((i : Nat) : Int), u]) (st' := [fd_I ((b : Nat) : Int), fd_I ((a : Nat) : Int)]) (M' := M) rfl rfl (j := 13) rfl (rfl) ?_
      refine fd_u_blk 1 (C := fd_c50) (b := ((fd_inb ((a : Nat) : Int) 2147483648 && fd_inb (((b : Nat) : Int) - 1) 2147483647) && true)) (L' := [u0, u1, fd_I ((a : Nat) : Int), fd_I ((b : Nat) : Int), fd_I ((i : Nat) : Int), u]) (st' := [fd_I (((a : Nat) : Int) % ((b : Nat) : Int))]) (M' := M) rfl rfl (j := 14) rfl (fd_bA (fd_bA (fd_bI (by omega) (by omega)) (fd_bI (by omega) (by omega))) (rfl)) ?_
      refine fd_u_blk 6 (C := fd_c50) (b := true) (L' := [u0, u1, fd_I ((b : Nat) : Int), fd_I (((a : Nat) : Int) % ((b : Nat) : Int)), fd_I (((i + 1) : Nat) : Int), fd_I (((a : Nat) : Int) % ((b : Nat) : Int))]) (st' := []) (M' := M) rfl rfl (j := 20) rfl (rfl) ?_
      refine fd_u_jmp (C := fd_c50) (j := 6) (st' := []) rfl rfl (b := true) rfl rfl ?_
      have hm : a % b < b := Nat.mod_lt _ (by omega)
      have zi := ih b (a % b) (i + 1) (fd_I (((a : Nat) : Int) % ((b : Nat) : Int))) (by omega) (by omega) (by omega)
      have e5 : fd_eu (n + 1) a b = fd_eu n b (a % b) := by
        rw [fd_eu, if_neg (by omega)]
      rw [e5]
      rw [Int.natCast_emod] at zi
      exact zi

theorem fd_s_gcdX (M : fd_M) (a b : Nat) (ha : a < 2147483648) (hb : b < 2147483648) : fd_call 0 50 [fd_I ((a : Nat) : Int), fd_I ((b : Nat) : Int)] M (some (fd_I ((fd_eu 64 a b : Nat) : Int))) M := by
  refine fd_u_in (L := [fd_I ((a : Nat) : Int), fd_I ((b : Nat) : Int), fd_R 1003, fd_R 1003, fd_R 1003, fd_R 1003]) rfl ?_
  refine fd_u_blk 6 (C := fd_c50) (b := true) (L' := [fd_I ((a : Nat) : Int), fd_I ((b : Nat) : Int), fd_I ((a : Nat) : Int), fd_I ((b : Nat) : Int), fd_I 0, fd_R 1003]) (st' := []) (M' := M) rfl rfl (j := 6) rfl (rfl) ?_
  exact fd_l_gcd M _ _ 64 a b 0 _ (by omega) ha hb

theorem fd_s_gcd (M : fd_M) (a b : Nat) (ha : a < 2147483648) (hb : b < 2147483648) : fd_call 0 50 [fd_I (a : Int), fd_I (b : Int)] M (some (fd_I ((Nat.gcd a b : Nat) : Int))) M := by
  rw [← fd_eu_gcd 31 a b (by omega)]
  exact fd_s_gcdX M a b ha hb
def fd_part (u l w : Int) : Int := (if w = 0 then u else l) / ((Nat.gcd u.toNat l.toNat : Nat) : Int)
theorem fd_gcd_pos (a b : Nat) (hb : 0 < b) : 0 < Nat.gcd a b ∧ Nat.gcd a b ≤ b := ⟨Nat.gcd_pos_of_pos_right _ hb, Nat.gcd_le_right _ hb⟩
theorem fd_s_partN (M : fd_M) (a b : Nat) (ha : a < 2147483648) (hb : b < 2147483648) (hb0 : 0 < b) (w : Int) (hw : 0 ≤ w ∧ w ≤ 1) : fd_call 1 49 [fd_I ((a : Nat) : Int), fd_I ((b : Nat) : Int), fd_I w] M (some (fd_I (fd_part (a : Int) (b : Int) w))) M := by
  refine fd_u_in (L := [fd_I ((a : Nat) : Int), fd_I ((b : Nat) : Int), fd_I w, fd_R 1003, fd_R 1003]) rfl ?_
  have gp := fd_gcd_pos a b hb0
  refine fd_u_blk 2 (C := fd_c49) (b := true) (L' := [fd_I ((a : Nat) : Int), fd_I ((b : Nat) : Int), fd_I w, fd_R 1003, fd_R 1003]) (st' := [fd_I ((b : Nat) : Int), fd_I ((a : Nat) : Int)]) (M' := M) rfl rfl (j := 2) rfl (rfl) ?_
  refine fd_u_call (C := fd_c49) (d0 := 0) (mid := 50) (np := 2) (args := [fd_I ((a : Nat) : Int), fd_I ((b : Nat) : Int)]) (r1 := some (fd_I ((Nat.gcd a b : Nat) : Int))) (M1 := M) (st' := [fd_I ((Nat.gcd a b : Nat) : Int)]) rfl rfl rfl rfl rfl rfl (rfl) (fd_s_gcd M a b ha hb) rfl (by omega) ?_
  refine fd_u_blk 2 (C := fd_c49) (b := true) (L' := [fd_I ((a : Nat) : Int), fd_I ((b : Nat) : Int), fd_I w, fd_I ((Nat.gcd a b : Nat) : Int), fd_R 1003]) (st' := [fd_I w]) (M' := M) rfl rfl (j := 5) rfl (rfl) ?_
  refine fd_u_br (C := fd_c49) (t := 8) (e := 6) (st' := []) (c := ¬ w = 0) (b := (fd_rng w)) rfl rfl rfl (fd_bR (by omega) (by omega)) (fun h5 => ?_) (fun h5 => ?_)
  · refine fd_u_blk 3 (C := fd_c49) (b := true) (L' := [fd_I ((a : Nat) : Int), fd_I ((b : Nat) : Int), fd_I w, fd_I ((Nat.gcd a b : Nat) : Int), fd_I ((b : Nat) : Int)]) (st' := [fd_I ((Nat.gcd a b : Nat) : Int)]) (M' := M) rfl rfl (j := 11) rfl (rfl) ?_
    refine fd_u_br (C := fd_c49) (t := 14) (e := 12) (st' := []) (c := ¬ ((Nat.gcd a b : Nat) : Int) = 0) (b := (fd_rng ((Nat.gcd a b : Nat) : Int))) rfl rfl rfl (fd_bR (by omega) (by omega)) (fun h11 => ?_) (fun h11 => absurd h11 (by omega))
    refine fd_u_blk 2 (C := fd_c49) (b := true) (L' := [fd_I ((a : Nat) : Int), fd_I ((b : Nat) : Int), fd_I w, fd_I ((Nat.gcd a b : Nat) : Int), fd_I ((b : Nat) : Int)]) (st' := [fd_I ((Nat.gcd a b : Nat) : Int), fd_I ((b : Nat) : Int)]) (M' := M) rfl rfl (j := 16) rfl (rfl) ?_
    refine fd_u_blk 1 (C := fd_c49) (b := ((fd_inb ((b : Nat) : Int) 2147483648 && fd_inb (((Nat.gcd a b : Nat) : Int) - 1) 2147483647) && true)) (L' := [fd_I ((a : Nat) : Int), fd_I ((b : Nat) : Int), fd_I w, fd_I ((Nat.gcd a b : Nat) : Int), fd_I ((b : Nat) : Int)]) (st' := [fd_I (((b : Nat) : Int) / ((Nat.gcd a b : Nat) : Int))]) (M' := M) rfl rfl (j := 17) rfl (fd_bA (fd_bA (fd_bI (by omega) (by omega)) (fd_bI (by omega) (by omega))) (rfl)) ?_
    refine fd_u_ret (C := fd_c49) (b := true) (r' := some (fd_I (((b : Nat) : Int) / ((Nat.gcd a b : Nat) : Int)))) rfl rfl rfl (rfl) ?_ ?_
    · unfold fd_part
      rw [Int.toNat_natCast, Int.toNat_natCast]
      first | rw [if_pos (show w = 0 by omega)] | rw [if_neg (show ¬ w = 0 by omega)]
    · rfl
  · refine fd_u_blk 1 (C := fd_c49) (b := true) (L' := [fd_I ((a : Nat) : Int), fd_I ((b : Nat) : Int), fd_I w, fd_I ((Nat.gcd a b : Nat) : Int), fd_R 1003]) (st' := [fd_I ((a : Nat) : Int)]) (M' := M) rfl rfl (j := 7) rfl (rfl) ?_
    refine fd_u_jmp (C := fd_c49) (j := 9) (st' := [fd_I ((a : Nat) : Int)]) rfl rfl (b := true) rfl rfl ?_
    refine fd_u_blk 2 (C := fd_c49) (b := true) (L' := [fd_I ((a : Nat) : Int), fd_I ((b : Nat) : Int), fd_I w, fd_I ((Nat.gcd a b : Nat) : Int), fd_I ((a : Nat) : Int)]) (st' := [fd_I ((Nat.gcd a b : Nat) : Int)]) (M' := M) rfl rfl (j := 11) rfl (rfl) ?_
    refine fd_u_br (C := fd_c49) (t := 14) (e := 12) (st' := []) (c := ¬ ((Nat.gcd a b : Nat) : Int) = 0) (b := (fd_rng ((Nat.gcd a b : Nat) : Int))) rfl rfl rfl (fd_bR (by omega) (by omega)) (fun h11 => ?_) (fun h11 => absurd h11 (by omega))
    refine fd_u_blk 2 (C := fd_c49) (b := true) (L' := [fd_I ((a : Nat) : Int), fd_I ((b : Nat) : Int), fd_I w, fd_I ((Nat.gcd a b : Nat) : Int), fd_I ((a : Nat) : Int)]) (st' := [fd_I ((Nat.gcd a b : Nat) : Int), fd_I ((a : Nat) : Int)]) (M' := M) rfl rfl (j := 16) rfl (rfl) ?_
    refine fd_u_blk 1 (C := fd_c49) (b := ((fd_inb ((a : Nat) : Int) 2147483648 && fd_inb (((Nat.gcd a b : Nat) : Int) - 1) 2147483647) && true)) (L' := [fd_I ((a : Nat) : Int), fd_I ((b : Nat) : Int), fd_I w, fd_I ((Nat.gcd a b : Nat) : Int), fd_I ((a : Nat) : Int)]) (st' := [fd_I (((a : Nat) : Int) / ((Nat.gcd a b : Nat) : Int))]) (M' := M) rfl rfl (j := 17) rfl (fd_bA (fd_bA (fd_bI (by omega) (by omega)) (fd_bI (by omega) (by omega))) (rfl)) ?_
    refine fd_u_ret (C := fd_c49) (b := true) (r' := some (fd_I (((a : Nat) : Int) / ((Nat.gcd a b : Nat) : Int)))) rfl rfl rfl (rfl) ?_ ?_
    · unfold fd_part
      rw [Int.toNat_natCast, Int.toNat_natCast]
      first | rw [if_pos (show w = 0 by omega)] | rw [if_neg (show ¬ w = 0 by omega)]
    · rfl

theorem fd_s_part (M : fd_M) (u l : Int) (hu : 0 ≤ u ∧ u < 2147483648) (hl : 0 < l ∧ l < 2147483648) (w : Int) (hw : 0 ≤ w ∧ w ≤ 1) : fd_call 1 49 [fd_I u, fd_I l, fd_I w] M (some (fd_I (fd_part u l w))) M := by
  obtain ⟨a, rfl⟩ := Int.eq_ofNat_of_zero_le hu.1
  obtain ⟨b, rfl⟩ := Int.eq_ofNat_of_zero_le (show 0 ≤ l by omega)
  exact fd_s_partN M a b (by omega) (by omega) (by omega) w hw
theorem fd_ds_lud (M : fd_M) (s : Int) : fd_ds (fd_lud M (M 3 2).toNat 81) s (M 3 2).toNat = fd_ds (fd_dio M) s (M 3 2).toNat := by
  apply fd_sum_congr
  intro j hj
  rw [fd_lud_at hj]
theorem fd_s_dueOfSetL (M : fd_M) (hP : 0 ≤ M 3 2 ∧ M 3 2 ≤ 6) (s : Int) (hs : 0 ≤ s ∧ s < 2147483648) : fd_call 1 36 [fd_R 0, fd_I s] (fd_lud M (M 3 2).toNat) (some (fd_I (fd_ds (fd_dio M) s (M 3 2).toNat))) (fd_lud M (M 3 2).toNat) := by
  have z := fd_s_dueOfSet (fd_lud M (M 3 2).toNat) hP s hs
  rw [← fd_ds_lud M s]
  exact z
def fd_X_mean (M : fd_M) (x w : Int) : Int := if ¬ ((0 ≤ x ∧ x ≤ 10) ∧ (w = 0 ∨ w = 1)) then -1 else fd_part (x * fd_ds (fd_dio M) (2 ^ (M 3 2).toNat - 1) (M 3 2).toNat) 10 w
def fd_Y_mean (M : fd_M) (x w : Int) : fd_M := if ¬ ((0 ≤ x ∧ x ≤ 10) ∧ (w = 0 ∨ w = 1)) then M else fd_lud M (M 3 2).toNat
theorem fd_x_mean (M : fd_M) (hG : fd_CG M) (x : Int) (hx : -2147483648 ≤ x ∧ x < 2147483648) (w : Int) (hw : -2147483648 ≤ w ∧ w < 2147483648) : fd_call 7 22 [fd_R 0, fd_I x, fd_I w] M (some (fd_I (fd_X_mean M x w))) (fd_Y_mean M x w) := by
  refine fd_u_in (L := [fd_R 0, fd_I x, fd_I w, fd_R 1003]) rfl ?_
  obtain ⟨g0, g1, g2, g3, g4, g5⟩ := hG.1
  have pw := fd_pw (M 3 2).toNat
  have pw6 := fd_pw6 (n := (M 3 2).toNat) (by omega)
  have pwp := Nat.two_pow_pos (M 3 2).toNat
  have dr := fd_ds_rng (f := fd_dio M) (2 ^ (M 3 2).toNat - 1) (M 3 2).toNat (fun j _ => fd_dio_rng hG j)
  have hl : (0 : Int) < 10 ∧ (10 : Int) < 2147483648 := by omega
  have hu : 0 ≤ x ∧ x ≤ 10 → 0 ≤ x * (fd_ds (fd_dio M) (2 ^ (M 3 2).toNat - 1) (M 3 2).toNat) ∧ x * (fd_ds (fd_dio M) (2 ^ (M 3 2).toNat - 1) (M 3 2).toNat) < 2147483648 := by
    intro q
    refine ⟨Int.mul_nonneg q.1 dr.1, ?_⟩
    have := Int.mul_le_mul q.2 dr.2 dr.1 (by omega)
    omega
  refine fd_u_blk 1 (C := fd_c22) (b := true) (L' := [fd_R 0, fd_I x, fd_I w, fd_R 1003]) (st' := [fd_I x]) (M' := M) rfl rfl (j := 1) rfl (rfl) ?_
  refine fd_u_call (C := fd_c22) (d0 := 0) (mid := 40) (np := 1) (args := [fd_I x]) (r1 := some (fd_I (fd_bi (0 ≤ x ∧ x ≤ 10)))) (M1 := M) (st' := [fd_I (fd_bi (0 ≤ x ∧ x ≤ 10))]) rfl rfl rfl rfl rfl rfl (rfl) (fd_s_isTenths M x (by omega)) rfl (by omega) ?_
  refine fd_u_br (C := fd_c22) (t := 6) (e := 3) (st' := []) (c := (fd_bi (0 ≤ x ∧ x ≤ 10)) = 0) (b := (fd_rng (fd_bi (0 ≤ x ∧ x ≤ 10)))) rfl rfl rfl (fd_biR) (fun h2 => ?_) (fun h2 => ?_)
  · have h2 := fd_biF.mp h2
    refine fd_u_blk 1 (C := fd_c22) (b := true) (L' := [fd_R 0, fd_I x, fd_I w, fd_R 1003]) (st' := [fd_I (-1)]) (M' := M) rfl rfl (j := 7) rfl (rfl) ?_
    refine fd_u_ret (C := fd_c22) (b := true) (r' := some (fd_I (-1))) rfl rfl rfl (rfl) ?_ ?_
    · rw [fd_X_mean, if_pos (show ¬ ((0 ≤ x ∧ x ≤ 10) ∧ (w = 0 ∨ w = 1)) by omega)]
    · rw [fd_Y_mean, if_pos (show ¬ ((0 ≤ x ∧ x ≤ 10) ∧ (w = 0 ∨ w = 1)) by omega)]
  · have h2 := fd_biT.mp h2
    refine fd_u_blk 1 (C := fd_c22) (b := true) (L' := [fd_R 0, fd_I x, fd_I w, fd_R 1003]) (st' := [fd_I w]) (M' := M) rfl rfl (j := 4) rfl (rfl) ?_
    refine fd_u_call (C := fd_c22) (d0 := 0) (mid := 39) (np := 1) (args := [fd_I w]) (r1 := some (fd_I (fd_bi (w = 0 ∨ w = 1)))) (M1 := M) (st' := [fd_I (fd_bi (w = 0 ∨ w = 1))]) rfl rfl rfl rfl rfl rfl (rfl) (fd_s_isFlag M w (by omega)) rfl (by omega) ?_
    refine fd_u_br (C := fd_c22) (t := 8) (e := 6) (st' := []) (c := ¬ (fd_bi (w = 0 ∨ w = 1)) = 0) (b := (fd_rng (fd_bi (w = 0 ∨ w = 1)))) rfl rfl rfl (fd_biR) (fun h5 => ?_) (fun h5 => ?_)
    · have h5 := fd_biT.mp h5
      refine fd_u_blk 1 (C := fd_c22) (b := true) (L' := [fd_R 0, fd_I x, fd_I w, fd_R 1003]) (st' := [fd_R 0]) (M' := M) rfl rfl (j := 9) rfl (rfl) ?_
      refine fd_u_call (C := fd_c22) (d0 := 6) (mid := 35) (np := 1) (args := [fd_R 0]) (r1 := none) (M1 := (fd_lud M (M 3 2).toNat)) (st' := []) rfl rfl rfl rfl rfl rfl (rfl) (fd_s_lookUpDues M hG) rfl (by omega) ?_
      refine fd_u_blk 5 (C := fd_c22) (b := true) (L' := [fd_R 0, fd_I x, fd_I w, fd_R 1003]) (st' := [fd_I ((fd_lud M (M 3 2).toNat) 3 2), fd_R 0, fd_I x]) (M' := (fd_lud M (M 3 2).toNat)) rfl rfl (j := 15) rfl (rfl) ?_
      refine fd_u_call (C := fd_c22) (d0 := 0) (mid := 45) (np := 1) (args := [fd_I ((fd_lud M (M 3 2).toNat) 3 2)]) (r1 := some (fd_I (2 ^ (M 3 2).toNat))) (M1 := (fd_lud M (M 3 2).toNat)) (st' := [fd_I (2 ^ (M 3 2).toNat), fd_R 0, fd_I x]) rfl rfl rfl rfl rfl rfl (rfl) (by have z := fd_s_bitOf (fd_lud M (M 3 2).toNat) (M 3 2) (by omega); rw [if_neg (show ¬ M 3 2 = -1 by omega)] at z; exact z) rfl (by omega) ?_
      refine fd_u_blk 2 (C := fd_c22) (b := true) (L' := [fd_R 0, fd_I x, fd_I w, fd_R 1003]) (st' := [fd_I ((2 ^ (M 3 2).toNat) - 1), fd_R 0, fd_I x]) (M' := (fd_lud M (M 3 2).toNat)) rfl rfl (j := 18) rfl (rfl) ?_
      refine fd_u_call (C := fd_c22) (d0 := 1) (mid := 36) (np := 2) (args := [fd_R 0, fd_I ((2 ^ (M 3 2).toNat) - 1)]) (r1 := some (fd_I (fd_ds (fd_dio M) ((2 ^ (M 3 2).toNat) - 1) (M 3 2).toNat))) (M1 := (fd_lud M (M 3 2).toNat)) (st' := [fd_I (fd_ds (fd_dio M) ((2 ^ (M 3 2).toNat) - 1) (M 3 2).toNat), fd_I x]) rfl rfl rfl rfl rfl rfl (rfl) (fd_s_dueOfSetL M g2 ((2 ^ (M 3 2).toNat) - 1) (by omega)) rfl (by omega) ?_
      refine fd_u_blk 5 (C := fd_c22) (b := true) (L' := [fd_R 0, fd_I x, fd_I w, fd_I (x * (fd_ds (fd_dio M) ((2 ^ (M 3 2).toNat) - 1) (M 3 2).toNat))]) (st' := [fd_I w, fd_I 10, fd_I (x * (fd_ds (fd_dio M) ((2 ^ (M 3 2).toNat) - 1) (M 3 2).toNat))]) (M' := (fd_lud M (M 3 2).toNat)) rfl rfl (j := 24) rfl (rfl) ?_
      refine fd_u_call (C := fd_c22) (d0 := 1) (mid := 49) (np := 3) (args := [fd_I (x * (fd_ds (fd_dio M) ((2 ^ (M 3 2).toNat) - 1) (M 3 2).toNat)), fd_I 10, fd_I w]) (r1 := some (fd_I (fd_part (x * (fd_ds (fd_dio M) ((2 ^ (M 3 2).toNat) - 1) (M 3 2).toNat)) 10 w))) (M1 := (fd_lud M (M 3 2).toNat)) (st' := [fd_I (fd_part (x * (fd_ds (fd_dio M) ((2 ^ (M 3 2).toNat) - 1) (M 3 2).toNat)) 10 w)]) rfl rfl rfl rfl rfl rfl (rfl) (fd_s_part (fd_lud M (M 3 2).toNat) (x * (fd_ds (fd_dio M) ((2 ^ (M 3 2).toNat) - 1) (M 3 2).toNat)) 10 (hu (by omega)) hl w (by omega)) rfl (by omega) ?_
      refine fd_u_ret (C := fd_c22) (b := true) (r' := some (fd_I (fd_part (x * (fd_ds (fd_dio M) ((2 ^ (M 3 2).toNat) - 1) (M 3 2).toNat)) 10 w))) rfl rfl rfl (rfl) ?_ ?_
      · rw [fd_X_mean, if_neg (show ¬ ¬ ((0 ≤ x ∧ x ≤ 10) ∧ (w = 0 ∨ w = 1)) by omega)]
      · rw [fd_Y_mean, if_neg (show ¬ ¬ ((0 ≤ x ∧ x ≤ 10) ∧ (w = 0 ∨ w = 1)) by omega)]
    · have h5 := fd_biF2  h5
      refine fd_u_blk 1 (C := fd_c22) (b := true) (L' := [fd_R 0, fd_I x, fd_I w, fd_R 1003]) (st' := [fd_I (-1)]) (M' := M) rfl rfl (j := 7) rfl (rfl) ?_
      refine fd_u_ret (C := fd_c22) (b := true) (r' := some (fd_I (-1))) rfl rfl rfl (rfl) ?_ ?_
      · rw [fd_X_mean, if_pos (show ¬ ((0 ≤ x ∧ x ≤ 10) ∧ (w = 0 ∨ w = 1)) by omega)]
      · rw [fd_Y_mean, if_pos (show ¬ ((0 ≤ x ∧ x ≤ 10) ∧ (w = 0 ∨ w = 1)) by omega)]

def fd_ups (M : fd_M) (x v : Int) (n : Nat) : Int := fd_sum (fun s => if v ≤ (fd_ds (fd_dio M) (s : Int) (M 3 2).toNat) then fd_wt (s : Int) x (M 3 2).toNat else 0) n
def fd_X_odds (M : fd_M) (x v w : Int) : Int := if ¬ ((0 ≤ x ∧ x ≤ 10) ∧ (0 ≤ v ∧ v ≤ 99) ∧ (w = 0 ∨ w = 1)) then -1 else fd_part (fd_ups M x v (2 ^ (M 3 2).toNat)) (10 ^ (M 3 2).toNat) w
def fd_Y_odds (M : fd_M) (x v w : Int) : fd_M := if ¬ ((0 ≤ x ∧ x ≤ 10) ∧ (0 ≤ v ∧ v ≤ 99) ∧ (w = 0 ∨ w = 1)) then M else fd_lud M (M 3 2).toNat
theorem fd_10p {n : Nat} (h : n ≤ 6) : (0 : Int) < 10 ^ n ∧ (10 : Int) ^ n ≤ 1000000 := by
  have e : (10 : Int) ^ n = ((10 ^ n : Nat) : Int) := by simp
  have p : 0 < 10 ^ n := Nat.pow_pos (by decide)
  have q : 10 ^ n ≤ 10 ^ 6 := Nat.pow_le_pow_right (by decide) h
  omega
theorem fd_ups_rng {M : fd_M} (hP : 0 ≤ M 3 2 ∧ M 3 2 ≤ 6) {x : Int} (hx : 0 ≤ x ∧ x ≤ 10) (v : Int) (n : Nat) : 0 ≤ fd_ups M x v n ∧ fd_ups M x v n ≤ n * 1000000 := by
  refine fd_sumR n ?_
  intro j hj
  have := fd_wt_rng (s := (j : Int)) (M 3 2).toNat hx
  have q := fd_10p (n := (M 3 2).toNat) (by omega)
  split <;> omega
theorem fd_l_odds (M : fd_M) (hG : fd_CG M) (x v w : Int) (hx : 0 ≤ x ∧ x ≤ 10) (hv : 0 ≤ v ∧ v ≤ 99) (hw : 0 ≤ w ∧ w ≤ 1) (A : Nat) (hA : A ≤ 64) : ∀ (n : Nat) (k : Nat) (hk : k + n = A), fd_run 7 21 37 [fd_R 0, fd_I x, fd_I v, fd_I w, fd_I (fd_ups M x v k), fd_I (10 ^ (M 3 2).toNat), fd_I (A : Int), fd_I ((k : Nat) : Int)] [] (fd_lud M (M 3 2).toNat) (some (fd_I (fd_part (fd_ups M x v A) (10 ^ (M 3 2).toNat) w))) (fd_lud M (M 3 2).toNat) := by
  obtain ⟨g0, g1, g2, g3, g4, g5⟩ := hG.1
  intro n
  induction n with
  | zero =>
    intro k hk
    have dr := fd_ds_rng (f := fd_dio M) (k : Int) (M 3 2).toNat (fun j _ => fd_dio_rng hG j)
    have hl : (0 : Int) < 10 ^ (M 3 2).toNat ∧ (10 : Int) ^ (M 3 2).toNat < 2147483648 := by have := fd_10p (n := (M 3 2).toNat) (by omega); omega
    have hu : 0 ≤ fd_ups M x v k ∧ fd_ups M x v k < 2147483648 := by have := fd_ups_rng g2 hx v k; omega
    refine fd_u_blk 2 (C := fd_c21) (b := true) (L' := [fd_R 0, fd_I x, fd_I v, fd_I w, fd_I (fd_ups M x v k), fd_I (10 ^ (M 3 2).toNat), fd_I (A : Int), fd_I ((k : Nat) : Int)]) (st' := [fd_I (A : Int), fd_I ((k : Nat) : Int)]) (M' := (fd_lud M (M 3 2).toNat)) rfl rfl (j := 39) rfl (rfl) ?_
    refine fd_u_br (C := fd_c21) (t := 54) (e := 40) (st' := []) (c := (A : Int) ≤ ((k : Nat) : Int)) (b := (fd_rng ((k : Nat) : Int) && fd_rng (A : Int))) rfl rfl rfl (fd_bA (fd_bR (by omega) (by omega)) (fd_bR (by omega) (by omega))) (fun h39 => ?_) (fun h39 => absurd h39 (by omega))
    refine fd_u_blk 3 (C := fd_c21) (b := true) (L' := [fd_R 0, fd_I x, fd_I v, fd_I w, fd_I (fd_ups M x v k), fd_I (10 ^ (M 3 2).toNat), fd_I (A : Int), fd_I ((k : Nat) : Int)]) (st' := [fd_I w, fd_I (10 ^ (M 3 2).toNat), fd_I (fd_ups M x v k)]) (M' := (fd_lud M (M 3 2).toNat)) rfl rfl (j := 57) rfl (rfl) ?_
    refine fd_u_call (C := fd_c21) (d0 := 1) (mid := 49) (np := 3) (args := [fd_I (fd_ups M x v k), fd_I (10 ^ (M 3 2).toNat), fd_I w]) (r1 := some (fd_I (fd_part (fd_ups M x v k) (10 ^ (M 3 2).toNat) w))) (M1 := (fd_lud M (M 3 2).toNat)) (st' := [fd_I (fd_part (fd_ups M x v k) (10 ^ (M 3 2).toNat) w)]) rfl rfl rfl rfl rfl rfl (rfl) (fd_s_part (fd_lud M (M 3 2).toNat) (fd_ups M x v k) (10 ^ (M 3 2).toNat) hu hl w (by omega)) rfl (by omega) ?_
    refine fd_u_ret (C := fd_c21) (b := true) (r' := some (fd_I (fd_part (fd_ups M x v k) (10 ^ (M 3 2).toNat) w))) rfl rfl rfl (rfl) ?_ ?_
    · rw [show A = k by omega]
    · rfl
  | succ n ih =>
    intro k hk
    have dr := fd_ds_rng (f := fd_dio M) (k : Int) (M 3 2).toNat (fun j _ => fd_dio_rng hG j)
    have hl : (0 : Int) < 10 ^ (M 3 2).toNat ∧ (10 : Int) ^ (M 3 2).toNat < 2147483648 := by have := fd_10p (n := (M 3 2).toNat) (by omega); omega
    have hu : 0 ≤ fd_ups M x v k ∧ fd_ups M x v k < 2147483648 := by have := fd_ups_rng g2 hx v k; omega
    refine fd_u_blk 2 (C := fd_c21) (b := true) (L' := [fd_R 0, fd_I x, fd_I v, fd_I w, fd_I (fd_ups M x v k), fd_I (10 ^ (M 3 2).toNat), fd_I (A : Int), fd_I ((k : Nat) : Int)]) (st' := [fd_I (A : Int), fd_I ((k : Nat) : Int)]) (M' := (fd_lud M (M 3 2).toNat)) rfl rfl (j := 39) rfl (rfl) ?_
    refine fd_u_br (C := fd_c21) (t := 54) (e := 40) (st' := []) (c := (A : Int) ≤ ((k : Nat) : Int)) (b := (fd_rng ((k : Nat) : Int) && fd_rng (A : Int))) rfl rfl rfl (fd_bA (fd_bR (by omega) (by omega)) (fd_bR (by omega) (by omega))) (fun h39 => absurd h39 (by omega)) (fun h39 => ?_)
    refine fd_u_blk 2 (C := fd_c21) (b := true) (L' := [fd_R 0, fd_I x, fd_I v, fd_I w, fd_I (fd_ups M x v k), fd_I (10 ^ (M 3 2).toNat), fd_I (A : Int), fd_I ((k : Nat) : Int)]) (st' := [fd_I ((k : Nat) : Int), fd_R 0]) (M' := (fd_lud M (M 3 2).toNat)) rfl rfl (j := 42) rfl (rfl) ?_
    refine fd_u_call (C := fd_c21) (d0 := 1) (mid := 36) (np := 2) (args := [fd_R 0, fd_I ((k : Nat) : Int)]) (r1 := some (fd_I (fd_ds (fd_dio M) ((k : Nat) : Int) (M 3 2).toNat))) (M1 := (fd_lud M (M 3 2).toNat)) (st' := [fd_I (fd_ds (fd_dio M) ((k : Nat) : Int) (M 3 2).toNat)]) rfl rfl rfl rfl rfl rfl (rfl) (fd_s_dueOfSetL M g2 ((k : Nat) : Int) (by omega)) rfl (by omega) ?_
    refine fd_u_blk 1 (C := fd_c21) (b := true) (L' := [fd_R 0, fd_I x, fd_I v, fd_I w, fd_I (fd_ups M x v k), fd_I (10 ^ (M 3 2).toNat), fd_I (A : Int), fd_I ((k : Nat) : Int)]) (st' := [fd_I v, fd_I (fd_ds (fd_dio M) ((k : Nat) : Int) (M 3 2).toNat)]) (M' := (fd_lud M (M 3 2).toNat)) rfl rfl (j := 44) rfl (rfl) ?_
    refine fd_u_br (C := fd_c21) (t := 52) (e := 45) (st' := []) (c := (fd_ds (fd_dio M) ((k : Nat) : Int) (M 3 2).toNat) < v) (b := (fd_rng (fd_ds (fd_dio M) ((k : Nat) : Int) (M 3 2).toNat) && fd_rng v)) rfl rfl rfl (fd_bA (fd_bR (by omega) (by omega)) (fd_bR (by omega) (by omega))) (fun h44 => ?_) (fun h44 => ?_)
    · refine fd_u_blk 1 (C := fd_c21) (b := true) (L' := [fd_R 0, fd_I x, fd_I v, fd_I w, fd_I (fd_ups M x v k), fd_I (10 ^ (M 3 2).toNat), fd_I (A : Int), fd_I (((k + 1) : Nat) : Int)]) (st' := []) (M' := (fd_lud M (M 3 2).toNat)) rfl rfl (j := 53) rfl (rfl) ?_
      refine fd_u_jmp (C := fd_c21) (j := 37) (st' := []) rfl rfl (b := true) rfl rfl ?_
      have e5 : (fd_ups M x v k) = (fd_ups M x v (k + 1)) := by
        show _ = fd_ups M x v k + (if v ≤ (fd_ds (fd_dio M) (k : Int) (M 3 2).toNat) then fd_wt (k : Int) x (M 3 2).toNat else 0)
        rw [if_neg (by omega)]; omega
      have zi := ih (k + 1) (by omega)
      rw [← e5] at zi
      exact zi
    · refine fd_u_blk 4 (C := fd_c21) (b := true) (L' := [fd_R 0, fd_I x, fd_I v, fd_I w, fd_I (fd_ups M x v k), fd_I (10 ^ (M 3 2).toNat), fd_I (A : Int), fd_I ((k : Nat) : Int)]) (st' := [fd_I x, fd_I ((k : Nat) : Int), fd_R 0, fd_I (fd_ups M x v k)]) (M' := (fd_lud M (M 3 2).toNat)) rfl rfl (j := 49) rfl (rfl) ?_
      refine fd_u_call (C := fd_c21) (d0 := 1) (mid := 37) (np := 3) (args := [fd_R 0, fd_I ((k : Nat) : Int), fd_I x]) (r1 := some (fd_I (fd_wt ((k : Nat) : Int) x (M 3 2).toNat))) (M1 := (fd_lud M (M 3 2).toNat)) (st' := [fd_I (fd_wt ((k : Nat) : Int) x (M 3 2).toNat), fd_I (fd_ups M x v k)]) rfl rfl rfl rfl rfl rfl (rfl) (fd_s_weightOfSet (fd_lud M (M 3 2).toNat) g2 ((k : Nat) : Int) (by omega) x) rfl (by omega) ?_
      refine fd_u_blk 3 (C := fd_c21) (b := true) (L' := [fd_R 0, fd_I x, fd_I v, fd_I w, fd_I ((fd_ups M x v k) + (fd_wt ((k : Nat) : Int) x (M 3 2).toNat)), fd_I (10 ^ (M 3 2).toNat), fd_I (A : Int), fd_I (((k + 1) : Nat) : Int)]) (st' := []) (M' := (fd_lud M (M 3 2).toNat)) rfl rfl (j := 53) rfl (rfl) ?_
      refine fd_u_jmp (C := fd_c21) (j := 37) (st' := []) rfl rfl (b := true) rfl rfl ?_
      have e5 : ((fd_ups M x v k) + (fd_wt ((k : Nat) : Int) x (M 3 2).toNat)) = (fd_ups M x v (k + 1)) := by
        show _ = fd_ups M x v k + (if v ≤ (fd_ds (fd_dio M) (k : Int) (M 3 2).toNat) then fd_wt (k : Int) x (M 3 2).toNat else 0)
        rw [if_pos (by omega)]
      have zi := ih (k + 1) (by omega)
      rw [← e5] at zi
      exact zi

theorem fd_l_odds10 (M : fd_M) (hG : fd_CG M) (x v w : Int) (hx : 0 ≤ x ∧ x ≤ 10) (hv : 0 ≤ v ∧ v ≤ 99) (hw : 0 ≤ w ∧ w ≤ 1) : ∀ (n : Nat) (k : Nat) (u : fd_V) (hk : (k : Int) + n = M 3 2), fd_run 7 21 19 [fd_R 0, fd_I x, fd_I v, fd_I w, fd_I 0, fd_I (10 ^ k), fd_I ((k : Nat) : Int), u] [] (fd_lud M (M 3 2).toNat) (some (fd_I (fd_part (fd_ups M x v (2 ^ (M 3 2).toNat)) (10 ^ (M 3 2).toNat) w))) (fd_lud M (M 3 2).toNat) := by
  obtain ⟨g0, g1, g2, g3, g4, g5⟩ := hG.1
  have pw := fd_pw (M 3 2).toNat
  have pw6 := fd_pw6 (n := (M 3 2).toNat) (by omega)
  have pwp := Nat.two_pow_pos (M 3 2).toNat
  intro n
  induction n with
  | zero =>
    intro k u hk
    have e3 : fd_lud M (M 3 2).toNat 3 2 = M 3 2 := rfl
    refine fd_u_blk 4 (C := fd_c21) (b := true) (L' := [fd_R 0, fd_I x, fd_I v, fd_I w, fd_I 0, fd_I (10 ^ k), fd_I ((k : Nat) : Int), u]) (st' := [fd_I ((fd_lud M (M 3 2).toNat) 3 2), fd_I ((k : Nat) : Int)]) (M' := (fd_lud M (M 3 2).toNat)) rfl rfl (j := 23) rfl (rfl) ?_
    refine fd_u_br (C := fd_c21) (t := 30) (e := 24) (st' := []) (c := ((fd_lud M (M 3 2).toNat) 3 2) ≤ ((k : Nat) : Int)) (b := (fd_rng ((k : Nat) : Int) && fd_rng ((fd_lud M (M 3 2).toNat) 3 2))) rfl rfl rfl (fd_bA (fd_bR (by omega) (by omega)) (fd_bR (by omega) (by omega))) (fun h23 => ?_) (fun h23 => absurd h23 (by omega))
    refine fd_u_blk 3 (C := fd_c21) (b := true) (L' := [fd_R 0, fd_I x, fd_I v, fd_I w, fd_I 0, fd_I (10 ^ k), fd_I ((k : Nat) : Int), u]) (st' := [fd_I ((fd_lud M (M 3 2).toNat) 3 2)]) (M' := (fd_lud M (M 3 2).toNat)) rfl rfl (j := 33) rfl (rfl) ?_
    refine fd_u_call (C := fd_c21) (d0 := 0) (mid := 45) (np := 1) (args := [fd_I ((fd_lud M (M 3 2).toNat) 3 2)]) (r1 := some (fd_I (2 ^ (M 3 2).toNat))) (M1 := (fd_lud M (M 3 2).toNat)) (st' := [fd_I (2 ^ (M 3 2).toNat)]) rfl rfl rfl rfl rfl rfl (rfl) (by have z := fd_s_bitOf (fd_lud M (M 3 2).toNat) (M 3 2) (by omega); rw [if_neg (show ¬ M 3 2 = -1 by omega)] at z; exact z) rfl (by omega) ?_
    refine fd_u_blk 3 (C := fd_c21) (b := true) (L' := [fd_R 0, fd_I x, fd_I v, fd_I w, fd_I 0, fd_I (10 ^ k), fd_I (2 ^ (M 3 2).toNat), fd_I 0]) (st' := []) (M' := (fd_lud M (M 3 2).toNat)) rfl rfl (j := 37) rfl (rfl) ?_
    have zi := fd_l_odds M hG x v w hx hv hw (2 ^ (M 3 2).toNat) (by omega) (2 ^ (M 3 2).toNat) 0 (by omega)
    rw [show (M 3 2).toNat = k by omega] at zi ⊢
    rw [fd_pw k]
    exact zi
  | succ n ih =>
    intro k u hk
    have e3 : fd_lud M (M 3 2).toNat 3 2 = M 3 2 := rfl
    refine fd_u_blk 4 (C := fd_c21) (b := true) (L' := [fd_R 0, fd_I x, fd_I v, fd_I w, fd_I 0, fd_I (10 ^ k), fd_I ((k : Nat) : Int), u]) (st' := [fd_I ((fd_lud M (M 3 2).toNat) 3 2), fd_I ((k : Nat) : Int)]) (M' := (fd_lud M (M 3 2).toNat)) rfl rfl (j := 23) rfl (rfl) ?_
    refine fd_u_br (C := fd_c21) (t := 30) (e := 24) (st' := []) (c := ((fd_lud M (M 3 2).toNat) 3 2) ≤ ((k : Nat) : Int)) (b := (fd_rng ((k : Nat) : Int) && fd_rng ((fd_lud M (M 3 2).toNat) 3 2))) rfl rfl rfl (fd_bA (fd_bR (by omega) (by omega)) (fd_bR (by omega) (by omega))) (fun h23 => absurd h23 (by omega)) (fun h23 => ?_)
    refine fd_u_blk 5 (C := fd_c21) (b := true) (L' := [fd_R 0, fd_I x, fd_I v, fd_I w, fd_I 0, fd_I ((10 ^ k) * 10), fd_I (((k + 1) : Nat) : Int), u]) (st' := []) (M' := (fd_lud M (M 3 2).toNat)) rfl rfl (j := 29) rfl (rfl) ?_
    refine fd_u_jmp (C := fd_c21) (j := 19) (st' := []) rfl rfl (b := true) rfl rfl ?_
    have zi := ih (k + 1) u (by omega)
    rw [Int.pow_succ] at zi
    exact zi

theorem fd_x_odds (M : fd_M) (hG : fd_CG M) (x : Int) (hx : -2147483648 ≤ x ∧ x < 2147483648) (v : Int) (hv : -2147483648 ≤ v ∧ v < 2147483648) (w : Int) (hw : -2147483648 ≤ w ∧ w < 2147483648) : fd_call 7 21 [fd_R 0, fd_I x, fd_I v, fd_I w] M (some (fd_I (fd_X_odds M x v w))) (fd_Y_odds M x v w) := by
  refine fd_u_in (L := [fd_R 0, fd_I x, fd_I v, fd_I w, fd_R 1003, fd_R 1003, fd_R 1003, fd_R 1003]) rfl ?_
  obtain ⟨g0, g1, g2, g3, g4, g5⟩ := hG.1
  refine fd_u_blk 1 (C := fd_c21) (b := true) (L' := [fd_R 0, fd_I x, fd_I v, fd_I w, fd_R 1003, fd_R 1003, fd_R 1003, fd_R 1003]) (st' := [fd_I x]) (M' := M) rfl rfl (j := 1) rfl (rfl) ?_
  refine fd_u_call (C := fd_c21) (d0 := 0) (mid := 40) (np := 1) (args := [fd_I x]) (r1 := some (fd_I (fd_bi (0 ≤ x ∧ x ≤ 10)))) (M1 := M) (st' := [fd_I (fd_bi (0 ≤ x ∧ x ≤ 10))]) rfl rfl rfl rfl rfl rfl (rfl) (fd_s_isTenths M x (by omega)) rfl (by omega) ?_
  refine fd_u_br (C := fd_c21) (t := 9) (e := 3) (st' := []) (c := (fd_bi (0 ≤ x ∧ x ≤ 10)) = 0) (b := (fd_rng (fd_bi (0 ≤ x ∧ x ≤ 10)))) rfl rfl rfl (fd_biR) (fun h2 => ?_) (fun h2 => ?_)
  · have h2 := fd_biF.mp h2
    refine fd_u_blk 1 (C := fd_c21) (b := true) (L' := [fd_R 0, fd_I x, fd_I v, fd_I w, fd_R 1003, fd_R 1003, fd_R 1003, fd_R 1003]) (st' := [fd_I (-1)]) (M' := M) rfl rfl (j := 10) rfl (rfl) ?_
    refine fd_u_ret (C := fd_c21) (b := true) (r' := some (fd_I (-1))) rfl rfl rfl (rfl) ?_ ?_
    · rw [fd_X_odds, if_pos (show ¬ ((0 ≤ x ∧ x ≤ 10) ∧ (0 ≤ v ∧ v ≤ 99) ∧ (w = 0 ∨ w = 1)) by omega)]
    · rw [fd_Y_odds, if_pos (show ¬ ((0 ≤ x ∧ x ≤ 10) ∧ (0 ≤ v ∧ v ≤ 99) ∧ (w = 0 ∨ w = 1)) by omega)]
  · have h2 := fd_biT.mp h2
    refine fd_u_blk 1 (C := fd_c21) (b := true) (L' := [fd_R 0, fd_I x, fd_I v, fd_I w, fd_R 1003, fd_R 1003, fd_R 1003, fd_R 1003]) (st' := [fd_I v]) (M' := M) rfl rfl (j := 4) rfl (rfl) ?_
    refine fd_u_call (C := fd_c21) (d0 := 0) (mid := 41) (np := 1) (args := [fd_I v]) (r1 := some (fd_I (fd_bi (0 ≤ v ∧ v ≤ 99)))) (M1 := M) (st' := [fd_I (fd_bi (0 ≤ v ∧ v ≤ 99))]) rfl rfl rfl rfl rfl rfl (rfl) (fd_s_isDueTold M v (by omega)) rfl (by omega) ?_
    refine fd_u_br (C := fd_c21) (t := 9) (e := 6) (st' := []) (c := (fd_bi (0 ≤ v ∧ v ≤ 99)) = 0) (b := (fd_rng (fd_bi (0 ≤ v ∧ v ≤ 99)))) rfl rfl rfl (fd_biR) (fun h5 => ?_) (fun h5 => ?_)
    · have h5 := fd_biF.mp h5
      refine fd_u_blk 1 (C := fd_c21) (b := true) (L' := [fd_R 0, fd_I x, fd_I v, fd_I w, fd_R 1003, fd_R 1003, fd_R 1003, fd_R 1003]) (st' := [fd_I (-1)]) (M' := M) rfl rfl (j := 10) rfl (rfl) ?_
      refine fd_u_ret (C := fd_c21) (b := true) (r' := some (fd_I (-1))) rfl rfl rfl (rfl) ?_ ?_
      · rw [fd_X_odds, if_pos (show ¬ ((0 ≤ x ∧ x ≤ 10) ∧ (0 ≤ v ∧ v ≤ 99) ∧ (w = 0 ∨ w = 1)) by omega)]
      · rw [fd_Y_odds, if_pos (show ¬ ((0 ≤ x ∧ x ≤ 10) ∧ (0 ≤ v ∧ v ≤ 99) ∧ (w = 0 ∨ w = 1)) by omega)]
    · have h5 := fd_biT.mp h5
      refine fd_u_blk 1 (C := fd_c21) (b := true) (L' := [fd_R 0, fd_I x, fd_I v, fd_I w, fd_R 1003, fd_R 1003, fd_R 1003, fd_R 1003]) (st' := [fd_I w]) (M' := M) rfl rfl (j := 7) rfl (rfl) ?_
      refine fd_u_call (C := fd_c21) (d0 := 0) (mid := 39) (np := 1) (args := [fd_I w]) (r1 := some (fd_I (fd_bi (w = 0 ∨ w = 1)))) (M1 := M) (st' := [fd_I (fd_bi (w = 0 ∨ w = 1))]) rfl rfl rfl rfl rfl rfl (rfl) (fd_s_isFlag M w (by omega)) rfl (by omega) ?_
      refine fd_u_br (C := fd_c21) (t := 11) (e := 9) (st' := []) (c := ¬ (fd_bi (w = 0 ∨ w = 1)) = 0) (b := (fd_rng (fd_bi (w = 0 ∨ w = 1)))) rfl rfl rfl (fd_biR) (fun h8 => ?_) (fun h8 => ?_)
      · have h8 := fd_biT.mp h8
        refine fd_u_blk 1 (C := fd_c21) (b := true) (L' := [fd_R 0, fd_I x, fd_I v, fd_I w, fd_R 1003, fd_R 1003, fd_R 1003, fd_R 1003]) (st' := [fd_R 0]) (M' := M) rfl rfl (j := 12) rfl (rfl) ?_
        refine fd_u_call (C := fd_c21) (d0 := 6) (mid := 35) (np := 1) (args := [fd_R 0]) (r1 := none) (M1 := (fd_lud M (M 3 2).toNat)) (st' := []) rfl rfl rfl rfl rfl rfl (rfl) (fd_s_lookUpDues M hG) rfl (by omega) ?_
        refine fd_u_blk 6 (C := fd_c21) (b := true) (L' := [fd_R 0, fd_I x, fd_I v, fd_I w, fd_I 0, fd_I 1, fd_I 0, fd_R 1003]) (st' := []) (M' := (fd_lud M (M 3 2).toNat)) rfl rfl (j := 19) rfl (rfl) ?_
        rw [fd_X_odds, if_neg (show ¬ ¬ ((0 ≤ x ∧ x ≤ 10) ∧ (0 ≤ v ∧ v ≤ 99) ∧ (w = 0 ∨ w = 1)) by omega), fd_Y_odds, if_neg (show ¬ ¬ ((0 ≤ x ∧ x ≤ 10) ∧ (0 ≤ v ∧ v ≤ 99) ∧ (w = 0 ∨ w = 1)) by omega)]
        exact fd_l_odds10 M hG x v w (by omega) (by omega) (by omega) (M 3 2).toNat 0 _ (by omega)
      · have h8 := fd_biF2  h8
        refine fd_u_blk 1 (C := fd_c21) (b := true) (L' := [fd_R 0, fd_I x, fd_I v, fd_I w, fd_R 1003, fd_R 1003, fd_R 1003, fd_R 1003]) (st' := [fd_I (-1)]) (M' := M) rfl rfl (j := 10) rfl (rfl) ?_
        refine fd_u_ret (C := fd_c21) (b := true) (r' := some (fd_I (-1))) rfl rfl rfl (rfl) ?_ ?_
        · rw [fd_X_odds, if_pos (show ¬ ((0 ≤ x ∧ x ≤ 10) ∧ (0 ≤ v ∧ v ≤ 99) ∧ (w = 0 ∨ w = 1)) by omega)]
        · rw [fd_Y_odds, if_pos (show ¬ ((0 ≤ x ∧ x ≤ 10) ∧ (0 ≤ v ∧ v ≤ 99) ∧ (w = 0 ∨ w = 1)) by omega)]


/-! small questions of the class -/
def fd_bi (p : Prop) [Decidable p] : Int := if p then 1 else 0
theorem fd_biT {p : Prop} [Decidable p] : ¬ fd_bi p = 0 ↔ p := by
  unfold fd_bi
  by_cases h : p
  · simp [h]
  · simp [h]
theorem fd_biF {p : Prop} [Decidable p] : fd_bi p = 0 ↔ ¬ p := by
  unfold fd_bi
  by_cases h : p
  · simp [h]
  · simp [h]
theorem fd_biF2 {p : Prop} [Decidable p] (h : ¬ ¬ fd_bi p = 0) : ¬ p := fd_biF.mp (Classical.not_not.mp h)
theorem fd_bi_rng (p : Prop) [Decidable p] : 0 ≤ fd_bi p ∧ fd_bi p < 2 := by
  unfold fd_bi
  by_cases h : p
  · simp [h]
  · simp [h]
theorem fd_biR {p : Prop} [Decidable p] : fd_rng (fd_bi p) = true := by
  have := fd_bi_rng p
  exact fd_bR (by omega) (by omega)
theorem fd_biI {p : Prop} [Decidable p] {n : Int} (hn : 2 ≤ n := by decide) : fd_inb (fd_bi p) n = true := by
  have := fd_bi_rng p
  exact fd_bI (by omega) (by omega)
theorem fd_bi1 {p : Prop} [Decidable p] (h : p) : fd_bi p = 1 := if_pos h
theorem fd_bi0 {p : Prop} [Decidable p] (h : ¬ p) : fd_bi p = 0 := if_neg h
theorem fd_ok1 {p : Prop} [Decidable p] (h : p) : some (fd_I 1) = some (fd_I (fd_bi p)) := by rw [fd_bi1 h]
theorem fd_ok0 {p : Prop} [Decidable p] (h : ¬ p) : some (fd_I 0) = some (fd_I (fd_bi p)) := by rw [fd_bi0 h]
theorem fd_sw_out {as : List Int} {i : Nat} {a : Int} {r : List fd_V} (h : ¬ (0 ≤ a - fd_a as 1 ∧ a - fd_a as 1 < (as.length : Int) - 2)) : fd_jmp 113 as i (.inl a :: r) = some (fd_rng a, fd_n as 0, r) := by
  show some (fd_rng a, (if 0 ≤ a - fd_a as 1 ∧ a - fd_a as 1 < (as.length : Int) - 2 then fd_n as (2 + (a - fd_a as 1).toNat) else fd_n as 0), r) = _
  rw [if_neg h]
theorem fd_s_isWay (M : fd_M) (n : Int) (hn : -2147483648 ≤ n ∧ n < 2147483648) : fd_call 0 38 [fd_I n] M (some (fd_I (fd_bi (0 ≤ n ∧ n < 4)))) M := by
  refine fd_u_in (L := [fd_I n]) rfl ?_
  refine fd_u_blk 1 (C := fd_c38) (b := true) (L' := [fd_I n]) (st' := [fd_I n]) (M' := M) rfl rfl (j := 1) rfl (rfl) ?_
  refine fd_u_br (C := fd_c38) (t := 7) (e := 2) (st' := []) (c := n < 0) (b := (fd_rng n)) rfl rfl rfl (fd_bR (by omega) (by omega)) (fun h3 => ?_) (fun h3 => ?_)
  · refine fd_u_blk 1 (C := fd_c38) (b := true) (L' := [fd_I n]) (st' := [fd_I 0]) (M' := M) rfl rfl (j := 8) rfl (rfl) ?_
    refine fd_u_ret (C := fd_c38) (b := true) (r' := some (fd_I 0)) rfl rfl rfl (rfl) ?_ ?_
    · exact fd_ok0 (by omega)
    · rfl
  · refine fd_u_blk 2 (C := fd_c38) (b := true) (L' := [fd_I n]) (st' := [fd_I 4, fd_I n]) (M' := M) rfl rfl (j := 4) rfl (rfl) ?_
    refine fd_u_br (C := fd_c38) (t := 7) (e := 5) (st' := []) (c := 4 ≤ n) (b := (fd_rng n && fd_rng 4)) rfl rfl rfl (fd_bA (fd_bR (by omega) (by omega)) (fd_bR (by omega) (by omega))) (fun h8 => ?_) (fun h8 => ?_)
    · refine fd_u_blk 1 (C := fd_c38) (b := true) (L' := [fd_I n]) (st' := [fd_I 0]) (M' := M) rfl rfl (j := 8) rfl (rfl) ?_
      refine fd_u_ret (C := fd_c38) (b := true) (r' := some (fd_I 0)) rfl rfl rfl (rfl) ?_ ?_
      · exact fd_ok0 (by omega)
      · rfl
    · refine fd_u_blk 1 (C := fd_c38) (b := true) (L' := [fd_I n]) (st' := [fd_I 1]) (M' := M) rfl rfl (j := 6) rfl (rfl) ?_
      refine fd_u_jmp (C := fd_c38) (j := 8) (st' := [fd_I 1]) rfl rfl (b := true) rfl rfl ?_
      refine fd_u_ret (C := fd_c38) (b := true) (r' := some (fd_I 1)) rfl rfl rfl (rfl) ?_ ?_
      · exact fd_ok1 (by omega)
      · rfl

theorem fd_s_isFlag (M : fd_M) (n : Int) (hn : -2147483648 ≤ n ∧ n < 2147483648) : fd_call 0 39 [fd_I n] M (some (fd_I (fd_bi (n = 0 ∨ n = 1)))) M := by
  refine fd_u_in (L := [fd_I n]) rfl ?_
  refine fd_u_blk 1 (C := fd_c39) (b := true) (L' := [fd_I n]) (st' := [fd_I n]) (M' := M) rfl rfl (j := 1) rfl (rfl) ?_
  refine fd_u_br (C := fd_c39) (t := 5) (e := 2) (st' := []) (c := n = 0) (b := (fd_rng n)) rfl rfl rfl (fd_bR (by omega) (by omega)) (fun h3 => ?_) (fun h3 => ?_)
  · refine fd_u_blk 1 (C := fd_c39) (b := true) (L' := [fd_I n]) (st' := [fd_I 1]) (M' := M) rfl rfl (j := 6) rfl (rfl) ?_
    refine fd_u_jmp (C := fd_c39) (j := 8) (st' := [fd_I 1]) rfl rfl (b := true) rfl rfl ?_
    refine fd_u_ret (C := fd_c39) (b := true) (r' := some (fd_I 1)) rfl rfl rfl (rfl) ?_ ?_
    · exact fd_ok1 (by omega)
    · rfl
  · refine fd_u_blk 2 (C := fd_c39) (b := true) (L' := [fd_I n]) (st' := [fd_I 1, fd_I n]) (M' := M) rfl rfl (j := 4) rfl (rfl) ?_
    refine fd_u_br (C := fd_c39) (t := 7) (e := 5) (st' := []) (c := ¬ n = 1) (b := (fd_rng n && fd_rng 1)) rfl rfl rfl (fd_bA (fd_bR (by omega) (by omega)) (fd_bR (by omega) (by omega))) (fun h9 => ?_) (fun h9 => ?_)
    · refine fd_u_blk 1 (C := fd_c39) (b := true) (L' := [fd_I n]) (st' := [fd_I 0]) (M' := M) rfl rfl (j := 8) rfl (rfl) ?_
      refine fd_u_ret (C := fd_c39) (b := true) (r' := some (fd_I 0)) rfl rfl rfl (rfl) ?_ ?_
      · exact fd_ok0 (by omega)
      · rfl
    · refine fd_u_blk 1 (C := fd_c39) (b := true) (L' := [fd_I n]) (st' := [fd_I 1]) (M' := M) rfl rfl (j := 6) rfl (rfl) ?_
      refine fd_u_jmp (C := fd_c39) (j := 8) (st' := [fd_I 1]) rfl rfl (b := true) rfl rfl ?_
      refine fd_u_ret (C := fd_c39) (b := true) (r' := some (fd_I 1)) rfl rfl rfl (rfl) ?_ ?_
      · exact fd_ok1 (by omega)
      · rfl

theorem fd_s_isTenths (M : fd_M) (n : Int) (hn : -2147483648 ≤ n ∧ n < 2147483648) : fd_call 0 40 [fd_I n] M (some (fd_I (fd_bi (0 ≤ n ∧ n ≤ 10)))) M := by
  refine fd_u_in (L := [fd_I n]) rfl ?_
  refine fd_u_blk 1 (C := fd_c40) (b := true) (L' := [fd_I n]) (st' := [fd_I n]) (M' := M) rfl rfl (j := 1) rfl (rfl) ?_
  refine fd_u_br (C := fd_c40) (t := 7) (e := 2) (st' := []) (c := n < 0) (b := (fd_rng n)) rfl rfl rfl (fd_bR (by omega) (by omega)) (fun h3 => ?_) (fun h3 => ?_)
  · refine fd_u_blk 1 (C := fd_c40) (b := true) (L' := [fd_I n]) (st' := [fd_I 0]) (M' := M) rfl rfl (j := 8) rfl (rfl) ?_
    refine fd_u_ret (C := fd_c40) (b := true) (r' := some (fd_I 0)) rfl rfl rfl (rfl) ?_ ?_
    · exact fd_ok0 (by omega)
    · rfl
  · refine fd_u_blk 2 (C := fd_c40) (b := true) (L' := [fd_I n]) (st' := [fd_I 10, fd_I n]) (M' := M) rfl rfl (j := 4) rfl (rfl) ?_
    refine fd_u_br (C := fd_c40) (t := 7) (e := 5) (st' := []) (c := 10 < n) (b := (fd_rng n && fd_rng 10)) rfl rfl rfl (fd_bA (fd_bR (by omega) (by omega)) (fd_bR (by omega) (by omega))) (fun h8 => ?_) (fun h8 => ?_)
    · refine fd_u_blk 1 (C := fd_c40) (b := true) (L' := [fd_I n]) (st' := [fd_I 0]) (M' := M) rfl rfl (j := 8) rfl (rfl) ?_
      refine fd_u_ret (C := fd_c40) (b := true) (r' := some (fd_I 0)) rfl rfl rfl (rfl) ?_ ?_
      · exact fd_ok0 (by omega)
      · rfl
    · refine fd_u_blk 1 (C := fd_c40) (b := true) (L' := [fd_I n]) (st' := [fd_I 1]) (M' := M) rfl rfl (j := 6) rfl (rfl) ?_
      refine fd_u_jmp (C := fd_c40) (j := 8) (st' := [fd_I 1]) rfl rfl (b := true) rfl rfl ?_
      refine fd_u_ret (C := fd_c40) (b := true) (r' := some (fd_I 1)) rfl rfl rfl (rfl) ?_ ?_
      · exact fd_ok1 (by omega)
      · rfl

theorem fd_s_isDueTold (M : fd_M) (n : Int) (hn : -2147483648 ≤ n ∧ n < 2147483648) : fd_call 0 41 [fd_I n] M (some (fd_I (fd_bi (0 ≤ n ∧ n ≤ 99)))) M := by
  refine fd_u_in (L := [fd_I n]) rfl ?_
  refine fd_u_blk 1 (C := fd_c41) (b := true) (L' := [fd_I n]) (st' := [fd_I n]) (M' := M) rfl rfl (j := 1) rfl (rfl) ?_
  refine fd_u_br (C := fd_c41) (t := 7) (e := 2) (st' := []) (c := n < 0) (b := (fd_rng n)) rfl rfl rfl (fd_bR (by omega) (by omega)) (fun h3 => ?_) (fun h3 => ?_)
  · refine fd_u_blk 1 (C := fd_c41) (b := true) (L' := [fd_I n]) (st' := [fd_I 0]) (M' := M) rfl rfl (j := 8) rfl (rfl) ?_
    refine fd_u_ret (C := fd_c41) (b := true) (r' := some (fd_I 0)) rfl rfl rfl (rfl) ?_ ?_
    · exact fd_ok0 (by omega)
    · rfl
  · refine fd_u_blk 2 (C := fd_c41) (b := true) (L' := [fd_I n]) (st' := [fd_I 99, fd_I n]) (M' := M) rfl rfl (j := 4) rfl (rfl) ?_
    refine fd_u_br (C := fd_c41) (t := 7) (e := 5) (st' := []) (c := 99 < n) (b := (fd_rng n && fd_rng 99)) rfl rfl rfl (fd_bA (fd_bR (by omega) (by omega)) (fd_bR (by omega) (by omega))) (fun h8 => ?_) (fun h8 => ?_)
    · refine fd_u_blk 1 (C := fd_c41) (b := true) (L' := [fd_I n]) (st' := [fd_I 0]) (M' := M) rfl rfl (j := 8) rfl (rfl) ?_
      refine fd_u_ret (C := fd_c41) (b := true) (r' := some (fd_I 0)) rfl rfl rfl (rfl) ?_ ?_
      · exact fd_ok0 (by omega)
      · rfl
    · refine fd_u_blk 1 (C := fd_c41) (b := true) (L' := [fd_I n]) (st' := [fd_I 1]) (M' := M) rfl rfl (j := 6) rfl (rfl) ?_
      refine fd_u_jmp (C := fd_c41) (j := 8) (st' := [fd_I 1]) rfl rfl (b := true) rfl rfl ?_
      refine fd_u_ret (C := fd_c41) (b := true) (r' := some (fd_I 1)) rfl rfl rfl (rfl) ?_ ?_
      · exact fd_ok1 (by omega)
      · rfl

theorem fd_s_isImage (M : fd_M) (n : Int) (hn : -2147483648 ≤ n ∧ n < 2147483648) : fd_call 0 42 [fd_I n] M (some (fd_I (fd_bi (0 ≤ n ∧ n < 2)))) M := by
  refine fd_u_in (L := [fd_I n]) rfl ?_
  refine fd_u_blk 1 (C := fd_c42) (b := true) (L' := [fd_I n]) (st' := [fd_I n]) (M' := M) rfl rfl (j := 1) rfl (rfl) ?_
  refine fd_u_br (C := fd_c42) (t := 7) (e := 2) (st' := []) (c := n < 0) (b := (fd_rng n)) rfl rfl rfl (fd_bR (by omega) (by omega)) (fun h3 => ?_) (fun h3 => ?_)
  · refine fd_u_blk 1 (C := fd_c42) (b := true) (L' := [fd_I n]) (st' := [fd_I 0]) (M' := M) rfl rfl (j := 8) rfl (rfl) ?_
    refine fd_u_ret (C := fd_c42) (b := true) (r' := some (fd_I 0)) rfl rfl rfl (rfl) ?_ ?_
    · exact fd_ok0 (by omega)
    · rfl
  · refine fd_u_blk 2 (C := fd_c42) (b := true) (L' := [fd_I n]) (st' := [fd_I 2, fd_I n]) (M' := M) rfl rfl (j := 4) rfl (rfl) ?_
    refine fd_u_br (C := fd_c42) (t := 7) (e := 5) (st' := []) (c := 2 ≤ n) (b := (fd_rng n && fd_rng 2)) rfl rfl rfl (fd_bA (fd_bR (by omega) (by omega)) (fd_bR (by omega) (by omega))) (fun h8 => ?_) (fun h8 => ?_)
    · refine fd_u_blk 1 (C := fd_c42) (b := true) (L' := [fd_I n]) (st' := [fd_I 0]) (M' := M) rfl rfl (j := 8) rfl (rfl) ?_
      refine fd_u_ret (C := fd_c42) (b := true) (r' := some (fd_I 0)) rfl rfl rfl (rfl) ?_ ?_
      · exact fd_ok0 (by omega)
      · rfl
    · refine fd_u_blk 1 (C := fd_c42) (b := true) (L' := [fd_I n]) (st' := [fd_I 1]) (M' := M) rfl rfl (j := 6) rfl (rfl) ?_
      refine fd_u_jmp (C := fd_c42) (j := 8) (st' := [fd_I 1]) rfl rfl (b := true) rfl rfl ?_
      refine fd_u_ret (C := fd_c42) (b := true) (r' := some (fd_I 1)) rfl rfl rfl (rfl) ?_ ?_
      · exact fd_ok1 (by omega)
      · rfl

theorem fd_s_hasCell (M : fd_M) (x y : Int) (hx : -2147483648 ≤ x ∧ x < 2147483648) (hy : -2147483648 ≤ y ∧ y < 2147483648) (h0 : 0 ≤ M 3 0 ∧ M 3 0 ≤ 7) (h1 : 0 ≤ M 3 1 ∧ M 3 1 ≤ 7) : fd_call 0 123 [fd_R 3, fd_I x, fd_I y] M (some (fd_I (fd_bi (0 ≤ x ∧ x < M 3 0 ∧ 0 ≤ y ∧ y < M 3 1)))) M := by
  refine fd_u_in (L := [fd_R 3, fd_I x, fd_I y]) rfl ?_
  refine fd_u_blk 1 (C := fd_c123) (b := true) (L' := [fd_R 3, fd_I x, fd_I y]) (st' := [fd_I x]) (M' := M) rfl rfl (j := 1) rfl (rfl) ?_
  refine fd_u_br (C := fd_c123) (t := 14) (e := 2) (st' := []) (c := x < 0) (b := (fd_rng x)) rfl rfl rfl (fd_bR (by omega) (by omega)) (fun h3 => ?_) (fun h3 => ?_)
  · refine fd_u_blk 1 (C := fd_c123) (b := true) (L' := [fd_R 3, fd_I x, fd_I y]) (st' := [fd_I 0]) (M' := M) rfl rfl (j := 15) rfl (rfl) ?_
    refine fd_u_ret (C := fd_c123) (b := true) (r' := some (fd_I 0)) rfl rfl rfl (rfl) ?_ ?_
    · exact fd_ok0 (by omega)
    · rfl
  · refine fd_u_blk 3 (C := fd_c123) (b := true) (L' := [fd_R 3, fd_I x, fd_I y]) (st' := [fd_I (M 3 0), fd_I x]) (M' := M) rfl rfl (j := 5) rfl (rfl) ?_
    refine fd_u_br (C := fd_c123) (t := 14) (e := 6) (st' := []) (c := (M 3 0) ≤ x) (b := (fd_rng x && fd_rng (M 3 0))) rfl rfl rfl (fd_bA (fd_bR (by omega) (by omega)) (fd_bR (by omega) (by omega))) (fun h8 => ?_) (fun h8 => ?_)
    · refine fd_u_blk 1 (C := fd_c123) (b := true) (L' := [fd_R 3, fd_I x, fd_I y]) (st' := [fd_I 0]) (M' := M) rfl rfl (j := 15) rfl (rfl) ?_
      refine fd_u_ret (C := fd_c123) (b := true) (r' := some (fd_I 0)) rfl rfl rfl (rfl) ?_ ?_
      · exact fd_ok0 (by omega)
      · rfl
    · refine fd_u_blk 1 (C := fd_c123) (b := true) (L' := [fd_R 3, fd_I x, fd_I y]) (st' := [fd_I y]) (M' := M) rfl rfl (j := 7) rfl (rfl) ?_
      refine fd_u_br (C := fd_c123) (t := 14) (e := 8) (st' := []) (c := y < 0) (b := (fd_rng y)) rfl rfl rfl (fd_bR (by omega) (by omega)) (fun h13 => ?_) (fun h13 => ?_)
      · refine fd_u_blk 1 (C := fd_c123) (b := true) (L' := [fd_R 3, fd_I x, fd_I y]) (st' := [fd_I 0]) (M' := M) rfl rfl (j := 15) rfl (rfl) ?_
        refine fd_u_ret (C := fd_c123) (b := true) (r' := some (fd_I 0)) rfl rfl rfl (rfl) ?_ ?_
        · exact fd_ok0 (by omega)
        · rfl
      · refine fd_u_blk 3 (C := fd_c123) (b := true) (L' := [fd_R 3, fd_I x, fd_I y]) (st' := [fd_I (M 3 1), fd_I y]) (M' := M) rfl rfl (j := 11) rfl (rfl) ?_
        refine fd_u_br (C := fd_c123) (t := 14) (e := 12) (st' := []) (c := (M 3 1) ≤ y) (b := (fd_rng y && fd_rng (M 3 1))) rfl rfl rfl (fd_bA (fd_bR (by omega) (by omega)) (fd_bR (by omega) (by omega))) (fun h18 => ?_) (fun h18 => ?_)
        · refine fd_u_blk 1 (C := fd_c123) (b := true) (L' := [fd_R 3, fd_I x, fd_I y]) (st' := [fd_I 0]) (M' := M) rfl rfl (j := 15) rfl (rfl) ?_
          refine fd_u_ret (C := fd_c123) (b := true) (r' := some (fd_I 0)) rfl rfl rfl (rfl) ?_ ?_
          · exact fd_ok0 (by omega)
          · rfl
        · refine fd_u_blk 1 (C := fd_c123) (b := true) (L' := [fd_R 3, fd_I x, fd_I y]) (st' := [fd_I 1]) (M' := M) rfl rfl (j := 13) rfl (rfl) ?_
          refine fd_u_jmp (C := fd_c123) (j := 15) (st' := [fd_I 1]) rfl rfl (b := true) rfl rfl ?_
          refine fd_u_ret (C := fd_c123) (b := true) (r' := some (fd_I 1)) rfl rfl rfl (rfl) ?_ ?_
          · exact fd_ok1 (by omega)
          · rfl


/-! cartAt: the class -/
def fd_wr (M : fd_M) (r : Nat → Int) : fd_M := fun c k => if c = 82 then r k else M c k
def fd_ur (r : Nat → Int) (p : Nat) (v : Int) : Nat → Int := fun k => if k = p then v else r k
theorem fd_wr_fr {M : fd_M} {r : Nat → Int} {c : Nat} (h : c ≠ 82) : fd_wr M r c = M c := by
  funext k
  unfold fd_wr
  rw [if_neg h]
theorem fd_wr_up (M : fd_M) (r : Nat → Int) (p : Nat) (v : Int) : fd_up (fd_wr M r) 82 p v = fd_wr M (fd_ur r p v) := by
  funext c k
  unfold fd_up fd_wr fd_ur
  by_cases h : c = 82
  · subst h
    by_cases h2 : k = p
    · simp [h2]
    · simp [h2]
  · simp [h]
theorem fd_wr_at (M : fd_M) (r : Nat → Int) (p : Nat) : fd_wr M r 82 p = r p := by
  unfold fd_wr
  rw [if_pos rfl]
theorem fd_wr_self (M : fd_M) : fd_wr M (M 82) = M := by
  funext c k
  unfold fd_wr
  by_cases h : c = 82
  · rw [if_pos h, h]
  · rw [if_neg h]
theorem fd_CG_wr {M : fd_M} (hG : fd_CG M) (r : Nat → Int) : fd_CG (fd_wr M r) := hG
def fd_rl (M : fd_M) (due dx dy : Int) (t : Nat) : Nat → Int → Int → (Nat → Int) → Nat → Int
  | 0, _, _, r => r
  | n + 1, x, y, r => if ¬ (0 ≤ x + dx ∧ x + dx < M 3 0 ∧ 0 ≤ y + dy ∧ y + dy < M 3 1) ∨ (M 15 t = x + dx ∧ M 16 t = y + dy) then r else fd_rl M due dx dy t n (x + dx) (y + dy) (if M 4 ((y + dy) * 7 + (x + dx)).toNat = 0 then fd_ur r ((y + dy) * 7 + (x + dx)).toNat (r ((y + dy) * 7 + (x + dx)).toNat + due) else r)
theorem fd_rl_rng (M : fd_M) {due : Int} (hd : 0 ≤ due ∧ due ≤ 18) (dx dy : Int) (t : Nat) : ∀ (n : Nat) (x y : Int) (r : Nat → Int) (B : Int), (∀ p, 0 ≤ r p ∧ r p ≤ B) → ∀ p, 0 ≤ fd_rl M due dx dy t n x y r p ∧ fd_rl M due dx dy t n x y r p ≤ B + n * 18
  | 0, x, y, r, B, h, p => by
    have := h p
    show 0 ≤ r p ∧ r p ≤ B + ((0 : Nat) : Int) * 18
    omega
  | n + 1, x, y, r, B, h, p => by
    unfold fd_rl
    split
    · have := h p
      omega
    · have z := fd_rl_rng M hd dx dy t n (x + dx) (y + dy) (if M 4 ((y + dy) * 7 + (x + dx)).toNat = 0 then fd_ur r ((y + dy) * 7 + (x + dx)).toNat (r ((y + dy) * 7 + (x + dx)).toNat + due) else r) (B + 18) ?_ p
      · omega
      · intro q
        split
        · unfold fd_ur
          have a := h q
          have b := h ((y + dy) * 7 + (x + dx)).toNat
          split <;> omega
        · have := h q
          omega
def fd_addr (M : fd_M) (d : Nat) (r : Nat → Int) : Nat → Int := if fd_nb (fd_sw M d) = -1 then r else fd_rl M (fd_dueC M d) (fd_sx (M 17 d)) (fd_sy (M 17 d)) (fd_nb (fd_sw M d)).toNat 6 (M 15 d) (M 16 d) r
def fd_adds (M : fd_M) : Nat → Nat → Int
  | 0 => fun k => if k < 49 then 0 else M 82 k
  | k + 1 => fd_addr M k (fd_adds M k)
theorem fd_T2_sees (M : fd_M) (hG : fd_CG M) (d : Int) (hd : 0 ≤ d ∧ d < 6) (r : Nat → Int) : fd_call 5 153 [fd_R 72, fd_I d] (fd_wr M r) (some (fd_I (fd_nb (fd_sw M d.toNat)))) (fd_wr M r) := by
  have z := fd_s_seesWhom (fd_wr M r) (fd_CG_wr hG r) d hd
  rw [fd_sw_of (M := M) (fd_wr_fr (by decide)) (fd_wr_fr (by decide)) (fd_wr_fr (by decide)) (fd_wr_fr (by decide)) (fd_wr_fr (by decide)) (fd_wr_fr (by decide))] at z
  exact z
theorem fd_T2_due (M : fd_M) (hG : fd_CG M) (d : Int) (hd : 0 ≤ d ∧ d < 6) (r : Nat → Int) : fd_call 6 156 [fd_R 72, fd_I d] (fd_wr M r) (some (fd_I (fd_dueC M d.toNat))) (fd_wr M r) := by
  have z := fd_s_dueOf (fd_wr M r) (fd_CG_wr hG r) d hd
  rw [fd_dueC_of (M := M) (fd_wr_fr (by decide)) (fd_wr_fr (by decide)) (fd_wr_fr (by decide)) (fd_wr_fr (by decide)) (fd_wr_fr (by decide)) (fd_wr_fr (by decide))] at z
  exact z
theorem fd_T2_has (M : fd_M) (hG : fd_CG M) (x y : Int) (hx : -2147483648 ≤ x ∧ x < 2147483648) (hy : -2147483648 ≤ y ∧ y < 2147483648) (r : Nat → Int) : fd_call 0 123 [fd_R 3, fd_I x, fd_I y] (fd_wr M r) (some (fd_I (fd_bi (0 ≤ x ∧ x < M 3 0 ∧ 0 ≤ y ∧ y < M 3 1)))) (fd_wr M r) := fd_s_hasCell (fd_wr M r) x y hx hy hG.1.1 hG.1.2.1
theorem fd_T2_ground (M : fd_M) (hG : fd_CG M) (x y : Int) (hx : -2147483648 ≤ x ∧ x < 2147483648) (hy : -2147483648 ≤ y ∧ y < 2147483648) (r : Nat → Int) : fd_call 1 125 [fd_R 3, fd_I x, fd_I y] (fd_wr M r) (some (fd_I (if 0 ≤ x ∧ x < M 3 0 ∧ 0 ≤ y ∧ y < M 3 1 then M 4 (y * 7 + x).toNat else 1))) (fd_wr M r) := fd_s_groundAt (fd_wr M r) hG.1 x y hx hy
theorem fd_l_relief (M : fd_M) (hG : fd_CG M) (due w : Int) (hw : 0 ≤ w ∧ w ≤ 3) (t : Nat) (ht : t < 6) (u : fd_V) : ∀ (n : Nat) (x y : Int) (i : Nat) (r : Nat → Int) (hi : i + n = 7) (hx : 0 ≤ x ∧ x ≤ 6) (hy : 0 ≤ y ∧ y ≤ 6), fd_run 7 34 34 [fd_R 0, u, fd_I ((t : Nat) : Int), fd_I due, fd_I w, fd_I x, fd_I y, fd_I ((i : Nat) : Int)] [] (fd_wr M r) (none) (fd_wr M (fd_rl M due (fd_sx w) (fd_sy w) t n x y r)) := by
  obtain ⟨g0, g1, g2, g3, g4, g5⟩ := hG.1
  obtain ⟨s1, s2, s3, s4, s5, s6, s7, s8⟩ := hG.2
  have q1 := s1 t
  have q2 := s2 t
  have q3 := s3 t
  have q4 := s4 t
  simp only [Nat.reduceAdd] at q1 q2 q3 q4
  have qx := fd_sx_rng w
  have qy := fd_sy_rng w
  intro n
  induction n with
  | zero =>
    intro x y i r hi hx hy
    refine fd_u_blk 2 (C := fd_c34) (b := true) (L' := [fd_R 0, u, fd_I ((t : Nat) : Int), fd_I due, fd_I w, fd_I x, fd_I y, fd_I ((i : Nat) : Int)]) (st' := [fd_I 7, fd_I ((i : Nat) : Int)]) (M' := (fd_wr M r)) rfl rfl (j := 36) rfl (rfl) ?_
    refine fd_u_br (C := fd_c34) (t := 88) (e := 37) (st' := []) (c := 7 ≤ ((i : Nat) : Int)) (b := (fd_rng ((i : Nat) : Int) && fd_rng 7)) rfl rfl rfl (fd_bA (fd_bR (by omega) (by omega)) (fd_bR (by omega) (by omega))) (fun h36 => ?_) (fun h36 => absurd h36 (by omega))
    refine fd_u_ret (C := fd_c34) (b := true) (r' := none) rfl rfl rfl (rfl) ?_ ?_
    · rfl
    · rfl
  | succ n ih =>
    intro x y i r hi hx hy
    refine fd_u_blk 2 (C := fd_c34) (b := true) (L' := [fd_R 0, u, fd_I ((t : Nat) : Int), fd_I due, fd_I w, fd_I x, fd_I y, fd_I ((i : Nat) : Int)]) (st' := [fd_I 7, fd_I ((i : Nat) : Int)]) (M' := (fd_wr M r)) rfl rfl (j := 36) rfl (rfl) ?_
    refine fd_u_br (C := fd_c34) (t := 88) (e := 37) (st' := []) (c := 7 ≤ ((i : Nat) : Int)) (b := (fd_rng ((i : Nat) : Int) && fd_rng 7)) rfl rfl rfl (fd_bA (fd_bR (by omega) (by omega)) (fd_bR (by omega) (by omega))) (fun h36 => absurd h36 (by omega)) (fun h36 => ?_)
    refine fd_u_blk 16 (C := fd_c34) (b := (fd_inb w 4 && (fd_inb w 4 && true))) (L' := [fd_R 0, u, fd_I ((t : Nat) : Int), fd_I due, fd_I w, fd_I (x + (fd_sx w)), fd_I (y + (fd_sy w)), fd_I ((i : Nat) : Int)]) (st' := [fd_I (y + (fd_sy w)), fd_I (x + (fd_sx w)), fd_R 3]) (M' := (fd_wr M r)) rfl rfl (j := 53) rfl (fd_bA (fd_bI (by omega) (by omega)) (fd_bA (fd_bI (by omega) (by omega)) (rfl))) ?_
    refine fd_u_call (C := fd_c34) (d0 := 0) (mid := 123) (np := 3) (args := [fd_R 3, fd_I (x + (fd_sx w)), fd_I (y + (fd_sy w))]) (r1 := some (fd_I (fd_bi (0 ≤ (x + (fd_sx w)) ∧ (x + (fd_sx w)) < M 3 0 ∧ 0 ≤ (y + (fd_sy w)) ∧ (y + (fd_sy w)) < M 3 1)))) (M1 := (fd_wr M r)) (st' := [fd_I (fd_bi (0 ≤ (x + (fd_sx w)) ∧ (x + (fd_sx w)) < M 3 0 ∧ 0 ≤ (y + (fd_sy w)) ∧ (y + (fd_sy w)) < M 3 1))]) rfl rfl rfl rfl rfl rfl (rfl) (fd_T2_has M hG (x + (fd_sx w)) (y + (fd_sy w)) (by omega) (by omega) r) rfl (by omega) ?_
    refine fd_u_br (C := fd_c34) (t := 69) (e := 55) (st' := []) (c := (fd_bi (0 ≤ (x + (fd_sx w)) ∧ (x + (fd_sx w)) < M 3 0 ∧ 0 ≤ (y + (fd_sy w)) ∧ (y + (fd_sy w)) < M 3 1)) = 0) (b := (fd_rng (fd_bi (0 ≤ (x + (fd_sx w)) ∧ (x + (fd_sx w)) < M 3 0 ∧ 0 ≤ (y + (fd_sy w)) ∧ (y + (fd_sy w)) < M 3 1)))) rfl rfl rfl (fd_biR) (fun h54 => ?_) (fun h54 => ?_)
    · have h54 := fd_biF.mp h54
      refine fd_u_ret (C := fd_c34) (b := true) (r' := none) rfl rfl rfl (rfl) ?_ ?_
      · rfl
      · unfold fd_rl
        rw [if_pos (by first | exact Or.inl h54 | exact Or.inr ⟨Classical.not_not.mp h61, Classical.not_not.mp h68⟩)]
    · have h54 := fd_biT.mp h54
      refine fd_u_blk 5 (C := fd_c34) (b := (fd_inb ((t : Nat) : Int) 6 && true)) (L' := [fd_R 0, u, fd_I ((t : Nat) : Int), fd_I due, fd_I w, fd_I (x + (fd_sx w)), fd_I (y + (fd_sy w)), fd_I ((i : Nat) : Int)]) (st' := [fd_I ((fd_wr M r) 15 t)]) (M' := (fd_wr M r)) rfl rfl (j := 60) rfl (fd_bA (fd_bI (by omega) (by omega)) (rfl)) ?_
      rw [show fd_wr M r 15 t = M 15 t from rfl]
      refine fd_u_blk 1 (C := fd_c34) (b := true) (L' := [fd_R 0, u, fd_I ((t : Nat) : Int), fd_I due, fd_I w, fd_I (x + (fd_sx w)), fd_I (y + (fd_sy w)), fd_I ((i : Nat) : Int)]) (st' := [fd_I (x + (fd_sx w)), fd_I (M 15 t)]) (M' := (fd_wr M r)) rfl rfl (j := 61) rfl (rfl) ?_
      refine fd_u_br (C := fd_c34) (t := 70) (e := 62) (st' := []) (c := ¬ (M 15 t) = (x + (fd_sx w))) (b := (fd_rng (M 15 t) && fd_rng (x + (fd_sx w)))) rfl rfl rfl (fd_bA (fd_bR (by omega) (by omega)) (fd_bR (by omega) (by omega))) (fun h61 => ?_) (fun h61 => ?_)
      · refine fd_u_blk 4 (C := fd_c34) (b := true) (L' := [fd_R 0, u, fd_I ((t : Nat) : Int), fd_I due, fd_I w, fd_I (x + (fd_sx w)), fd_I (y + (fd_sy w)), fd_I ((i : Nat) : Int)]) (st' := [fd_I (y + (fd_sy w)), fd_I (x + (fd_sx w)), fd_R 3]) (M' := (fd_wr M r)) rfl rfl (j := 74) rfl (rfl) ?_
        refine fd_u_call (C := fd_c34) (d0 := 1) (mid := 125) (np := 3) (args := [fd_R 3, fd_I (x + (fd_sx w)), fd_I (y + (fd_sy w))]) (r1 := some (fd_I (if 0 ≤ (x + (fd_sx w)) ∧ (x + (fd_sx w)) < M 3 0 ∧ 0 ≤ (y + (fd_sy w)) ∧ (y + (fd_sy w)) < M 3 1 then M 4 ((y + (fd_sy w)) * 7 + (x + (fd_sx w))).toNat else 1))) (M1 := (fd_wr M r)) (st' := [fd_I (if 0 ≤ (x + (fd_sx w)) ∧ (x + (fd_sx w)) < M 3 0 ∧ 0 ≤ (y + (fd_sy w)) ∧ (y + (fd_sy w)) < M 3 1 then M 4 ((y + (fd_sy w)) * 7 + (x + (fd_sx w))).toNat else 1)]) rfl rfl rfl rfl rfl rfl (rfl) (fd_T2_ground M hG (x + (fd_sx w)) (y + (fd_sy w)) (by omega) (by omega) r) rfl (by omega) ?_
        rw [if_pos h54]
        have qg := g5 ((y + (fd_sy w)) * 7 + (x + (fd_sx w))).toNat
        refine fd_u_br (C := fd_c34) (t := 86) (e := 76) (st' := []) (c := ¬ (M 4 ((y + (fd_sy w)) * 7 + (x + (fd_sx w))).toNat) = 0) (b := (fd_rng (M 4 ((y + (fd_sy w)) * 7 + (x + (fd_sx w))).toNat))) rfl rfl rfl (fd_bR (by omega) (by omega)) (fun h75 => ?_) (fun h75 => ?_)
        · refine fd_u_blk 1 (C := fd_c34) (b := true) (L' := [fd_R 0, u, fd_I ((t : Nat) : Int), fd_I due, fd_I w, fd_I (x + (fd_sx w)), fd_I (y + (fd_sy w)), fd_I (((i + 1) : Nat) : Int)]) (st' := []) (M' := (fd_wr M r)) rfl rfl (j := 87) rfl (rfl) ?_
          refine fd_u_jmp (C := fd_c34) (j := 34) (st' := []) rfl rfl (b := true) rfl rfl ?_
          have e5 : fd_rl M due (fd_sx w) (fd_sy w) t (n + 1) x y r = fd_rl M due (fd_sx w) (fd_sy w) t n (x + fd_sx w) (y + fd_sy w) r := by
            conv => lhs; unfold fd_rl
            rw [if_neg (show ¬ (¬ (0 ≤ x + fd_sx w ∧ x + fd_sx w < M 3 0 ∧ 0 ≤ y + fd_sy w ∧ y + fd_sy w < M 3 1) ∨ (M 15 t = x + fd_sx w ∧ M 16 t = y + fd_sy w)) from fun q => by rcases q with q | q; exact q h54; first | exact h61 q.1 | exact h68 q.2), if_neg (by omega)]
          rw [e5]
          exact ih _ _ (i + 1) _ (by omega) (by omega) (by omega)
        · refine fd_u_blk 4 (C := fd_c34) (b := true) (L' := [fd_R 0, u, fd_I ((t : Nat) : Int), fd_I due, fd_I w, fd_I (x + (fd_sx w)), fd_I (y + (fd_sy w)), fd_I ((i : Nat) : Int)]) (st' := [fd_I (y + (fd_sy w)), fd_I (x + (fd_sx w)), fd_R 82]) (M' := (fd_wr M r)) rfl rfl (j := 80) rfl (rfl) ?_
          refine fd_u_call (C := fd_c34) (d0 := 0) (mid := 46) (np := 2) (args := [fd_I (x + (fd_sx w)), fd_I (y + (fd_sy w))]) (r1 := some (fd_I (((y + (fd_sy w)) * 7) + (x + (fd_sx w))))) (M1 := (fd_wr M r)) (st' := [fd_I (((y + (fd_sy w)) * 7) + (x + (fd_sx w))), fd_R 82]) rfl rfl rfl rfl rfl rfl (rfl) (fd_s_placeOf (fd_wr M r) (x + (fd_sx w)) (y + (fd_sy w))) rfl (by omega) ?_
          refine fd_u_blk 6 (C := fd_c34) (b := (fd_inb (((y + (fd_sy w)) * 7) + (x + (fd_sx w))) 49 && (fd_inb (((y + (fd_sy w)) * 7) + (x + (fd_sx w))) 49 && true))) (L' := [fd_R 0, u, fd_I ((t : Nat) : Int), fd_I due, fd_I w, fd_I (x + (fd_sx w)), fd_I (y + (fd_sy w)), fd_I (((i + 1) : Nat) : Int)]) (st' := []) (M' := (fd_up (fd_wr M r) 82 (((y + (fd_sy w)) * 7) + (x + (fd_sx w))).toNat (((fd_wr M r) 82 (((y + (fd_sy w)) * 7) + (x + (fd_sx w))).toNat) + due))) rfl rfl (j := 87) rfl (fd_bA (fd_bI (by omega) (by omega)) (fd_bA (fd_bI (by omega) (by omega)) (rfl))) ?_
          refine fd_u_jmp (C := fd_c34) (j := 34) (st' := []) rfl rfl (b := true) rfl rfl ?_
          have e5 : fd_rl M due (fd_sx w) (fd_sy w) t (n + 1) x y r = fd_rl M due (fd_sx w) (fd_sy w) t n (x + fd_sx w) (y + fd_sy w) (fd_ur r ((y + fd_sy w) * 7 + (x + fd_sx w)).toNat (r ((y + fd_sy w) * 7 + (x + fd_sx w)).toNat + due)) := by
            conv => lhs; unfold fd_rl
            rw [if_neg (show ¬ (¬ (0 ≤ x + fd_sx w ∧ x + fd_sx w < M 3 0 ∧ 0 ≤ y + fd_sy w ∧ y + fd_sy w < M 3 1) ∨ (M 15 t = x + fd_sx w ∧ M 16 t = y + fd_sy w)) from fun q => by rcases q with q | q; exact q h54; first | exact h61 q.1 | exact h68 q.2), if_pos (by omega)]
          rw [e5, fd_wr_up, fd_wr_at]
          exact ih _ _ (i + 1) _ (by omega) (by omega) (by omega)
      · refine fd_u_blk 5 (C := fd_c34) (b := (fd_inb ((t : Nat) : Int) 6 && true)) (L' := [fd_R 0, u, fd_I ((t : Nat) : Int), fd_I due, fd_I w, fd_I (x + (fd_sx w)), fd_I (y + (fd_sy w)), fd_I ((i : Nat) : Int)]) (st' := [fd_I ((fd_wr M r) 16 t)]) (M' := (fd_wr M r)) rfl rfl (j := 67) rfl (fd_bA (fd_bI (by omega) (by omega)) (rfl)) ?_
        rw [show fd_wr M r 16 t = M 16 t from rfl]
        refine fd_u_blk 1 (C := fd_c34) (b := true) (L' := [fd_R 0, u, fd_I ((t : Nat) : Int), fd_I due, fd_I w, fd_I (x + (fd_sx w)), fd_I (y + (fd_sy w)), fd_I ((i : Nat) : Int)]) (st' := [fd_I (y + (fd_sy w)), fd_I (M 16 t)]) (M' := (fd_wr M r)) rfl rfl (j := 68) rfl (rfl) ?_
        refine fd_u_br (C := fd_c34) (t := 70) (e := 69) (st' := []) (c := ¬ (M 16 t) = (y + (fd_sy w))) (b := (fd_rng (M 16 t) && fd_rng (y + (fd_sy w)))) rfl rfl rfl (fd_bA (fd_bR (by omega) (by omega)) (fd_bR (by omega) (by omega))) (fun h68 => ?_) (fun h68 => ?_)
        · refine fd_u_blk 4 (C := fd_c34) (b := true) (L' := [fd_R 0, u, fd_I ((t : Nat) : Int), fd_I due, fd_I w, fd_I (x + (fd_sx w)), fd_I (y + (fd_sy w)), fd_I ((i : Nat) : Int)]) (st' := [fd_I (y + (fd_sy w)), fd_I (x + (fd_sx w)), fd_R 3]) (M' := (fd_wr M r)) rfl rfl (j := 74) rfl (rfl) ?_
          refine fd_u_call (C := fd_c34) (d0 := 1) (mid := 125) (np := 3) (args := [fd_R 3, fd_I (x + (fd_sx w)), fd_I (y + (fd_sy w))]) (r1 := some (fd_I (if 0 ≤ (x + (fd_sx w)) ∧ (x + (fd_sx w)) < M 3 0 ∧ 0 ≤ (y + (fd_sy w)) ∧ (y + (fd_sy w)) < M 3 1 then M 4 ((y + (fd_sy w)) * 7 + (x + (fd_sx w))).toNat else 1))) (M1 := (fd_wr M r)) (st' := [fd_I (if 0 ≤ (x + (fd_sx w)) ∧ (x + (fd_sx w)) < M 3 0 ∧ 0 ≤ (y + (fd_sy w)) ∧ (y + (fd_sy w)) < M 3 1 then M 4 ((y + (fd_sy w)) * 7 + (x + (fd_sx w))).toNat else 1)]) rfl rfl rfl rfl rfl rfl (rfl) (fd_T2_ground M hG (x + (fd_sx w)) (y + (fd_sy w)) (by omega) (by omega) r) rfl (by omega) ?_
          rw [if_pos h54]
          have qg := g5 ((y + (fd_sy w)) * 7 + (x + (fd_sx w))).toNat
          refine fd_u_br (C := fd_c34) (t := 86) (e := 76) (st' := []) (c := ¬ (M 4 ((y + (fd_sy w)) * 7 + (x + (fd_sx w))).toNat) = 0) (b := (fd_rng (M 4 ((y + (fd_sy w)) * 7 + (x + (fd_sx w))).toNat))) rfl rfl rfl (fd_bR (by omega) (by omega)) (fun h75 => ?_) (fun h75 => ?_)
          · refine fd_u_blk 1 (C := fd_c34) (b := true) (L' := [fd_R 0, u, fd_I ((t : Nat) : Int), fd_I due, fd_I w, fd_I (x + (fd_sx w)), fd_I (y + (fd_sy w)), fd_I (((i + 1) : Nat) : Int)]) (st' := []) (M' := (fd_wr M r)) rfl rfl (j := 87) rfl (rfl) ?_
            refine fd_u_jmp (C := fd_c34) (j := 34) (st' := []) rfl rfl (b := true) rfl rfl ?_
            have e5 : fd_rl M due (fd_sx w) (fd_sy w) t (n + 1) x y r = fd_rl M due (fd_sx w) (fd_sy w) t n (x + fd_sx w) (y + fd_sy w) r := by
              conv => lhs; unfold fd_rl
              rw [if_neg (show ¬ (¬ (0 ≤ x + fd_sx w ∧ x + fd_sx w < M 3 0 ∧ 0 ≤ y + fd_sy w ∧ y + fd_sy w < M 3 1) ∨ (M 15 t = x + fd_sx w ∧ M 16 t = y + fd_sy w)) from fun q => by rcases q with q | q; exact q h54; first | exact h61 q.1 | exact h68 q.2), if_neg (by omega)]
            rw [e5]
            exact ih _ _ (i + 1) _ (by omega) (by omega) (by omega)
          · refine fd_u_blk 4 (C := fd_c34) (b := true) (L' := [fd_R 0, u, fd_I ((t : Nat) : Int), fd_I due, fd_I w, fd_I (x + (fd_sx w)), fd_I (y + (fd_sy w)), fd_I ((i : Nat) : Int)]) (st' := [fd_I (y + (fd_sy w)), fd_I (x + (fd_sx w)), fd_R 82]) (M' := (fd_wr M r)) rfl rfl (j := 80) rfl (rfl) ?_
            refine fd_u_call (C := fd_c34) (d0 := 0) (mid := 46) (np := 2) (args := [fd_I (x + (fd_sx w)), fd_I (y + (fd_sy w))]) (r1 := some (fd_I (((y + (fd_sy w)) * 7) + (x + (fd_sx w))))) (M1 := (fd_wr M r)) (st' := [fd_I (((y + (fd_sy w)) * 7) + (x + (fd_sx w))), fd_R 82]) rfl rfl rfl rfl rfl rfl (rfl) (fd_s_placeOf (fd_wr M r) (x + (fd_sx w)) (y + (fd_sy w))) rfl (by omega) ?_
            refine fd_u_blk 6 (C := fd_c34) (b := (fd_inb (((y + (fd_sy w)) * 7) + (x + (fd_sx w))) 49 && (fd_inb (((y + (fd_sy w)) * 7) + (x + (fd_sx w))) 49 && true))) (L' := [fd_R 0, u, fd_I ((t : Nat) : Int), fd_I due, fd_I w, fd_I (x + (fd_sx w)), fd_I (y + (fd_sy w)), fd_I (((i + 1) : Nat) : Int)]) (st' := []) (M' := (fd_up (fd_wr M r) 82 (((y + (fd_sy w)) * 7) + (x + (fd_sx w))).toNat (((fd_wr M r) 82 (((y + (fd_sy w)) * 7) + (x + (fd_sx w))).toNat) + due))) rfl rfl (j := 87) rfl (fd_bA (fd_bI (by omega) (by omega)) (fd_bA (fd_bI (by omega) (by omega)) (rfl))) ?_
            refine fd_u_jmp (C := fd_c34) (j := 34) (st' := []) rfl rfl (b := true) rfl rfl ?_
            have e5 : fd_rl M due (fd_sx w) (fd_sy w) t (n + 1) x y r = fd_rl M due (fd_sx w) (fd_sy w) t n (x + fd_sx w) (y + fd_sy w) (fd_ur r ((y + fd_sy w) * 7 + (x + fd_sx w)).toNat (r ((y + fd_sy w) * 7 + (x + fd_sx w)).toNat + due)) := by
              conv => lhs; unfold fd_rl
              rw [if_neg (show ¬ (¬ (0 ≤ x + fd_sx w ∧ x + fd_sx w < M 3 0 ∧ 0 ≤ y + fd_sy w ∧ y + fd_sy w < M 3 1) ∨ (M 15 t = x + fd_sx w ∧ M 16 t = y + fd_sy w)) from fun q => by rcases q with q | q; exact q h54; first | exact h61 q.1 | exact h68 q.2), if_pos (by omega)]
            rw [e5, fd_wr_up, fd_wr_at]
            exact ih _ _ (i + 1) _ (by omega) (by omega) (by omega)
        · refine fd_u_ret (C := fd_c34) (b := true) (r' := none) rfl rfl rfl (rfl) ?_ ?_
          · rfl
          · unfold fd_rl
            rw [if_pos (by first | exact Or.inl h54 | exact Or.inr ⟨Classical.not_not.mp h61, Classical.not_not.mp h68⟩)]

theorem fd_s_addRelief (M : fd_M) (hG : fd_CG M) (d : Nat) (hd : d < 6) (r : Nat → Int) : fd_call 7 34 [fd_R 0, fd_I ((d : Nat) : Int)] (fd_wr M r) (none) (fd_wr M (fd_addr M d r)) := by
  refine fd_u_in (L := [fd_R 0, fd_I ((d : Nat) : Int), fd_R 1003, fd_R 1003, fd_R 1003, fd_R 1003, fd_R 1003, fd_R 1003]) rfl ?_
  obtain ⟨g0, g1, g2, g3, g4, g5⟩ := hG.1
  obtain ⟨s1, s2, s3, s4, s5, s6, s7, s8⟩ := hG.2
  have q1 := s1 d
  have q2 := s2 d
  have q3 := s3 d
  have q4 := s4 d
  simp only [Nat.reduceAdd] at q1 q2 q3 q4
  refine fd_u_blk 3 (C := fd_c34) (b := true) (L' := [fd_R 0, fd_I ((d : Nat) : Int), fd_R 1003, fd_R 1003, fd_R 1003, fd_R 1003, fd_R 1003, fd_R 1003]) (st' := [fd_I ((d : Nat) : Int), fd_R 72]) (M' := (fd_wr M r)) rfl rfl (j := 3) rfl (rfl) ?_
  refine fd_u_call (C := fd_c34) (d0 := 5) (mid := 153) (np := 2) (args := [fd_R 72, fd_I ((d : Nat) : Int)]) (r1 := some (fd_I (fd_nb (fd_sw M d)))) (M1 := (fd_wr M r)) (st' := [fd_I (fd_nb (fd_sw M d))]) rfl rfl rfl rfl rfl rfl (rfl) (fd_T2_sees M hG ((d : Nat) : Int) (by omega) r) rfl (by omega) ?_
  have qn := fd_nb_cases (fd_sw_rng hG d)
  refine fd_u_blk 3 (C := fd_c34) (b := true) (L' := [fd_R 0, fd_I ((d : Nat) : Int), fd_I (fd_nb (fd_sw M d)), fd_R 1003, fd_R 1003, fd_R 1003, fd_R 1003, fd_R 1003]) (st' := [fd_I (-1), fd_I (fd_nb (fd_sw M d))]) (M' := (fd_wr M r)) rfl rfl (j := 7) rfl (rfl) ?_
  refine fd_u_br (C := fd_c34) (t := 9) (e := 8) (st' := []) (c := ¬ (fd_nb (fd_sw M d)) = (-1)) (b := (fd_rng (fd_nb (fd_sw M d)) && fd_rng (-1))) rfl rfl rfl (fd_bA (fd_bR (by omega) (by omega)) (fd_bR (by omega) (by omega))) (fun h7 => ?_) (fun h7 => ?_)
  · refine fd_u_blk 3 (C := fd_c34) (b := true) (L' := [fd_R 0, fd_I ((d : Nat) : Int), fd_I (fd_nb (fd_sw M d)), fd_R 1003, fd_R 1003, fd_R 1003, fd_R 1003, fd_R 1003]) (st' := [fd_I ((d : Nat) : Int), fd_R 72]) (M' := (fd_wr M r)) rfl rfl (j := 12) rfl (rfl) ?_
    refine fd_u_call (C := fd_c34) (d0 := 6) (mid := 156) (np := 2) (args := [fd_R 72, fd_I ((d : Nat) : Int)]) (r1 := some (fd_I (fd_dueC M d))) (M1 := (fd_wr M r)) (st' := [fd_I (fd_dueC M d)]) rfl rfl rfl rfl rfl rfl (rfl) (fd_T2_due M hG ((d : Nat) : Int) (by omega) r) rfl (by omega) ?_
    refine fd_u_blk 21 (C := fd_c34) (b := (fd_inb ((d : Nat) : Int) 6 && (fd_inb ((d : Nat) : Int) 6 && (fd_inb ((d : Nat) : Int) 6 && true)))) (L' := [fd_R 0, fd_I ((d : Nat) : Int), fd_I (fd_nb (fd_sw M d)), fd_I (fd_dueC M d), fd_I ((fd_wr M r) 17 d), fd_I ((fd_wr M r) 15 d), fd_I ((fd_wr M r) 16 d), fd_I 1]) (st' := []) (M' := (fd_wr M r)) rfl rfl (j := 34) rfl (fd_bA (fd_bI (by omega) (by omega)) (fd_bA (fd_bI (by omega) (by omega)) (fd_bA (fd_bI (by omega) (by omega)) (rfl)))) ?_
    rw [fd_addr, if_neg (by omega)]
    have z := fd_l_relief M hG (fd_dueC M d) (M 17 d) q3 (fd_nb (fd_sw M d)).toNat (by omega) (fd_I (d : Int)) 6 (M 15 d) (M 16 d) 1 r (by omega) q1 q2
    rw [Int.toNat_of_nonneg (show 0 ≤ fd_nb (fd_sw M d) by omega)] at z
    exact z
  · refine fd_u_ret (C := fd_c34) (b := true) (r' := none) rfl rfl rfl (rfl) ?_ ?_
    · rfl
    · rw [fd_addr, if_pos (by omega)]

theorem fd_rl_loc (M : fd_M) (due dx dy : Int) (t : Nat) (h0 : M 3 0 ≤ 7) (h1 : M 3 1 ≤ 7) : ∀ (n : Nat) (x y : Int) (r s : Nat → Int), (∀ p, p < 49 → r p = s p) → ∀ p, p < 49 → fd_rl M due dx dy t n x y r p = fd_rl M due dx dy t n x y s p
  | 0, x, y, r, s, h, p, hp => h p hp
  | n + 1, x, y, r, s, h, p, hp => by
    unfold fd_rl
    by_cases c : ¬ (0 ≤ x + dx ∧ x + dx < M 3 0 ∧ 0 ≤ y + dy ∧ y + dy < M 3 1) ∨ (M 15 t = x + dx ∧ M 16 t = y + dy)
    · rw [if_pos c, if_pos c]; exact h p hp
    · rw [if_neg c, if_neg c]
      refine fd_rl_loc M due dx dy t h0 h1 n _ _ _ _ ?_ p hp
      intro q hq
      by_cases e : M 4 ((y + dy) * 7 + (x + dx)).toNat = 0
      · rw [if_pos e, if_pos e]
        unfold fd_ur
        have c2 : 0 ≤ x + dx ∧ x + dx < M 3 0 ∧ 0 ≤ y + dy ∧ y + dy < M 3 1 := Classical.not_not.mp (fun z => c (Or.inl z))
        rw [h q hq, h ((y + dy) * 7 + (x + dx)).toNat (by omega)]
      · rw [if_neg e, if_neg e]; exact h q hq
theorem fd_addr_loc {M : fd_M} (hG : fd_CG M) (d : Nat) (r s : Nat → Int) (h : ∀ p, p < 49 → r p = s p) : ∀ p, p < 49 → fd_addr M d r p = fd_addr M d s p := by
  intro p hp
  unfold fd_addr
  split
  · exact h p hp
  · exact fd_rl_loc M _ _ _ _ hG.1.1.2 hG.1.2.1.2 _ _ _ r s h p hp
def fd_addz (M : fd_M) : Nat → Nat → Int
  | 0 => fun _ => 0
  | k + 1 => fd_addr M k (fd_addz M k)
theorem fd_adds_z {M : fd_M} (hG : fd_CG M) : ∀ k p : Nat, p < 49 → fd_adds M k p = fd_addz M k p
  | 0, p, hp => by
    show (if p < 49 then 0 else M 82 p) = 0
    rw [if_pos hp]
  | k + 1, p, hp => fd_addr_loc hG k _ _ (fd_adds_z hG k) p hp
theorem fd_addz_rng {M : fd_M} (hG : fd_CG M) : ∀ k p : Nat, 0 ≤ fd_addz M k p ∧ fd_addz M k p ≤ k * 108
  | 0, p => by
    show (0 : Int) ≤ 0 ∧ (0 : Int) ≤ ((0 : Nat) : Int) * 108
    omega
  | k + 1, p => by
    show 0 ≤ fd_addr M k (fd_addz M k) p ∧ fd_addr M k (fd_addz M k) p ≤ _
    unfold fd_addr
    split
    · have := fd_addz_rng hG k p
      omega
    · have := fd_rl_rng M (fd_due_rng (wy := M 17) hG.1.2.2.2.1 (fd_sw M k) k) (fd_sx (M 17 k)) (fd_sy (M 17 k)) (fd_nb (fd_sw M k)).toNat 6 (M 15 k) (M 16 k) (fd_addz M k) (k * 108) (fd_addz_rng hG k) p
      unfold fd_dueC
      omega
def fd_sst (g : Nat → Nat → Int) (y x : Nat) (s : Int × Int) : Int × Int := if s.2 < g y x then (10 * (y : Int) + (x : Int), g y x) else s
def fd_scx (g : Nat → Nat → Int) (y : Nat) : Nat → Nat → Int × Int → Int × Int
  | 0, _, s => s
  | n + 1, x, s => fd_scx g y n (x + 1) (fd_sst g y x s)
def fd_scy (g : Nat → Nat → Int) (W : Nat) : Nat → Nat → Int × Int → Int × Int
  | 0, _, s => s
  | n + 1, y, s => fd_scy g W n (y + 1) (fd_scx g y W 0 s)
theorem fd_scx_rng (g : Nat → Nat → Int) (hg : ∀ y x, y < 7 → x < 7 → 0 ≤ g y x ∧ g y x ≤ 1000) (y : Nat) (hy : y < 7) : ∀ (n x : Nat) (s : Int × Int), x + n ≤ 7 → 0 ≤ s.2 ∧ s.2 ≤ 1000 → 0 ≤ (fd_scx g y n x s).2 ∧ (fd_scx g y n x s).2 ≤ 1000
  | 0, _, s, _, h => h
  | n + 1, x, s, hx, h => by
    show 0 ≤ (fd_scx g y n (x + 1) (fd_sst g y x s)).2 ∧ _
    refine fd_scx_rng g hg y hy n (x + 1) _ (by omega) ?_
    unfold fd_sst
    have := hg y x hy (by omega)
    split
    · exact this
    · exact h
theorem fd_wr_init (M : fd_M) : fd_wr M (fun k => if k < 0 then 0 else M 82 k) = M := by
  rw [show (fun k => if k < 0 then 0 else M 82 k) = M 82 by funext k; rw [if_neg (by omega)]]
  exact fd_wr_self M
theorem fd_ur_step (M : fd_M) (i : Nat) : fd_ur (fun k => if k < i then 0 else M 82 k) i 0 = (fun k => if k < i + 1 then 0 else M 82 k) := by
  funext k
  unfold fd_ur
  by_cases h : k = i
  · rw [if_pos h, if_pos (by omega)]
  · rw [if_neg h]
    dsimp only
    by_cases h2 : k < i
    · rw [if_pos h2, if_pos (by omega)]
    · rw [if_neg h2, if_neg (by omega)]
def fd_cg (M : fd_M) (y x : Nat) : Int := fd_adds M (M 3 2).toNat ((y : Int) * 7 + (x : Int)).toNat
theorem fd_cg_rng {M : fd_M} (hG : fd_CG M) : ∀ y x : Nat, y < 7 → x < 7 → 0 ≤ fd_cg M y x ∧ fd_cg M y x ≤ 1000 := by
  intro y x hy hx
  unfold fd_cg
  have g2 := hG.1.2.2.1
  rw [fd_adds_z hG _ _ (by omega)]
  have := fd_addz_rng hG (M 3 2).toNat ((y : Int) * 7 + (x : Int)).toNat
  omega
def fd_X_cartAt (M : fd_M) : Int := (fd_scy (fd_cg M) (M 3 0).toNat (M 3 1).toNat 0 (-9, 0)).1
def fd_Y_cartAt (M : fd_M) : fd_M := fd_wr M (fd_adds M (M 3 2).toNat)
theorem fd_l_cx (M : fd_M) (hG : fd_CG M) (y : Nat) (hy : y < 7) (s' : Int × Int) (r : Int) (cont : ∀ u v, fd_run 8 16 32 [fd_R 0, fd_I s'.1, fd_I s'.2, fd_I ((y + 1 : Nat) : Int), u, v] [] (fd_wr M (fd_adds M (M 3 2).toNat)) (some (fd_I r)) (fd_wr M (fd_adds M (M 3 2).toNat))) : ∀ (n : Nat) (x : Nat) (s : Int × Int) (v : fd_V) (hb : (x : Int) + n = M 3 0) (hf : 0 ≤ s.2 ∧ s.2 ≤ 1000) (he : fd_scx (fd_cg M) y n x s = s'), fd_run 8 16 39 [fd_R 0, fd_I s.1, fd_I s.2, fd_I ((y : Nat) : Int), fd_I ((x : Nat) : Int), v] [] (fd_wr M (fd_adds M (M 3 2).toNat)) (some (fd_I r)) (fd_wr M (fd_adds M (M 3 2).toNat)) := by
  obtain ⟨g0, g1, g2, g3, g4, g5⟩ := hG.1
  intro n
  induction n with
  | zero =>
    intro x s v hb hf he
    have e0 : (fd_wr M (fd_adds M (M 3 2).toNat)) 3 0 = M 3 0 := rfl
    refine fd_u_blk 4 (C := fd_c16) (b := true) (L' := [fd_R 0, fd_I s.1, fd_I s.2, fd_I ((y : Nat) : Int), fd_I ((x : Nat) : Int), v]) (st' := [fd_I ((fd_wr M (fd_adds M (M 3 2).toNat)) 3 0), fd_I ((x : Nat) : Int)]) (M' := (fd_wr M (fd_adds M (M 3 2).toNat))) rfl rfl (j := 43) rfl (rfl) ?_
    refine fd_u_br (C := fd_c16) (t := 64) (e := 44) (st' := []) (c := ((fd_wr M (fd_adds M (M 3 2).toNat)) 3 0) ≤ ((x : Nat) : Int)) (b := (fd_rng ((x : Nat) : Int) && fd_rng ((fd_wr M (fd_adds M (M 3 2).toNat)) 3 0))) rfl rfl rfl (fd_bA (fd_bR (by omega) (by omega)) (fd_bR (by omega) (by omega))) (fun h43 => ?_) (fun h43 => absurd h43 (by omega))
    refine fd_u_blk 1 (C := fd_c16) (b := true) (L' := [fd_R 0, fd_I s.1, fd_I s.2, fd_I (((y + 1) : Nat) : Int), fd_I ((x : Nat) : Int), v]) (st' := []) (M' := (fd_wr M (fd_adds M (M 3 2).toNat))) rfl rfl (j := 65) rfl (rfl) ?_
    refine fd_u_jmp (C := fd_c16) (j := 32) (st' := []) rfl rfl (b := true) rfl rfl ?_
    have e9 : s = s' := he
    rw [e9]
    exact cont _ _
  | succ n ih =>
    intro x s v hb hf he
    have e0 : (fd_wr M (fd_adds M (M 3 2).toNat)) 3 0 = M 3 0 := rfl
    have cr := fd_cg_rng hG y x hy (by omega)
    have ca := fd_wr_at M (fd_adds M (M 3 2).toNat) ((y : Int) * 7 + (x : Int)).toNat
    unfold fd_cg at cr
    refine fd_u_blk 4 (C := fd_c16) (b := true) (L' := [fd_R 0, fd_I s.1, fd_I s.2, fd_I ((y : Nat) : Int), fd_I ((x : Nat) : Int), v]) (st' := [fd_I ((fd_wr M (fd_adds M (M 3 2).toNat)) 3 0), fd_I ((x : Nat) : Int)]) (M' := (fd_wr M (fd_adds M (M 3 2).toNat))) rfl rfl (j := 43) rfl (rfl) ?_
    refine fd_u_br (C := fd_c16) (t := 64) (e := 44) (st' := []) (c := ((fd_wr M (fd_adds M (M 3 2).toNat)) 3 0) ≤ ((x : Nat) : Int)) (b := (fd_rng ((x : Nat) : Int) && fd_rng ((fd_wr M (fd_adds M (M 3 2).toNat)) 3 0))) rfl rfl rfl (fd_bA (fd_bR (by omega) (by omega)) (fd_bR (by omega) (by omega))) (fun h43 => absurd h43 (by omega)) (fun h43 => ?_)
    refine fd_u_blk 4 (C := fd_c16) (b := true) (L' := [fd_R 0, fd_I s.1, fd_I s.2, fd_I ((y : Nat) : Int), fd_I ((x : Nat) : Int), v]) (st' := [fd_I ((y : Nat) : Int), fd_I ((x : Nat) : Int), fd_R 82]) (M' := (fd_wr M (fd_adds M (M 3 2).toNat))) rfl rfl (j := 48) rfl (rfl) ?_
    refine fd_u_call (C := fd_c16) (d0 := 0) (mid := 46) (np := 2) (args := [fd_I ((x : Nat) : Int), fd_I ((y : Nat) : Int)]) (r1 := some (fd_I ((((y : Nat) : Int) * 7) + ((x : Nat) : Int)))) (M1 := (fd_wr M (fd_adds M (M 3 2).toNat))) (st' := [fd_I ((((y : Nat) : Int) * 7) + ((x : Nat) : Int)), fd_R 82]) rfl rfl rfl rfl rfl rfl (rfl) (fd_s_placeOf (fd_wr M (fd_adds M (M 3 2).toNat)) ((x : Nat) : Int) ((y : Nat) : Int)) rfl (by omega) ?_
    refine fd_u_blk 4 (C := fd_c16) (b := (fd_inb ((((y : Nat) : Int) * 7) + ((x : Nat) : Int)) 49 && true)) (L' := [fd_R 0, fd_I s.1, fd_I s.2, fd_I ((y : Nat) : Int), fd_I ((x : Nat) : Int), fd_I ((fd_wr M (fd_adds M (M 3 2).toNat)) 82 ((((y : Nat) : Int) * 7) + ((x : Nat) : Int)).toNat)]) (st' := [fd_I s.2, fd_I ((fd_wr M (fd_adds M (M 3 2).toNat)) 82 ((((y : Nat) : Int) * 7) + ((x : Nat) : Int)).toNat)]) (M' := (fd_wr M (fd_adds M (M 3 2).toNat))) rfl rfl (j := 53) rfl (fd_bA (fd_bI (by omega) (by omega)) (rfl)) ?_
    refine fd_u_br (C := fd_c16) (t := 62) (e := 54) (st' := []) (c := ((fd_wr M (fd_adds M (M 3 2).toNat)) 82 ((((y : Nat) : Int) * 7) + ((x : Nat) : Int)).toNat) ≤ s.2) (b := (fd_rng ((fd_wr M (fd_adds M (M 3 2).toNat)) 82 ((((y : Nat) : Int) * 7) + ((x : Nat) : Int)).toNat) && fd_rng s.2)) rfl rfl rfl (fd_bA (fd_bR (by omega) (by omega)) (fd_bR (by omega) (by omega))) (fun h53 => ?_) (fun h53 => ?_)
    · refine fd_u_blk 1 (C := fd_c16) (b := true) (L' := [fd_R 0, fd_I s.1, fd_I s.2, fd_I ((y : Nat) : Int), fd_I (((x + 1) : Nat) : Int), fd_I ((fd_wr M (fd_adds M (M 3 2).toNat)) 82 ((((y : Nat) : Int) * 7) + ((x : Nat) : Int)).toNat)]) (st' := []) (M' := (fd_wr M (fd_adds M (M 3 2).toNat))) rfl rfl (j := 63) rfl (rfl) ?_
      refine fd_u_jmp (C := fd_c16) (j := 39) (st' := []) rfl rfl (b := true) rfl rfl ?_
      have e5 : fd_sst (fd_cg M) y x s = s := by
        unfold fd_sst
        rw [if_neg (by rw [fd_wr_at] at h53; unfold fd_cg; omega)]
      refine ih (x + 1) s _ (by omega) hf ?_
      have he2 := he
      unfold fd_scx at he2
      rw [e5] at he2
      exact he2
    · refine fd_u_blk 9 (C := fd_c16) (b := true) (L' := [fd_R 0, fd_I ((10 * ((y : Nat) : Int)) + ((x : Nat) : Int)), fd_I ((fd_wr M (fd_adds M (M 3 2).toNat)) 82 ((((y : Nat) : Int) * 7) + ((x : Nat) : Int)).toNat), fd_I ((y : Nat) : Int), fd_I (((x + 1) : Nat) : Int), fd_I ((fd_wr M (fd_adds M (M 3 2).toNat)) 82 ((((y : Nat) : Int) * 7) + ((x : Nat) : Int)).toNat)]) (st' := []) (M' := (fd_wr M (fd_adds M (M 3 2).toNat))) rfl rfl (j := 63) rfl (rfl) ?_
      refine fd_u_jmp (C := fd_c16) (j := 39) (st' := []) rfl rfl (b := true) rfl rfl ?_
      rw [fd_wr_at]
      have e5 : fd_sst (fd_cg M) y x s = (10 * (y : Int) + (x : Int), fd_cg M y x) := by
        unfold fd_sst
        rw [if_pos (by rw [fd_wr_at] at h53; unfold fd_cg; omega)]
      refine ih (x + 1) (10 * (y : Int) + (x : Int), fd_cg M y x) _ (by omega) (fd_cg_rng hG y x hy (by omega)) ?_
      rw [← e5]
      exact he

theorem fd_l_cy (M : fd_M) (hG : fd_CG M) (s' : Int × Int) (r : Int) (hr : r = s'.1) : ∀ (n : Nat) (y : Nat) (s : Int × Int) (u v : fd_V) (hb : (y : Int) + n = M 3 1) (hf : 0 ≤ s.2 ∧ s.2 ≤ 1000) (he : fd_scy (fd_cg M) (M 3 0).toNat n y s = s'), fd_run 8 16 32 [fd_R 0, fd_I s.1, fd_I s.2, fd_I ((y : Nat) : Int), u, v] [] (fd_wr M (fd_adds M (M 3 2).toNat)) (some (fd_I r)) (fd_wr M (fd_adds M (M 3 2).toNat)) := by
  obtain ⟨g0, g1, g2, g3, g4, g5⟩ := hG.1
  intro n
  induction n with
  | zero =>
    intro y s u v hb hf he
    have e0 : (fd_wr M (fd_adds M (M 3 2).toNat)) 3 1 = M 3 1 := rfl
    refine fd_u_blk 4 (C := fd_c16) (b := true) (L' := [fd_R 0, fd_I s.1, fd_I s.2, fd_I ((y : Nat) : Int), u, v]) (st' := [fd_I ((fd_wr M (fd_adds M (M 3 2).toNat)) 3 1), fd_I ((y : Nat) : Int)]) (M' := (fd_wr M (fd_adds M (M 3 2).toNat))) rfl rfl (j := 36) rfl (rfl) ?_
    refine fd_u_br (C := fd_c16) (t := 66) (e := 37) (st' := []) (c := ((fd_wr M (fd_adds M (M 3 2).toNat)) 3 1) ≤ ((y : Nat) : Int)) (b := (fd_rng ((y : Nat) : Int) && fd_rng ((fd_wr M (fd_adds M (M 3 2).toNat)) 3 1))) rfl rfl rfl (fd_bA (fd_bR (by omega) (by omega)) (fd_bR (by omega) (by omega))) (fun h36 => ?_) (fun h36 => absurd h36 (by omega))
    refine fd_u_blk 1 (C := fd_c16) (b := true) (L' := [fd_R 0, fd_I s.1, fd_I s.2, fd_I ((y : Nat) : Int), u, v]) (st' := [fd_I s.1]) (M' := (fd_wr M (fd_adds M (M 3 2).toNat))) rfl rfl (j := 67) rfl (rfl) ?_
    refine fd_u_ret (C := fd_c16) (b := true) (r' := some (fd_I s.1)) rfl rfl rfl (rfl) ?_ ?_
    · have e9 : s = s' := he
      rw [hr, ← e9]
    · rfl
  | succ n ih =>
    intro y s u v hb hf he
    have e0 : (fd_wr M (fd_adds M (M 3 2).toNat)) 3 1 = M 3 1 := rfl
    refine fd_u_blk 4 (C := fd_c16) (b := true) (L' := [fd_R 0, fd_I s.1, fd_I s.2, fd_I ((y : Nat) : Int), u, v]) (st' := [fd_I ((fd_wr M (fd_adds M (M 3 2).toNat)) 3 1), fd_I ((y : Nat) : Int)]) (M' := (fd_wr M (fd_adds M (M 3 2).toNat))) rfl rfl (j := 36) rfl (rfl) ?_
    refine fd_u_br (C := fd_c16) (t := 66) (e := 37) (st' := []) (c := ((fd_wr M (fd_adds M (M 3 2).toNat)) 3 1) ≤ ((y : Nat) : Int)) (b := (fd_rng ((y : Nat) : Int) && fd_rng ((fd_wr M (fd_adds M (M 3 2).toNat)) 3 1))) rfl rfl rfl (fd_bA (fd_bR (by omega) (by omega)) (fd_bR (by omega) (by omega))) (fun h36 => absurd h36 (by omega)) (fun h36 => ?_)
    refine fd_u_blk 2 (C := fd_c16) (b := true) (L' := [fd_R 0, fd_I s.1, fd_I s.2, fd_I ((y : Nat) : Int), fd_I 0, v]) (st' := []) (M' := (fd_wr M (fd_adds M (M 3 2).toNat))) rfl rfl (j := 39) rfl (rfl) ?_
    have r9 := fd_scx_rng (fd_cg M) (fd_cg_rng hG) y (by omega) (M 3 0).toNat 0 s (by omega) hf
    exact fd_l_cx M hG y (by omega) _ r (fun u v => ih (y + 1) _ u v (by omega) r9 he) (M 3 0).toNat 0 s _ (by omega) hf rfl

theorem fd_l_cd (M : fd_M) (hG : fd_CG M) : ∀ (n : Nat) (k : Nat) (u1 u2 u3 u4 : fd_V) (hk : (k : Int) + n = M 3 2), fd_run 8 16 16 [fd_R 0, fd_I ((k : Nat) : Int), u1, u2, u3, u4] [] (fd_wr M (fd_adds M k)) (some (fd_I (fd_scy (fd_cg M) (M 3 0).toNat (M 3 1).toNat 0 (-9, 0)).1)) (fd_wr M (fd_adds M (M 3 2).toNat)) := by
  obtain ⟨g0, g1, g2, g3, g4, g5⟩ := hG.1
  intro n
  induction n with
  | zero =>
    intro k u1 u2 u3 u4 hk
    have e0 : fd_wr M (fd_adds M k) 3 2 = M 3 2 := rfl
    refine fd_u_blk 4 (C := fd_c16) (b := true) (L' := [fd_R 0, fd_I ((k : Nat) : Int), u1, u2, u3, u4]) (st' := [fd_I ((fd_wr M (fd_adds M k)) 3 2), fd_I ((k : Nat) : Int)]) (M' := (fd_wr M (fd_adds M k))) rfl rfl (j := 20) rfl (rfl) ?_
    refine fd_u_br (C := fd_c16) (t := 26) (e := 21) (st' := []) (c := ((fd_wr M (fd_adds M k)) 3 2) ≤ ((k : Nat) : Int)) (b := (fd_rng ((k : Nat) : Int) && fd_rng ((fd_wr M (fd_adds M k)) 3 2))) rfl rfl rfl (fd_bA (fd_bR (by omega) (by omega)) (fd_bR (by omega) (by omega))) (fun h20 => ?_) (fun h20 => absurd h20 (by omega))
    refine fd_u_blk 6 (C := fd_c16) (b := true) (L' := [fd_R 0, fd_I (-9), fd_I 0, fd_I 0, u3, u4]) (st' := []) (M' := (fd_wr M (fd_adds M k))) rfl rfl (j := 32) rfl (rfl) ?_
    have z := fd_l_cy M hG _ _ rfl (M 3 1).toNat 0 (-9, 0) u3 u4 (by omega) (by decide) rfl
    rw [show (M 3 2).toNat = k by omega] at z ⊢
    exact z
  | succ n ih =>
    intro k u1 u2 u3 u4 hk
    have e0 : fd_wr M (fd_adds M k) 3 2 = M 3 2 := rfl
    refine fd_u_blk 4 (C := fd_c16) (b := true) (L' := [fd_R 0, fd_I ((k : Nat) : Int), u1, u2, u3, u4]) (st' := [fd_I ((fd_wr M (fd_adds M k)) 3 2), fd_I ((k : Nat) : Int)]) (M' := (fd_wr M (fd_adds M k))) rfl rfl (j := 20) rfl (rfl) ?_
    refine fd_u_br (C := fd_c16) (t := 26) (e := 21) (st' := []) (c := ((fd_wr M (fd_adds M k)) 3 2) ≤ ((k : Nat) : Int)) (b := (fd_rng ((k : Nat) : Int) && fd_rng ((fd_wr M (fd_adds M k)) 3 2))) rfl rfl rfl (fd_bA (fd_bR (by omega) (by omega)) (fd_bR (by omega) (by omega))) (fun h20 => absurd h20 (by omega)) (fun h20 => ?_)
    refine fd_u_blk 2 (C := fd_c16) (b := true) (L' := [fd_R 0, fd_I ((k : Nat) : Int), u1, u2, u3, u4]) (st' := [fd_I ((k : Nat) : Int), fd_R 0]) (M' := (fd_wr M (fd_adds M k))) rfl rfl (j := 23) rfl (rfl) ?_
    refine fd_u_call (C := fd_c16) (d0 := 7) (mid := 34) (np := 2) (args := [fd_R 0, fd_I ((k : Nat) : Int)]) (r1 := none) (M1 := (fd_wr M (fd_addr M k (fd_adds M k)))) (st' := []) rfl rfl rfl rfl rfl rfl (rfl) (fd_s_addRelief M hG k (by omega) (fd_adds M k)) rfl (by omega) ?_
    refine fd_u_blk 1 (C := fd_c16) (b := true) (L' := [fd_R 0, fd_I (((k + 1) : Nat) : Int), u1, u2, u3, u4]) (st' := []) (M' := (fd_wr M (fd_addr M k (fd_adds M k)))) rfl rfl (j := 25) rfl (rfl) ?_
    refine fd_u_jmp (C := fd_c16) (j := 16) (st' := []) rfl rfl (b := true) rfl rfl ?_
    exact ih (k + 1) u1 u2 u3 u4 (by omega)

theorem fd_l_c0 (M : fd_M) (hG : fd_CG M) : ∀ (n : Nat) (i : Nat) (u2 u3 u4 u5 : fd_V) (hk : i + n = 49), fd_run 8 16 2 [fd_R 0, fd_I ((i : Nat) : Int), u2, u3, u4, u5] [] (fd_wr M (fun k => if k < i then 0 else M 82 k)) (some (fd_I (fd_scy (fd_cg M) (M 3 0).toNat (M 3 1).toNat 0 (-9, 0)).1)) (fd_wr M (fd_adds M (M 3 2).toNat)) := by
  obtain ⟨g0, g1, g2, g3, g4, g5⟩ := hG.1
  intro n
  induction n with
  | zero =>
    intro i u2 u3 u4 u5 hk
    refine fd_u_blk 4 (C := fd_c16) (b := true) (L' := [fd_R 0, fd_I ((i : Nat) : Int), u2, u3, u4, u5]) (st' := [fd_I 49, fd_I ((i : Nat) : Int)]) (M' := (fd_wr M (fun k => if k < i then 0 else M 82 k))) rfl rfl (j := 6) rfl (rfl) ?_
    refine fd_u_br (C := fd_c16) (t := 14) (e := 7) (st' := []) (c := 49 ≤ ((i : Nat) : Int)) (b := (fd_rng ((i : Nat) : Int) && fd_rng 49)) rfl rfl rfl (fd_bA (fd_bR (by omega) (by omega)) (fd_bR (by omega) (by omega))) (fun h6 => ?_) (fun h6 => absurd h6 (by omega))
    refine fd_u_blk 2 (C := fd_c16) (b := true) (L' := [fd_R 0, fd_I 0, u2, u3, u4, u5]) (st' := []) (M' := (fd_wr M (fun k => if k < i then 0 else M 82 k))) rfl rfl (j := 16) rfl (rfl) ?_
    have ei : i = 49 := by omega
    subst ei
    exact fd_l_cd M hG (M 3 2).toNat 0 u2 u3 u4 u5 (by omega)
  | succ n ih =>
    intro i u2 u3 u4 u5 hk
    refine fd_u_blk 4 (C := fd_c16) (b := true) (L' := [fd_R 0, fd_I ((i : Nat) : Int), u2, u3, u4, u5]) (st' := [fd_I 49, fd_I ((i : Nat) : Int)]) (M' := (fd_wr M (fun k => if k < i then 0 else M 82 k))) rfl rfl (j := 6) rfl (rfl) ?_
    refine fd_u_br (C := fd_c16) (t := 14) (e := 7) (st' := []) (c := 49 ≤ ((i : Nat) : Int)) (b := (fd_rng ((i : Nat) : Int) && fd_rng 49)) rfl rfl rfl (fd_bA (fd_bR (by omega) (by omega)) (fd_bR (by omega) (by omega))) (fun h6 => absurd h6 (by omega)) (fun h6 => ?_)
    refine fd_u_blk 6 (C := fd_c16) (b := (fd_inb ((i : Nat) : Int) 49 && true)) (L' := [fd_R 0, fd_I (((i + 1) : Nat) : Int), u2, u3, u4, u5]) (st' := []) (M' := (fd_up (fd_wr M (fun k => if k < i then 0 else M 82 k)) 82 i 0)) rfl rfl (j := 13) rfl (fd_bA (fd_bI (by omega) (by omega)) (rfl)) ?_
    refine fd_u_jmp (C := fd_c16) (j := 2) (st' := []) rfl rfl (b := true) rfl rfl ?_
    rw [fd_wr_up, fd_ur_step]
    exact ih (i + 1) u2 u3 u4 u5 (by omega)

theorem fd_x_cartAt (M : fd_M) (hG : fd_CG M) : fd_call 8 16 [fd_R 0] M (some (fd_I (fd_X_cartAt M))) (fd_Y_cartAt M) := by
  refine fd_u_in (L := [fd_R 0, fd_R 1003, fd_R 1003, fd_R 1003, fd_R 1003, fd_R 1003]) rfl ?_
  refine fd_u_blk 2 (C := fd_c16) (b := true) (L' := [fd_R 0, fd_I 0, fd_R 1003, fd_R 1003, fd_R 1003, fd_R 1003]) (st' := []) (M' := M) rfl rfl (j := 2) rfl (rfl) ?_
  have z := fd_l_c0 M hG 49 0 (fd_R 1003) (fd_R 1003) (fd_R 1003) (fd_R 1003) (by omega)
  rw [fd_wr_init] at z
  exact z


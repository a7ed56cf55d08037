/-! bills and marks: the class -/
theorem fd_dor_of {M N : fd_M} (h3 : N 3 = M 3) (h15 : N 15 = M 15) (h16 : N 16 = M 16) : fd_dor N = fd_dor M := by
  funext x y
  unfold fd_dor
  rw [h3, h15, h16]
theorem fd_cvC_of {M N : fd_M} (h3 : N 3 = M 3) (h4 : N 4 = M 4) (h14 : N 14 5 = M 14 5) (h15 : N 15 = M 15) (h16 : N 16 = M 16) : fd_cvC N = fd_cvC M := by
  funext x y
  unfold fd_cvC
  rw [fd_dor_of h3 h15 h16, h3, h4, h14]
theorem fd_wsee_of {M N : fd_M} (h3 : N 3 = M 3) (h4 : N 4 = M 4) (h14 : N 14 = M 14) (h15 : N 15 = M 15) (h16 : N 16 = M 16) : fd_wsee N = fd_wsee M := by
  funext d w
  unfold fd_wsee
  rw [fd_cvC_of h3 h4 (by rw [h14]) h15 h16, h3, h14, h15, h16]
theorem fd_sw_of {M N : fd_M} (h3 : N 3 = M 3) (h4 : N 4 = M 4) (h14 : N 14 = M 14) (h15 : N 15 = M 15) (h16 : N 16 = M 16) (h17 : N 17 = M 17) : fd_sw N = fd_sw M := by
  funext d
  unfold fd_sw
  rw [fd_wsee_of h3 h4 h14 h15 h16, h14, h17]
theorem fd_dueC_of {M N : fd_M} (h3 : N 3 = M 3) (h4 : N 4 = M 4) (h14 : N 14 = M 14) (h15 : N 15 = M 15) (h16 : N 16 = M 16) (h17 : N 17 = M 17) : fd_dueC N = fd_dueC M := by
  funext d
  unfold fd_dueC
  rw [fd_sw_of h3 h4 h14 h15 h16 h17, h3, h17]
theorem fd_dio_of {M N : fd_M} (h3 : N 3 = M 3) (h4 : N 4 = M 4) (h14 : N 14 = M 14) (h15 : N 15 = M 15) (h16 : N 16 = M 16) (h17 : N 17 = M 17) : fd_dio N = fd_dio M := by
  funext d
  unfold fd_dio
  rw [fd_wsee_of h3 h4 h14 h15 h16, h3, h14, h17]
def fd_bil (M : fd_M) (k : Nat) : fd_M := fun c j => if c = 18 ∧ j < k then (if M 18 j + fd_dueC M j < 9999 then M 18 j + fd_dueC M j else 9999) else M c j
theorem fd_bil_fr {M : fd_M} {k c : Nat} (h : c ≠ 18) : fd_bil M k c = M c := by
  funext j
  unfold fd_bil
  rw [if_neg (fun q => h q.1)]
theorem fd_bil_0 (M : fd_M) : fd_bil M 0 = M := by
  funext c j
  unfold fd_bil
  rw [if_neg (by omega)]
theorem fd_bil_S (M : fd_M) (k : Nat) : fd_up (fd_bil M k) 18 k (if M 18 k + fd_dueC M k < 9999 then M 18 k + fd_dueC M k else 9999) = fd_bil M (k + 1) := by
  funext c j
  unfold fd_up fd_bil
  by_cases h : c = 18 ∧ j = k
  · obtain ⟨rfl, rfl⟩ := h
    rw [if_pos (show 18 = 18 ∧ j = j from ⟨rfl, rfl⟩), if_pos (show 18 = 18 ∧ j < j + 1 from ⟨rfl, by omega⟩)]
  · rw [if_neg h]
    by_cases h2 : c = 18 ∧ j < k
    · rw [if_pos h2, if_pos (show c = 18 ∧ j < k + 1 by omega)]
    · rw [if_neg h2, if_neg (show ¬ (c = 18 ∧ j < k + 1) by omega)]
theorem fd_bil_k (M : fd_M) (k : Nat) : fd_bil M k 18 k = M 18 k := by
  unfold fd_bil
  rw [if_neg (by omega)]
theorem fd_CG_bil {M : fd_M} (hG : fd_CG M) (k : Nat) : fd_CG (fd_bil M k) := by
  have q := hG.2.2.2.2.1
  have g3 := hG.1.2.2.2.1
  refine ⟨hG.1, hG.2.1, hG.2.2.1, hG.2.2.2.1, ?_, hG.2.2.2.2.2⟩
  intro d
  have qd := q d
  have qe := fd_due_rng (wy := M 17) g3 (fd_sw M d) d
  show 0 ≤ fd_bil M k 18 d ∧ fd_bil M k 18 d ≤ 9999
  unfold fd_bil fd_dueC
  simp only [Nat.reduceAdd] at qd
  split
  · split <;> omega
  · exact qd
theorem fd_dueC_bil (M : fd_M) (k : Nat) : fd_dueC (fd_bil M k) = fd_dueC M := fd_dueC_of (fd_bil_fr (by decide)) (fd_bil_fr (by decide)) (fd_bil_fr (by decide)) (fd_bil_fr (by decide)) (fd_bil_fr (by decide)) (fd_bil_fr (by decide))
theorem fd_s_dueOf_bil (M : fd_M) (hG : fd_CG M) (k : Nat) (hk : k < 6) : fd_call 6 156 [fd_R 72, fd_I (k : Int)] (fd_bil M k) (some (fd_I (fd_dueC M k))) (fd_bil M k) := by
  have z := fd_s_dueOf (fd_bil M k) (fd_CG_bil hG k) (k : Int) (by omega)
  rw [fd_dueC_bil] at z
  exact z
theorem fd_l_bills (M : fd_M) (hG : fd_CG M) : ∀ (n : Nat) (k : Nat) (u : fd_V) (hk : (k : Int) + n = M 3 2), fd_run 7 12 9 [fd_R 0, fd_I (fd_sum (fd_dueC M) k), fd_I ((k : Nat) : Int), u] [] (fd_bil M k) (some (fd_I (fd_sum (fd_dueC M) (M 3 2).toNat))) (fd_bil M (M 3 2).toNat) := by
  obtain ⟨g0, g1, g2, g3, g4, g5⟩ := hG.1
  obtain ⟨s1, s2, s3, s4, s5, s6, s7, s8⟩ := hG.2
  intro n
  induction n with
  | zero =>
    intro k u hk
    have e3 : fd_bil M k 3 2 = M 3 2 := rfl
    refine fd_u_blk 4 (C := fd_c12) (b := true) (L' := [fd_R 0, fd_I (fd_sum (fd_dueC M) k), fd_I ((k : Nat) : Int), u]) (st' := [fd_I ((fd_bil M k) 3 2), fd_I ((k : Nat) : Int)]) (M' := (fd_bil M k)) rfl rfl (j := 13) rfl (rfl) ?_
    refine fd_u_br (C := fd_c12) (t := 39) (e := 14) (st' := []) (c := ((fd_bil M k) 3 2) ≤ ((k : Nat) : Int)) (b := (fd_rng ((k : Nat) : Int) && fd_rng ((fd_bil M k) 3 2))) rfl rfl rfl (fd_bA (fd_bR (by omega) (by omega)) (fd_bR (by omega) (by omega))) (fun h13 => ?_) (fun h13 => absurd h13 (by omega))
    refine fd_u_blk 1 (C := fd_c12) (b := true) (L' := [fd_R 0, fd_I (fd_sum (fd_dueC M) k), fd_I ((k : Nat) : Int), u]) (st' := [fd_I (fd_sum (fd_dueC M) k)]) (M' := (fd_bil M k)) rfl rfl (j := 40) rfl (rfl) ?_
    refine fd_u_ret (C := fd_c12) (b := true) (r' := some (fd_I (fd_sum (fd_dueC M) k))) rfl rfl rfl (rfl) ?_ ?_
    · rw [show (M 3 2).toNat = k by omega]
    · rw [show (M 3 2).toNat = k by omega]
  | succ n ih =>
    intro k u hk
    have e3 : fd_bil M k 3 2 = M 3 2 := rfl
    refine fd_u_blk 4 (C := fd_c12) (b := true) (L' := [fd_R 0, fd_I (fd_sum (fd_dueC M) k), fd_I ((k : Nat) : Int), u]) (st' := [fd_I ((fd_bil M k) 3 2), fd_I ((k : Nat) : Int)]) (M' := (fd_bil M k)) rfl rfl (j := 13) rfl (rfl) ?_
    refine fd_u_br (C := fd_c12) (t := 39) (e := 14) (st' := []) (c := ((fd_bil M k) 3 2) ≤ ((k : Nat) : Int)) (b := (fd_rng ((k : Nat) : Int) && fd_rng ((fd_bil M k) 3 2))) rfl rfl rfl (fd_bA (fd_bR (by omega) (by omega)) (fd_bR (by omega) (by omega))) (fun h13 => absurd h13 (by omega)) (fun h13 => ?_)
    refine fd_u_blk 3 (C := fd_c12) (b := true) (L' := [fd_R 0, fd_I (fd_sum (fd_dueC M) k), fd_I ((k : Nat) : Int), u]) (st' := [fd_I ((k : Nat) : Int), fd_R 72]) (M' := (fd_bil M k)) rfl rfl (j := 17) rfl (rfl) ?_
    refine fd_u_call (C := fd_c12) (d0 := 6) (mid := 156) (np := 2) (args := [fd_R 72, fd_I ((k : Nat) : Int)]) (r1 := some (fd_I (fd_dueC M k))) (M1 := (fd_bil M k)) (st' := [fd_I (fd_dueC M k)]) rfl rfl rfl rfl rfl rfl (rfl) (fd_s_dueOf_bil M hG k (by omega)) rfl (by omega) ?_
    have qo := fd_due_rng (wy := M 17) hG.1.2.2.2.1 (fd_sw M k) k
    have qd : 0 ≤ fd_dueC M k ∧ fd_dueC M k ≤ 18 := qo
    have e3 : fd_bil M k 3 2 = M 3 2 := rfl
    have e18 := fd_bil_k M k
    have q4 := s4 k
    simp only [Nat.reduceAdd] at q4
    refine fd_u_blk 20 (C := fd_c12) (b := (fd_inb ((k : Nat) : Int) 6 && ((fd_rng 9999 && (fd_rng (((fd_bil M k) 18 k) + (fd_dueC M k)) && true)) && (fd_inb ((k : Nat) : Int) 6 && true)))) (L' := [fd_R 0, fd_I ((fd_sum (fd_dueC M) k) + (fd_dueC M k)), fd_I (((k + 1) : Nat) : Int), fd_I (fd_dueC M k)]) (st' := []) (M' := (fd_up (fd_bil M k) 18 k (if (((fd_bil M k) 18 k) + (fd_dueC M k)) < 9999 then (((fd_bil M k) 18 k) + (fd_dueC M k)) else 9999))) rfl rfl (j := 38) rfl (fd_bA (fd_bI (by omega) (by omega)) (fd_bA (fd_bA (fd_bR (by omega) (by omega)) (fd_bA (fd_bR (by omega) (by omega)) rfl)) (fd_bA (fd_bI (by omega) (by omega)) (rfl)))) ?_
    refine fd_u_jmp (C := fd_c12) (j := 9) (st' := []) rfl rfl (b := true) rfl rfl ?_
    rw [e18, fd_bil_S M k]
    exact ih (k + 1) _ (by omega)

def fd_Y_bills (M : fd_M) : fd_M := fd_bil (fd_push M) (M 3 2).toNat
theorem fd_x_bills (M : fd_M) (hG : fd_CG M) (hs : fd_HS M) (h19 : 0 ≤ M 19 1 ∧ M 19 1 ≤ 10) : fd_call 7 12 [fd_R 0] M (some (fd_I (fd_sum (fd_dueC M) (M 3 2).toNat))) (fd_Y_bills M) := by
  refine fd_u_in (L := [fd_R 0, fd_R 1003, fd_R 1003, fd_R 1003]) rfl ?_
  obtain ⟨g0, g1, g2, g3, g4, g5⟩ := hG.1
  have hp6 : 0 ≤ M 14 6 ∧ M 14 6 ≤ 1 := hG.2.2.2.2.2.2.2.1
  have hp7 : 0 ≤ M 14 7 ∧ M 14 7 ≤ 1 := hG.2.2.2.2.2.2.2.2
  have hP := fd_CG_push hG hs h19
  have f3 : fd_push M 3 = M 3 := fd_push_fr hs h19 (by omega)
  have f4 : fd_push M 4 = M 4 := fd_push_fr hs h19 (by omega)
  have f14 : fd_push M 14 = M 14 := fd_push_fr hs h19 (by omega)
  have f15 : fd_push M 15 = M 15 := fd_push_fr hs h19 (by omega)
  have f16 : fd_push M 16 = M 16 := fd_push_fr hs h19 (by omega)
  have f17 : fd_push M 17 = M 17 := fd_push_fr hs h19 (by omega)
  refine fd_u_blk 4 (C := fd_c12) (b := true) (L' := [fd_R 0, fd_R 1003, fd_R 1003, fd_R 1003]) (st' := [fd_R 14, fd_R 19]) (M' := M) rfl rfl (j := 4) rfl (rfl) ?_
  refine fd_u_call (C := fd_c12) (d0 := 2) (mid := 113) (np := 2) (args := [fd_R 19, fd_R 14]) (r1 := none) (M1 := (fd_push M)) (st' := []) rfl rfl rfl rfl rfl rfl (rfl) (fd_s_push M hs h19 hp6 hp7) rfl (by omega) ?_
  refine fd_u_blk 4 (C := fd_c12) (b := true) (L' := [fd_R 0, fd_I 0, fd_I 0, fd_R 1003]) (st' := []) (M' := (fd_push M)) rfl rfl (j := 9) rfl (rfl) ?_
  have z := fd_l_bills (fd_push M) hP (M 3 2).toNat 0 (fd_R 1003) (by rw [f3]; omega)
  rw [fd_dueC_of f3 f4 f14 f15 f16 f17, f3, fd_bil_0] at z
  exact z

theorem fd_up_up (M : fd_M) (c k : Nat) (v w : Int) : fd_up (fd_up M c k v) c k w = fd_up M c k w := by
  funext a b
  unfold fd_up
  by_cases h : a = c ∧ b = k
  · rw [if_pos h, if_pos h]
  · rw [if_neg h, if_neg h, if_neg h]
theorem fd_up_self (M : fd_M) (c k : Nat) : fd_up M c k (M c k) = M := by
  funext a b
  unfold fd_up
  by_cases h : a = c ∧ b = k
  · rw [if_pos h, h.1, h.2]
  · rw [if_neg h]
def fd_many (n : Int) : Int := fd_sum (fun k => n / 2 ^ k % 2) 7
theorem fd_T_CG {M : fd_M} (hG : fd_CG M) (t : Int) : fd_CG (fd_up M 0 12 t) := hG
theorem fd_T_dueOf (M : fd_M) (hG : fd_CG M) (d : Int) (hd : 0 ≤ d ∧ d < 6) (t : Int) : fd_call 6 156 [fd_R 72, fd_I d] (fd_up M 0 12 t) (some (fd_I (fd_dueC M d.toNat))) (fd_up M 0 12 t) := by
  have z := fd_s_dueOf (fd_up M 0 12 t) (fd_T_CG hG t) d hd
  rw [fd_dueC_of (M := M) (fd_up_ne (by decide)) (fd_up_ne (by decide)) (fd_up_ne (by decide)) (fd_up_ne (by decide)) (fd_up_ne (by decide)) (fd_up_ne (by decide))] at z
  exact z
theorem fd_T_seenBy (M : fd_M) (hG : fd_CG M) (d : Int) (hd : 0 ≤ d ∧ d < 6) (t : Int) : fd_call 6 154 [fd_R 72, fd_I d] (fd_up M 0 12 t) (some (fd_I (fd_bits (fun j => fd_nb (fd_sw M j) = d) (M 3 2).toNat))) (fd_up M 0 12 t) := by
  have z := fd_s_seenBy (fd_up M 0 12 t) (fd_T_CG hG t) d hd
  simp only [fd_sw_of (N := fd_up M 0 12 t) (M := M) (fd_up_ne (by decide)) (fd_up_ne (by decide)) (fd_up_ne (by decide)) (fd_up_ne (by decide)) (fd_up_ne (by decide)) (fd_up_ne (by decide))] at z
  exact z
theorem fd_T_isOpen (M : fd_M) (hG : fd_CG M) (d : Int) (hd : 0 ≤ d ∧ d < 6) (t : Int) : fd_call 1 144 [fd_R 14, fd_I d] (fd_up M 0 12 t) (some (fd_I (fd_bi (M 14 4 / 2 ^ d.toNat % 2 = 1)))) (fd_up M 0 12 t) := fd_s_isOpen (fd_up M 0 12 t) (fd_T_CG hG t) d hd
def fd_bt1 (n : Nat) : Nat := ([0, 1, 1, 2, 4, 5, 5, 6, 4, 5, 5, 6, 8, 9, 9, 10, 16, 17, 17, 18, 20, 21, 21, 22, 20, 21, 21, 22, 24, 25, 25, 26, 16, 17, 17, 18, 20, 21, 21, 22, 20, 21, 21, 22, 24, 25, 25, 26, 32, 33, 33, 34, 36, 37, 37, 38, 36, 37, 37, 38, 40, 41, 41, 42] : List Nat).getD n 0
def fd_bt2 (n : Nat) : Nat := ([0, 1, 1, 2, 1, 2, 2, 3, 1, 2, 2, 3, 2, 3, 3, 4, 16, 17, 17, 18, 17, 18, 18, 19, 17, 18, 18, 19, 18, 19, 19, 20, 16, 17, 17, 18, 17, 18, 18, 19, 17, 18, 18, 19, 18, 19, 19, 20, 32, 33, 33, 34, 33, 34, 34, 35, 33, 34, 34, 35, 34, 35, 35, 36] : List Nat).getD n 0
def fd_bt3 (n : Nat) : Nat := ([0, 1, 1, 2, 1, 2, 2, 3, 1, 2, 2, 3, 2, 3, 3, 4, 1, 2, 2, 3, 2, 3, 3, 4, 2, 3, 3, 4, 3, 4, 4, 5, 1, 2, 2, 3, 2, 3, 3, 4, 2, 3, 3, 4, 3, 4, 4, 5, 2, 3, 3, 4, 3, 4, 4, 5, 3, 4, 4, 5, 4, 5, 5, 6] : List Nat).getD n 0
def fd_bt4 (n : Nat) : Nat := ([0, 1, 1, 2, 1, 2, 2, 3, 1, 2, 2, 3, 2, 3, 3, 4, 1, 2, 2, 3, 2, 3, 3, 4, 2, 3, 3, 4, 3, 4, 4, 5, 1, 2, 2, 3, 2, 3, 3, 4, 2, 3, 3, 4, 3, 4, 4, 5, 2, 3, 3, 4, 3, 4, 4, 5, 3, 4, 4, 5, 4, 5, 5, 6] : List Nat).getD n 0
def fd_bt5 (n : Nat) : Nat := ([0, 1, 1, 2, 1, 2, 2, 3, 1, 2, 2, 3, 2, 3, 3, 4, 1, 2, 2, 3, 2, 3, 3, 4, 2, 3, 3, 4, 3, 4, 4, 5, 1, 2, 2, 3, 2, 3, 3, 4, 2, 3, 3, 4, 3, 4, 4, 5, 2, 3, 3, 4, 3, 4, 4, 5, 3, 4, 4, 5, 4, 5, 5, 6] : List Nat).getD n 0
theorem fd_bs1 : ∀ n : Fin 64, (n.val : Int) - (fd_and ((n.val : Int) / 2 ^ 1) 1431655765) = ((fd_bt1 n.val : Nat) : Int) := by decide +kernel
theorem fd_bs2 : ∀ n : Fin 64, (fd_and ((fd_bt1 n.val : Nat) : Int) 858993459) + (fd_and (((fd_bt1 n.val : Nat) : Int) / 2 ^ 2) 858993459) = ((fd_bt2 n.val : Nat) : Int) := by decide +kernel
theorem fd_bs3 : ∀ n : Fin 64, fd_and (((fd_bt2 n.val : Nat) : Int) + (((fd_bt2 n.val : Nat) : Int) / 2 ^ 4)) 252645135 = ((fd_bt3 n.val : Nat) : Int) := by decide +kernel
theorem fd_bs4 : ∀ n : Fin 64, ((fd_bt3 n.val : Nat) : Int) + (((fd_bt3 n.val : Nat) : Int) / 2 ^ 8) = ((fd_bt4 n.val : Nat) : Int) := by decide +kernel
theorem fd_bs5 : ∀ n : Fin 64, ((fd_bt4 n.val : Nat) : Int) + (((fd_bt4 n.val : Nat) : Int) / 2 ^ 16) = ((fd_bt5 n.val : Nat) : Int) := by decide +kernel
theorem fd_bs6 : ∀ n : Fin 64, fd_and ((fd_bt5 n.val : Nat) : Int) 63 = fd_many (n.val : Int) := by decide +kernel
theorem fd_btr : ∀ n : Fin 64, fd_bt1 n.val < 100 ∧ fd_bt2 n.val < 100 ∧ fd_bt3 n.val < 100 ∧ fd_bt4 n.val < 100 ∧ fd_bt5 n.val < 100 := by decide +kernel
theorem fd_s_bitCountN (M : fd_M) (n : Nat) (hv : n < 64) : fd_call 0 176 [fd_I (n : Int)] M (some (fd_I (fd_many (n : Int)))) M := by
  refine fd_u_in (L := [fd_I (n : Int)]) rfl ?_
  have b1 := fd_bs1 ⟨n, by omega⟩
  have b2 := fd_bs2 ⟨n, by omega⟩
  have b3 := fd_bs3 ⟨n, by omega⟩
  have b4 := fd_bs4 ⟨n, by omega⟩
  have b5 := fd_bs5 ⟨n, by omega⟩
  have b6 := fd_bs6 ⟨n, by omega⟩
  have bt := fd_btr ⟨n, by omega⟩
  dsimp only at b1 b2 b3 b4 b5 b6 bt
  refine fd_u_blk 1 (C := fd_c176) (b := true) (L' := [fd_I (n : Int)]) (st' := [fd_I (n : Int)]) (M' := M) rfl rfl (j := 1) rfl (rfl) ?_
  refine fd_u_blk 1 (C := fd_c176) (b := true) (L' := [fd_I (n : Int)]) (st' := [fd_I (n : Int), fd_I (n : Int)]) (M' := M) rfl rfl (j := 2) rfl (rfl) ?_
  refine fd_u_blk 1 (C := fd_c176) (b := true) (L' := [fd_I (n : Int)]) (st' := [fd_I 1, fd_I (n : Int), fd_I (n : Int)]) (M' := M) rfl rfl (j := 3) rfl (rfl) ?_
  refine fd_u_blk 1 (C := fd_c176) (b := ((fd_inb (n : Int) 2147483648 && fd_inb 1 32) && true)) (L' := [fd_I (n : Int)]) (st' := [fd_I ((n : Int) / 2 ^ 1), fd_I (n : Int)]) (M' := M) rfl rfl (j := 4) rfl (fd_bA (fd_bA (fd_bI (by omega) (by omega)) (fd_bI (by omega) (by omega))) (rfl)) ?_
  refine fd_u_blk 1 (C := fd_c176) (b := true) (L' := [fd_I (n : Int)]) (st' := [fd_I 1431655765, fd_I ((n : Int) / 2 ^ 1), fd_I (n : Int)]) (M' := M) rfl rfl (j := 5) rfl (rfl) ?_
  refine fd_u_blk 1 (C := fd_c176) (b := true) (L' := [fd_I (n : Int)]) (st' := [fd_I (fd_and ((n : Int) / 2 ^ 1) 1431655765), fd_I (n : Int)]) (M' := M) rfl rfl (j := 6) rfl (rfl) ?_
  refine fd_u_blk 1 (C := fd_c176) (b := true) (L' := [fd_I (n : Int)]) (st' := [fd_I ((n : Int) - (fd_and ((n : Int) / 2 ^ 1) 1431655765))]) (M' := M) rfl rfl (j := 7) rfl (rfl) ?_
  refine fd_u_blk 1 (C := fd_c176) (b := true) (L' := [fd_I ((n : Int) - (fd_and ((n : Int) / 2 ^ 1) 1431655765))]) (st' := []) (M' := M) rfl rfl (j := 8) rfl (rfl) ?_
  rw [b1]
  generalize fd_bt1 n = m1 at *
  refine fd_u_blk 1 (C := fd_c176) (b := true) (L' := [fd_I ((m1 : Nat) : Int)]) (st' := [fd_I ((m1 : Nat) : Int)]) (M' := M) rfl rfl (j := 9) rfl (rfl) ?_
  refine fd_u_blk 1 (C := fd_c176) (b := true) (L' := [fd_I ((m1 : Nat) : Int)]) (st' := [fd_I 858993459, fd_I ((m1 : Nat) : Int)]) (M' := M) rfl rfl (j := 10) rfl (rfl) ?_
  refine fd_u_blk 1 (C := fd_c176) (b := true) (L' := [fd_I ((m1 : Nat) : Int)]) (st' := [fd_I (fd_and ((m1 : Nat) : Int) 858993459)]) (M' := M) rfl rfl (j := 11) rfl (rfl) ?_
  refine fd_u_blk 1 (C := fd_c176) (b := true) (L' := [fd_I ((m1 : Nat) : Int)]) (st' := [fd_I ((m1 : Nat) : Int), fd_I (fd_and ((m1 : Nat) : Int) 858993459)]) (M' := M) rfl rfl (j := 12) rfl (rfl) ?_
  refine fd_u_blk 1 (C := fd_c176) (b := true) (L' := [fd_I ((m1 : Nat) : Int)]) (st' := [fd_I 2, fd_I ((m1 : Nat) : Int), fd_I (fd_and ((m1 : Nat) : Int) 858993459)]) (M' := M) rfl rfl (j := 13) rfl (rfl) ?_
  refine fd_u_blk 1 (C := fd_c176) (b := ((fd_inb ((m1 : Nat) : Int) 2147483648 && fd_inb 2 32) && true)) (L' := [fd_I ((m1 : Nat) : Int)]) (st' := [fd_I (((m1 : Nat) : Int) / 2 ^ 2), fd_I (fd_and ((m1 : Nat) : Int) 858993459)]) (M' := M) rfl rfl (j := 14) rfl (fd_bA (fd_bA (fd_bI (by omega) (by omega)) (fd_bI (by omega) (by omega))) (rfl)) ?_
  refine fd_u_blk 1 (C := fd_c176) (b := true) (L' := [fd_I ((m1 : Nat) : Int)]) (st' := [fd_I 858993459, fd_I (((m1 : Nat) : Int) / 2 ^ 2), fd_I (fd_and ((m1 : Nat) : Int) 858993459)]) (M' := M) rfl rfl (j := 15) rfl (rfl) ?_
  refine fd_u_blk 1 (C := fd_c176) (b := true) (L' := [fd_I ((m1 : Nat) : Int)]) (st' := [fd_I (fd_and (((m1 : Nat) : Int) / 2 ^ 2) 858993459), fd_I (fd_and ((m1 : Nat) : Int) 858993459)]) (M' := M) rfl rfl (j := 16) rfl (rfl) ?_
  refine fd_u_blk 1 (C := fd_c176) (b := true) (L' := [fd_I ((m1 : Nat) : Int)]) (st' := [fd_I ((fd_and ((m1 : Nat) : Int) 858993459) + (fd_and (((m1 : Nat) : Int) / 2 ^ 2) 858993459))]) (M' := M) rfl rfl (j := 17) rfl (rfl) ?_
  refine fd_u_blk 1 (C := fd_c176) (b := true) (L' := [fd_I ((fd_and ((m1 : Nat) : Int) 858993459) + (fd_and (((m1 : Nat) : Int) / 2 ^ 2) 858993459))]) (st' := []) (M' := M) rfl rfl (j := 18) rfl (rfl) ?_
  rw [b2]
  generalize fd_bt2 n = m2 at *
  refine fd_u_blk 1 (C := fd_c176) (b := true) (L' := [fd_I ((m2 : Nat) : Int)]) (st' := [fd_I ((m2 : Nat) : Int)]) (M' := M) rfl rfl (j := 19) rfl (rfl) ?_
  refine fd_u_blk 1 (C := fd_c176) (b := true) (L' := [fd_I ((m2 : Nat) : Int)]) (st' := [fd_I ((m2 : Nat) : Int), fd_I ((m2 : Nat) : Int)]) (M' := M) rfl rfl (j := 20) rfl (rfl) ?_
  refine fd_u_blk 1 (C := fd_c176) (b := true) (L' := [fd_I ((m2 : Nat) : Int)]) (st' := [fd_I 4, fd_I ((m2 : Nat) : Int), fd_I ((m2 : Nat) : Int)]) (M' := M) rfl rfl (j := 21) rfl (rfl) ?_
  refine fd_u_blk 1 (C := fd_c176) (b := ((fd_inb ((m2 : Nat) : Int) 2147483648 && fd_inb 4 32) && true)) (L' := [fd_I ((m2 : Nat) : Int)]) (st' := [fd_I (((m2 : Nat) : Int) / 2 ^ 4), fd_I ((m2 : Nat) : Int)]) (M' := M) rfl rfl (j := 22) rfl (fd_bA (fd_bA (fd_bI (by omega) (by omega)) (fd_bI (by omega) (by omega))) (rfl)) ?_
  refine fd_u_blk 1 (C := fd_c176) (b := true) (L' := [fd_I ((m2 : Nat) : Int)]) (st' := [fd_I (((m2 : Nat) : Int) + (((m2 : Nat) : Int) / 2 ^ 4))]) (M' := M) rfl rfl (j := 23) rfl (rfl) ?_
  refine fd_u_blk 1 (C := fd_c176) (b := true) (L' := [fd_I ((m2 : Nat) : Int)]) (st' := [fd_I 252645135, fd_I (((m2 : Nat) : Int) + (((m2 : Nat) : Int) / 2 ^ 4))]) (M' := M) rfl rfl (j := 24) rfl (rfl) ?_
  refine fd_u_blk 1 (C := fd_c176) (b := true) (L' := [fd_I ((m2 : Nat) : Int)]) (st' := [fd_I (fd_and (((m2 : Nat) : Int) + (((m2 : Nat) : Int) / 2 ^ 4)) 252645135)]) (M' := M) rfl rfl (j := 25) rfl (rfl) ?_
  refine fd_u_blk 1 (C := fd_c176) (b := true) (L' := [fd_I (fd_and (((m2 : Nat) : Int) + (((m2 : Nat) : Int) / 2 ^ 4)) 252645135)]) (st' := []) (M' := M) rfl rfl (j := 26) rfl (rfl) ?_
  rw [b3]
  generalize fd_bt3 n = m3 at *
  refine fd_u_blk 1 (C := fd_c176) (b := true) (L' := [fd_I ((m3 : Nat) : Int)]) (st' := [fd_I ((m3 : Nat) : Int)]) (M' := M) rfl rfl (j := 27) rfl (rfl) ?_
  refine fd_u_blk 1 (C := fd_c176) (b := true) (L' := [fd_I ((m3 : Nat) : Int)]) (st' := [fd_I ((m3 : Nat) : Int), fd_I ((m3 : Nat) : Int)]) (M' := M) rfl rfl (j := 28) rfl (rfl) ?_
  refine fd_u_blk 1 (C := fd_c176) (b := true) (L' := [fd_I ((m3 : Nat) : Int)]) (st' := [fd_I 8, fd_I ((m3 : Nat) : Int), fd_I ((m3 : Nat) : Int)]) (M' := M) rfl rfl (j := 29) rfl (rfl) ?_
  refine fd_u_blk 1 (C := fd_c176) (b := ((fd_inb ((m3 : Nat) : Int) 2147483648 && fd_inb 8 32) && true)) (L' := [fd_I ((m3 : Nat) : Int)]) (st' := [fd_I (((m3 : Nat) : Int) / 2 ^ 8), fd_I ((m3 : Nat) : Int)]) (M' := M) rfl rfl (j := 30) rfl (fd_bA (fd_bA (fd_bI (by omega) (by omega)) (fd_bI (by omega) (by omega))) (rfl)) ?_
  refine fd_u_blk 1 (C := fd_c176) (b := true) (L' := [fd_I ((m3 : Nat) : Int)]) (st' := [fd_I (((m3 : Nat) : Int) + (((m3 : Nat) : Int) / 2 ^ 8))]) (M' := M) rfl rfl (j := 31) rfl (rfl) ?_
  refine fd_u_blk 1 (C := fd_c176) (b := true) (L' := [fd_I (((m3 : Nat) : Int) + (((m3 : Nat) : Int) / 2 ^ 8))]) (st' := []) (M' := M) rfl rfl (j := 32) rfl (rfl) ?_
  rw [b4]
  generalize fd_bt4 n = m4 at *
  refine fd_u_blk 1 (C := fd_c176) (b := true) (L' := [fd_I ((m4 : Nat) : Int)]) (st' := [fd_I ((m4 : Nat) : Int)]) (M' := M) rfl rfl (j := 33) rfl (rfl) ?_
  refine fd_u_blk 1 (C := fd_c176) (b := true) (L' := [fd_I ((m4 : Nat) : Int)]) (st' := [fd_I ((m4 : Nat) : Int), fd_I ((m4 : Nat) : Int)]) (M' := M) rfl rfl (j := 34) rfl (rfl) ?_
  refine fd_u_blk 1 (C := fd_c176) (b := true) (L' := [fd_I ((m4 : Nat) : Int)]) (st' := [fd_I 16, fd_I ((m4 : Nat) : Int), fd_I ((m4 : Nat) : Int)]) (M' := M) rfl rfl (j := 35) rfl (rfl) ?_
  refine fd_u_blk 1 (C := fd_c176) (b := ((fd_inb ((m4 : Nat) : Int) 2147483648 && fd_inb 16 32) && true)) (L' := [fd_I ((m4 : Nat) : Int)]) (st' := [fd_I (((m4 : Nat) : Int) / 2 ^ 16), fd_I ((m4 : Nat) : Int)]) (M' := M) rfl rfl (j := 36) rfl (fd_bA (fd_bA (fd_bI (by omega) (by omega)) (fd_bI (by omega) (by omega))) (rfl)) ?_
  refine fd_u_blk 1 (C := fd_c176) (b := true) (L' := [fd_I ((m4 : Nat) : Int)]) (st' := [fd_I (((m4 : Nat) : Int) + (((m4 : Nat) : Int) / 2 ^ 16))]) (M' := M) rfl rfl (j := 37) rfl (rfl) ?_
  refine fd_u_blk 1 (C := fd_c176) (b := true) (L' := [fd_I (((m4 : Nat) : Int) + (((m4 : Nat) : Int) / 2 ^ 16))]) (st' := []) (M' := M) rfl rfl (j := 38) rfl (rfl) ?_
  rw [b5]
  generalize fd_bt5 n = m5 at *
  refine fd_u_blk 1 (C := fd_c176) (b := true) (L' := [fd_I ((m5 : Nat) : Int)]) (st' := [fd_I ((m5 : Nat) : Int)]) (M' := M) rfl rfl (j := 39) rfl (rfl) ?_
  refine fd_u_blk 1 (C := fd_c176) (b := true) (L' := [fd_I ((m5 : Nat) : Int)]) (st' := [fd_I 63, fd_I ((m5 : Nat) : Int)]) (M' := M) rfl rfl (j := 40) rfl (rfl) ?_
  refine fd_u_blk 1 (C := fd_c176) (b := true) (L' := [fd_I ((m5 : Nat) : Int)]) (st' := [fd_I (fd_and ((m5 : Nat) : Int) 63)]) (M' := M) rfl rfl (j := 41) rfl (rfl) ?_
  refine fd_u_ret (C := fd_c176) (b := true) (r' := some (fd_I (fd_and ((m5 : Nat) : Int) 63))) rfl rfl rfl (rfl) ?_ ?_
  · rw [b6]
  · rfl

theorem fd_s_bitCount (M : fd_M) (v : Int) (hv : 0 ≤ v ∧ v < 64) : fd_call 0 176 [fd_I v] M (some (fd_I (fd_many v))) M := by
  obtain ⟨n, rfl⟩ := Int.eq_ofNat_of_zero_le hv.1
  exact fd_s_bitCountN M n (by omega)
theorem fd_s_doorMark (M : fd_M) (hG : fd_CG M) (d : Int) (hd : 0 ≤ d ∧ d < 6) (t : Int) : fd_call 7 28 [fd_R 0, fd_I d] (fd_up M 0 12 t) (some (fd_I (fd_dueC M d.toNat))) (fd_up M 0 12 (t + 1)) := by
  refine fd_u_in (L := [fd_R 0, fd_I d]) rfl ?_
  obtain ⟨g0, g1, g2, g3, g4, g5⟩ := hG.1
  obtain ⟨s1, s2, s3, s4, s5, s6, s7, s8⟩ := hG.2
  have q1 := s1 d.toNat
  have q2 := s2 d.toNat
  have q3 := s3 d.toNat
  have q4 := s4 d.toNat
  simp only [Nat.reduceAdd] at q1 q2 q3 q4
  refine fd_u_blk 6 (C := fd_c28) (b := true) (L' := [fd_R 0, fd_I d]) (st' := []) (M' := (fd_up (fd_up M 0 12 t) 0 12 (t + 1))) rfl rfl (j := 6) rfl (rfl) ?_
  rw [fd_up_up]
  refine fd_u_blk 3 (C := fd_c28) (b := true) (L' := [fd_R 0, fd_I d]) (st' := [fd_I d, fd_R 72]) (M' := (fd_up M 0 12 (t + 1))) rfl rfl (j := 9) rfl (rfl) ?_
  refine fd_u_call (C := fd_c28) (d0 := 6) (mid := 156) (np := 2) (args := [fd_R 72, fd_I d]) (r1 := some (fd_I (fd_dueC M d.toNat))) (M1 := (fd_up M 0 12 (t + 1))) (st' := [fd_I (fd_dueC M d.toNat)]) rfl rfl rfl rfl rfl rfl (rfl) (fd_T_dueOf M hG d hd (t + 1)) rfl (by omega) ?_
  refine fd_u_ret (C := fd_c28) (b := true) (r' := some (fd_I (fd_dueC M d.toNat))) rfl rfl rfl (rfl) ?_ ?_
  · rfl
  · rfl

theorem fd_s_porchMark (M : fd_M) (hG : fd_CG M) (d : Int) (hd : 0 ≤ d ∧ d < 6) (t : Int) : fd_call 8 29 [fd_R 0, fd_I d] (fd_up M 0 12 t) (some (fd_I (fd_dueC M d.toNat + fd_many (fd_bits (fun j => fd_nb (fd_sw M j) = d) (M 3 2).toNat)))) (fd_up M 0 12 (t + 11)) := by
  refine fd_u_in (L := [fd_R 0, fd_I d]) rfl ?_
  obtain ⟨g0, g1, g2, g3, g4, g5⟩ := hG.1
  obtain ⟨s1, s2, s3, s4, s5, s6, s7, s8⟩ := hG.2
  have q1 := s1 d.toNat
  have q2 := s2 d.toNat
  have q3 := s3 d.toNat
  have q4 := s4 d.toNat
  simp only [Nat.reduceAdd] at q1 q2 q3 q4
  have qb := fd_bits_rng (fun j => fd_nb (fd_sw M j) = d) (M 3 2).toNat
  have qc : (2 : Int) ^ (M 3 2).toNat ≤ 64 := by
    have : (2 : Nat) ^ (M 3 2).toNat ≤ 2 ^ 6 := Nat.pow_le_pow_right (by decide) (by omega)
    have e : ((2 ^ (M 3 2).toNat : Nat) : Int) = (2 : Int) ^ (M 3 2).toNat := by simp
    omega
  refine fd_u_blk 6 (C := fd_c29) (b := true) (L' := [fd_R 0, fd_I d]) (st' := []) (M' := (fd_up (fd_up M 0 12 t) 0 12 (t + 10))) rfl rfl (j := 6) rfl (rfl) ?_
  rw [fd_up_up]
  refine fd_u_blk 2 (C := fd_c29) (b := true) (L' := [fd_R 0, fd_I d]) (st' := [fd_I d, fd_R 0]) (M' := (fd_up M 0 12 (t + 10))) rfl rfl (j := 8) rfl (rfl) ?_
  refine fd_u_call (C := fd_c29) (d0 := 7) (mid := 28) (np := 2) (args := [fd_R 0, fd_I d]) (r1 := some (fd_I (fd_dueC M d.toNat))) (M1 := (fd_up M 0 12 ((t + 10) + 1))) (st' := [fd_I (fd_dueC M d.toNat)]) rfl rfl rfl rfl rfl rfl (rfl) (fd_s_doorMark M hG d (by omega) (t + 10)) rfl (by omega) ?_
  refine fd_u_blk 3 (C := fd_c29) (b := true) (L' := [fd_R 0, fd_I d]) (st' := [fd_I d, fd_R 72, fd_I (fd_dueC M d.toNat)]) (M' := (fd_up M 0 12 ((t + 10) + 1))) rfl rfl (j := 12) rfl (rfl) ?_
  refine fd_u_call (C := fd_c29) (d0 := 6) (mid := 154) (np := 2) (args := [fd_R 72, fd_I d]) (r1 := some (fd_I (fd_bits (fun j => fd_nb (fd_sw M j) = d) (M 3 2).toNat))) (M1 := (fd_up M 0 12 ((t + 10) + 1))) (st' := [fd_I (fd_bits (fun j => fd_nb (fd_sw M j) = d) (M 3 2).toNat), fd_I (fd_dueC M d.toNat)]) rfl rfl rfl rfl rfl rfl (rfl) (fd_T_seenBy M hG d hd ((t + 10) + 1)) rfl (by omega) ?_
  refine fd_u_call (C := fd_c29) (d0 := 0) (mid := 176) (np := 1) (args := [fd_I (fd_bits (fun j => fd_nb (fd_sw M j) = d) (M 3 2).toNat)]) (r1 := some (fd_I (fd_many (fd_bits (fun j => fd_nb (fd_sw M j) = d) (M 3 2).toNat)))) (M1 := (fd_up M 0 12 ((t + 10) + 1))) (st' := [fd_I (fd_many (fd_bits (fun j => fd_nb (fd_sw M j) = d) (M 3 2).toNat)), fd_I (fd_dueC M d.toNat)]) rfl rfl rfl rfl rfl rfl (rfl) (fd_s_bitCount (fd_up M 0 12 ((t + 10) + 1)) (fd_bits (fun j => fd_nb (fd_sw M j) = d) (M 3 2).toNat) (by omega)) rfl (by omega) ?_
  refine fd_u_blk 1 (C := fd_c29) (b := true) (L' := [fd_R 0, fd_I d]) (st' := [fd_I ((fd_dueC M d.toNat) + (fd_many (fd_bits (fun j => fd_nb (fd_sw M j) = d) (M 3 2).toNat)))]) (M' := (fd_up M 0 12 ((t + 10) + 1))) rfl rfl (j := 15) rfl (rfl) ?_
  refine fd_u_ret (C := fd_c29) (b := true) (r' := some (fd_I ((fd_dueC M d.toNat) + (fd_many (fd_bits (fun j => fd_nb (fd_sw M j) = d) (M 3 2).toNat))))) rfl rfl rfl (rfl) ?_ ?_
  · rfl
  · rw [show ((t + 10) + 1) = t + 11 by omega]

theorem fd_s_gateMark (M : fd_M) (hG : fd_CG M) (d : Int) (hd : 0 ≤ d ∧ d < 6) (t : Int) : fd_call 8 30 [fd_R 0, fd_I d] (fd_up M 0 12 t) (some (fd_I (fd_dueC M d.toNat - M 17 d.toNat))) (fd_up M 0 12 (t + 101)) := by
  refine fd_u_in (L := [fd_R 0, fd_I d]) rfl ?_
  obtain ⟨g0, g1, g2, g3, g4, g5⟩ := hG.1
  obtain ⟨s1, s2, s3, s4, s5, s6, s7, s8⟩ := hG.2
  have q1 := s1 d.toNat
  have q2 := s2 d.toNat
  have q3 := s3 d.toNat
  have q4 := s4 d.toNat
  simp only [Nat.reduceAdd] at q1 q2 q3 q4
  refine fd_u_blk 6 (C := fd_c30) (b := true) (L' := [fd_R 0, fd_I d]) (st' := []) (M' := (fd_up (fd_up M 0 12 t) 0 12 (t + 100))) rfl rfl (j := 6) rfl (rfl) ?_
  rw [fd_up_up]
  refine fd_u_blk 2 (C := fd_c30) (b := true) (L' := [fd_R 0, fd_I d]) (st' := [fd_I d, fd_R 0]) (M' := (fd_up M 0 12 (t + 100))) rfl rfl (j := 8) rfl (rfl) ?_
  refine fd_u_call (C := fd_c30) (d0 := 7) (mid := 28) (np := 2) (args := [fd_R 0, fd_I d]) (r1 := some (fd_I (fd_dueC M d.toNat))) (M1 := (fd_up M 0 12 ((t + 100) + 1))) (st' := [fd_I (fd_dueC M d.toNat)]) rfl rfl rfl rfl rfl rfl (rfl) (fd_s_doorMark M hG d (by omega) (t + 100)) rfl (by omega) ?_
  refine fd_u_blk 6 (C := fd_c30) (b := (fd_inb d 6 && true)) (L' := [fd_R 0, fd_I d]) (st' := [fd_I ((fd_dueC M d.toNat) - (M 17 (d).toNat))]) (M' := (fd_up M 0 12 ((t + 100) + 1))) rfl rfl (j := 15) rfl (fd_bA (fd_bI (by omega) (by omega)) (rfl)) ?_
  refine fd_u_ret (C := fd_c30) (b := true) (r' := some (fd_I ((fd_dueC M d.toNat) - (M 17 (d).toNat)))) rfl rfl rfl (rfl) ?_ ?_
  · rfl
  · rw [show ((t + 100) + 1) = t + 101 by omega]

theorem fd_s_bayMark (M : fd_M) (hG : fd_CG M) (d : Int) (hd : 0 ≤ d ∧ d < 6) (t : Int) : fd_call 9 31 [fd_R 0, fd_I d] (fd_up M 0 12 t) (some (fd_I ((fd_dueC M d.toNat + fd_many (fd_bits (fun j => fd_nb (fd_sw M j) = d) (M 3 2).toNat)) * 2))) (fd_up M 0 12 (t + 1011)) := by
  refine fd_u_in (L := [fd_R 0, fd_I d]) rfl ?_
  obtain ⟨g0, g1, g2, g3, g4, g5⟩ := hG.1
  obtain ⟨s1, s2, s3, s4, s5, s6, s7, s8⟩ := hG.2
  have q1 := s1 d.toNat
  have q2 := s2 d.toNat
  have q3 := s3 d.toNat
  have q4 := s4 d.toNat
  simp only [Nat.reduceAdd] at q1 q2 q3 q4
  refine fd_u_blk 6 (C := fd_c31) (b := true) (L' := [fd_R 0, fd_I d]) (st' := []) (M' := (fd_up (fd_up M 0 12 t) 0 12 (t + 1000))) rfl rfl (j := 6) rfl (rfl) ?_
  rw [fd_up_up]
  refine fd_u_blk 2 (C := fd_c31) (b := true) (L' := [fd_R 0, fd_I d]) (st' := [fd_I d, fd_R 0]) (M' := (fd_up M 0 12 (t + 1000))) rfl rfl (j := 8) rfl (rfl) ?_
  refine fd_u_call (C := fd_c31) (d0 := 8) (mid := 29) (np := 2) (args := [fd_R 0, fd_I d]) (r1 := some (fd_I (fd_dueC M d.toNat + fd_many (fd_bits (fun j => fd_nb (fd_sw M j) = d) (M 3 2).toNat)))) (M1 := (fd_up M 0 12 ((t + 1000) + 11))) (st' := [fd_I (fd_dueC M d.toNat + fd_many (fd_bits (fun j => fd_nb (fd_sw M j) = d) (M 3 2).toNat))]) rfl rfl rfl rfl rfl rfl (rfl) (fd_s_porchMark M hG d (by omega) (t + 1000)) rfl (by omega) ?_
  refine fd_u_blk 2 (C := fd_c31) (b := true) (L' := [fd_R 0, fd_I d]) (st' := [fd_I ((fd_dueC M d.toNat + fd_many (fd_bits (fun j => fd_nb (fd_sw M j) = d) (M 3 2).toNat)) * 2)]) (M' := (fd_up M 0 12 ((t + 1000) + 11))) rfl rfl (j := 11) rfl (rfl) ?_
  refine fd_u_ret (C := fd_c31) (b := true) (r' := some (fd_I ((fd_dueC M d.toNat + fd_many (fd_bits (fun j => fd_nb (fd_sw M j) = d) (M 3 2).toNat)) * 2))) rfl rfl rfl (rfl) ?_ ?_
  · rfl
  · rw [show ((t + 1000) + 11) = t + 1011 by omega]

theorem fd_s_schoolMark (M : fd_M) (hG : fd_CG M) (d : Int) (hd : 0 ≤ d ∧ d < 6) (t : Int) : fd_call 9 32 [fd_R 0, fd_I d] (fd_up M 0 12 t) (some (fd_I (fd_dueC M d.toNat - M 17 d.toNat + (if M 14 4 / 2 ^ d.toNat % 2 = 1 then 7 else 0)))) (fd_up M 0 12 (t + 10101)) := by
  refine fd_u_in (L := [fd_R 0, fd_I d]) rfl ?_
  obtain ⟨g0, g1, g2, g3, g4, g5⟩ := hG.1
  obtain ⟨s1, s2, s3, s4, s5, s6, s7, s8⟩ := hG.2
  have q1 := s1 d.toNat
  have q2 := s2 d.toNat
  have q3 := s3 d.toNat
  have q4 := s4 d.toNat
  simp only [Nat.reduceAdd] at q1 q2 q3 q4
  refine fd_u_blk 6 (C := fd_c32) (b := true) (L' := [fd_R 0, fd_I d]) (st' := []) (M' := (fd_up (fd_up M 0 12 t) 0 12 (t + 10000))) rfl rfl (j := 6) rfl (rfl) ?_
  rw [fd_up_up]
  refine fd_u_blk 2 (C := fd_c32) (b := true) (L' := [fd_R 0, fd_I d]) (st' := [fd_I d, fd_R 0]) (M' := (fd_up M 0 12 (t + 10000))) rfl rfl (j := 8) rfl (rfl) ?_
  refine fd_u_call (C := fd_c32) (d0 := 8) (mid := 30) (np := 2) (args := [fd_R 0, fd_I d]) (r1 := some (fd_I (fd_dueC M d.toNat - M 17 d.toNat))) (M1 := (fd_up M 0 12 ((t + 10000) + 101))) (st' := [fd_I (fd_dueC M d.toNat - M 17 d.toNat)]) rfl rfl rfl rfl rfl rfl (rfl) (fd_s_gateMark M hG d (by omega) (t + 10000)) rfl (by omega) ?_
  refine fd_u_blk 3 (C := fd_c32) (b := true) (L' := [fd_R 0, fd_I d]) (st' := [fd_I d, fd_R 14, fd_I (fd_dueC M d.toNat - M 17 d.toNat)]) (M' := (fd_up M 0 12 ((t + 10000) + 101))) rfl rfl (j := 12) rfl (rfl) ?_
  refine fd_u_call (C := fd_c32) (d0 := 1) (mid := 144) (np := 2) (args := [fd_R 14, fd_I d]) (r1 := some (fd_I (fd_bi (M 14 4 / 2 ^ d.toNat % 2 = 1)))) (M1 := (fd_up M 0 12 ((t + 10000) + 101))) (st' := [fd_I (fd_bi (M 14 4 / 2 ^ d.toNat % 2 = 1)), fd_I (fd_dueC M d.toNat - M 17 d.toNat)]) rfl rfl rfl rfl rfl rfl (rfl) (fd_T_isOpen M hG d hd ((t + 10000) + 101)) rfl (by omega) ?_
  refine fd_u_br (C := fd_c32) (t := 16) (e := 14) (st' := [fd_I (fd_dueC M d.toNat - M 17 d.toNat)]) (c := (fd_bi (M 14 4 / 2 ^ d.toNat % 2 = 1)) = 0) (b := (fd_rng (fd_bi (M 14 4 / 2 ^ d.toNat % 2 = 1)))) rfl rfl rfl (fd_biR) (fun h13 => ?_) (fun h13 => ?_)
  · have h13 := fd_biF.mp h13
    refine fd_u_blk 2 (C := fd_c32) (b := true) (L' := [fd_R 0, fd_I d]) (st' := [fd_I ((fd_dueC M d.toNat - M 17 d.toNat) + 0)]) (M' := (fd_up M 0 12 ((t + 10000) + 101))) rfl rfl (j := 18) rfl (rfl) ?_
    refine fd_u_ret (C := fd_c32) (b := true) (r' := some (fd_I ((fd_dueC M d.toNat - M 17 d.toNat) + 0))) rfl rfl rfl (rfl) ?_ ?_
    · rw [if_neg h13]
    · rw [show ((t + 10000) + 101) = t + 10101 by omega]
  · have h13 := fd_biT.mp h13
    refine fd_u_blk 1 (C := fd_c32) (b := true) (L' := [fd_R 0, fd_I d]) (st' := [fd_I 7, fd_I (fd_dueC M d.toNat - M 17 d.toNat)]) (M' := (fd_up M 0 12 ((t + 10000) + 101))) rfl rfl (j := 15) rfl (rfl) ?_
    refine fd_u_jmp (C := fd_c32) (j := 17) (st' := [fd_I 7, fd_I (fd_dueC M d.toNat - M 17 d.toNat)]) rfl rfl (b := true) rfl rfl ?_
    refine fd_u_blk 1 (C := fd_c32) (b := true) (L' := [fd_R 0, fd_I d]) (st' := [fd_I ((fd_dueC M d.toNat - M 17 d.toNat) + 7)]) (M' := (fd_up M 0 12 ((t + 10000) + 101))) rfl rfl (j := 18) rfl (rfl) ?_
    refine fd_u_ret (C := fd_c32) (b := true) (r' := some (fd_I ((fd_dueC M d.toNat - M 17 d.toNat) + 7))) rfl rfl rfl (rfl) ?_ ?_
    · rw [if_pos h13]
    · rw [show ((t + 10000) + 101) = t + 10101 by omega]

theorem fd_s_hatchMark (M : fd_M) (hG : fd_CG M) (d : Int) (hd : 0 ≤ d ∧ d < 6) (t : Int) : fd_call 8 33 [fd_R 0, fd_I d] (fd_up M 0 12 t) (some (fd_I (fd_dueC M d.toNat + M 18 d.toNat))) (fd_up M 0 12 (t + 100001)) := by
  refine fd_u_in (L := [fd_R 0, fd_I d]) rfl ?_
  obtain ⟨g0, g1, g2, g3, g4, g5⟩ := hG.1
  obtain ⟨s1, s2, s3, s4, s5, s6, s7, s8⟩ := hG.2
  have q1 := s1 d.toNat
  have q2 := s2 d.toNat
  have q3 := s3 d.toNat
  have q4 := s4 d.toNat
  simp only [Nat.reduceAdd] at q1 q2 q3 q4
  refine fd_u_blk 6 (C := fd_c33) (b := true) (L' := [fd_R 0, fd_I d]) (st' := []) (M' := (fd_up (fd_up M 0 12 t) 0 12 (t + 100000))) rfl rfl (j := 6) rfl (rfl) ?_
  rw [fd_up_up]
  refine fd_u_blk 2 (C := fd_c33) (b := true) (L' := [fd_R 0, fd_I d]) (st' := [fd_I d, fd_R 0]) (M' := (fd_up M 0 12 (t + 100000))) rfl rfl (j := 8) rfl (rfl) ?_
  refine fd_u_call (C := fd_c33) (d0 := 7) (mid := 28) (np := 2) (args := [fd_R 0, fd_I d]) (r1 := some (fd_I (fd_dueC M d.toNat))) (M1 := (fd_up M 0 12 ((t + 100000) + 1))) (st' := [fd_I (fd_dueC M d.toNat)]) rfl rfl rfl rfl rfl rfl (rfl) (fd_s_doorMark M hG d (by omega) (t + 100000)) rfl (by omega) ?_
  refine fd_u_blk 6 (C := fd_c33) (b := (fd_inb d 6 && true)) (L' := [fd_R 0, fd_I d]) (st' := [fd_I ((fd_dueC M d.toNat) + (M 18 (d).toNat))]) (M' := (fd_up M 0 12 ((t + 100000) + 1))) rfl rfl (j := 15) rfl (fd_bA (fd_bI (by omega) (by omega)) (rfl)) ?_
  refine fd_u_ret (C := fd_c33) (b := true) (r' := some (fd_I ((fd_dueC M d.toNat) + (M 18 (d).toNat)))) rfl rfl rfl (rfl) ?_ ?_
  · rfl
  · rw [show ((t + 100000) + 1) = t + 100001 by omega]

def fd_X_mark (M : fd_M) (k d : Int) : Int := if ¬ (0 ≤ d ∧ d < M 3 2) then -1000000 else if k = 0 then fd_dueC M d.toNat else if k = 1 then fd_dueC M d.toNat + fd_many (fd_bits (fun j => fd_nb (fd_sw M j) = d) (M 3 2).toNat) else if k = 2 then fd_dueC M d.toNat - M 17 d.toNat else if k = 3 then (fd_dueC M d.toNat + fd_many (fd_bits (fun j => fd_nb (fd_sw M j) = d) (M 3 2).toNat)) * 2 else if k = 4 then fd_dueC M d.toNat - M 17 d.toNat + (if M 14 4 / 2 ^ d.toNat % 2 = 1 then 7 else 0) else if k = 5 then fd_dueC M d.toNat + M 18 d.toNat else -1000000
def fd_Z_mark (M : fd_M) (k d : Int) : Int := if ¬ (0 ≤ d ∧ d < M 3 2) then 0 else if k = 0 then 1 else if k = 1 then 11 else if k = 2 then 101 else if k = 3 then 1011 else if k = 4 then 10101 else if k = 5 then 100001 else 0
theorem fd_upz (M : fd_M) : fd_up M 0 12 (M 0 12 + 0) = M := by rw [Int.add_zero, fd_up_self]
theorem fd_x_markT (M : fd_M) (hG : fd_CG M) (k : Int) (hk : -2147483648 ≤ k ∧ k < 2147483648) (d : Int) (hd : -2147483648 ≤ d ∧ d < 2147483648) : fd_call 10 23 [fd_R 0, fd_I k, fd_I d] (fd_up M 0 12 (M 0 12)) (some (fd_I (fd_X_mark M k d))) (fd_up M 0 12 (M 0 12 + fd_Z_mark M k d)) := by
  refine fd_u_in (L := [fd_R 0, fd_I k, fd_I d]) rfl ?_
  obtain ⟨g0, g1, g2, g3, g4, g5⟩ := hG.1
  refine fd_u_blk 3 (C := fd_c23) (b := true) (L' := [fd_R 0, fd_I k, fd_I d]) (st' := [fd_I d, fd_R 3]) (M' := (fd_up M 0 12 (M 0 12))) rfl rfl (j := 3) rfl (rfl) ?_
  refine fd_u_call (C := fd_c23) (d0 := 0) (mid := 124) (np := 2) (args := [fd_R 3, fd_I d]) (r1 := some (fd_I (fd_bi (0 ≤ d ∧ d < M 3 2)))) (M1 := (fd_up M 0 12 (M 0 12))) (st' := [fd_I (fd_bi (0 ≤ d ∧ d < M 3 2))]) rfl rfl rfl rfl rfl rfl (rfl) (fd_s_hasDoor (fd_up M 0 12 (M 0 12)) d (by omega) (show 0 ≤ M 3 2 ∧ M 3 2 ≤ 6 by omega)) rfl (by omega) ?_
  refine fd_u_br (C := fd_c23) (t := 7) (e := 5) (st' := []) (c := ¬ (fd_bi (0 ≤ d ∧ d < M 3 2)) = 0) (b := (fd_rng (fd_bi (0 ≤ d ∧ d < M 3 2)))) rfl rfl rfl (fd_biR) (fun h4 => ?_) (fun h4 => ?_)
  · have h4 := fd_biT.mp h4
    refine fd_u_blk 1 (C := fd_c23) (b := true) (L' := [fd_R 0, fd_I k, fd_I d]) (st' := [fd_I k]) (M' := (fd_up M 0 12 (M 0 12))) rfl rfl (j := 8) rfl (rfl) ?_
    by_cases h8_0 : k = 0
    · refine fd_u_jmp (C := fd_c23) (j := 9) (st' := []) rfl rfl (b := fd_rng k) (by rw [h8_0]; rfl) (fd_bR (by omega) (by omega)) ?_
      refine fd_u_blk 2 (C := fd_c23) (b := true) (L' := [fd_R 0, fd_I k, fd_I d]) (st' := [fd_I d, fd_R 0]) (M' := (fd_up M 0 12 (M 0 12))) rfl rfl (j := 11) rfl (rfl) ?_
      refine fd_u_call (C := fd_c23) (d0 := 7) (mid := 28) (np := 2) (args := [fd_R 0, fd_I d]) (r1 := some (fd_I (fd_dueC M d.toNat))) (M1 := (fd_up M 0 12 ((M 0 12) + 1))) (st' := [fd_I (fd_dueC M d.toNat)]) rfl rfl rfl rfl rfl rfl (rfl) (fd_s_doorMark M hG d (by omega) (M 0 12)) rfl (by omega) ?_
      refine fd_u_ret (C := fd_c23) (b := true) (r' := some (fd_I (fd_dueC M d.toNat))) rfl rfl rfl (rfl) ?_ ?_
      · first | rw [fd_X_mark, if_neg (show ¬ ¬ (0 ≤ d ∧ d < M 3 2) by omega), if_pos h8_0] | rw [fd_X_mark, if_neg (show ¬ ¬ (0 ≤ d ∧ d < M 3 2) by omega), if_neg h8_0, if_pos h8_1] | rw [fd_X_mark, if_neg (show ¬ ¬ (0 ≤ d ∧ d < M 3 2) by omega), if_neg h8_0, if_neg h8_1, if_pos h8_2] | rw [fd_X_mark, if_neg (show ¬ ¬ (0 ≤ d ∧ d < M 3 2) by omega), if_neg h8_0, if_neg h8_1, if_neg h8_2, if_pos h8_3] | rw [fd_X_mark, if_neg (show ¬ ¬ (0 ≤ d ∧ d < M 3 2) by omega), if_neg h8_0, if_neg h8_1, if_neg h8_2, if_neg h8_3, if_pos h8_4] | rw [fd_X_mark, if_neg (show ¬ ¬ (0 ≤ d ∧ d < M 3 2) by omega), if_neg h8_0, if_neg h8_1, if_neg h8_2, if_neg h8_3, if_neg h8_4, if_pos h8_5] | rw [fd_X_mark, if_neg (show ¬ ¬ (0 ≤ d ∧ d < M 3 2) by omega), if_neg h8_0, if_neg h8_1, if_neg h8_2, if_neg h8_3, if_neg h8_4, if_neg h8_5] | rw [fd_X_mark, if_pos (show ¬ (0 ≤ d ∧ d < M 3 2) by omega)]
      · first | (rw [fd_Z_mark, if_neg (show ¬ ¬ (0 ≤ d ∧ d < M 3 2) by omega), if_pos h8_0]; done) | (rw [fd_Z_mark, if_neg (show ¬ ¬ (0 ≤ d ∧ d < M 3 2) by omega), if_neg h8_0, if_pos h8_1]; done) | (rw [fd_Z_mark, if_neg (show ¬ ¬ (0 ≤ d ∧ d < M 3 2) by omega), if_neg h8_0, if_neg h8_1, if_pos h8_2]; done) | (rw [fd_Z_mark, if_neg (show ¬ ¬ (0 ≤ d ∧ d < M 3 2) by omega), if_neg h8_0, if_neg h8_1, if_neg h8_2, if_pos h8_3]; done) | (rw [fd_Z_mark, if_neg (show ¬ ¬ (0 ≤ d ∧ d < M 3 2) by omega), if_neg h8_0, if_neg h8_1, if_neg h8_2, if_neg h8_3, if_pos h8_4]; done) | (rw [fd_Z_mark, if_neg (show ¬ ¬ (0 ≤ d ∧ d < M 3 2) by omega), if_neg h8_0, if_neg h8_1, if_neg h8_2, if_neg h8_3, if_neg h8_4, if_pos h8_5]; done) | (rw [fd_Z_mark, if_neg (show ¬ ¬ (0 ≤ d ∧ d < M 3 2) by omega), if_neg h8_0, if_neg h8_1, if_neg h8_2, if_neg h8_3, if_neg h8_4, if_neg h8_5]; first | rfl | exact (fd_upz M).symm | (rw [Int.add_zero]; done)) | (rw [fd_Z_mark, if_pos (show ¬ (0 ≤ d ∧ d < M 3 2) by omega)]; first | rfl | exact (fd_upz M).symm | (rw [Int.add_zero]; done))
    by_cases h8_1 : k = 1
    · refine fd_u_jmp (C := fd_c23) (j := 13) (st' := []) rfl rfl (b := fd_rng k) (by rw [h8_1]; rfl) (fd_bR (by omega) (by omega)) ?_
      refine fd_u_blk 2 (C := fd_c23) (b := true) (L' := [fd_R 0, fd_I k, fd_I d]) (st' := [fd_I d, fd_R 0]) (M' := (fd_up M 0 12 (M 0 12))) rfl rfl (j := 15) rfl (rfl) ?_
      refine fd_u_call (C := fd_c23) (d0 := 8) (mid := 29) (np := 2) (args := [fd_R 0, fd_I d]) (r1 := some (fd_I (fd_dueC M d.toNat + fd_many (fd_bits (fun j => fd_nb (fd_sw M j) = d) (M 3 2).toNat)))) (M1 := (fd_up M 0 12 ((M 0 12) + 11))) (st' := [fd_I (fd_dueC M d.toNat + fd_many (fd_bits (fun j => fd_nb (fd_sw M j) = d) (M 3 2).toNat))]) rfl rfl rfl rfl rfl rfl (rfl) (fd_s_porchMark M hG d (by omega) (M 0 12)) rfl (by omega) ?_
      refine fd_u_ret (C := fd_c23) (b := true) (r' := some (fd_I (fd_dueC M d.toNat + fd_many (fd_bits (fun j => fd_nb (fd_sw M j) = d) (M 3 2).toNat)))) rfl rfl rfl (rfl) ?_ ?_
      · first | rw [fd_X_mark, if_neg (show ¬ ¬ (0 ≤ d ∧ d < M 3 2) by omega), if_pos h8_0] | rw [fd_X_mark, if_neg (show ¬ ¬ (0 ≤ d ∧ d < M 3 2) by omega), if_neg h8_0, if_pos h8_1] | rw [fd_X_mark, if_neg (show ¬ ¬ (0 ≤ d ∧ d < M 3 2) by omega), if_neg h8_0, if_neg h8_1, if_pos h8_2] | rw [fd_X_mark, if_neg (show ¬ ¬ (0 ≤ d ∧ d < M 3 2) by omega), if_neg h8_0, if_neg h8_1, if_neg h8_2, if_pos h8_3] | rw [fd_X_mark, if_neg (show ¬ ¬ (0 ≤ d ∧ d < M 3 2) by omega), if_neg h8_0, if_neg h8_1, if_neg h8_2, if_neg h8_3, if_pos h8_4] | rw [fd_X_mark, if_neg (show ¬ ¬ (0 ≤ d ∧ d < M 3 2) by omega), if_neg h8_0, if_neg h8_1, if_neg h8_2, if_neg h8_3, if_neg h8_4, if_pos h8_5] | rw [fd_X_mark, if_neg (show ¬ ¬ (0 ≤ d ∧ d < M 3 2) by omega), if_neg h8_0, if_neg h8_1, if_neg h8_2, if_neg h8_3, if_neg h8_4, if_neg h8_5] | rw [fd_X_mark, if_pos (show ¬ (0 ≤ d ∧ d < M 3 2) by omega)]
      · first | (rw [fd_Z_mark, if_neg (show ¬ ¬ (0 ≤ d ∧ d < M 3 2) by omega), if_pos h8_0]; done) | (rw [fd_Z_mark, if_neg (show ¬ ¬ (0 ≤ d ∧ d < M 3 2) by omega), if_neg h8_0, if_pos h8_1]; done) | (rw [fd_Z_mark, if_neg (show ¬ ¬ (0 ≤ d ∧ d < M 3 2) by omega), if_neg h8_0, if_neg h8_1, if_pos h8_2]; done) | (rw [fd_Z_mark, if_neg (show ¬ ¬ (0 ≤ d ∧ d < M 3 2) by omega), if_neg h8_0, if_neg h8_1, if_neg h8_2, if_pos h8_3]; done) | (rw [fd_Z_mark, if_neg (show ¬ ¬ (0 ≤ d ∧ d < M 3 2) by omega), if_neg h8_0, if_neg h8_1, if_neg h8_2, if_neg h8_3, if_pos h8_4]; done) | (rw [fd_Z_mark, if_neg (show ¬ ¬ (0 ≤ d ∧ d < M 3 2) by omega), if_neg h8_0, if_neg h8_1, if_neg h8_2, if_neg h8_3, if_neg h8_4, if_pos h8_5]; done) | (rw [fd_Z_mark, if_neg (show ¬ ¬ (0 ≤ d ∧ d < M 3 2) by omega), if_neg h8_0, if_neg h8_1, if_neg h8_2, if_neg h8_3, if_neg h8_4, if_neg h8_5]; first | rfl | exact (fd_upz M).symm | (rw [Int.add_zero]; done)) | (rw [fd_Z_mark, if_pos (show ¬ (0 ≤ d ∧ d < M 3 2) by omega)]; first | rfl | exact (fd_upz M).symm | (rw [Int.add_zero]; done))
    by_cases h8_2 : k = 2
    · refine fd_u_jmp (C := fd_c23) (j := 17) (st' := []) rfl rfl (b := fd_rng k) (by rw [h8_2]; rfl) (fd_bR (by omega) (by omega)) ?_
      refine fd_u_blk 2 (C := fd_c23) (b := true) (L' := [fd_R 0, fd_I k, fd_I d]) (st' := [fd_I d, fd_R 0]) (M' := (fd_up M 0 12 (M 0 12))) rfl rfl (j := 19) rfl (rfl) ?_
      refine fd_u_call (C := fd_c23) (d0 := 8) (mid := 30) (np := 2) (args := [fd_R 0, fd_I d]) (r1 := some (fd_I (fd_dueC M d.toNat - M 17 d.toNat))) (M1 := (fd_up M 0 12 ((M 0 12) + 101))) (st' := [fd_I (fd_dueC M d.toNat - M 17 d.toNat)]) rfl rfl rfl rfl rfl rfl (rfl) (fd_s_gateMark M hG d (by omega) (M 0 12)) rfl (by omega) ?_
      refine fd_u_ret (C := fd_c23) (b := true) (r' := some (fd_I (fd_dueC M d.toNat - M 17 d.toNat))) rfl rfl rfl (rfl) ?_ ?_
      · first | rw [fd_X_mark, if_neg (show ¬ ¬ (0 ≤ d ∧ d < M 3 2) by omega), if_pos h8_0] | rw [fd_X_mark, if_neg (show ¬ ¬ (0 ≤ d ∧ d < M 3 2) by omega), if_neg h8_0, if_pos h8_1] | rw [fd_X_mark, if_neg (show ¬ ¬ (0 ≤ d ∧ d < M 3 2) by omega), if_neg h8_0, if_neg h8_1, if_pos h8_2] | rw [fd_X_mark, if_neg (show ¬ ¬ (0 ≤ d ∧ d < M 3 2) by omega), if_neg h8_0, if_neg h8_1, if_neg h8_2, if_pos h8_3] | rw [fd_X_mark, if_neg (show ¬ ¬ (0 ≤ d ∧ d < M 3 2) by omega), if_neg h8_0, if_neg h8_1, if_neg h8_2, if_neg h8_3, if_pos h8_4] | rw [fd_X_mark, if_neg (show ¬ ¬ (0 ≤ d ∧ d < M 3 2) by omega), if_neg h8_0, if_neg h8_1, if_neg h8_2, if_neg h8_3, if_neg h8_4, if_pos h8_5] | rw [fd_X_mark, if_neg (show ¬ ¬ (0 ≤ d ∧ d < M 3 2) by omega), if_neg h8_0, if_neg h8_1, if_neg h8_2, if_neg h8_3, if_neg h8_4, if_neg h8_5] | rw [fd_X_mark, if_pos (show ¬ (0 ≤ d ∧ d < M 3 2) by omega)]
      · first | (rw [fd_Z_mark, if_neg (show ¬ ¬ (0 ≤ d ∧ d < M 3 2) by omega), if_pos h8_0]; done) | (rw [fd_Z_mark, if_neg (show ¬ ¬ (0 ≤ d ∧ d < M 3 2) by omega), if_neg h8_0, if_pos h8_1]; done) | (rw [fd_Z_mark, if_neg (show ¬ ¬ (0 ≤ d ∧ d < M 3 2) by omega), if_neg h8_0, if_neg h8_1, if_pos h8_2]; done) | (rw [fd_Z_mark, if_neg (show ¬ ¬ (0 ≤ d ∧ d < M 3 2) by omega), if_neg h8_0, if_neg h8_1, if_neg h8_2, if_pos h8_3]; done) | (rw [fd_Z_mark, if_neg (show ¬ ¬ (0 ≤ d ∧ d < M 3 2) by omega), if_neg h8_0, if_neg h8_1, if_neg h8_2, if_neg h8_3, if_pos h8_4]; done) | (rw [fd_Z_mark, if_neg (show ¬ ¬ (0 ≤ d ∧ d < M 3 2) by omega), if_neg h8_0, if_neg h8_1, if_neg h8_2, if_neg h8_3, if_neg h8_4, if_pos h8_5]; done) | (rw [fd_Z_mark, if_neg (show ¬ ¬ (0 ≤ d ∧ d < M 3 2) by omega), if_neg h8_0, if_neg h8_1, if_neg h8_2, if_neg h8_3, if_neg h8_4, if_neg h8_5]; first | rfl | exact (fd_upz M).symm | (rw [Int.add_zero]; done)) | (rw [fd_Z_mark, if_pos (show ¬ (0 ≤ d ∧ d < M 3 2) by omega)]; first | rfl | exact (fd_upz M).symm | (rw [Int.add_zero]; done))
    by_cases h8_3 : k = 3
    · refine fd_u_jmp (C := fd_c23) (j := 21) (st' := []) rfl rfl (b := fd_rng k) (by rw [h8_3]; rfl) (fd_bR (by omega) (by omega)) ?_
      refine fd_u_blk 2 (C := fd_c23) (b := true) (L' := [fd_R 0, fd_I k, fd_I d]) (st' := [fd_I d, fd_R 0]) (M' := (fd_up M 0 12 (M 0 12))) rfl rfl (j := 23) rfl (rfl) ?_
      refine fd_u_call (C := fd_c23) (d0 := 9) (mid := 31) (np := 2) (args := [fd_R 0, fd_I d]) (r1 := some (fd_I ((fd_dueC M d.toNat + fd_many (fd_bits (fun j => fd_nb (fd_sw M j) = d) (M 3 2).toNat)) * 2))) (M1 := (fd_up M 0 12 ((M 0 12) + 1011))) (st' := [fd_I ((fd_dueC M d.toNat + fd_many (fd_bits (fun j => fd_nb (fd_sw M j) = d) (M 3 2).toNat)) * 2)]) rfl rfl rfl rfl rfl rfl (rfl) (fd_s_bayMark M hG d (by omega) (M 0 12)) rfl (by omega) ?_
      refine fd_u_ret (C := fd_c23) (b := true) (r' := some (fd_I ((fd_dueC M d.toNat + fd_many (fd_bits (fun j => fd_nb (fd_sw M j) = d) (M 3 2).toNat)) * 2))) rfl rfl rfl (rfl) ?_ ?_
      · first | rw [fd_X_mark, if_neg (show ¬ ¬ (0 ≤ d ∧ d < M 3 2) by omega), if_pos h8_0] | rw [fd_X_mark, if_neg (show ¬ ¬ (0 ≤ d ∧ d < M 3 2) by omega), if_neg h8_0, if_pos h8_1] | rw [fd_X_mark, if_neg (show ¬ ¬ (0 ≤ d ∧ d < M 3 2) by omega), if_neg h8_0, if_neg h8_1, if_pos h8_2] | rw [fd_X_mark, if_neg (show ¬ ¬ (0 ≤ d ∧ d < M 3 2) by omega), if_neg h8_0, if_neg h8_1, if_neg h8_2, if_pos h8_3] | rw [fd_X_mark, if_neg (show ¬ ¬ (0 ≤ d ∧ d < M 3 2) by omega), if_neg h8_0, if_neg h8_1, if_neg h8_2, if_neg h8_3, if_pos h8_4] | rw [fd_X_mark, if_neg (show ¬ ¬ (0 ≤ d ∧ d < M 3 2) by omega), if_neg h8_0, if_neg h8_1, if_neg h8_2, if_neg h8_3, if_neg h8_4, if_pos h8_5] | rw [fd_X_mark, if_neg (show ¬ ¬ (0 ≤ d ∧ d < M 3 2) by omega), if_neg h8_0, if_neg h8_1, if_neg h8_2, if_neg h8_3, if_neg h8_4, if_neg h8_5] | rw [fd_X_mark, if_pos (show ¬ (0 ≤ d ∧ d < M 3 2) by omega)]
      · first | (rw [fd_Z_mark, if_neg (show ¬ ¬ (0 ≤ d ∧ d < M 3 2) by omega), if_pos h8_0]; done) | (rw [fd_Z_mark, if_neg (show ¬ ¬ (0 ≤ d ∧ d < M 3 2) by omega), if_neg h8_0, if_pos h8_1]; done) | (rw [fd_Z_mark, if_neg (show ¬ ¬ (0 ≤ d ∧ d < M 3 2) by omega), if_neg h8_0, if_neg h8_1, if_pos h8_2]; done) | (rw [fd_Z_mark, if_neg (show ¬ ¬ (0 ≤ d ∧ d < M 3 2) by omega), if_neg h8_0, if_neg h8_1, if_neg h8_2, if_pos h8_3]; done) | (rw [fd_Z_mark, if_neg (show ¬ ¬ (0 ≤ d ∧ d < M 3 2) by omega), if_neg h8_0, if_neg h8_1, if_neg h8_2, if_neg h8_3, if_pos h8_4]; done) | (rw [fd_Z_mark, if_neg (show ¬ ¬ (0 ≤ d ∧ d < M 3 2) by omega), if_neg h8_0, if_neg h8_1, if_neg h8_2, if_neg h8_3, if_neg h8_4, if_pos h8_5]; done) | (rw [fd_Z_mark, if_neg (show ¬ ¬ (0 ≤ d ∧ d < M 3 2) by omega), if_neg h8_0, if_neg h8_1, if_neg h8_2, if_neg h8_3, if_neg h8_4, if_neg h8_5]; first | rfl | exact (fd_upz M).symm | (rw [Int.add_zero]; done)) | (rw [fd_Z_mark, if_pos (show ¬ (0 ≤ d ∧ d < M 3 2) by omega)]; first | rfl | exact (fd_upz M).symm | (rw [Int.add_zero]; done))
    by_cases h8_4 : k = 4
    · refine fd_u_jmp (C := fd_c23) (j := 25) (st' := []) rfl rfl (b := fd_rng k) (by rw [h8_4]; rfl) (fd_bR (by omega) (by omega)) ?_
      refine fd_u_blk 2 (C := fd_c23) (b := true) (L' := [fd_R 0, fd_I k, fd_I d]) (st' := [fd_I d, fd_R 0]) (M' := (fd_up M 0 12 (M 0 12))) rfl rfl (j := 27) rfl (rfl) ?_
      refine fd_u_call (C := fd_c23) (d0 := 9) (mid := 32) (np := 2) (args := [fd_R 0, fd_I d]) (r1 := some (fd_I (fd_dueC M d.toNat - M 17 d.toNat + (if M 14 4 / 2 ^ d.toNat % 2 = 1 then 7 else 0)))) (M1 := (fd_up M 0 12 ((M 0 12) + 10101))) (st' := [fd_I (fd_dueC M d.toNat - M 17 d.toNat + (if M 14 4 / 2 ^ d.toNat % 2 = 1 then 7 else 0))]) rfl rfl rfl rfl rfl rfl (rfl) (fd_s_schoolMark M hG d (by omega) (M 0 12)) rfl (by omega) ?_
      refine fd_u_ret (C := fd_c23) (b := true) (r' := some (fd_I (fd_dueC M d.toNat - M 17 d.toNat + (if M 14 4 / 2 ^ d.toNat % 2 = 1 then 7 else 0)))) rfl rfl rfl (rfl) ?_ ?_
      · first | rw [fd_X_mark, if_neg (show ¬ ¬ (0 ≤ d ∧ d < M 3 2) by omega), if_pos h8_0] | rw [fd_X_mark, if_neg (show ¬ ¬ (0 ≤ d ∧ d < M 3 2) by omega), if_neg h8_0, if_pos h8_1] | rw [fd_X_mark, if_neg (show ¬ ¬ (0 ≤ d ∧ d < M 3 2) by omega), if_neg h8_0, if_neg h8_1, if_pos h8_2] | rw [fd_X_mark, if_neg (show ¬ ¬ (0 ≤ d ∧ d < M 3 2) by omega), if_neg h8_0, if_neg h8_1, if_neg h8_2, if_pos h8_3] | rw [fd_X_mark, if_neg (show ¬ ¬ (0 ≤ d ∧ d < M 3 2) by omega), if_neg h8_0, if_neg h8_1, if_neg h8_2, if_neg h8_3, if_pos h8_4] | rw [fd_X_mark, if_neg (show ¬ ¬ (0 ≤ d ∧ d < M 3 2) by omega), if_neg h8_0, if_neg h8_1, if_neg h8_2, if_neg h8_3, if_neg h8_4, if_pos h8_5] | rw [fd_X_mark, if_neg (show ¬ ¬ (0 ≤ d ∧ d < M 3 2) by omega), if_neg h8_0, if_neg h8_1, if_neg h8_2, if_neg h8_3, if_neg h8_4, if_neg h8_5] | rw [fd_X_mark, if_pos (show ¬ (0 ≤ d ∧ d < M 3 2) by omega)]
      · first | (rw [fd_Z_mark, if_neg (show ¬ ¬ (0 ≤ d ∧ d < M 3 2) by omega), if_pos h8_0]; done) | (rw [fd_Z_mark, if_neg (show ¬ ¬ (0 ≤ d ∧ d < M 3 2) by omega), if_neg h8_0, if_pos h8_1]; done) | (rw [fd_Z_mark, if_neg (show ¬ ¬ (0 ≤ d ∧ d < M 3 2) by omega), if_neg h8_0, if_neg h8_1, if_pos h8_2]; done) | (rw [fd_Z_mark, if_neg (show ¬ ¬ (0 ≤ d ∧ d < M 3 2) by omega), if_neg h8_0, if_neg h8_1, if_neg h8_2, if_pos h8_3]; done) | (rw [fd_Z_mark, if_neg (show ¬ ¬ (0 ≤ d ∧ d < M 3 2) by omega), if_neg h8_0, if_neg h8_1, if_neg h8_2, if_neg h8_3, if_pos h8_4]; done) | (rw [fd_Z_mark, if_neg (show ¬ ¬ (0 ≤ d ∧ d < M 3 2) by omega), if_neg h8_0, if_neg h8_1, if_neg h8_2, if_neg h8_3, if_neg h8_4, if_pos h8_5]; done) | (rw [fd_Z_mark, if_neg (show ¬ ¬ (0 ≤ d ∧ d < M 3 2) by omega), if_neg h8_0, if_neg h8_1, if_neg h8_2, if_neg h8_3, if_neg h8_4, if_neg h8_5]; first | rfl | exact (fd_upz M).symm | (rw [Int.add_zero]; done)) | (rw [fd_Z_mark, if_pos (show ¬ (0 ≤ d ∧ d < M 3 2) by omega)]; first | rfl | exact (fd_upz M).symm | (rw [Int.add_zero]; done))
    by_cases h8_5 : k = 5
    · refine fd_u_jmp (C := fd_c23) (j := 29) (st' := []) rfl rfl (b := fd_rng k) (by rw [h8_5]; rfl) (fd_bR (by omega) (by omega)) ?_
      refine fd_u_blk 2 (C := fd_c23) (b := true) (L' := [fd_R 0, fd_I k, fd_I d]) (st' := [fd_I d, fd_R 0]) (M' := (fd_up M 0 12 (M 0 12))) rfl rfl (j := 31) rfl (rfl) ?_
      refine fd_u_call (C := fd_c23) (d0 := 8) (mid := 33) (np := 2) (args := [fd_R 0, fd_I d]) (r1 := some (fd_I (fd_dueC M d.toNat + M 18 d.toNat))) (M1 := (fd_up M 0 12 ((M 0 12) + 100001))) (st' := [fd_I (fd_dueC M d.toNat + M 18 d.toNat)]) rfl rfl rfl rfl rfl rfl (rfl) (fd_s_hatchMark M hG d (by omega) (M 0 12)) rfl (by omega) ?_
      refine fd_u_ret (C := fd_c23) (b := true) (r' := some (fd_I (fd_dueC M d.toNat + M 18 d.toNat))) rfl rfl rfl (rfl) ?_ ?_
      · first | rw [fd_X_mark, if_neg (show ¬ ¬ (0 ≤ d ∧ d < M 3 2) by omega), if_pos h8_0] | rw [fd_X_mark, if_neg (show ¬ ¬ (0 ≤ d ∧ d < M 3 2) by omega), if_neg h8_0, if_pos h8_1] | rw [fd_X_mark, if_neg (show ¬ ¬ (0 ≤ d ∧ d < M 3 2) by omega), if_neg h8_0, if_neg h8_1, if_pos h8_2] | rw [fd_X_mark, if_neg (show ¬ ¬ (0 ≤ d ∧ d < M 3 2) by omega), if_neg h8_0, if_neg h8_1, if_neg h8_2, if_pos h8_3] | rw [fd_X_mark, if_neg (show ¬ ¬ (0 ≤ d ∧ d < M 3 2) by omega), if_neg h8_0, if_neg h8_1, if_neg h8_2, if_neg h8_3, if_pos h8_4] | rw [fd_X_mark, if_neg (show ¬ ¬ (0 ≤ d ∧ d < M 3 2) by omega), if_neg h8_0, if_neg h8_1, if_neg h8_2, if_neg h8_3, if_neg h8_4, if_pos h8_5] | rw [fd_X_mark, if_neg (show ¬ ¬ (0 ≤ d ∧ d < M 3 2) by omega), if_neg h8_0, if_neg h8_1, if_neg h8_2, if_neg h8_3, if_neg h8_4, if_neg h8_5] | rw [fd_X_mark, if_pos (show ¬ (0 ≤ d ∧ d < M 3 2) by omega)]
      · first | (rw [fd_Z_mark, if_neg (show ¬ ¬ (0 ≤ d ∧ d < M 3 2) by omega), if_pos h8_0]; done) | (rw [fd_Z_mark, if_neg (show ¬ ¬ (0 ≤ d ∧ d < M 3 2) by omega), if_neg h8_0, if_pos h8_1]; done) | (rw [fd_Z_mark, if_neg (show ¬ ¬ (0 ≤ d ∧ d < M 3 2) by omega), if_neg h8_0, if_neg h8_1, if_pos h8_2]; done) | (rw [fd_Z_mark, if_neg (show ¬ ¬ (0 ≤ d ∧ d < M 3 2) by omega), if_neg h8_0, if_neg h8_1, if_neg h8_2, if_pos h8_3]; done) | (rw [fd_Z_mark, if_neg (show ¬ ¬ (0 ≤ d ∧ d < M 3 2) by omega), if_neg h8_0, if_neg h8_1, if_neg h8_2, if_neg h8_3, if_pos h8_4]; done) | (rw [fd_Z_mark, if_neg (show ¬ ¬ (0 ≤ d ∧ d < M 3 2) by omega), if_neg h8_0, if_neg h8_1, if_neg h8_2, if_neg h8_3, if_neg h8_4, if_pos h8_5]; done) | (rw [fd_Z_mark, if_neg (show ¬ ¬ (0 ≤ d ∧ d < M 3 2) by omega), if_neg h8_0, if_neg h8_1, if_neg h8_2, if_neg h8_3, if_neg h8_4, if_neg h8_5]; first | rfl | exact (fd_upz M).symm | (rw [Int.add_zero]; done)) | (rw [fd_Z_mark, if_pos (show ¬ (0 ≤ d ∧ d < M 3 2) by omega)]; first | rfl | exact (fd_upz M).symm | (rw [Int.add_zero]; done))
    refine fd_u_jmp (C := fd_c23) (j := 33) (st' := []) rfl rfl (b := fd_rng k) (fd_sw_out (by simp only [fd_a, List.getD_cons_succ, List.getD_cons_zero, List.length_cons, List.length_nil]; omega)) (fd_bR (by omega) (by omega)) ?_
    refine fd_u_blk 1 (C := fd_c23) (b := true) (L' := [fd_R 0, fd_I k, fd_I d]) (st' := [fd_I (-1000000)]) (M' := (fd_up M 0 12 (M 0 12))) rfl rfl (j := 34) rfl (rfl) ?_
    refine fd_u_ret (C := fd_c23) (b := true) (r' := some (fd_I (-1000000))) rfl rfl rfl (rfl) ?_ ?_
    · first | rw [fd_X_mark, if_neg (show ¬ ¬ (0 ≤ d ∧ d < M 3 2) by omega), if_pos h8_0] | rw [fd_X_mark, if_neg (show ¬ ¬ (0 ≤ d ∧ d < M 3 2) by omega), if_neg h8_0, if_pos h8_1] | rw [fd_X_mark, if_neg (show ¬ ¬ (0 ≤ d ∧ d < M 3 2) by omega), if_neg h8_0, if_neg h8_1, if_pos h8_2] | rw [fd_X_mark, if_neg (show ¬ ¬ (0 ≤ d ∧ d < M 3 2) by omega), if_neg h8_0, if_neg h8_1, if_neg h8_2, if_pos h8_3] | rw [fd_X_mark, if_neg (show ¬ ¬ (0 ≤ d ∧ d < M 3 2) by omega), if_neg h8_0, if_neg h8_1, if_neg h8_2, if_neg h8_3, if_pos h8_4] | rw [fd_X_mark, if_neg (show ¬ ¬ (0 ≤ d ∧ d < M 3 2) by omega), if_neg h8_0, if_neg h8_1, if_neg h8_2, if_neg h8_3, if_neg h8_4, if_pos h8_5] | rw [fd_X_mark, if_neg (show ¬ ¬ (0 ≤ d ∧ d < M 3 2) by omega), if_neg h8_0, if_neg h8_1, if_neg h8_2, if_neg h8_3, if_neg h8_4, if_neg h8_5] | rw [fd_X_mark, if_pos (show ¬ (0 ≤ d ∧ d < M 3 2) by omega)]
    · first | (rw [fd_Z_mark, if_neg (show ¬ ¬ (0 ≤ d ∧ d < M 3 2) by omega), if_pos h8_0]; done) | (rw [fd_Z_mark, if_neg (show ¬ ¬ (0 ≤ d ∧ d < M 3 2) by omega), if_neg h8_0, if_pos h8_1]; done) | (rw [fd_Z_mark, if_neg (show ¬ ¬ (0 ≤ d ∧ d < M 3 2) by omega), if_neg h8_0, if_neg h8_1, if_pos h8_2]; done) | (rw [fd_Z_mark, if_neg (show ¬ ¬ (0 ≤ d ∧ d < M 3 2) by omega), if_neg h8_0, if_neg h8_1, if_neg h8_2, if_pos h8_3]; done) | (rw [fd_Z_mark, if_neg (show ¬ ¬ (0 ≤ d ∧ d < M 3 2) by omega), if_neg h8_0, if_neg h8_1, if_neg h8_2, if_neg h8_3, if_pos h8_4]; done) | (rw [fd_Z_mark, if_neg (show ¬ ¬ (0 ≤ d ∧ d < M 3 2) by omega), if_neg h8_0, if_neg h8_1, if_neg h8_2, if_neg h8_3, if_neg h8_4, if_pos h8_5]; done) | (rw [fd_Z_mark, if_neg (show ¬ ¬ (0 ≤ d ∧ d < M 3 2) by omega), if_neg h8_0, if_neg h8_1, if_neg h8_2, if_neg h8_3, if_neg h8_4, if_neg h8_5]; first | rfl | exact (fd_upz M).symm | (rw [Int.add_zero]; done)) | (rw [fd_Z_mark, if_pos (show ¬ (0 ≤ d ∧ d < M 3 2) by omega)]; first | rfl | exact (fd_upz M).symm | (rw [Int.add_zero]; done))
  · have h4 := fd_biF2  h4
    refine fd_u_blk 1 (C := fd_c23) (b := true) (L' := [fd_R 0, fd_I k, fd_I d]) (st' := [fd_I (-1000000)]) (M' := (fd_up M 0 12 (M 0 12))) rfl rfl (j := 6) rfl (rfl) ?_
    refine fd_u_ret (C := fd_c23) (b := true) (r' := some (fd_I (-1000000))) rfl rfl rfl (rfl) ?_ ?_
    · first | rw [fd_X_mark, if_neg (show ¬ ¬ (0 ≤ d ∧ d < M 3 2) by omega), if_pos h8_0] | rw [fd_X_mark, if_neg (show ¬ ¬ (0 ≤ d ∧ d < M 3 2) by omega), if_neg h8_0, if_pos h8_1] | rw [fd_X_mark, if_neg (show ¬ ¬ (0 ≤ d ∧ d < M 3 2) by omega), if_neg h8_0, if_neg h8_1, if_pos h8_2] | rw [fd_X_mark, if_neg (show ¬ ¬ (0 ≤ d ∧ d < M 3 2) by omega), if_neg h8_0, if_neg h8_1, if_neg h8_2, if_pos h8_3] | rw [fd_X_mark, if_neg (show ¬ ¬ (0 ≤ d ∧ d < M 3 2) by omega), if_neg h8_0, if_neg h8_1, if_neg h8_2, if_neg h8_3, if_pos h8_4] | rw [fd_X_mark, if_neg (show ¬ ¬ (0 ≤ d ∧ d < M 3 2) by omega), if_neg h8_0, if_neg h8_1, if_neg h8_2, if_neg h8_3, if_neg h8_4, if_pos h8_5] | rw [fd_X_mark, if_neg (show ¬ ¬ (0 ≤ d ∧ d < M 3 2) by omega), if_neg h8_0, if_neg h8_1, if_neg h8_2, if_neg h8_3, if_neg h8_4, if_neg h8_5] | rw [fd_X_mark, if_pos (show ¬ (0 ≤ d ∧ d < M 3 2) by omega)]
    · first | (rw [fd_Z_mark, if_neg (show ¬ ¬ (0 ≤ d ∧ d < M 3 2) by omega), if_pos h8_0]; done) | (rw [fd_Z_mark, if_neg (show ¬ ¬ (0 ≤ d ∧ d < M 3 2) by omega), if_neg h8_0, if_pos h8_1]; done) | (rw [fd_Z_mark, if_neg (show ¬ ¬ (0 ≤ d ∧ d < M 3 2) by omega), if_neg h8_0, if_neg h8_1, if_pos h8_2]; done) | (rw [fd_Z_mark, if_neg (show ¬ ¬ (0 ≤ d ∧ d < M 3 2) by omega), if_neg h8_0, if_neg h8_1, if_neg h8_2, if_pos h8_3]; done) | (rw [fd_Z_mark, if_neg (show ¬ ¬ (0 ≤ d ∧ d < M 3 2) by omega), if_neg h8_0, if_neg h8_1, if_neg h8_2, if_neg h8_3, if_pos h8_4]; done) | (rw [fd_Z_mark, if_neg (show ¬ ¬ (0 ≤ d ∧ d < M 3 2) by omega), if_neg h8_0, if_neg h8_1, if_neg h8_2, if_neg h8_3, if_neg h8_4, if_pos h8_5]; done) | (rw [fd_Z_mark, if_neg (show ¬ ¬ (0 ≤ d ∧ d < M 3 2) by omega), if_neg h8_0, if_neg h8_1, if_neg h8_2, if_neg h8_3, if_neg h8_4, if_neg h8_5]; first | rfl | exact (fd_upz M).symm | (rw [Int.add_zero]; done)) | (rw [fd_Z_mark, if_pos (show ¬ (0 ≤ d ∧ d < M 3 2) by omega)]; first | rfl | exact (fd_upz M).symm | (rw [Int.add_zero]; done))

theorem fd_x_mark (M : fd_M) (hG : fd_CG M) (k : Int) (hk : -2147483648 ≤ k ∧ k < 2147483648) (d : Int) (hd : -2147483648 ≤ d ∧ d < 2147483648) : fd_call 10 23 [fd_R 0, fd_I k, fd_I d] M (some (fd_I (fd_X_mark M k d))) (fd_up M 0 12 (M 0 12 + fd_Z_mark M k d)) := by
  have z := fd_x_markT M hG k hk d hd
  rw [fd_up_self] at z
  exact z

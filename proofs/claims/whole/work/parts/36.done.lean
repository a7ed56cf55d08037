/-! what is done: the class -/
theorem fd_psh_fr {M : fd_M} (hs : fd_HS M) (h19 : 0 ≤ M 19 1 ∧ M 19 1 ≤ 9) {c : Nat} (hc : c < 19 ∨ 71 ≤ c) : fd_psh M c = M c := by
  obtain ⟨j, hj, ej⟩ := hs (M 19 1).toNat (by omega)
  funext k
  unfold fd_psh
  rw [fd_up_ne (by omega), ej]
  unfold fd_cps
  rw [if_neg (by omega), if_neg (by omega)]
theorem fd_lose_fr {M : fd_M} {c : Nat} (hc : c < 19 ∨ 21 ≤ c) : fd_lose M c = M c := by
  funext k
  unfold fd_lose
  rw [if_neg (by omega), if_neg (by omega), if_neg (by omega)]
theorem fd_push_fr {M : fd_M} (hs : fd_HS M) (h19 : 0 ≤ M 19 1 ∧ M 19 1 ≤ 10) {c : Nat} (hc : c < 19 ∨ 71 ≤ c) : fd_push M c = M c := by
  unfold fd_push
  by_cases h : M 19 1 = 10
  · rw [if_pos h, fd_psh_fr (fd_HS_lose hs) (by simp [fd_lose]) hc, fd_lose_fr (by omega)]
  · rw [if_neg h, fd_psh_fr hs (by omega) hc]
theorem fd_push_sz {M : fd_M} (hs : fd_HS M) (h19 : 0 ≤ M 19 1 ∧ M 19 1 ≤ 10) : fd_push M 19 1 = if M 19 1 = 10 then 10 else M 19 1 + 1 := by
  unfold fd_push
  by_cases h : M 19 1 = 10
  · rw [if_pos h, if_pos h]
    obtain ⟨j, hj, ej⟩ := fd_HS_lose hs 9 (by omega)
    unfold fd_psh
    rw [show fd_lose M 19 1 = 9 by simp [fd_lose], show (9 : Int).toNat = 9 from rfl, ej, fd_up_at, if_pos rfl]
    unfold fd_cps
    rw [if_neg (by omega), if_neg (by omega)]
    simp [fd_lose]
  · rw [if_neg h, if_neg h]
    obtain ⟨j, hj, ej⟩ := hs (M 19 1).toNat (by omega)
    unfold fd_psh
    rw [fd_up_at, if_pos rfl, ej]
    unfold fd_cps
    rw [if_neg (by omega), if_neg (by omega)]
theorem fd_CG_of {M N : fd_M} (hG : fd_CG M) (h3 : N 3 = M 3) (h4 : N 4 = M 4) (h14 : N 14 = M 14) (h15 : N 15 = M 15) (h16 : N 16 = M 16) (h17 : N 17 = M 17) (h18 : N 18 = M 18) : fd_CG N := by
  unfold fd_CG fd_PG fd_SG at hG ⊢
  simp only [Nat.reduceAdd] at hG ⊢
  rw [h3, h4, h14, h15, h16, h17, h18]
  exact hG
theorem fd_CG_push {M : fd_M} (hG : fd_CG M) (hs : fd_HS M) (h19 : 0 ≤ M 19 1 ∧ M 19 1 ≤ 10) : fd_CG (fd_push M) :=
  fd_CG_of hG (fd_push_fr hs h19 (by omega)) (fd_push_fr hs h19 (by omega)) (fd_push_fr hs h19 (by omega)) (fd_push_fr hs h19 (by omega)) (fd_push_fr hs h19 (by omega)) (fd_push_fr hs h19 (by omega)) (fd_push_fr hs h19 (by omega))
theorem fd_up_all {P : Int → Prop} {M : fd_M} {c k : Nat} {v : Int} (h : ∀ d : Nat, P (M c d)) (hv : P v) : ∀ d : Nat, P (fd_up M c k v c d) := by
  intro d
  rw [fd_up_at]
  by_cases q : d = k
  · rw [if_pos q]; exact hv
  · rw [if_neg q]; exact h d
theorem fd_CG_x {M : fd_M} (hG : fd_CG M) (k : Nat) {v : Int} (hv : 0 ≤ v ∧ v ≤ 6) : fd_CG (fd_up M 15 k v) :=
  ⟨hG.1, fd_up_all (P := fun z => 0 ≤ z ∧ z ≤ 6) hG.2.1 hv, hG.2.2⟩
theorem fd_CG_y {M : fd_M} (hG : fd_CG M) (k : Nat) {v : Int} (hv : 0 ≤ v ∧ v ≤ 6) : fd_CG (fd_up M 16 k v) :=
  ⟨hG.1, hG.2.1, fd_up_all (P := fun z => 0 ≤ z ∧ z ≤ 6) hG.2.2.1 hv, hG.2.2.2⟩
theorem fd_CG_w {M : fd_M} (hG : fd_CG M) (k : Nat) {v : Int} (hv : 0 ≤ v ∧ v ≤ 3) : fd_CG (fd_up M 17 k v) :=
  ⟨hG.1, hG.2.1, hG.2.2.1, fd_up_all (P := fun z => 0 ≤ z ∧ z ≤ 3) hG.2.2.2.1 hv, hG.2.2.2.2⟩
theorem fd_CG_o {M : fd_M} (hG : fd_CG M) (k : Nat) {v : Int} (hv : 0 ≤ v ∧ v ≤ 9999) : fd_CG (fd_up M 18 k v) :=
  ⟨hG.1, hG.2.1, hG.2.2.1, hG.2.2.2.1, fd_up_all (P := fun z => 0 ≤ z ∧ z ≤ 9999) hG.2.2.2.2.1 hv, hG.2.2.2.2.2⟩
theorem fd_CG_4 {M : fd_M} (hG : fd_CG M) {v : Int} (hv : 0 ≤ v ∧ v < 64) : fd_CG (fd_up M 14 4 v) :=
  ⟨hG.1, hG.2.1, hG.2.2.1, hG.2.2.2.1, hG.2.2.2.2.1, hv, hG.2.2.2.2.2.2⟩
theorem fd_CG_5 {M : fd_M} (hG : fd_CG M) {v : Int} (hv : 0 ≤ v ∧ v < 562949953421312) : fd_CG (fd_up M 14 5 v) :=
  ⟨hG.1, hG.2.1, hG.2.2.1, hG.2.2.2.1, hG.2.2.2.2.1, hG.2.2.2.2.2.1, hv, hG.2.2.2.2.2.2.2⟩
theorem fd_CG_6 {M : fd_M} (hG : fd_CG M) {v : Int} (hv : 0 ≤ v ∧ v ≤ 1) : fd_CG (fd_up M 14 6 v) :=
  ⟨hG.1, hG.2.1, hG.2.2.1, hG.2.2.2.1, hG.2.2.2.2.1, hG.2.2.2.2.2.1, hG.2.2.2.2.2.2.1, hv, hG.2.2.2.2.2.2.2.2⟩
theorem fd_CG_7 {M : fd_M} (hG : fd_CG M) {v : Int} (hv : 0 ≤ v ∧ v ≤ 1) : fd_CG (fd_up M 14 7 v) :=
  ⟨hG.1, hG.2.1, hG.2.2.1, hG.2.2.2.1, hG.2.2.2.2.1, hG.2.2.2.2.2.1, hG.2.2.2.2.2.2.1, hG.2.2.2.2.2.2.2.1, hv⟩
theorem fd_xor_rng {a : Int} (h : 0 ≤ a ∧ a < 64) {k : Nat} (hk : k < 6) : 0 ≤ fd_xor a (2 ^ k) ∧ fd_xor a (2 ^ k) < 64 := by
  obtain ⟨n, rfl⟩ := Int.eq_ofNat_of_zero_le h.1
  have key : ∀ n : Fin 64, ∀ k : Fin 6, 0 ≤ fd_xor (n.val : Int) (2 ^ k.val) ∧ fd_xor (n.val : Int) (2 ^ k.val) < 64 := by decide +kernel
  exact key ⟨n, by omega⟩ ⟨k, hk⟩
theorem fd_lxorN (n m : Nat) (hn : n < 2 ^ 63) (hm : m < 2 ^ 63) : fd_lxor (n : Int) (m : Int) = ((n ^^^ m : Nat) : Int) := by
  unfold fd_lxor
  have e1 : Int64.ofInt (n : Int) = lN n := Int64.ofInt_eq_ofNat
  have e2 : Int64.ofInt (m : Int) = lN m := Int64.ofInt_eq_ofNat
  have e3 : lN n ^^^ lN m = lN (n ^^^ m) := by
    apply Int64.toBitVec.inj
    show BitVec.ofNat 64 n ^^^ BitVec.ofNat 64 m = BitVec.ofNat 64 (n ^^^ m)
    apply BitVec.eq_of_toNat_eq
    simp [BitVec.toNat_xor, BitVec.toNat_ofNat, Nat.xor_mod_two_pow]
  rw [e1, e2, e3]
  exact Int64.toInt_ofNat_of_lt (Nat.xor_lt_two_pow hn hm)
theorem fd_lxor_rng {a : Int} (h : 0 ≤ a ∧ a < 562949953421312) {k : Nat} (hk : k < 49) : 0 ≤ fd_lxor a (2 ^ k) ∧ fd_lxor a (2 ^ k) < 562949953421312 := by
  obtain ⟨n, rfl⟩ := Int.eq_ofNat_of_zero_le h.1
  have hp : 2 ^ k < 2 ^ 49 := Nat.pow_lt_pow_right (by decide) hk
  rw [show (2 : Int) ^ k = ((2 ^ k : Nat) : Int) by simp, fd_lxorN n (2 ^ k) (by omega) (by omega)]
  have := Nat.xor_lt_two_pow (x := n) (y := 2 ^ k) (n := 49) (by omega) hp
  omega
def fd_X_hinges (M : fd_M) (d w : Int) : Int := if ¬ (0 ≤ d ∧ d < M 3 2 ∧ 0 ≤ w ∧ w < 4) then -1 else if M 17 d.toNat = w then -2 else M 17 d.toNat
def fd_Y_hinges (M : fd_M) (d w : Int) : fd_M := if ¬ (0 ≤ d ∧ d < M 3 2 ∧ 0 ≤ w ∧ w < 4) then M else if M 17 d.toNat = w then M else fd_up (fd_push M) 17 d.toNat w
theorem fd_x_hinges (M : fd_M) (hG : fd_CG M) (hs : fd_HS M) (h19 : 0 ≤ M 19 1 ∧ M 19 1 ≤ 10) (d : Int) (hd : -2147483648 ≤ d ∧ d < 2147483648) (w : Int) (hw : -2147483648 ≤ w ∧ w < 2147483648) : fd_call 3 6 [fd_R 0, fd_I d, fd_I w] M (some (fd_I (fd_X_hinges M d w))) (fd_Y_hinges M d w) := by
  refine fd_u_in (L := [fd_R 0, fd_I d, fd_I w, fd_R 1003]) rfl ?_
  obtain ⟨g0, g1, g2, g3, g4, g5⟩ := hG.1
  obtain ⟨s1, s2, s3, s4, s5, s6, s7, s8⟩ := hG.2
  have q1 := s1 d.toNat
  have q2 := s2 d.toNat
  have q3 := s3 d.toNat
  have q4 := s4 d.toNat
  simp only [Nat.reduceAdd] at q1 q2 q3 q4
  have hp6 : 0 ≤ M 14 6 ∧ M 14 6 ≤ 1 := hG.2.2.2.2.2.2.2.1
  have hp7 : 0 ≤ M 14 7 ∧ M 14 7 ≤ 1 := hG.2.2.2.2.2.2.2.2
  have hP := fd_CG_push hG hs h19
  refine fd_u_blk 3 (C := fd_c6) (b := true) (L' := [fd_R 0, fd_I d, fd_I w, fd_R 1003]) (st' := [fd_I d, fd_R 3]) (M' := M) rfl rfl (j := 3) rfl (rfl) ?_
  refine fd_u_call (C := fd_c6) (d0 := 0) (mid := 124) (np := 2) (args := [fd_R 3, fd_I d]) (r1 := some (fd_I (fd_bi (0 ≤ d ∧ d < M 3 2)))) (M1 := M) (st' := [fd_I (fd_bi (0 ≤ d ∧ d < M 3 2))]) rfl rfl rfl rfl rfl rfl (rfl) (fd_s_hasDoor M d (by omega) (by omega)) rfl (by omega) ?_
  refine fd_u_br (C := fd_c6) (t := 8) (e := 5) (st' := []) (c := (fd_bi (0 ≤ d ∧ d < M 3 2)) = 0) (b := (fd_rng (fd_bi (0 ≤ d ∧ d < M 3 2)))) rfl rfl rfl (fd_biR) (fun h4 => ?_) (fun h4 => ?_)
  · have h4 := fd_biF.mp h4
    refine fd_u_blk 1 (C := fd_c6) (b := true) (L' := [fd_R 0, fd_I d, fd_I w, fd_R 1003]) (st' := [fd_I (-1)]) (M' := M) rfl rfl (j := 9) rfl (rfl) ?_
    refine fd_u_ret (C := fd_c6) (b := true) (r' := some (fd_I (-1))) rfl rfl rfl (rfl) ?_ ?_
    · rw [fd_X_hinges, if_pos (show ¬ (0 ≤ d ∧ d < M 3 2 ∧ 0 ≤ w ∧ w < 4) by omega)]
    · rw [fd_Y_hinges, if_pos (show ¬ (0 ≤ d ∧ d < M 3 2 ∧ 0 ≤ w ∧ w < 4) by omega)]
  · have h4 := fd_biT.mp h4
    refine fd_u_blk 1 (C := fd_c6) (b := true) (L' := [fd_R 0, fd_I d, fd_I w, fd_R 1003]) (st' := [fd_I w]) (M' := M) rfl rfl (j := 6) rfl (rfl) ?_
    refine fd_u_call (C := fd_c6) (d0 := 0) (mid := 38) (np := 1) (args := [fd_I w]) (r1 := some (fd_I (fd_bi (0 ≤ w ∧ w < 4)))) (M1 := M) (st' := [fd_I (fd_bi (0 ≤ w ∧ w < 4))]) rfl rfl rfl rfl rfl rfl (rfl) (fd_s_isWay M w (by omega)) rfl (by omega) ?_
    refine fd_u_br (C := fd_c6) (t := 10) (e := 8) (st' := []) (c := ¬ (fd_bi (0 ≤ w ∧ w < 4)) = 0) (b := (fd_rng (fd_bi (0 ≤ w ∧ w < 4)))) rfl rfl rfl (fd_biR) (fun h7 => ?_) (fun h7 => ?_)
    · have h7 := fd_biT.mp h7
      refine fd_u_blk 8 (C := fd_c6) (b := (fd_inb d 6 && true)) (L' := [fd_R 0, fd_I d, fd_I w, fd_I (M 17 (d).toNat)]) (st' := [fd_I w, fd_I (M 17 (d).toNat)]) (M' := M) rfl rfl (j := 18) rfl (fd_bA (fd_bI (by omega) (by omega)) (rfl)) ?_
      refine fd_u_br (C := fd_c6) (t := 21) (e := 19) (st' := []) (c := ¬ (M 17 (d).toNat) = w) (b := (fd_rng (M 17 (d).toNat) && fd_rng w)) rfl rfl rfl (fd_bA (fd_bR (by omega) (by omega)) (fd_bR (by omega) (by omega))) (fun h18 => ?_) (fun h18 => ?_)
      · refine fd_u_blk 4 (C := fd_c6) (b := true) (L' := [fd_R 0, fd_I d, fd_I w, fd_I (M 17 (d).toNat)]) (st' := [fd_R 14, fd_R 19]) (M' := M) rfl rfl (j := 25) rfl (rfl) ?_
        refine fd_u_call (C := fd_c6) (d0 := 2) (mid := 113) (np := 2) (args := [fd_R 19, fd_R 14]) (r1 := none) (M1 := (fd_push M)) (st' := []) rfl rfl rfl rfl rfl rfl (rfl) (fd_s_push M hs h19 hp6 hp7) rfl (by omega) ?_
        refine fd_u_blk 7 (C := fd_c6) (b := (fd_inb d 6 && true)) (L' := [fd_R 0, fd_I d, fd_I w, fd_I (M 17 (d).toNat)]) (st' := [fd_I (M 17 (d).toNat)]) (M' := (fd_up (fd_push M) 17 (d).toNat w)) rfl rfl (j := 33) rfl (fd_bA (fd_bI (by omega) (by omega)) (rfl)) ?_
        refine fd_u_ret (C := fd_c6) (b := true) (r' := some (fd_I (M 17 (d).toNat))) rfl rfl rfl (rfl) ?_ ?_
        · rw [fd_X_hinges, if_neg (show ¬ ¬ (0 ≤ d ∧ d < M 3 2 ∧ 0 ≤ w ∧ w < 4) by omega), if_neg (show ¬ (M 17 d.toNat = w) by omega)]
        · rw [fd_Y_hinges, if_neg (show ¬ ¬ (0 ≤ d ∧ d < M 3 2 ∧ 0 ≤ w ∧ w < 4) by omega), if_neg (show ¬ (M 17 d.toNat = w) by omega)]
      · refine fd_u_blk 1 (C := fd_c6) (b := true) (L' := [fd_R 0, fd_I d, fd_I w, fd_I (M 17 (d).toNat)]) (st' := [fd_I (-2)]) (M' := M) rfl rfl (j := 20) rfl (rfl) ?_
        refine fd_u_ret (C := fd_c6) (b := true) (r' := some (fd_I (-2))) rfl rfl rfl (rfl) ?_ ?_
        · rw [fd_X_hinges, if_neg (show ¬ ¬ (0 ≤ d ∧ d < M 3 2 ∧ 0 ≤ w ∧ w < 4) by omega), if_pos (show M 17 d.toNat = w by omega)]
        · rw [fd_Y_hinges, if_neg (show ¬ ¬ (0 ≤ d ∧ d < M 3 2 ∧ 0 ≤ w ∧ w < 4) by omega), if_pos (show M 17 d.toNat = w by omega)]
    · have h7 := fd_biF2  h7
      refine fd_u_blk 1 (C := fd_c6) (b := true) (L' := [fd_R 0, fd_I d, fd_I w, fd_R 1003]) (st' := [fd_I (-1)]) (M' := M) rfl rfl (j := 9) rfl (rfl) ?_
      refine fd_u_ret (C := fd_c6) (b := true) (r' := some (fd_I (-1))) rfl rfl rfl (rfl) ?_ ?_
      · rw [fd_X_hinges, if_pos (show ¬ (0 ≤ d ∧ d < M 3 2 ∧ 0 ≤ w ∧ w < 4) by omega)]
      · rw [fd_Y_hinges, if_pos (show ¬ (0 ≤ d ∧ d < M 3 2 ∧ 0 ≤ w ∧ w < 4) by omega)]

def fd_X_moves (M : fd_M) (d w : Int) : Int := if ¬ (0 ≤ d ∧ d < M 3 2 ∧ 0 ≤ w ∧ w < 4) then -1 else if ¬ fd_cvC M (M 15 d.toNat + fd_sx w) (M 16 d.toNat + fd_sy w) = 0 then -2 else fd_push M 19 1
def fd_Y_moves (M : fd_M) (d w : Int) : fd_M := if ¬ (0 ≤ d ∧ d < M 3 2 ∧ 0 ≤ w ∧ w < 4) then M else if ¬ fd_cvC M (M 15 d.toNat + fd_sx w) (M 16 d.toNat + fd_sy w) = 0 then M else (fd_up (fd_up (fd_push M) 15 d.toNat (M 15 d.toNat + fd_sx w)) 16 d.toNat (M 16 d.toNat + fd_sy w))
theorem fd_x_moves (M : fd_M) (hG : fd_CG M) (hs : fd_HS M) (h19 : 0 ≤ M 19 1 ∧ M 19 1 ≤ 10) (d : Int) (hd : -2147483648 ≤ d ∧ d < 2147483648) (w : Int) (hw : -2147483648 ≤ w ∧ w < 2147483648) : fd_call 4 7 [fd_R 0, fd_I d, fd_I w] M (some (fd_I (fd_X_moves M d w))) (fd_Y_moves M d w) := by
  refine fd_u_in (L := [fd_R 0, fd_I d, fd_I w, fd_R 1003, fd_R 1003]) rfl ?_
  obtain ⟨g0, g1, g2, g3, g4, g5⟩ := hG.1
  obtain ⟨s1, s2, s3, s4, s5, s6, s7, s8⟩ := hG.2
  have q1 := s1 d.toNat
  have q2 := s2 d.toNat
  have q3 := s3 d.toNat
  have q4 := s4 d.toNat
  simp only [Nat.reduceAdd] at q1 q2 q3 q4
  have hp6 : 0 ≤ M 14 6 ∧ M 14 6 ≤ 1 := hG.2.2.2.2.2.2.2.1
  have hp7 : 0 ≤ M 14 7 ∧ M 14 7 ≤ 1 := hG.2.2.2.2.2.2.2.2
  have hP := fd_CG_push hG hs h19
  have qx := fd_sx_rng w
  have qy := fd_sy_rng w
  have hz := fd_push_sz hs h19
  refine fd_u_blk 3 (C := fd_c7) (b := true) (L' := [fd_R 0, fd_I d, fd_I w, fd_R 1003, fd_R 1003]) (st' := [fd_I d, fd_R 3]) (M' := M) rfl rfl (j := 3) rfl (rfl) ?_
  refine fd_u_call (C := fd_c7) (d0 := 0) (mid := 124) (np := 2) (args := [fd_R 3, fd_I d]) (r1 := some (fd_I (fd_bi (0 ≤ d ∧ d < M 3 2)))) (M1 := M) (st' := [fd_I (fd_bi (0 ≤ d ∧ d < M 3 2))]) rfl rfl rfl rfl rfl rfl (rfl) (fd_s_hasDoor M d (by omega) (by omega)) rfl (by omega) ?_
  refine fd_u_br (C := fd_c7) (t := 8) (e := 5) (st' := []) (c := (fd_bi (0 ≤ d ∧ d < M 3 2)) = 0) (b := (fd_rng (fd_bi (0 ≤ d ∧ d < M 3 2)))) rfl rfl rfl (fd_biR) (fun h4 => ?_) (fun h4 => ?_)
  · have h4 := fd_biF.mp h4
    refine fd_u_blk 1 (C := fd_c7) (b := true) (L' := [fd_R 0, fd_I d, fd_I w, fd_R 1003, fd_R 1003]) (st' := [fd_I (-1)]) (M' := M) rfl rfl (j := 9) rfl (rfl) ?_
    refine fd_u_ret (C := fd_c7) (b := true) (r' := some (fd_I (-1))) rfl rfl rfl (rfl) ?_ ?_
    · rw [fd_X_moves, if_pos (show ¬ (0 ≤ d ∧ d < M 3 2 ∧ 0 ≤ w ∧ w < 4) by omega)]
    · rw [fd_Y_moves, if_pos (show ¬ (0 ≤ d ∧ d < M 3 2 ∧ 0 ≤ w ∧ w < 4) by omega)]
  · have h4 := fd_biT.mp h4
    refine fd_u_blk 1 (C := fd_c7) (b := true) (L' := [fd_R 0, fd_I d, fd_I w, fd_R 1003, fd_R 1003]) (st' := [fd_I w]) (M' := M) rfl rfl (j := 6) rfl (rfl) ?_
    refine fd_u_call (C := fd_c7) (d0 := 0) (mid := 38) (np := 1) (args := [fd_I w]) (r1 := some (fd_I (fd_bi (0 ≤ w ∧ w < 4)))) (M1 := M) (st' := [fd_I (fd_bi (0 ≤ w ∧ w < 4))]) rfl rfl rfl rfl rfl rfl (rfl) (fd_s_isWay M w (by omega)) rfl (by omega) ?_
    refine fd_u_br (C := fd_c7) (t := 10) (e := 8) (st' := []) (c := ¬ (fd_bi (0 ≤ w ∧ w < 4)) = 0) (b := (fd_rng (fd_bi (0 ≤ w ∧ w < 4)))) rfl rfl rfl (fd_biR) (fun h7 => ?_) (fun h7 => ?_)
    · have h7 := fd_biT.mp h7
      refine fd_u_blk 24 (C := fd_c7) (b := (fd_inb d 6 && (fd_inb w 4 && (fd_inb d 6 && (fd_inb w 4 && true))))) (L' := [fd_R 0, fd_I d, fd_I w, fd_I ((M 15 (d).toNat) + (fd_sx w)), fd_I ((M 16 (d).toNat) + (fd_sy w))]) (st' := [fd_I ((M 16 (d).toNat) + (fd_sy w)), fd_I ((M 15 (d).toNat) + (fd_sx w)), fd_R 72]) (M' := M) rfl rfl (j := 34) rfl (fd_bA (fd_bI (by omega) (by omega)) (fd_bA (fd_bI (by omega) (by omega)) (fd_bA (fd_bI (by omega) (by omega)) (fd_bA (fd_bI (by omega) (by omega)) (rfl))))) ?_
      refine fd_u_call (C := fd_c7) (d0 := 3) (mid := 150) (np := 3) (args := [fd_R 72, fd_I ((M 15 (d).toNat) + (fd_sx w)), fd_I ((M 16 (d).toNat) + (fd_sy w))]) (r1 := some (fd_I (fd_bi (fd_cvC M ((M 15 (d).toNat) + (fd_sx w)) ((M 16 (d).toNat) + (fd_sy w)) = 0)))) (M1 := M) (st' := [fd_I (fd_bi (fd_cvC M ((M 15 (d).toNat) + (fd_sx w)) ((M 16 (d).toNat) + (fd_sy w)) = 0))]) rfl rfl rfl rfl rfl rfl (rfl) (fd_s_isVacant M hG ((M 15 (d).toNat) + (fd_sx w)) ((M 16 (d).toNat) + (fd_sy w)) (by omega) (by omega)) rfl (by omega) ?_
      refine fd_u_br (C := fd_c7) (t := 38) (e := 36) (st' := []) (c := ¬ (fd_bi (fd_cvC M ((M 15 (d).toNat) + (fd_sx w)) ((M 16 (d).toNat) + (fd_sy w)) = 0)) = 0) (b := (fd_rng (fd_bi (fd_cvC M ((M 15 (d).toNat) + (fd_sx w)) ((M 16 (d).toNat) + (fd_sy w)) = 0)))) rfl rfl rfl (fd_biR) (fun h35 => ?_) (fun h35 => ?_)
      · have h35 := fd_biT.mp h35
        refine fd_u_blk 4 (C := fd_c7) (b := true) (L' := [fd_R 0, fd_I d, fd_I w, fd_I ((M 15 (d).toNat) + (fd_sx w)), fd_I ((M 16 (d).toNat) + (fd_sy w))]) (st' := [fd_R 14, fd_R 19]) (M' := M) rfl rfl (j := 42) rfl (rfl) ?_
        refine fd_u_call (C := fd_c7) (d0 := 2) (mid := 113) (np := 2) (args := [fd_R 19, fd_R 14]) (r1 := none) (M1 := (fd_push M)) (st' := []) rfl rfl rfl rfl rfl rfl (rfl) (fd_s_push M hs h19 hp6 hp7) rfl (by omega) ?_
        refine fd_u_blk 15 (C := fd_c7) (b := (fd_inb d 6 && (fd_inb d 6 && true))) (L' := [fd_R 0, fd_I d, fd_I w, fd_I ((M 15 (d).toNat) + (fd_sx w)), fd_I ((M 16 (d).toNat) + (fd_sy w))]) (st' := [fd_I ((fd_push M) 19 1)]) (M' := (fd_up (fd_up (fd_push M) 15 (d).toNat ((M 15 (d).toNat) + (fd_sx w))) 16 (d).toNat ((M 16 (d).toNat) + (fd_sy w)))) rfl rfl (j := 58) rfl (fd_bA (fd_bI (by omega) (by omega)) (fd_bA (fd_bI (by omega) (by omega)) (rfl))) ?_
        refine fd_u_ret (C := fd_c7) (b := true) (r' := some (fd_I ((fd_push M) 19 1))) rfl rfl rfl (rfl) ?_ ?_
        · rw [fd_X_moves, if_neg (show ¬ ¬ (0 ≤ d ∧ d < M 3 2 ∧ 0 ≤ w ∧ w < 4) by omega), if_neg (show ¬ (¬ fd_cvC M (M 15 d.toNat + fd_sx w) (M 16 d.toNat + fd_sy w) = 0) by omega)]
        · rw [fd_Y_moves, if_neg (show ¬ ¬ (0 ≤ d ∧ d < M 3 2 ∧ 0 ≤ w ∧ w < 4) by omega), if_neg (show ¬ (¬ fd_cvC M (M 15 d.toNat + fd_sx w) (M 16 d.toNat + fd_sy w) = 0) by omega)]
      · have h35 := fd_biF2  h35
        refine fd_u_blk 1 (C := fd_c7) (b := true) (L' := [fd_R 0, fd_I d, fd_I w, fd_I ((M 15 (d).toNat) + (fd_sx w)), fd_I ((M 16 (d).toNat) + (fd_sy w))]) (st' := [fd_I (-2)]) (M' := M) rfl rfl (j := 37) rfl (rfl) ?_
        refine fd_u_ret (C := fd_c7) (b := true) (r' := some (fd_I (-2))) rfl rfl rfl (rfl) ?_ ?_
        · rw [fd_X_moves, if_neg (show ¬ ¬ (0 ≤ d ∧ d < M 3 2 ∧ 0 ≤ w ∧ w < 4) by omega), if_pos (show ¬ fd_cvC M (M 15 d.toNat + fd_sx w) (M 16 d.toNat + fd_sy w) = 0 by omega)]
        · rw [fd_Y_moves, if_neg (show ¬ ¬ (0 ≤ d ∧ d < M 3 2 ∧ 0 ≤ w ∧ w < 4) by omega), if_pos (show ¬ fd_cvC M (M 15 d.toNat + fd_sx w) (M 16 d.toNat + fd_sy w) = 0 by omega)]
    · have h7 := fd_biF2  h7
      refine fd_u_blk 1 (C := fd_c7) (b := true) (L' := [fd_R 0, fd_I d, fd_I w, fd_R 1003, fd_R 1003]) (st' := [fd_I (-1)]) (M' := M) rfl rfl (j := 9) rfl (rfl) ?_
      refine fd_u_ret (C := fd_c7) (b := true) (r' := some (fd_I (-1))) rfl rfl rfl (rfl) ?_ ?_
      · rw [fd_X_moves, if_pos (show ¬ (0 ≤ d ∧ d < M 3 2 ∧ 0 ≤ w ∧ w < 4) by omega)]
      · rw [fd_Y_moves, if_pos (show ¬ (0 ≤ d ∧ d < M 3 2 ∧ 0 ≤ w ∧ w < 4) by omega)]

def fd_X_opens (M : fd_M) (d w : Int) : Int := if ¬ (0 ≤ d ∧ d < M 3 2 ∧ (w = 0 ∨ w = 1)) then -1 else if fd_bi (M 14 4 / 2 ^ d.toNat % 2 = 1) = w then -2 else fd_dueC (fd_up (fd_push M) 14 4 (fd_xor (M 14 4) (2 ^ d.toNat))) d.toNat
def fd_Y_opens (M : fd_M) (d w : Int) : fd_M := if ¬ (0 ≤ d ∧ d < M 3 2 ∧ (w = 0 ∨ w = 1)) then M else if fd_bi (M 14 4 / 2 ^ d.toNat % 2 = 1) = w then M else (fd_up (fd_push M) 14 4 (fd_xor (M 14 4) (2 ^ d.toNat)))
theorem fd_f_opens (M : fd_M) (hG : fd_CG M) (d : Int) (hd : 0 ≤ d ∧ d < 6) (u : fd_V) : fd_run 7 8 32 [fd_R 0, fd_I d, u] [] M (some (fd_I (fd_dueC M d.toNat))) M := by
  refine fd_u_blk 3 (C := fd_c8) (b := true) (L' := [fd_R 0, fd_I d, u]) (st' := [fd_I d, fd_R 72]) (M' := M) rfl rfl (j := 35) rfl (rfl) ?_
  refine fd_u_call (C := fd_c8) (d0 := 6) (mid := 156) (np := 2) (args := [fd_R 72, fd_I d]) (r1 := some (fd_I (fd_dueC M (d).toNat))) (M1 := M) (st' := [fd_I (fd_dueC M (d).toNat)]) rfl rfl rfl rfl rfl rfl (rfl) (fd_s_dueOf M hG d (by omega)) rfl (by omega) ?_
  have qo := fd_due_rng (wy := M 17) hG.1.2.2.2.1 (fd_sw M (d).toNat) (d).toNat
  refine fd_u_ret (C := fd_c8) (b := true) (r' := some (fd_I (fd_dueC M (d).toNat))) rfl rfl rfl (rfl) ?_ ?_
  · rfl
  · rfl

theorem fd_x_opens (M : fd_M) (hG : fd_CG M) (hs : fd_HS M) (h19 : 0 ≤ M 19 1 ∧ M 19 1 ≤ 10) (d : Int) (hd : -2147483648 ≤ d ∧ d < 2147483648) (w : Int) (hw : -2147483648 ≤ w ∧ w < 2147483648) : fd_call 7 8 [fd_R 0, fd_I d, fd_I w] M (some (fd_I (fd_X_opens M d w))) (fd_Y_opens M d w) := by
  refine fd_u_in (L := [fd_R 0, fd_I d, fd_I w]) rfl ?_
  obtain ⟨g0, g1, g2, g3, g4, g5⟩ := hG.1
  obtain ⟨s1, s2, s3, s4, s5, s6, s7, s8⟩ := hG.2
  have q1 := s1 d.toNat
  have q2 := s2 d.toNat
  have q3 := s3 d.toNat
  have q4 := s4 d.toNat
  simp only [Nat.reduceAdd] at q1 q2 q3 q4
  have hp6 : 0 ≤ M 14 6 ∧ M 14 6 ≤ 1 := hG.2.2.2.2.2.2.2.1
  have hp7 : 0 ≤ M 14 7 ∧ M 14 7 ≤ 1 := hG.2.2.2.2.2.2.2.2
  have hP := fd_CG_push hG hs h19
  have f14 : fd_push M 14 = M 14 := fd_push_fr hs h19 (by omega)
  have qb := fd_bi_rng (M 14 4 / 2 ^ d.toNat % 2 = 1)
  refine fd_u_blk 3 (C := fd_c8) (b := true) (L' := [fd_R 0, fd_I d, fd_I w]) (st' := [fd_I d, fd_R 3]) (M' := M) rfl rfl (j := 3) rfl (rfl) ?_
  refine fd_u_call (C := fd_c8) (d0 := 0) (mid := 124) (np := 2) (args := [fd_R 3, fd_I d]) (r1 := some (fd_I (fd_bi (0 ≤ d ∧ d < M 3 2)))) (M1 := M) (st' := [fd_I (fd_bi (0 ≤ d ∧ d < M 3 2))]) rfl rfl rfl rfl rfl rfl (rfl) (fd_s_hasDoor M d (by omega) (by omega)) rfl (by omega) ?_
  refine fd_u_br (C := fd_c8) (t := 8) (e := 5) (st' := []) (c := (fd_bi (0 ≤ d ∧ d < M 3 2)) = 0) (b := (fd_rng (fd_bi (0 ≤ d ∧ d < M 3 2)))) rfl rfl rfl (fd_biR) (fun h4 => ?_) (fun h4 => ?_)
  · have h4 := fd_biF.mp h4
    refine fd_u_blk 1 (C := fd_c8) (b := true) (L' := [fd_R 0, fd_I d, fd_I w]) (st' := [fd_I (-1)]) (M' := M) rfl rfl (j := 9) rfl (rfl) ?_
    refine fd_u_ret (C := fd_c8) (b := true) (r' := some (fd_I (-1))) rfl rfl rfl (rfl) ?_ ?_
    · rw [fd_X_opens, if_pos (show ¬ (0 ≤ d ∧ d < M 3 2 ∧ (w = 0 ∨ w = 1)) by omega)]
    · rw [fd_Y_opens, if_pos (show ¬ (0 ≤ d ∧ d < M 3 2 ∧ (w = 0 ∨ w = 1)) by omega)]
  · have h4 := fd_biT.mp h4
    refine fd_u_blk 1 (C := fd_c8) (b := true) (L' := [fd_R 0, fd_I d, fd_I w]) (st' := [fd_I w]) (M' := M) rfl rfl (j := 6) rfl (rfl) ?_
    refine fd_u_call (C := fd_c8) (d0 := 0) (mid := 39) (np := 1) (args := [fd_I w]) (r1 := some (fd_I (fd_bi (w = 0 ∨ w = 1)))) (M1 := M) (st' := [fd_I (fd_bi (w = 0 ∨ w = 1))]) rfl rfl rfl rfl rfl rfl (rfl) (fd_s_isFlag M w (by omega)) rfl (by omega) ?_
    refine fd_u_br (C := fd_c8) (t := 10) (e := 8) (st' := []) (c := ¬ (fd_bi (w = 0 ∨ w = 1)) = 0) (b := (fd_rng (fd_bi (w = 0 ∨ w = 1)))) rfl rfl rfl (fd_biR) (fun h7 => ?_) (fun h7 => ?_)
    · have h7 := fd_biT.mp h7
      refine fd_u_blk 3 (C := fd_c8) (b := true) (L' := [fd_R 0, fd_I d, fd_I w]) (st' := [fd_I d, fd_R 14]) (M' := M) rfl rfl (j := 13) rfl (rfl) ?_
      refine fd_u_call (C := fd_c8) (d0 := 1) (mid := 144) (np := 2) (args := [fd_R 14, fd_I d]) (r1 := some (fd_I (fd_bi (M 14 4 / 2 ^ (d).toNat % 2 = 1)))) (M1 := M) (st' := [fd_I (fd_bi (M 14 4 / 2 ^ (d).toNat % 2 = 1))]) rfl rfl rfl rfl rfl rfl (rfl) (fd_s_isOpen M hG d (by omega)) rfl (by omega) ?_
      refine fd_u_call (C := fd_c8) (d0 := 0) (mid := 43) (np := 1) (args := [fd_I (fd_bi (M 14 4 / 2 ^ (d).toNat % 2 = 1))]) (r1 := some (fd_I (fd_bi (M 14 4 / 2 ^ (d).toNat % 2 = 1)))) (M1 := M) (st' := [fd_I (fd_bi (M 14 4 / 2 ^ (d).toNat % 2 = 1))]) rfl rfl rfl rfl rfl rfl (rfl) (fd_s_flag M (fd_bi (M 14 4 / 2 ^ (d).toNat % 2 = 1)) (fd_bi_rng _)) rfl (by omega) ?_
      refine fd_u_blk 1 (C := fd_c8) (b := true) (L' := [fd_R 0, fd_I d, fd_I w]) (st' := [fd_I w, fd_I (fd_bi (M 14 4 / 2 ^ (d).toNat % 2 = 1))]) (M' := M) rfl rfl (j := 16) rfl (rfl) ?_
      refine fd_u_br (C := fd_c8) (t := 19) (e := 17) (st' := []) (c := ¬ (fd_bi (M 14 4 / 2 ^ (d).toNat % 2 = 1)) = w) (b := (fd_rng (fd_bi (M 14 4 / 2 ^ (d).toNat % 2 = 1)) && fd_rng w)) rfl rfl rfl (fd_bA (fd_biR) (fd_bR (by omega) (by omega))) (fun h16 => ?_) (fun h16 => ?_)
      · refine fd_u_blk 4 (C := fd_c8) (b := true) (L' := [fd_R 0, fd_I d, fd_I w]) (st' := [fd_R 14, fd_R 19]) (M' := M) rfl rfl (j := 23) rfl (rfl) ?_
        refine fd_u_call (C := fd_c8) (d0 := 2) (mid := 113) (np := 2) (args := [fd_R 19, fd_R 14]) (r1 := none) (M1 := (fd_push M)) (st' := []) rfl rfl rfl rfl rfl rfl (rfl) (fd_s_push M hs h19 hp6 hp7) rfl (by omega) ?_
        refine fd_u_blk 5 (C := fd_c8) (b := true) (L' := [fd_R 0, fd_I d, fd_I w]) (st' := [fd_I d, fd_I ((fd_push M) 14 4), fd_R 14]) (M' := (fd_push M)) rfl rfl (j := 29) rfl (rfl) ?_
        refine fd_u_call (C := fd_c8) (d0 := 0) (mid := 45) (np := 1) (args := [fd_I d]) (r1 := some (fd_I (if d = -1 then 0 else 2 ^ (d).toNat))) (M1 := (fd_push M)) (st' := [fd_I (if d = -1 then 0 else 2 ^ (d).toNat), fd_I ((fd_push M) 14 4), fd_R 14]) rfl rfl rfl rfl rfl rfl (rfl) (fd_s_bitOf (fd_push M) d (by omega)) rfl (by omega) ?_
        refine fd_u_blk 2 (C := fd_c8) (b := true) (L' := [fd_R 0, fd_I d, fd_I w]) (st' := []) (M' := (fd_up (fd_push M) 14 4 (fd_xor ((fd_push M) 14 4) (if d = -1 then 0 else 2 ^ (d).toNat)))) rfl rfl (j := 32) rfl (rfl) ?_
        rw [fd_X_opens, fd_Y_opens, if_neg (show ¬ ¬ (0 ≤ d ∧ d < M 3 2 ∧ (w = 0 ∨ w = 1)) by omega), if_neg (show ¬ (fd_bi (M 14 4 / 2 ^ d.toNat % 2 = 1) = w) by omega), if_neg (show ¬ ¬ (0 ≤ d ∧ d < M 3 2 ∧ (w = 0 ∨ w = 1)) by omega), if_neg (show ¬ (fd_bi (M 14 4 / 2 ^ d.toNat % 2 = 1) = w) by omega)]
        rw [if_neg (show ¬ d = -1 by omega), f14]
        exact fd_f_opens _ (fd_CG_4 hP (fd_xor_rng (by omega) (by omega))) d (by omega) _
      · refine fd_u_blk 1 (C := fd_c8) (b := true) (L' := [fd_R 0, fd_I d, fd_I w]) (st' := [fd_I (-2)]) (M' := M) rfl rfl (j := 18) rfl (rfl) ?_
        refine fd_u_ret (C := fd_c8) (b := true) (r' := some (fd_I (-2))) rfl rfl rfl (rfl) ?_ ?_
        · rw [fd_X_opens, if_neg (show ¬ ¬ (0 ≤ d ∧ d < M 3 2 ∧ (w = 0 ∨ w = 1)) by omega), if_pos (show fd_bi (M 14 4 / 2 ^ d.toNat % 2 = 1) = w by omega)]
        · rw [fd_Y_opens, if_neg (show ¬ ¬ (0 ≤ d ∧ d < M 3 2 ∧ (w = 0 ∨ w = 1)) by omega), if_pos (show fd_bi (M 14 4 / 2 ^ d.toNat % 2 = 1) = w by omega)]
    · have h7 := fd_biF2  h7
      refine fd_u_blk 1 (C := fd_c8) (b := true) (L' := [fd_R 0, fd_I d, fd_I w]) (st' := [fd_I (-1)]) (M' := M) rfl rfl (j := 9) rfl (rfl) ?_
      refine fd_u_ret (C := fd_c8) (b := true) (r' := some (fd_I (-1))) rfl rfl rfl (rfl) ?_ ?_
      · rw [fd_X_opens, if_pos (show ¬ (0 ≤ d ∧ d < M 3 2 ∧ (w = 0 ∨ w = 1)) by omega)]
      · rw [fd_Y_opens, if_pos (show ¬ (0 ≤ d ∧ d < M 3 2 ∧ (w = 0 ∨ w = 1)) by omega)]

def fd_X_leaf (M : fd_M) (w : Int) : Int := if ¬ (w = 0 ∨ w = 1) then -1 else if M 14 6 = w then -2 else fd_sum (fd_dueC (fd_up (fd_push M) 14 6 w)) (M 3 2).toNat
def fd_Y_leaf (M : fd_M) (w : Int) : fd_M := if ¬ (w = 0 ∨ w = 1) then M else if M 14 6 = w then M else (fd_up (fd_push M) 14 6 w)
theorem fd_f_leaf (M : fd_M) (hG : fd_CG M) (u : fd_V) : fd_run 8 10 27 [fd_R 0, u] [] M (some (fd_I (fd_sum (fd_dueC M) (M 3 2).toNat))) M := by
  refine fd_u_blk 2 (C := fd_c10) (b := true) (L' := [fd_R 0, u]) (st' := [fd_R 72]) (M' := M) rfl rfl (j := 29) rfl (rfl) ?_
  refine fd_u_call (C := fd_c10) (d0 := 7) (mid := 157) (np := 1) (args := [fd_R 72]) (r1 := some (fd_I (fd_sum (fd_dueC M) (M 3 2).toNat))) (M1 := M) (st' := [fd_I (fd_sum (fd_dueC M) (M 3 2).toNat)]) rfl rfl rfl rfl rfl rfl (rfl) (fd_s_dueOfAll M hG) rfl (by omega) ?_
  refine fd_u_ret (C := fd_c10) (b := true) (r' := some (fd_I (fd_sum (fd_dueC M) (M 3 2).toNat))) rfl rfl rfl (rfl) ?_ ?_
  · rfl
  · rfl

theorem fd_x_leaf (M : fd_M) (hG : fd_CG M) (hs : fd_HS M) (h19 : 0 ≤ M 19 1 ∧ M 19 1 ≤ 10) (w : Int) (hw : -2147483648 ≤ w ∧ w < 2147483648) : fd_call 8 10 [fd_R 0, fd_I w] M (some (fd_I (fd_X_leaf M w))) (fd_Y_leaf M w) := by
  refine fd_u_in (L := [fd_R 0, fd_I w]) rfl ?_
  obtain ⟨g0, g1, g2, g3, g4, g5⟩ := hG.1
  obtain ⟨s1, s2, s3, s4, s5, s6, s7, s8⟩ := hG.2
  have hp6 : 0 ≤ M 14 6 ∧ M 14 6 ≤ 1 := hG.2.2.2.2.2.2.2.1
  have hp7 : 0 ≤ M 14 7 ∧ M 14 7 ≤ 1 := hG.2.2.2.2.2.2.2.2
  have hP := fd_CG_push hG hs h19
  have f3 : fd_push M 3 = M 3 := fd_push_fr hs h19 (by omega)
  refine fd_u_blk 1 (C := fd_c10) (b := true) (L' := [fd_R 0, fd_I w]) (st' := [fd_I w]) (M' := M) rfl rfl (j := 1) rfl (rfl) ?_
  refine fd_u_call (C := fd_c10) (d0 := 0) (mid := 39) (np := 1) (args := [fd_I w]) (r1 := some (fd_I (fd_bi (w = 0 ∨ w = 1)))) (M1 := M) (st' := [fd_I (fd_bi (w = 0 ∨ w = 1))]) rfl rfl rfl rfl rfl rfl (rfl) (fd_s_isFlag M w (by omega)) rfl (by omega) ?_
  refine fd_u_br (C := fd_c10) (t := 5) (e := 3) (st' := []) (c := ¬ (fd_bi (w = 0 ∨ w = 1)) = 0) (b := (fd_rng (fd_bi (w = 0 ∨ w = 1)))) rfl rfl rfl (fd_biR) (fun h2 => ?_) (fun h2 => ?_)
  · have h2 := fd_biT.mp h2
    refine fd_u_blk 3 (C := fd_c10) (b := true) (L' := [fd_R 0, fd_I w]) (st' := [fd_I (M 14 6)]) (M' := M) rfl rfl (j := 8) rfl (rfl) ?_
    refine fd_u_call (C := fd_c10) (d0 := 0) (mid := 43) (np := 1) (args := [fd_I (M 14 6)]) (r1 := some (fd_I (M 14 6))) (M1 := M) (st' := [fd_I (M 14 6)]) rfl rfl rfl rfl rfl rfl (rfl) (fd_s_flag M (M 14 6) (by omega)) rfl (by omega) ?_
    refine fd_u_blk 1 (C := fd_c10) (b := true) (L' := [fd_R 0, fd_I w]) (st' := [fd_I w, fd_I (M 14 6)]) (M' := M) rfl rfl (j := 10) rfl (rfl) ?_
    refine fd_u_br (C := fd_c10) (t := 13) (e := 11) (st' := []) (c := ¬ (M 14 6) = w) (b := (fd_rng (M 14 6) && fd_rng w)) rfl rfl rfl (fd_bA (fd_bR (by omega) (by omega)) (fd_bR (by omega) (by omega))) (fun h10 => ?_) (fun h10 => ?_)
    · refine fd_u_blk 4 (C := fd_c10) (b := true) (L' := [fd_R 0, fd_I w]) (st' := [fd_R 14, fd_R 19]) (M' := M) rfl rfl (j := 17) rfl (rfl) ?_
      refine fd_u_call (C := fd_c10) (d0 := 2) (mid := 113) (np := 2) (args := [fd_R 19, fd_R 14]) (r1 := none) (M1 := (fd_push M)) (st' := []) rfl rfl rfl rfl rfl rfl (rfl) (fd_s_push M hs h19 hp6 hp7) rfl (by omega) ?_
      refine fd_u_blk 4 (C := fd_c10) (b := true) (L' := [fd_R 0, fd_I w]) (st' := [fd_I 1, fd_I w, fd_R 14]) (M' := (fd_push M)) rfl rfl (j := 22) rfl (rfl) ?_
      refine fd_u_br (C := fd_c10) (t := 25) (e := 23) (st' := [fd_R 14]) (c := ¬ w = 1) (b := (fd_rng w && fd_rng 1)) rfl rfl rfl (fd_bA (fd_bR (by omega) (by omega)) (fd_bR (by omega) (by omega))) (fun h22 => ?_) (fun h22 => ?_)
      · refine fd_u_blk 2 (C := fd_c10) (b := true) (L' := [fd_R 0, fd_I w]) (st' := []) (M' := (fd_up (fd_push M) 14 6 0)) rfl rfl (j := 27) rfl (rfl) ?_
        have ew : 0 = w := by omega
        rw [fd_X_leaf, fd_Y_leaf, if_neg (show ¬ ¬ (w = 0 ∨ w = 1) by omega), if_neg (show ¬ (M 14 6 = w) by omega), if_neg (show ¬ ¬ (w = 0 ∨ w = 1) by omega), if_neg (show ¬ (M 14 6 = w) by omega), ← ew]
        have z := fd_f_leaf (fd_up (fd_push M) 14 6 0) (fd_CG_6 hP (by omega)) (fd_I w)
        rw [fd_up_ne (c' := 3) (by omega), f3, ← ew] at z
        exact z
      · refine fd_u_blk 1 (C := fd_c10) (b := true) (L' := [fd_R 0, fd_I w]) (st' := [fd_I 1, fd_R 14]) (M' := (fd_push M)) rfl rfl (j := 24) rfl (rfl) ?_
        refine fd_u_jmp (C := fd_c10) (j := 26) (st' := [fd_I 1, fd_R 14]) rfl rfl (b := true) rfl rfl ?_
        refine fd_u_blk 1 (C := fd_c10) (b := true) (L' := [fd_R 0, fd_I w]) (st' := []) (M' := (fd_up (fd_push M) 14 6 1)) rfl rfl (j := 27) rfl (rfl) ?_
        have ew : 1 = w := by omega
        rw [fd_X_leaf, fd_Y_leaf, if_neg (show ¬ ¬ (w = 0 ∨ w = 1) by omega), if_neg (show ¬ (M 14 6 = w) by omega), if_neg (show ¬ ¬ (w = 0 ∨ w = 1) by omega), if_neg (show ¬ (M 14 6 = w) by omega), ← ew]
        have z := fd_f_leaf (fd_up (fd_push M) 14 6 1) (fd_CG_6 hP (by omega)) (fd_I w)
        rw [fd_up_ne (c' := 3) (by omega), f3, ← ew] at z
        exact z
    · refine fd_u_blk 1 (C := fd_c10) (b := true) (L' := [fd_R 0, fd_I w]) (st' := [fd_I (-2)]) (M' := M) rfl rfl (j := 12) rfl (rfl) ?_
      refine fd_u_ret (C := fd_c10) (b := true) (r' := some (fd_I (-2))) rfl rfl rfl (rfl) ?_ ?_
      · rw [fd_X_leaf, if_neg (show ¬ ¬ (w = 0 ∨ w = 1) by omega), if_pos (show M 14 6 = w by omega)]
      · rw [fd_Y_leaf, if_neg (show ¬ ¬ (w = 0 ∨ w = 1) by omega), if_pos (show M 14 6 = w by omega)]
  · have h2 := fd_biF2  h2
    refine fd_u_blk 1 (C := fd_c10) (b := true) (L' := [fd_R 0, fd_I w]) (st' := [fd_I (-1)]) (M' := M) rfl rfl (j := 4) rfl (rfl) ?_
    refine fd_u_ret (C := fd_c10) (b := true) (r' := some (fd_I (-1))) rfl rfl rfl (rfl) ?_ ?_
    · rw [fd_X_leaf, if_pos (show ¬ (w = 0 ∨ w = 1) by omega)]
    · rw [fd_Y_leaf, if_pos (show ¬ (w = 0 ∨ w = 1) by omega)]

def fd_X_fog (M : fd_M) (w : Int) : Int := if ¬ (w = 0 ∨ w = 1) then -1 else if M 14 7 = w then -2 else fd_sum (fd_dueC (fd_up (fd_push M) 14 7 w)) (M 3 2).toNat
def fd_Y_fog (M : fd_M) (w : Int) : fd_M := if ¬ (w = 0 ∨ w = 1) then M else if M 14 7 = w then M else (fd_up (fd_push M) 14 7 w)
theorem fd_f_fog (M : fd_M) (hG : fd_CG M) (u : fd_V) : fd_run 8 11 27 [fd_R 0, u] [] M (some (fd_I (fd_sum (fd_dueC M) (M 3 2).toNat))) M := by
  refine fd_u_blk 2 (C := fd_c11) (b := true) (L' := [fd_R 0, u]) (st' := [fd_R 72]) (M' := M) rfl rfl (j := 29) rfl (rfl) ?_
  refine fd_u_call (C := fd_c11) (d0 := 7) (mid := 157) (np := 1) (args := [fd_R 72]) (r1 := some (fd_I (fd_sum (fd_dueC M) (M 3 2).toNat))) (M1 := M) (st' := [fd_I (fd_sum (fd_dueC M) (M 3 2).toNat)]) rfl rfl rfl rfl rfl rfl (rfl) (fd_s_dueOfAll M hG) rfl (by omega) ?_
  refine fd_u_ret (C := fd_c11) (b := true) (r' := some (fd_I (fd_sum (fd_dueC M) (M 3 2).toNat))) rfl rfl rfl (rfl) ?_ ?_
  · rfl
  · rfl

theorem fd_x_fog (M : fd_M) (hG : fd_CG M) (hs : fd_HS M) (h19 : 0 ≤ M 19 1 ∧ M 19 1 ≤ 10) (w : Int) (hw : -2147483648 ≤ w ∧ w < 2147483648) : fd_call 8 11 [fd_R 0, fd_I w] M (some (fd_I (fd_X_fog M w))) (fd_Y_fog M w) := by
  refine fd_u_in (L := [fd_R 0, fd_I w]) rfl ?_
  obtain ⟨g0, g1, g2, g3, g4, g5⟩ := hG.1
  obtain ⟨s1, s2, s3, s4, s5, s6, s7, s8⟩ := hG.2
  have hp6 : 0 ≤ M 14 6 ∧ M 14 6 ≤ 1 := hG.2.2.2.2.2.2.2.1
  have hp7 : 0 ≤ M 14 7 ∧ M 14 7 ≤ 1 := hG.2.2.2.2.2.2.2.2
  have hP := fd_CG_push hG hs h19
  have f3 : fd_push M 3 = M 3 := fd_push_fr hs h19 (by omega)
  refine fd_u_blk 1 (C := fd_c11) (b := true) (L' := [fd_R 0, fd_I w]) (st' := [fd_I w]) (M' := M) rfl rfl (j := 1) rfl (rfl) ?_
  refine fd_u_call (C := fd_c11) (d0 := 0) (mid := 39) (np := 1) (args := [fd_I w]) (r1 := some (fd_I (fd_bi (w = 0 ∨ w = 1)))) (M1 := M) (st' := [fd_I (fd_bi (w = 0 ∨ w = 1))]) rfl rfl rfl rfl rfl rfl (rfl) (fd_s_isFlag M w (by omega)) rfl (by omega) ?_
  refine fd_u_br (C := fd_c11) (t := 5) (e := 3) (st' := []) (c := ¬ (fd_bi (w = 0 ∨ w = 1)) = 0) (b := (fd_rng (fd_bi (w = 0 ∨ w = 1)))) rfl rfl rfl (fd_biR) (fun h2 => ?_) (fun h2 => ?_)
  · have h2 := fd_biT.mp h2
    refine fd_u_blk 3 (C := fd_c11) (b := true) (L' := [fd_R 0, fd_I w]) (st' := [fd_I (M 14 7)]) (M' := M) rfl rfl (j := 8) rfl (rfl) ?_
    refine fd_u_call (C := fd_c11) (d0 := 0) (mid := 43) (np := 1) (args := [fd_I (M 14 7)]) (r1 := some (fd_I (M 14 7))) (M1 := M) (st' := [fd_I (M 14 7)]) rfl rfl rfl rfl rfl rfl (rfl) (fd_s_flag M (M 14 7) (by omega)) rfl (by omega) ?_
    refine fd_u_blk 1 (C := fd_c11) (b := true) (L' := [fd_R 0, fd_I w]) (st' := [fd_I w, fd_I (M 14 7)]) (M' := M) rfl rfl (j := 10) rfl (rfl) ?_
    refine fd_u_br (C := fd_c11) (t := 13) (e := 11) (st' := []) (c := ¬ (M 14 7) = w) (b := (fd_rng (M 14 7) && fd_rng w)) rfl rfl rfl (fd_bA (fd_bR (by omega) (by omega)) (fd_bR (by omega) (by omega))) (fun h10 => ?_) (fun h10 => ?_)
    · refine fd_u_blk 4 (C := fd_c11) (b := true) (L' := [fd_R 0, fd_I w]) (st' := [fd_R 14, fd_R 19]) (M' := M) rfl rfl (j := 17) rfl (rfl) ?_
      refine fd_u_call (C := fd_c11) (d0 := 2) (mid := 113) (np := 2) (args := [fd_R 19, fd_R 14]) (r1 := none) (M1 := (fd_push M)) (st' := []) rfl rfl rfl rfl rfl rfl (rfl) (fd_s_push M hs h19 hp6 hp7) rfl (by omega) ?_
      refine fd_u_blk 4 (C := fd_c11) (b := true) (L' := [fd_R 0, fd_I w]) (st' := [fd_I 1, fd_I w, fd_R 14]) (M' := (fd_push M)) rfl rfl (j := 22) rfl (rfl) ?_
      refine fd_u_br (C := fd_c11) (t := 25) (e := 23) (st' := [fd_R 14]) (c := ¬ w = 1) (b := (fd_rng w && fd_rng 1)) rfl rfl rfl (fd_bA (fd_bR (by omega) (by omega)) (fd_bR (by omega) (by omega))) (fun h22 => ?_) (fun h22 => ?_)
      · refine fd_u_blk 2 (C := fd_c11) (b := true) (L' := [fd_R 0, fd_I w]) (st' := []) (M' := (fd_up (fd_push M) 14 7 0)) rfl rfl (j := 27) rfl (rfl) ?_
        have ew : 0 = w := by omega
        rw [fd_X_fog, fd_Y_fog, if_neg (show ¬ ¬ (w = 0 ∨ w = 1) by omega), if_neg (show ¬ (M 14 7 = w) by omega), if_neg (show ¬ ¬ (w = 0 ∨ w = 1) by omega), if_neg (show ¬ (M 14 7 = w) by omega), ← ew]
        have z := fd_f_fog (fd_up (fd_push M) 14 7 0) (fd_CG_7 hP (by omega)) (fd_I w)
        rw [fd_up_ne (c' := 3) (by omega), f3, ← ew] at z
        exact z
      · refine fd_u_blk 1 (C := fd_c11) (b := true) (L' := [fd_R 0, fd_I w]) (st' := [fd_I 1, fd_R 14]) (M' := (fd_push M)) rfl rfl (j := 24) rfl (rfl) ?_
        refine fd_u_jmp (C := fd_c11) (j := 26) (st' := [fd_I 1, fd_R 14]) rfl rfl (b := true) rfl rfl ?_
        refine fd_u_blk 1 (C := fd_c11) (b := true) (L' := [fd_R 0, fd_I w]) (st' := []) (M' := (fd_up (fd_push M) 14 7 1)) rfl rfl (j := 27) rfl (rfl) ?_
        have ew : 1 = w := by omega
        rw [fd_X_fog, fd_Y_fog, if_neg (show ¬ ¬ (w = 0 ∨ w = 1) by omega), if_neg (show ¬ (M 14 7 = w) by omega), if_neg (show ¬ ¬ (w = 0 ∨ w = 1) by omega), if_neg (show ¬ (M 14 7 = w) by omega), ← ew]
        have z := fd_f_fog (fd_up (fd_push M) 14 7 1) (fd_CG_7 hP (by omega)) (fd_I w)
        rw [fd_up_ne (c' := 3) (by omega), f3, ← ew] at z
        exact z
    · refine fd_u_blk 1 (C := fd_c11) (b := true) (L' := [fd_R 0, fd_I w]) (st' := [fd_I (-2)]) (M' := M) rfl rfl (j := 12) rfl (rfl) ?_
      refine fd_u_ret (C := fd_c11) (b := true) (r' := some (fd_I (-2))) rfl rfl rfl (rfl) ?_ ?_
      · rw [fd_X_fog, if_neg (show ¬ ¬ (w = 0 ∨ w = 1) by omega), if_pos (show M 14 7 = w by omega)]
      · rw [fd_Y_fog, if_neg (show ¬ ¬ (w = 0 ∨ w = 1) by omega), if_pos (show M 14 7 = w by omega)]
  · have h2 := fd_biF2  h2
    refine fd_u_blk 1 (C := fd_c11) (b := true) (L' := [fd_R 0, fd_I w]) (st' := [fd_I (-1)]) (M' := M) rfl rfl (j := 4) rfl (rfl) ?_
    refine fd_u_ret (C := fd_c11) (b := true) (r' := some (fd_I (-1))) rfl rfl rfl (rfl) ?_ ?_
    · rw [fd_X_fog, if_pos (show ¬ (w = 0 ∨ w = 1) by omega)]
    · rw [fd_Y_fog, if_pos (show ¬ (w = 0 ∨ w = 1) by omega)]

def fd_X_cart (M : fd_M) (x y w : Int) : Int := if ¬ ((0 ≤ x ∧ x < M 3 0 ∧ 0 ≤ y ∧ y < M 3 1) ∧ (w = 0 ∨ w = 1)) then -1 else if ¬ (if w = 1 then fd_cvC M x y = 0 else M 14 5 / 2 ^ (y * 7 + x).toNat % 2 = 1) then -2 else fd_lbc (fd_lxor (M 14 5) (2 ^ (y * 7 + x).toNat))
def fd_Y_cart (M : fd_M) (x y w : Int) : fd_M := if ¬ ((0 ≤ x ∧ x < M 3 0 ∧ 0 ≤ y ∧ y < M 3 1) ∧ (w = 0 ∨ w = 1)) then M else if ¬ (if w = 1 then fd_cvC M x y = 0 else M 14 5 / 2 ^ (y * 7 + x).toNat % 2 = 1) then M else (fd_up (fd_push M) 14 5 (fd_lxor (M 14 5) (2 ^ (y * 7 + x).toNat)))
theorem fd_x_cart (M : fd_M) (hG : fd_CG M) (hs : fd_HS M) (h19 : 0 ≤ M 19 1 ∧ M 19 1 ≤ 10) (x y : Int) (hx : -2147483648 ≤ x ∧ x < 2147483648) (hy : -2147483648 ≤ y ∧ y < 2147483648) (w : Int) (hw : -2147483648 ≤ w ∧ w < 2147483648) : fd_call 5 9 [fd_R 0, fd_I x, fd_I y, fd_I w] M (some (fd_I (fd_X_cart M x y w))) (fd_Y_cart M x y w) := by
  refine fd_u_in (L := [fd_R 0, fd_I x, fd_I y, fd_I w, fd_R 1003]) rfl ?_
  obtain ⟨g0, g1, g2, g3, g4, g5⟩ := hG.1
  obtain ⟨s1, s2, s3, s4, s5, s6, s7, s8⟩ := hG.2
  have hp6 : 0 ≤ M 14 6 ∧ M 14 6 ≤ 1 := hG.2.2.2.2.2.2.2.1
  have hp7 : 0 ≤ M 14 7 ∧ M 14 7 ≤ 1 := hG.2.2.2.2.2.2.2.2
  have hP := fd_CG_push hG hs h19
  have f14 : fd_push M 14 = M 14 := fd_push_fr hs h19 (by omega)
  refine fd_u_blk 4 (C := fd_c9) (b := true) (L' := [fd_R 0, fd_I x, fd_I y, fd_I w, fd_R 1003]) (st' := [fd_I y, fd_I x, fd_R 3]) (M' := M) rfl rfl (j := 4) rfl (rfl) ?_
  refine fd_u_call (C := fd_c9) (d0 := 0) (mid := 123) (np := 3) (args := [fd_R 3, fd_I x, fd_I y]) (r1 := some (fd_I (fd_bi (0 ≤ x ∧ x < M 3 0 ∧ 0 ≤ y ∧ y < M 3 1)))) (M1 := M) (st' := [fd_I (fd_bi (0 ≤ x ∧ x < M 3 0 ∧ 0 ≤ y ∧ y < M 3 1))]) rfl rfl rfl rfl rfl rfl (rfl) (fd_s_hasCell M x y (by omega) (by omega) (by omega) (by omega)) rfl (by omega) ?_
  refine fd_u_br (C := fd_c9) (t := 9) (e := 6) (st' := []) (c := (fd_bi (0 ≤ x ∧ x < M 3 0 ∧ 0 ≤ y ∧ y < M 3 1)) = 0) (b := (fd_rng (fd_bi (0 ≤ x ∧ x < M 3 0 ∧ 0 ≤ y ∧ y < M 3 1)))) rfl rfl rfl (fd_biR) (fun h5 => ?_) (fun h5 => ?_)
  · have h5 := fd_biF.mp h5
    refine fd_u_blk 1 (C := fd_c9) (b := true) (L' := [fd_R 0, fd_I x, fd_I y, fd_I w, fd_R 1003]) (st' := [fd_I (-1)]) (M' := M) rfl rfl (j := 10) rfl (rfl) ?_
    refine fd_u_ret (C := fd_c9) (b := true) (r' := some (fd_I (-1))) rfl rfl rfl (rfl) ?_ ?_
    · rw [fd_X_cart, if_pos (show ¬ ((0 ≤ x ∧ x < M 3 0 ∧ 0 ≤ y ∧ y < M 3 1) ∧ (w = 0 ∨ w = 1)) by omega)]
    · rw [fd_Y_cart, if_pos (show ¬ ((0 ≤ x ∧ x < M 3 0 ∧ 0 ≤ y ∧ y < M 3 1) ∧ (w = 0 ∨ w = 1)) by omega)]
  · have h5 := fd_biT.mp h5
    refine fd_u_blk 1 (C := fd_c9) (b := true) (L' := [fd_R 0, fd_I x, fd_I y, fd_I w, fd_R 1003]) (st' := [fd_I w]) (M' := M) rfl rfl (j := 7) rfl (rfl) ?_
    refine fd_u_call (C := fd_c9) (d0 := 0) (mid := 39) (np := 1) (args := [fd_I w]) (r1 := some (fd_I (fd_bi (w = 0 ∨ w = 1)))) (M1 := M) (st' := [fd_I (fd_bi (w = 0 ∨ w = 1))]) rfl rfl rfl rfl rfl rfl (rfl) (fd_s_isFlag M w (by omega)) rfl (by omega) ?_
    refine fd_u_br (C := fd_c9) (t := 11) (e := 9) (st' := []) (c := ¬ (fd_bi (w = 0 ∨ w = 1)) = 0) (b := (fd_rng (fd_bi (w = 0 ∨ w = 1)))) rfl rfl rfl (fd_biR) (fun h8 => ?_) (fun h8 => ?_)
    · have h8 := fd_biT.mp h8
      refine fd_u_blk 2 (C := fd_c9) (b := true) (L' := [fd_R 0, fd_I x, fd_I y, fd_I w, fd_R 1003]) (st' := [fd_I 1, fd_I w]) (M' := M) rfl rfl (j := 13) rfl (rfl) ?_
      refine fd_u_br (C := fd_c9) (t := 20) (e := 14) (st' := []) (c := ¬ w = 1) (b := (fd_rng w && fd_rng 1)) rfl rfl rfl (fd_bA (fd_bR (by omega) (by omega)) (fd_bR (by omega) (by omega))) (fun h13 => ?_) (fun h13 => ?_)
      · refine fd_u_blk 4 (C := fd_c9) (b := true) (L' := [fd_R 0, fd_I x, fd_I y, fd_I w, fd_R 1003]) (st' := [fd_I y, fd_I x, fd_R 14]) (M' := M) rfl rfl (j := 24) rfl (rfl) ?_
        refine fd_u_call (C := fd_c9) (d0 := 2) (mid := 145) (np := 3) (args := [fd_R 14, fd_I x, fd_I y]) (r1 := some (fd_I (fd_bi (M 14 5 / 2 ^ (y * 7 + x).toNat % 2 = 1)))) (M1 := M) (st' := [fd_I (fd_bi (M 14 5 / 2 ^ (y * 7 + x).toNat % 2 = 1))]) rfl rfl rfl rfl rfl rfl (rfl) (fd_s_hasCart M hG x y (by omega) (by omega)) rfl (by omega) ?_
        refine fd_u_blk 2 (C := fd_c9) (b := true) (L' := [fd_R 0, fd_I x, fd_I y, fd_I w, fd_I (fd_bi (M 14 5 / 2 ^ (y * 7 + x).toNat % 2 = 1))]) (st' := [fd_I (fd_bi (M 14 5 / 2 ^ (y * 7 + x).toNat % 2 = 1))]) (M' := M) rfl rfl (j := 27) rfl (rfl) ?_
        refine fd_u_br (C := fd_c9) (t := 30) (e := 28) (st' := []) (c := ¬ (fd_bi (M 14 5 / 2 ^ (y * 7 + x).toNat % 2 = 1)) = 0) (b := (fd_rng (fd_bi (M 14 5 / 2 ^ (y * 7 + x).toNat % 2 = 1)))) rfl rfl rfl (fd_biR) (fun h27 => ?_) (fun h27 => ?_)
        · have h27 := fd_biT.mp h27
          refine fd_u_blk 4 (C := fd_c9) (b := true) (L' := [fd_R 0, fd_I x, fd_I y, fd_I w, fd_I (fd_bi (M 14 5 / 2 ^ (y * 7 + x).toNat % 2 = 1))]) (st' := [fd_R 14, fd_R 19]) (M' := M) rfl rfl (j := 34) rfl (rfl) ?_
          refine fd_u_call (C := fd_c9) (d0 := 2) (mid := 113) (np := 2) (args := [fd_R 19, fd_R 14]) (r1 := none) (M1 := (fd_push M)) (st' := []) rfl rfl rfl rfl rfl rfl (rfl) (fd_s_push M hs h19 hp6 hp7) rfl (by omega) ?_
          refine fd_u_blk 7 (C := fd_c9) (b := true) (L' := [fd_R 0, fd_I x, fd_I y, fd_I w, fd_I (fd_bi (M 14 5 / 2 ^ (y * 7 + x).toNat % 2 = 1))]) (st' := [fd_I y, fd_I x, fd_J 1, fd_J ((fd_push M) 14 5), fd_R 14]) (M' := (fd_push M)) rfl rfl (j := 42) rfl (rfl) ?_
          refine fd_u_call (C := fd_c9) (d0 := 0) (mid := 46) (np := 2) (args := [fd_I x, fd_I y]) (r1 := some (fd_I ((y * 7) + x))) (M1 := (fd_push M)) (st' := [fd_I ((y * 7) + x), fd_J 1, fd_J ((fd_push M) 14 5), fd_R 14]) rfl rfl rfl rfl rfl rfl (rfl) (fd_s_placeOf (fd_push M) x y) rfl (by omega) ?_
          refine fd_u_blk 7 (C := fd_c9) (b := (fd_inb ((y * 7) + x) 64 && true)) (L' := [fd_R 0, fd_I x, fd_I y, fd_I w, fd_I (fd_bi (M 14 5 / 2 ^ (y * 7 + x).toNat % 2 = 1))]) (st' := [fd_I (fd_lbc (fd_lxor ((fd_push M) 14 5) (2 ^ ((y * 7) + x).toNat)))]) (M' := (fd_up (fd_push M) 14 5 (fd_lxor ((fd_push M) 14 5) (2 ^ ((y * 7) + x).toNat)))) rfl rfl (j := 50) rfl (fd_bA (fd_bI (by omega) (by omega)) (rfl)) ?_
          refine fd_u_ret (C := fd_c9) (b := true) (r' := some (fd_I (fd_lbc (fd_lxor ((fd_push M) 14 5) (2 ^ ((y * 7) + x).toNat))))) rfl rfl rfl (rfl) ?_ ?_
          · rw [fd_X_cart, if_neg (show ¬ ¬ ((0 ≤ x ∧ x < M 3 0 ∧ 0 ≤ y ∧ y < M 3 1) ∧ (w = 0 ∨ w = 1)) by omega), if_neg (show ¬ ¬ (if w = 1 then fd_cvC M x y = 0 else M 14 5 / 2 ^ (y * 7 + x).toNat % 2 = 1) from by first | rw [if_pos (by omega)]; exact fun q => q h27 | rw [if_neg (by omega)]; exact fun q => q h27), ← f14]
          · rw [fd_Y_cart, if_neg (show ¬ ¬ ((0 ≤ x ∧ x < M 3 0 ∧ 0 ≤ y ∧ y < M 3 1) ∧ (w = 0 ∨ w = 1)) by omega), if_neg (show ¬ ¬ (if w = 1 then fd_cvC M x y = 0 else M 14 5 / 2 ^ (y * 7 + x).toNat % 2 = 1) from by first | rw [if_pos (by omega)]; exact fun q => q h27 | rw [if_neg (by omega)]; exact fun q => q h27), ← f14]
        · have h27 := fd_biF2  h27
          refine fd_u_blk 1 (C := fd_c9) (b := true) (L' := [fd_R 0, fd_I x, fd_I y, fd_I w, fd_I (fd_bi (M 14 5 / 2 ^ (y * 7 + x).toNat % 2 = 1))]) (st' := [fd_I (-2)]) (M' := M) rfl rfl (j := 29) rfl (rfl) ?_
          refine fd_u_ret (C := fd_c9) (b := true) (r' := some (fd_I (-2))) rfl rfl rfl (rfl) ?_ ?_
          · rw [fd_X_cart, if_neg (show ¬ ¬ ((0 ≤ x ∧ x < M 3 0 ∧ 0 ≤ y ∧ y < M 3 1) ∧ (w = 0 ∨ w = 1)) by omega), if_pos (show ¬ (if w = 1 then fd_cvC M x y = 0 else M 14 5 / 2 ^ (y * 7 + x).toNat % 2 = 1) from by first | rw [if_pos (by omega)]; exact h27 | rw [if_neg (by omega)]; exact h27)]
          · rw [fd_Y_cart, if_neg (show ¬ ¬ ((0 ≤ x ∧ x < M 3 0 ∧ 0 ≤ y ∧ y < M 3 1) ∧ (w = 0 ∨ w = 1)) by omega), if_pos (show ¬ (if w = 1 then fd_cvC M x y = 0 else M 14 5 / 2 ^ (y * 7 + x).toNat % 2 = 1) from by first | rw [if_pos (by omega)]; exact h27 | rw [if_neg (by omega)]; exact h27)]
      · refine fd_u_blk 4 (C := fd_c9) (b := true) (L' := [fd_R 0, fd_I x, fd_I y, fd_I w, fd_R 1003]) (st' := [fd_I y, fd_I x, fd_R 72]) (M' := M) rfl rfl (j := 18) rfl (rfl) ?_
        refine fd_u_call (C := fd_c9) (d0 := 3) (mid := 150) (np := 3) (args := [fd_R 72, fd_I x, fd_I y]) (r1 := some (fd_I (fd_bi (fd_cvC M x y = 0)))) (M1 := M) (st' := [fd_I (fd_bi (fd_cvC M x y = 0))]) rfl rfl rfl rfl rfl rfl (rfl) (fd_s_isVacant M hG x y (by omega) (by omega)) rfl (by omega) ?_
        refine fd_u_jmp (C := fd_c9) (j := 25) (st' := [fd_I (fd_bi (fd_cvC M x y = 0))]) rfl rfl (b := true) rfl rfl ?_
        refine fd_u_blk 2 (C := fd_c9) (b := true) (L' := [fd_R 0, fd_I x, fd_I y, fd_I w, fd_I (fd_bi (fd_cvC M x y = 0))]) (st' := [fd_I (fd_bi (fd_cvC M x y = 0))]) (M' := M) rfl rfl (j := 27) rfl (rfl) ?_
        refine fd_u_br (C := fd_c9) (t := 30) (e := 28) (st' := []) (c := ¬ (fd_bi (fd_cvC M x y = 0)) = 0) (b := (fd_rng (fd_bi (fd_cvC M x y = 0)))) rfl rfl rfl (fd_biR) (fun h27 => ?_) (fun h27 => ?_)
        · have h27 := fd_biT.mp h27
          refine fd_u_blk 4 (C := fd_c9) (b := true) (L' := [fd_R 0, fd_I x, fd_I y, fd_I w, fd_I (fd_bi (fd_cvC M x y = 0))]) (st' := [fd_R 14, fd_R 19]) (M' := M) rfl rfl (j := 34) rfl (rfl) ?_
          refine fd_u_call (C := fd_c9) (d0 := 2) (mid := 113) (np := 2) (args := [fd_R 19, fd_R 14]) (r1 := none) (M1 := (fd_push M)) (st' := []) rfl rfl rfl rfl rfl rfl (rfl) (fd_s_push M hs h19 hp6 hp7) rfl (by omega) ?_
          refine fd_u_blk 7 (C := fd_c9) (b := true) (L' := [fd_R 0, fd_I x, fd_I y, fd_I w, fd_I (fd_bi (fd_cvC M x y = 0))]) (st' := [fd_I y, fd_I x, fd_J 1, fd_J ((fd_push M) 14 5), fd_R 14]) (M' := (fd_push M)) rfl rfl (j := 42) rfl (rfl) ?_
          refine fd_u_call (C := fd_c9) (d0 := 0) (mid := 46) (np := 2) (args := [fd_I x, fd_I y]) (r1 := some (fd_I ((y * 7) + x))) (M1 := (fd_push M)) (st' := [fd_I ((y * 7) + x), fd_J 1, fd_J ((fd_push M) 14 5), fd_R 14]) rfl rfl rfl rfl rfl rfl (rfl) (fd_s_placeOf (fd_push M) x y) rfl (by omega) ?_
          refine fd_u_blk 7 (C := fd_c9) (b := (fd_inb ((y * 7) + x) 64 && true)) (L' := [fd_R 0, fd_I x, fd_I y, fd_I w, fd_I (fd_bi (fd_cvC M x y = 0))]) (st' := [fd_I (fd_lbc (fd_lxor ((fd_push M) 14 5) (2 ^ ((y * 7) + x).toNat)))]) (M' := (fd_up (fd_push M) 14 5 (fd_lxor ((fd_push M) 14 5) (2 ^ ((y * 7) + x).toNat)))) rfl rfl (j := 50) rfl (fd_bA (fd_bI (by omega) (by omega)) (rfl)) ?_
          refine fd_u_ret (C := fd_c9) (b := true) (r' := some (fd_I (fd_lbc (fd_lxor ((fd_push M) 14 5) (2 ^ ((y * 7) + x).toNat))))) rfl rfl rfl (rfl) ?_ ?_
          · rw [fd_X_cart, if_neg (show ¬ ¬ ((0 ≤ x ∧ x < M 3 0 ∧ 0 ≤ y ∧ y < M 3 1) ∧ (w = 0 ∨ w = 1)) by omega), if_neg (show ¬ ¬ (if w = 1 then fd_cvC M x y = 0 else M 14 5 / 2 ^ (y * 7 + x).toNat % 2 = 1) from by first | rw [if_pos (by omega)]; exact fun q => q h27 | rw [if_neg (by omega)]; exact fun q => q h27), ← f14]
          · rw [fd_Y_cart, if_neg (show ¬ ¬ ((0 ≤ x ∧ x < M 3 0 ∧ 0 ≤ y ∧ y < M 3 1) ∧ (w = 0 ∨ w = 1)) by omega), if_neg (show ¬ ¬ (if w = 1 then fd_cvC M x y = 0 else M 14 5 / 2 ^ (y * 7 + x).toNat % 2 = 1) from by first | rw [if_pos (by omega)]; exact fun q => q h27 | rw [if_neg (by omega)]; exact fun q => q h27), ← f14]
        · have h27 := fd_biF2  h27
          refine fd_u_blk 1 (C := fd_c9) (b := true) (L' := [fd_R 0, fd_I x, fd_I y, fd_I w, fd_I (fd_bi (fd_cvC M x y = 0))]) (st' := [fd_I (-2)]) (M' := M) rfl rfl (j := 29) rfl (rfl) ?_
          refine fd_u_ret (C := fd_c9) (b := true) (r' := some (fd_I (-2))) rfl rfl rfl (rfl) ?_ ?_
          · rw [fd_X_cart, if_neg (show ¬ ¬ ((0 ≤ x ∧ x < M 3 0 ∧ 0 ≤ y ∧ y < M 3 1) ∧ (w = 0 ∨ w = 1)) by omega), if_pos (show ¬ (if w = 1 then fd_cvC M x y = 0 else M 14 5 / 2 ^ (y * 7 + x).toNat % 2 = 1) from by first | rw [if_pos (by omega)]; exact h27 | rw [if_neg (by omega)]; exact h27)]
          · rw [fd_Y_cart, if_neg (show ¬ ¬ ((0 ≤ x ∧ x < M 3 0 ∧ 0 ≤ y ∧ y < M 3 1) ∧ (w = 0 ∨ w = 1)) by omega), if_pos (show ¬ (if w = 1 then fd_cvC M x y = 0 else M 14 5 / 2 ^ (y * 7 + x).toNat % 2 = 1) from by first | rw [if_pos (by omega)]; exact h27 | rw [if_neg (by omega)]; exact h27)]
    · have h8 := fd_biF2  h8
      refine fd_u_blk 1 (C := fd_c9) (b := true) (L' := [fd_R 0, fd_I x, fd_I y, fd_I w, fd_R 1003]) (st' := [fd_I (-1)]) (M' := M) rfl rfl (j := 10) rfl (rfl) ?_
      refine fd_u_ret (C := fd_c9) (b := true) (r' := some (fd_I (-1))) rfl rfl rfl (rfl) ?_ ?_
      · rw [fd_X_cart, if_pos (show ¬ ((0 ≤ x ∧ x < M 3 0 ∧ 0 ≤ y ∧ y < M 3 1) ∧ (w = 0 ∨ w = 1)) by omega)]
      · rw [fd_Y_cart, if_pos (show ¬ ((0 ≤ x ∧ x < M 3 0 ∧ 0 ≤ y ∧ y < M 3 1) ∧ (w = 0 ∨ w = 1)) by omega)]

def fd_X_undo (M : fd_M) : Int := if M 19 1 ≤ 0 then -2 else fd_pop M 19 1
def fd_Y_undo (M : fd_M) : fd_M := if M 19 1 ≤ 0 then M else fd_pop M
theorem fd_pop_sz (M : fd_M) (hs : fd_HS M) (h19 : 1 ≤ M 19 1 ∧ M 19 1 ≤ 10) : fd_pop M 19 1 = M 19 1 - 1 := by
  unfold fd_pop fd_cps
  rw [if_neg (by omega), if_neg (by omega), fd_up_at, if_pos rfl]
theorem fd_x_undo (M : fd_M) (hs : fd_HS M) (h19 : 0 ≤ M 19 1 ∧ M 19 1 ≤ 10) (h67 : 1 ≤ M 19 1 → (0 ≤ M (M 20 (M 19 1 - 1).toNat).toNat 6 ∧ M (M 20 (M 19 1 - 1).toNat).toNat 6 ≤ 1) ∧ (0 ≤ M (M 20 (M 19 1 - 1).toNat).toNat 7 ∧ M (M 20 (M 19 1 - 1).toNat).toNat 7 ≤ 1)) : fd_call 3 13 [fd_R 0] M (some (fd_I (fd_X_undo M))) (fd_Y_undo M) := by
  refine fd_u_in (L := [fd_R 0]) rfl ?_
  refine fd_u_blk 3 (C := fd_c13) (b := true) (L' := [fd_R 0]) (st' := [fd_I (M 19 1)]) (M' := M) rfl rfl (j := 3) rfl (rfl) ?_
  refine fd_u_br (C := fd_c13) (t := 6) (e := 4) (st' := []) (c := 0 < (M 19 1)) (b := (fd_rng (M 19 1))) rfl rfl rfl (fd_bR (by omega) (by omega)) (fun h3 => ?_) (fun h3 => ?_)
  · refine fd_u_blk 4 (C := fd_c13) (b := true) (L' := [fd_R 0]) (st' := [fd_R 14, fd_R 19]) (M' := M) rfl rfl (j := 10) rfl (rfl) ?_
    refine fd_u_call (C := fd_c13) (d0 := 2) (mid := 115) (np := 2) (args := [fd_R 19, fd_R 14]) (r1 := none) (M1 := (fd_pop M)) (st' := []) rfl rfl rfl rfl rfl rfl (rfl) (fd_s_pop M hs (by omega) (h67 (by omega)).1 (h67 (by omega)).2) rfl (by omega) ?_
    refine fd_u_blk 3 (C := fd_c13) (b := true) (L' := [fd_R 0]) (st' := [fd_I ((fd_pop M) 19 1)]) (M' := (fd_pop M)) rfl rfl (j := 14) rfl (rfl) ?_
    refine fd_u_ret (C := fd_c13) (b := true) (r' := some (fd_I ((fd_pop M) 19 1))) rfl rfl rfl (rfl) ?_ ?_
    · rw [fd_X_undo, if_neg (by omega)]
    · rw [fd_Y_undo, if_neg (by omega)]
  · refine fd_u_blk 1 (C := fd_c13) (b := true) (L' := [fd_R 0]) (st' := [fd_I (-2)]) (M' := M) rfl rfl (j := 5) rfl (rfl) ?_
    refine fd_u_ret (C := fd_c13) (b := true) (r' := some (fd_I (-2))) rfl rfl rfl (rfl) ?_ ?_
    · rw [fd_X_undo, if_pos (by omega)]
    · rw [fd_Y_undo, if_pos (by omega)]

def fd_X_tells (M : fd_M) (d w : Int) : Int := if ¬ (0 ≤ d ∧ d < M 3 2 ∧ 0 ≤ w ∧ w ≤ 99) then -1 else if 6 ≤ M 78 2 then -3 else M 78 2 + 1
def fd_Y_tells (M : fd_M) (d w : Int) : fd_M := if ¬ (0 ≤ d ∧ d < M 3 2 ∧ 0 ≤ w ∧ w ≤ 99) then M else if 6 ≤ M 78 2 then M else fd_up (fd_up (fd_up M 79 (M 78 2).toNat d) 80 (M 78 2).toNat w) 78 2 (M 78 2 + 1)
theorem fd_s_toldAdd (M : fd_M) (d w : Int) (h : 0 ≤ M 78 2 ∧ M 78 2 < 6) : fd_call 0 167 [fd_R 78, fd_I d, fd_I w] M (none) (fd_up (fd_up (fd_up M 79 (M 78 2).toNat d) 80 (M 78 2).toNat w) 78 2 (M 78 2 + 1)) := by
  refine fd_u_in (L := [fd_R 78, fd_I d, fd_I w]) rfl ?_
  refine fd_u_blk 3 (C := fd_c167) (b := true) (L' := [fd_R 78, fd_I d, fd_I w]) (st' := [fd_I 6, fd_I (M 78 2)]) (M' := M) rfl rfl (j := 3) rfl (rfl) ?_
  refine fd_u_br (C := fd_c167) (t := 22) (e := 4) (st' := []) (c := 6 ≤ (M 78 2)) (b := (fd_rng (M 78 2) && fd_rng 6)) rfl rfl rfl (fd_bA (fd_bR (by omega) (by omega)) (fd_bR (by omega) (by omega))) (fun h3 => absurd h3 (by omega)) (fun h3 => ?_)
  refine fd_u_blk 18 (C := fd_c167) (b := (fd_inb (M 78 2) 6 && (fd_inb (M 78 2) 6 && true))) (L' := [fd_R 78, fd_I d, fd_I w]) (st' := []) (M' := (fd_up (fd_up (fd_up M 79 (M 78 2).toNat d) 80 (M 78 2).toNat w) 78 2 ((M 78 2) + 1))) rfl rfl (j := 22) rfl (fd_bA (fd_bI (by omega) (by omega)) (fd_bA (fd_bI (by omega) (by omega)) (rfl))) ?_
  refine fd_u_ret (C := fd_c167) (b := true) (r' := none) rfl rfl rfl (rfl) ?_ ?_
  · rfl
  · rfl

theorem fd_x_tells (M : fd_M) (hG : fd_CG M) (h78 : 0 ≤ M 78 2 ∧ M 78 2 ≤ 6) (d : Int) (hd : -2147483648 ≤ d ∧ d < 2147483648) (w : Int) (hw : -2147483648 ≤ w ∧ w < 2147483648) : fd_call 1 18 [fd_R 0, fd_I d, fd_I w] M (some (fd_I (fd_X_tells M d w))) (fd_Y_tells M d w) := by
  refine fd_u_in (L := [fd_R 0, fd_I d, fd_I w]) rfl ?_
  obtain ⟨g0, g1, g2, g3, g4, g5⟩ := hG.1
  refine fd_u_blk 3 (C := fd_c18) (b := true) (L' := [fd_R 0, fd_I d, fd_I w]) (st' := [fd_I d, fd_R 3]) (M' := M) rfl rfl (j := 3) rfl (rfl) ?_
  refine fd_u_call (C := fd_c18) (d0 := 0) (mid := 124) (np := 2) (args := [fd_R 3, fd_I d]) (r1 := some (fd_I (fd_bi (0 ≤ d ∧ d < M 3 2)))) (M1 := M) (st' := [fd_I (fd_bi (0 ≤ d ∧ d < M 3 2))]) rfl rfl rfl rfl rfl rfl (rfl) (fd_s_hasDoor M d (by omega) (by omega)) rfl (by omega) ?_
  refine fd_u_br (C := fd_c18) (t := 8) (e := 5) (st' := []) (c := (fd_bi (0 ≤ d ∧ d < M 3 2)) = 0) (b := (fd_rng (fd_bi (0 ≤ d ∧ d < M 3 2)))) rfl rfl rfl (fd_biR) (fun h4 => ?_) (fun h4 => ?_)
  · have h4 := fd_biF.mp h4
    refine fd_u_blk 1 (C := fd_c18) (b := true) (L' := [fd_R 0, fd_I d, fd_I w]) (st' := [fd_I (-1)]) (M' := M) rfl rfl (j := 9) rfl (rfl) ?_
    refine fd_u_ret (C := fd_c18) (b := true) (r' := some (fd_I (-1))) rfl rfl rfl (rfl) ?_ ?_
    · rw [fd_X_tells, if_pos (show ¬ (0 ≤ d ∧ d < M 3 2 ∧ 0 ≤ w ∧ w ≤ 99) by omega)]
    · rw [fd_Y_tells, if_pos (show ¬ (0 ≤ d ∧ d < M 3 2 ∧ 0 ≤ w ∧ w ≤ 99) by omega)]
  · have h4 := fd_biT.mp h4
    refine fd_u_blk 1 (C := fd_c18) (b := true) (L' := [fd_R 0, fd_I d, fd_I w]) (st' := [fd_I w]) (M' := M) rfl rfl (j := 6) rfl (rfl) ?_
    refine fd_u_call (C := fd_c18) (d0 := 0) (mid := 41) (np := 1) (args := [fd_I w]) (r1 := some (fd_I (fd_bi (0 ≤ w ∧ w ≤ 99)))) (M1 := M) (st' := [fd_I (fd_bi (0 ≤ w ∧ w ≤ 99))]) rfl rfl rfl rfl rfl rfl (rfl) (fd_s_isDueTold M w (by omega)) rfl (by omega) ?_
    refine fd_u_br (C := fd_c18) (t := 10) (e := 8) (st' := []) (c := ¬ (fd_bi (0 ≤ w ∧ w ≤ 99)) = 0) (b := (fd_rng (fd_bi (0 ≤ w ∧ w ≤ 99)))) rfl rfl rfl (fd_biR) (fun h7 => ?_) (fun h7 => ?_)
    · have h7 := fd_biT.mp h7
      refine fd_u_blk 4 (C := fd_c18) (b := true) (L' := [fd_R 0, fd_I d, fd_I w]) (st' := [fd_I 6, fd_I (M 78 2)]) (M' := M) rfl rfl (j := 14) rfl (rfl) ?_
      refine fd_u_br (C := fd_c18) (t := 17) (e := 15) (st' := []) (c := (M 78 2) < 6) (b := (fd_rng (M 78 2) && fd_rng 6)) rfl rfl rfl (fd_bA (fd_bR (by omega) (by omega)) (fd_bR (by omega) (by omega))) (fun h14 => ?_) (fun h14 => ?_)
      · refine fd_u_blk 4 (C := fd_c18) (b := true) (L' := [fd_R 0, fd_I d, fd_I w]) (st' := [fd_I w, fd_I d, fd_R 78]) (M' := M) rfl rfl (j := 21) rfl (rfl) ?_
        refine fd_u_call (C := fd_c18) (d0 := 0) (mid := 167) (np := 3) (args := [fd_R 78, fd_I d, fd_I w]) (r1 := none) (M1 := (fd_up (fd_up (fd_up M 79 (M 78 2).toNat d) 80 (M 78 2).toNat w) 78 2 (M 78 2 + 1))) (st' := []) rfl rfl rfl rfl rfl rfl (rfl) (fd_s_toldAdd M d w (by omega)) rfl (by omega) ?_
        refine fd_u_blk 3 (C := fd_c18) (b := true) (L' := [fd_R 0, fd_I d, fd_I w]) (st' := [fd_I (M 78 2 + 1)]) (M' := (fd_up (fd_up (fd_up M 79 (M 78 2).toNat d) 80 (M 78 2).toNat w) 78 2 (M 78 2 + 1))) rfl rfl (j := 25) rfl (rfl) ?_
        refine fd_u_ret (C := fd_c18) (b := true) (r' := some (fd_I (M 78 2 + 1))) rfl rfl rfl (rfl) ?_ ?_
        · rw [fd_X_tells, if_neg (show ¬ ¬ (0 ≤ d ∧ d < M 3 2 ∧ 0 ≤ w ∧ w ≤ 99) by omega), if_neg (show ¬ (6 ≤ M 78 2) by omega)]
        · rw [fd_Y_tells, if_neg (show ¬ ¬ (0 ≤ d ∧ d < M 3 2 ∧ 0 ≤ w ∧ w ≤ 99) by omega), if_neg (show ¬ (6 ≤ M 78 2) by omega)]
      · refine fd_u_blk 1 (C := fd_c18) (b := true) (L' := [fd_R 0, fd_I d, fd_I w]) (st' := [fd_I (-3)]) (M' := M) rfl rfl (j := 16) rfl (rfl) ?_
        refine fd_u_ret (C := fd_c18) (b := true) (r' := some (fd_I (-3))) rfl rfl rfl (rfl) ?_ ?_
        · rw [fd_X_tells, if_neg (show ¬ ¬ (0 ≤ d ∧ d < M 3 2 ∧ 0 ≤ w ∧ w ≤ 99) by omega), if_pos (show 6 ≤ M 78 2 by omega)]
        · rw [fd_Y_tells, if_neg (show ¬ ¬ (0 ≤ d ∧ d < M 3 2 ∧ 0 ≤ w ∧ w ≤ 99) by omega), if_pos (show 6 ≤ M 78 2 by omega)]
    · have h7 := fd_biF2  h7
      refine fd_u_blk 1 (C := fd_c18) (b := true) (L' := [fd_R 0, fd_I d, fd_I w]) (st' := [fd_I (-1)]) (M' := M) rfl rfl (j := 9) rfl (rfl) ?_
      refine fd_u_ret (C := fd_c18) (b := true) (r' := some (fd_I (-1))) rfl rfl rfl (rfl) ?_ ?_
      · rw [fd_X_tells, if_pos (show ¬ (0 ≤ d ∧ d < M 3 2 ∧ 0 ≤ w ∧ w ≤ 99) by omega)]
      · rw [fd_Y_tells, if_pos (show ¬ (0 ≤ d ∧ d < M 3 2 ∧ 0 ≤ w ∧ w ≤ 99) by omega)]


/-! turn: the class -/
def fd_pf (M : fd_M) (d : Nat) : Int := if M 14 4 / 2 ^ d % 2 = 1 ∧ M 14 7 = 0 then M 3 3 else 0
def fd_dtc (M : fd_M) (d : Nat) : Int := if M 74 ((d : Int) * 4 + M 76 d).toNat = -1 then 0 else if M 74 ((d : Int) * 4 + M 76 d).toNat < d ∧ M 76 (M 74 ((d : Int) * 4 + M 76 d).toNat).toNat = (M 76 d + 2) % 4 then fd_pf M d + (fd_pf M d + fd_pf M (M 74 ((d : Int) * 4 + M 76 d).toNat).toNat) else fd_pf M d
abbrev fd_bet (M : fd_M) (due tu : Int) : Prop := M 73 7 = 0 ∨ due < M 73 8 ∨ (due = M 73 8 ∧ tu < M 73 9)
def fd_tk (M : fd_M) (due tu : Int) : fd_M := fd_cp (fd_up (fd_up (fd_up M 73 7 1) 73 8 due) 73 9 tu) 76 0 77 0 6
def fd_TV (M : fd_M) : Prop := fd_CG M ∧ (∀ k : Nat, 0 ≤ M 76 k ∧ M 76 k ≤ 3) ∧ (∀ k : Nat, (k : Int) < 4 * M 3 2 → (-1 ≤ M 74 k ∧ M 74 k < M 3 2) ∧ (0 ≤ M 75 k ∧ M 75 k ≤ 1)) ∧ (M 73 7 = 0 ∨ (M 73 7 = 1 ∧ (0 ≤ M 73 8 ∧ M 73 8 ≤ 1000) ∧ (0 ≤ M 73 9 ∧ M 73 9 ≤ 1000)))
theorem fd_TV_ch {M : fd_M} (h : fd_TV M) (d : Nat) {v : Int} (hv : 0 ≤ v ∧ v ≤ 3) : fd_TV (fd_up M 76 d v) := ⟨h.1, fd_up_all (P := fun z => 0 ≤ z ∧ z ≤ 3) h.2.1 hv, h.2.2.1, h.2.2.2⟩
theorem fd_TV_tk {M : fd_M} (h : fd_TV M) {due tu : Int} (h1 : 0 ≤ due ∧ due ≤ 1000) (h2 : 0 ≤ tu ∧ tu ≤ 1000) : fd_TV (fd_tk M due tu) := ⟨h.1, h.2.1, h.2.2.1, Or.inr ⟨rfl, h1, h2⟩⟩
theorem fd_pf_rng {M : fd_M} (hG : fd_CG M) (d : Nat) : 0 ≤ fd_pf M d ∧ fd_pf M d ≤ 9 := by
  have := hG.1.2.2.2.1
  unfold fd_pf
  split <;> omega
theorem fd_dtc_rng {M : fd_M} (hG : fd_CG M) (d : Nat) : 0 ≤ fd_dtc M d ∧ fd_dtc M d ≤ 27 := by
  have a := fd_pf_rng hG d
  have b := fd_pf_rng hG (M 74 ((d : Int) * 4 + M 76 d).toNat).toNat
  unfold fd_dtc
  split
  · omega
  · split <;> omega
theorem fd_s_isBetter (M : fd_M) (hV : fd_TV M) (due tu : Int) (hdu : 0 ≤ due ∧ due ≤ 1000) (htu : 0 ≤ tu ∧ tu ≤ 1000) : fd_call 0 173 [fd_R 73, fd_I due, fd_I tu] M (some (fd_I (fd_bi (fd_bet M due tu)))) M := by
  refine fd_u_in (L := [fd_R 73, fd_I due, fd_I tu]) rfl ?_
  obtain ⟨hG, v1, v2, v3⟩ := hV
  obtain ⟨g0, g1, g2, g3, g4, g5⟩ := hG.1
  refine fd_u_blk 2 (C := fd_c173) (b := true) (L' := [fd_R 73, fd_I due, fd_I tu]) (st' := [fd_I (M 73 7)]) (M' := M) rfl rfl (j := 2) rfl (rfl) ?_
  refine fd_u_br (C := fd_c173) (t := 15) (e := 3) (st' := []) (c := (M 73 7) = 0) (b := (fd_rng (M 73 7))) rfl rfl rfl (fd_bR (by omega) (by omega)) (fun h2 => ?_) (fun h2 => ?_)
  · refine fd_u_blk 1 (C := fd_c173) (b := true) (L' := [fd_R 73, fd_I due, fd_I tu]) (st' := [fd_I 1]) (M' := M) rfl rfl (j := 16) rfl (rfl) ?_
    refine fd_u_jmp (C := fd_c173) (j := 18) (st' := [fd_I 1]) rfl rfl (b := true) rfl rfl ?_
    refine fd_u_ret (C := fd_c173) (b := true) (r' := some (fd_I 1)) rfl rfl rfl (rfl) ?_ ?_
    · refine fd_ok1 ?_
      unfold fd_bet
      omega
    · rfl
  · refine fd_u_blk 3 (C := fd_c173) (b := true) (L' := [fd_R 73, fd_I due, fd_I tu]) (st' := [fd_I (M 73 8), fd_I due]) (M' := M) rfl rfl (j := 6) rfl (rfl) ?_
    refine fd_u_br (C := fd_c173) (t := 15) (e := 7) (st' := []) (c := due < (M 73 8)) (b := (fd_rng due && fd_rng (M 73 8))) rfl rfl rfl (fd_bA (fd_bR (by omega) (by omega)) (fd_bR (by omega) (by omega))) (fun h6 => ?_) (fun h6 => ?_)
    · refine fd_u_blk 1 (C := fd_c173) (b := true) (L' := [fd_R 73, fd_I due, fd_I tu]) (st' := [fd_I 1]) (M' := M) rfl rfl (j := 16) rfl (rfl) ?_
      refine fd_u_jmp (C := fd_c173) (j := 18) (st' := [fd_I 1]) rfl rfl (b := true) rfl rfl ?_
      refine fd_u_ret (C := fd_c173) (b := true) (r' := some (fd_I 1)) rfl rfl rfl (rfl) ?_ ?_
      · refine fd_ok1 ?_
        unfold fd_bet
        omega
      · rfl
    · refine fd_u_blk 3 (C := fd_c173) (b := true) (L' := [fd_R 73, fd_I due, fd_I tu]) (st' := [fd_I (M 73 8), fd_I due]) (M' := M) rfl rfl (j := 10) rfl (rfl) ?_
      refine fd_u_br (C := fd_c173) (t := 17) (e := 11) (st' := []) (c := ¬ due = (M 73 8)) (b := (fd_rng due && fd_rng (M 73 8))) rfl rfl rfl (fd_bA (fd_bR (by omega) (by omega)) (fd_bR (by omega) (by omega))) (fun h10 => ?_) (fun h10 => ?_)
      · refine fd_u_blk 1 (C := fd_c173) (b := true) (L' := [fd_R 73, fd_I due, fd_I tu]) (st' := [fd_I 0]) (M' := M) rfl rfl (j := 18) rfl (rfl) ?_
        refine fd_u_ret (C := fd_c173) (b := true) (r' := some (fd_I 0)) rfl rfl rfl (rfl) ?_ ?_
        · refine fd_ok0 ?_
          unfold fd_bet
          omega
        · rfl
      · refine fd_u_blk 3 (C := fd_c173) (b := true) (L' := [fd_R 73, fd_I due, fd_I tu]) (st' := [fd_I (M 73 9), fd_I tu]) (M' := M) rfl rfl (j := 14) rfl (rfl) ?_
        refine fd_u_br (C := fd_c173) (t := 17) (e := 15) (st' := []) (c := (M 73 9) ≤ tu) (b := (fd_rng tu && fd_rng (M 73 9))) rfl rfl rfl (fd_bA (fd_bR (by omega) (by omega)) (fd_bR (by omega) (by omega))) (fun h14 => ?_) (fun h14 => ?_)
        · refine fd_u_blk 1 (C := fd_c173) (b := true) (L' := [fd_R 73, fd_I due, fd_I tu]) (st' := [fd_I 0]) (M' := M) rfl rfl (j := 18) rfl (rfl) ?_
          refine fd_u_ret (C := fd_c173) (b := true) (r' := some (fd_I 0)) rfl rfl rfl (rfl) ?_ ?_
          · refine fd_ok0 ?_
            unfold fd_bet
            omega
          · rfl
        · refine fd_u_blk 1 (C := fd_c173) (b := true) (L' := [fd_R 73, fd_I due, fd_I tu]) (st' := [fd_I 1]) (M' := M) rfl rfl (j := 16) rfl (rfl) ?_
          refine fd_u_jmp (C := fd_c173) (j := 18) (st' := [fd_I 1]) rfl rfl (b := true) rfl rfl ?_
          refine fd_u_ret (C := fd_c173) (b := true) (r' := some (fd_I 1)) rfl rfl rfl (rfl) ?_ ?_
          · refine fd_ok1 ?_
            unfold fd_bet
            omega
          · rfl

theorem fd_s_priceFor (M : fd_M) (hG : fd_CG M) (d : Int) (hd : 0 ≤ d ∧ d < 6) : fd_call 2 175 [fd_R 73, fd_I d] M (some (fd_I (fd_pf M d.toNat))) M := by
  refine fd_u_in (L := [fd_R 73, fd_I d]) rfl ?_
  obtain ⟨g0, g1, g2, g3, g4, g5⟩ := hG.1
  obtain ⟨s1, s2, s3, s4, s5, s6, s7, s8⟩ := hG.2
  refine fd_u_blk 3 (C := fd_c175) (b := true) (L' := [fd_R 73, fd_I d]) (st' := [fd_I d, fd_R 14]) (M' := M) rfl rfl (j := 3) rfl (rfl) ?_
  refine fd_u_call (C := fd_c175) (d0 := 1) (mid := 144) (np := 2) (args := [fd_R 14, fd_I d]) (r1 := some (fd_I (fd_bi (M 14 4 / 2 ^ (d).toNat % 2 = 1)))) (M1 := M) (st' := [fd_I (fd_bi (M 14 4 / 2 ^ (d).toNat % 2 = 1))]) rfl rfl rfl rfl rfl rfl (rfl) (fd_s_isOpen M hG d (by omega)) rfl (by omega) ?_
  refine fd_u_br (C := fd_c175) (t := 13) (e := 5) (st' := []) (c := (fd_bi (M 14 4 / 2 ^ (d).toNat % 2 = 1)) = 0) (b := (fd_rng (fd_bi (M 14 4 / 2 ^ (d).toNat % 2 = 1)))) rfl rfl rfl (fd_biR) (fun h4 => ?_) (fun h4 => ?_)
  · have h4 := fd_biF.mp h4
    refine fd_u_blk 1 (C := fd_c175) (b := true) (L' := [fd_R 73, fd_I d]) (st' := [fd_I 0]) (M' := M) rfl rfl (j := 14) rfl (rfl) ?_
    refine fd_u_ret (C := fd_c175) (b := true) (r' := some (fd_I 0)) rfl rfl rfl (rfl) ?_ ?_
    · unfold fd_pf
      rw [if_neg (fun q => by first | exact h4 q.1 | (have := q.2; omega))]
    · rfl
  · have h4 := fd_biT.mp h4
    refine fd_u_blk 3 (C := fd_c175) (b := true) (L' := [fd_R 73, fd_I d]) (st' := [fd_I (M 14 7)]) (M' := M) rfl rfl (j := 8) rfl (rfl) ?_
    refine fd_u_br (C := fd_c175) (t := 13) (e := 9) (st' := []) (c := ¬ (M 14 7) = 0) (b := (fd_rng (M 14 7))) rfl rfl rfl (fd_bR (by omega) (by omega)) (fun h8 => ?_) (fun h8 => ?_)
    · refine fd_u_blk 1 (C := fd_c175) (b := true) (L' := [fd_R 73, fd_I d]) (st' := [fd_I 0]) (M' := M) rfl rfl (j := 14) rfl (rfl) ?_
      refine fd_u_ret (C := fd_c175) (b := true) (r' := some (fd_I 0)) rfl rfl rfl (rfl) ?_ ?_
      · unfold fd_pf
        rw [if_neg (fun q => by first | exact h4 q.1 | (have := q.2; omega))]
      · rfl
    · refine fd_u_blk 3 (C := fd_c175) (b := true) (L' := [fd_R 73, fd_I d]) (st' := [fd_I (M 3 3)]) (M' := M) rfl rfl (j := 12) rfl (rfl) ?_
      refine fd_u_jmp (C := fd_c175) (j := 14) (st' := [fd_I (M 3 3)]) rfl rfl (b := true) rfl rfl ?_
      refine fd_u_ret (C := fd_c175) (b := true) (r' := some (fd_I (M 3 3))) rfl rfl rfl (rfl) ?_ ?_
      · unfold fd_pf
        rw [if_pos ⟨h4, by omega⟩]
      · rfl

theorem fd_s_dtc (M : fd_M) (hV : fd_TV M) (d : Nat) (hd : (d : Int) < M 3 2) : fd_call 3 174 [fd_R 73, fd_I ((d : Nat) : Int)] M (some (fd_I (fd_dtc M d))) M := by
  refine fd_u_in (L := [fd_R 73, fd_I ((d : Nat) : Int), fd_R 1003, fd_R 1003]) rfl ?_
  obtain ⟨hG, v1, v2, v3⟩ := hV
  obtain ⟨g0, g1, g2, g3, g4, g5⟩ := hG.1
  have q1 := v1 d
  have q2 := v2 (((d : Nat) : Int) * 4 + M 76 d).toNat (by omega)
  have q3 := v1 (M 74 (((d : Nat) : Int) * 4 + M 76 d).toNat).toNat
  have p1 := fd_pf_rng hG d
  refine fd_u_blk 14 (C := fd_c174) (b := (fd_inb ((d : Nat) : Int) 6 && (fd_inb ((((d : Nat) : Int) * 4) + (M 76 d)) 24 && true))) (L' := [fd_R 73, fd_I ((d : Nat) : Int), fd_I (M 74 ((((d : Nat) : Int) * 4) + (M 76 d)).toNat), fd_R 1003]) (st' := [fd_I (-1), fd_I (M 74 ((((d : Nat) : Int) * 4) + (M 76 d)).toNat)]) (M' := M) rfl rfl (j := 14) rfl (fd_bA (fd_bI (by omega) (by omega)) (fd_bA (fd_bI (by omega) (by omega)) (rfl))) ?_
  refine fd_u_br (C := fd_c174) (t := 17) (e := 15) (st' := []) (c := ¬ (M 74 ((((d : Nat) : Int) * 4) + (M 76 d)).toNat) = (-1)) (b := (fd_rng (M 74 ((((d : Nat) : Int) * 4) + (M 76 d)).toNat) && fd_rng (-1))) rfl rfl rfl (fd_bA (fd_bR (by omega) (by omega)) (fd_bR (by omega) (by omega))) (fun h14 => ?_) (fun h14 => ?_)
  · refine fd_u_blk 2 (C := fd_c174) (b := true) (L' := [fd_R 73, fd_I ((d : Nat) : Int), fd_I (M 74 ((((d : Nat) : Int) * 4) + (M 76 d)).toNat), fd_R 1003]) (st' := [fd_I ((d : Nat) : Int), fd_R 73]) (M' := M) rfl rfl (j := 19) rfl (rfl) ?_
    refine fd_u_call (C := fd_c174) (d0 := 2) (mid := 175) (np := 2) (args := [fd_R 73, fd_I ((d : Nat) : Int)]) (r1 := some (fd_I (fd_pf M d))) (M1 := M) (st' := [fd_I (fd_pf M d)]) rfl rfl rfl rfl rfl rfl (rfl) (fd_s_priceFor M hG ((d : Nat) : Int) (by omega)) rfl (by omega) ?_
    refine fd_u_blk 3 (C := fd_c174) (b := true) (L' := [fd_R 73, fd_I ((d : Nat) : Int), fd_I (M 74 ((((d : Nat) : Int) * 4) + (M 76 d)).toNat), fd_I (fd_pf M d)]) (st' := [fd_I ((d : Nat) : Int), fd_I (M 74 ((((d : Nat) : Int) * 4) + (M 76 d)).toNat)]) (M' := M) rfl rfl (j := 23) rfl (rfl) ?_
    refine fd_u_br (C := fd_c174) (t := 44) (e := 24) (st' := []) (c := ((d : Nat) : Int) ≤ (M 74 ((((d : Nat) : Int) * 4) + (M 76 d)).toNat)) (b := (fd_rng (M 74 ((((d : Nat) : Int) * 4) + (M 76 d)).toNat) && fd_rng ((d : Nat) : Int))) rfl rfl rfl (fd_bA (fd_bR (by omega) (by omega)) (fd_bR (by omega) (by omega))) (fun h23 => ?_) (fun h23 => ?_)
    · refine fd_u_blk 1 (C := fd_c174) (b := true) (L' := [fd_R 73, fd_I ((d : Nat) : Int), fd_I (M 74 ((((d : Nat) : Int) * 4) + (M 76 d)).toNat), fd_I (fd_pf M d)]) (st' := [fd_I (fd_pf M d)]) (M' := M) rfl rfl (j := 45) rfl (rfl) ?_
      refine fd_u_ret (C := fd_c174) (b := true) (r' := some (fd_I (fd_pf M d))) rfl rfl rfl (rfl) ?_ ?_
      · unfold fd_dtc
        first | rw [if_pos (by omega)] | rw [if_neg (by omega), if_pos (by omega)] | rw [if_neg (by omega), if_neg (by omega)]
      · rfl
    · refine fd_u_blk 8 (C := fd_c174) (b := (fd_inb (M 74 ((((d : Nat) : Int) * 4) + (M 76 d)).toNat) 6 && (fd_inb ((d : Nat) : Int) 6 && true))) (L' := [fd_R 73, fd_I ((d : Nat) : Int), fd_I (M 74 ((((d : Nat) : Int) * 4) + (M 76 d)).toNat), fd_I (fd_pf M d)]) (st' := [fd_I (M 76 d), fd_I (M 76 (M 74 ((((d : Nat) : Int) * 4) + (M 76 d)).toNat).toNat)]) (M' := M) rfl rfl (j := 32) rfl (fd_bA (fd_bI (by omega) (by omega)) (fd_bA (fd_bI (by omega) (by omega)) (rfl))) ?_
      refine fd_u_call (C := fd_c174) (d0 := 0) (mid := 48) (np := 1) (args := [fd_I (M 76 d)]) (r1 := some (fd_I (((M 76 d) + 2) % 4))) (M1 := M) (st' := [fd_I (((M 76 d) + 2) % 4), fd_I (M 76 (M 74 ((((d : Nat) : Int) * 4) + (M 76 d)).toNat).toNat)]) rfl rfl rfl rfl rfl rfl (rfl) (fd_s_wayBack M (M 76 d) (by omega)) rfl (by omega) ?_
      refine fd_u_br (C := fd_c174) (t := 44) (e := 34) (st' := []) (c := ¬ (M 76 (M 74 ((((d : Nat) : Int) * 4) + (M 76 d)).toNat).toNat) = (((M 76 d) + 2) % 4)) (b := (fd_rng (M 76 (M 74 ((((d : Nat) : Int) * 4) + (M 76 d)).toNat).toNat) && fd_rng (((M 76 d) + 2) % 4))) rfl rfl rfl (fd_bA (fd_bR (by omega) (by omega)) (fd_bR (by omega) (by omega))) (fun h33 => ?_) (fun h33 => ?_)
      · refine fd_u_blk 1 (C := fd_c174) (b := true) (L' := [fd_R 73, fd_I ((d : Nat) : Int), fd_I (M 74 ((((d : Nat) : Int) * 4) + (M 76 d)).toNat), fd_I (fd_pf M d)]) (st' := [fd_I (fd_pf M d)]) (M' := M) rfl rfl (j := 45) rfl (rfl) ?_
        refine fd_u_ret (C := fd_c174) (b := true) (r' := some (fd_I (fd_pf M d))) rfl rfl rfl (rfl) ?_ ?_
        · unfold fd_dtc
          first | rw [if_pos (by omega)] | rw [if_neg (by omega), if_pos (by omega)] | rw [if_neg (by omega), if_neg (by omega)]
        · rfl
      · refine fd_u_blk 3 (C := fd_c174) (b := true) (L' := [fd_R 73, fd_I ((d : Nat) : Int), fd_I (M 74 ((((d : Nat) : Int) * 4) + (M 76 d)).toNat), fd_I (fd_pf M d)]) (st' := [fd_I ((d : Nat) : Int), fd_R 73, fd_I (fd_pf M d)]) (M' := M) rfl rfl (j := 37) rfl (rfl) ?_
        refine fd_u_call (C := fd_c174) (d0 := 2) (mid := 175) (np := 2) (args := [fd_R 73, fd_I ((d : Nat) : Int)]) (r1 := some (fd_I (fd_pf M d))) (M1 := M) (st' := [fd_I (fd_pf M d), fd_I (fd_pf M d)]) rfl rfl rfl rfl rfl rfl (rfl) (fd_s_priceFor M hG ((d : Nat) : Int) (by omega)) rfl (by omega) ?_
        refine fd_u_blk 2 (C := fd_c174) (b := true) (L' := [fd_R 73, fd_I ((d : Nat) : Int), fd_I (M 74 ((((d : Nat) : Int) * 4) + (M 76 d)).toNat), fd_I (fd_pf M d)]) (st' := [fd_I (M 74 ((((d : Nat) : Int) * 4) + (M 76 d)).toNat), fd_R 73, fd_I (fd_pf M d), fd_I (fd_pf M d)]) (M' := M) rfl rfl (j := 40) rfl (rfl) ?_
        refine fd_u_call (C := fd_c174) (d0 := 2) (mid := 175) (np := 2) (args := [fd_R 73, fd_I (M 74 ((((d : Nat) : Int) * 4) + (M 76 d)).toNat)]) (r1 := some (fd_I (fd_pf M (M 74 ((((d : Nat) : Int) * 4) + (M 76 d)).toNat).toNat))) (M1 := M) (st' := [fd_I (fd_pf M (M 74 ((((d : Nat) : Int) * 4) + (M 76 d)).toNat).toNat), fd_I (fd_pf M d), fd_I (fd_pf M d)]) rfl rfl rfl rfl rfl rfl (rfl) (fd_s_priceFor M hG (M 74 ((((d : Nat) : Int) * 4) + (M 76 d)).toNat) (by omega)) rfl (by omega) ?_
        refine fd_u_blk 4 (C := fd_c174) (b := true) (L' := [fd_R 73, fd_I ((d : Nat) : Int), fd_I (M 74 ((((d : Nat) : Int) * 4) + (M 76 d)).toNat), fd_I ((fd_pf M d) + ((fd_pf M d) + (fd_pf M (M 74 ((((d : Nat) : Int) * 4) + (M 76 d)).toNat).toNat)))]) (st' := [fd_I ((fd_pf M d) + ((fd_pf M d) + (fd_pf M (M 74 ((((d : Nat) : Int) * 4) + (M 76 d)).toNat).toNat)))]) (M' := M) rfl rfl (j := 45) rfl (rfl) ?_
        refine fd_u_ret (C := fd_c174) (b := true) (r' := some (fd_I ((fd_pf M d) + ((fd_pf M d) + (fd_pf M (M 74 ((((d : Nat) : Int) * 4) + (M 76 d)).toNat).toNat))))) rfl rfl rfl (rfl) ?_ ?_
        · unfold fd_dtc
          first | rw [if_pos (by omega)] | rw [if_neg (by omega), if_pos (by omega)] | rw [if_neg (by omega), if_neg (by omega)]
        · rfl
  · refine fd_u_blk 1 (C := fd_c174) (b := true) (L' := [fd_R 73, fd_I ((d : Nat) : Int), fd_I (M 74 ((((d : Nat) : Int) * 4) + (M 76 d)).toNat), fd_R 1003]) (st' := [fd_I 0]) (M' := M) rfl rfl (j := 16) rfl (rfl) ?_
    refine fd_u_ret (C := fd_c174) (b := true) (r' := some (fd_I 0)) rfl rfl rfl (rfl) ?_ ?_
    · unfold fd_dtc
      first | rw [if_pos (by omega)] | rw [if_neg (by omega), if_pos (by omega)] | rw [if_neg (by omega), if_neg (by omega)]
    · rfl

def fd_stp (rec : Int → Int → fd_M → fd_M) (d : Nat) (due tu : Int) (k : Nat) (M : fd_M) : fd_M := if M 75 ((d : Int) * 4 + (k : Int)).toNat = 0 then M else rec (due + fd_dtc (fd_up M 76 d (k : Int)) d) (tu + (if (k : Int) = M 17 d then 0 else 1)) (fd_up M 76 d (k : Int))
def fd_eac (f : Nat → fd_M → fd_M) : Nat → Nat → fd_M → fd_M
  | 0, _, M => M
  | n + 1, k, M => fd_eac f n (k + 1) (f k M)
def fd_cho : Nat → Nat → Int → Int → fd_M → fd_M
  | 0, _, due, tu, M => if fd_bet M due tu then fd_tk M due tu else M
  | n + 1, d, due, tu, M => if fd_bet M due tu then fd_eac (fd_stp (fd_cho n (d + 1)) d due tu) 4 0 M else M
def fd_sam (M N : fd_M) : Prop := ∀ c : Nat, c ≠ 73 → c ≠ 76 → c ≠ 77 → N c = M c
theorem fd_sam_ch (M : fd_M) (d : Nat) (v : Int) : fd_sam M (fd_up M 76 d v) := fun c _ h _ => fd_up_ne h
theorem fd_sam_tr {M N K : fd_M} (h : fd_sam M N) (h2 : fd_sam N K) : fd_sam M K := fun c a b e => (h2 c a b e).trans (h c a b e)
def fd_RecOk (dd : Nat) (d : Nat) (D : Int) (rec : Int → Int → fd_M → fd_M) : Prop := ∀ (M : fd_M) (due tu : Int), fd_TV M → M 3 2 = D → 0 ≤ due ∧ due ≤ 54 * d → 0 ≤ tu ∧ tu ≤ d → fd_call dd 171 [fd_R 73, fd_I (d : Int), fd_I due, fd_I tu] M none (rec due tu M) ∧ fd_TV (rec due tu M) ∧ fd_sam M (rec due tu M)
theorem fd_l_each4 (dd d : Nat) (D : Int) (rec : Int → Int → fd_M → fd_M) (hr : fd_RecOk dd (d + 1) D rec) (hdd : 4 ≤ dd) (hdD : (d : Int) < D) (hD6 : D ≤ 6) (due tu : Int) (hdu : 0 ≤ due ∧ due ≤ 54 * d) (htu : 0 ≤ tu ∧ tu ≤ d) : ∀ (n : Nat) (k : Nat) (M : fd_M) (hV : fd_TV M) (hD : M 3 2 = D) (hk : k + n = 4), fd_run (dd + 1) 172 2 [fd_R 73, fd_I ((d : Nat) : Int), fd_I due, fd_I tu, fd_I ((k : Nat) : Int)] [] M (none) (fd_eac (fd_stp rec d due tu) n k M) := by
  intro n
  induction n with
  | zero =>
    intro k M hV hD hk
    refine fd_u_blk 2 (C := fd_c172) (b := true) (L' := [fd_R 73, fd_I ((d : Nat) : Int), fd_I due, fd_I tu, fd_I ((k : Nat) : Int)]) (st' := [fd_I 4, fd_I ((k : Nat) : Int)]) (M' := M) rfl rfl (j := 4) rfl (rfl) ?_
    refine fd_u_br (C := fd_c172) (t := 44) (e := 5) (st' := []) (c := 4 ≤ ((k : Nat) : Int)) (b := (fd_rng ((k : Nat) : Int) && fd_rng 4)) rfl rfl rfl (fd_bA (fd_bR (by omega) (by omega)) (fd_bR (by omega) (by omega))) (fun h4 => ?_) (fun h4 => absurd h4 (by omega))
    refine fd_u_ret (C := fd_c172) (b := true) (r' := none) rfl rfl rfl (rfl) ?_ ?_
    · rfl
    · rfl
  | succ n ih =>
    intro k M hV hD hk
    have v2 := hV.2.2.1 (((d : Nat) : Int) * 4 + ((k : Nat) : Int)).toNat (by omega)
    have s3 := hV.1.2.2.2.1 d
    simp only [Nat.reduceAdd] at s3
    refine fd_u_blk 2 (C := fd_c172) (b := true) (L' := [fd_R 73, fd_I ((d : Nat) : Int), fd_I due, fd_I tu, fd_I ((k : Nat) : Int)]) (st' := [fd_I 4, fd_I ((k : Nat) : Int)]) (M' := M) rfl rfl (j := 4) rfl (rfl) ?_
    refine fd_u_br (C := fd_c172) (t := 44) (e := 5) (st' := []) (c := 4 ≤ ((k : Nat) : Int)) (b := (fd_rng ((k : Nat) : Int) && fd_rng 4)) rfl rfl rfl (fd_bA (fd_bR (by omega) (by omega)) (fd_bR (by omega) (by omega))) (fun h4 => absurd h4 (by omega)) (fun h4 => ?_)
    refine fd_u_blk 8 (C := fd_c172) (b := ((false || fd_inb ((((d : Nat) : Int) * 4) + ((k : Nat) : Int)) 24) && true)) (L' := [fd_R 73, fd_I ((d : Nat) : Int), fd_I due, fd_I tu, fd_I ((k : Nat) : Int)]) (st' := [fd_I (M 75 ((((d : Nat) : Int) * 4) + ((k : Nat) : Int)).toNat)]) (M' := M) rfl rfl (j := 13) rfl (fd_bA (by rw [fd_bI (i := ((((d : Nat) : Int) * 4) + ((k : Nat) : Int))) (n := 24) (by omega) (by omega)]; rfl) (rfl)) ?_
    refine fd_u_br (C := fd_c172) (t := 42) (e := 14) (st' := []) (c := (M 75 ((((d : Nat) : Int) * 4) + ((k : Nat) : Int)).toNat) = 0) (b := (fd_rng (M 75 ((((d : Nat) : Int) * 4) + ((k : Nat) : Int)).toNat))) rfl rfl rfl (fd_bR (by omega) (by omega)) (fun h13 => ?_) (fun h13 => ?_)
    · refine fd_u_blk 1 (C := fd_c172) (b := true) (L' := [fd_R 73, fd_I ((d : Nat) : Int), fd_I due, fd_I tu, fd_I (((k + 1) : Nat) : Int)]) (st' := []) (M' := M) rfl rfl (j := 43) rfl (rfl) ?_
      refine fd_u_jmp (C := fd_c172) (j := 2) (st' := []) rfl rfl (b := true) rfl rfl ?_
      have e5 : fd_stp rec d due tu k M = M := by
        unfold fd_stp
        rw [if_pos (by omega)]
      show fd_run _ _ _ _ _ _ _ (fd_eac _ n (k + 1) (fd_stp rec d due tu k M))
      rw [e5]
      exact ih (k + 1) M hV hD (by omega)
    · refine fd_u_blk 12 (C := fd_c172) (b := (fd_inb ((d : Nat) : Int) 6 && true)) (L' := [fd_R 73, fd_I ((d : Nat) : Int), fd_I due, fd_I tu, fd_I ((k : Nat) : Int)]) (st' := [fd_I ((d : Nat) : Int), fd_R 73, fd_I due, fd_I (((d : Nat) : Int) + 1), fd_R 73]) (M' := (fd_up M 76 d ((k : Nat) : Int))) rfl rfl (j := 26) rfl (fd_bA (fd_bI (by omega) (by omega)) (rfl)) ?_
      have hV2 : fd_TV (fd_up M 76 d ((k : Nat) : Int)) := fd_TV_ch hV d (by omega)
      refine fd_u_call (C := fd_c172) (d0 := 3) (mid := 174) (np := 2) (args := [fd_R 73, fd_I ((d : Nat) : Int)]) (r1 := some (fd_I (fd_dtc (fd_up M 76 d ((k : Nat) : Int)) d))) (M1 := (fd_up M 76 d ((k : Nat) : Int))) (st' := [fd_I (fd_dtc (fd_up M 76 d ((k : Nat) : Int)) d), fd_I due, fd_I (((d : Nat) : Int) + 1), fd_R 73]) rfl rfl rfl rfl rfl rfl (rfl) (fd_s_dtc (fd_up M 76 d ((k : Nat) : Int)) hV2 d (show (d : Int) < M 3 2 by omega)) rfl (by omega) ?_
      have dr := fd_dtc_rng hV2.1 d
      refine fd_u_blk 8 (C := fd_c172) (b := (fd_inb ((d : Nat) : Int) 6 && true)) (L' := [fd_R 73, fd_I ((d : Nat) : Int), fd_I due, fd_I tu, fd_I ((k : Nat) : Int)]) (st' := [fd_I (M 17 d), fd_I ((k : Nat) : Int), fd_I tu, fd_I (due + (fd_dtc (fd_up M 76 d ((k : Nat) : Int)) d)), fd_I (((d : Nat) : Int) + 1), fd_R 73]) (M' := (fd_up M 76 d ((k : Nat) : Int))) rfl rfl (j := 35) rfl (fd_bA (fd_bI (by omega) (by omega)) (rfl)) ?_
      refine fd_u_br (C := fd_c172) (t := 38) (e := 36) (st' := [fd_I tu, fd_I (due + (fd_dtc (fd_up M 76 d ((k : Nat) : Int)) d)), fd_I (((d : Nat) : Int) + 1), fd_R 73]) (c := ((k : Nat) : Int) = (M 17 d)) (b := (fd_rng ((k : Nat) : Int) && fd_rng (M 17 d))) rfl rfl rfl (fd_bA (fd_bR (by omega) (by omega)) (fd_bR (by omega) (by omega))) (fun h35 => ?_) (fun h35 => ?_)
      · refine fd_u_blk 1 (C := fd_c172) (b := true) (L' := [fd_R 73, fd_I ((d : Nat) : Int), fd_I due, fd_I tu, fd_I ((k : Nat) : Int)]) (st' := [fd_I 0, fd_I tu, fd_I (due + (fd_dtc (fd_up M 76 d ((k : Nat) : Int)) d)), fd_I (((d : Nat) : Int) + 1), fd_R 73]) (M' := (fd_up M 76 d ((k : Nat) : Int))) rfl rfl (j := 39) rfl (rfl) ?_
        refine fd_u_call (C := fd_c172) (d0 := 0) (mid := 43) (np := 1) (args := [fd_I 0]) (r1 := some (fd_I 0)) (M1 := (fd_up M 76 d ((k : Nat) : Int))) (st' := [fd_I 0, fd_I tu, fd_I (due + (fd_dtc (fd_up M 76 d ((k : Nat) : Int)) d)), fd_I (((d : Nat) : Int) + 1), fd_R 73]) rfl rfl rfl rfl rfl rfl (rfl) (fd_s_flag (fd_up M 76 d ((k : Nat) : Int)) 0 (by omega)) rfl (by omega) ?_
        refine fd_u_blk 1 (C := fd_c172) (b := true) (L' := [fd_R 73, fd_I ((d : Nat) : Int), fd_I due, fd_I tu, fd_I ((k : Nat) : Int)]) (st' := [fd_I (tu + 0), fd_I (due + (fd_dtc (fd_up M 76 d ((k : Nat) : Int)) d)), fd_I (((d : Nat) : Int) + 1), fd_R 73]) (M' := (fd_up M 76 d ((k : Nat) : Int))) rfl rfl (j := 41) rfl (rfl) ?_
        have hV2 : fd_TV (fd_up M 76 d ((k : Nat) : Int)) := fd_TV_ch hV d (by omega)
        obtain ⟨c1, c2, c3⟩ := hr (fd_up M 76 d ((k : Nat) : Int)) (due + (fd_dtc (fd_up M 76 d ((k : Nat) : Int)) d)) (tu + 0) hV2 hD (by omega) (by omega)
        refine fd_u_call (C := fd_c172) (d0 := dd) (mid := 171) (np := 4) (args := [fd_R 73, fd_I (((d : Nat) : Int) + 1), fd_I (due + (fd_dtc (fd_up M 76 d ((k : Nat) : Int)) d)), fd_I (tu + 0)]) (r1 := none) (M1 := (rec (due + (fd_dtc (fd_up M 76 d ((k : Nat) : Int)) d)) (tu + 0) (fd_up M 76 d ((k : Nat) : Int)))) (st' := []) rfl rfl rfl rfl rfl rfl (rfl) (c1) rfl (by omega) ?_
        refine fd_u_blk 1 (C := fd_c172) (b := true) (L' := [fd_R 73, fd_I ((d : Nat) : Int), fd_I due, fd_I tu, fd_I (((k + 1) : Nat) : Int)]) (st' := []) (M' := (rec (due + (fd_dtc (fd_up M 76 d ((k : Nat) : Int)) d)) (tu + 0) (fd_up M 76 d ((k : Nat) : Int)))) rfl rfl (j := 43) rfl (rfl) ?_
        refine fd_u_jmp (C := fd_c172) (j := 2) (st' := []) rfl rfl (b := true) rfl rfl ?_
        have e5 : fd_stp rec d due tu k M = (rec (due + (fd_dtc (fd_up M 76 d ((k : Nat) : Int)) d)) (tu + 0) (fd_up M 76 d ((k : Nat) : Int))) := by
          unfold fd_stp
          rw [if_neg (by omega), if_pos (by omega)]
        show fd_run _ _ _ _ _ _ _ (fd_eac _ n (k + 1) (fd_stp rec d due tu k M))
        rw [e5]
        exact ih (k + 1) _ c2 (by rw [c3 3 (by decide) (by decide) (by decide)]; exact hD) (by omega)
      · refine fd_u_blk 1 (C := fd_c172) (b := true) (L' := [fd_R 73, fd_I ((d : Nat) : Int), fd_I due, fd_I tu, fd_I ((k : Nat) : Int)]) (st' := [fd_I 1, fd_I tu, fd_I (due + (fd_dtc (fd_up M 76 d ((k : Nat) : Int)) d)), fd_I (((d : Nat) : Int) + 1), fd_R 73]) (M' := (fd_up M 76 d ((k : Nat) : Int))) rfl rfl (j := 37) rfl (rfl) ?_
        refine fd_u_jmp (C := fd_c172) (j := 39) (st' := [fd_I 1, fd_I tu, fd_I (due + (fd_dtc (fd_up M 76 d ((k : Nat) : Int)) d)), fd_I (((d : Nat) : Int) + 1), fd_R 73]) rfl rfl (b := true) rfl rfl ?_
        refine fd_u_call (C := fd_c172) (d0 := 0) (mid := 43) (np := 1) (args := [fd_I 1]) (r1 := some (fd_I 1)) (M1 := (fd_up M 76 d ((k : Nat) : Int))) (st' := [fd_I 1, fd_I tu, fd_I (due + (fd_dtc (fd_up M 76 d ((k : Nat) : Int)) d)), fd_I (((d : Nat) : Int) + 1), fd_R 73]) rfl rfl rfl rfl rfl rfl (rfl) (fd_s_flag (fd_up M 76 d ((k : Nat) : Int)) 1 (by omega)) rfl (by omega) ?_
        refine fd_u_blk 1 (C := fd_c172) (b := true) (L' := [fd_R 73, fd_I ((d : Nat) : Int), fd_I due, fd_I tu, fd_I ((k : Nat) : Int)]) (st' := [fd_I (tu + 1), fd_I (due + (fd_dtc (fd_up M 76 d ((k : Nat) : Int)) d)), fd_I (((d : Nat) : Int) + 1), fd_R 73]) (M' := (fd_up M 76 d ((k : Nat) : Int))) rfl rfl (j := 41) rfl (rfl) ?_
        have hV2 : fd_TV (fd_up M 76 d ((k : Nat) : Int)) := fd_TV_ch hV d (by omega)
        obtain ⟨c1, c2, c3⟩ := hr (fd_up M 76 d ((k : Nat) : Int)) (due + (fd_dtc (fd_up M 76 d ((k : Nat) : Int)) d)) (tu + 1) hV2 hD (by omega) (by omega)
        refine fd_u_call (C := fd_c172) (d0 := dd) (mid := 171) (np := 4) (args := [fd_R 73, fd_I (((d : Nat) : Int) + 1), fd_I (due + (fd_dtc (fd_up M 76 d ((k : Nat) : Int)) d)), fd_I (tu + 1)]) (r1 := none) (M1 := (rec (due + (fd_dtc (fd_up M 76 d ((k : Nat) : Int)) d)) (tu + 1) (fd_up M 76 d ((k : Nat) : Int)))) (st' := []) rfl rfl rfl rfl rfl rfl (rfl) (c1) rfl (by omega) ?_
        refine fd_u_blk 1 (C := fd_c172) (b := true) (L' := [fd_R 73, fd_I ((d : Nat) : Int), fd_I due, fd_I tu, fd_I (((k + 1) : Nat) : Int)]) (st' := []) (M' := (rec (due + (fd_dtc (fd_up M 76 d ((k : Nat) : Int)) d)) (tu + 1) (fd_up M 76 d ((k : Nat) : Int)))) rfl rfl (j := 43) rfl (rfl) ?_
        refine fd_u_jmp (C := fd_c172) (j := 2) (st' := []) rfl rfl (b := true) rfl rfl ?_
        have e5 : fd_stp rec d due tu k M = (rec (due + (fd_dtc (fd_up M 76 d ((k : Nat) : Int)) d)) (tu + 1) (fd_up M 76 d ((k : Nat) : Int))) := by
          unfold fd_stp
          rw [if_neg (by omega), if_neg (by omega)]
        show fd_run _ _ _ _ _ _ _ (fd_eac _ n (k + 1) (fd_stp rec d due tu k M))
        rw [e5]
        exact ih (k + 1) _ c2 (by rw [c3 3 (by decide) (by decide) (by decide)]; exact hD) (by omega)

theorem fd_eac_ok {dd d : Nat} {D : Int} {rec : Int → Int → fd_M → fd_M} (hr : fd_RecOk dd (d + 1) D rec) (hdD : (d : Int) < D) {due tu : Int} (hdu : 0 ≤ due ∧ due ≤ 54 * d) (htu : 0 ≤ tu ∧ tu ≤ d) : ∀ (n k : Nat) (M : fd_M), k + n = 4 → fd_TV M → M 3 2 = D → fd_TV (fd_eac (fd_stp rec d due tu) n k M) ∧ fd_sam M (fd_eac (fd_stp rec d due tu) n k M)
  | 0, k, M, _, hV, _ => ⟨hV, fun _ _ _ _ => rfl⟩
  | n + 1, k, M, hk, hV, hD => by
    show fd_TV (fd_eac _ n (k + 1) (fd_stp rec d due tu k M)) ∧ fd_sam M (fd_eac _ n (k + 1) (fd_stp rec d due tu k M))
    have key : fd_TV (fd_stp rec d due tu k M) ∧ fd_sam M (fd_stp rec d due tu k M) := by
      unfold fd_stp
      split
      · exact ⟨hV, fun _ _ _ _ => rfl⟩
      · have hV2 : fd_TV (fd_up M 76 d (k : Int)) := fd_TV_ch hV d (by omega)
        have dr := fd_dtc_rng hV2.1 d
        obtain ⟨_, c2, c3⟩ := hr (fd_up M 76 d (k : Int)) (due + fd_dtc (fd_up M 76 d (k : Int)) d) (tu + (if (k : Int) = M 17 d then 0 else 1)) hV2 hD (by omega) (by split <;> omega)
        exact ⟨c2, fd_sam_tr (fd_sam_ch M d k) c3⟩
    have z := fd_eac_ok hr hdD hdu htu n (k + 1) _ (by omega) key.1 (by rw [key.2 3 (by decide) (by decide) (by decide)]; exact hD)
    exact ⟨z.1, fd_sam_tr key.2 z.2⟩
theorem fd_s_choose0 (d : Nat) (due tu : Int) (M : fd_M) (hV : fd_TV M) (hd6 : d ≤ 6) (hdu : 0 ≤ due ∧ due ≤ 1000) (htu : 0 ≤ tu ∧ tu ≤ 1000) (hD : M 3 2 = d) : fd_call 10 171 [fd_R 73, fd_I ((d : Nat) : Int), fd_I due, fd_I tu] M (none) (if fd_bet M due tu then fd_tk M due tu else M) := by
  refine fd_u_in (L := [fd_R 73, fd_I ((d : Nat) : Int), fd_I due, fd_I tu]) rfl ?_
  refine fd_u_blk 3 (C := fd_c171) (b := true) (L' := [fd_R 73, fd_I ((d : Nat) : Int), fd_I due, fd_I tu]) (st' := [fd_I tu, fd_I due, fd_R 73]) (M' := M) rfl rfl (j := 3) rfl (rfl) ?_
  refine fd_u_call (C := fd_c171) (d0 := 0) (mid := 173) (np := 3) (args := [fd_R 73, fd_I due, fd_I tu]) (r1 := some (fd_I (fd_bi (fd_bet M due tu)))) (M1 := M) (st' := [fd_I (fd_bi (fd_bet M due tu))]) rfl rfl rfl rfl rfl rfl (rfl) (fd_s_isBetter M hV due tu (by omega) (by omega)) rfl (by omega) ?_
  refine fd_u_br (C := fd_c171) (t := 6) (e := 5) (st' := []) (c := ¬ (fd_bi (fd_bet M due tu)) = 0) (b := (fd_rng (fd_bi (fd_bet M due tu)))) rfl rfl rfl (fd_biR) (fun h4 => ?_) (fun h4 => ?_)
  · have h4 := fd_biT.mp h4
    refine fd_u_blk 4 (C := fd_c171) (b := true) (L' := [fd_R 73, fd_I ((d : Nat) : Int), fd_I due, fd_I tu]) (st' := [fd_I (M 3 2), fd_I ((d : Nat) : Int)]) (M' := M) rfl rfl (j := 10) rfl (rfl) ?_
    refine fd_u_br (C := fd_c171) (t := 20) (e := 11) (st' := []) (c := (M 3 2) ≤ ((d : Nat) : Int)) (b := (fd_rng ((d : Nat) : Int) && fd_rng (M 3 2))) rfl rfl rfl (fd_bA (fd_bR (by omega) (by omega)) (fd_bR (by omega) (by omega))) (fun h10 => ?_) (fun h10 => absurd h10 (by omega))
    refine fd_u_blk 17 (C := fd_c171) (b := true) (L' := [fd_R 73, fd_I ((d : Nat) : Int), fd_I due, fd_I tu]) (st' := []) (M' := (fd_cp (fd_up (fd_up (fd_up M 73 7 1) 73 8 due) 73 9 tu) 76 0 77 0 6)) rfl rfl (j := 37) rfl (rfl) ?_
    refine fd_u_ret (C := fd_c171) (b := true) (r' := none) rfl rfl rfl (rfl) ?_ ?_
    · rfl
    · first | rw [if_pos h4]; rfl | rw [if_neg h4]
  · have h4 := fd_biF2  h4
    refine fd_u_ret (C := fd_c171) (b := true) (r' := none) rfl rfl rfl (rfl) ?_ ?_
    · rfl
    · first | rw [if_pos h4]; rfl | rw [if_neg h4]

theorem fd_s_chooseS (d : Nat) (due tu : Int) (M : fd_M) (hV : fd_TV M) (hd6 : d ≤ 6) (hdu : 0 ≤ due ∧ due ≤ 1000) (htu : 0 ≤ tu ∧ tu ≤ 1000) (dd : Nat) (hD : (d : Int) < M 3 2) (h6 : M 3 2 ≤ 6) (N : fd_M) (hN : fd_call (dd + 1) 172 [fd_R 73, fd_I (d : Int), fd_I due, fd_I tu] M none N) : fd_call (dd + 2) 171 [fd_R 73, fd_I ((d : Nat) : Int), fd_I due, fd_I tu] M (none) (if fd_bet M due tu then N else M) := by
  refine fd_u_in (L := [fd_R 73, fd_I ((d : Nat) : Int), fd_I due, fd_I tu]) rfl ?_
  refine fd_u_blk 3 (C := fd_c171) (b := true) (L' := [fd_R 73, fd_I ((d : Nat) : Int), fd_I due, fd_I tu]) (st' := [fd_I tu, fd_I due, fd_R 73]) (M' := M) rfl rfl (j := 3) rfl (rfl) ?_
  refine fd_u_call (C := fd_c171) (d0 := 0) (mid := 173) (np := 3) (args := [fd_R 73, fd_I due, fd_I tu]) (r1 := some (fd_I (fd_bi (fd_bet M due tu)))) (M1 := M) (st' := [fd_I (fd_bi (fd_bet M due tu))]) rfl rfl rfl rfl rfl rfl (rfl) (fd_s_isBetter M hV due tu (by omega) (by omega)) rfl (by omega) ?_
  refine fd_u_br (C := fd_c171) (t := 6) (e := 5) (st' := []) (c := ¬ (fd_bi (fd_bet M due tu)) = 0) (b := (fd_rng (fd_bi (fd_bet M due tu)))) rfl rfl rfl (fd_biR) (fun h4 => ?_) (fun h4 => ?_)
  · have h4 := fd_biT.mp h4
    refine fd_u_blk 4 (C := fd_c171) (b := true) (L' := [fd_R 73, fd_I ((d : Nat) : Int), fd_I due, fd_I tu]) (st' := [fd_I (M 3 2), fd_I ((d : Nat) : Int)]) (M' := M) rfl rfl (j := 10) rfl (rfl) ?_
    refine fd_u_br (C := fd_c171) (t := 20) (e := 11) (st' := []) (c := (M 3 2) ≤ ((d : Nat) : Int)) (b := (fd_rng ((d : Nat) : Int) && fd_rng (M 3 2))) rfl rfl rfl (fd_bA (fd_bR (by omega) (by omega)) (fd_bR (by omega) (by omega))) (fun h10 => absurd h10 (by omega)) (fun h10 => ?_)
    refine fd_u_blk 2 (C := fd_c171) (b := true) (L' := [fd_R 73, fd_I ((d : Nat) : Int), fd_I due, fd_I tu]) (st' := [fd_I 6, fd_I ((d : Nat) : Int)]) (M' := M) rfl rfl (j := 13) rfl (rfl) ?_
    refine fd_u_br (C := fd_c171) (t := 20) (e := 14) (st' := []) (c := 6 ≤ ((d : Nat) : Int)) (b := (fd_rng ((d : Nat) : Int) && fd_rng 6)) rfl rfl rfl (fd_bA (fd_bR (by omega) (by omega)) (fd_bR (by omega) (by omega))) (fun h13 => absurd h13 (by omega)) (fun h13 => ?_)
    refine fd_u_blk 4 (C := fd_c171) (b := true) (L' := [fd_R 73, fd_I ((d : Nat) : Int), fd_I due, fd_I tu]) (st' := [fd_I tu, fd_I due, fd_I ((d : Nat) : Int), fd_R 73]) (M' := M) rfl rfl (j := 18) rfl (rfl) ?_
    refine fd_u_call (C := fd_c171) (d0 := (dd + 1)) (mid := 172) (np := 4) (args := [fd_R 73, fd_I ((d : Nat) : Int), fd_I due, fd_I tu]) (r1 := none) (M1 := N) (st' := []) rfl rfl rfl rfl rfl rfl (rfl) (hN) rfl (by omega) ?_
    refine fd_u_ret (C := fd_c171) (b := true) (r' := none) rfl rfl rfl (rfl) ?_ ?_
    · rfl
    · first | rw [if_pos h4] | rw [if_neg h4]
  · have h4 := fd_biF2  h4
    refine fd_u_ret (C := fd_c171) (b := true) (r' := none) rfl rfl rfl (rfl) ?_ ?_
    · rfl
    · first | rw [if_pos h4] | rw [if_neg h4]

theorem fd_s_each4 (dd d : Nat) (D : Int) (rec : Int → Int → fd_M → fd_M) (hr : fd_RecOk dd (d + 1) D rec) (hdd : 4 ≤ dd) (hdD : (d : Int) < D) (hD6 : D ≤ 6) (due tu : Int) (hdu : 0 ≤ due ∧ due ≤ 54 * d) (htu : 0 ≤ tu ∧ tu ≤ d) (M : fd_M) (hV : fd_TV M) (hD : M 3 2 = D) : fd_call (dd + 1) 172 [fd_R 73, fd_I ((d : Nat) : Int), fd_I due, fd_I tu] M (none) (fd_eac (fd_stp rec d due tu) 4 0 M) := by
  refine fd_u_in (L := [fd_R 73, fd_I ((d : Nat) : Int), fd_I due, fd_I tu, fd_R 1003]) rfl ?_
  refine fd_u_blk 2 (C := fd_c172) (b := true) (L' := [fd_R 73, fd_I ((d : Nat) : Int), fd_I due, fd_I tu, fd_I 0]) (st' := []) (M' := M) rfl rfl (j := 2) rfl (rfl) ?_
  exact fd_l_each4 dd d D rec hr hdd hdD hD6 due tu hdu htu 4 0 M hV hD (by omega)

theorem fd_cho_ok (D : Int) (hD6 : D ≤ 6) : ∀ (n d : Nat), (d : Int) + n = D → fd_RecOk (10 + 2 * n) d D (fd_cho n d)
  | 0, d, hd => by
    intro M due tu hV hD hdu htu
    refine ⟨fd_s_choose0 d due tu M hV (by omega) (by omega) (by omega) (by omega), ?_, ?_⟩
    · unfold fd_cho
      split
      · exact fd_TV_tk hV (by omega) (by omega)
      · exact hV
    · unfold fd_cho
      split
      · intro c h1 h2 h3
        unfold fd_tk
        funext k
        unfold fd_cp
        rw [if_neg (fun q => h3 q.1), fd_up_ne h1, fd_up_ne h1, fd_up_ne h1]
      · exact fun _ _ _ _ => rfl
  | n + 1, d, hd => by
    intro M due tu hV hD hdu htu
    have hr := fd_cho_ok D hD6 n (d + 1) (by omega)
    have e := fd_s_each4 (10 + 2 * n) d D (fd_cho n (d + 1)) hr (by omega) (by omega) hD6 due tu hdu htu M hV hD
    have k := fd_eac_ok hr (by omega) hdu htu 4 0 M (by omega) hV hD
    refine ⟨fd_s_chooseS d due tu M hV (by omega) (by omega) (by omega) (10 + 2 * n) (by omega) (by omega) _ e, ?_, ?_⟩
    · unfold fd_cho
      split
      · exact k.1
      · exact hV
    · unfold fd_cho
      split
      · exact k.2
      · exact fun _ _ _ _ => rfl

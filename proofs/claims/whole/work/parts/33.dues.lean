theorem fd_nb_cases {r D : Int} (h : r = -9 ∨ (0 ≤ r ∧ r < D)) : (r = -9 ∧ fd_nb r = -1) ∨ (0 ≤ r ∧ r < D ∧ fd_nb r = r) := by
  unfold fd_nb
  rcases h with h | h
  · left; simp [h]
  · right; rw [if_neg (by omega)]; omega
theorem fd_s_wouldSeeI (M : fd_M) (hG : fd_CG M) (d : Int) (hd : 0 ≤ d ∧ d < 6) (w : Int) (hw : 0 ≤ w ∧ w ≤ 3) : fd_call 4 152 [fd_R 72, fd_I d, fd_I w] M (some (fd_I (fd_nb (fd_wsee M d.toNat w)))) M := by
  obtain ⟨n, rfl⟩ := Int.eq_ofNat_of_zero_le hd.1
  exact fd_s_wouldSee M hG n (by omega) w hw
theorem fd_dio_fog {M : fd_M} {d : Nat} (h : M 14 7 = 1) : fd_dio M d = 0 := by
  rw [fd_dio, fd_due, if_pos h, if_pos rfl]
theorem fd_dio_none {M : fd_M} {d : Nat} (h : ¬ M 14 7 = 1) (h2 : fd_wsee M d (M 17 d) = -9) : fd_dio M d = 0 := by
  rw [fd_dio, fd_due, if_neg h, if_pos h2]
theorem fd_dio_st {M : fd_M} {d : Nat} (h : ¬ M 14 7 = 1) (h2 : ¬ fd_wsee M d (M 17 d) = -9) (h3 : M 17 (fd_wsee M d (M 17 d)).toNat = (M 17 d + 2) % 4) : fd_dio M d = 2 * M 3 3 := by
  rw [fd_dio, fd_due, if_neg h, if_neg h2, if_pos h3]
theorem fd_dio_pl {M : fd_M} {d : Nat} (h : ¬ M 14 7 = 1) (h2 : ¬ fd_wsee M d (M 17 d) = -9) (h3 : ¬ M 17 (fd_wsee M d (M 17 d)).toNat = (M 17 d + 2) % 4) : fd_dio M d = M 3 3 := by
  rw [fd_dio, fd_due, if_neg h, if_neg h2, if_neg h3]
theorem fd_dueC_eq {M : fd_M} (hG : fd_CG M) (d : Nat) : fd_dueC M d = if M 14 4 / 2 ^ d % 2 = 1 then fd_dio M d else 0 := by
  unfold fd_dueC fd_dio fd_sw
  by_cases h : M 14 4 / 2 ^ d % 2 = 1
  · rw [if_pos h]
    by_cases h7 : M 14 7 = 1
    · rw [if_pos (Or.inl h7), if_pos h7]
    · rw [if_neg (by simp [h, h7]), if_neg h7]
  · rw [if_neg h, if_pos (Or.inr h), fd_due, if_pos rfl]
theorem fd_s_seesWhom (M : fd_M) (hG : fd_CG M) (d : Int) (hd : 0 ≤ d ∧ d < 6) : fd_call 5 153 [fd_R 72, fd_I d] M (some (fd_I (fd_nb (fd_sw M d.toNat)))) M := by
  refine fd_u_in (L := [fd_R 72, fd_I d]) rfl ?_
  obtain ⟨s1, s2, s3, s4, s5, s6, s7, s8⟩ := hG.2
  have q1 := s1 d.toNat
  have q2 := s2 d.toNat
  have q3 := s3 d.toNat
  have q4 := s4 d.toNat
  simp only [Nat.reduceAdd] at q1 q2 q3 q4
  refine fd_u_blk 3 (C := fd_c153) (b := true) (L' := [fd_R 72, fd_I d]) (st' := [fd_I (M 14 7)]) (M' := M) rfl rfl (j := 3) rfl (rfl) ?_
  refine fd_u_br (C := fd_c153) (t := 9) (e := 4) (st' := []) (c := ¬ (M 14 7) = 0) (b := (fd_rng (M 14 7))) rfl rfl rfl (fd_bR (by omega) (by omega)) (fun h3 => ?_) (fun h3 => ?_)
  · refine fd_u_blk 1 (C := fd_c153) (b := true) (L' := [fd_R 72, fd_I d]) (st' := [fd_I (-1)]) (M' := M) rfl rfl (j := 10) rfl (rfl) ?_
    refine fd_u_jmp (C := fd_c153) (j := 19) (st' := [fd_I (-1)]) rfl rfl (b := true) rfl rfl ?_
    refine fd_u_ret (C := fd_c153) (b := true) (r' := some (fd_I (-1))) rfl rfl rfl (rfl) ?_ ?_
    · rw [fd_sw, if_pos (by omega)]; rfl
    · rfl
  · refine fd_u_blk 3 (C := fd_c153) (b := true) (L' := [fd_R 72, fd_I d]) (st' := [fd_I d, fd_R 14]) (M' := M) rfl rfl (j := 7) rfl (rfl) ?_
    refine fd_u_call (C := fd_c153) (d0 := 1) (mid := 144) (np := 2) (args := [fd_R 14, fd_I d]) (r1 := some (fd_I (fd_bi (M 14 4 / 2 ^ (d).toNat % 2 = 1)))) (M1 := M) (st' := [fd_I (fd_bi (M 14 4 / 2 ^ (d).toNat % 2 = 1))]) rfl rfl rfl rfl rfl rfl (rfl) (fd_s_isOpen M hG d (by omega)) rfl (by omega) ?_
    refine fd_u_br (C := fd_c153) (t := 11) (e := 9) (st' := []) (c := ¬ (fd_bi (M 14 4 / 2 ^ (d).toNat % 2 = 1)) = 0) (b := (fd_rng (fd_bi (M 14 4 / 2 ^ (d).toNat % 2 = 1)))) rfl rfl rfl (fd_biR) (fun h8 => ?_) (fun h8 => ?_)
    · have h8 := fd_biT.mp h8
      refine fd_u_blk 7 (C := fd_c153) (b := (fd_inb d 6 && true)) (L' := [fd_R 72, fd_I d]) (st' := [fd_I (M 17 (d).toNat), fd_I d, fd_R 72]) (M' := M) rfl rfl (j := 18) rfl (fd_bA (fd_bI (by omega) (by omega)) (rfl)) ?_
      refine fd_u_call (C := fd_c153) (d0 := 4) (mid := 152) (np := 3) (args := [fd_R 72, fd_I d, fd_I (M 17 (d).toNat)]) (r1 := some (fd_I (fd_nb (fd_wsee M (d).toNat (M 17 (d).toNat))))) (M1 := M) (st' := [fd_I (fd_nb (fd_wsee M (d).toNat (M 17 (d).toNat)))]) rfl rfl rfl rfl rfl rfl (rfl) (fd_s_wouldSeeI M hG d (by omega) (M 17 (d).toNat) (by omega)) rfl (by omega) ?_
      have qn := fd_nb_cases (fd_wsee_rng hG (d).toNat (M 17 (d).toNat))
      refine fd_u_ret (C := fd_c153) (b := true) (r' := some (fd_I (fd_nb (fd_wsee M (d).toNat (M 17 (d).toNat))))) rfl rfl rfl (rfl) ?_ ?_
      · rw [fd_sw, if_neg (by omega)]
      · rfl
    · have h8 := fd_biF2  h8
      refine fd_u_blk 1 (C := fd_c153) (b := true) (L' := [fd_R 72, fd_I d]) (st' := [fd_I (-1)]) (M' := M) rfl rfl (j := 10) rfl (rfl) ?_
      refine fd_u_jmp (C := fd_c153) (j := 19) (st' := [fd_I (-1)]) rfl rfl (b := true) rfl rfl ?_
      refine fd_u_ret (C := fd_c153) (b := true) (r' := some (fd_I (-1))) rfl rfl rfl (rfl) ?_ ?_
      · rw [fd_sw, if_pos (by omega)]; rfl
      · rfl

theorem fd_s_dueIfOpen (M : fd_M) (hG : fd_CG M) (d : Int) (hd : 0 ≤ d ∧ d < 6) : fd_call 5 155 [fd_R 72, fd_I d] M (some (fd_I (fd_dio M d.toNat))) M := by
  refine fd_u_in (L := [fd_R 72, fd_I d, fd_R 1003, fd_R 1003]) rfl ?_
  obtain ⟨g0, g1, g2, g3, g4, g5⟩ := hG.1
  obtain ⟨s1, s2, s3, s4, s5, s6, s7, s8⟩ := hG.2
  have q1 := s1 d.toNat
  have q2 := s2 d.toNat
  have q3 := s3 d.toNat
  have q4 := s4 d.toNat
  simp only [Nat.reduceAdd] at q1 q2 q3 q4
  have q9 := s3 (fd_nb (fd_wsee M d.toNat (M 17 d.toNat))).toNat
  have q8 := s3 (-1 : Int).toNat
  simp only [Nat.reduceAdd] at q9 q8
  refine fd_u_blk 3 (C := fd_c155) (b := true) (L' := [fd_R 72, fd_I d, fd_R 1003, fd_R 1003]) (st' := [fd_I (M 14 7)]) (M' := M) rfl rfl (j := 3) rfl (rfl) ?_
  refine fd_u_br (C := fd_c155) (t := 6) (e := 4) (st' := []) (c := (M 14 7) = 0) (b := (fd_rng (M 14 7))) rfl rfl rfl (fd_bR (by omega) (by omega)) (fun h3 => ?_) (fun h3 => ?_)
  · refine fd_u_blk 7 (C := fd_c155) (b := (fd_inb d 6 && true)) (L' := [fd_R 72, fd_I d, fd_R 1003, fd_R 1003]) (st' := [fd_I (M 17 (d).toNat), fd_I d, fd_R 72]) (M' := M) rfl rfl (j := 13) rfl (fd_bA (fd_bI (by omega) (by omega)) (rfl)) ?_
    refine fd_u_call (C := fd_c155) (d0 := 4) (mid := 152) (np := 3) (args := [fd_R 72, fd_I d, fd_I (M 17 (d).toNat)]) (r1 := some (fd_I (fd_nb (fd_wsee M (d).toNat (M 17 (d).toNat))))) (M1 := M) (st' := [fd_I (fd_nb (fd_wsee M (d).toNat (M 17 (d).toNat)))]) rfl rfl rfl rfl rfl rfl (rfl) (fd_s_wouldSeeI M hG d (by omega) (M 17 (d).toNat) (by omega)) rfl (by omega) ?_
    have qn := fd_nb_cases (fd_wsee_rng hG (d).toNat (M 17 (d).toNat))
    refine fd_u_blk 3 (C := fd_c155) (b := true) (L' := [fd_R 72, fd_I d, fd_I (fd_nb (fd_wsee M (d).toNat (M 17 (d).toNat))), fd_R 1003]) (st' := [fd_I (-1), fd_I (fd_nb (fd_wsee M (d).toNat (M 17 (d).toNat)))]) (M' := M) rfl rfl (j := 17) rfl (rfl) ?_
    refine fd_u_br (C := fd_c155) (t := 20) (e := 18) (st' := []) (c := ¬ (fd_nb (fd_wsee M (d).toNat (M 17 (d).toNat))) = (-1)) (b := (fd_rng (fd_nb (fd_wsee M (d).toNat (M 17 (d).toNat))) && fd_rng (-1))) rfl rfl rfl (fd_bA (fd_bR (by omega) (by omega)) (fd_bR (by omega) (by omega))) (fun h17 => ?_) (fun h17 => ?_)
    · refine fd_u_blk 10 (C := fd_c155) (b := (fd_inb (fd_nb (fd_wsee M (d).toNat (M 17 (d).toNat))) 6 && (fd_inb d 6 && true))) (L' := [fd_R 72, fd_I d, fd_I (fd_nb (fd_wsee M (d).toNat (M 17 (d).toNat))), fd_R 1003]) (st' := [fd_I (M 17 (d).toNat), fd_I (M 17 (fd_nb (fd_wsee M (d).toNat (M 17 (d).toNat))).toNat)]) (M' := M) rfl rfl (j := 30) rfl (fd_bA (fd_bI (by omega) (by omega)) (fd_bA (fd_bI (by omega) (by omega)) (rfl))) ?_
      refine fd_u_call (C := fd_c155) (d0 := 0) (mid := 48) (np := 1) (args := [fd_I (M 17 (d).toNat)]) (r1 := some (fd_I (((M 17 (d).toNat) + 2) % 4))) (M1 := M) (st' := [fd_I (((M 17 (d).toNat) + 2) % 4), fd_I (M 17 (fd_nb (fd_wsee M (d).toNat (M 17 (d).toNat))).toNat)]) rfl rfl rfl rfl rfl rfl (rfl) (fd_s_wayBack M (M 17 (d).toNat) (by omega)) rfl (by omega) ?_
      refine fd_u_br (C := fd_c155) (t := 34) (e := 32) (st' := []) (c := ¬ (M 17 (fd_nb (fd_wsee M (d).toNat (M 17 (d).toNat))).toNat) = (((M 17 (d).toNat) + 2) % 4)) (b := (fd_rng (M 17 (fd_nb (fd_wsee M (d).toNat (M 17 (d).toNat))).toNat) && fd_rng (((M 17 (d).toNat) + 2) % 4))) rfl rfl rfl (fd_bA (fd_bR (by omega) (by omega)) (fd_bR (by omega) (by omega))) (fun h31 => ?_) (fun h31 => ?_)
      · refine fd_u_blk 3 (C := fd_c155) (b := true) (L' := [fd_R 72, fd_I d, fd_I (fd_nb (fd_wsee M (d).toNat (M 17 (d).toNat))), fd_I 0]) (st' := [fd_I 0]) (M' := M) rfl rfl (j := 37) rfl (rfl) ?_
        refine fd_u_br (C := fd_c155) (t := 44) (e := 38) (st' := []) (c := 0 = 0) (b := (fd_rng 0)) rfl rfl rfl (fd_bR (by omega) (by omega)) (fun h37 => ?_) (fun h37 => ?_)
        · refine fd_u_blk 3 (C := fd_c155) (b := true) (L' := [fd_R 72, fd_I d, fd_I (fd_nb (fd_wsee M (d).toNat (M 17 (d).toNat))), fd_I 0]) (st' := [fd_I (M 3 3)]) (M' := M) rfl rfl (j := 47) rfl (rfl) ?_
          refine fd_u_ret (C := fd_c155) (b := true) (r' := some (fd_I (M 3 3))) rfl rfl rfl (rfl) ?_ ?_
          · first
            | (exfalso; omega)
            | (have e9 : fd_nb (fd_wsee M d.toNat (M 17 d.toNat)) = fd_wsee M d.toNat (M 17 d.toNat) := (by omega); rw [e9] at h31; rw [fd_dio_pl (by omega) (by omega) (h31)])
          · rfl
        · refine fd_u_blk 5 (C := fd_c155) (b := true) (L' := [fd_R 72, fd_I d, fd_I (fd_nb (fd_wsee M (d).toNat (M 17 (d).toNat))), fd_I 0]) (st' := [fd_I (2 * (M 3 3))]) (M' := M) rfl rfl (j := 43) rfl (rfl) ?_
          refine fd_u_jmp (C := fd_c155) (j := 47) (st' := [fd_I (2 * (M 3 3))]) rfl rfl (b := true) rfl rfl ?_
          refine fd_u_ret (C := fd_c155) (b := true) (r' := some (fd_I (2 * (M 3 3)))) rfl rfl rfl (rfl) ?_ ?_
          · first
            | (exfalso; omega)
            | (have e9 : fd_nb (fd_wsee M d.toNat (M 17 d.toNat)) = fd_wsee M d.toNat (M 17 d.toNat) := (by omega); rw [e9] at h31; rw [fd_dio_st (by omega) (by omega) (Classical.not_not.mp h31)])
          · rfl
      · refine fd_u_blk 1 (C := fd_c155) (b := true) (L' := [fd_R 72, fd_I d, fd_I (fd_nb (fd_wsee M (d).toNat (M 17 (d).toNat))), fd_R 1003]) (st' := [fd_I 1]) (M' := M) rfl rfl (j := 33) rfl (rfl) ?_
        refine fd_u_jmp (C := fd_c155) (j := 35) (st' := [fd_I 1]) rfl rfl (b := true) rfl rfl ?_
        refine fd_u_blk 2 (C := fd_c155) (b := true) (L' := [fd_R 72, fd_I d, fd_I (fd_nb (fd_wsee M (d).toNat (M 17 (d).toNat))), fd_I 1]) (st' := [fd_I 1]) (M' := M) rfl rfl (j := 37) rfl (rfl) ?_
        refine fd_u_br (C := fd_c155) (t := 44) (e := 38) (st' := []) (c := 1 = 0) (b := (fd_rng 1)) rfl rfl rfl (fd_bR (by omega) (by omega)) (fun h37 => ?_) (fun h37 => ?_)
        · refine fd_u_blk 3 (C := fd_c155) (b := true) (L' := [fd_R 72, fd_I d, fd_I (fd_nb (fd_wsee M (d).toNat (M 17 (d).toNat))), fd_I 1]) (st' := [fd_I (M 3 3)]) (M' := M) rfl rfl (j := 47) rfl (rfl) ?_
          refine fd_u_ret (C := fd_c155) (b := true) (r' := some (fd_I (M 3 3))) rfl rfl rfl (rfl) ?_ ?_
          · first
            | (exfalso; omega)
            | (have e9 : fd_nb (fd_wsee M d.toNat (M 17 d.toNat)) = fd_wsee M d.toNat (M 17 d.toNat) := (by omega); rw [e9] at h31; rw [fd_dio_pl (by omega) (by omega) (h31)])
          · rfl
        · refine fd_u_blk 5 (C := fd_c155) (b := true) (L' := [fd_R 72, fd_I d, fd_I (fd_nb (fd_wsee M (d).toNat (M 17 (d).toNat))), fd_I 1]) (st' := [fd_I (2 * (M 3 3))]) (M' := M) rfl rfl (j := 43) rfl (rfl) ?_
          refine fd_u_jmp (C := fd_c155) (j := 47) (st' := [fd_I (2 * (M 3 3))]) rfl rfl (b := true) rfl rfl ?_
          refine fd_u_ret (C := fd_c155) (b := true) (r' := some (fd_I (2 * (M 3 3)))) rfl rfl rfl (rfl) ?_ ?_
          · first
            | (exfalso; omega)
            | (have e9 : fd_nb (fd_wsee M d.toNat (M 17 d.toNat)) = fd_wsee M d.toNat (M 17 d.toNat) := (by omega); rw [e9] at h31; rw [fd_dio_st (by omega) (by omega) (Classical.not_not.mp h31)])
          · rfl
    · refine fd_u_blk 1 (C := fd_c155) (b := true) (L' := [fd_R 72, fd_I d, fd_I (fd_nb (fd_wsee M (d).toNat (M 17 (d).toNat))), fd_R 1003]) (st' := [fd_I 0]) (M' := M) rfl rfl (j := 19) rfl (rfl) ?_
      refine fd_u_ret (C := fd_c155) (b := true) (r' := some (fd_I 0)) rfl rfl rfl (rfl) ?_ ?_
      · first | rw [fd_dio_fog (by omega)] | rw [fd_dio_none (by omega) (by omega)]
      · rfl
  · refine fd_u_blk 1 (C := fd_c155) (b := true) (L' := [fd_R 72, fd_I d, fd_R 1003, fd_R 1003]) (st' := [fd_I (-1)]) (M' := M) rfl rfl (j := 5) rfl (rfl) ?_
    refine fd_u_jmp (C := fd_c155) (j := 14) (st' := [fd_I (-1)]) rfl rfl (b := true) rfl rfl ?_
    refine fd_u_blk 3 (C := fd_c155) (b := true) (L' := [fd_R 72, fd_I d, fd_I (-1), fd_R 1003]) (st' := [fd_I (-1), fd_I (-1)]) (M' := M) rfl rfl (j := 17) rfl (rfl) ?_
    refine fd_u_br (C := fd_c155) (t := 20) (e := 18) (st' := []) (c := ¬ (-1) = (-1)) (b := (fd_rng (-1) && fd_rng (-1))) rfl rfl rfl (fd_bA (fd_bR (by omega) (by omega)) (fd_bR (by omega) (by omega))) (fun h17 => ?_) (fun h17 => ?_)
    · refine fd_u_blk 10 (C := fd_c155) (b := (fd_inb (-1) 6 && (fd_inb d 6 && true))) (L' := [fd_R 72, fd_I d, fd_I (-1), fd_R 1003]) (st' := [fd_I (M 17 (d).toNat), fd_I (M 17 ((-1 : Int).toNat))]) (M' := M) rfl rfl (j := 30) rfl (fd_bA (fd_bI (by omega) (by omega)) (fd_bA (fd_bI (by omega) (by omega)) (rfl))) ?_
      refine fd_u_call (C := fd_c155) (d0 := 0) (mid := 48) (np := 1) (args := [fd_I (M 17 (d).toNat)]) (r1 := some (fd_I (((M 17 (d).toNat) + 2) % 4))) (M1 := M) (st' := [fd_I (((M 17 (d).toNat) + 2) % 4), fd_I (M 17 ((-1 : Int).toNat))]) rfl rfl rfl rfl rfl rfl (rfl) (fd_s_wayBack M (M 17 (d).toNat) (by omega)) rfl (by omega) ?_
      refine fd_u_br (C := fd_c155) (t := 34) (e := 32) (st' := []) (c := ¬ (M 17 ((-1 : Int).toNat)) = (((M 17 (d).toNat) + 2) % 4)) (b := (fd_rng (M 17 ((-1 : Int).toNat)) && fd_rng (((M 17 (d).toNat) + 2) % 4))) rfl rfl rfl (fd_bA (fd_bR (by omega) (by omega)) (fd_bR (by omega) (by omega))) (fun h31 => ?_) (fun h31 => ?_)
      · refine fd_u_blk 3 (C := fd_c155) (b := true) (L' := [fd_R 72, fd_I d, fd_I (-1), fd_I 0]) (st' := [fd_I 0]) (M' := M) rfl rfl (j := 37) rfl (rfl) ?_
        refine fd_u_br (C := fd_c155) (t := 44) (e := 38) (st' := []) (c := 0 = 0) (b := (fd_rng 0)) rfl rfl rfl (fd_bR (by omega) (by omega)) (fun h37 => ?_) (fun h37 => ?_)
        · refine fd_u_blk 3 (C := fd_c155) (b := true) (L' := [fd_R 72, fd_I d, fd_I (-1), fd_I 0]) (st' := [fd_I (M 3 3)]) (M' := M) rfl rfl (j := 47) rfl (rfl) ?_
          refine fd_u_ret (C := fd_c155) (b := true) (r' := some (fd_I (M 3 3))) rfl rfl rfl (rfl) ?_ ?_
          · first
            | (exfalso; omega)
            | (have e9 : fd_nb (fd_wsee M d.toNat (M 17 d.toNat)) = fd_wsee M d.toNat (M 17 d.toNat) := (by omega); rw [e9] at h31; rw [fd_dio_pl (by omega) (by omega) (h31)])
          · rfl
        · refine fd_u_blk 5 (C := fd_c155) (b := true) (L' := [fd_R 72, fd_I d, fd_I (-1), fd_I 0]) (st' := [fd_I (2 * (M 3 3))]) (M' := M) rfl rfl (j := 43) rfl (rfl) ?_
          refine fd_u_jmp (C := fd_c155) (j := 47) (st' := [fd_I (2 * (M 3 3))]) rfl rfl (b := true) rfl rfl ?_
          refine fd_u_ret (C := fd_c155) (b := true) (r' := some (fd_I (2 * (M 3 3)))) rfl rfl rfl (rfl) ?_ ?_
          · first
            | (exfalso; omega)
            | (have e9 : fd_nb (fd_wsee M d.toNat (M 17 d.toNat)) = fd_wsee M d.toNat (M 17 d.toNat) := (by omega); rw [e9] at h31; rw [fd_dio_st (by omega) (by omega) (Classical.not_not.mp h31)])
          · rfl
      · refine fd_u_blk 1 (C := fd_c155) (b := true) (L' := [fd_R 72, fd_I d, fd_I (-1), fd_R 1003]) (st' := [fd_I 1]) (M' := M) rfl rfl (j := 33) rfl (rfl) ?_
        refine fd_u_jmp (C := fd_c155) (j := 35) (st' := [fd_I 1]) rfl rfl (b := true) rfl rfl ?_
        refine fd_u_blk 2 (C := fd_c155) (b := true) (L' := [fd_R 72, fd_I d, fd_I (-1), fd_I 1]) (st' := [fd_I 1]) (M' := M) rfl rfl (j := 37) rfl (rfl) ?_
        refine fd_u_br (C := fd_c155) (t := 44) (e := 38) (st' := []) (c := 1 = 0) (b := (fd_rng 1)) rfl rfl rfl (fd_bR (by omega) (by omega)) (fun h37 => ?_) (fun h37 => ?_)
        · refine fd_u_blk 3 (C := fd_c155) (b := true) (L' := [fd_R 72, fd_I d, fd_I (-1), fd_I 1]) (st' := [fd_I (M 3 3)]) (M' := M) rfl rfl (j := 47) rfl (rfl) ?_
          refine fd_u_ret (C := fd_c155) (b := true) (r' := some (fd_I (M 3 3))) rfl rfl rfl (rfl) ?_ ?_
          · first
            | (exfalso; omega)
            | (have e9 : fd_nb (fd_wsee M d.toNat (M 17 d.toNat)) = fd_wsee M d.toNat (M 17 d.toNat) := (by omega); rw [e9] at h31; rw [fd_dio_pl (by omega) (by omega) (h31)])
          · rfl
        · refine fd_u_blk 5 (C := fd_c155) (b := true) (L' := [fd_R 72, fd_I d, fd_I (-1), fd_I 1]) (st' := [fd_I (2 * (M 3 3))]) (M' := M) rfl rfl (j := 43) rfl (rfl) ?_
          refine fd_u_jmp (C := fd_c155) (j := 47) (st' := [fd_I (2 * (M 3 3))]) rfl rfl (b := true) rfl rfl ?_
          refine fd_u_ret (C := fd_c155) (b := true) (r' := some (fd_I (2 * (M 3 3)))) rfl rfl rfl (rfl) ?_ ?_
          · first
            | (exfalso; omega)
            | (have e9 : fd_nb (fd_wsee M d.toNat (M 17 d.toNat)) = fd_wsee M d.toNat (M 17 d.toNat) := (by omega); rw [e9] at h31; rw [fd_dio_st (by omega) (by omega) (Classical.not_not.mp h31)])
          · rfl
    · refine fd_u_blk 1 (C := fd_c155) (b := true) (L' := [fd_R 72, fd_I d, fd_I (-1), fd_R 1003]) (st' := [fd_I 0]) (M' := M) rfl rfl (j := 19) rfl (rfl) ?_
      refine fd_u_ret (C := fd_c155) (b := true) (r' := some (fd_I 0)) rfl rfl rfl (rfl) ?_ ?_
      · first | rw [fd_dio_fog (by omega)] | rw [fd_dio_none (by omega) (by omega)]
      · rfl

theorem fd_s_dueOf (M : fd_M) (hG : fd_CG M) (d : Int) (hd : 0 ≤ d ∧ d < 6) : fd_call 6 156 [fd_R 72, fd_I d] M (some (fd_I (fd_dueC M d.toNat))) M := by
  refine fd_u_in (L := [fd_R 72, fd_I d]) rfl ?_
  obtain ⟨s1, s2, s3, s4, s5, s6, s7, s8⟩ := hG.2
  have q1 := s1 d.toNat
  have q2 := s2 d.toNat
  have q3 := s3 d.toNat
  have q4 := s4 d.toNat
  simp only [Nat.reduceAdd] at q1 q2 q3 q4
  refine fd_u_blk 3 (C := fd_c156) (b := true) (L' := [fd_R 72, fd_I d]) (st' := [fd_I d, fd_R 14]) (M' := M) rfl rfl (j := 3) rfl (rfl) ?_
  refine fd_u_call (C := fd_c156) (d0 := 1) (mid := 144) (np := 2) (args := [fd_R 14, fd_I d]) (r1 := some (fd_I (fd_bi (M 14 4 / 2 ^ (d).toNat % 2 = 1)))) (M1 := M) (st' := [fd_I (fd_bi (M 14 4 / 2 ^ (d).toNat % 2 = 1))]) rfl rfl rfl rfl rfl rfl (rfl) (fd_s_isOpen M hG d (by omega)) rfl (by omega) ?_
  refine fd_u_br (C := fd_c156) (t := 9) (e := 5) (st' := []) (c := (fd_bi (M 14 4 / 2 ^ (d).toNat % 2 = 1)) = 0) (b := (fd_rng (fd_bi (M 14 4 / 2 ^ (d).toNat % 2 = 1)))) rfl rfl rfl (fd_biR) (fun h4 => ?_) (fun h4 => ?_)
  · have h4 := fd_biF.mp h4
    refine fd_u_blk 1 (C := fd_c156) (b := true) (L' := [fd_R 72, fd_I d]) (st' := [fd_I 0]) (M' := M) rfl rfl (j := 10) rfl (rfl) ?_
    refine fd_u_ret (C := fd_c156) (b := true) (r' := some (fd_I 0)) rfl rfl rfl (rfl) ?_ ?_
    · rw [fd_dueC_eq hG, if_neg h4]
    · rfl
  · have h4 := fd_biT.mp h4
    refine fd_u_blk 2 (C := fd_c156) (b := true) (L' := [fd_R 72, fd_I d]) (st' := [fd_I d, fd_R 72]) (M' := M) rfl rfl (j := 7) rfl (rfl) ?_
    refine fd_u_call (C := fd_c156) (d0 := 5) (mid := 155) (np := 2) (args := [fd_R 72, fd_I d]) (r1 := some (fd_I (fd_dio M (d).toNat))) (M1 := M) (st' := [fd_I (fd_dio M (d).toNat)]) rfl rfl rfl rfl rfl rfl (rfl) (fd_s_dueIfOpen M hG d (by omega)) rfl (by omega) ?_
    have qo := fd_due_rng (wy := M 17) hG.1.2.2.2.1 (if M 14 7 = 1 then -9 else fd_wsee M (d).toNat (M 17 (d).toNat)) (d).toNat
    refine fd_u_jmp (C := fd_c156) (j := 10) (st' := [fd_I (fd_dio M (d).toNat)]) rfl rfl (b := true) rfl rfl ?_
    refine fd_u_ret (C := fd_c156) (b := true) (r' := some (fd_I (fd_dio M (d).toNat))) rfl rfl rfl (rfl) ?_ ?_
    · rw [fd_dueC_eq hG, if_pos h4]
    · rfl

theorem fd_l_dueOfAll (M : fd_M) (hG : fd_CG M) : ∀ (n : Nat) (k : Nat) (hk : (k : Int) + n = M 3 2), fd_run 7 157 4 [fd_R 72, fd_I (fd_sum (fd_dueC M) k), fd_I ((k : Nat) : Int)] [] M (some (fd_I (fd_sum (fd_dueC M) (M 3 2).toNat))) M := by
  obtain ⟨g0, g1, g2, g3, g4, g5⟩ := hG.1
  intro n
  induction n with
  | zero =>
    intro k hk
    refine fd_u_blk 4 (C := fd_c157) (b := true) (L' := [fd_R 72, fd_I (fd_sum (fd_dueC M) k), fd_I ((k : Nat) : Int)]) (st' := [fd_I (M 3 2), fd_I ((k : Nat) : Int)]) (M' := M) rfl rfl (j := 8) rfl (rfl) ?_
    refine fd_u_br (C := fd_c157) (t := 17) (e := 9) (st' := []) (c := (M 3 2) ≤ ((k : Nat) : Int)) (b := (fd_rng ((k : Nat) : Int) && fd_rng (M 3 2))) rfl rfl rfl (fd_bA (fd_bR (by omega) (by omega)) (fd_bR (by omega) (by omega))) (fun h8 => ?_) (fun h8 => absurd h8 (by omega))
    refine fd_u_blk 1 (C := fd_c157) (b := true) (L' := [fd_R 72, fd_I (fd_sum (fd_dueC M) k), fd_I ((k : Nat) : Int)]) (st' := [fd_I (fd_sum (fd_dueC M) k)]) (M' := M) rfl rfl (j := 18) rfl (rfl) ?_
    refine fd_u_ret (C := fd_c157) (b := true) (r' := some (fd_I (fd_sum (fd_dueC M) k))) rfl rfl rfl (rfl) ?_ ?_
    · rw [show (M 3 2).toNat = k by omega]
    · rfl
  | succ n ih =>
    intro k hk
    refine fd_u_blk 4 (C := fd_c157) (b := true) (L' := [fd_R 72, fd_I (fd_sum (fd_dueC M) k), fd_I ((k : Nat) : Int)]) (st' := [fd_I (M 3 2), fd_I ((k : Nat) : Int)]) (M' := M) rfl rfl (j := 8) rfl (rfl) ?_
    refine fd_u_br (C := fd_c157) (t := 17) (e := 9) (st' := []) (c := (M 3 2) ≤ ((k : Nat) : Int)) (b := (fd_rng ((k : Nat) : Int) && fd_rng (M 3 2))) rfl rfl rfl (fd_bA (fd_bR (by omega) (by omega)) (fd_bR (by omega) (by omega))) (fun h8 => absurd h8 (by omega)) (fun h8 => ?_)
    refine fd_u_blk 3 (C := fd_c157) (b := true) (L' := [fd_R 72, fd_I (fd_sum (fd_dueC M) k), fd_I ((k : Nat) : Int)]) (st' := [fd_I ((k : Nat) : Int), fd_R 72, fd_I (fd_sum (fd_dueC M) k)]) (M' := M) rfl rfl (j := 12) rfl (rfl) ?_
    refine fd_u_call (C := fd_c157) (d0 := 6) (mid := 156) (np := 2) (args := [fd_R 72, fd_I ((k : Nat) : Int)]) (r1 := some (fd_I (fd_dueC M k))) (M1 := M) (st' := [fd_I (fd_dueC M k), fd_I (fd_sum (fd_dueC M) k)]) rfl rfl rfl rfl rfl rfl (rfl) (fd_s_dueOf M hG ((k : Nat) : Int) (by omega)) rfl (by omega) ?_
    have qo := fd_due_rng (wy := M 17) hG.1.2.2.2.1 (fd_sw M k) k
    refine fd_u_blk 3 (C := fd_c157) (b := true) (L' := [fd_R 72, fd_I ((fd_sum (fd_dueC M) k) + (fd_dueC M k)), fd_I (((k + 1) : Nat) : Int)]) (st' := []) (M' := M) rfl rfl (j := 16) rfl (rfl) ?_
    refine fd_u_jmp (C := fd_c157) (j := 4) (st' := []) rfl rfl (b := true) rfl rfl ?_
    exact ih (k + 1) (by omega)

theorem fd_s_dueOfAll (M : fd_M) (hG : fd_CG M) : fd_call 7 157 [fd_R 72] M (some (fd_I (fd_sum (fd_dueC M) (M 3 2).toNat))) M := by
  refine fd_u_in (L := [fd_R 72, fd_R 1003, fd_R 1003]) rfl ?_
  obtain ⟨g0, g1, g2, g3, g4, g5⟩ := hG.1
  refine fd_u_blk 4 (C := fd_c157) (b := true) (L' := [fd_R 72, fd_I 0, fd_I 0]) (st' := []) (M' := M) rfl rfl (j := 4) rfl (rfl) ?_
  exact fd_l_dueOfAll M hG (M 3 2).toNat 0 (by omega)

theorem fd_l_seenBy (M : fd_M) (hG : fd_CG M) (d : Int) (hd : 0 ≤ d ∧ d < 6) : ∀ (n : Nat) (k : Nat) (hk : (k : Int) + n = M 3 2), fd_run 6 154 4 [fd_R 72, fd_I d, fd_I (fd_bits (fun j => fd_nb (fd_sw M j) = d) k), fd_I ((k : Nat) : Int)] [] M (some (fd_I (fd_bits (fun j => fd_nb (fd_sw M j) = d) (M 3 2).toNat))) M := by
  obtain ⟨g0, g1, g2, g3, g4, g5⟩ := hG.1
  intro n
  induction n with
  | zero =>
    intro k hk
    refine fd_u_blk 4 (C := fd_c154) (b := true) (L' := [fd_R 72, fd_I d, fd_I (fd_bits (fun j => fd_nb (fd_sw M j) = d) k), fd_I ((k : Nat) : Int)]) (st' := [fd_I (M 3 2), fd_I ((k : Nat) : Int)]) (M' := M) rfl rfl (j := 8) rfl (rfl) ?_
    refine fd_u_br (C := fd_c154) (t := 21) (e := 9) (st' := []) (c := (M 3 2) ≤ ((k : Nat) : Int)) (b := (fd_rng ((k : Nat) : Int) && fd_rng (M 3 2))) rfl rfl rfl (fd_bA (fd_bR (by omega) (by omega)) (fd_bR (by omega) (by omega))) (fun h8 => ?_) (fun h8 => absurd h8 (by omega))
    refine fd_u_blk 1 (C := fd_c154) (b := true) (L' := [fd_R 72, fd_I d, fd_I (fd_bits (fun j => fd_nb (fd_sw M j) = d) k), fd_I ((k : Nat) : Int)]) (st' := [fd_I (fd_bits (fun j => fd_nb (fd_sw M j) = d) k)]) (M' := M) rfl rfl (j := 22) rfl (rfl) ?_
    refine fd_u_ret (C := fd_c154) (b := true) (r' := some (fd_I (fd_bits (fun j => fd_nb (fd_sw M j) = d) k))) rfl rfl rfl (rfl) ?_ ?_
    · rw [show (M 3 2).toNat = k by omega]
    · rfl
  | succ n ih =>
    intro k hk
    refine fd_u_blk 4 (C := fd_c154) (b := true) (L' := [fd_R 72, fd_I d, fd_I (fd_bits (fun j => fd_nb (fd_sw M j) = d) k), fd_I ((k : Nat) : Int)]) (st' := [fd_I (M 3 2), fd_I ((k : Nat) : Int)]) (M' := M) rfl rfl (j := 8) rfl (rfl) ?_
    refine fd_u_br (C := fd_c154) (t := 21) (e := 9) (st' := []) (c := (M 3 2) ≤ ((k : Nat) : Int)) (b := (fd_rng ((k : Nat) : Int) && fd_rng (M 3 2))) rfl rfl rfl (fd_bA (fd_bR (by omega) (by omega)) (fd_bR (by omega) (by omega))) (fun h8 => absurd h8 (by omega)) (fun h8 => ?_)
    refine fd_u_blk 2 (C := fd_c154) (b := true) (L' := [fd_R 72, fd_I d, fd_I (fd_bits (fun j => fd_nb (fd_sw M j) = d) k), fd_I ((k : Nat) : Int)]) (st' := [fd_I ((k : Nat) : Int), fd_R 72]) (M' := M) rfl rfl (j := 11) rfl (rfl) ?_
    refine fd_u_call (C := fd_c154) (d0 := 5) (mid := 153) (np := 2) (args := [fd_R 72, fd_I ((k : Nat) : Int)]) (r1 := some (fd_I (fd_nb (fd_sw M k)))) (M1 := M) (st' := [fd_I (fd_nb (fd_sw M k))]) rfl rfl rfl rfl rfl rfl (rfl) (fd_s_seesWhom M hG ((k : Nat) : Int) (by omega)) rfl (by omega) ?_
    have qn5 := fd_nb_cases (fd_sw_rng hG k)
    refine fd_u_blk 1 (C := fd_c154) (b := true) (L' := [fd_R 72, fd_I d, fd_I (fd_bits (fun j => fd_nb (fd_sw M j) = d) k), fd_I ((k : Nat) : Int)]) (st' := [fd_I d, fd_I (fd_nb (fd_sw M k))]) (M' := M) rfl rfl (j := 13) rfl (rfl) ?_
    refine fd_u_br (C := fd_c154) (t := 19) (e := 14) (st' := []) (c := ¬ (fd_nb (fd_sw M k)) = d) (b := (fd_rng (fd_nb (fd_sw M k)) && fd_rng d)) rfl rfl rfl (fd_bA (fd_bR (by omega) (by omega)) (fd_bR (by omega) (by omega))) (fun h13 => ?_) (fun h13 => ?_)
    · refine fd_u_blk 1 (C := fd_c154) (b := true) (L' := [fd_R 72, fd_I d, fd_I (fd_bits (fun j => fd_nb (fd_sw M j) = d) k), fd_I (((k + 1) : Nat) : Int)]) (st' := []) (M' := M) rfl rfl (j := 20) rfl (rfl) ?_
      refine fd_u_jmp (C := fd_c154) (j := 4) (st' := []) rfl rfl (b := true) rfl rfl ?_
      have qb := fd_bits_rng (fun j => fd_nb (fd_sw M j) = d) k
      have e5 : (fd_bits (fun j => fd_nb (fd_sw M j) = d) k) = (fd_bits (fun j => fd_nb (fd_sw M j) = d) (k + 1)) := by
        show _ = fd_bits (fun j => fd_nb (fd_sw M j) = d) k + (if fd_nb (fd_sw M k) = d then 2 ^ k else 0)
        rw [if_neg h13]; omega
      rw [e5]
      exact ih (k + 1) (by omega)
    · refine fd_u_blk 2 (C := fd_c154) (b := true) (L' := [fd_R 72, fd_I d, fd_I (fd_bits (fun j => fd_nb (fd_sw M j) = d) k), fd_I ((k : Nat) : Int)]) (st' := [fd_I ((k : Nat) : Int), fd_I (fd_bits (fun j => fd_nb (fd_sw M j) = d) k)]) (M' := M) rfl rfl (j := 16) rfl (rfl) ?_
      refine fd_u_call (C := fd_c154) (d0 := 0) (mid := 45) (np := 1) (args := [fd_I ((k : Nat) : Int)]) (r1 := some (fd_I (if ((k : Nat) : Int) = -1 then 0 else 2 ^ ((k : Nat) : Int).toNat))) (M1 := M) (st' := [fd_I (if ((k : Nat) : Int) = -1 then 0 else 2 ^ ((k : Nat) : Int).toNat), fd_I (fd_bits (fun j => fd_nb (fd_sw M j) = d) k)]) rfl rfl rfl rfl rfl rfl (rfl) (fd_s_bitOf M ((k : Nat) : Int) (by omega)) rfl (by omega) ?_
      refine fd_u_blk 3 (C := fd_c154) (b := true) (L' := [fd_R 72, fd_I d, fd_I (fd_or (fd_bits (fun j => fd_nb (fd_sw M j) = d) k) (if ((k : Nat) : Int) = -1 then 0 else 2 ^ ((k : Nat) : Int).toNat)), fd_I (((k + 1) : Nat) : Int)]) (st' := []) (M' := M) rfl rfl (j := 20) rfl (rfl) ?_
      refine fd_u_jmp (C := fd_c154) (j := 4) (st' := []) rfl rfl (b := true) rfl rfl ?_
      have qb := fd_bits_rng (fun j => fd_nb (fd_sw M j) = d) k
      have e5 : (fd_or (fd_bits (fun j => fd_nb (fd_sw M j) = d) k) (if ((k : Nat) : Int) = -1 then 0 else 2 ^ ((k : Nat) : Int).toNat)) = (fd_bits (fun j => fd_nb (fd_sw M j) = d) (k + 1)) := by
        rw [if_neg (by omega)]
        show fd_or _ (2 ^ k) = fd_bits (fun j => fd_nb (fd_sw M j) = d) k + (if fd_nb (fd_sw M k) = d then 2 ^ k else 0)
        rw [fd_orS (by omega) qb.1 qb.2, if_pos (Classical.not_not.mp h13)]
      rw [e5]
      exact ih (k + 1) (by omega)

theorem fd_s_seenBy (M : fd_M) (hG : fd_CG M) (d : Int) (hd : 0 ≤ d ∧ d < 6) : fd_call 6 154 [fd_R 72, fd_I d] M (some (fd_I (fd_bits (fun j => fd_nb (fd_sw M j) = d) (M 3 2).toNat))) M := by
  refine fd_u_in (L := [fd_R 72, fd_I d, fd_R 1003, fd_R 1003]) rfl ?_
  obtain ⟨g0, g1, g2, g3, g4, g5⟩ := hG.1
  refine fd_u_blk 4 (C := fd_c154) (b := true) (L' := [fd_R 72, fd_I d, fd_I 0, fd_I 0]) (st' := []) (M' := M) rfl rfl (j := 4) rfl (rfl) ?_
  exact fd_l_seenBy M hG d hd (M 3 2).toNat 0 (by omega)

theorem fd_l_pairs (M : fd_M) (hG : fd_CG M) : ∀ (n : Nat) (k : Nat) (u : fd_V) (hk : (k : Int) + n = M 3 2), fd_run 6 158 4 [fd_R 72, fd_I (fd_sum (fun j => if fd_nb (fd_sw M j) > j ∧ fd_nb (fd_sw M (fd_nb (fd_sw M j)).toNat) = j then 1 else 0) k), fd_I ((k : Nat) : Int), u] [] M (some (fd_I (fd_sum (fun j => if fd_nb (fd_sw M j) > j ∧ fd_nb (fd_sw M (fd_nb (fd_sw M j)).toNat) = j then 1 else 0) (M 3 2).toNat))) M := by
  obtain ⟨g0, g1, g2, g3, g4, g5⟩ := hG.1
  intro n
  induction n with
  | zero =>
    intro k u hk
    refine fd_u_blk 4 (C := fd_c158) (b := true) (L' := [fd_R 72, fd_I (fd_sum (fun j => if fd_nb (fd_sw M j) > j ∧ fd_nb (fd_sw M (fd_nb (fd_sw M j)).toNat) = j then 1 else 0) k), fd_I ((k : Nat) : Int), u]) (st' := [fd_I (M 3 2), fd_I ((k : Nat) : Int)]) (M' := M) rfl rfl (j := 8) rfl (rfl) ?_
    refine fd_u_br (C := fd_c158) (t := 24) (e := 9) (st' := []) (c := (M 3 2) ≤ ((k : Nat) : Int)) (b := (fd_rng ((k : Nat) : Int) && fd_rng (M 3 2))) rfl rfl rfl (fd_bA (fd_bR (by omega) (by omega)) (fd_bR (by omega) (by omega))) (fun h8 => ?_) (fun h8 => absurd h8 (by omega))
    refine fd_u_blk 1 (C := fd_c158) (b := true) (L' := [fd_R 72, fd_I (fd_sum (fun j => if fd_nb (fd_sw M j) > j ∧ fd_nb (fd_sw M (fd_nb (fd_sw M j)).toNat) = j then 1 else 0) k), fd_I ((k : Nat) : Int), u]) (st' := [fd_I (fd_sum (fun j => if fd_nb (fd_sw M j) > j ∧ fd_nb (fd_sw M (fd_nb (fd_sw M j)).toNat) = j then 1 else 0) k)]) (M' := M) rfl rfl (j := 25) rfl (rfl) ?_
    refine fd_u_ret (C := fd_c158) (b := true) (r' := some (fd_I (fd_sum (fun j => if fd_nb (fd_sw M j) > j ∧ fd_nb (fd_sw M (fd_nb (fd_sw M j)).toNat) = j then 1 else 0) k))) rfl rfl rfl (rfl) ?_ ?_
    · rw [show (M 3 2).toNat = k by omega]
    · rfl
  | succ n ih =>
    intro k u hk
    refine fd_u_blk 4 (C := fd_c158) (b := true) (L' := [fd_R 72, fd_I (fd_sum (fun j => if fd_nb (fd_sw M j) > j ∧ fd_nb (fd_sw M (fd_nb (fd_sw M j)).toNat) = j then 1 else 0) k), fd_I ((k : Nat) : Int), u]) (st' := [fd_I (M 3 2), fd_I ((k : Nat) : Int)]) (M' := M) rfl rfl (j := 8) rfl (rfl) ?_
    refine fd_u_br (C := fd_c158) (t := 24) (e := 9) (st' := []) (c := (M 3 2) ≤ ((k : Nat) : Int)) (b := (fd_rng ((k : Nat) : Int) && fd_rng (M 3 2))) rfl rfl rfl (fd_bA (fd_bR (by omega) (by omega)) (fd_bR (by omega) (by omega))) (fun h8 => absurd h8 (by omega)) (fun h8 => ?_)
    refine fd_u_blk 2 (C := fd_c158) (b := true) (L' := [fd_R 72, fd_I (fd_sum (fun j => if fd_nb (fd_sw M j) > j ∧ fd_nb (fd_sw M (fd_nb (fd_sw M j)).toNat) = j then 1 else 0) k), fd_I ((k : Nat) : Int), u]) (st' := [fd_I ((k : Nat) : Int), fd_R 72]) (M' := M) rfl rfl (j := 11) rfl (rfl) ?_
    refine fd_u_call (C := fd_c158) (d0 := 5) (mid := 153) (np := 2) (args := [fd_R 72, fd_I ((k : Nat) : Int)]) (r1 := some (fd_I (fd_nb (fd_sw M k)))) (M1 := M) (st' := [fd_I (fd_nb (fd_sw M k))]) rfl rfl rfl rfl rfl rfl (rfl) (fd_s_seesWhom M hG ((k : Nat) : Int) (by omega)) rfl (by omega) ?_
    have qn5 := fd_nb_cases (fd_sw_rng hG k)
    refine fd_u_blk 3 (C := fd_c158) (b := true) (L' := [fd_R 72, fd_I (fd_sum (fun j => if fd_nb (fd_sw M j) > j ∧ fd_nb (fd_sw M (fd_nb (fd_sw M j)).toNat) = j then 1 else 0) k), fd_I ((k : Nat) : Int), fd_I (fd_nb (fd_sw M k))]) (st' := [fd_I ((k : Nat) : Int), fd_I (fd_nb (fd_sw M k))]) (M' := M) rfl rfl (j := 15) rfl (rfl) ?_
    refine fd_u_br (C := fd_c158) (t := 22) (e := 16) (st' := []) (c := (fd_nb (fd_sw M k)) ≤ ((k : Nat) : Int)) (b := (fd_rng (fd_nb (fd_sw M k)) && fd_rng ((k : Nat) : Int))) rfl rfl rfl (fd_bA (fd_bR (by omega) (by omega)) (fd_bR (by omega) (by omega))) (fun h15 => ?_) (fun h15 => ?_)
    · refine fd_u_blk 1 (C := fd_c158) (b := true) (L' := [fd_R 72, fd_I (fd_sum (fun j => if fd_nb (fd_sw M j) > j ∧ fd_nb (fd_sw M (fd_nb (fd_sw M j)).toNat) = j then 1 else 0) k), fd_I (((k + 1) : Nat) : Int), fd_I (fd_nb (fd_sw M k))]) (st' := []) (M' := M) rfl rfl (j := 23) rfl (rfl) ?_
      refine fd_u_jmp (C := fd_c158) (j := 4) (st' := []) rfl rfl (b := true) rfl rfl ?_
      have e5 : (fd_sum (fun j => if fd_nb (fd_sw M j) > j ∧ fd_nb (fd_sw M (fd_nb (fd_sw M j)).toNat) = j then 1 else 0) k) = (fd_sum (fun j => if fd_nb (fd_sw M j) > j ∧ fd_nb (fd_sw M (fd_nb (fd_sw M j)).toNat) = j then 1 else 0) (k + 1)) := by
        show _ = fd_sum (fun j => if fd_nb (fd_sw M j) > j ∧ fd_nb (fd_sw M (fd_nb (fd_sw M j)).toNat) = j then 1 else 0) k + (if fd_nb (fd_sw M k) > (k : Int) ∧ _ then 1 else 0)
        rw [if_neg (fun z => by first | exact absurd z.1 (by omega) | exact h20 z.2)]; omega
      rw [e5]
      exact ih (k + 1) _ (by omega)
    · refine fd_u_blk 2 (C := fd_c158) (b := true) (L' := [fd_R 72, fd_I (fd_sum (fun j => if fd_nb (fd_sw M j) > j ∧ fd_nb (fd_sw M (fd_nb (fd_sw M j)).toNat) = j then 1 else 0) k), fd_I ((k : Nat) : Int), fd_I (fd_nb (fd_sw M k))]) (st' := [fd_I (fd_nb (fd_sw M k)), fd_R 72]) (M' := M) rfl rfl (j := 18) rfl (rfl) ?_
      refine fd_u_call (C := fd_c158) (d0 := 5) (mid := 153) (np := 2) (args := [fd_R 72, fd_I (fd_nb (fd_sw M k))]) (r1 := some (fd_I (fd_nb (fd_sw M (fd_nb (fd_sw M k)).toNat)))) (M1 := M) (st' := [fd_I (fd_nb (fd_sw M (fd_nb (fd_sw M k)).toNat))]) rfl rfl rfl rfl rfl rfl (rfl) (fd_s_seesWhom M hG (fd_nb (fd_sw M k)) (by omega)) rfl (by omega) ?_
      have qn12 := fd_nb_cases (fd_sw_rng hG (fd_nb (fd_sw M k)).toNat)
      refine fd_u_blk 1 (C := fd_c158) (b := true) (L' := [fd_R 72, fd_I (fd_sum (fun j => if fd_nb (fd_sw M j) > j ∧ fd_nb (fd_sw M (fd_nb (fd_sw M j)).toNat) = j then 1 else 0) k), fd_I ((k : Nat) : Int), fd_I (fd_nb (fd_sw M k))]) (st' := [fd_I ((k : Nat) : Int), fd_I (fd_nb (fd_sw M (fd_nb (fd_sw M k)).toNat))]) (M' := M) rfl rfl (j := 20) rfl (rfl) ?_
      refine fd_u_br (C := fd_c158) (t := 22) (e := 21) (st' := []) (c := ¬ (fd_nb (fd_sw M (fd_nb (fd_sw M k)).toNat)) = ((k : Nat) : Int)) (b := (fd_rng (fd_nb (fd_sw M (fd_nb (fd_sw M k)).toNat)) && fd_rng ((k : Nat) : Int))) rfl rfl rfl (fd_bA (fd_bR (by omega) (by omega)) (fd_bR (by omega) (by omega))) (fun h20 => ?_) (fun h20 => ?_)
      · refine fd_u_blk 1 (C := fd_c158) (b := true) (L' := [fd_R 72, fd_I (fd_sum (fun j => if fd_nb (fd_sw M j) > j ∧ fd_nb (fd_sw M (fd_nb (fd_sw M j)).toNat) = j then 1 else 0) k), fd_I (((k + 1) : Nat) : Int), fd_I (fd_nb (fd_sw M k))]) (st' := []) (M' := M) rfl rfl (j := 23) rfl (rfl) ?_
        refine fd_u_jmp (C := fd_c158) (j := 4) (st' := []) rfl rfl (b := true) rfl rfl ?_
        have e5 : (fd_sum (fun j => if fd_nb (fd_sw M j) > j ∧ fd_nb (fd_sw M (fd_nb (fd_sw M j)).toNat) = j then 1 else 0) k) = (fd_sum (fun j => if fd_nb (fd_sw M j) > j ∧ fd_nb (fd_sw M (fd_nb (fd_sw M j)).toNat) = j then 1 else 0) (k + 1)) := by
          show _ = fd_sum (fun j => if fd_nb (fd_sw M j) > j ∧ fd_nb (fd_sw M (fd_nb (fd_sw M j)).toNat) = j then 1 else 0) k + (if fd_nb (fd_sw M k) > (k : Int) ∧ _ then 1 else 0)
          rw [if_neg (fun z => by first | exact absurd z.1 (by omega) | exact h20 z.2)]; omega
        rw [e5]
        exact ih (k + 1) _ (by omega)
      · refine fd_u_blk 2 (C := fd_c158) (b := true) (L' := [fd_R 72, fd_I ((fd_sum (fun j => if fd_nb (fd_sw M j) > j ∧ fd_nb (fd_sw M (fd_nb (fd_sw M j)).toNat) = j then 1 else 0) k) + 1), fd_I (((k + 1) : Nat) : Int), fd_I (fd_nb (fd_sw M k))]) (st' := []) (M' := M) rfl rfl (j := 23) rfl (rfl) ?_
        refine fd_u_jmp (C := fd_c158) (j := 4) (st' := []) rfl rfl (b := true) rfl rfl ?_
        have e5 : ((fd_sum (fun j => if fd_nb (fd_sw M j) > j ∧ fd_nb (fd_sw M (fd_nb (fd_sw M j)).toNat) = j then 1 else 0) k) + 1) = (fd_sum (fun j => if fd_nb (fd_sw M j) > j ∧ fd_nb (fd_sw M (fd_nb (fd_sw M j)).toNat) = j then 1 else 0) (k + 1)) := by
          show _ = fd_sum (fun j => if fd_nb (fd_sw M j) > j ∧ fd_nb (fd_sw M (fd_nb (fd_sw M j)).toNat) = j then 1 else 0) k + (if fd_nb (fd_sw M k) > (k : Int) ∧ _ then 1 else 0)
          rw [if_pos ⟨by omega, Classical.not_not.mp h20⟩]
        rw [e5]
        exact ih (k + 1) _ (by omega)

theorem fd_s_pairs (M : fd_M) (hG : fd_CG M) : fd_call 6 158 [fd_R 72] M (some (fd_I (fd_sum (fun j => if fd_nb (fd_sw M j) > j ∧ fd_nb (fd_sw M (fd_nb (fd_sw M j)).toNat) = j then 1 else 0) (M 3 2).toNat))) M := by
  refine fd_u_in (L := [fd_R 72, fd_R 1003, fd_R 1003, fd_R 1003]) rfl ?_
  obtain ⟨g0, g1, g2, g3, g4, g5⟩ := hG.1
  refine fd_u_blk 4 (C := fd_c158) (b := true) (L' := [fd_R 72, fd_I 0, fd_I 0, fd_R 1003]) (st' := []) (M' := M) rfl rfl (j := 4) rfl (rfl) ?_
  exact fd_l_pairs M hG (M 3 2).toNat 0 _ (by omega)

theorem fd_s_hasWayIn (M : fd_M) (hG : fd_CG M) (d : Int) (hd : 0 ≤ d ∧ d < 6) (w : Int) (hw : 0 ≤ w ∧ w ≤ 3) : fd_call 4 159 [fd_R 72, fd_I d, fd_I w] M (some (fd_I (fd_bi (fd_cvC M (M 15 d.toNat + fd_sx w) (M 16 d.toNat + fd_sy w) = 0)))) M := by
  refine fd_u_in (L := [fd_R 72, fd_I d, fd_I w]) rfl ?_
  obtain ⟨s1, s2, s3, s4, s5, s6, s7, s8⟩ := hG.2
  have q1 := s1 d.toNat
  have q2 := s2 d.toNat
  have q3 := s3 d.toNat
  have q4 := s4 d.toNat
  simp only [Nat.reduceAdd] at q1 q2 q3 q4
  have qx := fd_sx_rng w
  have qy := fd_sy_rng w
  refine fd_u_blk 19 (C := fd_c159) (b := (fd_inb d 6 && (fd_inb w 4 && (fd_inb d 6 && (fd_inb w 4 && true))))) (L' := [fd_R 72, fd_I d, fd_I w]) (st' := [fd_I ((M 16 (d).toNat) + (fd_sy w)), fd_I ((M 15 (d).toNat) + (fd_sx w)), fd_R 72]) (M' := M) rfl rfl (j := 19) rfl (fd_bA (fd_bI (by omega) (by omega)) (fd_bA (fd_bI (by omega) (by omega)) (fd_bA (fd_bI (by omega) (by omega)) (fd_bA (fd_bI (by omega) (by omega)) (rfl))))) ?_
  refine fd_u_call (C := fd_c159) (d0 := 3) (mid := 150) (np := 3) (args := [fd_R 72, fd_I ((M 15 (d).toNat) + (fd_sx w)), fd_I ((M 16 (d).toNat) + (fd_sy w))]) (r1 := some (fd_I (fd_bi (fd_cvC M ((M 15 (d).toNat) + (fd_sx w)) ((M 16 (d).toNat) + (fd_sy w)) = 0)))) (M1 := M) (st' := [fd_I (fd_bi (fd_cvC M ((M 15 (d).toNat) + (fd_sx w)) ((M 16 (d).toNat) + (fd_sy w)) = 0))]) rfl rfl rfl rfl rfl rfl (rfl) (fd_s_isVacant M hG ((M 15 (d).toNat) + (fd_sx w)) ((M 16 (d).toNat) + (fd_sy w)) (by omega) (by omega)) rfl (by omega) ?_
  refine fd_u_ret (C := fd_c159) (b := (fd_inb (fd_bi (fd_cvC M ((M 15 (d).toNat) + (fd_sx w)) ((M 16 (d).toNat) + (fd_sy w)) = 0)) 2)) (r' := some (fd_I (fd_bi (fd_cvC M ((M 15 (d).toNat) + (fd_sx w)) ((M 16 (d).toNat) + (fd_sy w)) = 0)))) rfl rfl rfl (fd_biI) ?_ ?_
  · rfl
  · rfl


/-! the reference: one item -/
def pz_m (tx : Nat → Int) (len : Nat) (it : Int) (p : Nat) (Z : fd_M) : Prop := tk_kd tx len p = 1 ∧ ((tk_vl tx len p = 119 ∧ it = 0) ∨ (tk_vl tx len p = 114 ∧ ¬ (Z 0 0 = 0 ∨ 7 ≤ Z 0 1 ∨ 0 < Z 0 2)) ∨ (tk_vl tx len p = 100 ∧ ¬ 6 ≤ Z 0 2) ∨ (tk_vl tx len p = 112 ∧ Z 0 5 = 0) ∨ (tk_vl tx len p = 115 ∧ Z 0 6 = 0))
def pz_b (tx : Nat → Int) (len : Nat) (c : Int) (p : Nat) (Z : fd_M) : pz_R := if c = 119 then pz_wb tx len p Z else if c = 114 then pz_rb tx len (Z 0 0).toNat 0 p Z else if c = 100 then pz_db tx len p Z else if c = 112 then pz_pb tx len p Z else pz_sb tx len p Z
def pz_eb (tx : Nat → Int) (len : Nat) (B : pz_R) : pz_R := if B.1 = true then pz_e tx len B.2.1 B.2.2 else B
theorem pz_r_rb (tx : Nat → Int) (len : Nat) : ∀ (n x p : Nat) (Z : fd_M), pz_r tx len n x p Z = pz_eb tx len (pz_rb tx len n x p Z)
  | 0, x, p, Z => rfl
  | n + 1, x, p, Z => by
    rw [pz_r, pz_rb]
    split
    · rfl
    · exact pz_r_rb tx len n (x + 1) _ _
theorem pz_i_no {tx : Nat → Int} {len : Nat} {it : Int} {p : Nat} {Z : fd_M} (hG : pz_G Z) (h : ¬ pz_m tx len it p Z) : pz_i tx len it p Z = (false, p, Z) := by
  unfold pz_i
  have g5 := hG.2.2.2.2.2.1
  have g6 := hG.2.2.2.2.2.2.1
  by_cases k : tk_kd tx len p = 1
  · rw [if_neg (fun z => z k)]
    by_cases v1 : tk_vl tx len p = 119
    · rw [if_pos v1, pz_w, if_pos (fun z => h ⟨k, Or.inl ⟨v1, z⟩⟩)]
    · rw [if_neg v1]
      by_cases v2 : tk_vl tx len p = 114
      · rw [if_pos v2, pz_ro, if_pos (Classical.byContradiction fun z => h ⟨k, Or.inr (Or.inl ⟨v2, z⟩)⟩)]
      · rw [if_neg v2]
        by_cases v3 : tk_vl tx len p = 100
        · rw [if_pos v3, pz_d, if_pos (Classical.byContradiction fun z => h ⟨k, Or.inr (Or.inr (Or.inl ⟨v3, z⟩))⟩)]
        · rw [if_neg v3]
          by_cases v4 : tk_vl tx len p = 112
          · rw [if_pos v4, pz_p, if_pos (fun z => h ⟨k, Or.inr (Or.inr (Or.inr (Or.inl ⟨v4, z⟩)))⟩)]
          · rw [if_neg v4]
            by_cases v5 : tk_vl tx len p = 115
            · rw [if_pos v5, pz_s, if_pos (fun z => h ⟨k, Or.inr (Or.inr (Or.inr (Or.inr ⟨v5, z⟩)))⟩)]
            · rw [if_neg v5]
  · rw [if_pos k]
theorem pz_i_yes {tx : Nat → Int} {len : Nat} {it : Int} {p : Nat} {Z : fd_M} (h : pz_m tx len it p Z) : pz_i tx len it p Z = pz_eb tx len (pz_b tx len (tk_vl tx len p) (tk_nx tx len p) Z) := by
  unfold pz_i pz_b
  obtain ⟨k, h⟩ := h
  rw [if_neg (fun z => z k)]
  rcases h with ⟨v, h⟩ | ⟨v, h⟩ | ⟨v, h⟩ | ⟨v, h⟩ | ⟨v, h⟩
  · rw [if_pos v, if_pos v, pz_w, if_neg (fun z => z h), pz_wb]
    by_cases q : pz_n tx len (tk_nx tx len p) 1 7
    · rw [if_neg (fun z => z q), if_pos q]; rfl
    · rw [if_pos q, if_neg q]; rfl
  · rw [if_neg (by omega), if_pos v, if_neg (by omega), if_pos v, pz_ro, if_neg h, pz_r_rb]
  · rw [if_neg (by omega), if_neg (by omega), if_pos v, if_neg (by omega), if_neg (by omega), if_pos v, pz_d, if_neg h, pz_db]
    by_cases q1 : pz_n tx len (tk_nx tx len p) 0 (Z 0 0 - 1)
    · rw [if_neg (not_not_intro q1), if_neg (not_not_intro q1)]
      by_cases q2 : pz_n tx len (tk_nx tx len (tk_nx tx len p)) 0 (Z 0 1 - 1) ∧ pz_f Z (tk_vl tx len (tk_nx tx len p)) (tk_vl tx len (tk_nx tx len (tk_nx tx len p))) = true
      · rw [if_neg (not_not_intro q2), if_neg (not_not_intro q2)]
        by_cases q3 : pz_n tx len (tk_nx tx len (tk_nx tx len (tk_nx tx len p))) 0 3
        · rw [if_neg (not_not_intro q3), if_neg (not_not_intro q3)]; rfl
        · rw [if_pos q3, if_pos q3]; rfl
      · rw [if_pos q2, if_pos q2]; rfl
    · rw [if_pos q1, if_pos q1]; rfl
  · rw [if_neg (by omega), if_neg (by omega), if_neg (by omega), if_pos v, if_neg (by omega), if_neg (by omega), if_neg (by omega), if_pos v, pz_p, if_neg (fun z => z h), pz_pb]
    by_cases q : pz_n tx len (tk_nx tx len p) 1 9
    · rw [if_neg (fun z => z q), if_pos q]; rfl
    · rw [if_pos q, if_neg q]; rfl
  · rw [if_neg (by omega), if_neg (by omega), if_neg (by omega), if_neg (by omega), if_pos v, if_neg (by omega), if_neg (by omega), if_neg (by omega), if_neg (by omega), pz_s, if_neg (fun z => z h), pz_sb]
    by_cases q : pz_n tx len (tk_nx tx len p) 1 7
    · rw [if_neg (fun z => z q), if_pos q]; rfl
    · rw [if_pos q, if_neg q]; rfl
theorem fd_andL : ∀ a b : Fin 2, fd_and ((a.val : Int) + 2 * (b.val : Int)) 1 = (a.val : Int) ∧ fd_and ((a.val : Int) + 2 * (b.val : Int)) 2 = 2 * (b.val : Int) := by decide +kernel
theorem fd_andl {a b : Int} (ha : 0 ≤ a ∧ a ≤ 1) (hb : 0 ≤ b ∧ b ≤ 1) : fd_and (a + 2 * b) 1 = a ∧ fd_and (a + 2 * b) 2 = 2 * b := by
  obtain ⟨n, rfl⟩ := Int.eq_ofNat_of_zero_le ha.1
  obtain ⟨m, rfl⟩ := Int.eq_ofNat_of_zero_le hb.1
  exact fd_andL ⟨n, by omega⟩ ⟨m, by omega⟩
theorem fd_y_mayBe {tx : Nat → Int} {len : Nat} (K : fd_M) (p : Nat) (hT : tk_TR tx len p K) (Z : fd_M) (hG : pz_G Z) (hZ : tk_RZ K Z) (it : Int) (hit : 0 ≤ it ∧ it ≤ 1000) : fd_callE 0 59 [fd_R 199, fd_I (K 199 13), fd_I it] K (fun r R => (r = some (fd_I 1) ∧ pz_m tx len it p Z ∧ R = K) ∨ (r = some (fd_I 0) ∧ ¬ pz_m tx len it p Z ∧ R = K)) := by
  refine fd_e_in (L := [fd_R 199, fd_I (K 199 13), fd_I it]) rfl ?_
  obtain ⟨ta, tb, tc, td, te⟩ := id hT
  obtain ⟨zz0, zz1, zz2, zz3, zz4, zz5, zz6, zz7⟩ := id hZ
  obtain ⟨g0, g1, g2, g3, g4, g5, g6, g7, g8, g9, g10⟩ := id hG
  obtain ⟨s0, s1, s2, s3, s4, s5⟩ := tk_rs_f tx len p
  have al := fd_andl g5 g6
  rw [← zz5] at al
  refine fd_e_blk 1 (C := fd_c59) (b := true) (L' := [fd_R 199, fd_I (K 199 13), fd_I it]) (st' := [fd_I (K 199 13)]) (M' := K) rfl rfl (j := 1) rfl (rfl) ?_
  by_cases h1_0 : (K 199 13) = 100
  · refine fd_e_jmp (C := fd_c59) (j := 28) (st' := []) rfl rfl (b := fd_rng (K 199 13)) (by rw [h1_0]; rfl) (fd_bR (by omega) (by omega)) ?_
    refine fd_e_blk 5 (C := fd_c59) (b := true) (L' := [fd_R 199, fd_I (K 199 13), fd_I it]) (st' := [fd_I 6, fd_I (K 204 1)]) (M' := K) rfl rfl (j := 33) rfl (rfl) ?_
    refine fd_e_br (C := fd_c59) (t := 36) (e := 34) (st' := []) (c := 6 ≤ (K 204 1)) (b := (fd_rng (K 204 1) && fd_rng 6)) rfl rfl rfl (fd_bA (fd_bR (by omega) (by omega)) (fd_bR (by omega) (by omega))) (fun h33 => ?_) (fun h33 => ?_)
    · refine fd_e_blk 1 (C := fd_c59) (b := true) (L' := [fd_R 199, fd_I (K 199 13), fd_I it]) (st' := [fd_I 0]) (M' := K) rfl rfl (j := 37) rfl (rfl) ?_
      refine fd_e_ret (C := fd_c59) (b := true) (r' := some (fd_I 0)) rfl rfl rfl (rfl) ?_
      refine Or.inr ⟨rfl, ?_, rfl⟩
      rintro ⟨k1, hh⟩
      have e1 := s4 k1
      omega
    · refine fd_e_blk 1 (C := fd_c59) (b := true) (L' := [fd_R 199, fd_I (K 199 13), fd_I it]) (st' := [fd_I 1]) (M' := K) rfl rfl (j := 35) rfl (rfl) ?_
      refine fd_e_jmp (C := fd_c59) (j := 37) (st' := [fd_I 1]) rfl rfl (b := true) rfl rfl ?_
      refine fd_e_ret (C := fd_c59) (b := true) (r' := some (fd_I 1)) rfl rfl rfl (rfl) ?_
      refine Or.inl ⟨rfl, ?_, rfl⟩
      have k1 : tk_kd tx len p = 1 := Classical.byContradiction fun z => by have := s5 z; omega
      have e1 := s4 k1
      refine ⟨k1, ?_⟩
      first | exact Or.inl ⟨by omega, by omega⟩ | exact Or.inr (Or.inl ⟨by omega, by omega⟩) | exact Or.inr (Or.inr (Or.inl ⟨by omega, by omega⟩)) | exact Or.inr (Or.inr (Or.inr (Or.inl ⟨by omega, by omega⟩))) | exact Or.inr (Or.inr (Or.inr (Or.inr ⟨by omega, by omega⟩)))
  by_cases h1_1 : (K 199 13) = 112
  · refine fd_e_jmp (C := fd_c59) (j := 38) (st' := []) rfl rfl (b := fd_rng (K 199 13)) (by rw [h1_1]; rfl) (fd_bR (by omega) (by omega)) ?_
    refine fd_e_blk 4 (C := fd_c59) (b := true) (L' := [fd_R 199, fd_I (K 199 13), fd_I it]) (st' := [fd_I (fd_and (K 199 10) 1)]) (M' := K) rfl rfl (j := 42) rfl (rfl) ?_
    refine fd_e_br (C := fd_c59) (t := 45) (e := 43) (st' := []) (c := ¬ (fd_and (K 199 10) 1) = 0) (b := (fd_rng (fd_and (K 199 10) 1))) rfl rfl rfl (fd_bR (by omega) (by omega)) (fun h42 => ?_) (fun h42 => ?_)
    · refine fd_e_blk 1 (C := fd_c59) (b := true) (L' := [fd_R 199, fd_I (K 199 13), fd_I it]) (st' := [fd_I 0]) (M' := K) rfl rfl (j := 46) rfl (rfl) ?_
      refine fd_e_ret (C := fd_c59) (b := true) (r' := some (fd_I 0)) rfl rfl rfl (rfl) ?_
      refine Or.inr ⟨rfl, ?_, rfl⟩
      rintro ⟨k1, hh⟩
      have e1 := s4 k1
      omega
    · refine fd_e_blk 1 (C := fd_c59) (b := true) (L' := [fd_R 199, fd_I (K 199 13), fd_I it]) (st' := [fd_I 1]) (M' := K) rfl rfl (j := 44) rfl (rfl) ?_
      refine fd_e_jmp (C := fd_c59) (j := 46) (st' := [fd_I 1]) rfl rfl (b := true) rfl rfl ?_
      refine fd_e_ret (C := fd_c59) (b := true) (r' := some (fd_I 1)) rfl rfl rfl (rfl) ?_
      refine Or.inl ⟨rfl, ?_, rfl⟩
      have k1 : tk_kd tx len p = 1 := Classical.byContradiction fun z => by have := s5 z; omega
      have e1 := s4 k1
      refine ⟨k1, ?_⟩
      first | exact Or.inl ⟨by omega, by omega⟩ | exact Or.inr (Or.inl ⟨by omega, by omega⟩) | exact Or.inr (Or.inr (Or.inl ⟨by omega, by omega⟩)) | exact Or.inr (Or.inr (Or.inr (Or.inl ⟨by omega, by omega⟩))) | exact Or.inr (Or.inr (Or.inr (Or.inr ⟨by omega, by omega⟩)))
  by_cases h1_2 : (K 199 13) = 114
  · refine fd_e_jmp (C := fd_c59) (j := 8) (st' := []) rfl rfl (b := fd_rng (K 199 13)) (by rw [h1_2]; rfl) (fd_bR (by omega) (by omega)) ?_
    refine fd_e_blk 4 (C := fd_c59) (b := true) (L' := [fd_R 199, fd_I (K 199 13), fd_I it]) (st' := [fd_I (K 201 1)]) (M' := K) rfl rfl (j := 12) rfl (rfl) ?_
    refine fd_e_br (C := fd_c59) (t := 26) (e := 13) (st' := []) (c := (K 201 1) ≤ 0) (b := (fd_rng (K 201 1))) rfl rfl rfl (fd_bR (by omega) (by omega)) (fun h12 => ?_) (fun h12 => ?_)
    · refine fd_e_blk 1 (C := fd_c59) (b := true) (L' := [fd_R 199, fd_I (K 199 13), fd_I it]) (st' := [fd_I 0]) (M' := K) rfl rfl (j := 27) rfl (rfl) ?_
      refine fd_e_ret (C := fd_c59) (b := true) (r' := some (fd_I 0)) rfl rfl rfl (rfl) ?_
      refine Or.inr ⟨rfl, ?_, rfl⟩
      rintro ⟨k1, hh⟩
      have e1 := s4 k1
      omega
    · refine fd_e_blk 5 (C := fd_c59) (b := true) (L' := [fd_R 199, fd_I (K 199 13), fd_I it]) (st' := [fd_I 7, fd_I (K 202 1)]) (M' := K) rfl rfl (j := 18) rfl (rfl) ?_
      refine fd_e_br (C := fd_c59) (t := 26) (e := 19) (st' := []) (c := 7 ≤ (K 202 1)) (b := (fd_rng (K 202 1) && fd_rng 7)) rfl rfl rfl (fd_bA (fd_bR (by omega) (by omega)) (fd_bR (by omega) (by omega))) (fun h18 => ?_) (fun h18 => ?_)
      · refine fd_e_blk 1 (C := fd_c59) (b := true) (L' := [fd_R 199, fd_I (K 199 13), fd_I it]) (st' := [fd_I 0]) (M' := K) rfl rfl (j := 27) rfl (rfl) ?_
        refine fd_e_ret (C := fd_c59) (b := true) (r' := some (fd_I 0)) rfl rfl rfl (rfl) ?_
        refine Or.inr ⟨rfl, ?_, rfl⟩
        rintro ⟨k1, hh⟩
        have e1 := s4 k1
        omega
      · refine fd_e_blk 4 (C := fd_c59) (b := true) (L' := [fd_R 199, fd_I (K 199 13), fd_I it]) (st' := [fd_I (K 204 1)]) (M' := K) rfl rfl (j := 23) rfl (rfl) ?_
        refine fd_e_br (C := fd_c59) (t := 26) (e := 24) (st' := []) (c := ¬ (K 204 1) = 0) (b := (fd_rng (K 204 1))) rfl rfl rfl (fd_bR (by omega) (by omega)) (fun h23 => ?_) (fun h23 => ?_)
        · refine fd_e_blk 1 (C := fd_c59) (b := true) (L' := [fd_R 199, fd_I (K 199 13), fd_I it]) (st' := [fd_I 0]) (M' := K) rfl rfl (j := 27) rfl (rfl) ?_
          refine fd_e_ret (C := fd_c59) (b := true) (r' := some (fd_I 0)) rfl rfl rfl (rfl) ?_
          refine Or.inr ⟨rfl, ?_, rfl⟩
          rintro ⟨k1, hh⟩
          have e1 := s4 k1
          omega
        · refine fd_e_blk 1 (C := fd_c59) (b := true) (L' := [fd_R 199, fd_I (K 199 13), fd_I it]) (st' := [fd_I 1]) (M' := K) rfl rfl (j := 25) rfl (rfl) ?_
          refine fd_e_jmp (C := fd_c59) (j := 27) (st' := [fd_I 1]) rfl rfl (b := true) rfl rfl ?_
          refine fd_e_ret (C := fd_c59) (b := true) (r' := some (fd_I 1)) rfl rfl rfl (rfl) ?_
          refine Or.inl ⟨rfl, ?_, rfl⟩
          have k1 : tk_kd tx len p = 1 := Classical.byContradiction fun z => by have := s5 z; omega
          have e1 := s4 k1
          refine ⟨k1, ?_⟩
          first | exact Or.inl ⟨by omega, by omega⟩ | exact Or.inr (Or.inl ⟨by omega, by omega⟩) | exact Or.inr (Or.inr (Or.inl ⟨by omega, by omega⟩)) | exact Or.inr (Or.inr (Or.inr (Or.inl ⟨by omega, by omega⟩))) | exact Or.inr (Or.inr (Or.inr (Or.inr ⟨by omega, by omega⟩)))
  by_cases h1_3 : (K 199 13) = 115
  · refine fd_e_jmp (C := fd_c59) (j := 47) (st' := []) rfl rfl (b := fd_rng (K 199 13)) (by rw [h1_3]; rfl) (fd_bR (by omega) (by omega)) ?_
    refine fd_e_blk 4 (C := fd_c59) (b := true) (L' := [fd_R 199, fd_I (K 199 13), fd_I it]) (st' := [fd_I (fd_and (K 199 10) 2)]) (M' := K) rfl rfl (j := 51) rfl (rfl) ?_
    refine fd_e_br (C := fd_c59) (t := 54) (e := 52) (st' := []) (c := ¬ (fd_and (K 199 10) 2) = 0) (b := (fd_rng (fd_and (K 199 10) 2))) rfl rfl rfl (fd_bR (by omega) (by omega)) (fun h51 => ?_) (fun h51 => ?_)
    · refine fd_e_blk 1 (C := fd_c59) (b := true) (L' := [fd_R 199, fd_I (K 199 13), fd_I it]) (st' := [fd_I 0]) (M' := K) rfl rfl (j := 55) rfl (rfl) ?_
      refine fd_e_ret (C := fd_c59) (b := true) (r' := some (fd_I 0)) rfl rfl rfl (rfl) ?_
      refine Or.inr ⟨rfl, ?_, rfl⟩
      rintro ⟨k1, hh⟩
      have e1 := s4 k1
      omega
    · refine fd_e_blk 1 (C := fd_c59) (b := true) (L' := [fd_R 199, fd_I (K 199 13), fd_I it]) (st' := [fd_I 1]) (M' := K) rfl rfl (j := 53) rfl (rfl) ?_
      refine fd_e_jmp (C := fd_c59) (j := 55) (st' := [fd_I 1]) rfl rfl (b := true) rfl rfl ?_
      refine fd_e_ret (C := fd_c59) (b := true) (r' := some (fd_I 1)) rfl rfl rfl (rfl) ?_
      refine Or.inl ⟨rfl, ?_, rfl⟩
      have k1 : tk_kd tx len p = 1 := Classical.byContradiction fun z => by have := s5 z; omega
      have e1 := s4 k1
      refine ⟨k1, ?_⟩
      first | exact Or.inl ⟨by omega, by omega⟩ | exact Or.inr (Or.inl ⟨by omega, by omega⟩) | exact Or.inr (Or.inr (Or.inl ⟨by omega, by omega⟩)) | exact Or.inr (Or.inr (Or.inr (Or.inl ⟨by omega, by omega⟩))) | exact Or.inr (Or.inr (Or.inr (Or.inr ⟨by omega, by omega⟩)))
  by_cases h1_4 : (K 199 13) = 119
  · refine fd_e_jmp (C := fd_c59) (j := 2) (st' := []) rfl rfl (b := fd_rng (K 199 13)) (by rw [h1_4]; rfl) (fd_bR (by omega) (by omega)) ?_
    refine fd_e_blk 1 (C := fd_c59) (b := true) (L' := [fd_R 199, fd_I (K 199 13), fd_I it]) (st' := [fd_I it]) (M' := K) rfl rfl (j := 3) rfl (rfl) ?_
    refine fd_e_br (C := fd_c59) (t := 6) (e := 4) (st' := []) (c := ¬ it = 0) (b := (fd_rng it)) rfl rfl rfl (fd_bR (by omega) (by omega)) (fun h3 => ?_) (fun h3 => ?_)
    · refine fd_e_blk 1 (C := fd_c59) (b := true) (L' := [fd_R 199, fd_I (K 199 13), fd_I it]) (st' := [fd_I 0]) (M' := K) rfl rfl (j := 7) rfl (rfl) ?_
      refine fd_e_ret (C := fd_c59) (b := true) (r' := some (fd_I 0)) rfl rfl rfl (rfl) ?_
      refine Or.inr ⟨rfl, ?_, rfl⟩
      rintro ⟨k1, hh⟩
      have e1 := s4 k1
      omega
    · refine fd_e_blk 1 (C := fd_c59) (b := true) (L' := [fd_R 199, fd_I (K 199 13), fd_I it]) (st' := [fd_I 1]) (M' := K) rfl rfl (j := 5) rfl (rfl) ?_
      refine fd_e_jmp (C := fd_c59) (j := 7) (st' := [fd_I 1]) rfl rfl (b := true) rfl rfl ?_
      refine fd_e_ret (C := fd_c59) (b := true) (r' := some (fd_I 1)) rfl rfl rfl (rfl) ?_
      refine Or.inl ⟨rfl, ?_, rfl⟩
      have k1 : tk_kd tx len p = 1 := Classical.byContradiction fun z => by have := s5 z; omega
      have e1 := s4 k1
      refine ⟨k1, ?_⟩
      first | exact Or.inl ⟨by omega, by omega⟩ | exact Or.inr (Or.inl ⟨by omega, by omega⟩) | exact Or.inr (Or.inr (Or.inl ⟨by omega, by omega⟩)) | exact Or.inr (Or.inr (Or.inr (Or.inl ⟨by omega, by omega⟩))) | exact Or.inr (Or.inr (Or.inr (Or.inr ⟨by omega, by omega⟩)))
  refine fd_e_jmp (C := fd_c59) (j := 56) (st' := []) rfl rfl (b := fd_rng (K 199 13)) (by simp only [fd_jmp, fd_look, List.drop_succ_cons, List.drop_zero, h1_0, h1_1, h1_2, h1_3, h1_4, if_false]; rfl) (fd_bR (by omega) (by omega)) ?_
  refine fd_e_blk 1 (C := fd_c59) (b := true) (L' := [fd_R 199, fd_I (K 199 13), fd_I it]) (st' := [fd_I 0]) (M' := K) rfl rfl (j := 57) rfl (rfl) ?_
  refine fd_e_ret (C := fd_c59) (b := true) (r' := some (fd_I 0)) rfl rfl rfl (rfl) ?_
  refine Or.inr ⟨rfl, ?_, rfl⟩
  rintro ⟨k1, hh⟩
  have e1 := s4 k1
  omega

theorem fd_y_readRow {tx : Nat → Int} {len : Nat} (K : fd_M) (hx : tk_TxR tx len K) (p : Nat) (hp : p ≤ len) (hT : tk_TR tx len p K) (hf : K 199 15 = -9) (hN : tk_RN K) (Z : fd_M) (hG : pz_G Z) (hZ : tk_RZ K Z) (c : Int) (hc : (c = 119 ∧ Z 0 1 = 0) ∨ (c = 114 ∧ Z 0 1 ≤ 6) ∨ (c = 100 ∧ Z 0 2 ≤ 5) ∨ c = 112 ∨ c = 115) : ∃ R, fd_call 4 62 [fd_R 199, fd_I c] K none R ∧ tk_RB tx len K (pz_b tx len c p Z) none R := by
  have fin : ∀ B, fd_callE 4 62 [fd_R 199, fd_I c] K (tk_RB tx len K B) → pz_b tx len c p Z = B → ∃ R, fd_call 4 62 [fd_R 199, fd_I c] K none R ∧ tk_RB tx len K (pz_b tx len c p Z) none R := fun B h e => by
    obtain ⟨r, R, h1, h2⟩ := h
    have e2 : r = none := h2.1
    subst e2
    rw [e]
    exact ⟨R, h1, h2⟩
  rcases hc with ⟨rfl, h⟩ | ⟨rfl, h⟩ | ⟨rfl, h⟩ | rfl | rfl
  · refine fin (pz_wb tx len p Z) ?_ rfl
    by_cases q : pz_n tx len p 1 7
    · exact fd_y_rw1 K hx p hp hT hf hN Z hG hZ h q
    · exact fd_y_rw0 K hx p hp hT hf hN Z hG hZ h q
  · exact fin (pz_rb tx len (Z 0 0).toNat 0 p Z) (fd_y_rr K hx p hp hT hf hN Z hG hZ h) rfl
  · refine fin (pz_db tx len p Z) ?_ rfl
    by_cases q1 : pz_n tx len p 0 (Z 0 0 - 1)
    · by_cases q2 : pz_n tx len (tk_nx tx len p) 0 (Z 0 1 - 1) ∧ pz_f Z (tk_vl tx len p) (tk_vl tx len (tk_nx tx len p)) = true
      · by_cases q3 : pz_n tx len (tk_nx tx len (tk_nx tx len p)) 0 3
        · exact fd_y_rd1 K hx p hp hT hf hN Z hG hZ h q1 q2 q3
        · exact fd_y_rd3 K hx p hp hT hf hN Z hG hZ h q1 q2 q3
      · exact fd_y_rd2 K hx p hp hT hf hN Z hG hZ h q1 q2
    · exact fd_y_rd0 K hx p hp hT hf hN Z hG hZ h q1
  · refine fin (pz_pb tx len p Z) ?_ rfl
    by_cases q : pz_n tx len p 1 9
    · exact fd_y_rp1 K hx p hp hT hf hN Z hG hZ q
    · exact fd_y_rp0 K hx p hp hT hf hN Z hG hZ q
  · refine fin (pz_sb tx len p Z) ?_ rfl
    by_cases q : pz_n tx len p 1 7
    · exact fd_y_rs1 K hx p hp hT hf hN Z hG hZ q
    · exact fd_y_rs0 K hx p hp hT hf hN Z hG hZ q

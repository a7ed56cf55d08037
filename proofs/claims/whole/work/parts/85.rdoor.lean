/-! the reference: doors -/
theorem pz_f_ref {K Z : fd_M} (hG : pz_G Z) (hZ : tk_RZ K Z) {x y : Int} (hx : 0 ≤ x ∧ x < Z 0 0) (hy : 0 ≤ y ∧ y < Z 0 1) : (decide (K 203 (49 + (7 * y.toNat + x.toNat)) = 0) && fd_all (fun d => decide (¬ K 205 d = ((7 * y.toNat + x.toNat : Nat) : Int))) (K 204 1).toNat) = pz_f Z x y := by
  obtain ⟨zz0, zz1, zz2, zz3, zz4, zz5, zz6, zz7⟩ := hZ
  obtain ⟨g0, g1, g2, g3, g4, g5, g6, g7, g8, g9, g10⟩ := hG
  unfold pz_f
  rw [zz6 x.toNat y.toNat (by omega) (by omega), show (y * 7 + x).toNat = 7 * y.toNat + x.toNat by omega, zz2]
  congr 1
  apply fd_all_congr
  intro d hd
  have h5 := (zz7 d (by omega)).1
  have h8 := g8 d
  have h9 := g9 d
  rw [h5]
  congr 1
  apply propext
  constructor
  · intro h z
    apply h
    omega
  · intro h z
    apply h
    omega
theorem tk_h5 {K Z : fd_M} (hG : pz_G Z) (hZ : tk_RZ K Z) : ∀ d : Nat, (d : Int) < K 204 1 → 0 ≤ K 205 d ∧ K 205 d ≤ 48 := by
  intro d hd
  obtain ⟨zz0, zz1, zz2, zz3, zz4, zz5, zz6, zz7⟩ := hZ
  have h5 := (zz7 d (by omega)).1
  have h8 := hG.2.2.2.2.2.2.2.2.1 d
  have h9 := hG.2.2.2.2.2.2.2.2.2.1 d
  rw [h5]
  omega
theorem fd_y_freeI (K : fd_M) (h1 : 0 ≤ K 204 1 ∧ K 204 1 ≤ 6) (h5 : ∀ d : Nat, (d : Int) < K 204 1 → 0 ≤ K 205 d ∧ K 205 d ≤ 48) (hN : tk_RN K) (e : Int) (a : Nat) (he : e = (a : Int)) (ha : a < 49) : fd_call 0 61 [fd_R 199, fd_I e] K (some (fd_I (fd_bi ((decide (K 203 (49 + a) = 0) && fd_all (fun d => decide (¬ K 205 d = (a : Int))) (K 204 1).toNat) = true)))) K := by
  subst he
  exact fd_y_freeD K h1 h5 a ha (by have := hN.2.2 a ha; omega)
theorem fd_y_rd1 {tx : Nat → Int} {len : Nat} (K : fd_M) (hx : tk_TxR tx len K) (p : Nat) (hp : p ≤ len) (hT : tk_TR tx len p K) (hf : K 199 15 = -9) (hN : tk_RN K) (Z : fd_M) (hG : pz_G Z) (hZ : tk_RZ K Z) (hD : Z 0 2 ≤ 5) (h1 : pz_n tx len p 0 (Z 0 0 - 1)) (h2 : pz_n tx len (tk_nx tx len p) 0 (Z 0 1 - 1) ∧ pz_f Z (tk_vl tx len p) (tk_vl tx len (tk_nx tx len p)) = true) (h3 : pz_n tx len (tk_nx tx len (tk_nx tx len p)) 0 3) : fd_callE 4 62 [fd_R 199, fd_I 100] K (tk_RB tx len K (pz_db tx len p Z)) := by
  refine fd_e_in (L := [fd_R 199, fd_I 100, fd_R 1003, fd_R 1003, fd_R 1003]) rfl ?_
  obtain ⟨zz0, zz1, zz2, zz3, zz4, zz5, zz6, zz7⟩ := id hZ
  obtain ⟨g0, g1, g2, g3, g4, g5, g6, g7, g8, g9, g10⟩ := id hG
  obtain ⟨rn1, rn2, rn3⟩ := id hN
  have lr := tk_ls_rng (tx := tx) hp
  have l1 := hx.2.1
  obtain ⟨ta, tb, tc, td, te⟩ := id hT
  have kr := tk_kd_rng tx len p
  refine fd_e_blk 1 (C := fd_c62) (b := true) (L' := [fd_R 199, fd_I 100, fd_R 1003, fd_R 1003, fd_R 1003]) (st' := [fd_I 100]) (M' := K) rfl rfl (j := 1) rfl (rfl) ?_
  refine fd_e_jmp (C := fd_c62) (j := 61) (st' := []) rfl rfl (b := fd_rng 100) rfl rfl ?_
  refine fd_e_blk 8 (C := fd_c62) (b := true) (L' := [fd_R 199, fd_I 100, fd_R 1003, fd_R 1003, fd_R 1003]) (st' := [fd_I ((K 201 1) - 1), fd_I 0, fd_R 199]) (M' := K) rfl rfl (j := 69) rfl (rfl) ?_
  obtain ⟨rA, A, cA, eA, tA, fA⟩ := fd_y_numOk K hx p hp hT hf 0 (K 201 1 - 1) (by omega) (by omega) (by rw [zz0]; exact h1)
  subst eA
  obtain ⟨aa, ab, ac, ad, ae⟩ := id tA
  have hxA := tk_TxR_RA hx fA
  have hfA : A 199 15 = -9 := (fA.2 15 (by omega)).trans hf
  have hNA := tk_RN_RA hN fA tA
  have hZA := tk_RZ_RA hZ fA
  have A2 : A 202 1 = Z 0 1 := hZA.2.1
  have A4 : A 204 1 = Z 0 2 := hZA.2.2.1
  have lr1 := tk_ls_rng (tx := tx) (tk_nl (tx := tx) hp)
  obtain ⟨sA0, sA1, sA2, sA3, sA4, sA5⟩ := tk_rs_f tx len (tk_nx tx len p)
  have kr1 := tk_kd_rng tx len (tk_nx tx len p)
  refine fd_e_call (C := fd_c62) (d0 := 3) (mid := 58) (np := 3) (args := [fd_R 199, fd_I 0, fd_I ((K 201 1) - 1)]) (r1 := some (fd_I (tk_vl tx len p))) (M1 := A) (st' := [fd_I (tk_vl tx len p)]) rfl rfl rfl rfl rfl rfl (rfl) (cA) rfl (by omega) ?_
  refine fd_e_blk 5 (C := fd_c62) (b := true) (L' := [fd_R 199, fd_I 100, fd_I (tk_vl tx len p), fd_R 1003, fd_R 1003]) (st' := [fd_I 1, fd_I (A 199 13), fd_R 199]) (M' := A) rfl rfl (j := 75) rfl (rfl) ?_
  refine fd_e_br (C := fd_c62) (t := 100) (e := 76) (st' := [fd_R 199]) (c := ¬ (A 199 13) = 1) (b := (fd_rng (A 199 13) && fd_rng 1)) rfl rfl rfl (fd_bA (fd_bR (by omega) (by omega)) (fd_bR (by omega) (by omega))) (fun h75 => absurd h75 (by have := h2.1.1; omega)) (fun h75 => ?_)
  refine fd_e_blk 6 (C := fd_c62) (b := true) (L' := [fd_R 199, fd_I 100, fd_I (tk_vl tx len p), fd_R 1003, fd_R 1003]) (st' := [fd_I (A 202 1), fd_I (A 199 14), fd_R 199]) (M' := A) rfl rfl (j := 82) rfl (rfl) ?_
  refine fd_e_br (C := fd_c62) (t := 100) (e := 83) (st' := [fd_R 199]) (c := (A 202 1) ≤ (A 199 14)) (b := (fd_rng (A 199 14) && fd_rng (A 202 1))) rfl rfl rfl (fd_bA (fd_bR (by omega) (by omega)) (fd_bR (by omega) (by omega))) (fun h82 => absurd h82 (by have := h2.1; have := ad h2.1.1; omega)) (fun h82 => ?_)
  refine fd_e_blk 8 (C := fd_c62) (b := true) (L' := [fd_R 199, fd_I 100, fd_I (tk_vl tx len p), fd_R 1003, fd_R 1003]) (st' := [fd_I (-9), fd_I (A 199 15), fd_I (7 * (A 199 14)), fd_R 199, fd_R 199]) (M' := A) rfl rfl (j := 91) rfl (rfl) ?_
  refine fd_e_br (C := fd_c62) (t := 94) (e := 92) (st' := [fd_I (7 * (A 199 14)), fd_R 199, fd_R 199]) (c := ¬ (A 199 15) = (-9)) (b := (fd_rng (A 199 15) && fd_rng (-9))) rfl rfl rfl (fd_bA (fd_bR (by omega) (by omega)) (fd_bR (by omega) (by omega))) (fun h91 => absurd h91 (by omega)) (fun h91 => ?_)
  refine fd_e_blk 1 (C := fd_c62) (b := true) (L' := [fd_R 199, fd_I 100, fd_I (tk_vl tx len p), fd_R 1003, fd_R 1003]) (st' := [fd_I (tk_vl tx len p), fd_I (7 * (A 199 14)), fd_R 199, fd_R 199]) (M' := A) rfl rfl (j := 93) rfl (rfl) ?_
  refine fd_e_jmp (C := fd_c62) (j := 95) (st' := [fd_I (tk_vl tx len p), fd_I (7 * (A 199 14)), fd_R 199, fd_R 199]) rfl rfl (b := true) rfl rfl ?_
  refine fd_e_blk 1 (C := fd_c62) (b := true) (L' := [fd_R 199, fd_I 100, fd_I (tk_vl tx len p), fd_R 1003, fd_R 1003]) (st' := [fd_I ((7 * (A 199 14)) + (tk_vl tx len p)), fd_R 199, fd_R 199]) (M' := A) rfl rfl (j := 96) rfl (rfl) ?_
  have hk2 : tk_kd tx len (tk_nx tx len p) = 2 := by omega
  have ev2 := ad hk2
  have qy : 0 ≤ tk_vl tx len (tk_nx tx len p) ∧ tk_vl tx len (tk_nx tx len p) < Z 0 1 := by omega
  refine fd_e_call (C := fd_c62) (d0 := 0) (mid := 61) (np := 2) (args := [fd_R 199, fd_I ((7 * (A 199 14)) + (tk_vl tx len p))]) (r1 := some (fd_I (fd_bi (pz_f Z (tk_vl tx len p) (tk_vl tx len (tk_nx tx len p)) = true)))) (M1 := A) (st' := [fd_I (fd_bi (pz_f Z (tk_vl tx len p) (tk_vl tx len (tk_nx tx len p)) = true)), fd_R 199]) rfl rfl rfl rfl rfl rfl (rfl) (by rw [← pz_f_ref hG hZA (x := tk_vl tx len p) (y := tk_vl tx len (tk_nx tx len p)) (by have := h1.2; omega) qy]; exact fd_y_freeI A (by omega) (tk_h5 hG hZA) hNA _ _ (by have := h1.2; omega) (by have := h1.2; omega)) rfl (by omega) ?_
  refine fd_e_br (C := fd_c62) (t := 100) (e := 98) (st' := [fd_R 199]) (c := (fd_bi (pz_f Z (tk_vl tx len p) (tk_vl tx len (tk_nx tx len p)) = true)) = 0) (b := (fd_rng (fd_bi (pz_f Z (tk_vl tx len p) (tk_vl tx len (tk_nx tx len p)) = true)))) rfl rfl rfl (fd_biR) (fun h97 => absurd h97 (by rw [fd_bi1 h2.2]; decide)) (fun h97 => ?_)
  have h97 := fd_biT.mp h97
  refine fd_e_blk 1 (C := fd_c62) (b := true) (L' := [fd_R 199, fd_I 100, fd_I (tk_vl tx len p), fd_R 1003, fd_R 1003]) (st' := [fd_I 1, fd_R 199]) (M' := A) rfl rfl (j := 99) rfl (rfl) ?_
  refine fd_e_jmp (C := fd_c62) (j := 101) (st' := [fd_I 1, fd_R 199]) rfl rfl (b := true) rfl rfl ?_
  obtain ⟨rB, B, cB, eB, tB, fB⟩ := fd_y_due1 A hxA (tk_nx tx len p) (tk_nl hp) tA hfA
  subst eB
  obtain ⟨ba, bb, bc, bd, be⟩ := id tB
  have hxB := tk_TxR_RA hxA fB
  have hfB : B 199 15 = -9 := (fB.2 15 (by omega)).trans hfA
  have hNB := tk_RN_RA hNA fB tB
  have hZB := tk_RZ_RA hZA fB
  have lr2 := tk_ls_rng (tx := tx) (tk_nl (tx := tx) (tk_nl (tx := tx) hp))
  refine fd_e_call (C := fd_c62) (d0 := 2) (mid := 57) (np := 2) (args := [fd_R 199, fd_I 1]) (r1 := some (fd_I (A 199 14))) (M1 := B) (st' := [fd_I (A 199 14)]) rfl rfl rfl rfl rfl rfl (rfl) (cB) rfl (by omega) ?_
  refine fd_e_blk 4 (C := fd_c62) (b := true) (L' := [fd_R 199, fd_I 100, fd_I (tk_vl tx len p), fd_I (A 199 14), fd_R 1003]) (st' := [fd_I 3, fd_I 0, fd_R 199]) (M' := B) rfl rfl (j := 106) rfl (rfl) ?_
  obtain ⟨rC, C, cC, eC, tC, fC⟩ := fd_y_numOk B hxB (tk_nx tx len (tk_nx tx len p)) (tk_nl (tk_nl hp)) tB hfB 0 3 (by omega) (by omega) h3
  subst eC
  have hfC : C 199 15 = -9 := (fC.2 15 (by omega)).trans hfB
  have hNC := tk_RN_RA hNB fC tC
  have hZC := tk_RZ_RA hZB fC
  have C4 : C 204 1 = Z 0 2 := hZC.2.2.1
  refine fd_e_call (C := fd_c62) (d0 := 3) (mid := 58) (np := 3) (args := [fd_R 199, fd_I 0, fd_I 3]) (r1 := some (fd_I (tk_vl tx len (tk_nx tx len (tk_nx tx len p))))) (M1 := C) (st' := [fd_I (tk_vl tx len (tk_nx tx len (tk_nx tx len p)))]) rfl rfl rfl rfl rfl rfl (rfl) (cC) rfl (by omega) ?_
  refine fd_e_blk 4 (C := fd_c62) (b := true) (L' := [fd_R 199, fd_I 100, fd_I (tk_vl tx len p), fd_I (A 199 14), fd_I (tk_vl tx len (tk_nx tx len (tk_nx tx len p)))]) (st' := [fd_I (-9), fd_I (C 199 15)]) (M' := C) rfl rfl (j := 111) rfl (rfl) ?_
  refine fd_e_br (C := fd_c62) (t := 132) (e := 112) (st' := []) (c := ¬ (C 199 15) = (-9)) (b := (fd_rng (C 199 15) && fd_rng (-9))) rfl rfl rfl (fd_bA (fd_bR (by omega) (by omega)) (fd_bR (by omega) (by omega))) (fun h111 => absurd h111 (by omega)) (fun h111 => ?_)
  refine fd_e_blk 28 (C := fd_c62) (b := (fd_isA true C 205 20 (C 204 1) && (fd_isA true (fd_up C 205 (C 204 1).toNat ((7 * (A 199 14)) + (tk_vl tx len p))) 206 20 (C 204 1) && true))) (L' := [fd_R 199, fd_I 100, fd_I (tk_vl tx len p), fd_I (A 199 14), fd_I (tk_vl tx len (tk_nx tx len (tk_nx tx len p)))]) (st' := []) (M' := (fd_up (fd_up (fd_up C 205 (C 204 1).toNat ((7 * (A 199 14)) + (tk_vl tx len p))) 206 (C 204 1).toNat (tk_vl tx len (tk_nx tx len (tk_nx tx len p)))) 204 1 ((C 204 1) + 1))) rfl rfl (j := 140) rfl (fd_bA (fd_iA fd_sh205 (by omega) (by omega)) (fd_bA (fd_iA fd_sh206 (by omega) (by omega)) (rfl))) ?_
  refine fd_e_jmp (C := fd_c62) (j := 170) (st' := []) rfl rfl (b := true) rfl rfl ?_
  refine fd_e_ret (C := fd_c62) (b := true) (r' := none) rfl rfl rfl (rfl) ?_
  rw [pz_db, if_neg (show ¬ ¬ pz_n tx len p 0 (Z 0 0 - 1) from fun z => z h1), if_neg (show ¬ ¬ (pz_n tx len (tk_nx tx len p) 0 (Z 0 1 - 1) ∧ pz_f Z (tk_vl tx len p) (tk_vl tx len (tk_nx tx len p)) = true) from fun z => z h2), if_neg (show ¬ ¬ pz_n tx len (tk_nx tx len (tk_nx tx len p)) 0 3 from fun z => z h3)]
  refine ⟨rfl, tk_RF_tr (tk_RF_tr (tk_RF_tr (tk_RF_tr (tk_RF_tr (tk_RF_RA fA) (tk_RF_RA fB)) (tk_RF_RA fC)) (tk_RF_up _ _ (by omega))) (tk_RF_up _ _ (by omega))) (tk_RF_up _ _ (by omega)), (by have z := hNC; exact z), ?_⟩
  rw [if_pos rfl]
  refine ⟨tC, ?_, hfC⟩
  obtain ⟨y0, y1, y2, y3, y4, y5, y6, y7⟩ := id hZC
  refine ⟨y0, y1, (by show C 204 1 + 1 = Z 0 2 + 1; omega), y3, y4, y5, y6, fun d hd => ?_⟩
  have hd2 : (d : Int) < Z 0 2 + 1 := hd
  show fd_up C 205 (C 204 1).toNat (7 * A 199 14 + tk_vl tx len p) 205 d = 7 * fd_up Z 3 (Z 0 2).toNat (tk_vl tx len (tk_nx tx len p)) 3 d + fd_up Z 2 (Z 0 2).toNat (tk_vl tx len p) 2 d ∧ fd_up C 206 (C 204 1).toNat (tk_vl tx len (tk_nx tx len (tk_nx tx len p))) 206 d = fd_up Z 4 (Z 0 2).toNat (tk_vl tx len (tk_nx tx len (tk_nx tx len p))) 4 d
  rw [C4, fd_up_at, fd_up_at, fd_up_at, fd_up_at, fd_up_at]
  by_cases hdd : d = (Z 0 2).toNat
  · rw [if_pos hdd, if_pos hdd, if_pos hdd, if_pos hdd, if_pos hdd, ev2]
    exact ⟨rfl, rfl⟩
  · rw [if_neg hdd, if_neg hdd, if_neg hdd, if_neg hdd, if_neg hdd]
    exact y7 d (by omega)

theorem fd_y_rd3 {tx : Nat → Int} {len : Nat} (K : fd_M) (hx : tk_TxR tx len K) (p : Nat) (hp : p ≤ len) (hT : tk_TR tx len p K) (hf : K 199 15 = -9) (hN : tk_RN K) (Z : fd_M) (hG : pz_G Z) (hZ : tk_RZ K Z) (hD : Z 0 2 ≤ 5) (h1 : pz_n tx len p 0 (Z 0 0 - 1)) (h2 : pz_n tx len (tk_nx tx len p) 0 (Z 0 1 - 1) ∧ pz_f Z (tk_vl tx len p) (tk_vl tx len (tk_nx tx len p)) = true) (h3 : ¬ pz_n tx len (tk_nx tx len (tk_nx tx len p)) 0 3) : fd_callE 4 62 [fd_R 199, fd_I 100] K (tk_RB tx len K (pz_db tx len p Z)) := by
  refine fd_e_in (L := [fd_R 199, fd_I 100, fd_R 1003, fd_R 1003, fd_R 1003]) rfl ?_
  obtain ⟨zz0, zz1, zz2, zz3, zz4, zz5, zz6, zz7⟩ := id hZ
  obtain ⟨g0, g1, g2, g3, g4, g5, g6, g7, g8, g9, g10⟩ := id hG
  obtain ⟨rn1, rn2, rn3⟩ := id hN
  have lr := tk_ls_rng (tx := tx) hp
  have l1 := hx.2.1
  obtain ⟨ta, tb, tc, td, te⟩ := id hT
  have kr := tk_kd_rng tx len p
  refine fd_e_blk 1 (C := fd_c62) (b := true) (L' := [fd_R 199, fd_I 100, fd_R 1003, fd_R 1003, fd_R 1003]) (st' := [fd_I 100]) (M' := K) rfl rfl (j := 1) rfl (rfl) ?_
  refine fd_e_jmp (C := fd_c62) (j := 61) (st' := []) rfl rfl (b := fd_rng 100) rfl rfl ?_
  refine fd_e_blk 8 (C := fd_c62) (b := true) (L' := [fd_R 199, fd_I 100, fd_R 1003, fd_R 1003, fd_R 1003]) (st' := [fd_I ((K 201 1) - 1), fd_I 0, fd_R 199]) (M' := K) rfl rfl (j := 69) rfl (rfl) ?_
  obtain ⟨rA, A, cA, eA, tA, fA⟩ := fd_y_numOk K hx p hp hT hf 0 (K 201 1 - 1) (by omega) (by omega) (by rw [zz0]; exact h1)
  subst eA
  obtain ⟨aa, ab, ac, ad, ae⟩ := id tA
  have hxA := tk_TxR_RA hx fA
  have hfA : A 199 15 = -9 := (fA.2 15 (by omega)).trans hf
  have hNA := tk_RN_RA hN fA tA
  have hZA := tk_RZ_RA hZ fA
  have A2 : A 202 1 = Z 0 1 := hZA.2.1
  have A4 : A 204 1 = Z 0 2 := hZA.2.2.1
  have lr1 := tk_ls_rng (tx := tx) (tk_nl (tx := tx) hp)
  obtain ⟨sA0, sA1, sA2, sA3, sA4, sA5⟩ := tk_rs_f tx len (tk_nx tx len p)
  have kr1 := tk_kd_rng tx len (tk_nx tx len p)
  refine fd_e_call (C := fd_c62) (d0 := 3) (mid := 58) (np := 3) (args := [fd_R 199, fd_I 0, fd_I ((K 201 1) - 1)]) (r1 := some (fd_I (tk_vl tx len p))) (M1 := A) (st' := [fd_I (tk_vl tx len p)]) rfl rfl rfl rfl rfl rfl (rfl) (cA) rfl (by omega) ?_
  refine fd_e_blk 5 (C := fd_c62) (b := true) (L' := [fd_R 199, fd_I 100, fd_I (tk_vl tx len p), fd_R 1003, fd_R 1003]) (st' := [fd_I 1, fd_I (A 199 13), fd_R 199]) (M' := A) rfl rfl (j := 75) rfl (rfl) ?_
  refine fd_e_br (C := fd_c62) (t := 100) (e := 76) (st' := [fd_R 199]) (c := ¬ (A 199 13) = 1) (b := (fd_rng (A 199 13) && fd_rng 1)) rfl rfl rfl (fd_bA (fd_bR (by omega) (by omega)) (fd_bR (by omega) (by omega))) (fun h75 => absurd h75 (by have := h2.1.1; omega)) (fun h75 => ?_)
  refine fd_e_blk 6 (C := fd_c62) (b := true) (L' := [fd_R 199, fd_I 100, fd_I (tk_vl tx len p), fd_R 1003, fd_R 1003]) (st' := [fd_I (A 202 1), fd_I (A 199 14), fd_R 199]) (M' := A) rfl rfl (j := 82) rfl (rfl) ?_
  refine fd_e_br (C := fd_c62) (t := 100) (e := 83) (st' := [fd_R 199]) (c := (A 202 1) ≤ (A 199 14)) (b := (fd_rng (A 199 14) && fd_rng (A 202 1))) rfl rfl rfl (fd_bA (fd_bR (by omega) (by omega)) (fd_bR (by omega) (by omega))) (fun h82 => absurd h82 (by have := h2.1; have := ad h2.1.1; omega)) (fun h82 => ?_)
  refine fd_e_blk 8 (C := fd_c62) (b := true) (L' := [fd_R 199, fd_I 100, fd_I (tk_vl tx len p), fd_R 1003, fd_R 1003]) (st' := [fd_I (-9), fd_I (A 199 15), fd_I (7 * (A 199 14)), fd_R 199, fd_R 199]) (M' := A) rfl rfl (j := 91) rfl (rfl) ?_
  refine fd_e_br (C := fd_c62) (t := 94) (e := 92) (st' := [fd_I (7 * (A 199 14)), fd_R 199, fd_R 199]) (c := ¬ (A 199 15) = (-9)) (b := (fd_rng (A 199 15) && fd_rng (-9))) rfl rfl rfl (fd_bA (fd_bR (by omega) (by omega)) (fd_bR (by omega) (by omega))) (fun h91 => absurd h91 (by omega)) (fun h91 => ?_)
  refine fd_e_blk 1 (C := fd_c62) (b := true) (L' := [fd_R 199, fd_I 100, fd_I (tk_vl tx len p), fd_R 1003, fd_R 1003]) (st' := [fd_I (tk_vl tx len p), fd_I (7 * (A 199 14)), fd_R 199, fd_R 199]) (M' := A) rfl rfl (j := 93) rfl (rfl) ?_
  refine fd_e_jmp (C := fd_c62) (j := 95) (st' := [fd_I (tk_vl tx len p), fd_I (7 * (A 199 14)), fd_R 199, fd_R 199]) rfl rfl (b := true) rfl rfl ?_
  refine fd_e_blk 1 (C := fd_c62) (b := true) (L' := [fd_R 199, fd_I 100, fd_I (tk_vl tx len p), fd_R 1003, fd_R 1003]) (st' := [fd_I ((7 * (A 199 14)) + (tk_vl tx len p)), fd_R 199, fd_R 199]) (M' := A) rfl rfl (j := 96) rfl (rfl) ?_
  have hk2 : tk_kd tx len (tk_nx tx len p) = 2 := by omega
  have ev2 := ad hk2
  have qy : 0 ≤ tk_vl tx len (tk_nx tx len p) ∧ tk_vl tx len (tk_nx tx len p) < Z 0 1 := by omega
  refine fd_e_call (C := fd_c62) (d0 := 0) (mid := 61) (np := 2) (args := [fd_R 199, fd_I ((7 * (A 199 14)) + (tk_vl tx len p))]) (r1 := some (fd_I (fd_bi (pz_f Z (tk_vl tx len p) (tk_vl tx len (tk_nx tx len p)) = true)))) (M1 := A) (st' := [fd_I (fd_bi (pz_f Z (tk_vl tx len p) (tk_vl tx len (tk_nx tx len p)) = true)), fd_R 199]) rfl rfl rfl rfl rfl rfl (rfl) (by rw [← pz_f_ref hG hZA (x := tk_vl tx len p) (y := tk_vl tx len (tk_nx tx len p)) (by have := h1.2; omega) qy]; exact fd_y_freeI A (by omega) (tk_h5 hG hZA) hNA _ _ (by have := h1.2; omega) (by have := h1.2; omega)) rfl (by omega) ?_
  refine fd_e_br (C := fd_c62) (t := 100) (e := 98) (st' := [fd_R 199]) (c := (fd_bi (pz_f Z (tk_vl tx len p) (tk_vl tx len (tk_nx tx len p)) = true)) = 0) (b := (fd_rng (fd_bi (pz_f Z (tk_vl tx len p) (tk_vl tx len (tk_nx tx len p)) = true)))) rfl rfl rfl (fd_biR) (fun h97 => absurd h97 (by rw [fd_bi1 h2.2]; decide)) (fun h97 => ?_)
  have h97 := fd_biT.mp h97
  refine fd_e_blk 1 (C := fd_c62) (b := true) (L' := [fd_R 199, fd_I 100, fd_I (tk_vl tx len p), fd_R 1003, fd_R 1003]) (st' := [fd_I 1, fd_R 199]) (M' := A) rfl rfl (j := 99) rfl (rfl) ?_
  refine fd_e_jmp (C := fd_c62) (j := 101) (st' := [fd_I 1, fd_R 199]) rfl rfl (b := true) rfl rfl ?_
  obtain ⟨rB, B, cB, eB, tB, fB⟩ := fd_y_due1 A hxA (tk_nx tx len p) (tk_nl hp) tA hfA
  subst eB
  obtain ⟨ba, bb, bc, bd, be⟩ := id tB
  have hxB := tk_TxR_RA hxA fB
  have hfB : B 199 15 = -9 := (fB.2 15 (by omega)).trans hfA
  have hNB := tk_RN_RA hNA fB tB
  have hZB := tk_RZ_RA hZA fB
  have lr2 := tk_ls_rng (tx := tx) (tk_nl (tx := tx) (tk_nl (tx := tx) hp))
  refine fd_e_call (C := fd_c62) (d0 := 2) (mid := 57) (np := 2) (args := [fd_R 199, fd_I 1]) (r1 := some (fd_I (A 199 14))) (M1 := B) (st' := [fd_I (A 199 14)]) rfl rfl rfl rfl rfl rfl (rfl) (cB) rfl (by omega) ?_
  refine fd_e_blk 4 (C := fd_c62) (b := true) (L' := [fd_R 199, fd_I 100, fd_I (tk_vl tx len p), fd_I (A 199 14), fd_R 1003]) (st' := [fd_I 3, fd_I 0, fd_R 199]) (M' := B) rfl rfl (j := 106) rfl (rfl) ?_
  obtain ⟨rC, C, cC, eC, eM⟩ := fd_y_numBad B hxB (tk_nx tx len (tk_nx tx len p)) (tk_nl (tk_nl hp)) tB hfB 0 3 (by omega) (by omega) h3
  subst eC
  subst eM
  refine fd_e_call (C := fd_c62) (d0 := 3) (mid := 58) (np := 3) (args := [fd_R 199, fd_I 0, fd_I 3]) (r1 := some (fd_I (B 199 14))) (M1 := (fd_up B 199 15 ((tk_ls tx len (tk_nx tx len (tk_nx tx len p)) : Nat) : Int))) (st' := [fd_I (B 199 14)]) rfl rfl rfl rfl rfl rfl (rfl) (cC) rfl (by omega) ?_
  refine fd_e_blk 4 (C := fd_c62) (b := true) (L' := [fd_R 199, fd_I 100, fd_I (tk_vl tx len p), fd_I (A 199 14), fd_I (B 199 14)]) (st' := [fd_I (-9), fd_I ((tk_ls tx len (tk_nx tx len (tk_nx tx len p)) : Nat) : Int)]) (M' := (fd_up B 199 15 ((tk_ls tx len (tk_nx tx len (tk_nx tx len p)) : Nat) : Int))) rfl rfl (j := 111) rfl (rfl) ?_
  refine fd_e_br (C := fd_c62) (t := 132) (e := 112) (st' := []) (c := ¬ ((tk_ls tx len (tk_nx tx len (tk_nx tx len p)) : Nat) : Int) = (-9)) (b := (fd_rng ((tk_ls tx len (tk_nx tx len (tk_nx tx len p)) : Nat) : Int) && fd_rng (-9))) rfl rfl rfl (fd_bA (fd_bR (by omega) (by omega)) (fd_bR (by omega) (by omega))) (fun h111 => ?_) (fun h111 => absurd h111 (by omega))
  refine fd_e_blk 8 (C := fd_c62) (b := true) (L' := [fd_R 199, fd_I 100, fd_I (tk_vl tx len p), fd_I (A 199 14), fd_I (B 199 14)]) (st' := []) (M' := (fd_up (fd_up B 199 15 ((tk_ls tx len (tk_nx tx len (tk_nx tx len p)) : Nat) : Int)) 204 1 ((B 204 1) + 1))) rfl rfl (j := 140) rfl (rfl) ?_
  refine fd_e_jmp (C := fd_c62) (j := 170) (st' := []) rfl rfl (b := true) rfl rfl ?_
  refine fd_e_ret (C := fd_c62) (b := true) (r' := none) rfl rfl rfl (rfl) ?_
  rw [pz_db, if_neg (show ¬ ¬ pz_n tx len p 0 (Z 0 0 - 1) from fun z => z h1), if_neg (show ¬ ¬ (pz_n tx len (tk_nx tx len p) 0 (Z 0 1 - 1) ∧ pz_f Z (tk_vl tx len p) (tk_vl tx len (tk_nx tx len p)) = true) from fun z => z h2), if_pos (show ¬ pz_n tx len (tk_nx tx len (tk_nx tx len p)) 0 3 from h3)]
  exact ⟨rfl, tk_RF_tr (tk_RF_tr (tk_RF_tr (tk_RF_RA fA) (tk_RF_RA fB)) (tk_RF_up _ _ (by omega))) (tk_RF_up _ _ (by omega)), (by have z := hNB; exact z), rfl⟩

theorem fd_y_rd2 {tx : Nat → Int} {len : Nat} (K : fd_M) (hx : tk_TxR tx len K) (p : Nat) (hp : p ≤ len) (hT : tk_TR tx len p K) (hf : K 199 15 = -9) (hN : tk_RN K) (Z : fd_M) (hG : pz_G Z) (hZ : tk_RZ K Z) (hD : Z 0 2 ≤ 5) (h1 : pz_n tx len p 0 (Z 0 0 - 1)) (h2 : ¬ (pz_n tx len (tk_nx tx len p) 0 (Z 0 1 - 1) ∧ pz_f Z (tk_vl tx len p) (tk_vl tx len (tk_nx tx len p)) = true)) : fd_callE 4 62 [fd_R 199, fd_I 100] K (tk_RB tx len K (pz_db tx len p Z)) := by
  refine fd_e_in (L := [fd_R 199, fd_I 100, fd_R 1003, fd_R 1003, fd_R 1003]) rfl ?_
  obtain ⟨zz0, zz1, zz2, zz3, zz4, zz5, zz6, zz7⟩ := id hZ
  obtain ⟨g0, g1, g2, g3, g4, g5, g6, g7, g8, g9, g10⟩ := id hG
  obtain ⟨rn1, rn2, rn3⟩ := id hN
  have lr := tk_ls_rng (tx := tx) hp
  have l1 := hx.2.1
  obtain ⟨ta, tb, tc, td, te⟩ := id hT
  have kr := tk_kd_rng tx len p
  refine fd_e_blk 1 (C := fd_c62) (b := true) (L' := [fd_R 199, fd_I 100, fd_R 1003, fd_R 1003, fd_R 1003]) (st' := [fd_I 100]) (M' := K) rfl rfl (j := 1) rfl (rfl) ?_
  refine fd_e_jmp (C := fd_c62) (j := 61) (st' := []) rfl rfl (b := fd_rng 100) rfl rfl ?_
  refine fd_e_blk 8 (C := fd_c62) (b := true) (L' := [fd_R 199, fd_I 100, fd_R 1003, fd_R 1003, fd_R 1003]) (st' := [fd_I ((K 201 1) - 1), fd_I 0, fd_R 199]) (M' := K) rfl rfl (j := 69) rfl (rfl) ?_
  obtain ⟨rA, A, cA, eA, tA, fA⟩ := fd_y_numOk K hx p hp hT hf 0 (K 201 1 - 1) (by omega) (by omega) (by rw [zz0]; exact h1)
  subst eA
  obtain ⟨aa, ab, ac, ad, ae⟩ := id tA
  have hxA := tk_TxR_RA hx fA
  have hfA : A 199 15 = -9 := (fA.2 15 (by omega)).trans hf
  have hNA := tk_RN_RA hN fA tA
  have hZA := tk_RZ_RA hZ fA
  have A2 : A 202 1 = Z 0 1 := hZA.2.1
  have A4 : A 204 1 = Z 0 2 := hZA.2.2.1
  have lr1 := tk_ls_rng (tx := tx) (tk_nl (tx := tx) hp)
  obtain ⟨sA0, sA1, sA2, sA3, sA4, sA5⟩ := tk_rs_f tx len (tk_nx tx len p)
  have kr1 := tk_kd_rng tx len (tk_nx tx len p)
  refine fd_e_call (C := fd_c62) (d0 := 3) (mid := 58) (np := 3) (args := [fd_R 199, fd_I 0, fd_I ((K 201 1) - 1)]) (r1 := some (fd_I (tk_vl tx len p))) (M1 := A) (st' := [fd_I (tk_vl tx len p)]) rfl rfl rfl rfl rfl rfl (rfl) (cA) rfl (by omega) ?_
  refine fd_e_blk 5 (C := fd_c62) (b := true) (L' := [fd_R 199, fd_I 100, fd_I (tk_vl tx len p), fd_R 1003, fd_R 1003]) (st' := [fd_I 1, fd_I (A 199 13), fd_R 199]) (M' := A) rfl rfl (j := 75) rfl (rfl) ?_
  refine fd_e_br (C := fd_c62) (t := 100) (e := 76) (st' := [fd_R 199]) (c := ¬ (A 199 13) = 1) (b := (fd_rng (A 199 13) && fd_rng 1)) rfl rfl rfl (fd_bA (fd_bR (by omega) (by omega)) (fd_bR (by omega) (by omega))) (fun h75 => ?_) (fun h75 => ?_)
  · refine fd_e_blk 1 (C := fd_c62) (b := true) (L' := [fd_R 199, fd_I 100, fd_I (tk_vl tx len p), fd_R 1003, fd_R 1003]) (st' := [fd_I 0, fd_R 199]) (M' := A) rfl rfl (j := 101) rfl (rfl) ?_
    refine fd_e_call (C := fd_c62) (d0 := 2) (mid := 57) (np := 2) (args := [fd_R 199, fd_I 0]) (r1 := some (fd_I (A 199 14))) (M1 := (fd_up A 199 15 (A 199 12))) (st' := [fd_I (A 199 14)]) rfl rfl rfl rfl rfl rfl (rfl) (fd_y_due0 A hfA) rfl (by omega) ?_
    refine fd_e_blk 4 (C := fd_c62) (b := true) (L' := [fd_R 199, fd_I 100, fd_I (tk_vl tx len p), fd_I (A 199 14), fd_R 1003]) (st' := [fd_I 3, fd_I 0, fd_R 199]) (M' := (fd_up A 199 15 (A 199 12))) rfl rfl (j := 106) rfl (rfl) ?_
    refine fd_e_call (C := fd_c62) (d0 := 3) (mid := 58) (np := 3) (args := [fd_R 199, fd_I 0, fd_I 3]) (r1 := some (fd_I (A 199 14))) (M1 := (fd_up A 199 15 (A 199 12))) (st' := [fd_I (A 199 14)]) rfl rfl rfl rfl rfl rfl (rfl) (fd_y_numF (fd_up A 199 15 (A 199 12)) (by show ¬ A 199 12 = -9; omega) (by show -10 ≤ A 199 12 ∧ A 199 12 ≤ 1000; omega) 0 3 (by omega) (by omega) ⟨hNA.1, hNA.2.1⟩) rfl (by omega) ?_
    refine fd_e_blk 4 (C := fd_c62) (b := true) (L' := [fd_R 199, fd_I 100, fd_I (tk_vl tx len p), fd_I (A 199 14), fd_I (A 199 14)]) (st' := [fd_I (-9), fd_I (A 199 12)]) (M' := (fd_up A 199 15 (A 199 12))) rfl rfl (j := 111) rfl (rfl) ?_
    refine fd_e_br (C := fd_c62) (t := 132) (e := 112) (st' := []) (c := ¬ (A 199 12) = (-9)) (b := (fd_rng (A 199 12) && fd_rng (-9))) rfl rfl rfl (fd_bA (fd_bR (by omega) (by omega)) (fd_bR (by omega) (by omega))) (fun h111 => ?_) (fun h111 => absurd h111 (by omega))
    refine fd_e_blk 8 (C := fd_c62) (b := true) (L' := [fd_R 199, fd_I 100, fd_I (tk_vl tx len p), fd_I (A 199 14), fd_I (A 199 14)]) (st' := []) (M' := (fd_up (fd_up A 199 15 (A 199 12)) 204 1 ((A 204 1) + 1))) rfl rfl (j := 140) rfl (rfl) ?_
    refine fd_e_jmp (C := fd_c62) (j := 170) (st' := []) rfl rfl (b := true) rfl rfl ?_
    refine fd_e_ret (C := fd_c62) (b := true) (r' := none) rfl rfl rfl (rfl) ?_
    rw [pz_db, if_neg (show ¬ ¬ pz_n tx len p 0 (Z 0 0 - 1) from fun z => z h1), if_pos (show ¬ (pz_n tx len (tk_nx tx len p) 0 (Z 0 1 - 1) ∧ pz_f Z (tk_vl tx len p) (tk_vl tx len (tk_nx tx len p)) = true) from h2)]
    exact ⟨rfl, tk_RF_tr (tk_RF_tr (tk_RF_RA fA) (tk_RF_up _ _ (by omega))) (tk_RF_up _ _ (by omega)), (by have z := hNA; exact z), ab⟩
  · refine fd_e_blk 6 (C := fd_c62) (b := true) (L' := [fd_R 199, fd_I 100, fd_I (tk_vl tx len p), fd_R 1003, fd_R 1003]) (st' := [fd_I (A 202 1), fd_I (A 199 14), fd_R 199]) (M' := A) rfl rfl (j := 82) rfl (rfl) ?_
    refine fd_e_br (C := fd_c62) (t := 100) (e := 83) (st' := [fd_R 199]) (c := (A 202 1) ≤ (A 199 14)) (b := (fd_rng (A 199 14) && fd_rng (A 202 1))) rfl rfl rfl (fd_bA (fd_bR (by omega) (by omega)) (fd_bR (by omega) (by omega))) (fun h82 => ?_) (fun h82 => ?_)
    · refine fd_e_blk 1 (C := fd_c62) (b := true) (L' := [fd_R 199, fd_I 100, fd_I (tk_vl tx len p), fd_R 1003, fd_R 1003]) (st' := [fd_I 0, fd_R 199]) (M' := A) rfl rfl (j := 101) rfl (rfl) ?_
      refine fd_e_call (C := fd_c62) (d0 := 2) (mid := 57) (np := 2) (args := [fd_R 199, fd_I 0]) (r1 := some (fd_I (A 199 14))) (M1 := (fd_up A 199 15 (A 199 12))) (st' := [fd_I (A 199 14)]) rfl rfl rfl rfl rfl rfl (rfl) (fd_y_due0 A hfA) rfl (by omega) ?_
      refine fd_e_blk 4 (C := fd_c62) (b := true) (L' := [fd_R 199, fd_I 100, fd_I (tk_vl tx len p), fd_I (A 199 14), fd_R 1003]) (st' := [fd_I 3, fd_I 0, fd_R 199]) (M' := (fd_up A 199 15 (A 199 12))) rfl rfl (j := 106) rfl (rfl) ?_
      refine fd_e_call (C := fd_c62) (d0 := 3) (mid := 58) (np := 3) (args := [fd_R 199, fd_I 0, fd_I 3]) (r1 := some (fd_I (A 199 14))) (M1 := (fd_up A 199 15 (A 199 12))) (st' := [fd_I (A 199 14)]) rfl rfl rfl rfl rfl rfl (rfl) (fd_y_numF (fd_up A 199 15 (A 199 12)) (by show ¬ A 199 12 = -9; omega) (by show -10 ≤ A 199 12 ∧ A 199 12 ≤ 1000; omega) 0 3 (by omega) (by omega) ⟨hNA.1, hNA.2.1⟩) rfl (by omega) ?_
      refine fd_e_blk 4 (C := fd_c62) (b := true) (L' := [fd_R 199, fd_I 100, fd_I (tk_vl tx len p), fd_I (A 199 14), fd_I (A 199 14)]) (st' := [fd_I (-9), fd_I (A 199 12)]) (M' := (fd_up A 199 15 (A 199 12))) rfl rfl (j := 111) rfl (rfl) ?_
      refine fd_e_br (C := fd_c62) (t := 132) (e := 112) (st' := []) (c := ¬ (A 199 12) = (-9)) (b := (fd_rng (A 199 12) && fd_rng (-9))) rfl rfl rfl (fd_bA (fd_bR (by omega) (by omega)) (fd_bR (by omega) (by omega))) (fun h111 => ?_) (fun h111 => absurd h111 (by omega))
      refine fd_e_blk 8 (C := fd_c62) (b := true) (L' := [fd_R 199, fd_I 100, fd_I (tk_vl tx len p), fd_I (A 199 14), fd_I (A 199 14)]) (st' := []) (M' := (fd_up (fd_up A 199 15 (A 199 12)) 204 1 ((A 204 1) + 1))) rfl rfl (j := 140) rfl (rfl) ?_
      refine fd_e_jmp (C := fd_c62) (j := 170) (st' := []) rfl rfl (b := true) rfl rfl ?_
      refine fd_e_ret (C := fd_c62) (b := true) (r' := none) rfl rfl rfl (rfl) ?_
      rw [pz_db, if_neg (show ¬ ¬ pz_n tx len p 0 (Z 0 0 - 1) from fun z => z h1), if_pos (show ¬ (pz_n tx len (tk_nx tx len p) 0 (Z 0 1 - 1) ∧ pz_f Z (tk_vl tx len p) (tk_vl tx len (tk_nx tx len p)) = true) from h2)]
      exact ⟨rfl, tk_RF_tr (tk_RF_tr (tk_RF_RA fA) (tk_RF_up _ _ (by omega))) (tk_RF_up _ _ (by omega)), (by have z := hNA; exact z), ab⟩
    · refine fd_e_blk 8 (C := fd_c62) (b := true) (L' := [fd_R 199, fd_I 100, fd_I (tk_vl tx len p), fd_R 1003, fd_R 1003]) (st' := [fd_I (-9), fd_I (A 199 15), fd_I (7 * (A 199 14)), fd_R 199, fd_R 199]) (M' := A) rfl rfl (j := 91) rfl (rfl) ?_
      refine fd_e_br (C := fd_c62) (t := 94) (e := 92) (st' := [fd_I (7 * (A 199 14)), fd_R 199, fd_R 199]) (c := ¬ (A 199 15) = (-9)) (b := (fd_rng (A 199 15) && fd_rng (-9))) rfl rfl rfl (fd_bA (fd_bR (by omega) (by omega)) (fd_bR (by omega) (by omega))) (fun h91 => absurd h91 (by omega)) (fun h91 => ?_)
      refine fd_e_blk 1 (C := fd_c62) (b := true) (L' := [fd_R 199, fd_I 100, fd_I (tk_vl tx len p), fd_R 1003, fd_R 1003]) (st' := [fd_I (tk_vl tx len p), fd_I (7 * (A 199 14)), fd_R 199, fd_R 199]) (M' := A) rfl rfl (j := 93) rfl (rfl) ?_
      refine fd_e_jmp (C := fd_c62) (j := 95) (st' := [fd_I (tk_vl tx len p), fd_I (7 * (A 199 14)), fd_R 199, fd_R 199]) rfl rfl (b := true) rfl rfl ?_
      refine fd_e_blk 1 (C := fd_c62) (b := true) (L' := [fd_R 199, fd_I 100, fd_I (tk_vl tx len p), fd_R 1003, fd_R 1003]) (st' := [fd_I ((7 * (A 199 14)) + (tk_vl tx len p)), fd_R 199, fd_R 199]) (M' := A) rfl rfl (j := 96) rfl (rfl) ?_
      have hk2 : tk_kd tx len (tk_nx tx len p) = 2 := by omega
      have ev2 := ad hk2
      have qy : 0 ≤ tk_vl tx len (tk_nx tx len p) ∧ tk_vl tx len (tk_nx tx len p) < Z 0 1 := by omega
      refine fd_e_call (C := fd_c62) (d0 := 0) (mid := 61) (np := 2) (args := [fd_R 199, fd_I ((7 * (A 199 14)) + (tk_vl tx len p))]) (r1 := some (fd_I (fd_bi (pz_f Z (tk_vl tx len p) (tk_vl tx len (tk_nx tx len p)) = true)))) (M1 := A) (st' := [fd_I (fd_bi (pz_f Z (tk_vl tx len p) (tk_vl tx len (tk_nx tx len p)) = true)), fd_R 199]) rfl rfl rfl rfl rfl rfl (rfl) (by rw [← pz_f_ref hG hZA (x := tk_vl tx len p) (y := tk_vl tx len (tk_nx tx len p)) (by have := h1.2; omega) qy]; exact fd_y_freeI A (by omega) (tk_h5 hG hZA) hNA _ _ (by have := h1.2; omega) (by have := h1.2; omega)) rfl (by omega) ?_
      refine fd_e_br (C := fd_c62) (t := 100) (e := 98) (st' := [fd_R 199]) (c := (fd_bi (pz_f Z (tk_vl tx len p) (tk_vl tx len (tk_nx tx len p)) = true)) = 0) (b := (fd_rng (fd_bi (pz_f Z (tk_vl tx len p) (tk_vl tx len (tk_nx tx len p)) = true)))) rfl rfl rfl (fd_biR) (fun h97 => ?_) (fun h97 => ?_)
      · have h97 := fd_biF.mp h97
        refine fd_e_blk 1 (C := fd_c62) (b := true) (L' := [fd_R 199, fd_I 100, fd_I (tk_vl tx len p), fd_R 1003, fd_R 1003]) (st' := [fd_I 0, fd_R 199]) (M' := A) rfl rfl (j := 101) rfl (rfl) ?_
        refine fd_e_call (C := fd_c62) (d0 := 2) (mid := 57) (np := 2) (args := [fd_R 199, fd_I 0]) (r1 := some (fd_I (A 199 14))) (M1 := (fd_up A 199 15 (A 199 12))) (st' := [fd_I (A 199 14)]) rfl rfl rfl rfl rfl rfl (rfl) (fd_y_due0 A hfA) rfl (by omega) ?_
        refine fd_e_blk 4 (C := fd_c62) (b := true) (L' := [fd_R 199, fd_I 100, fd_I (tk_vl tx len p), fd_I (A 199 14), fd_R 1003]) (st' := [fd_I 3, fd_I 0, fd_R 199]) (M' := (fd_up A 199 15 (A 199 12))) rfl rfl (j := 106) rfl (rfl) ?_
        refine fd_e_call (C := fd_c62) (d0 := 3) (mid := 58) (np := 3) (args := [fd_R 199, fd_I 0, fd_I 3]) (r1 := some (fd_I (A 199 14))) (M1 := (fd_up A 199 15 (A 199 12))) (st' := [fd_I (A 199 14)]) rfl rfl rfl rfl rfl rfl (rfl) (fd_y_numF (fd_up A 199 15 (A 199 12)) (by show ¬ A 199 12 = -9; omega) (by show -10 ≤ A 199 12 ∧ A 199 12 ≤ 1000; omega) 0 3 (by omega) (by omega) ⟨hNA.1, hNA.2.1⟩) rfl (by omega) ?_
        refine fd_e_blk 4 (C := fd_c62) (b := true) (L' := [fd_R 199, fd_I 100, fd_I (tk_vl tx len p), fd_I (A 199 14), fd_I (A 199 14)]) (st' := [fd_I (-9), fd_I (A 199 12)]) (M' := (fd_up A 199 15 (A 199 12))) rfl rfl (j := 111) rfl (rfl) ?_
        refine fd_e_br (C := fd_c62) (t := 132) (e := 112) (st' := []) (c := ¬ (A 199 12) = (-9)) (b := (fd_rng (A 199 12) && fd_rng (-9))) rfl rfl rfl (fd_bA (fd_bR (by omega) (by omega)) (fd_bR (by omega) (by omega))) (fun h111 => ?_) (fun h111 => absurd h111 (by omega))
        refine fd_e_blk 8 (C := fd_c62) (b := true) (L' := [fd_R 199, fd_I 100, fd_I (tk_vl tx len p), fd_I (A 199 14), fd_I (A 199 14)]) (st' := []) (M' := (fd_up (fd_up A 199 15 (A 199 12)) 204 1 ((A 204 1) + 1))) rfl rfl (j := 140) rfl (rfl) ?_
        refine fd_e_jmp (C := fd_c62) (j := 170) (st' := []) rfl rfl (b := true) rfl rfl ?_
        refine fd_e_ret (C := fd_c62) (b := true) (r' := none) rfl rfl rfl (rfl) ?_
        rw [pz_db, if_neg (show ¬ ¬ pz_n tx len p 0 (Z 0 0 - 1) from fun z => z h1), if_pos (show ¬ (pz_n tx len (tk_nx tx len p) 0 (Z 0 1 - 1) ∧ pz_f Z (tk_vl tx len p) (tk_vl tx len (tk_nx tx len p)) = true) from h2)]
        exact ⟨rfl, tk_RF_tr (tk_RF_tr (tk_RF_RA fA) (tk_RF_up _ _ (by omega))) (tk_RF_up _ _ (by omega)), (by have z := hNA; exact z), ab⟩
      · have h97 := fd_biT.mp h97
        exact absurd ⟨⟨hk2, by omega, by omega⟩, h97⟩ h2

theorem fd_y_rd0 {tx : Nat → Int} {len : Nat} (K : fd_M) (hx : tk_TxR tx len K) (p : Nat) (hp : p ≤ len) (hT : tk_TR tx len p K) (hf : K 199 15 = -9) (hN : tk_RN K) (Z : fd_M) (hG : pz_G Z) (hZ : tk_RZ K Z) (hD : Z 0 2 ≤ 5) (h1 : ¬ pz_n tx len p 0 (Z 0 0 - 1)) : fd_callE 4 62 [fd_R 199, fd_I 100] K (tk_RB tx len K (pz_db tx len p Z)) := by
  refine fd_e_in (L := [fd_R 199, fd_I 100, fd_R 1003, fd_R 1003, fd_R 1003]) rfl ?_
  obtain ⟨zz0, zz1, zz2, zz3, zz4, zz5, zz6, zz7⟩ := id hZ
  obtain ⟨g0, g1, g2, g3, g4, g5, g6, g7, g8, g9, g10⟩ := id hG
  obtain ⟨rn1, rn2, rn3⟩ := id hN
  have lr := tk_ls_rng (tx := tx) hp
  have l1 := hx.2.1
  obtain ⟨ta, tb, tc, td, te⟩ := id hT
  have kr := tk_kd_rng tx len p
  refine fd_e_blk 1 (C := fd_c62) (b := true) (L' := [fd_R 199, fd_I 100, fd_R 1003, fd_R 1003, fd_R 1003]) (st' := [fd_I 100]) (M' := K) rfl rfl (j := 1) rfl (rfl) ?_
  refine fd_e_jmp (C := fd_c62) (j := 61) (st' := []) rfl rfl (b := fd_rng 100) rfl rfl ?_
  refine fd_e_blk 8 (C := fd_c62) (b := true) (L' := [fd_R 199, fd_I 100, fd_R 1003, fd_R 1003, fd_R 1003]) (st' := [fd_I ((K 201 1) - 1), fd_I 0, fd_R 199]) (M' := K) rfl rfl (j := 69) rfl (rfl) ?_
  obtain ⟨rS, S, cS, eS, eM⟩ := fd_y_numBad K hx p hp hT hf 0 (K 201 1 - 1) (by omega) (by omega) (by rw [zz0]; exact h1)
  subst eS
  subst eM
  refine fd_e_call (C := fd_c62) (d0 := 3) (mid := 58) (np := 3) (args := [fd_R 199, fd_I 0, fd_I ((K 201 1) - 1)]) (r1 := some (fd_I (K 199 14))) (M1 := (fd_up K 199 15 ((tk_ls tx len p : Nat) : Int))) (st' := [fd_I (K 199 14)]) rfl rfl rfl rfl rfl rfl (rfl) (cS) rfl (by omega) ?_
  refine fd_e_blk 5 (C := fd_c62) (b := true) (L' := [fd_R 199, fd_I 100, fd_I (K 199 14), fd_R 1003, fd_R 1003]) (st' := [fd_I 1, fd_I (K 199 13), fd_R 199]) (M' := (fd_up K 199 15 ((tk_ls tx len p : Nat) : Int))) rfl rfl (j := 75) rfl (rfl) ?_
  refine fd_e_br (C := fd_c62) (t := 100) (e := 76) (st' := [fd_R 199]) (c := ¬ (K 199 13) = 1) (b := (fd_rng (K 199 13) && fd_rng 1)) rfl rfl rfl (fd_bA (fd_bR (by omega) (by omega)) (fd_bR (by omega) (by omega))) (fun h75 => ?_) (fun h75 => ?_)
  · refine fd_e_blk 1 (C := fd_c62) (b := true) (L' := [fd_R 199, fd_I 100, fd_I (K 199 14), fd_R 1003, fd_R 1003]) (st' := [fd_I 0, fd_R 199]) (M' := (fd_up K 199 15 ((tk_ls tx len p : Nat) : Int))) rfl rfl (j := 101) rfl (rfl) ?_
    refine fd_e_call (C := fd_c62) (d0 := 2) (mid := 57) (np := 2) (args := [fd_R 199, fd_I 0]) (r1 := some (fd_I (K 199 14))) (M1 := (fd_up K 199 15 ((tk_ls tx len p : Nat) : Int))) (st' := [fd_I (K 199 14)]) rfl rfl rfl rfl rfl rfl (rfl) (fd_y_dueF (fd_up K 199 15 ((tk_ls tx len p : Nat) : Int)) (by show ¬ (tk_ls tx len p : Int) = -9; omega) (by show -10 ≤ (tk_ls tx len p : Int) ∧ (tk_ls tx len p : Int) ≤ 1000; omega) 0) rfl (by omega) ?_
    refine fd_e_blk 4 (C := fd_c62) (b := true) (L' := [fd_R 199, fd_I 100, fd_I (K 199 14), fd_I (K 199 14), fd_R 1003]) (st' := [fd_I 3, fd_I 0, fd_R 199]) (M' := (fd_up K 199 15 ((tk_ls tx len p : Nat) : Int))) rfl rfl (j := 106) rfl (rfl) ?_
    refine fd_e_call (C := fd_c62) (d0 := 3) (mid := 58) (np := 3) (args := [fd_R 199, fd_I 0, fd_I 3]) (r1 := some (fd_I (K 199 14))) (M1 := (fd_up K 199 15 ((tk_ls tx len p : Nat) : Int))) (st' := [fd_I (K 199 14)]) rfl rfl rfl rfl rfl rfl (rfl) (fd_y_numF (fd_up K 199 15 ((tk_ls tx len p : Nat) : Int)) (by show ¬ (tk_ls tx len p : Int) = -9; omega) (by show -10 ≤ (tk_ls tx len p : Int) ∧ (tk_ls tx len p : Int) ≤ 1000; omega) 0 3 (by omega) (by omega) ⟨rn1, rn2⟩) rfl (by omega) ?_
    refine fd_e_blk 4 (C := fd_c62) (b := true) (L' := [fd_R 199, fd_I 100, fd_I (K 199 14), fd_I (K 199 14), fd_I (K 199 14)]) (st' := [fd_I (-9), fd_I ((tk_ls tx len p : Nat) : Int)]) (M' := (fd_up K 199 15 ((tk_ls tx len p : Nat) : Int))) rfl rfl (j := 111) rfl (rfl) ?_
    refine fd_e_br (C := fd_c62) (t := 132) (e := 112) (st' := []) (c := ¬ ((tk_ls tx len p : Nat) : Int) = (-9)) (b := (fd_rng ((tk_ls tx len p : Nat) : Int) && fd_rng (-9))) rfl rfl rfl (fd_bA (fd_bR (by omega) (by omega)) (fd_bR (by omega) (by omega))) (fun h111 => ?_) (fun h111 => absurd h111 (by omega))
    refine fd_e_blk 8 (C := fd_c62) (b := true) (L' := [fd_R 199, fd_I 100, fd_I (K 199 14), fd_I (K 199 14), fd_I (K 199 14)]) (st' := []) (M' := (fd_up (fd_up K 199 15 ((tk_ls tx len p : Nat) : Int)) 204 1 ((K 204 1) + 1))) rfl rfl (j := 140) rfl (rfl) ?_
    refine fd_e_jmp (C := fd_c62) (j := 170) (st' := []) rfl rfl (b := true) rfl rfl ?_
    refine fd_e_ret (C := fd_c62) (b := true) (r' := none) rfl rfl rfl (rfl) ?_
    rw [pz_db, if_pos (show ¬ pz_n tx len p 0 (Z 0 0 - 1) from h1)]
    exact ⟨rfl, tk_RF_tr (tk_RF_up _ _ (by omega)) (tk_RF_up _ _ (by omega)), (by have z := hN; exact z), rfl⟩
  · refine fd_e_blk 6 (C := fd_c62) (b := true) (L' := [fd_R 199, fd_I 100, fd_I (K 199 14), fd_R 1003, fd_R 1003]) (st' := [fd_I (K 202 1), fd_I (K 199 14), fd_R 199]) (M' := (fd_up K 199 15 ((tk_ls tx len p : Nat) : Int))) rfl rfl (j := 82) rfl (rfl) ?_
    refine fd_e_br (C := fd_c62) (t := 100) (e := 83) (st' := [fd_R 199]) (c := (K 202 1) ≤ (K 199 14)) (b := (fd_rng (K 199 14) && fd_rng (K 202 1))) rfl rfl rfl (fd_bA (fd_bR (by omega) (by omega)) (fd_bR (by omega) (by omega))) (fun h82 => ?_) (fun h82 => ?_)
    · refine fd_e_blk 1 (C := fd_c62) (b := true) (L' := [fd_R 199, fd_I 100, fd_I (K 199 14), fd_R 1003, fd_R 1003]) (st' := [fd_I 0, fd_R 199]) (M' := (fd_up K 199 15 ((tk_ls tx len p : Nat) : Int))) rfl rfl (j := 101) rfl (rfl) ?_
      refine fd_e_call (C := fd_c62) (d0 := 2) (mid := 57) (np := 2) (args := [fd_R 199, fd_I 0]) (r1 := some (fd_I (K 199 14))) (M1 := (fd_up K 199 15 ((tk_ls tx len p : Nat) : Int))) (st' := [fd_I (K 199 14)]) rfl rfl rfl rfl rfl rfl (rfl) (fd_y_dueF (fd_up K 199 15 ((tk_ls tx len p : Nat) : Int)) (by show ¬ (tk_ls tx len p : Int) = -9; omega) (by show -10 ≤ (tk_ls tx len p : Int) ∧ (tk_ls tx len p : Int) ≤ 1000; omega) 0) rfl (by omega) ?_
      refine fd_e_blk 4 (C := fd_c62) (b := true) (L' := [fd_R 199, fd_I 100, fd_I (K 199 14), fd_I (K 199 14), fd_R 1003]) (st' := [fd_I 3, fd_I 0, fd_R 199]) (M' := (fd_up K 199 15 ((tk_ls tx len p : Nat) : Int))) rfl rfl (j := 106) rfl (rfl) ?_
      refine fd_e_call (C := fd_c62) (d0 := 3) (mid := 58) (np := 3) (args := [fd_R 199, fd_I 0, fd_I 3]) (r1 := some (fd_I (K 199 14))) (M1 := (fd_up K 199 15 ((tk_ls tx len p : Nat) : Int))) (st' := [fd_I (K 199 14)]) rfl rfl rfl rfl rfl rfl (rfl) (fd_y_numF (fd_up K 199 15 ((tk_ls tx len p : Nat) : Int)) (by show ¬ (tk_ls tx len p : Int) = -9; omega) (by show -10 ≤ (tk_ls tx len p : Int) ∧ (tk_ls tx len p : Int) ≤ 1000; omega) 0 3 (by omega) (by omega) ⟨rn1, rn2⟩) rfl (by omega) ?_
      refine fd_e_blk 4 (C := fd_c62) (b := true) (L' := [fd_R 199, fd_I 100, fd_I (K 199 14), fd_I (K 199 14), fd_I (K 199 14)]) (st' := [fd_I (-9), fd_I ((tk_ls tx len p : Nat) : Int)]) (M' := (fd_up K 199 15 ((tk_ls tx len p : Nat) : Int))) rfl rfl (j := 111) rfl (rfl) ?_
      refine fd_e_br (C := fd_c62) (t := 132) (e := 112) (st' := []) (c := ¬ ((tk_ls tx len p : Nat) : Int) = (-9)) (b := (fd_rng ((tk_ls tx len p : Nat) : Int) && fd_rng (-9))) rfl rfl rfl (fd_bA (fd_bR (by omega) (by omega)) (fd_bR (by omega) (by omega))) (fun h111 => ?_) (fun h111 => absurd h111 (by omega))
      refine fd_e_blk 8 (C := fd_c62) (b := true) (L' := [fd_R 199, fd_I 100, fd_I (K 199 14), fd_I (K 199 14), fd_I (K 199 14)]) (st' := []) (M' := (fd_up (fd_up K 199 15 ((tk_ls tx len p : Nat) : Int)) 204 1 ((K 204 1) + 1))) rfl rfl (j := 140) rfl (rfl) ?_
      refine fd_e_jmp (C := fd_c62) (j := 170) (st' := []) rfl rfl (b := true) rfl rfl ?_
      refine fd_e_ret (C := fd_c62) (b := true) (r' := none) rfl rfl rfl (rfl) ?_
      rw [pz_db, if_pos (show ¬ pz_n tx len p 0 (Z 0 0 - 1) from h1)]
      exact ⟨rfl, tk_RF_tr (tk_RF_up _ _ (by omega)) (tk_RF_up _ _ (by omega)), (by have z := hN; exact z), rfl⟩
    · refine fd_e_blk 8 (C := fd_c62) (b := true) (L' := [fd_R 199, fd_I 100, fd_I (K 199 14), fd_R 1003, fd_R 1003]) (st' := [fd_I (-9), fd_I ((tk_ls tx len p : Nat) : Int), fd_I (7 * (K 199 14)), fd_R 199, fd_R 199]) (M' := (fd_up K 199 15 ((tk_ls tx len p : Nat) : Int))) rfl rfl (j := 91) rfl (rfl) ?_
      refine fd_e_br (C := fd_c62) (t := 94) (e := 92) (st' := [fd_I (7 * (K 199 14)), fd_R 199, fd_R 199]) (c := ¬ ((tk_ls tx len p : Nat) : Int) = (-9)) (b := (fd_rng ((tk_ls tx len p : Nat) : Int) && fd_rng (-9))) rfl rfl rfl (fd_bA (fd_bR (by omega) (by omega)) (fd_bR (by omega) (by omega))) (fun h91 => ?_) (fun h91 => absurd h91 (by omega))
      refine fd_e_blk 2 (C := fd_c62) (b := true) (L' := [fd_R 199, fd_I 100, fd_I (K 199 14), fd_R 1003, fd_R 1003]) (st' := [fd_I ((7 * (K 199 14)) + 0), fd_R 199, fd_R 199]) (M' := (fd_up K 199 15 ((tk_ls tx len p : Nat) : Int))) rfl rfl (j := 96) rfl (rfl) ?_
      refine fd_e_call (C := fd_c62) (d0 := 0) (mid := 61) (np := 2) (args := [fd_R 199, fd_I ((7 * (K 199 14)) + 0)]) (r1 := some (fd_I (fd_bi ((decide (K 203 (49 + 7 * (K 199 14).toNat) = 0) && fd_all (fun d => decide (¬ K 205 d = ((7 * (K 199 14).toNat : Nat) : Int))) (K 204 1).toNat) = true)))) (M1 := (fd_up K 199 15 ((tk_ls tx len p : Nat) : Int))) (st' := [fd_I (fd_bi ((decide (K 203 (49 + 7 * (K 199 14).toNat) = 0) && fd_all (fun d => decide (¬ K 205 d = ((7 * (K 199 14).toNat : Nat) : Int))) (K 204 1).toNat) = true)), fd_R 199]) rfl rfl rfl rfl rfl rfl (rfl) (fd_y_freeI (fd_up K 199 15 ((tk_ls tx len p : Nat) : Int)) (by show 0 ≤ K 204 1 ∧ K 204 1 ≤ 6; omega) (by have z := tk_h5 hG hZ; exact z) (by have z := hN; exact z) _ (7 * (K 199 14).toNat) (by omega) (by omega)) rfl (by omega) ?_
      refine fd_e_br (C := fd_c62) (t := 100) (e := 98) (st' := [fd_R 199]) (c := (fd_bi ((decide (K 203 (49 + 7 * (K 199 14).toNat) = 0) && fd_all (fun d => decide (¬ K 205 d = ((7 * (K 199 14).toNat : Nat) : Int))) (K 204 1).toNat) = true)) = 0) (b := (fd_rng (fd_bi ((decide (K 203 (49 + 7 * (K 199 14).toNat) = 0) && fd_all (fun d => decide (¬ K 205 d = ((7 * (K 199 14).toNat : Nat) : Int))) (K 204 1).toNat) = true)))) rfl rfl rfl (fd_biR) (fun h97 => ?_) (fun h97 => ?_)
      · have h97 := fd_biF.mp h97
        refine fd_e_blk 1 (C := fd_c62) (b := true) (L' := [fd_R 199, fd_I 100, fd_I (K 199 14), fd_R 1003, fd_R 1003]) (st' := [fd_I 0, fd_R 199]) (M' := (fd_up K 199 15 ((tk_ls tx len p : Nat) : Int))) rfl rfl (j := 101) rfl (rfl) ?_
        refine fd_e_call (C := fd_c62) (d0 := 2) (mid := 57) (np := 2) (args := [fd_R 199, fd_I 0]) (r1 := some (fd_I (K 199 14))) (M1 := (fd_up K 199 15 ((tk_ls tx len p : Nat) : Int))) (st' := [fd_I (K 199 14)]) rfl rfl rfl rfl rfl rfl (rfl) (fd_y_dueF (fd_up K 199 15 ((tk_ls tx len p : Nat) : Int)) (by show ¬ (tk_ls tx len p : Int) = -9; omega) (by show -10 ≤ (tk_ls tx len p : Int) ∧ (tk_ls tx len p : Int) ≤ 1000; omega) 0) rfl (by omega) ?_
        refine fd_e_blk 4 (C := fd_c62) (b := true) (L' := [fd_R 199, fd_I 100, fd_I (K 199 14), fd_I (K 199 14), fd_R 1003]) (st' := [fd_I 3, fd_I 0, fd_R 199]) (M' := (fd_up K 199 15 ((tk_ls tx len p : Nat) : Int))) rfl rfl (j := 106) rfl (rfl) ?_
        refine fd_e_call (C := fd_c62) (d0 := 3) (mid := 58) (np := 3) (args := [fd_R 199, fd_I 0, fd_I 3]) (r1 := some (fd_I (K 199 14))) (M1 := (fd_up K 199 15 ((tk_ls tx len p : Nat) : Int))) (st' := [fd_I (K 199 14)]) rfl rfl rfl rfl rfl rfl (rfl) (fd_y_numF (fd_up K 199 15 ((tk_ls tx len p : Nat) : Int)) (by show ¬ (tk_ls tx len p : Int) = -9; omega) (by show -10 ≤ (tk_ls tx len p : Int) ∧ (tk_ls tx len p : Int) ≤ 1000; omega) 0 3 (by omega) (by omega) ⟨rn1, rn2⟩) rfl (by omega) ?_
        refine fd_e_blk 4 (C := fd_c62) (b := true) (L' := [fd_R 199, fd_I 100, fd_I (K 199 14), fd_I (K 199 14), fd_I (K 199 14)]) (st' := [fd_I (-9), fd_I ((tk_ls tx len p : Nat) : Int)]) (M' := (fd_up K 199 15 ((tk_ls tx len p : Nat) : Int))) rfl rfl (j := 111) rfl (rfl) ?_
        refine fd_e_br (C := fd_c62) (t := 132) (e := 112) (st' := []) (c := ¬ ((tk_ls tx len p : Nat) : Int) = (-9)) (b := (fd_rng ((tk_ls tx len p : Nat) : Int) && fd_rng (-9))) rfl rfl rfl (fd_bA (fd_bR (by omega) (by omega)) (fd_bR (by omega) (by omega))) (fun h111 => ?_) (fun h111 => absurd h111 (by omega))
        refine fd_e_blk 8 (C := fd_c62) (b := true) (L' := [fd_R 199, fd_I 100, fd_I (K 199 14), fd_I (K 199 14), fd_I (K 199 14)]) (st' := []) (M' := (fd_up (fd_up K 199 15 ((tk_ls tx len p : Nat) : Int)) 204 1 ((K 204 1) + 1))) rfl rfl (j := 140) rfl (rfl) ?_
        refine fd_e_jmp (C := fd_c62) (j := 170) (st' := []) rfl rfl (b := true) rfl rfl ?_
        refine fd_e_ret (C := fd_c62) (b := true) (r' := none) rfl rfl rfl (rfl) ?_
        rw [pz_db, if_pos (show ¬ pz_n tx len p 0 (Z 0 0 - 1) from h1)]
        exact ⟨rfl, tk_RF_tr (tk_RF_up _ _ (by omega)) (tk_RF_up _ _ (by omega)), (by have z := hN; exact z), rfl⟩
      · have h97 := fd_biT.mp h97
        refine fd_e_blk 1 (C := fd_c62) (b := true) (L' := [fd_R 199, fd_I 100, fd_I (K 199 14), fd_R 1003, fd_R 1003]) (st' := [fd_I 1, fd_R 199]) (M' := (fd_up K 199 15 ((tk_ls tx len p : Nat) : Int))) rfl rfl (j := 99) rfl (rfl) ?_
        refine fd_e_jmp (C := fd_c62) (j := 101) (st' := [fd_I 1, fd_R 199]) rfl rfl (b := true) rfl rfl ?_
        refine fd_e_call (C := fd_c62) (d0 := 2) (mid := 57) (np := 2) (args := [fd_R 199, fd_I 1]) (r1 := some (fd_I (K 199 14))) (M1 := (fd_up K 199 15 ((tk_ls tx len p : Nat) : Int))) (st' := [fd_I (K 199 14)]) rfl rfl rfl rfl rfl rfl (rfl) (fd_y_dueF (fd_up K 199 15 ((tk_ls tx len p : Nat) : Int)) (by show ¬ (tk_ls tx len p : Int) = -9; omega) (by show -10 ≤ (tk_ls tx len p : Int) ∧ (tk_ls tx len p : Int) ≤ 1000; omega) 1) rfl (by omega) ?_
        refine fd_e_blk 4 (C := fd_c62) (b := true) (L' := [fd_R 199, fd_I 100, fd_I (K 199 14), fd_I (K 199 14), fd_R 1003]) (st' := [fd_I 3, fd_I 0, fd_R 199]) (M' := (fd_up K 199 15 ((tk_ls tx len p : Nat) : Int))) rfl rfl (j := 106) rfl (rfl) ?_
        refine fd_e_call (C := fd_c62) (d0 := 3) (mid := 58) (np := 3) (args := [fd_R 199, fd_I 0, fd_I 3]) (r1 := some (fd_I (K 199 14))) (M1 := (fd_up K 199 15 ((tk_ls tx len p : Nat) : Int))) (st' := [fd_I (K 199 14)]) rfl rfl rfl rfl rfl rfl (rfl) (fd_y_numF (fd_up K 199 15 ((tk_ls tx len p : Nat) : Int)) (by show ¬ (tk_ls tx len p : Int) = -9; omega) (by show -10 ≤ (tk_ls tx len p : Int) ∧ (tk_ls tx len p : Int) ≤ 1000; omega) 0 3 (by omega) (by omega) ⟨rn1, rn2⟩) rfl (by omega) ?_
        refine fd_e_blk 4 (C := fd_c62) (b := true) (L' := [fd_R 199, fd_I 100, fd_I (K 199 14), fd_I (K 199 14), fd_I (K 199 14)]) (st' := [fd_I (-9), fd_I ((tk_ls tx len p : Nat) : Int)]) (M' := (fd_up K 199 15 ((tk_ls tx len p : Nat) : Int))) rfl rfl (j := 111) rfl (rfl) ?_
        refine fd_e_br (C := fd_c62) (t := 132) (e := 112) (st' := []) (c := ¬ ((tk_ls tx len p : Nat) : Int) = (-9)) (b := (fd_rng ((tk_ls tx len p : Nat) : Int) && fd_rng (-9))) rfl rfl rfl (fd_bA (fd_bR (by omega) (by omega)) (fd_bR (by omega) (by omega))) (fun h111 => ?_) (fun h111 => absurd h111 (by omega))
        refine fd_e_blk 8 (C := fd_c62) (b := true) (L' := [fd_R 199, fd_I 100, fd_I (K 199 14), fd_I (K 199 14), fd_I (K 199 14)]) (st' := []) (M' := (fd_up (fd_up K 199 15 ((tk_ls tx len p : Nat) : Int)) 204 1 ((K 204 1) + 1))) rfl rfl (j := 140) rfl (rfl) ?_
        refine fd_e_jmp (C := fd_c62) (j := 170) (st' := []) rfl rfl (b := true) rfl rfl ?_
        refine fd_e_ret (C := fd_c62) (b := true) (r' := none) rfl rfl rfl (rfl) ?_
        rw [pz_db, if_pos (show ¬ pz_n tx len p 0 (Z 0 0 - 1) from h1)]
        exact ⟨rfl, tk_RF_tr (tk_RF_up _ _ (by omega)) (tk_RF_up _ _ (by omega)), (by have z := hN; exact z), rfl⟩


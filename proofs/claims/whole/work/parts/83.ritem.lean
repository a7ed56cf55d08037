/-! the reference: what an item tells -/
def tk_RZ (K Z : fd_M) : Prop := K 201 1 = Z 0 0 ∧ K 202 1 = Z 0 1 ∧ K 204 1 = Z 0 2 ∧ K 207 2 = Z 0 3 ∧ K 207 3 = Z 0 4 ∧ K 199 10 = Z 0 5 + 2 * Z 0 6 ∧ (∀ x y : Nat, (x : Int) < Z 0 0 → (y : Int) < Z 0 1 → K 203 (49 + (7 * y + x)) = Z 1 (7 * y + x)) ∧ (∀ d : Nat, (d : Int) < Z 0 2 → K 205 d = 7 * Z 3 d + Z 2 d ∧ K 206 d = Z 4 d)
def tk_RF (K R : fd_M) : Prop := (∀ c, c < 199 ∨ c = 200 ∨ 208 ≤ c → R c = K c) ∧ (∀ k, k < 10 ∨ 16 ≤ k → R 199 k = K 199 k) ∧ R 201 0 = K 201 0 ∧ R 202 0 = K 202 0 ∧ R 204 0 = K 204 0 ∧ R 207 0 = K 207 0 ∧ R 207 1 = K 207 1 ∧ (∀ k, k < 49 → R 203 k = K 203 k)
def tk_RN (R : fd_M) : Prop := (0 ≤ R 199 13 ∧ R 199 13 ≤ 255) ∧ (0 ≤ R 199 14 ∧ R 199 14 ≤ 999) ∧ (∀ k, k < 49 → -9 ≤ R 203 (49 + k) ∧ R 203 (49 + k) ≤ 2)
theorem tk_RF_rf (K : fd_M) : tk_RF K K := ⟨fun _ _ => rfl, fun _ _ => rfl, rfl, rfl, rfl, rfl, rfl, fun _ _ => rfl⟩
theorem tk_RF_tr {M N K : fd_M} (h : tk_RF M N) (g : tk_RF N K) : tk_RF M K := ⟨fun c hc => (g.1 c hc).trans (h.1 c hc), fun k hk => (g.2.1 k hk).trans (h.2.1 k hk), g.2.2.1.trans h.2.2.1, g.2.2.2.1.trans h.2.2.2.1, g.2.2.2.2.1.trans h.2.2.2.2.1, g.2.2.2.2.2.1.trans h.2.2.2.2.2.1, g.2.2.2.2.2.2.1.trans h.2.2.2.2.2.2.1, fun k hk => (g.2.2.2.2.2.2.2 k hk).trans (h.2.2.2.2.2.2.2 k hk)⟩
theorem tk_RF_RA {K R : fd_M} (f : tk_RA K R) : tk_RF K R := ⟨fun c hc => f.1 c (by omega), fun k hk => f.2 k (by omega), by rw [f.1 _ (by decide)], by rw [f.1 _ (by decide)], by rw [f.1 _ (by decide)], by rw [f.1 _ (by decide)], by rw [f.1 _ (by decide)], fun k _ => by rw [f.1 _ (by decide)]⟩
theorem tk_RF_up (K : fd_M) {c k : Nat} (v : Int) (h : (c = 199 ∧ 10 ≤ k ∧ k < 16) ∨ (c = 201 ∧ k = 1) ∨ (c = 202 ∧ k = 1) ∨ (c = 203 ∧ 49 ≤ k) ∨ (c = 204 ∧ k = 1) ∨ c = 205 ∨ c = 206 ∨ (c = 207 ∧ 2 ≤ k)) : tk_RF K (fd_up K c k v) := by
  have e : ∀ a b, ¬ (a = c ∧ b = k) → fd_up K c k v a b = K a b := fun a b q => by
    unfold fd_up
    rw [if_neg q]
  exact ⟨fun a ha => by funext b; exact e a b (by omega), fun b hb => e _ _ (by omega), e _ _ (by omega), e _ _ (by omega), e _ _ (by omega), e _ _ (by omega), e _ _ (by omega), fun b hb => e _ _ (by omega)⟩
theorem tk_RN_RA {tx : Nat → Int} {len p : Nat} {K R : fd_M} (h : tk_RN K) (f : tk_RA K R) (t : tk_TR tx len p R) : tk_RN R := by
  have s := (tk_rs_f tx len p).1
  refine ⟨by rw [t.2.2.1]; omega, t.2.2.2.2, fun k hk => by rw [f.1 203 (by decide)]; exact h.2.2 k hk⟩
theorem tk_RZ_RA {K R Z : fd_M} (h : tk_RZ K Z) (f : tk_RA K R) : tk_RZ R Z := by
  unfold tk_RZ
  rw [f.1 201 (by decide), f.1 202 (by decide), f.1 204 (by decide), f.1 207 (by decide), f.1 203 (by decide), f.1 205 (by decide), f.1 206 (by decide), f.2 10 (by omega)]
  exact h
def pz_wb (tx : Nat → Int) (len p : Nat) (Z : fd_M) : pz_R := if pz_n tx len p 1 7 then (true, tk_nx tx len p, fd_up Z 0 0 (tk_vl tx len p)) else (false, p, Z)
def pz_pb (tx : Nat → Int) (len p : Nat) (Z : fd_M) : pz_R := if pz_n tx len p 1 9 then (true, tk_nx tx len p, fd_up (fd_up Z 0 5 1) 0 3 (tk_vl tx len p)) else (false, p, Z)
def pz_sb (tx : Nat → Int) (len p : Nat) (Z : fd_M) : pz_R := if pz_n tx len p 1 7 then (true, tk_nx tx len p, fd_up (fd_up Z 0 6 1) 0 4 (tk_vl tx len p)) else (false, p, Z)
def pz_rb (tx : Nat → Int) (len : Nat) : Nat → Nat → Nat → fd_M → pz_R
  | 0, _, p, Z => (true, p, fd_up Z 0 1 (Z 0 1 + 1))
  | n + 1, x, p, Z => if pz_g tx len p = -1 then (false, p, Z) else pz_rb tx len n (x + 1) (tk_nx tx len p) (fd_up Z 1 (Z 0 1 * 7 + (x : Int)).toNat (pz_g tx len p))
def pz_db (tx : Nat → Int) (len p : Nat) (Z : fd_M) : pz_R := if ¬ pz_n tx len p 0 (Z 0 0 - 1) then (false, p, Z) else if ¬ (pz_n tx len (tk_nx tx len p) 0 (Z 0 1 - 1) ∧ pz_f Z (tk_vl tx len p) (tk_vl tx len (tk_nx tx len p)) = true) then (false, tk_nx tx len p, Z) else if ¬ pz_n tx len (tk_nx tx len (tk_nx tx len p)) 0 3 then (false, tk_nx tx len (tk_nx tx len p), Z) else (true, tk_nx tx len (tk_nx tx len (tk_nx tx len p)), pz_dz Z (tk_vl tx len p) (tk_vl tx len (tk_nx tx len p)) (tk_vl tx len (tk_nx tx len (tk_nx tx len p))))
def tk_RB (tx : Nat → Int) (len : Nat) (K : fd_M) (B : pz_R) (r : Option fd_V) (R : fd_M) : Prop := r = none ∧ tk_RF K R ∧ tk_RN R ∧ (if B.1 = true then tk_TR tx len B.2.1 R ∧ tk_RZ R B.2.2 ∧ R 199 15 = -9 else R 199 15 = (tk_ls tx len B.2.1 : Int))
theorem fd_orL : ∀ a b : Fin 2, fd_or ((a.val : Int) + 2 * (b.val : Int)) 1 = 1 + 2 * (b.val : Int) ∧ fd_or ((a.val : Int) + 2 * (b.val : Int)) 2 = (a.val : Int) + 2 := by decide +kernel
theorem fd_orl {a b : Int} (ha : 0 ≤ a ∧ a ≤ 1) (hb : 0 ≤ b ∧ b ≤ 1) : fd_or (a + 2 * b) 1 = 1 + 2 * b ∧ fd_or (a + 2 * b) 2 = a + 2 := by
  obtain ⟨n, rfl⟩ := Int.eq_ofNat_of_zero_le ha.1
  obtain ⟨m, rfl⟩ := Int.eq_ofNat_of_zero_le hb.1
  exact fd_orL ⟨n, by omega⟩ ⟨m, by omega⟩
theorem fd_y_rw1 {tx : Nat → Int} {len : Nat} (K : fd_M) (hx : tk_TxR tx len K) (p : Nat) (hp : p ≤ len) (hT : tk_TR tx len p K) (hf : K 199 15 = -9) (hN : tk_RN K) (Z : fd_M) (hG : pz_G Z) (hZ : tk_RZ K Z) (hR0 : Z 0 1 = 0) (hQ : pz_n tx len p 1 7) : fd_callE 4 62 [fd_R 199, fd_I 119] K (tk_RB tx len K (pz_wb tx len p Z)) := by
  refine fd_e_in (L := [fd_R 199, fd_I 119, fd_R 1003, fd_R 1003, fd_R 1003]) rfl ?_
  obtain ⟨zz0, zz1, zz2, zz3, zz4, zz5, zz6, zz7⟩ := id hZ
  obtain ⟨g0, g1, g2, g3, g4, g5, g6, g7, g8, g9, g10⟩ := id hG
  obtain ⟨rn1, rn2, rn3⟩ := id hN
  have lr := tk_ls_rng (tx := tx) hp
  have l1 := hx.2.1
  refine fd_e_blk 1 (C := fd_c62) (b := true) (L' := [fd_R 199, fd_I 119, fd_R 1003, fd_R 1003, fd_R 1003]) (st' := [fd_I 119]) (M' := K) rfl rfl (j := 1) rfl (rfl) ?_
  refine fd_e_jmp (C := fd_c62) (j := 2) (st' := []) rfl rfl (b := fd_rng 119) rfl rfl ?_
  refine fd_e_blk 6 (C := fd_c62) (b := true) (L' := [fd_R 199, fd_I 119, fd_R 1003, fd_R 1003, fd_R 1003]) (st' := [fd_I 7, fd_I 1, fd_R 199, fd_I 1, fd_R 201]) (M' := K) rfl rfl (j := 8) rfl (rfl) ?_
  obtain ⟨rS, S, cS, eS, tS, fS⟩ := fd_y_numOk K hx p hp hT hf 1 7 (by omega) (by omega) hQ
  subst eS
  refine fd_e_call (C := fd_c62) (d0 := 3) (mid := 58) (np := 3) (args := [fd_R 199, fd_I 1, fd_I 7]) (r1 := some (fd_I (tk_vl tx len p))) (M1 := S) (st' := [fd_I (tk_vl tx len p), fd_I 1, fd_R 201]) rfl rfl rfl rfl rfl rfl (rfl) (cS) rfl (by omega) ?_
  refine fd_e_blk 1 (C := fd_c62) (b := true) (L' := [fd_R 199, fd_I 119, fd_R 1003, fd_R 1003, fd_R 1003]) (st' := []) (M' := (fd_up S 201 1 (tk_vl tx len p))) rfl rfl (j := 10) rfl (rfl) ?_
  refine fd_e_jmp (C := fd_c62) (j := 170) (st' := []) rfl rfl (b := true) rfl rfl ?_
  refine fd_e_ret (C := fd_c62) (b := true) (r' := none) rfl rfl rfl (rfl) ?_
  refine ⟨rfl, tk_RF_tr (tk_RF_RA fS) (tk_RF_up _ _ (by omega)), (by have z := tk_RN_RA hN fS tS; exact z), ?_⟩
  rw [pz_wb, if_pos hQ, if_pos rfl]
  refine ⟨tS, ?_, (fS.2 15 (by omega)).trans hf⟩
  obtain ⟨y0, y1, y2, y3, y4, y5, y6, y7⟩ := tk_RZ_RA hZ fS
  exact ⟨rfl, y1, y2, y3, y4, y5, fun x y hx2 hy2 => absurd hy2 (by have e : Z 0 1 = 0 := hR0; show ¬ (y : Int) < Z 0 1; omega), y7⟩

theorem fd_y_rw0 {tx : Nat → Int} {len : Nat} (K : fd_M) (hx : tk_TxR tx len K) (p : Nat) (hp : p ≤ len) (hT : tk_TR tx len p K) (hf : K 199 15 = -9) (hN : tk_RN K) (Z : fd_M) (hG : pz_G Z) (hZ : tk_RZ K Z) (hR0 : Z 0 1 = 0) (hQ : ¬ pz_n tx len p 1 7) : fd_callE 4 62 [fd_R 199, fd_I 119] K (tk_RB tx len K (pz_wb tx len p Z)) := by
  refine fd_e_in (L := [fd_R 199, fd_I 119, fd_R 1003, fd_R 1003, fd_R 1003]) rfl ?_
  obtain ⟨zz0, zz1, zz2, zz3, zz4, zz5, zz6, zz7⟩ := id hZ
  obtain ⟨g0, g1, g2, g3, g4, g5, g6, g7, g8, g9, g10⟩ := id hG
  obtain ⟨rn1, rn2, rn3⟩ := id hN
  have lr := tk_ls_rng (tx := tx) hp
  have l1 := hx.2.1
  refine fd_e_blk 1 (C := fd_c62) (b := true) (L' := [fd_R 199, fd_I 119, fd_R 1003, fd_R 1003, fd_R 1003]) (st' := [fd_I 119]) (M' := K) rfl rfl (j := 1) rfl (rfl) ?_
  refine fd_e_jmp (C := fd_c62) (j := 2) (st' := []) rfl rfl (b := fd_rng 119) rfl rfl ?_
  refine fd_e_blk 6 (C := fd_c62) (b := true) (L' := [fd_R 199, fd_I 119, fd_R 1003, fd_R 1003, fd_R 1003]) (st' := [fd_I 7, fd_I 1, fd_R 199, fd_I 1, fd_R 201]) (M' := K) rfl rfl (j := 8) rfl (rfl) ?_
  obtain ⟨rS, S, cS, eS, eM⟩ := fd_y_numBad K hx p hp hT hf 1 7 (by omega) (by omega) hQ
  subst eS
  subst eM
  refine fd_e_call (C := fd_c62) (d0 := 3) (mid := 58) (np := 3) (args := [fd_R 199, fd_I 1, fd_I 7]) (r1 := some (fd_I (K 199 14))) (M1 := (fd_up K 199 15 ((tk_ls tx len p : Nat) : Int))) (st' := [fd_I (K 199 14), fd_I 1, fd_R 201]) rfl rfl rfl rfl rfl rfl (rfl) (cS) rfl (by omega) ?_
  refine fd_e_blk 1 (C := fd_c62) (b := true) (L' := [fd_R 199, fd_I 119, fd_R 1003, fd_R 1003, fd_R 1003]) (st' := []) (M' := (fd_up (fd_up K 199 15 ((tk_ls tx len p : Nat) : Int)) 201 1 (K 199 14))) rfl rfl (j := 10) rfl (rfl) ?_
  refine fd_e_jmp (C := fd_c62) (j := 170) (st' := []) rfl rfl (b := true) rfl rfl ?_
  refine fd_e_ret (C := fd_c62) (b := true) (r' := none) rfl rfl rfl (rfl) ?_
  refine ⟨rfl, tk_RF_tr (tk_RF_up _ _ (by omega)) (tk_RF_up _ _ (by omega)), hN, ?_⟩
  rw [pz_wb, if_neg hQ]
  rfl

theorem fd_y_rp1 {tx : Nat → Int} {len : Nat} (K : fd_M) (hx : tk_TxR tx len K) (p : Nat) (hp : p ≤ len) (hT : tk_TR tx len p K) (hf : K 199 15 = -9) (hN : tk_RN K) (Z : fd_M) (hG : pz_G Z) (hZ : tk_RZ K Z) (hQ : pz_n tx len p 1 9) : fd_callE 4 62 [fd_R 199, fd_I 112] K (tk_RB tx len K (pz_pb tx len p Z)) := by
  refine fd_e_in (L := [fd_R 199, fd_I 112, fd_R 1003, fd_R 1003, fd_R 1003]) rfl ?_
  obtain ⟨zz0, zz1, zz2, zz3, zz4, zz5, zz6, zz7⟩ := id hZ
  obtain ⟨g0, g1, g2, g3, g4, g5, g6, g7, g8, g9, g10⟩ := id hG
  obtain ⟨rn1, rn2, rn3⟩ := id hN
  have lr := tk_ls_rng (tx := tx) hp
  have l1 := hx.2.1
  refine fd_e_blk 1 (C := fd_c62) (b := true) (L' := [fd_R 199, fd_I 112, fd_R 1003, fd_R 1003, fd_R 1003]) (st' := [fd_I 112]) (M' := K) rfl rfl (j := 1) rfl (rfl) ?_
  refine fd_e_jmp (C := fd_c62) (j := 141) (st' := []) rfl rfl (b := fd_rng 112) rfl rfl ?_
  refine fd_e_blk 6 (C := fd_c62) (b := true) (L' := [fd_R 199, fd_I 112, fd_R 1003, fd_R 1003, fd_R 1003]) (st' := [fd_I 9, fd_I 1, fd_R 199, fd_I 2, fd_R 207]) (M' := K) rfl rfl (j := 147) rfl (rfl) ?_
  obtain ⟨rS, S, cS, eS, tS, fS⟩ := fd_y_numOk K hx p hp hT hf 1 9 (by omega) (by omega) hQ
  subst eS
  refine fd_e_call (C := fd_c62) (d0 := 3) (mid := 58) (np := 3) (args := [fd_R 199, fd_I 1, fd_I 9]) (r1 := some (fd_I (tk_vl tx len p))) (M1 := S) (st' := [fd_I (tk_vl tx len p), fd_I 2, fd_R 207]) rfl rfl rfl rfl rfl rfl (rfl) (cS) rfl (by omega) ?_
  refine fd_e_blk 7 (C := fd_c62) (b := true) (L' := [fd_R 199, fd_I 112, fd_R 1003, fd_R 1003, fd_R 1003]) (st' := []) (M' := (fd_up (fd_up S 207 2 (tk_vl tx len p)) 199 10 (fd_or (S 199 10) 1))) rfl rfl (j := 155) rfl (rfl) ?_
  refine fd_e_jmp (C := fd_c62) (j := 170) (st' := []) rfl rfl (b := true) rfl rfl ?_
  refine fd_e_ret (C := fd_c62) (b := true) (r' := none) rfl rfl rfl (rfl) ?_
  refine ⟨rfl, tk_RF_tr (tk_RF_tr (tk_RF_RA fS) (tk_RF_up _ _ (by omega))) (tk_RF_up _ _ (by omega)), (by have z := tk_RN_RA hN fS tS; exact z), ?_⟩
  rw [pz_pb, if_pos hQ, if_pos rfl]
  refine ⟨tS, ?_, (fS.2 15 (by omega)).trans hf⟩
  obtain ⟨y0, y1, y2, y3, y4, y5, y6, y7⟩ := tk_RZ_RA hZ fS
  exact ⟨y0, y1, y2, rfl, y4, (by show fd_or (S 199 10) 1 = 1 + 2 * Z 0 6; rw [y5]; exact (fd_orl g5 g6).1), y6, y7⟩

theorem fd_y_rp0 {tx : Nat → Int} {len : Nat} (K : fd_M) (hx : tk_TxR tx len K) (p : Nat) (hp : p ≤ len) (hT : tk_TR tx len p K) (hf : K 199 15 = -9) (hN : tk_RN K) (Z : fd_M) (hG : pz_G Z) (hZ : tk_RZ K Z) (hQ : ¬ pz_n tx len p 1 9) : fd_callE 4 62 [fd_R 199, fd_I 112] K (tk_RB tx len K (pz_pb tx len p Z)) := by
  refine fd_e_in (L := [fd_R 199, fd_I 112, fd_R 1003, fd_R 1003, fd_R 1003]) rfl ?_
  obtain ⟨zz0, zz1, zz2, zz3, zz4, zz5, zz6, zz7⟩ := id hZ
  obtain ⟨g0, g1, g2, g3, g4, g5, g6, g7, g8, g9, g10⟩ := id hG
  obtain ⟨rn1, rn2, rn3⟩ := id hN
  have lr := tk_ls_rng (tx := tx) hp
  have l1 := hx.2.1
  refine fd_e_blk 1 (C := fd_c62) (b := true) (L' := [fd_R 199, fd_I 112, fd_R 1003, fd_R 1003, fd_R 1003]) (st' := [fd_I 112]) (M' := K) rfl rfl (j := 1) rfl (rfl) ?_
  refine fd_e_jmp (C := fd_c62) (j := 141) (st' := []) rfl rfl (b := fd_rng 112) rfl rfl ?_
  refine fd_e_blk 6 (C := fd_c62) (b := true) (L' := [fd_R 199, fd_I 112, fd_R 1003, fd_R 1003, fd_R 1003]) (st' := [fd_I 9, fd_I 1, fd_R 199, fd_I 2, fd_R 207]) (M' := K) rfl rfl (j := 147) rfl (rfl) ?_
  obtain ⟨rS, S, cS, eS, eM⟩ := fd_y_numBad K hx p hp hT hf 1 9 (by omega) (by omega) hQ
  subst eS
  subst eM
  refine fd_e_call (C := fd_c62) (d0 := 3) (mid := 58) (np := 3) (args := [fd_R 199, fd_I 1, fd_I 9]) (r1 := some (fd_I (K 199 14))) (M1 := (fd_up K 199 15 ((tk_ls tx len p : Nat) : Int))) (st' := [fd_I (K 199 14), fd_I 2, fd_R 207]) rfl rfl rfl rfl rfl rfl (rfl) (cS) rfl (by omega) ?_
  refine fd_e_blk 7 (C := fd_c62) (b := true) (L' := [fd_R 199, fd_I 112, fd_R 1003, fd_R 1003, fd_R 1003]) (st' := []) (M' := (fd_up (fd_up (fd_up K 199 15 ((tk_ls tx len p : Nat) : Int)) 207 2 (K 199 14)) 199 10 (fd_or (K 199 10) 1))) rfl rfl (j := 155) rfl (rfl) ?_
  refine fd_e_jmp (C := fd_c62) (j := 170) (st' := []) rfl rfl (b := true) rfl rfl ?_
  refine fd_e_ret (C := fd_c62) (b := true) (r' := none) rfl rfl rfl (rfl) ?_
  refine ⟨rfl, tk_RF_tr (tk_RF_tr (tk_RF_up _ _ (by omega)) (tk_RF_up _ _ (by omega))) (tk_RF_up _ _ (by omega)), hN, ?_⟩
  rw [pz_pb, if_neg hQ]
  rfl

theorem fd_y_rs1 {tx : Nat → Int} {len : Nat} (K : fd_M) (hx : tk_TxR tx len K) (p : Nat) (hp : p ≤ len) (hT : tk_TR tx len p K) (hf : K 199 15 = -9) (hN : tk_RN K) (Z : fd_M) (hG : pz_G Z) (hZ : tk_RZ K Z) (hQ : pz_n tx len p 1 7) : fd_callE 4 62 [fd_R 199, fd_I 115] K (tk_RB tx len K (pz_sb tx len p Z)) := by
  refine fd_e_in (L := [fd_R 199, fd_I 115, fd_R 1003, fd_R 1003, fd_R 1003]) rfl ?_
  obtain ⟨zz0, zz1, zz2, zz3, zz4, zz5, zz6, zz7⟩ := id hZ
  obtain ⟨g0, g1, g2, g3, g4, g5, g6, g7, g8, g9, g10⟩ := id hG
  obtain ⟨rn1, rn2, rn3⟩ := id hN
  have lr := tk_ls_rng (tx := tx) hp
  have l1 := hx.2.1
  refine fd_e_blk 1 (C := fd_c62) (b := true) (L' := [fd_R 199, fd_I 115, fd_R 1003, fd_R 1003, fd_R 1003]) (st' := [fd_I 115]) (M' := K) rfl rfl (j := 1) rfl (rfl) ?_
  refine fd_e_jmp (C := fd_c62) (j := 156) (st' := []) rfl rfl (b := fd_rng 115) rfl rfl ?_
  refine fd_e_blk 6 (C := fd_c62) (b := true) (L' := [fd_R 199, fd_I 115, fd_R 1003, fd_R 1003, fd_R 1003]) (st' := [fd_I 7, fd_I 1, fd_R 199, fd_I 3, fd_R 207]) (M' := K) rfl rfl (j := 162) rfl (rfl) ?_
  obtain ⟨rS, S, cS, eS, tS, fS⟩ := fd_y_numOk K hx p hp hT hf 1 7 (by omega) (by omega) hQ
  subst eS
  refine fd_e_call (C := fd_c62) (d0 := 3) (mid := 58) (np := 3) (args := [fd_R 199, fd_I 1, fd_I 7]) (r1 := some (fd_I (tk_vl tx len p))) (M1 := S) (st' := [fd_I (tk_vl tx len p), fd_I 3, fd_R 207]) rfl rfl rfl rfl rfl rfl (rfl) (cS) rfl (by omega) ?_
  refine fd_e_blk 7 (C := fd_c62) (b := true) (L' := [fd_R 199, fd_I 115, fd_R 1003, fd_R 1003, fd_R 1003]) (st' := []) (M' := (fd_up (fd_up S 207 3 (tk_vl tx len p)) 199 10 (fd_or (S 199 10) 2))) rfl rfl (j := 170) rfl (rfl) ?_
  refine fd_e_ret (C := fd_c62) (b := true) (r' := none) rfl rfl rfl (rfl) ?_
  refine ⟨rfl, tk_RF_tr (tk_RF_tr (tk_RF_RA fS) (tk_RF_up _ _ (by omega))) (tk_RF_up _ _ (by omega)), (by have z := tk_RN_RA hN fS tS; exact z), ?_⟩
  rw [pz_sb, if_pos hQ, if_pos rfl]
  refine ⟨tS, ?_, (fS.2 15 (by omega)).trans hf⟩
  obtain ⟨y0, y1, y2, y3, y4, y5, y6, y7⟩ := tk_RZ_RA hZ fS
  exact ⟨y0, y1, y2, y3, rfl, (by show fd_or (S 199 10) 2 = Z 0 5 + 2 * 1; rw [y5, (fd_orl g5 g6).2]; rfl), y6, y7⟩

theorem fd_y_rs0 {tx : Nat → Int} {len : Nat} (K : fd_M) (hx : tk_TxR tx len K) (p : Nat) (hp : p ≤ len) (hT : tk_TR tx len p K) (hf : K 199 15 = -9) (hN : tk_RN K) (Z : fd_M) (hG : pz_G Z) (hZ : tk_RZ K Z) (hQ : ¬ pz_n tx len p 1 7) : fd_callE 4 62 [fd_R 199, fd_I 115] K (tk_RB tx len K (pz_sb tx len p Z)) := by
  refine fd_e_in (L := [fd_R 199, fd_I 115, fd_R 1003, fd_R 1003, fd_R 1003]) rfl ?_
  obtain ⟨zz0, zz1, zz2, zz3, zz4, zz5, zz6, zz7⟩ := id hZ
  obtain ⟨g0, g1, g2, g3, g4, g5, g6, g7, g8, g9, g10⟩ := id hG
  obtain ⟨rn1, rn2, rn3⟩ := id hN
  have lr := tk_ls_rng (tx := tx) hp
  have l1 := hx.2.1
  refine fd_e_blk 1 (C := fd_c62) (b := true) (L' := [fd_R 199, fd_I 115, fd_R 1003, fd_R 1003, fd_R 1003]) (st' := [fd_I 115]) (M' := K) rfl rfl (j := 1) rfl (rfl) ?_
  refine fd_e_jmp (C := fd_c62) (j := 156) (st' := []) rfl rfl (b := fd_rng 115) rfl rfl ?_
  refine fd_e_blk 6 (C := fd_c62) (b := true) (L' := [fd_R 199, fd_I 115, fd_R 1003, fd_R 1003, fd_R 1003]) (st' := [fd_I 7, fd_I 1, fd_R 199, fd_I 3, fd_R 207]) (M' := K) rfl rfl (j := 162) rfl (rfl) ?_
  obtain ⟨rS, S, cS, eS, eM⟩ := fd_y_numBad K hx p hp hT hf 1 7 (by omega) (by omega) hQ
  subst eS
  subst eM
  refine fd_e_call (C := fd_c62) (d0 := 3) (mid := 58) (np := 3) (args := [fd_R 199, fd_I 1, fd_I 7]) (r1 := some (fd_I (K 199 14))) (M1 := (fd_up K 199 15 ((tk_ls tx len p : Nat) : Int))) (st' := [fd_I (K 199 14), fd_I 3, fd_R 207]) rfl rfl rfl rfl rfl rfl (rfl) (cS) rfl (by omega) ?_
  refine fd_e_blk 7 (C := fd_c62) (b := true) (L' := [fd_R 199, fd_I 115, fd_R 1003, fd_R 1003, fd_R 1003]) (st' := []) (M' := (fd_up (fd_up (fd_up K 199 15 ((tk_ls tx len p : Nat) : Int)) 207 3 (K 199 14)) 199 10 (fd_or (K 199 10) 2))) rfl rfl (j := 170) rfl (rfl) ?_
  refine fd_e_ret (C := fd_c62) (b := true) (r' := none) rfl rfl rfl (rfl) ?_
  refine ⟨rfl, tk_RF_tr (tk_RF_tr (tk_RF_up _ _ (by omega)) (tk_RF_up _ _ (by omega))) (tk_RF_up _ _ (by omega)), hN, ?_⟩
  rw [pz_sb, if_neg hQ]
  rfl

theorem fd_y_rowF (K : fd_M) (hf : ¬ K 199 15 = -9) (hfr : -10 ≤ K 199 15 ∧ K 199 15 ≤ 1000) (hw : -1000 ≤ K 201 1 ∧ K 201 1 ≤ 1000) (x : Nat) (hx : x ≤ 100) (a1 u3 u4 : fd_V) : fd_runE 4 62 13 [fd_R 199, a1, fd_I ((x : Nat) : Int), u3, u4] [] K (fun r R => r = none ∧ R = fd_up K 202 1 (K 202 1 + 1)) := by
  have hB : ∀ (q0 : Int), fd_bl 5 (List.drop 13 fd_c62) [fd_R 199, a1, fd_I q0, u3, u4] [] K = some (true, [fd_R 199, a1, fd_I q0, u3, u4], [fd_I (K 201 1), fd_I q0], K) := fun _ => rfl
  refine fd_e_blk 5 (C := fd_c62) (b := true) (L' := [fd_R 199, a1, fd_I ((x : Nat) : Int), u3, u4]) (st' := [fd_I (K 201 1), fd_I ((x : Nat) : Int)]) (M' := K) rfl (hB ((x : Nat) : Int)) (j := 18) rfl (rfl) ?_
  clear hB
  refine fd_e_br (C := fd_c62) (t := 52) (e := 19) (st' := []) (c := (K 201 1) ≤ ((x : Nat) : Int)) (b := (fd_rng ((x : Nat) : Int) && fd_rng (K 201 1))) rfl rfl rfl (fd_bA (fd_bR (by omega) (by omega)) (fd_bR (by omega) (by omega))) (fun h18 => ?_) (fun h18 => ?_)
  · have hB : ∀ (q0 : Int), fd_bl 8 (List.drop 52 fd_c62) [fd_R 199, a1, fd_I q0, u3, u4] [] K = some (true, [fd_R 199, a1, fd_I q0, u3, u4], [], (fd_up K 202 1 ((K 202 1) + 1))) := fun _ => rfl
    refine fd_e_blk 8 (C := fd_c62) (b := true) (L' := [fd_R 199, a1, fd_I ((x : Nat) : Int), u3, u4]) (st' := []) (M' := (fd_up K 202 1 ((K 202 1) + 1))) rfl (hB ((x : Nat) : Int)) (j := 60) rfl (rfl) ?_
    clear hB
    refine fd_e_jmp (C := fd_c62) (j := 170) (st' := []) rfl rfl (b := true) rfl rfl ?_
    refine fd_e_ret (C := fd_c62) (b := true) (r' := none) rfl rfl rfl (rfl) ?_
    exact ⟨rfl, rfl⟩
  · have hB : ∀ (q0 : Int), fd_bl 3 (List.drop 19 fd_c62) [fd_R 199, a1, fd_I q0, u3, u4] [] K = some (true, [fd_R 199, a1, fd_I q0, u3, u4], [fd_I (-9), fd_I (K 199 15)], K) := fun _ => rfl
    refine fd_e_blk 3 (C := fd_c62) (b := true) (L' := [fd_R 199, a1, fd_I ((x : Nat) : Int), u3, u4]) (st' := [fd_I (-9), fd_I (K 199 15)]) (M' := K) rfl (hB ((x : Nat) : Int)) (j := 22) rfl (rfl) ?_
    clear hB
    refine fd_e_br (C := fd_c62) (t := 52) (e := 23) (st' := []) (c := ¬ (K 199 15) = (-9)) (b := (fd_rng (K 199 15) && fd_rng (-9))) rfl rfl rfl (fd_bA (fd_bR (by omega) (by omega)) (fd_bR (by omega) (by omega))) (fun h22 => ?_) (fun h22 => absurd h22 (by omega))
    have hB : ∀ (q0 : Int), fd_bl 8 (List.drop 52 fd_c62) [fd_R 199, a1, fd_I q0, u3, u4] [] K = some (true, [fd_R 199, a1, fd_I q0, u3, u4], [], (fd_up K 202 1 ((K 202 1) + 1))) := fun _ => rfl
    refine fd_e_blk 8 (C := fd_c62) (b := true) (L' := [fd_R 199, a1, fd_I ((x : Nat) : Int), u3, u4]) (st' := []) (M' := (fd_up K 202 1 ((K 202 1) + 1))) rfl (hB ((x : Nat) : Int)) (j := 60) rfl (rfl) ?_
    clear hB
    refine fd_e_jmp (C := fd_c62) (j := 170) (st' := []) rfl rfl (b := true) rfl rfl ?_
    refine fd_e_ret (C := fd_c62) (b := true) (r' := none) rfl rfl rfl (rfl) ?_
    exact ⟨rfl, rfl⟩


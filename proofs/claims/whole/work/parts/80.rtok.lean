/-! the reference: its tokens -/
def tk_TxR (tx : Nat → Int) (len : Nat) (K : fd_M) : Prop := K 199 2 = (len : Int) ∧ len ≤ 150 ∧ (∀ k, 0 ≤ tx k ∧ tx k ≤ 255) ∧ (∀ k, K 200 k = fd_i2b (tx k))
theorem fd_and255P : ∀ n : Fin 256, fd_and (fd_i2b (n.val : Int)) 255 = (n.val : Int) := by decide +kernel
theorem fd_and255 {c : Int} (h : 0 ≤ c ∧ c ≤ 255) : fd_and (fd_i2b c) 255 = c := by
  obtain ⟨n, rfl⟩ := Int.eq_ofNat_of_zero_le h.1
  exact fd_and255P ⟨n, by omega⟩
/-- the reference's number against the class's -/
def tk_VR (v w : Int) : Prop := (v ≤ 99 ∧ w = v) ∨ (99 < v ∧ 99 < w ∧ w ≤ 999)
def tk_rs (k v : Int) : Int := if k = 1 then v else if k = 2 then 1 else if k = 3 then 2 else if k = 0 then 3 else 4
def tk_TR (tx : Nat → Int) (len p : Nat) (R : fd_M) : Prop := R 199 11 = (tk_nx tx len p : Int) ∧ R 199 12 = (tk_ls tx len p : Int) ∧ R 199 13 = tk_rs (tk_kd tx len p) (tk_vl tx len p) ∧ (tk_kd tx len p = 2 → R 199 14 = tk_vl tx len p) ∧ (0 ≤ R 199 14 ∧ R 199 14 ≤ 999)
/-- only the token at hand has changed -/
def tk_RA (M R : fd_M) : Prop := (∀ c, c ≠ 199 → R c = M c) ∧ (∀ k, k < 11 ∨ 15 ≤ k → R 199 k = M 199 k)
theorem tk_RA_rf (M : fd_M) : tk_RA M M := ⟨fun _ _ => rfl, fun _ _ => rfl⟩
theorem tk_RA_tr {M N K : fd_M} (h : tk_RA M N) (h2 : tk_RA N K) : tk_RA M K := ⟨fun c hc => (h2.1 c hc).trans (h.1 c hc), fun k hk => (h2.2 k hk).trans (h.2 k hk)⟩
theorem tk_RA_up (M : fd_M) {k : Nat} (h : 11 ≤ k ∧ k < 15) (v : Int) : tk_RA M (fd_up M 199 k v) := ⟨fun c hc => fd_up_ne hc, fun j hj => by rw [fd_up_at, if_neg (by omega)]⟩
theorem tk_TxR_RA {tx : Nat → Int} {len : Nat} {M R : fd_M} (h : tk_TxR tx len M) (f : tk_RA M R) : tk_TxR tx len R := ⟨by rw [f.2 2 (by omega)]; exact h.1, h.2.1, h.2.2.1, by rw [f.1 200 (by decide)]; exact h.2.2.2⟩
theorem fd_bal200 {M : fd_M} {p : Nat} (h : p < 150) : (fd_isA true M 200 21 ((p : Nat) : Int) || fd_isA true M 200 22 ((p : Nat) : Int)) = true := by
  have e : fd_SH 200 = (21, 150) := by decide +kernel
  have a : fd_isA true M 200 21 ((p : Nat) : Int) = true := by
    unfold fd_isA fd_al
    rw [e]
    simp [fd_inb_iff]
    omega
  rw [a]
  rfl
theorem fd_y_here {tx : Nat → Int} {len : Nat} (K : fd_M) (hx : tk_TxR tx len K) (p : Nat) (hp : K 199 11 = (p : Int)) (hpl : p ≤ len) : fd_call 0 55 [fd_R 199] K (some (fd_I (if p < len then tx p else -1))) K := by
  have l2 := hx.1
  have l3 := hx.2.1
  refine fd_u_in (L := [fd_R 199]) rfl ?_
  refine fd_u_blk 4 (C := fd_c55) (b := true) (L' := [fd_R 199]) (st' := [fd_I (K 199 2), fd_I (K 199 11)]) (M' := K) rfl rfl (j := 4) rfl rfl ?_
  rw [hp, l2]
  refine fd_u_br (C := fd_c55) (t := 13) (e := 5) (st' := []) (c := ((len : Nat) : Int) ≤ ((p : Nat) : Int)) (b := (fd_rng ((p : Nat) : Int) && fd_rng ((len : Nat) : Int))) rfl rfl rfl (fd_bA (fd_bR (by omega) (by omega)) (fd_bR (by omega) (by omega))) (fun h4 => ?_) (fun h4 => ?_)
  · refine fd_u_blk 1 (C := fd_c55) (b := true) (L' := [fd_R 199]) (st' := [fd_I (-1)]) (M' := K) rfl rfl (j := 14) rfl rfl ?_
    refine fd_u_ret (C := fd_c55) (b := true) (r' := some (fd_I (-1))) rfl rfl rfl rfl ?_ ?_
    · rw [if_neg (by omega)]
    · rfl
  · refine fd_u_blk 4 (C := fd_c55) (b := true) (L' := [fd_R 199]) (st' := [fd_I (K 199 11), fd_R 200]) (M' := K) rfl rfl (j := 9) rfl rfl ?_
    rw [hp]
    have hB : ∀ q : Int, fd_bl 3 (List.drop 9 fd_c55) [fd_R 199] [fd_I q, fd_R 200] K = some ((fd_isA true K 200 21 q || fd_isA true K 200 22 q) && true, [fd_R 199], [fd_I (fd_and (K 200 q.toNat) 255)], K) := fun _ => rfl
    refine fd_u_blk 3 (C := fd_c55) (b := (fd_isA true K 200 21 ((p : Nat) : Int) || fd_isA true K 200 22 ((p : Nat) : Int)) && true) (L' := [fd_R 199]) (st' := [fd_I (fd_and (K 200 p) 255)]) (M' := K) rfl (hB ((p : Nat) : Int)) (j := 12) rfl (fd_bA (fd_bal200 (by omega)) rfl) ?_
    refine fd_u_jmp (C := fd_c55) (j := 14) (st' := [fd_I (fd_and (K 200 p) 255)]) rfl rfl (b := true) rfl rfl ?_
    refine fd_u_ret (C := fd_c55) (b := true) (r' := some (fd_I (fd_and (K 200 p) 255))) rfl rfl rfl rfl ?_ ?_
    · rw [if_pos (by omega), hx.2.2.2 p, fd_and255 (hx.2.2.1 p)]
    · rfl

theorem fd_y_num {tx : Nat → Int} {len : Nat} (K : fd_M) (hx : tk_TxR tx len K) (s : Nat) (hs : K 199 12 = (s : Int)) (hsl : s < len) : ∀ (n : Nat) (p : Nat) (v w : Int) (hp : p + n = len) (hsp : s ≤ p) (hv : tk_VR v w) (hv2 : 0 ≤ v ∧ v ≤ 100), fd_runE 1 56 32 [fd_R 199, fd_I (tx s)] [] (fd_up (fd_up K 199 14 w) 199 11 ((p : Nat) : Int)) (fun r R => r = none ∧ R 199 11 = ((tk_nu tx n p v).1 : Int) ∧ R 199 12 = K 199 12 ∧ (∃ w2, R 199 14 = w2 ∧ tk_VR (tk_nu tx n p v).2 w2 ∧ R 199 13 = (if (tx s = 48 ∧ s + 1 < (tk_nu tx n p v).1) ∨ 99 < w2 then 4 else 1)) ∧ tk_RA K R) := by
  have l1 := hx.2.1
  have xs := hx.2.2.1 s
  intro n
  induction n with
  | zero =>
    intro p v w hp hsp hv hv2
    have hw : 0 ≤ w ∧ w ≤ 999 := by unfold tk_VR at hv; omega
    refine fd_e_blk 1 (C := fd_c56) (b := true) (L' := [fd_R 199, fd_I (tx s)]) (st' := [fd_R 199]) (M' := (fd_up (fd_up K 199 14 w) 199 11 ((p : Nat) : Int))) rfl rfl (j := 33) rfl (rfl) ?_
    refine fd_e_call (C := fd_c56) (d0 := 0) (mid := 55) (np := 1) (args := [fd_R 199]) (r1 := some (fd_I (if p < len then tx p else -1))) (M1 := (fd_up (fd_up K 199 14 w) 199 11 ((p : Nat) : Int))) (st' := [fd_I (if p < len then tx p else -1)]) rfl rfl rfl rfl rfl rfl (rfl) (fd_y_here (fd_up (fd_up K 199 14 w) 199 11 ((p : Nat) : Int)) (by have z := hx; exact z) p rfl (by omega)) rfl (by omega) ?_
    have xb2 := hx.2.2.1 p
    have hr2 : -1 ≤ (if p < len then tx p else -1) ∧ (if p < len then tx p else -1) ≤ 255 := by split <;> omega
    refine fd_e_blk 2 (C := fd_c56) (b := true) (L' := [fd_R 199, fd_I (tx s)]) (st' := [fd_I 57, fd_I 48, fd_I (if p < len then tx p else -1)]) (M' := (fd_up (fd_up K 199 14 w) 199 11 ((p : Nat) : Int))) rfl rfl (j := 36) rfl (rfl) ?_
    refine fd_e_call (C := fd_c56) (d0 := 0) (mid := 52) (np := 3) (args := [fd_I (if p < len then tx p else -1), fd_I 48, fd_I 57]) (r1 := some (fd_I (fd_bi (48 ≤ (if p < len then tx p else -1) ∧ (if p < len then tx p else -1) ≤ 57)))) (M1 := (fd_up (fd_up K 199 14 w) 199 11 ((p : Nat) : Int))) (st' := [fd_I (fd_bi (48 ≤ (if p < len then tx p else -1) ∧ (if p < len then tx p else -1) ≤ 57))]) rfl rfl rfl rfl rfl rfl (rfl) (fd_r_in (fd_up (fd_up K 199 14 w) 199 11 ((p : Nat) : Int)) (if p < len then tx p else -1) 48 57 (by omega) (by omega) (by omega)) rfl (by omega) ?_
    refine fd_e_br (C := fd_c56) (t := 63) (e := 38) (st' := []) (c := (fd_bi (48 ≤ (if p < len then tx p else -1) ∧ (if p < len then tx p else -1) ≤ 57)) = 0) (b := (fd_rng (fd_bi (48 ≤ (if p < len then tx p else -1) ∧ (if p < len then tx p else -1) ≤ 57)))) rfl rfl rfl (fd_biR) (fun h37 => ?_) (fun h37 => absurd h37 (by exact fun z => z (fd_bi0 (by rw [if_neg (show ¬ p < len by omega)]; omega))))
    have h37 := fd_biF.mp h37
    refine fd_e_blk 4 (C := fd_c56) (b := true) (L' := [fd_R 199, fd_I (tx s)]) (st' := [fd_I 99, fd_I w, fd_R 199]) (M' := (fd_up (fd_up K 199 14 w) 199 11 ((p : Nat) : Int))) rfl rfl (j := 67) rfl (rfl) ?_
    refine fd_e_br (C := fd_c56) (t := 78) (e := 68) (st' := [fd_R 199]) (c := 99 < w) (b := (fd_rng w && fd_rng 99)) rfl rfl rfl (fd_bA (fd_bR (by omega) (by omega)) (fd_bR (by omega) (by omega))) (fun h67 => ?_) (fun h67 => ?_)
    · refine fd_e_blk 1 (C := fd_c56) (b := true) (L' := [fd_R 199, fd_I (tx s)]) (st' := [fd_I 4, fd_R 199]) (M' := (fd_up (fd_up K 199 14 w) 199 11 ((p : Nat) : Int))) rfl rfl (j := 79) rfl (rfl) ?_
      refine fd_e_jmp (C := fd_c56) (j := 81) (st' := [fd_I 4, fd_R 199]) rfl rfl (b := true) rfl rfl ?_
      refine fd_e_blk 1 (C := fd_c56) (b := true) (L' := [fd_R 199, fd_I (tx s)]) (st' := []) (M' := (fd_up (fd_up (fd_up K 199 14 w) 199 11 ((p : Nat) : Int)) 199 13 4)) rfl rfl (j := 82) rfl (rfl) ?_
      refine fd_e_jmp (C := fd_c56) (j := 104) (st' := []) rfl rfl (b := true) rfl rfl ?_
      refine fd_e_ret (C := fd_c56) (b := true) (r' := none) rfl rfl rfl (rfl) ?_
      have e0 : tk_nu tx 0 p v = (p, v) := rfl
      refine ⟨rfl, ?_, rfl, ⟨w, rfl, ?_, ?_⟩, ?_⟩
      · rw [e0]; rfl
      · rw [e0]; exact hv
      · rw [e0]
        show (4 : Int) = _
        first | (rw [if_pos (by omega)]; done) | (rw [if_neg (by omega)]; done)
      · exact tk_RA_tr (tk_RA_tr (tk_RA_up K (by decide) _) (tk_RA_up _ (by decide) _)) (tk_RA_up _ (by decide) _)
    · refine fd_e_blk 2 (C := fd_c56) (b := true) (L' := [fd_R 199, fd_I (tx s)]) (st' := [fd_I 48, fd_I (tx s), fd_R 199]) (M' := (fd_up (fd_up K 199 14 w) 199 11 ((p : Nat) : Int))) rfl rfl (j := 70) rfl (rfl) ?_
      refine fd_e_br (C := fd_c56) (t := 80) (e := 71) (st' := [fd_R 199]) (c := ¬ (tx s) = 48) (b := (fd_rng (tx s) && fd_rng 48)) rfl rfl rfl (fd_bA (fd_bR (by omega) (by omega)) (fd_bR (by omega) (by omega))) (fun h70 => ?_) (fun h70 => ?_)
      · refine fd_e_blk 2 (C := fd_c56) (b := true) (L' := [fd_R 199, fd_I (tx s)]) (st' := []) (M' := (fd_up (fd_up (fd_up K 199 14 w) 199 11 ((p : Nat) : Int)) 199 13 1)) rfl rfl (j := 82) rfl (rfl) ?_
        refine fd_e_jmp (C := fd_c56) (j := 104) (st' := []) rfl rfl (b := true) rfl rfl ?_
        refine fd_e_ret (C := fd_c56) (b := true) (r' := none) rfl rfl rfl (rfl) ?_
        have e0 : tk_nu tx 0 p v = (p, v) := rfl
        refine ⟨rfl, ?_, rfl, ⟨w, rfl, ?_, ?_⟩, ?_⟩
        · rw [e0]; rfl
        · rw [e0]; exact hv
        · rw [e0]
          show (1 : Int) = _
          first | (rw [if_pos (by omega)]; done) | (rw [if_neg (by omega)]; done)
        · exact tk_RA_tr (tk_RA_tr (tk_RA_up K (by decide) _) (tk_RA_up _ (by decide) _)) (tk_RA_up _ (by decide) _)
      · refine fd_e_blk 6 (C := fd_c56) (b := true) (L' := [fd_R 199, fd_I (tx s)]) (st' := [fd_I 1, fd_I (((p : Nat) : Int) - (K 199 12)), fd_R 199]) (M' := (fd_up (fd_up K 199 14 w) 199 11 ((p : Nat) : Int))) rfl rfl (j := 77) rfl (rfl) ?_
        refine fd_e_br (C := fd_c56) (t := 80) (e := 78) (st' := [fd_R 199]) (c := (((p : Nat) : Int) - (K 199 12)) ≤ 1) (b := (fd_rng (((p : Nat) : Int) - (K 199 12)) && fd_rng 1)) rfl rfl rfl (fd_bA (fd_bR (by omega) (by omega)) (fd_bR (by omega) (by omega))) (fun h77 => ?_) (fun h77 => ?_)
        · refine fd_e_blk 2 (C := fd_c56) (b := true) (L' := [fd_R 199, fd_I (tx s)]) (st' := []) (M' := (fd_up (fd_up (fd_up K 199 14 w) 199 11 ((p : Nat) : Int)) 199 13 1)) rfl rfl (j := 82) rfl (rfl) ?_
          refine fd_e_jmp (C := fd_c56) (j := 104) (st' := []) rfl rfl (b := true) rfl rfl ?_
          refine fd_e_ret (C := fd_c56) (b := true) (r' := none) rfl rfl rfl (rfl) ?_
          have e0 : tk_nu tx 0 p v = (p, v) := rfl
          refine ⟨rfl, ?_, rfl, ⟨w, rfl, ?_, ?_⟩, ?_⟩
          · rw [e0]; rfl
          · rw [e0]; exact hv
          · rw [e0]
            show (1 : Int) = _
            first | (rw [if_pos (by omega)]; done) | (rw [if_neg (by omega)]; done)
          · exact tk_RA_tr (tk_RA_tr (tk_RA_up K (by decide) _) (tk_RA_up _ (by decide) _)) (tk_RA_up _ (by decide) _)
        · refine fd_e_blk 1 (C := fd_c56) (b := true) (L' := [fd_R 199, fd_I (tx s)]) (st' := [fd_I 4, fd_R 199]) (M' := (fd_up (fd_up K 199 14 w) 199 11 ((p : Nat) : Int))) rfl rfl (j := 79) rfl (rfl) ?_
          refine fd_e_jmp (C := fd_c56) (j := 81) (st' := [fd_I 4, fd_R 199]) rfl rfl (b := true) rfl rfl ?_
          refine fd_e_blk 1 (C := fd_c56) (b := true) (L' := [fd_R 199, fd_I (tx s)]) (st' := []) (M' := (fd_up (fd_up (fd_up K 199 14 w) 199 11 ((p : Nat) : Int)) 199 13 4)) rfl rfl (j := 82) rfl (rfl) ?_
          refine fd_e_jmp (C := fd_c56) (j := 104) (st' := []) rfl rfl (b := true) rfl rfl ?_
          refine fd_e_ret (C := fd_c56) (b := true) (r' := none) rfl rfl rfl (rfl) ?_
          have e0 : tk_nu tx 0 p v = (p, v) := rfl
          refine ⟨rfl, ?_, rfl, ⟨w, rfl, ?_, ?_⟩, ?_⟩
          · rw [e0]; rfl
          · rw [e0]; exact hv
          · rw [e0]
            show (4 : Int) = _
            first | (rw [if_pos (by omega)]; done) | (rw [if_neg (by omega)]; done)
          · exact tk_RA_tr (tk_RA_tr (tk_RA_up K (by decide) _) (tk_RA_up _ (by decide) _)) (tk_RA_up _ (by decide) _)
  | succ n ih =>
    intro p v w hp hsp hv hv2
    have hw : 0 ≤ w ∧ w ≤ 999 := by unfold tk_VR at hv; omega
    have xp := hx.2.2.1 p
    refine fd_e_blk 1 (C := fd_c56) (b := true) (L' := [fd_R 199, fd_I (tx s)]) (st' := [fd_R 199]) (M' := (fd_up (fd_up K 199 14 w) 199 11 ((p : Nat) : Int))) rfl rfl (j := 33) rfl (rfl) ?_
    refine fd_e_call (C := fd_c56) (d0 := 0) (mid := 55) (np := 1) (args := [fd_R 199]) (r1 := some (fd_I (if p < len then tx p else -1))) (M1 := (fd_up (fd_up K 199 14 w) 199 11 ((p : Nat) : Int))) (st' := [fd_I (if p < len then tx p else -1)]) rfl rfl rfl rfl rfl rfl (rfl) (fd_y_here (fd_up (fd_up K 199 14 w) 199 11 ((p : Nat) : Int)) (by have z := hx; exact z) p rfl (by omega)) rfl (by omega) ?_
    have xb2 := hx.2.2.1 p
    have hr2 : -1 ≤ (if p < len then tx p else -1) ∧ (if p < len then tx p else -1) ≤ 255 := by split <;> omega
    refine fd_e_blk 2 (C := fd_c56) (b := true) (L' := [fd_R 199, fd_I (tx s)]) (st' := [fd_I 57, fd_I 48, fd_I (if p < len then tx p else -1)]) (M' := (fd_up (fd_up K 199 14 w) 199 11 ((p : Nat) : Int))) rfl rfl (j := 36) rfl (rfl) ?_
    refine fd_e_call (C := fd_c56) (d0 := 0) (mid := 52) (np := 3) (args := [fd_I (if p < len then tx p else -1), fd_I 48, fd_I 57]) (r1 := some (fd_I (fd_bi (48 ≤ (if p < len then tx p else -1) ∧ (if p < len then tx p else -1) ≤ 57)))) (M1 := (fd_up (fd_up K 199 14 w) 199 11 ((p : Nat) : Int))) (st' := [fd_I (fd_bi (48 ≤ (if p < len then tx p else -1) ∧ (if p < len then tx p else -1) ≤ 57))]) rfl rfl rfl rfl rfl rfl (rfl) (fd_r_in (fd_up (fd_up K 199 14 w) 199 11 ((p : Nat) : Int)) (if p < len then tx p else -1) 48 57 (by omega) (by omega) (by omega)) rfl (by omega) ?_
    refine fd_e_br (C := fd_c56) (t := 63) (e := 38) (st' := []) (c := (fd_bi (48 ≤ (if p < len then tx p else -1) ∧ (if p < len then tx p else -1) ≤ 57)) = 0) (b := (fd_rng (fd_bi (48 ≤ (if p < len then tx p else -1) ∧ (if p < len then tx p else -1) ≤ 57)))) rfl rfl rfl (fd_biR) (fun h37 => ?_) (fun h37 => ?_)
    · have h37 := fd_biF.mp h37
      refine fd_e_blk 4 (C := fd_c56) (b := true) (L' := [fd_R 199, fd_I (tx s)]) (st' := [fd_I 99, fd_I w, fd_R 199]) (M' := (fd_up (fd_up K 199 14 w) 199 11 ((p : Nat) : Int))) rfl rfl (j := 67) rfl (rfl) ?_
      refine fd_e_br (C := fd_c56) (t := 78) (e := 68) (st' := [fd_R 199]) (c := 99 < w) (b := (fd_rng w && fd_rng 99)) rfl rfl rfl (fd_bA (fd_bR (by omega) (by omega)) (fd_bR (by omega) (by omega))) (fun h67 => ?_) (fun h67 => ?_)
      · refine fd_e_blk 1 (C := fd_c56) (b := true) (L' := [fd_R 199, fd_I (tx s)]) (st' := [fd_I 4, fd_R 199]) (M' := (fd_up (fd_up K 199 14 w) 199 11 ((p : Nat) : Int))) rfl rfl (j := 79) rfl (rfl) ?_
        refine fd_e_jmp (C := fd_c56) (j := 81) (st' := [fd_I 4, fd_R 199]) rfl rfl (b := true) rfl rfl ?_
        refine fd_e_blk 1 (C := fd_c56) (b := true) (L' := [fd_R 199, fd_I (tx s)]) (st' := []) (M' := (fd_up (fd_up (fd_up K 199 14 w) 199 11 ((p : Nat) : Int)) 199 13 4)) rfl rfl (j := 82) rfl (rfl) ?_
        refine fd_e_jmp (C := fd_c56) (j := 104) (st' := []) rfl rfl (b := true) rfl rfl ?_
        refine fd_e_ret (C := fd_c56) (b := true) (r' := none) rfl rfl rfl (rfl) ?_
        have e0 : tk_nu tx (n + 1) p v = (p, v) := tk_nu_off (fun z => h37 (by rw [if_pos (by omega)]; exact z))
        refine ⟨rfl, ?_, rfl, ⟨w, rfl, ?_, ?_⟩, ?_⟩
        · rw [e0]; rfl
        · rw [e0]; exact hv
        · rw [e0]
          show (4 : Int) = _
          first | (rw [if_pos (by omega)]; done) | (rw [if_neg (by omega)]; done)
        · exact tk_RA_tr (tk_RA_tr (tk_RA_up K (by decide) _) (tk_RA_up _ (by decide) _)) (tk_RA_up _ (by decide) _)
      · refine fd_e_blk 2 (C := fd_c56) (b := true) (L' := [fd_R 199, fd_I (tx s)]) (st' := [fd_I 48, fd_I (tx s), fd_R 199]) (M' := (fd_up (fd_up K 199 14 w) 199 11 ((p : Nat) : Int))) rfl rfl (j := 70) rfl (rfl) ?_
        refine fd_e_br (C := fd_c56) (t := 80) (e := 71) (st' := [fd_R 199]) (c := ¬ (tx s) = 48) (b := (fd_rng (tx s) && fd_rng 48)) rfl rfl rfl (fd_bA (fd_bR (by omega) (by omega)) (fd_bR (by omega) (by omega))) (fun h70 => ?_) (fun h70 => ?_)
        · refine fd_e_blk 2 (C := fd_c56) (b := true) (L' := [fd_R 199, fd_I (tx s)]) (st' := []) (M' := (fd_up (fd_up (fd_up K 199 14 w) 199 11 ((p : Nat) : Int)) 199 13 1)) rfl rfl (j := 82) rfl (rfl) ?_
          refine fd_e_jmp (C := fd_c56) (j := 104) (st' := []) rfl rfl (b := true) rfl rfl ?_
          refine fd_e_ret (C := fd_c56) (b := true) (r' := none) rfl rfl rfl (rfl) ?_
          have e0 : tk_nu tx (n + 1) p v = (p, v) := tk_nu_off (fun z => h37 (by rw [if_pos (by omega)]; exact z))
          refine ⟨rfl, ?_, rfl, ⟨w, rfl, ?_, ?_⟩, ?_⟩
          · rw [e0]; rfl
          · rw [e0]; exact hv
          · rw [e0]
            show (1 : Int) = _
            first | (rw [if_pos (by omega)]; done) | (rw [if_neg (by omega)]; done)
          · exact tk_RA_tr (tk_RA_tr (tk_RA_up K (by decide) _) (tk_RA_up _ (by decide) _)) (tk_RA_up _ (by decide) _)
        · refine fd_e_blk 6 (C := fd_c56) (b := true) (L' := [fd_R 199, fd_I (tx s)]) (st' := [fd_I 1, fd_I (((p : Nat) : Int) - (K 199 12)), fd_R 199]) (M' := (fd_up (fd_up K 199 14 w) 199 11 ((p : Nat) : Int))) rfl rfl (j := 77) rfl (rfl) ?_
          refine fd_e_br (C := fd_c56) (t := 80) (e := 78) (st' := [fd_R 199]) (c := (((p : Nat) : Int) - (K 199 12)) ≤ 1) (b := (fd_rng (((p : Nat) : Int) - (K 199 12)) && fd_rng 1)) rfl rfl rfl (fd_bA (fd_bR (by omega) (by omega)) (fd_bR (by omega) (by omega))) (fun h77 => ?_) (fun h77 => ?_)
          · refine fd_e_blk 2 (C := fd_c56) (b := true) (L' := [fd_R 199, fd_I (tx s)]) (st' := []) (M' := (fd_up (fd_up (fd_up K 199 14 w) 199 11 ((p : Nat) : Int)) 199 13 1)) rfl rfl (j := 82) rfl (rfl) ?_
            refine fd_e_jmp (C := fd_c56) (j := 104) (st' := []) rfl rfl (b := true) rfl rfl ?_
            refine fd_e_ret (C := fd_c56) (b := true) (r' := none) rfl rfl rfl (rfl) ?_
            have e0 : tk_nu tx (n + 1) p v = (p, v) := tk_nu_off (fun z => h37 (by rw [if_pos (by omega)]; exact z))
            refine ⟨rfl, ?_, rfl, ⟨w, rfl, ?_, ?_⟩, ?_⟩
            · rw [e0]; rfl
            · rw [e0]; exact hv
            · rw [e0]
              show (1 : Int) = _
              first | (rw [if_pos (by omega)]; done) | (rw [if_neg (by omega)]; done)
            · exact tk_RA_tr (tk_RA_tr (tk_RA_up K (by decide) _) (tk_RA_up _ (by decide) _)) (tk_RA_up _ (by decide) _)
          · refine fd_e_blk 1 (C := fd_c56) (b := true) (L' := [fd_R 199, fd_I (tx s)]) (st' := [fd_I 4, fd_R 199]) (M' := (fd_up (fd_up K 199 14 w) 199 11 ((p : Nat) : Int))) rfl rfl (j := 79) rfl (rfl) ?_
            refine fd_e_jmp (C := fd_c56) (j := 81) (st' := [fd_I 4, fd_R 199]) rfl rfl (b := true) rfl rfl ?_
            refine fd_e_blk 1 (C := fd_c56) (b := true) (L' := [fd_R 199, fd_I (tx s)]) (st' := []) (M' := (fd_up (fd_up (fd_up K 199 14 w) 199 11 ((p : Nat) : Int)) 199 13 4)) rfl rfl (j := 82) rfl (rfl) ?_
            refine fd_e_jmp (C := fd_c56) (j := 104) (st' := []) rfl rfl (b := true) rfl rfl ?_
            refine fd_e_ret (C := fd_c56) (b := true) (r' := none) rfl rfl rfl (rfl) ?_
            have e0 : tk_nu tx (n + 1) p v = (p, v) := tk_nu_off (fun z => h37 (by rw [if_pos (by omega)]; exact z))
            refine ⟨rfl, ?_, rfl, ⟨w, rfl, ?_, ?_⟩, ?_⟩
            · rw [e0]; rfl
            · rw [e0]; exact hv
            · rw [e0]
              show (4 : Int) = _
              first | (rw [if_pos (by omega)]; done) | (rw [if_neg (by omega)]; done)
            · exact tk_RA_tr (tk_RA_tr (tk_RA_up K (by decide) _) (tk_RA_up _ (by decide) _)) (tk_RA_up _ (by decide) _)
    · have h37 := fd_biT.mp h37
      refine fd_e_blk 4 (C := fd_c56) (b := true) (L' := [fd_R 199, fd_I (tx s)]) (st' := [fd_I 99, fd_I w, fd_R 199]) (M' := (fd_up (fd_up K 199 14 w) 199 11 ((p : Nat) : Int))) rfl rfl (j := 42) rfl (rfl) ?_
      refine fd_e_br (C := fd_c56) (t := 46) (e := 43) (st' := [fd_R 199]) (c := w ≤ 99) (b := (fd_rng w && fd_rng 99)) rfl rfl rfl (fd_bA (fd_bR (by omega) (by omega)) (fd_bR (by omega) (by omega))) (fun h42 => ?_) (fun h42 => ?_)
      · refine fd_e_blk 5 (C := fd_c56) (b := true) (L' := [fd_R 199, fd_I (tx s)]) (st' := [fd_R 199, fd_I (10 * w), fd_R 199]) (M' := (fd_up (fd_up K 199 14 w) 199 11 ((p : Nat) : Int))) rfl rfl (j := 51) rfl (rfl) ?_
        refine fd_e_call (C := fd_c56) (d0 := 0) (mid := 55) (np := 1) (args := [fd_R 199]) (r1 := some (fd_I (if p < len then tx p else -1))) (M1 := (fd_up (fd_up K 199 14 w) 199 11 ((p : Nat) : Int))) (st' := [fd_I (if p < len then tx p else -1), fd_I (10 * w), fd_R 199]) rfl rfl rfl rfl rfl rfl (rfl) (fd_y_here (fd_up (fd_up K 199 14 w) 199 11 ((p : Nat) : Int)) (by have z := hx; exact z) p rfl (by omega)) rfl (by omega) ?_
        have xb36 := hx.2.2.1 p
        have hr36 : -1 ≤ (if p < len then tx p else -1) ∧ (if p < len then tx p else -1) ≤ 255 := by split <;> omega
        refine fd_e_blk 10 (C := fd_c56) (b := true) (L' := [fd_R 199, fd_I (tx s)]) (st' := []) (M' := (fd_up (fd_up (fd_up (fd_up K 199 14 w) 199 11 ((p : Nat) : Int)) 199 14 (((10 * w) + (if p < len then tx p else -1)) - 48)) 199 11 (((p + 1) : Nat) : Int))) rfl rfl (j := 62) rfl (rfl) ?_
        refine fd_e_jmp (C := fd_c56) (j := 32) (st' := []) rfl rfl (b := true) rfl rfl ?_
        rw [fd_up_comm (k := 11) (j := 14) (by decide), fd_up_up, fd_up_up]
        have hd : 48 ≤ tx p ∧ tx p ≤ 57 := by rw [if_pos (show p < len by omega)] at h37; exact h37
        have ep : (if p < len then tx p else -1) = tx p := if_pos (by omega)
        have zi := ih (p + 1) (if v * 10 + tx p - 48 < 100 then v * 10 + tx p - 48 else 100) (((10 * w) + (if p < len then tx p else -1)) - 48) (by omega) (by omega) (by unfold tk_VR at hv ⊢; (try rw [ep]); split <;> omega) (by split <;> omega)
        rw [← tk_nu_on hd] at zi
        exact zi
      · refine fd_e_blk 2 (C := fd_c56) (b := true) (L' := [fd_R 199, fd_I (tx s)]) (st' := [fd_I w, fd_R 199]) (M' := (fd_up (fd_up K 199 14 w) 199 11 ((p : Nat) : Int))) rfl rfl (j := 45) rfl (rfl) ?_
        refine fd_e_jmp (C := fd_c56) (j := 55) (st' := [fd_I w, fd_R 199]) rfl rfl (b := true) rfl rfl ?_
        refine fd_e_blk 7 (C := fd_c56) (b := true) (L' := [fd_R 199, fd_I (tx s)]) (st' := []) (M' := (fd_up (fd_up (fd_up (fd_up K 199 14 w) 199 11 ((p : Nat) : Int)) 199 14 w) 199 11 (((p + 1) : Nat) : Int))) rfl rfl (j := 62) rfl (rfl) ?_
        refine fd_e_jmp (C := fd_c56) (j := 32) (st' := []) rfl rfl (b := true) rfl rfl ?_
        rw [fd_up_comm (k := 11) (j := 14) (by decide), fd_up_up, fd_up_up]
        have hd : 48 ≤ tx p ∧ tx p ≤ 57 := by rw [if_pos (show p < len by omega)] at h37; exact h37
        have ep : (if p < len then tx p else -1) = tx p := if_pos (by omega)
        have zi := ih (p + 1) (if v * 10 + tx p - 48 < 100 then v * 10 + tx p - 48 else 100) w (by omega) (by omega) (by unfold tk_VR at hv ⊢; (try rw [ep]); split <;> omega) (by split <;> omega)
        rw [← tk_nu_on hd] at zi
        exact zi


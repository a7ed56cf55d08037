/-! the text's tokens -/
def tk_sp (tx : Nat → Int) : Nat → Nat → Nat
  | 0, p => p
  | n + 1, p => if tx p = 32 then tk_sp tx n (p + 1) else p
def tk_nu (tx : Nat → Int) : Nat → Nat → Int → Nat × Int
  | 0, p, v => (p, v)
  | n + 1, p, v => if 48 ≤ tx p ∧ tx p ≤ 57 then tk_nu tx n (p + 1) (if v * 10 + tx p - 48 < 100 then v * 10 + tx p - 48 else 100) else (p, v)
def tk_ls (tx : Nat → Int) (len p : Nat) : Nat := tk_sp tx (len - p) p
def tk_ne (tx : Nat → Int) (len s : Nat) : Nat × Int := tk_nu tx (len - s) s 0
def tk_kd (tx : Nat → Int) (len p : Nat) : Int := if len ≤ tk_ls tx len p then 0 else if 48 ≤ tx (tk_ls tx len p) ∧ tx (tk_ls tx len p) ≤ 57 then (if (tx (tk_ls tx len p) = 48 ∧ tk_ls tx len p + 1 < (tk_ne tx len (tk_ls tx len p)).1) ∨ 99 < (tk_ne tx len (tk_ls tx len p)).2 then 4 else 2) else if 97 ≤ tx (tk_ls tx len p) ∧ tx (tk_ls tx len p) ≤ 122 then 1 else if tx (tk_ls tx len p) = 59 then 3 else 4
def tk_nx (tx : Nat → Int) (len p : Nat) : Nat := if len ≤ tk_ls tx len p then tk_ls tx len p else if 48 ≤ tx (tk_ls tx len p) ∧ tx (tk_ls tx len p) ≤ 57 then (tk_ne tx len (tk_ls tx len p)).1 else tk_ls tx len p + 1
def tk_vl (tx : Nat → Int) (len p : Nat) : Int := if 48 ≤ tx (tk_ls tx len p) ∧ tx (tk_ls tx len p) ≤ 57 then (tk_ne tx len (tk_ls tx len p)).2 else tx (tk_ls tx len p)
theorem tk_sp_rng (tx : Nat → Int) : ∀ n p : Nat, p ≤ tk_sp tx n p ∧ tk_sp tx n p ≤ p + n
  | 0, p => by
    show p ≤ p ∧ p ≤ p + 0
    omega
  | n + 1, p => by
    have := tk_sp_rng tx n (p + 1)
    rw [tk_sp]
    split <;> omega
theorem tk_nu_rng (tx : Nat → Int) : ∀ (n p : Nat) (v : Int), 0 ≤ v ∧ v ≤ 100 → (p ≤ (tk_nu tx n p v).1 ∧ (tk_nu tx n p v).1 ≤ p + n) ∧ (0 ≤ (tk_nu tx n p v).2 ∧ (tk_nu tx n p v).2 ≤ 100)
  | 0, p, v, hv => by
    show (p ≤ p ∧ p ≤ p + 0) ∧ (0 ≤ v ∧ v ≤ 100)
    omega
  | n + 1, p, v, hv => by
    rw [tk_nu]
    split
    · have := tk_nu_rng tx n (p + 1) (if v * 10 + tx p - 48 < 100 then v * 10 + tx p - 48 else 100) (by split <;> omega)
      omega
    · omega
theorem tk_nu_on {tx : Nat → Int} {n p : Nat} {v : Int} (h : 48 ≤ tx p ∧ tx p ≤ 57) : tk_nu tx (n + 1) p v = tk_nu tx n (p + 1) (if v * 10 + tx p - 48 < 100 then v * 10 + tx p - 48 else 100) := by
  rw [tk_nu, if_pos h]
theorem tk_nu_off {tx : Nat → Int} {n p : Nat} {v : Int} (h : ¬ (48 ≤ tx p ∧ tx p ≤ 57)) : tk_nu tx (n + 1) p v = (p, v) := by
  rw [tk_nu, if_neg h]
theorem tk_ls_rng {tx : Nat → Int} {len p : Nat} (h : p ≤ len) : p ≤ tk_ls tx len p ∧ tk_ls tx len p ≤ len := by
  have := tk_sp_rng tx (len - p) p
  unfold tk_ls
  omega
theorem tk_nx_rng {tx : Nat → Int} {len p : Nat} (h : p ≤ len) : p ≤ tk_nx tx len p ∧ tk_nx tx len p ≤ len ∧ (tk_kd tx len p ≠ 0 → p < tk_nx tx len p) := by
  have a := tk_ls_rng (tx := tx) h
  unfold tk_nx tk_kd
  by_cases h1 : len ≤ tk_ls tx len p
  · rw [if_pos h1, if_pos h1]
    exact ⟨a.1, a.2, fun z => absurd rfl z⟩
  · rw [if_neg h1, if_neg h1]
    by_cases h2 : 48 ≤ tx (tk_ls tx len p) ∧ tx (tk_ls tx len p) ≤ 57
    · rw [if_pos h2, if_pos h2]
      obtain ⟨k, hk⟩ : ∃ k, len - tk_ls tx len p = k + 1 := ⟨len - tk_ls tx len p - 1, by omega⟩
      have e : (tk_ne tx len (tk_ls tx len p)).1 = (tk_nu tx k (tk_ls tx len p + 1) (if 0 * 10 + tx (tk_ls tx len p) - 48 < 100 then 0 * 10 + tx (tk_ls tx len p) - 48 else 100)).1 := by
        unfold tk_ne
        rw [hk, tk_nu_on h2]
      have r := tk_nu_rng tx k (tk_ls tx len p + 1) (if 0 * 10 + tx (tk_ls tx len p) - 48 < 100 then 0 * 10 + tx (tk_ls tx len p) - 48 else 100) (by split <;> omega)
      rw [e]
      omega
    · rw [if_neg h2, if_neg h2]
      omega
theorem tk_vl_rng {tx : Nat → Int} (hx : ∀ k, 0 ≤ tx k ∧ tx k ≤ 255) (len p : Nat) : 0 ≤ tk_vl tx len p ∧ tk_vl tx len p ≤ 255 := by
  unfold tk_vl tk_ne
  have a := tk_nu_rng tx (len - tk_ls tx len p) (tk_ls tx len p) 0 (by omega)
  have b := hx (tk_ls tx len p)
  split <;> omega
theorem tk_kd_rng (tx : Nat → Int) (len p : Nat) : 0 ≤ tk_kd tx len p ∧ tk_kd tx len p ≤ 4 := by
  unfold tk_kd
  split
  · omega
  · split
    · split <;> omega
    · split
      · omega
      · split <;> omega
def tk_XG (M : fd_M) : Prop := (0 ≤ M 1 1 ∧ M 1 1 ≤ 150) ∧ (∀ k : Nat, 0 ≤ M 2 k ∧ M 2 k ≤ 255)
/-- the class's token at hand -/
def tk_TC (tx : Nat → Int) (len p : Nat) (R : fd_M) : Prop := R 13 2 = (tk_nx tx len p : Int) ∧ R 13 3 = (tk_ls tx len p : Int) ∧ R 13 4 = tk_kd tx len p ∧ (tk_kd tx len p ≠ 0 → R 13 5 = tk_vl tx len p)
def tk_FA (M R : fd_M) : Prop := (∀ c, c ≠ 13 → R c = M c) ∧ (∀ k, 6 ≤ k → R 13 k = M 13 k)
theorem fd_up_comm {M : fd_M} {c k j : Nat} {v w : Int} (h : k ≠ j) : fd_up (fd_up M c k v) c j w = fd_up (fd_up M c j w) c k v := by
  funext a b
  unfold fd_up
  by_cases h1 : a = c ∧ b = k
  · rw [if_pos h1, if_neg (by omega), if_pos h1]
  · rw [if_neg h1, if_neg h1]
theorem fd_q_byteAt (M : fd_M) (hX : tk_XG M) (i : Int) (hi : -2147483648 ≤ i ∧ i < 2147483648) : fd_call 0 165 [fd_R 1, fd_I i] M (some (fd_I (if 0 ≤ i ∧ i < M 1 1 then M 2 i.toNat else -1))) M := by
  refine fd_u_in (L := [fd_R 1, fd_I i]) rfl ?_
  obtain ⟨x1, x2⟩ := hX
  refine fd_u_blk 1 (C := fd_c165) (b := true) (L' := [fd_R 1, fd_I i]) (st' := [fd_I i]) (M' := M) rfl rfl (j := 1) rfl (rfl) ?_
  refine fd_u_br (C := fd_c165) (t := 11) (e := 2) (st' := []) (c := i < 0) (b := (fd_rng i)) rfl rfl rfl (fd_bR (by omega) (by omega)) (fun h1 => ?_) (fun h1 => ?_)
  · refine fd_u_blk 1 (C := fd_c165) (b := true) (L' := [fd_R 1, fd_I i]) (st' := [fd_I (-1)]) (M' := M) rfl rfl (j := 12) rfl (rfl) ?_
    refine fd_u_ret (C := fd_c165) (b := true) (r' := some (fd_I (-1))) rfl rfl rfl (rfl) ?_ ?_
    · rw [if_neg (by omega)]
    · rfl
  · refine fd_u_blk 3 (C := fd_c165) (b := true) (L' := [fd_R 1, fd_I i]) (st' := [fd_I (M 1 1), fd_I i]) (M' := M) rfl rfl (j := 5) rfl (rfl) ?_
    refine fd_u_br (C := fd_c165) (t := 11) (e := 6) (st' := []) (c := (M 1 1) ≤ i) (b := (fd_rng i && fd_rng (M 1 1))) rfl rfl rfl (fd_bA (fd_bR (by omega) (by omega)) (fd_bR (by omega) (by omega))) (fun h5 => ?_) (fun h5 => ?_)
    · refine fd_u_blk 1 (C := fd_c165) (b := true) (L' := [fd_R 1, fd_I i]) (st' := [fd_I (-1)]) (M' := M) rfl rfl (j := 12) rfl (rfl) ?_
      refine fd_u_ret (C := fd_c165) (b := true) (r' := some (fd_I (-1))) rfl rfl rfl (rfl) ?_ ?_
      · rw [if_neg (by omega)]
      · rfl
    · refine fd_u_blk 4 (C := fd_c165) (b := (fd_inb i 150 && true)) (L' := [fd_R 1, fd_I i]) (st' := [fd_I (M 2 (i).toNat)]) (M' := M) rfl rfl (j := 10) rfl (fd_bA (fd_bI (by omega) (by omega)) (rfl)) ?_
      refine fd_u_jmp (C := fd_c165) (j := 12) (st' := [fd_I (M 2 (i).toNat)]) rfl rfl (b := true) rfl rfl ?_
      refine fd_u_ret (C := fd_c165) (b := true) (r' := some (fd_I (M 2 (i).toNat))) rfl rfl rfl (rfl) ?_ ?_
      · rw [if_pos (by omega)]
      · rfl

theorem fd_q_byte {M N : fd_M} (hX : tk_XG M) (e1 : N 1 = M 1) (e2 : N 2 = M 2) (p : Nat) (hp : (p : Int) < M 1 1) : fd_call 0 165 [fd_R 1, fd_I ((p : Nat) : Int)] N (some (fd_I (M 2 p))) N := by
  have z := fd_q_byteAt N (by unfold tk_XG; rw [e1, e2]; exact hX) (p : Int) (by have := hX.1; omega)
  rw [e1, e2, if_pos (by omega)] at z
  exact z
theorem fd_q_isDigit (M : fd_M) (c : Int) (hc : -2147483648 ≤ c ∧ c < 2147483648) : fd_call 0 131 [fd_I c] M (some (fd_I (fd_bi (48 ≤ c ∧ c ≤ 57)))) M := by
  refine fd_u_in (L := [fd_I c]) rfl ?_
  refine fd_u_blk 2 (C := fd_c131) (b := true) (L' := [fd_I c]) (st' := [fd_I 48, fd_I c]) (M' := M) rfl rfl (j := 2) rfl (rfl) ?_
  refine fd_u_br (C := fd_c131) (t := 8) (e := 3) (st' := []) (c := c < 48) (b := (fd_rng c && fd_rng 48)) rfl rfl rfl (fd_bA (fd_bR (by omega) (by omega)) (fd_bR (by omega) (by omega))) (fun h2 => ?_) (fun h2 => ?_)
  · refine fd_u_blk 1 (C := fd_c131) (b := true) (L' := [fd_I c]) (st' := [fd_I 0]) (M' := M) rfl rfl (j := 9) rfl (rfl) ?_
    refine fd_u_ret (C := fd_c131) (b := true) (r' := some (fd_I 0)) rfl rfl rfl (rfl) ?_ ?_
    · exact fd_ok0 (by omega)
    · rfl
  · refine fd_u_blk 2 (C := fd_c131) (b := true) (L' := [fd_I c]) (st' := [fd_I 57, fd_I c]) (M' := M) rfl rfl (j := 5) rfl (rfl) ?_
    refine fd_u_br (C := fd_c131) (t := 8) (e := 6) (st' := []) (c := 57 < c) (b := (fd_rng c && fd_rng 57)) rfl rfl rfl (fd_bA (fd_bR (by omega) (by omega)) (fd_bR (by omega) (by omega))) (fun h5 => ?_) (fun h5 => ?_)
    · refine fd_u_blk 1 (C := fd_c131) (b := true) (L' := [fd_I c]) (st' := [fd_I 0]) (M' := M) rfl rfl (j := 9) rfl (rfl) ?_
      refine fd_u_ret (C := fd_c131) (b := true) (r' := some (fd_I 0)) rfl rfl rfl (rfl) ?_ ?_
      · exact fd_ok0 (by omega)
      · rfl
    · refine fd_u_blk 1 (C := fd_c131) (b := true) (L' := [fd_I c]) (st' := [fd_I 1]) (M' := M) rfl rfl (j := 7) rfl (rfl) ?_
      refine fd_u_jmp (C := fd_c131) (j := 9) (st' := [fd_I 1]) rfl rfl (b := true) rfl rfl ?_
      refine fd_u_ret (C := fd_c131) (b := true) (r' := some (fd_I 1)) rfl rfl rfl (rfl) ?_ ?_
      · exact fd_ok1 (by omega)
      · rfl

theorem fd_q_num (M : fd_M) (hX : tk_XG M) (s : Nat) (hs : M 13 3 = (s : Int)) (hsl : (s : Int) < M 1 1) : ∀ (n : Nat) (p : Nat) (v : Int) (u : fd_V) (hp : (p : Int) + n = M 1 1) (hsp : s ≤ p) (hv : 0 ≤ v ∧ v ≤ 100), fd_runE 1 130 3 [fd_R 13, u] [] (fd_up (fd_up M 13 5 v) 13 2 ((p : Nat) : Int)) (fun r R => r = none ∧ R 13 2 = ((tk_nu (M 2) n p v).1 : Int) ∧ R 13 5 = (tk_nu (M 2) n p v).2 ∧ R 13 3 = M 13 3 ∧ R 13 4 = (if (M 2 s = 48 ∧ s + 1 < (tk_nu (M 2) n p v).1) ∨ 99 < (tk_nu (M 2) n p v).2 then 4 else 2) ∧ tk_FA M R) := by
  obtain ⟨x1, x2⟩ := id hX
  intro n
  induction n with
  | zero =>
    intro p v u hp hsp hv
    refine fd_e_blk 5 (C := fd_c130) (b := true) (L' := [fd_R 13, u]) (st' := [fd_I (M 1 1), fd_I ((p : Nat) : Int)]) (M' := (fd_up (fd_up M 13 5 v) 13 2 ((p : Nat) : Int))) rfl rfl (j := 8) rfl (rfl) ?_
    refine fd_e_br (C := fd_c130) (t := 39) (e := 9) (st' := []) (c := (M 1 1) ≤ ((p : Nat) : Int)) (b := (fd_rng ((p : Nat) : Int) && fd_rng (M 1 1))) rfl rfl rfl (fd_bA (fd_bR (by omega) (by omega)) (fd_bR (by omega) (by omega))) (fun h8 => ?_) (fun h8 => absurd h8 (by omega))
    refine fd_e_blk 4 (C := fd_c130) (b := true) (L' := [fd_R 13, u]) (st' := [fd_I (M 13 3), fd_R 1]) (M' := (fd_up (fd_up M 13 5 v) 13 2 ((p : Nat) : Int))) rfl rfl (j := 43) rfl (rfl) ?_
    refine fd_e_call (C := fd_c130) (d0 := 0) (mid := 165) (np := 2) (args := [fd_R 1, fd_I (M 13 3)]) (r1 := some (fd_I (M 2 s))) (M1 := (fd_up (fd_up M 13 5 v) 13 2 ((p : Nat) : Int))) (st' := [fd_I (M 2 s)]) rfl rfl rfl rfl rfl rfl (rfl) (by have zz := fd_q_byte (N := (fd_up (fd_up M 13 5 v) 13 2 ((p : Nat) : Int))) hX rfl rfl s (by omega); rw [← hs] at zz; exact zz) rfl (by omega) ?_
    have xb5 := hX.2 s
    refine fd_e_blk 1 (C := fd_c130) (b := true) (L' := [fd_R 13, u]) (st' := [fd_I 48, fd_I (M 2 s)]) (M' := (fd_up (fd_up M 13 5 v) 13 2 ((p : Nat) : Int))) rfl rfl (j := 45) rfl (rfl) ?_
    refine fd_e_br (C := fd_c130) (t := 55) (e := 46) (st' := []) (c := ¬ (M 2 s) = 48) (b := (fd_rng (M 2 s) && fd_rng 48)) rfl rfl rfl (fd_bA (fd_bR (by omega) (by omega)) (fd_bR (by omega) (by omega))) (fun h45 => ?_) (fun h45 => ?_)
    · refine fd_e_blk 4 (C := fd_c130) (b := true) (L' := [fd_R 13, fd_I 0]) (st' := [fd_I 0, fd_R 13]) (M' := (fd_up (fd_up M 13 5 v) 13 2 ((p : Nat) : Int))) rfl rfl (j := 59) rfl (rfl) ?_
      refine fd_e_br (C := fd_c130) (t := 64) (e := 60) (st' := [fd_R 13]) (c := ¬ 0 = 0) (b := (fd_rng 0)) rfl rfl rfl (fd_bR (by omega) (by omega)) (fun h59 => absurd h59 (by omega)) (fun h59 => ?_)
      refine fd_e_blk 3 (C := fd_c130) (b := true) (L' := [fd_R 13, fd_I 0]) (st' := [fd_I 99, fd_I v, fd_R 13]) (M' := (fd_up (fd_up M 13 5 v) 13 2 ((p : Nat) : Int))) rfl rfl (j := 63) rfl (rfl) ?_
      refine fd_e_br (C := fd_c130) (t := 66) (e := 64) (st' := [fd_R 13]) (c := v ≤ 99) (b := (fd_rng v && fd_rng 99)) rfl rfl rfl (fd_bA (fd_bR (by omega) (by omega)) (fd_bR (by omega) (by omega))) (fun h63 => ?_) (fun h63 => ?_)
      · refine fd_e_blk 2 (C := fd_c130) (b := true) (L' := [fd_R 13, fd_I 0]) (st' := []) (M' := (fd_up (fd_up (fd_up M 13 5 v) 13 2 ((p : Nat) : Int)) 13 4 2)) rfl rfl (j := 68) rfl (rfl) ?_
        refine fd_e_ret (C := fd_c130) (b := true) (r' := none) rfl rfl rfl (rfl) ?_
        have e0 : tk_nu (M 2) 0 p v = (p, v) := rfl
        refine ⟨rfl, ?_, ?_, rfl, ?_, ?_⟩
        · rw [e0]; rfl
        · rw [e0]; rfl
        · rw [e0]
          show (2 : Int) = _
          first | (rw [if_pos (by omega)]; done) | (rw [if_neg (by omega)]; done)
        · exact ⟨fun c hc => by rw [fd_up_ne hc, fd_up_ne hc, fd_up_ne hc], fun k hk => by rw [fd_up_at, if_neg (by omega), fd_up_at, if_neg (by omega), fd_up_at, if_neg (by omega)]⟩
      · refine fd_e_blk 1 (C := fd_c130) (b := true) (L' := [fd_R 13, fd_I 0]) (st' := [fd_I 4, fd_R 13]) (M' := (fd_up (fd_up M 13 5 v) 13 2 ((p : Nat) : Int))) rfl rfl (j := 65) rfl (rfl) ?_
        refine fd_e_jmp (C := fd_c130) (j := 67) (st' := [fd_I 4, fd_R 13]) rfl rfl (b := true) rfl rfl ?_
        refine fd_e_blk 1 (C := fd_c130) (b := true) (L' := [fd_R 13, fd_I 0]) (st' := []) (M' := (fd_up (fd_up (fd_up M 13 5 v) 13 2 ((p : Nat) : Int)) 13 4 4)) rfl rfl (j := 68) rfl (rfl) ?_
        refine fd_e_ret (C := fd_c130) (b := true) (r' := none) rfl rfl rfl (rfl) ?_
        have e0 : tk_nu (M 2) 0 p v = (p, v) := rfl
        refine ⟨rfl, ?_, ?_, rfl, ?_, ?_⟩
        · rw [e0]; rfl
        · rw [e0]; rfl
        · rw [e0]
          show (4 : Int) = _
          first | (rw [if_pos (by omega)]; done) | (rw [if_neg (by omega)]; done)
        · exact ⟨fun c hc => by rw [fd_up_ne hc, fd_up_ne hc, fd_up_ne hc], fun k hk => by rw [fd_up_at, if_neg (by omega), fd_up_at, if_neg (by omega), fd_up_at, if_neg (by omega)]⟩
    · refine fd_e_blk 6 (C := fd_c130) (b := true) (L' := [fd_R 13, u]) (st' := [fd_I 1, fd_I (((p : Nat) : Int) - (M 13 3))]) (M' := (fd_up (fd_up M 13 5 v) 13 2 ((p : Nat) : Int))) rfl rfl (j := 52) rfl (rfl) ?_
      refine fd_e_br (C := fd_c130) (t := 55) (e := 53) (st' := []) (c := (((p : Nat) : Int) - (M 13 3)) ≤ 1) (b := (fd_rng (((p : Nat) : Int) - (M 13 3)) && fd_rng 1)) rfl rfl rfl (fd_bA (fd_bR (by omega) (by omega)) (fd_bR (by omega) (by omega))) (fun h52 => ?_) (fun h52 => ?_)
      · refine fd_e_blk 4 (C := fd_c130) (b := true) (L' := [fd_R 13, fd_I 0]) (st' := [fd_I 0, fd_R 13]) (M' := (fd_up (fd_up M 13 5 v) 13 2 ((p : Nat) : Int))) rfl rfl (j := 59) rfl (rfl) ?_
        refine fd_e_br (C := fd_c130) (t := 64) (e := 60) (st' := [fd_R 13]) (c := ¬ 0 = 0) (b := (fd_rng 0)) rfl rfl rfl (fd_bR (by omega) (by omega)) (fun h59 => absurd h59 (by omega)) (fun h59 => ?_)
        refine fd_e_blk 3 (C := fd_c130) (b := true) (L' := [fd_R 13, fd_I 0]) (st' := [fd_I 99, fd_I v, fd_R 13]) (M' := (fd_up (fd_up M 13 5 v) 13 2 ((p : Nat) : Int))) rfl rfl (j := 63) rfl (rfl) ?_
        refine fd_e_br (C := fd_c130) (t := 66) (e := 64) (st' := [fd_R 13]) (c := v ≤ 99) (b := (fd_rng v && fd_rng 99)) rfl rfl rfl (fd_bA (fd_bR (by omega) (by omega)) (fd_bR (by omega) (by omega))) (fun h63 => ?_) (fun h63 => ?_)
        · refine fd_e_blk 2 (C := fd_c130) (b := true) (L' := [fd_R 13, fd_I 0]) (st' := []) (M' := (fd_up (fd_up (fd_up M 13 5 v) 13 2 ((p : Nat) : Int)) 13 4 2)) rfl rfl (j := 68) rfl (rfl) ?_
          refine fd_e_ret (C := fd_c130) (b := true) (r' := none) rfl rfl rfl (rfl) ?_
          have e0 : tk_nu (M 2) 0 p v = (p, v) := rfl
          refine ⟨rfl, ?_, ?_, rfl, ?_, ?_⟩
          · rw [e0]; rfl
          · rw [e0]; rfl
          · rw [e0]
            show (2 : Int) = _
            first | (rw [if_pos (by omega)]; done) | (rw [if_neg (by omega)]; done)
          · exact ⟨fun c hc => by rw [fd_up_ne hc, fd_up_ne hc, fd_up_ne hc], fun k hk => by rw [fd_up_at, if_neg (by omega), fd_up_at, if_neg (by omega), fd_up_at, if_neg (by omega)]⟩
        · refine fd_e_blk 1 (C := fd_c130) (b := true) (L' := [fd_R 13, fd_I 0]) (st' := [fd_I 4, fd_R 13]) (M' := (fd_up (fd_up M 13 5 v) 13 2 ((p : Nat) : Int))) rfl rfl (j := 65) rfl (rfl) ?_
          refine fd_e_jmp (C := fd_c130) (j := 67) (st' := [fd_I 4, fd_R 13]) rfl rfl (b := true) rfl rfl ?_
          refine fd_e_blk 1 (C := fd_c130) (b := true) (L' := [fd_R 13, fd_I 0]) (st' := []) (M' := (fd_up (fd_up (fd_up M 13 5 v) 13 2 ((p : Nat) : Int)) 13 4 4)) rfl rfl (j := 68) rfl (rfl) ?_
          refine fd_e_ret (C := fd_c130) (b := true) (r' := none) rfl rfl rfl (rfl) ?_
          have e0 : tk_nu (M 2) 0 p v = (p, v) := rfl
          refine ⟨rfl, ?_, ?_, rfl, ?_, ?_⟩
          · rw [e0]; rfl
          · rw [e0]; rfl
          · rw [e0]
            show (4 : Int) = _
            first | (rw [if_pos (by omega)]; done) | (rw [if_neg (by omega)]; done)
          · exact ⟨fun c hc => by rw [fd_up_ne hc, fd_up_ne hc, fd_up_ne hc], fun k hk => by rw [fd_up_at, if_neg (by omega), fd_up_at, if_neg (by omega), fd_up_at, if_neg (by omega)]⟩
      · refine fd_e_blk 1 (C := fd_c130) (b := true) (L' := [fd_R 13, u]) (st' := [fd_I 1]) (M' := (fd_up (fd_up M 13 5 v) 13 2 ((p : Nat) : Int))) rfl rfl (j := 54) rfl (rfl) ?_
        refine fd_e_jmp (C := fd_c130) (j := 56) (st' := [fd_I 1]) rfl rfl (b := true) rfl rfl ?_
        refine fd_e_blk 3 (C := fd_c130) (b := true) (L' := [fd_R 13, fd_I 1]) (st' := [fd_I 1, fd_R 13]) (M' := (fd_up (fd_up M 13 5 v) 13 2 ((p : Nat) : Int))) rfl rfl (j := 59) rfl (rfl) ?_
        refine fd_e_br (C := fd_c130) (t := 64) (e := 60) (st' := [fd_R 13]) (c := ¬ 1 = 0) (b := (fd_rng 1)) rfl rfl rfl (fd_bR (by omega) (by omega)) (fun h59 => ?_) (fun h59 => absurd h59 (by omega))
        refine fd_e_blk 1 (C := fd_c130) (b := true) (L' := [fd_R 13, fd_I 1]) (st' := [fd_I 4, fd_R 13]) (M' := (fd_up (fd_up M 13 5 v) 13 2 ((p : Nat) : Int))) rfl rfl (j := 65) rfl (rfl) ?_
        refine fd_e_jmp (C := fd_c130) (j := 67) (st' := [fd_I 4, fd_R 13]) rfl rfl (b := true) rfl rfl ?_
        refine fd_e_blk 1 (C := fd_c130) (b := true) (L' := [fd_R 13, fd_I 1]) (st' := []) (M' := (fd_up (fd_up (fd_up M 13 5 v) 13 2 ((p : Nat) : Int)) 13 4 4)) rfl rfl (j := 68) rfl (rfl) ?_
        refine fd_e_ret (C := fd_c130) (b := true) (r' := none) rfl rfl rfl (rfl) ?_
        have e0 : tk_nu (M 2) 0 p v = (p, v) := rfl
        refine ⟨rfl, ?_, ?_, rfl, ?_, ?_⟩
        · rw [e0]; rfl
        · rw [e0]; rfl
        · rw [e0]
          show (4 : Int) = _
          first | (rw [if_pos (by omega)]; done) | (rw [if_neg (by omega)]; done)
        · exact ⟨fun c hc => by rw [fd_up_ne hc, fd_up_ne hc, fd_up_ne hc], fun k hk => by rw [fd_up_at, if_neg (by omega), fd_up_at, if_neg (by omega), fd_up_at, if_neg (by omega)]⟩
  | succ n ih =>
    intro p v u hp hsp hv
    have xp := x2 p
    refine fd_e_blk 5 (C := fd_c130) (b := true) (L' := [fd_R 13, u]) (st' := [fd_I (M 1 1), fd_I ((p : Nat) : Int)]) (M' := (fd_up (fd_up M 13 5 v) 13 2 ((p : Nat) : Int))) rfl rfl (j := 8) rfl (rfl) ?_
    refine fd_e_br (C := fd_c130) (t := 39) (e := 9) (st' := []) (c := (M 1 1) ≤ ((p : Nat) : Int)) (b := (fd_rng ((p : Nat) : Int) && fd_rng (M 1 1))) rfl rfl rfl (fd_bA (fd_bR (by omega) (by omega)) (fd_bR (by omega) (by omega))) (fun h8 => absurd h8 (by omega)) (fun h8 => ?_)
    refine fd_e_blk 4 (C := fd_c130) (b := true) (L' := [fd_R 13, u]) (st' := [fd_I ((p : Nat) : Int), fd_R 1]) (M' := (fd_up (fd_up M 13 5 v) 13 2 ((p : Nat) : Int))) rfl rfl (j := 13) rfl (rfl) ?_
    refine fd_e_call (C := fd_c130) (d0 := 0) (mid := 165) (np := 2) (args := [fd_R 1, fd_I ((p : Nat) : Int)]) (r1 := some (fd_I (M 2 p))) (M1 := (fd_up (fd_up M 13 5 v) 13 2 ((p : Nat) : Int))) (st' := [fd_I (M 2 p)]) rfl rfl rfl rfl rfl rfl (rfl) (fd_q_byte (N := (fd_up (fd_up M 13 5 v) 13 2 ((p : Nat) : Int))) hX rfl rfl p (by omega)) rfl (by omega) ?_
    have xb5 := hX.2 p
    refine fd_e_call (C := fd_c130) (d0 := 0) (mid := 131) (np := 1) (args := [fd_I (M 2 p)]) (r1 := some (fd_I (fd_bi (48 ≤ (M 2 p) ∧ (M 2 p) ≤ 57)))) (M1 := (fd_up (fd_up M 13 5 v) 13 2 ((p : Nat) : Int))) (st' := [fd_I (fd_bi (48 ≤ (M 2 p) ∧ (M 2 p) ≤ 57))]) rfl rfl rfl rfl rfl rfl (rfl) (fd_q_isDigit (fd_up (fd_up M 13 5 v) 13 2 ((p : Nat) : Int)) (M 2 p) (by omega)) rfl (by omega) ?_
    refine fd_e_br (C := fd_c130) (t := 39) (e := 16) (st' := []) (c := (fd_bi (48 ≤ (M 2 p) ∧ (M 2 p) ≤ 57)) = 0) (b := (fd_rng (fd_bi (48 ≤ (M 2 p) ∧ (M 2 p) ≤ 57)))) rfl rfl rfl (fd_biR) (fun h15 => ?_) (fun h15 => ?_)
    · have h15 := fd_biF.mp h15
      refine fd_e_blk 4 (C := fd_c130) (b := true) (L' := [fd_R 13, u]) (st' := [fd_I (M 13 3), fd_R 1]) (M' := (fd_up (fd_up M 13 5 v) 13 2 ((p : Nat) : Int))) rfl rfl (j := 43) rfl (rfl) ?_
      refine fd_e_call (C := fd_c130) (d0 := 0) (mid := 165) (np := 2) (args := [fd_R 1, fd_I (M 13 3)]) (r1 := some (fd_I (M 2 s))) (M1 := (fd_up (fd_up M 13 5 v) 13 2 ((p : Nat) : Int))) (st' := [fd_I (M 2 s)]) rfl rfl rfl rfl rfl rfl (rfl) (by have zz := fd_q_byte (N := (fd_up (fd_up M 13 5 v) 13 2 ((p : Nat) : Int))) hX rfl rfl s (by omega); rw [← hs] at zz; exact zz) rfl (by omega) ?_
      have xb10 := hX.2 s
      refine fd_e_blk 1 (C := fd_c130) (b := true) (L' := [fd_R 13, u]) (st' := [fd_I 48, fd_I (M 2 s)]) (M' := (fd_up (fd_up M 13 5 v) 13 2 ((p : Nat) : Int))) rfl rfl (j := 45) rfl (rfl) ?_
      refine fd_e_br (C := fd_c130) (t := 55) (e := 46) (st' := []) (c := ¬ (M 2 s) = 48) (b := (fd_rng (M 2 s) && fd_rng 48)) rfl rfl rfl (fd_bA (fd_bR (by omega) (by omega)) (fd_bR (by omega) (by omega))) (fun h45 => ?_) (fun h45 => ?_)
      · refine fd_e_blk 4 (C := fd_c130) (b := true) (L' := [fd_R 13, fd_I 0]) (st' := [fd_I 0, fd_R 13]) (M' := (fd_up (fd_up M 13 5 v) 13 2 ((p : Nat) : Int))) rfl rfl (j := 59) rfl (rfl) ?_
        refine fd_e_br (C := fd_c130) (t := 64) (e := 60) (st' := [fd_R 13]) (c := ¬ 0 = 0) (b := (fd_rng 0)) rfl rfl rfl (fd_bR (by omega) (by omega)) (fun h59 => absurd h59 (by omega)) (fun h59 => ?_)
        refine fd_e_blk 3 (C := fd_c130) (b := true) (L' := [fd_R 13, fd_I 0]) (st' := [fd_I 99, fd_I v, fd_R 13]) (M' := (fd_up (fd_up M 13 5 v) 13 2 ((p : Nat) : Int))) rfl rfl (j := 63) rfl (rfl) ?_
        refine fd_e_br (C := fd_c130) (t := 66) (e := 64) (st' := [fd_R 13]) (c := v ≤ 99) (b := (fd_rng v && fd_rng 99)) rfl rfl rfl (fd_bA (fd_bR (by omega) (by omega)) (fd_bR (by omega) (by omega))) (fun h63 => ?_) (fun h63 => ?_)
        · refine fd_e_blk 2 (C := fd_c130) (b := true) (L' := [fd_R 13, fd_I 0]) (st' := []) (M' := (fd_up (fd_up (fd_up M 13 5 v) 13 2 ((p : Nat) : Int)) 13 4 2)) rfl rfl (j := 68) rfl (rfl) ?_
          refine fd_e_ret (C := fd_c130) (b := true) (r' := none) rfl rfl rfl (rfl) ?_
          have e0 : tk_nu (M 2) (n + 1) p v = (p, v) := tk_nu_off h15
          refine ⟨rfl, ?_, ?_, rfl, ?_, ?_⟩
          · rw [e0]; rfl
          · rw [e0]; rfl
          · rw [e0]
            show (2 : Int) = _
            first | (rw [if_pos (by omega)]; done) | (rw [if_neg (by omega)]; done)
          · exact ⟨fun c hc => by rw [fd_up_ne hc, fd_up_ne hc, fd_up_ne hc], fun k hk => by rw [fd_up_at, if_neg (by omega), fd_up_at, if_neg (by omega), fd_up_at, if_neg (by omega)]⟩
        · refine fd_e_blk 1 (C := fd_c130) (b := true) (L' := [fd_R 13, fd_I 0]) (st' := [fd_I 4, fd_R 13]) (M' := (fd_up (fd_up M 13 5 v) 13 2 ((p : Nat) : Int))) rfl rfl (j := 65) rfl (rfl) ?_
          refine fd_e_jmp (C := fd_c130) (j := 67) (st' := [fd_I 4, fd_R 13]) rfl rfl (b := true) rfl rfl ?_
          refine fd_e_blk 1 (C := fd_c130) (b := true) (L' := [fd_R 13, fd_I 0]) (st' := []) (M' := (fd_up (fd_up (fd_up M 13 5 v) 13 2 ((p : Nat) : Int)) 13 4 4)) rfl rfl (j := 68) rfl (rfl) ?_
          refine fd_e_ret (C := fd_c130) (b := true) (r' := none) rfl rfl rfl (rfl) ?_
          have e0 : tk_nu (M 2) (n + 1) p v = (p, v) := tk_nu_off h15
          refine ⟨rfl, ?_, ?_, rfl, ?_, ?_⟩
          · rw [e0]; rfl
          · rw [e0]; rfl
          · rw [e0]
            show (4 : Int) = _
            first | (rw [if_pos (by omega)]; done) | (rw [if_neg (by omega)]; done)
          · exact ⟨fun c hc => by rw [fd_up_ne hc, fd_up_ne hc, fd_up_ne hc], fun k hk => by rw [fd_up_at, if_neg (by omega), fd_up_at, if_neg (by omega), fd_up_at, if_neg (by omega)]⟩
      · refine fd_e_blk 6 (C := fd_c130) (b := true) (L' := [fd_R 13, u]) (st' := [fd_I 1, fd_I (((p : Nat) : Int) - (M 13 3))]) (M' := (fd_up (fd_up M 13 5 v) 13 2 ((p : Nat) : Int))) rfl rfl (j := 52) rfl (rfl) ?_
        refine fd_e_br (C := fd_c130) (t := 55) (e := 53) (st' := []) (c := (((p : Nat) : Int) - (M 13 3)) ≤ 1) (b := (fd_rng (((p : Nat) : Int) - (M 13 3)) && fd_rng 1)) rfl rfl rfl (fd_bA (fd_bR (by omega) (by omega)) (fd_bR (by omega) (by omega))) (fun h52 => ?_) (fun h52 => ?_)
        · refine fd_e_blk 4 (C := fd_c130) (b := true) (L' := [fd_R 13, fd_I 0]) (st' := [fd_I 0, fd_R 13]) (M' := (fd_up (fd_up M 13 5 v) 13 2 ((p : Nat) : Int))) rfl rfl (j := 59) rfl (rfl) ?_
          refine fd_e_br (C := fd_c130) (t := 64) (e := 60) (st' := [fd_R 13]) (c := ¬ 0 = 0) (b := (fd_rng 0)) rfl rfl rfl (fd_bR (by omega) (by omega)) (fun h59 => absurd h59 (by omega)) (fun h59 => ?_)
          refine fd_e_blk 3 (C := fd_c130) (b := true) (L' := [fd_R 13, fd_I 0]) (st' := [fd_I 99, fd_I v, fd_R 13]) (M' := (fd_up (fd_up M 13 5 v) 13 2 ((p : Nat) : Int))) rfl rfl (j := 63) rfl (rfl) ?_
          refine fd_e_br (C := fd_c130) (t := 66) (e := 64) (st' := [fd_R 13]) (c := v ≤ 99) (b := (fd_rng v && fd_rng 99)) rfl rfl rfl (fd_bA (fd_bR (by omega) (by omega)) (fd_bR (by omega) (by omega))) (fun h63 => ?_) (fun h63 => ?_)
          · refine fd_e_blk 2 (C := fd_c130) (b := true) (L' := [fd_R 13, fd_I 0]) (st' := []) (M' := (fd_up (fd_up (fd_up M 13 5 v) 13 2 ((p : Nat) : Int)) 13 4 2)) rfl rfl (j := 68) rfl (rfl) ?_
            refine fd_e_ret (C := fd_c130) (b := true) (r' := none) rfl rfl rfl (rfl) ?_
            have e0 : tk_nu (M 2) (n + 1) p v = (p, v) := tk_nu_off h15
            refine ⟨rfl, ?_, ?_, rfl, ?_, ?_⟩
            · rw [e0]; rfl
            · rw [e0]; rfl
            · rw [e0]
              show (2 : Int) = _
              first | (rw [if_pos (by omega)]; done) | (rw [if_neg (by omega)]; done)
            · exact ⟨fun c hc => by rw [fd_up_ne hc, fd_up_ne hc, fd_up_ne hc], fun k hk => by rw [fd_up_at, if_neg (by omega), fd_up_at, if_neg (by omega), fd_up_at, if_neg (by omega)]⟩
          · refine fd_e_blk 1 (C := fd_c130) (b := true) (L' := [fd_R 13, fd_I 0]) (st' := [fd_I 4, fd_R 13]) (M' := (fd_up (fd_up M 13 5 v) 13 2 ((p : Nat) : Int))) rfl rfl (j := 65) rfl (rfl) ?_
            refine fd_e_jmp (C := fd_c130) (j := 67) (st' := [fd_I 4, fd_R 13]) rfl rfl (b := true) rfl rfl ?_
            refine fd_e_blk 1 (C := fd_c130) (b := true) (L' := [fd_R 13, fd_I 0]) (st' := []) (M' := (fd_up (fd_up (fd_up M 13 5 v) 13 2 ((p : Nat) : Int)) 13 4 4)) rfl rfl (j := 68) rfl (rfl) ?_
            refine fd_e_ret (C := fd_c130) (b := true) (r' := none) rfl rfl rfl (rfl) ?_
            have e0 : tk_nu (M 2) (n + 1) p v = (p, v) := tk_nu_off h15
            refine ⟨rfl, ?_, ?_, rfl, ?_, ?_⟩
            · rw [e0]; rfl
            · rw [e0]; rfl
            · rw [e0]
              show (4 : Int) = _
              first | (rw [if_pos (by omega)]; done) | (rw [if_neg (by omega)]; done)
            · exact ⟨fun c hc => by rw [fd_up_ne hc, fd_up_ne hc, fd_up_ne hc], fun k hk => by rw [fd_up_at, if_neg (by omega), fd_up_at, if_neg (by omega), fd_up_at, if_neg (by omega)]⟩
        · refine fd_e_blk 1 (C := fd_c130) (b := true) (L' := [fd_R 13, u]) (st' := [fd_I 1]) (M' := (fd_up (fd_up M 13 5 v) 13 2 ((p : Nat) : Int))) rfl rfl (j := 54) rfl (rfl) ?_
          refine fd_e_jmp (C := fd_c130) (j := 56) (st' := [fd_I 1]) rfl rfl (b := true) rfl rfl ?_
          refine fd_e_blk 3 (C := fd_c130) (b := true) (L' := [fd_R 13, fd_I 1]) (st' := [fd_I 1, fd_R 13]) (M' := (fd_up (fd_up M 13 5 v) 13 2 ((p : Nat) : Int))) rfl rfl (j := 59) rfl (rfl) ?_
          refine fd_e_br (C := fd_c130) (t := 64) (e := 60) (st' := [fd_R 13]) (c := ¬ 1 = 0) (b := (fd_rng 1)) rfl rfl rfl (fd_bR (by omega) (by omega)) (fun h59 => ?_) (fun h59 => absurd h59 (by omega))
          refine fd_e_blk 1 (C := fd_c130) (b := true) (L' := [fd_R 13, fd_I 1]) (st' := [fd_I 4, fd_R 13]) (M' := (fd_up (fd_up M 13 5 v) 13 2 ((p : Nat) : Int))) rfl rfl (j := 65) rfl (rfl) ?_
          refine fd_e_jmp (C := fd_c130) (j := 67) (st' := [fd_I 4, fd_R 13]) rfl rfl (b := true) rfl rfl ?_
          refine fd_e_blk 1 (C := fd_c130) (b := true) (L' := [fd_R 13, fd_I 1]) (st' := []) (M' := (fd_up (fd_up (fd_up M 13 5 v) 13 2 ((p : Nat) : Int)) 13 4 4)) rfl rfl (j := 68) rfl (rfl) ?_
          refine fd_e_ret (C := fd_c130) (b := true) (r' := none) rfl rfl rfl (rfl) ?_
          have e0 : tk_nu (M 2) (n + 1) p v = (p, v) := tk_nu_off h15
          refine ⟨rfl, ?_, ?_, rfl, ?_, ?_⟩
          · rw [e0]; rfl
          · rw [e0]; rfl
          · rw [e0]
            show (4 : Int) = _
            first | (rw [if_pos (by omega)]; done) | (rw [if_neg (by omega)]; done)
          · exact ⟨fun c hc => by rw [fd_up_ne hc, fd_up_ne hc, fd_up_ne hc], fun k hk => by rw [fd_up_at, if_neg (by omega), fd_up_at, if_neg (by omega), fd_up_at, if_neg (by omega)]⟩
    · have h15 := fd_biT.mp h15
      refine fd_e_blk 10 (C := fd_c130) (b := true) (L' := [fd_R 13, u]) (st' := [fd_I ((p : Nat) : Int), fd_R 1, fd_I (v * 10), fd_I 100, fd_R 13]) (M' := (fd_up (fd_up M 13 5 v) 13 2 ((p : Nat) : Int))) rfl rfl (j := 26) rfl (rfl) ?_
      refine fd_e_call (C := fd_c130) (d0 := 0) (mid := 165) (np := 2) (args := [fd_R 1, fd_I ((p : Nat) : Int)]) (r1 := some (fd_I (M 2 p))) (M1 := (fd_up (fd_up M 13 5 v) 13 2 ((p : Nat) : Int))) (st' := [fd_I (M 2 p), fd_I (v * 10), fd_I 100, fd_R 13]) rfl rfl rfl rfl rfl rfl (rfl) (fd_q_byte (N := (fd_up (fd_up M 13 5 v) 13 2 ((p : Nat) : Int))) hX rfl rfl p (by omega)) rfl (by omega) ?_
      have xb51 := hX.2 p
      refine fd_e_blk 11 (C := fd_c130) (b := ((fd_rng 100 && (fd_rng (((v * 10) + (M 2 p)) - 48) && true)) && true)) (L' := [fd_R 13, u]) (st' := []) (M' := (fd_up (fd_up (fd_up (fd_up M 13 5 v) 13 2 ((p : Nat) : Int)) 13 5 (if (((v * 10) + (M 2 p)) - 48) < 100 then (((v * 10) + (M 2 p)) - 48) else 100)) 13 2 (((p + 1) : Nat) : Int))) rfl rfl (j := 38) rfl (fd_bA (fd_bA (fd_bR (by omega) (by omega)) (fd_bA (fd_bR (by omega) (by omega)) rfl)) (rfl)) ?_
      refine fd_e_jmp (C := fd_c130) (j := 3) (st' := []) rfl rfl (b := true) rfl rfl ?_
      rw [fd_up_comm (k := 2) (j := 5) (by decide), fd_up_up, fd_up_up]
      have zi := ih (p + 1) (if v * 10 + M 2 p - 48 < 100 then v * 10 + M 2 p - 48 else 100) u (by omega) (by omega) (by split <;> omega)
      rw [← tk_nu_on h15] at zi
      exact zi


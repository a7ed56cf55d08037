/-! the reference: where a cart brings most -/
def fd_tg (T : fd_M) (x y : Nat) : fd_M := fd_up T 208 (21 + y) (fd_xor (T 208 (21 + y)) (2 ^ x))
theorem fd_xx7 : ∀ n : Fin 128, ∀ k : Fin 7, fd_xor (fd_xor (n.val : Int) (2 ^ k.val)) (2 ^ k.val) = (n.val : Int) := by decide +kernel
theorem fd_xorxor {a : Int} (h : 0 ≤ a ∧ a < 128) {k : Nat} (hk : k < 7) : fd_xor (fd_xor a (2 ^ k)) (2 ^ k) = a := by
  obtain ⟨n, rfl⟩ := Int.eq_ofNat_of_zero_le h.1
  exact fd_xx7 ⟨n, by omega⟩ ⟨k, hk⟩
theorem fd_tg_at (T : fd_M) (x y : Nat) : fd_tg T x y 208 (21 + y) = fd_xor (T 208 (21 + y)) (2 ^ x) := by
  unfold fd_tg
  rw [fd_up_at, if_pos rfl]
theorem fd_tg_tg {T : fd_M} (hS : fd_RS T) {x y : Nat} (hx : x < 7) (hy : y < 7) : fd_up (fd_tg T x y) 208 (21 + y) (fd_xor (fd_tg T x y 208 (21 + y)) (2 ^ x)) = T := by
  rw [fd_tg_at, fd_xorxor (hS.2.1 y hy) hx]
  unfold fd_tg
  rw [fd_up_up, fd_up_self]
theorem fd_RP_tg {T : fd_M} (h : fd_RP T) (x y : Nat) : fd_RP (fd_tg T x y) := fd_RP_up h _ _
theorem fd_RS_tg {T : fd_M} (hP : fd_RP T) (h : fd_RS T) {x y : Nat} (hx : x < 7) (hy : y < 7) : fd_RS (fd_tg T x y) := by
  refine fd_RS_up h ?_ hP.2.2.1.2
  have := fd_xor_rng7 (h.2.1 y hy) hx
  omega
theorem fd_RW_tg {T : fd_M} (h : fd_RW T) (x y : Nat) : fd_RW (fd_tg T x y) := by
  unfold fd_RW fd_tg at *
  rw [fd_up_ne (c' := 204) (by decide), fd_up_ne (c' := 210) (by decide), fd_up_ne (c' := 199) (by decide)]
  exact h
def fd_vc (T : fd_M) (y x : Nat) : Int := fd_sum (fd_dR (fd_tg T x y)) (T 204 0).toNat
theorem fd_vc_rng {T : fd_M} (hP : fd_RP T) (y x : Nat) : 0 ≤ fd_vc T y x ∧ fd_vc T y x ≤ 108 := by
  have g := hP.2.2.1
  have a := fd_sumR (f := fd_dR (fd_tg T x y)) (B := 18) (T 204 0).toNat (fun j _ => fd_due_rng (fd_RP_tg hP x y).2.2.2.1 _ _)
  unfold fd_vc
  omega
def fd_cst (p : Nat → Nat → Bool) (g : Nat → Nat → Int) (y x : Nat) (s : Int × Int) : Int × Int := if p y x = true then (if g y x < s.2 then (10 * (y : Int) + (x : Int), g y x) else s) else s
def fd_ccx (p : Nat → Nat → Bool) (g : Nat → Nat → Int) (y : Nat) : Nat → Nat → Int × Int → Int × Int
  | 0, _, s => s
  | n + 1, x, s => fd_ccx p g y n (x + 1) (fd_cst p g y x s)
def fd_ccy (p : Nat → Nat → Bool) (g : Nat → Nat → Int) (W : Nat) : Nat → Nat → Int × Int → Int × Int
  | 0, _, s => s
  | n + 1, y, s => fd_ccy p g W n (y + 1) (fd_ccx p g y W 0 s)
def fd_vp (T : fd_M) (y x : Nat) : Bool := decide (fd_cvR T (x : Int) (y : Int) = 0)
theorem fd_ccx_rng {p : Nat → Nat → Bool} {g : Nat → Nat → Int} (hg : ∀ y x, 0 ≤ g y x ∧ g y x ≤ 108) (y : Nat) : ∀ (n x : Nat) (s : Int × Int), 0 ≤ s.2 ∧ s.2 ≤ 108 → 0 ≤ (fd_ccx p g y n x s).2 ∧ (fd_ccx p g y n x s).2 ≤ 108
  | 0, _, s, h => h
  | n + 1, x, s, h => by
    show 0 ≤ (fd_ccx p g y n (x + 1) (fd_cst p g y x s)).2 ∧ _
    refine fd_ccx_rng hg y n (x + 1) _ ?_
    have := hg y x
    unfold fd_cst
    split
    · split
      · dsimp only; omega
      · exact h
    · exact h
theorem fd_l_ccx (T : fd_M) (hP : fd_RP T) (hS : fd_RS T) (hW : fd_RW T) (y : Nat) (hy : (y : Int) < T 202 0) (s' : Int × Int) (r : Int) (cont : ∀ u v, fd_run 7 98 7 [fd_R 199, fd_I s'.1, fd_I s'.2, fd_I ((y + 1 : Nat) : Int), u, v] [] T (some (fd_I r)) T) : ∀ (n : Nat) (x : Nat) (s : Int × Int) (v : fd_V) (hb : (x : Int) + n = T 201 0) (hf : 0 ≤ s.2 ∧ s.2 ≤ 108) (he : fd_ccx (fd_vp T) (fd_vc T) y n x s = s'), fd_run 7 98 15 [fd_R 199, fd_I s.1, fd_I s.2, fd_I ((y : Nat) : Int), fd_I ((x : Nat) : Int), v] [] T (some (fd_I r)) T := by
  obtain ⟨g0, g1, g2, g3, g4, g5⟩ := id hP
  intro n
  induction n with
  | zero =>
    intro x s v hb hf he
    have hB : ∀ (q0 : Int) (q1 : Int), fd_bl 5 (List.drop 15 fd_c98) [fd_R 199, fd_I s.1, fd_I s.2, fd_I q0, fd_I q1, v] [] T = some (true, [fd_R 199, fd_I s.1, fd_I s.2, fd_I q0, fd_I q1, v], [fd_I (T 201 0), fd_I q1], T) := fun _ _ => rfl
    refine fd_u_blk 5 (C := fd_c98) (b := true) (L' := [fd_R 199, fd_I s.1, fd_I s.2, fd_I ((y : Nat) : Int), fd_I ((x : Nat) : Int), v]) (st' := [fd_I (T 201 0), fd_I ((x : Nat) : Int)]) (M' := T) rfl (hB ((y : Nat) : Int) ((x : Nat) : Int)) (j := 20) rfl (rfl) ?_
    clear hB
    refine fd_u_br (C := fd_c98) (t := 66) (e := 21) (st' := []) (c := (T 201 0) ≤ ((x : Nat) : Int)) (b := (fd_rng ((x : Nat) : Int) && fd_rng (T 201 0))) rfl rfl rfl (fd_bA (fd_bR (by omega) (by omega)) (fd_bR (by omega) (by omega))) (fun h20 => ?_) (fun h20 => absurd h20 (by omega))
    have hB : ∀ (q0 : Int) (q1 : Int), fd_bl 1 (List.drop 66 fd_c98) [fd_R 199, fd_I s.1, fd_I s.2, fd_I q0, fd_I q1, v] [] T = some (true, [fd_R 199, fd_I s.1, fd_I s.2, fd_I (q0 + 1), fd_I q1, v], [], T) := fun _ _ => rfl
    refine fd_u_blk 1 (C := fd_c98) (b := true) (L' := [fd_R 199, fd_I s.1, fd_I s.2, fd_I (((y + 1) : Nat) : Int), fd_I ((x : Nat) : Int), v]) (st' := []) (M' := T) rfl (hB ((y : Nat) : Int) ((x : Nat) : Int)) (j := 67) rfl (rfl) ?_
    clear hB
    refine fd_u_jmp (C := fd_c98) (j := 7) (st' := []) rfl rfl (b := true) rfl rfl ?_
    have e0 : s = s' := he
    rw [e0]
    exact cont _ _
  | succ n ih =>
    intro x s v hb hf he
    have hB : ∀ (q0 : Int) (q1 : Int), fd_bl 5 (List.drop 15 fd_c98) [fd_R 199, fd_I s.1, fd_I s.2, fd_I q0, fd_I q1, v] [] T = some (true, [fd_R 199, fd_I s.1, fd_I s.2, fd_I q0, fd_I q1, v], [fd_I (T 201 0), fd_I q1], T) := fun _ _ => rfl
    refine fd_u_blk 5 (C := fd_c98) (b := true) (L' := [fd_R 199, fd_I s.1, fd_I s.2, fd_I ((y : Nat) : Int), fd_I ((x : Nat) : Int), v]) (st' := [fd_I (T 201 0), fd_I ((x : Nat) : Int)]) (M' := T) rfl (hB ((y : Nat) : Int) ((x : Nat) : Int)) (j := 20) rfl (rfl) ?_
    clear hB
    refine fd_u_br (C := fd_c98) (t := 66) (e := 21) (st' := []) (c := (T 201 0) ≤ ((x : Nat) : Int)) (b := (fd_rng ((x : Nat) : Int) && fd_rng (T 201 0))) rfl rfl rfl (fd_bA (fd_bR (by omega) (by omega)) (fd_bR (by omega) (by omega))) (fun h20 => absurd h20 (by omega)) (fun h20 => ?_)
    have hB : ∀ (q0 : Int) (q1 : Int), fd_bl 3 (List.drop 21 fd_c98) [fd_R 199, fd_I s.1, fd_I s.2, fd_I q0, fd_I q1, v] [] T = some (true, [fd_R 199, fd_I s.1, fd_I s.2, fd_I q0, fd_I q1, v], [fd_I q0, fd_I q1, fd_R 199], T) := fun _ _ => rfl
    refine fd_u_blk 3 (C := fd_c98) (b := true) (L' := [fd_R 199, fd_I s.1, fd_I s.2, fd_I ((y : Nat) : Int), fd_I ((x : Nat) : Int), v]) (st' := [fd_I ((y : Nat) : Int), fd_I ((x : Nat) : Int), fd_R 199]) (M' := T) rfl (hB ((y : Nat) : Int) ((x : Nat) : Int)) (j := 24) rfl (rfl) ?_
    clear hB
    refine fd_u_call (C := fd_c98) (d0 := 2) (mid := 70) (np := 3) (args := [fd_R 199, fd_I ((x : Nat) : Int), fd_I ((y : Nat) : Int)]) (r1 := some (fd_I (fd_cvR T ((x : Nat) : Int) ((y : Nat) : Int)))) (M1 := T) (st' := [fd_I (fd_cvR T ((x : Nat) : Int) ((y : Nat) : Int))]) rfl rfl rfl rfl rfl rfl (rfl) (fd_r_cell T hP hS ((x : Nat) : Int) ((y : Nat) : Int) (by omega) (by omega)) rfl (by omega) ?_
    have qc := fd_cvR_rng hP ((x : Nat) : Int) ((y : Nat) : Int)
    refine fd_u_br (C := fd_c98) (t := 64) (e := 26) (st' := []) (c := ¬ (fd_cvR T ((x : Nat) : Int) ((y : Nat) : Int)) = 0) (b := (fd_rng (fd_cvR T ((x : Nat) : Int) ((y : Nat) : Int)))) rfl rfl rfl (fd_bR (by omega) (by omega)) (fun h25 => ?_) (fun h25 => ?_)
    · have hB : ∀ (q0 : Int) (q1 : Int), fd_bl 1 (List.drop 64 fd_c98) [fd_R 199, fd_I s.1, fd_I s.2, fd_I q0, fd_I q1, v] [] T = some (true, [fd_R 199, fd_I s.1, fd_I s.2, fd_I q0, fd_I (q1 + 1), v], [], T) := fun _ _ => rfl
      refine fd_u_blk 1 (C := fd_c98) (b := true) (L' := [fd_R 199, fd_I s.1, fd_I s.2, fd_I ((y : Nat) : Int), fd_I (((x + 1) : Nat) : Int), v]) (st' := []) (M' := T) rfl (hB ((y : Nat) : Int) ((x : Nat) : Int)) (j := 65) rfl (rfl) ?_
      clear hB
      refine fd_u_jmp (C := fd_c98) (j := 15) (st' := []) rfl rfl (b := true) rfl rfl ?_
      have e5 : fd_cst (fd_vp T) (fd_vc T) y x s = s := by
        unfold fd_cst
        first | (rw [if_neg (show ¬ fd_vp T y x = true from fun z => by have z2 := of_decide_eq_true z; omega)]; done) | (rw [if_pos (show fd_vp T y x = true from decide_eq_true (by omega)), if_neg (by omega)]; done)
      refine ih (x + 1) s _ (by omega) hf ?_
      have he2 := he
      unfold fd_ccx at he2
      rw [e5] at he2
      exact he2
    · have hB : ∀ (q0 : Int) (q1 : Int), fd_bl 7 (List.drop 26 fd_c98) [fd_R 199, fd_I s.1, fd_I s.2, fd_I q0, fd_I q1, v] [] T = some ((fd_isA true T 208 20 (21 + q0) && true), [fd_R 199, fd_I s.1, fd_I s.2, fd_I q0, fd_I q1, v], [fd_I (T 208 (21 + q0).toNat), fd_I (21 + q0), fd_R 208], T) := fun _ _ => rfl
      refine fd_u_blk 7 (C := fd_c98) (b := (fd_isA true T 208 20 (21 + ((y : Nat) : Int)) && true)) (L' := [fd_R 199, fd_I s.1, fd_I s.2, fd_I ((y : Nat) : Int), fd_I ((x : Nat) : Int), v]) (st' := [fd_I (T 208 (21 + ((y : Nat) : Int)).toNat), fd_I (21 + ((y : Nat) : Int)), fd_R 208]) (M' := T) rfl (hB ((y : Nat) : Int) ((x : Nat) : Int)) (j := 33) rfl (fd_bA (fd_iA fd_sh208 (by omega) (by omega)) (rfl)) ?_
      clear hB
      rw [show (21 + ((y : Nat) : Int)).toNat = 21 + y by omega]
      have hB : ∀ (q0 : Int) (q1 : Int) (q2 : Int), fd_bl 5 (List.drop 33 fd_c98) [fd_R 199, fd_I s.1, fd_I s.2, fd_I q0, fd_I q1, v] [fd_I (T 208 (21 + y)), fd_I q2, fd_R 208] T = some ((fd_inb q1 32 && (fd_isA true T 208 20 q2 && true)), [fd_R 199, fd_I s.1, fd_I s.2, fd_I q0, fd_I q1, v], [], (fd_up T 208 (q2).toNat (fd_xor (T 208 (21 + y)) (2 ^ (q1).toNat)))) := fun _ _ _ => rfl
      refine fd_u_blk 5 (C := fd_c98) (b := (fd_inb ((x : Nat) : Int) 32 && (fd_isA true T 208 20 (21 + ((y : Nat) : Int)) && true))) (L' := [fd_R 199, fd_I s.1, fd_I s.2, fd_I ((y : Nat) : Int), fd_I ((x : Nat) : Int), v]) (st' := []) (M' := (fd_up T 208 (21 + ((y : Nat) : Int)).toNat (fd_xor (T 208 (21 + y)) (2 ^ x)))) rfl (hB ((y : Nat) : Int) ((x : Nat) : Int) (21 + ((y : Nat) : Int))) (j := 38) rfl (fd_bA (fd_bI (by omega) (by omega)) (fd_bA (fd_iA fd_sh208 (by omega) (by omega)) (rfl))) ?_
      clear hB
      rw [show (21 + ((y : Nat) : Int)).toNat = 21 + y by omega]
      show fd_run _ _ _ _ _ (fd_tg T x y) _ _
      have hB : ∀ (q0 : Int) (q1 : Int), fd_bl 1 (List.drop 38 fd_c98) [fd_R 199, fd_I s.1, fd_I s.2, fd_I q0, fd_I q1, v] [] (fd_tg T x y) = some (true, [fd_R 199, fd_I s.1, fd_I s.2, fd_I q0, fd_I q1, v], [fd_R 199], (fd_tg T x y)) := fun _ _ => rfl
      refine fd_u_blk 1 (C := fd_c98) (b := true) (L' := [fd_R 199, fd_I s.1, fd_I s.2, fd_I ((y : Nat) : Int), fd_I ((x : Nat) : Int), v]) (st' := [fd_R 199]) (M' := (fd_tg T x y)) rfl (hB ((y : Nat) : Int) ((x : Nat) : Int)) (j := 39) rfl (rfl) ?_
      clear hB
      refine fd_u_call (C := fd_c98) (d0 := 5) (mid := 77) (np := 1) (args := [fd_R 199]) (r1 := some (fd_I (fd_vc T y x))) (M1 := (fd_tg T x y)) (st' := [fd_I (fd_vc T y x)]) rfl rfl rfl rfl rfl rfl (rfl) (fd_r_dues (fd_tg T x y) (fd_RP_tg hP x y) (fd_RS_tg hP hS (by omega) (by omega)) (fd_RW_tg hW x y)) rfl (by omega) ?_
      have qv := fd_vc_rng hP y x
      have hB : ∀ (q0 : Int) (q1 : Int), fd_bl 8 (List.drop 40 fd_c98) [fd_R 199, fd_I s.1, fd_I s.2, fd_I q0, fd_I q1, v] [fd_I (fd_vc T y x)] (fd_tg T x y) = some ((fd_isA true (fd_tg T x y) 208 20 (21 + q0) && true), [fd_R 199, fd_I s.1, fd_I s.2, fd_I q0, fd_I q1, fd_I (fd_vc T y x)], [fd_I ((fd_tg T x y) 208 (21 + q0).toNat), fd_I (21 + q0), fd_R 208], (fd_tg T x y)) := fun _ _ => rfl
      refine fd_u_blk 8 (C := fd_c98) (b := (fd_isA true (fd_tg T x y) 208 20 (21 + ((y : Nat) : Int)) && true)) (L' := [fd_R 199, fd_I s.1, fd_I s.2, fd_I ((y : Nat) : Int), fd_I ((x : Nat) : Int), fd_I (fd_vc T y x)]) (st' := [fd_I ((fd_tg T x y) 208 (21 + ((y : Nat) : Int)).toNat), fd_I (21 + ((y : Nat) : Int)), fd_R 208]) (M' := (fd_tg T x y)) rfl (hB ((y : Nat) : Int) ((x : Nat) : Int)) (j := 48) rfl (fd_bA (fd_iA fd_sh208 (by omega) (by omega)) (rfl)) ?_
      clear hB
      rw [show (21 + ((y : Nat) : Int)).toNat = 21 + y by omega]
      have hB : ∀ (q0 : Int) (q1 : Int) (q2 : Int), fd_bl 5 (List.drop 48 fd_c98) [fd_R 199, fd_I s.1, fd_I s.2, fd_I q0, fd_I q1, fd_I (fd_vc T y x)] [fd_I ((fd_tg T x y) 208 (21 + y)), fd_I q2, fd_R 208] (fd_tg T x y) = some ((fd_inb q1 32 && (fd_isA true (fd_tg T x y) 208 20 q2 && true)), [fd_R 199, fd_I s.1, fd_I s.2, fd_I q0, fd_I q1, fd_I (fd_vc T y x)], [], (fd_up (fd_tg T x y) 208 (q2).toNat (fd_xor ((fd_tg T x y) 208 (21 + y)) (2 ^ (q1).toNat)))) := fun _ _ _ => rfl
      refine fd_u_blk 5 (C := fd_c98) (b := (fd_inb ((x : Nat) : Int) 32 && (fd_isA true (fd_tg T x y) 208 20 (21 + ((y : Nat) : Int)) && true))) (L' := [fd_R 199, fd_I s.1, fd_I s.2, fd_I ((y : Nat) : Int), fd_I ((x : Nat) : Int), fd_I (fd_vc T y x)]) (st' := []) (M' := (fd_up (fd_tg T x y) 208 (21 + ((y : Nat) : Int)).toNat (fd_xor ((fd_tg T x y) 208 (21 + y)) (2 ^ x)))) rfl (hB ((y : Nat) : Int) ((x : Nat) : Int) (21 + ((y : Nat) : Int))) (j := 53) rfl (fd_bA (fd_bI (by omega) (by omega)) (fd_bA (fd_iA fd_sh208 (by omega) (by omega)) (rfl))) ?_
      clear hB
      rw [show (21 + ((y : Nat) : Int)).toNat = 21 + y by omega]
      rw [fd_tg_tg hS (by omega) (by omega)]
      have hB : ∀ (q0 : Int) (q1 : Int), fd_bl 2 (List.drop 53 fd_c98) [fd_R 199, fd_I s.1, fd_I s.2, fd_I q0, fd_I q1, fd_I (fd_vc T y x)] [] T = some (true, [fd_R 199, fd_I s.1, fd_I s.2, fd_I q0, fd_I q1, fd_I (fd_vc T y x)], [fd_I s.2, fd_I (fd_vc T y x)], T) := fun _ _ => rfl
      refine fd_u_blk 2 (C := fd_c98) (b := true) (L' := [fd_R 199, fd_I s.1, fd_I s.2, fd_I ((y : Nat) : Int), fd_I ((x : Nat) : Int), fd_I (fd_vc T y x)]) (st' := [fd_I s.2, fd_I (fd_vc T y x)]) (M' := T) rfl (hB ((y : Nat) : Int) ((x : Nat) : Int)) (j := 55) rfl (rfl) ?_
      clear hB
      refine fd_u_br (C := fd_c98) (t := 64) (e := 56) (st' := []) (c := s.2 ≤ (fd_vc T y x)) (b := (fd_rng (fd_vc T y x) && fd_rng s.2)) rfl rfl rfl (fd_bA (fd_bR (by omega) (by omega)) (fd_bR (by omega) (by omega))) (fun h55 => ?_) (fun h55 => ?_)
      · have hB : ∀ (q0 : Int) (q1 : Int), fd_bl 1 (List.drop 64 fd_c98) [fd_R 199, fd_I s.1, fd_I s.2, fd_I q0, fd_I q1, fd_I (fd_vc T y x)] [] T = some (true, [fd_R 199, fd_I s.1, fd_I s.2, fd_I q0, fd_I (q1 + 1), fd_I (fd_vc T y x)], [], T) := fun _ _ => rfl
        refine fd_u_blk 1 (C := fd_c98) (b := true) (L' := [fd_R 199, fd_I s.1, fd_I s.2, fd_I ((y : Nat) : Int), fd_I (((x + 1) : Nat) : Int), fd_I (fd_vc T y x)]) (st' := []) (M' := T) rfl (hB ((y : Nat) : Int) ((x : Nat) : Int)) (j := 65) rfl (rfl) ?_
        clear hB
        refine fd_u_jmp (C := fd_c98) (j := 15) (st' := []) rfl rfl (b := true) rfl rfl ?_
        have e5 : fd_cst (fd_vp T) (fd_vc T) y x s = s := by
          unfold fd_cst
          first | (rw [if_neg (show ¬ fd_vp T y x = true from fun z => by have z2 := of_decide_eq_true z; omega)]; done) | (rw [if_pos (show fd_vp T y x = true from decide_eq_true (by omega)), if_neg (by omega)]; done)
        refine ih (x + 1) s _ (by omega) hf ?_
        have he2 := he
        unfold fd_ccx at he2
        rw [e5] at he2
        exact he2
      · have hB : ∀ (q0 : Int) (q1 : Int), fd_bl 9 (List.drop 56 fd_c98) [fd_R 199, fd_I s.1, fd_I s.2, fd_I q0, fd_I q1, fd_I (fd_vc T y x)] [] T = some (true, [fd_R 199, fd_I ((10 * q0) + q1), fd_I (fd_vc T y x), fd_I q0, fd_I (q1 + 1), fd_I (fd_vc T y x)], [], T) := fun _ _ => rfl
        refine fd_u_blk 9 (C := fd_c98) (b := true) (L' := [fd_R 199, fd_I ((10 * ((y : Nat) : Int)) + ((x : Nat) : Int)), fd_I (fd_vc T y x), fd_I ((y : Nat) : Int), fd_I (((x + 1) : Nat) : Int), fd_I (fd_vc T y x)]) (st' := []) (M' := T) rfl (hB ((y : Nat) : Int) ((x : Nat) : Int)) (j := 65) rfl (rfl) ?_
        clear hB
        refine fd_u_jmp (C := fd_c98) (j := 15) (st' := []) rfl rfl (b := true) rfl rfl ?_
        have e5 : fd_cst (fd_vp T) (fd_vc T) y x s = (((10 * ((y : Nat) : Int)) + ((x : Nat) : Int)), (fd_vc T y x)) := by
          unfold fd_cst
          rw [if_pos (show fd_vp T y x = true from decide_eq_true (by omega)), if_pos (by omega)]
        refine ih (x + 1) (((10 * ((y : Nat) : Int)) + ((x : Nat) : Int)), (fd_vc T y x)) _ (by omega) (by dsimp only; omega) ?_
        rw [← e5]
        exact he

theorem fd_l_ccy (T : fd_M) (hP : fd_RP T) (hS : fd_RS T) (hW : fd_RW T) (s' : Int × Int) (r : Int) (hr : r = s'.1) : ∀ (n : Nat) (y : Nat) (s : Int × Int) (u v : fd_V) (hb : (y : Int) + n = T 202 0) (hf : 0 ≤ s.2 ∧ s.2 ≤ 108) (he : fd_ccy (fd_vp T) (fd_vc T) (T 201 0).toNat n y s = s'), fd_run 7 98 7 [fd_R 199, fd_I s.1, fd_I s.2, fd_I ((y : Nat) : Int), u, v] [] T (some (fd_I r)) T := by
  obtain ⟨g0, g1, g2, g3, g4, g5⟩ := id hP
  intro n
  induction n with
  | zero =>
    intro y s u v hb hf he
    have hB : ∀ (q0 : Int), fd_bl 5 (List.drop 7 fd_c98) [fd_R 199, fd_I s.1, fd_I s.2, fd_I q0, u, v] [] T = some (true, [fd_R 199, fd_I s.1, fd_I s.2, fd_I q0, u, v], [fd_I (T 202 0), fd_I q0], T) := fun _ => rfl
    refine fd_u_blk 5 (C := fd_c98) (b := true) (L' := [fd_R 199, fd_I s.1, fd_I s.2, fd_I ((y : Nat) : Int), u, v]) (st' := [fd_I (T 202 0), fd_I ((y : Nat) : Int)]) (M' := T) rfl (hB ((y : Nat) : Int)) (j := 12) rfl (rfl) ?_
    clear hB
    refine fd_u_br (C := fd_c98) (t := 68) (e := 13) (st' := []) (c := (T 202 0) ≤ ((y : Nat) : Int)) (b := (fd_rng ((y : Nat) : Int) && fd_rng (T 202 0))) rfl rfl rfl (fd_bA (fd_bR (by omega) (by omega)) (fd_bR (by omega) (by omega))) (fun h12 => ?_) (fun h12 => absurd h12 (by omega))
    have hB : ∀ (q0 : Int), fd_bl 1 (List.drop 68 fd_c98) [fd_R 199, fd_I s.1, fd_I s.2, fd_I q0, u, v] [] T = some (true, [fd_R 199, fd_I s.1, fd_I s.2, fd_I q0, u, v], [fd_I s.1], T) := fun _ => rfl
    refine fd_u_blk 1 (C := fd_c98) (b := true) (L' := [fd_R 199, fd_I s.1, fd_I s.2, fd_I ((y : Nat) : Int), u, v]) (st' := [fd_I s.1]) (M' := T) rfl (hB ((y : Nat) : Int)) (j := 69) rfl (rfl) ?_
    clear hB
    refine fd_u_ret (C := fd_c98) (b := true) (r' := some (fd_I s.1)) rfl rfl rfl (rfl) ?_ ?_
    · have e0 : s = s' := he
      rw [hr, ← e0]
    · rfl
  | succ n ih =>
    intro y s u v hb hf he
    have hB : ∀ (q0 : Int), fd_bl 5 (List.drop 7 fd_c98) [fd_R 199, fd_I s.1, fd_I s.2, fd_I q0, u, v] [] T = some (true, [fd_R 199, fd_I s.1, fd_I s.2, fd_I q0, u, v], [fd_I (T 202 0), fd_I q0], T) := fun _ => rfl
    refine fd_u_blk 5 (C := fd_c98) (b := true) (L' := [fd_R 199, fd_I s.1, fd_I s.2, fd_I ((y : Nat) : Int), u, v]) (st' := [fd_I (T 202 0), fd_I ((y : Nat) : Int)]) (M' := T) rfl (hB ((y : Nat) : Int)) (j := 12) rfl (rfl) ?_
    clear hB
    refine fd_u_br (C := fd_c98) (t := 68) (e := 13) (st' := []) (c := (T 202 0) ≤ ((y : Nat) : Int)) (b := (fd_rng ((y : Nat) : Int) && fd_rng (T 202 0))) rfl rfl rfl (fd_bA (fd_bR (by omega) (by omega)) (fd_bR (by omega) (by omega))) (fun h12 => absurd h12 (by omega)) (fun h12 => ?_)
    have hB : ∀ (q0 : Int), fd_bl 2 (List.drop 13 fd_c98) [fd_R 199, fd_I s.1, fd_I s.2, fd_I q0, u, v] [] T = some (true, [fd_R 199, fd_I s.1, fd_I s.2, fd_I q0, fd_I 0, v], [], T) := fun _ => rfl
    refine fd_u_blk 2 (C := fd_c98) (b := true) (L' := [fd_R 199, fd_I s.1, fd_I s.2, fd_I ((y : Nat) : Int), fd_I 0, v]) (st' := []) (M' := T) rfl (hB ((y : Nat) : Int)) (j := 15) rfl (rfl) ?_
    clear hB
    have r9 := fd_ccx_rng (p := fd_vp T) (fd_vc_rng hP) y (T 201 0).toNat 0 s hf
    exact fd_l_ccx T hP hS hW y (by omega) _ r (fun u v => ih (y + 1) _ u v (by omega) r9 he) (T 201 0).toNat 0 s _ (by omega) hf rfl

def fd_A_cartAt (M : fd_M) : Int := (fd_ccy (fd_vp (fd_tak M)) (fd_vc (fd_tak M)) (M 201 0).toNat (M 202 0).toNat 0 (-9, fd_sum (fd_dR (fd_tak M)) (M 204 0).toNat)).1
theorem fd_r_cartAt (M : fd_M) (hP : fd_RP M) (hS : fd_RS M) : fd_call 7 98 [fd_R 199] M (some (fd_I (fd_A_cartAt M))) (fd_tak M) := by
  refine fd_u_in (L := [fd_R 199, fd_R 1003, fd_R 1003, fd_R 1003, fd_R 1003, fd_R 1003]) rfl ?_
  obtain ⟨g0, g1, g2, g3, g4, g5⟩ := id hP
  refine fd_u_blk 3 (C := fd_c98) (b := true) (L' := [fd_R 199, fd_I (-9), fd_R 1003, fd_R 1003, fd_R 1003, fd_R 1003]) (st' := [fd_R 199]) (M' := M) rfl rfl (j := 3) rfl (rfl) ?_
  refine fd_u_call (C := fd_c98) (d0 := 6) (mid := 82) (np := 1) (args := [fd_R 199]) (r1 := some (fd_I (fd_sum (fd_dR (fd_tak M)) (M 204 0).toNat))) (M1 := (fd_tak M)) (st' := [fd_I (fd_sum (fd_dR (fd_tak M)) (M 204 0).toNat)]) rfl rfl rfl rfl rfl rfl (rfl) (fd_r_duesNow M hP hS) rfl (by omega) ?_
  refine fd_u_blk 3 (C := fd_c98) (b := true) (L' := [fd_R 199, fd_I (-9), fd_I (fd_sum (fd_dR (fd_tak M)) (M 204 0).toNat), fd_I 0, fd_R 1003, fd_R 1003]) (st' := []) (M' := (fd_tak M)) rfl rfl (j := 7) rfl (rfl) ?_
  have qs := fd_sumR (f := fd_dR (fd_tak M)) (B := 18) (M 204 0).toNat (fun j _ => fd_due_rng (fd_RP_tak hP).2.2.2.1 _ _)
  have e1 : fd_tak M 201 = M 201 := fd_tak_fr (by decide) (by decide)
  have e2 : fd_tak M 202 = M 202 := fd_tak_fr (by decide) (by decide)
  have z := fd_l_ccy (fd_tak M) (fd_RP_tak hP) (fd_RS_tak hS) (fd_RW_tak hP hS) _ (fd_A_cartAt M) rfl (M 202 0).toNat 0 (-9, fd_sum (fd_dR (fd_tak M)) (M 204 0).toNat) (fd_R 1003) (fd_R 1003) (by rw [e2]; omega) (by dsimp only; omega) (by rw [e1])
  exact z


/-! turn: the class, its answer -/
def fd_eqc (M N : fd_M) : Prop := N 3 = M 3 ∧ N 4 = M 4 ∧ N 14 = M 14 ∧ N 15 = M 15 ∧ N 16 = M 16 ∧ N 17 = M 17 ∧ N 18 = M 18
theorem fd_E_CG {M N : fd_M} (hG : fd_CG M) (e : fd_eqc M N) : fd_CG N := fd_CG_of hG e.1 e.2.1 e.2.2.1 e.2.2.2.1 e.2.2.2.2.1 e.2.2.2.2.2.1 e.2.2.2.2.2.2
theorem fd_E_wouldSee {M N : fd_M} (hG : fd_CG M) (e : fd_eqc M N) (d : Int) (hd : 0 ≤ d ∧ d < 6) (w : Int) (hw : 0 ≤ w ∧ w ≤ 3) : fd_call 4 152 [fd_R 72, fd_I d, fd_I w] N (some (fd_I (fd_nb (fd_wsee M d.toNat w)))) N := by
  have z := fd_s_wouldSeeI N (fd_E_CG hG e) d hd w hw
  rw [fd_wsee_of e.1 e.2.1 e.2.2.1 e.2.2.2.1 e.2.2.2.2.1] at z
  exact z
theorem fd_E_hasWayIn {M N : fd_M} (hG : fd_CG M) (e : fd_eqc M N) (d : Int) (hd : 0 ≤ d ∧ d < 6) (w : Int) (hw : 0 ≤ w ∧ w ≤ 3) : fd_call 4 159 [fd_R 72, fd_I d, fd_I w] N (some (fd_I (fd_bi (fd_vac M d.toNat w)))) N := by
  have z := fd_s_hasWayIn N (fd_E_CG hG e) d hd w hw
  simp only [fd_cvC_of e.1 e.2.1 (by rw [e.2.2.1]) e.2.2.2.1 e.2.2.2.2.1, e.2.2.2.1, e.2.2.2.2.1] at z
  exact z
def fd_flo (M : fd_M) (i : Nat) : fd_M := fun c k => if c = 74 ∧ k < i then fd_nb (fd_wsee M (k / 4) ((k % 4 : Nat) : Int)) else if c = 75 ∧ k < i then fd_bi (fd_vac M (k / 4) ((k % 4 : Nat) : Int)) else M c k
theorem fd_flo_fr {M : fd_M} {i c : Nat} (h1 : c ≠ 74) (h2 : c ≠ 75) : fd_flo M i c = M c := by
  funext k
  unfold fd_flo
  rw [if_neg (fun q => h1 q.1), if_neg (fun q => h2 q.1)]
theorem fd_flo_0 (M : fd_M) : fd_flo M 0 = M := by
  funext c k
  unfold fd_flo
  rw [if_neg (by omega), if_neg (by omega)]
theorem fd_flo_e (M : fd_M) (i : Nat) : fd_eqc M (fd_flo M i) := ⟨fd_flo_fr (by decide) (by decide), fd_flo_fr (by decide) (by decide), fd_flo_fr (by decide) (by decide), fd_flo_fr (by decide) (by decide), fd_flo_fr (by decide) (by decide), fd_flo_fr (by decide) (by decide), fd_flo_fr (by decide) (by decide)⟩
theorem fd_flo_e2 (M : fd_M) (i k : Nat) (v : Int) : fd_eqc M (fd_up (fd_flo M i) 74 k v) := fd_flo_e M i
theorem fd_flo_S (M : fd_M) (d w : Nat) (hw : w < 4) : fd_up (fd_up (fd_flo M (4 * d + w)) 74 ((d : Int) * 4 + (w : Int)).toNat (fd_nb (fd_wsee M d (w : Int)))) 75 ((d : Int) * 4 + (w : Int)).toNat (fd_bi (fd_vac M d (w : Int))) = fd_flo M (4 * d + (w + 1)) := by
  rw [show ((d : Int) * 4 + (w : Int)).toNat = 4 * d + w by omega]
  funext c k
  unfold fd_up fd_flo
  by_cases h : k = 4 * d + w
  · subst h
    have e1 : (4 * d + w) / 4 = d := by omega
    have e2 : (4 * d + w) % 4 = w := by omega
    by_cases h4 : c = 74
    · subst h4
      simp [e1, e2, show 4 * d + w < 4 * d + (w + 1) by omega]
    · by_cases h5 : c = 75
      · subst h5
        simp [e1, e2, show 4 * d + w < 4 * d + (w + 1) by omega]
      · simp [h4, h5]
  · simp only [h, and_false, if_false]
    by_cases h2 : k < 4 * d + w
    · simp [h2, show k < 4 * d + (w + 1) by omega]
    · simp [h2, show ¬ k < 4 * d + (w + 1) by omega]
def fd_tr0 (M : fd_M) : fd_M := fd_up (fd_flo M (4 * (M 3 2).toNat)) 73 7 0
def fd_trn (M : fd_M) : fd_M := fd_cho (M 3 2).toNat 0 0 0 (fd_tr0 M)
theorem fd_tr0_TV {M : fd_M} (hG : fd_CG M) (h76 : ∀ k : Nat, 0 ≤ M 76 k ∧ M 76 k ≤ 3) : fd_TV (fd_tr0 M) := by
  refine ⟨fd_E_CG hG (fd_flo_e M (4 * (M 3 2).toNat)), h76, ?_, Or.inl rfl⟩
  intro k hk
  have hk2 : (k : Int) < 4 * M 3 2 := hk
  have hk3 : k < 4 * (M 3 2).toNat := by omega
  have w := fd_nb_cases (fd_wsee_rng hG (k / 4) ((k % 4 : Nat) : Int))
  have b := fd_bi_rng (fd_vac M (k / 4) ((k % 4 : Nat) : Int))
  have g2 := hG.1.2.2.1
  show (-1 ≤ fd_flo M (4 * (M 3 2).toNat) 74 k ∧ fd_flo M (4 * (M 3 2).toNat) 74 k < M 3 2) ∧ (0 ≤ fd_flo M (4 * (M 3 2).toNat) 75 k ∧ fd_flo M (4 * (M 3 2).toNat) 75 k ≤ 1)
  unfold fd_flo
  rw [if_pos ⟨rfl, hk3⟩, if_neg (by omega), if_pos ⟨rfl, hk3⟩]
  omega
theorem fd_trn_ok {M : fd_M} (hG : fd_CG M) (h76 : ∀ k : Nat, 0 ≤ M 76 k ∧ M 76 k ≤ 3) : fd_call (10 + 2 * (M 3 2).toNat) 171 [fd_R 73, fd_I 0, fd_I 0, fd_I 0] (fd_tr0 M) none (fd_trn M) ∧ fd_TV (fd_trn M) ∧ fd_sam (fd_tr0 M) (fd_trn M) := by
  have g2 := hG.1.2.2.1
  exact fd_cho_ok (M 3 2) g2.2 (M 3 2).toNat 0 (by omega) (fd_tr0 M) 0 0 (fd_tr0_TV hG h76) rfl (by omega) (by omega)
theorem fd_l_run4 (M : fd_M) (hG : fd_CG M) (h76 : ∀ k : Nat, 0 ≤ M 76 k ∧ M 76 k ≤ 3) (d : Nat) (hd : d < 6) (cont : ∀ u, fd_run (11 + 2 * (M 3 2).toNat) 170 2 [fd_R 73, fd_I ((d + 1 : Nat) : Int), u] [] (fd_flo M (4 * (d + 1))) (some (fd_I (fd_trn M 73 7))) (fd_trn M)) : ∀ (n : Nat) (k : Nat) (hk : k + n = 4), fd_run (11 + 2 * (M 3 2).toNat) 170 9 [fd_R 73, fd_I ((d : Nat) : Int), fd_I ((k : Nat) : Int)] [] (fd_flo M (4 * d + k)) (some (fd_I (fd_trn M 73 7))) (fd_trn M) := by
  intro n
  induction n with
  | zero =>
    intro k hk
    refine fd_u_blk 2 (C := fd_c170) (b := true) (L' := [fd_R 73, fd_I ((d : Nat) : Int), fd_I ((k : Nat) : Int)]) (st' := [fd_I 4, fd_I ((k : Nat) : Int)]) (M' := (fd_flo M (4 * d + k))) rfl rfl (j := 11) rfl (rfl) ?_
    refine fd_u_br (C := fd_c170) (t := 40) (e := 12) (st' := []) (c := 4 ≤ ((k : Nat) : Int)) (b := (fd_rng ((k : Nat) : Int) && fd_rng 4)) rfl rfl rfl (fd_bA (fd_bR (by omega) (by omega)) (fd_bR (by omega) (by omega))) (fun h11 => ?_) (fun h11 => absurd h11 (by omega))
    refine fd_u_blk 1 (C := fd_c170) (b := true) (L' := [fd_R 73, fd_I (((d + 1) : Nat) : Int), fd_I ((k : Nat) : Int)]) (st' := []) (M' := (fd_flo M (4 * d + k))) rfl rfl (j := 41) rfl (rfl) ?_
    refine fd_u_jmp (C := fd_c170) (j := 2) (st' := []) rfl rfl (b := true) rfl rfl ?_
    have ek : k = 4 := by omega
    subst ek
    exact cont _
  | succ n ih =>
    intro k hk
    refine fd_u_blk 2 (C := fd_c170) (b := true) (L' := [fd_R 73, fd_I ((d : Nat) : Int), fd_I ((k : Nat) : Int)]) (st' := [fd_I 4, fd_I ((k : Nat) : Int)]) (M' := (fd_flo M (4 * d + k))) rfl rfl (j := 11) rfl (rfl) ?_
    refine fd_u_br (C := fd_c170) (t := 40) (e := 12) (st' := []) (c := 4 ≤ ((k : Nat) : Int)) (b := (fd_rng ((k : Nat) : Int) && fd_rng 4)) rfl rfl rfl (fd_bA (fd_bR (by omega) (by omega)) (fd_bR (by omega) (by omega))) (fun h11 => absurd h11 (by omega)) (fun h11 => ?_)
    refine fd_u_blk 11 (C := fd_c170) (b := true) (L' := [fd_R 73, fd_I ((d : Nat) : Int), fd_I ((k : Nat) : Int)]) (st' := [fd_I ((k : Nat) : Int), fd_I ((d : Nat) : Int), fd_R 72, fd_I ((((d : Nat) : Int) * 4) + ((k : Nat) : Int)), fd_R 74]) (M' := (fd_flo M (4 * d + k))) rfl rfl (j := 23) rfl (rfl) ?_
    refine fd_u_call (C := fd_c170) (d0 := 4) (mid := 152) (np := 3) (args := [fd_R 72, fd_I ((d : Nat) : Int), fd_I ((k : Nat) : Int)]) (r1 := some (fd_I (fd_nb (fd_wsee M d ((k : Nat) : Int))))) (M1 := (fd_flo M (4 * d + k))) (st' := [fd_I (fd_nb (fd_wsee M d ((k : Nat) : Int))), fd_I ((((d : Nat) : Int) * 4) + ((k : Nat) : Int)), fd_R 74]) rfl rfl rfl rfl rfl rfl (rfl) (fd_E_wouldSee hG (fd_flo_e M _) ((d : Nat) : Int) (by omega) ((k : Nat) : Int) (by omega)) rfl (by omega) ?_
    refine fd_u_blk 12 (C := fd_c170) (b := (fd_inb ((((d : Nat) : Int) * 4) + ((k : Nat) : Int)) 24 && true)) (L' := [fd_R 73, fd_I ((d : Nat) : Int), fd_I ((k : Nat) : Int)]) (st' := [fd_I ((k : Nat) : Int), fd_I ((d : Nat) : Int), fd_R 72, fd_I ((((d : Nat) : Int) * 4) + ((k : Nat) : Int)), fd_R 75]) (M' := (fd_up (fd_flo M (4 * d + k)) 74 ((((d : Nat) : Int) * 4) + ((k : Nat) : Int)).toNat (fd_nb (fd_wsee M d ((k : Nat) : Int))))) rfl rfl (j := 36) rfl (fd_bA (fd_bI (by omega) (by omega)) (rfl)) ?_
    refine fd_u_call (C := fd_c170) (d0 := 4) (mid := 159) (np := 3) (args := [fd_R 72, fd_I ((d : Nat) : Int), fd_I ((k : Nat) : Int)]) (r1 := some (fd_I (fd_bi (fd_vac M d ((k : Nat) : Int))))) (M1 := (fd_up (fd_flo M (4 * d + k)) 74 ((((d : Nat) : Int) * 4) + ((k : Nat) : Int)).toNat (fd_nb (fd_wsee M d ((k : Nat) : Int))))) (st' := [fd_I (fd_bi (fd_vac M d ((k : Nat) : Int))), fd_I ((((d : Nat) : Int) * 4) + ((k : Nat) : Int)), fd_R 75]) rfl rfl rfl rfl rfl rfl (rfl) (fd_E_hasWayIn hG (fd_flo_e2 M _ _ _) ((d : Nat) : Int) (by omega) ((k : Nat) : Int) (by omega)) rfl (by omega) ?_
    refine fd_u_blk 2 (C := fd_c170) (b := ((false || (fd_inb ((((d : Nat) : Int) * 4) + ((k : Nat) : Int)) 24 && fd_inb (fd_bi (fd_vac M d ((k : Nat) : Int))) 2)) && true)) (L' := [fd_R 73, fd_I ((d : Nat) : Int), fd_I (((k + 1) : Nat) : Int)]) (st' := []) (M' := (fd_up (fd_up (fd_flo M (4 * d + k)) 74 ((((d : Nat) : Int) * 4) + ((k : Nat) : Int)).toNat (fd_nb (fd_wsee M d ((k : Nat) : Int)))) 75 ((((d : Nat) : Int) * 4) + ((k : Nat) : Int)).toNat (fd_bi (fd_vac M d ((k : Nat) : Int))))) rfl rfl (j := 39) rfl (fd_bA (fd_bA (fd_bI (by omega) (by omega)) (fd_biI)) (rfl)) ?_
    refine fd_u_jmp (C := fd_c170) (j := 9) (st' := []) rfl rfl (b := true) rfl rfl ?_
    have e5 := fd_flo_S M d k (by omega)
    refine Eq.mp (congrArg (fun z => fd_run _ _ _ _ _ z _ _) e5.symm) ?_
    exact ih (k + 1) (by omega)

theorem fd_f_run (M : fd_M) (hG : fd_CG M) (h76 : ∀ k : Nat, 0 ≤ M 76 k ∧ M 76 k ≤ 3) (u1 u2 : fd_V) : fd_run (11 + 2 * (M 3 2).toNat) 170 42 [fd_R 73, u1, u2] [] (fd_flo M (4 * (M 3 2).toNat)) (some (fd_I (fd_trn M 73 7))) (fd_trn M) := by
  have tv := (fd_trn_ok hG h76).2.1.2.2.2
  refine fd_u_blk 7 (C := fd_c170) (b := true) (L' := [fd_R 73, u1, u2]) (st' := [fd_I 0, fd_I 0, fd_I 0, fd_R 73]) (M' := (fd_up (fd_flo M (4 * (M 3 2).toNat)) 73 7 0)) rfl rfl (j := 49) rfl (rfl) ?_
  refine fd_u_call (C := fd_c170) (d0 := (10 + 2 * (M 3 2).toNat)) (mid := 171) (np := 4) (args := [fd_R 73, fd_I 0, fd_I 0, fd_I 0]) (r1 := none) (M1 := (fd_trn M)) (st' := []) rfl rfl rfl rfl rfl rfl (rfl) ((fd_trn_ok hG h76).1) rfl (by omega) ?_
  refine fd_u_blk 2 (C := fd_c170) (b := true) (L' := [fd_R 73, u1, u2]) (st' := [fd_I ((fd_trn M) 73 7)]) (M' := (fd_trn M)) rfl rfl (j := 52) rfl (rfl) ?_
  refine fd_u_ret (C := fd_c170) (b := (fd_inb ((fd_trn M) 73 7) 2)) (r' := some (fd_I ((fd_trn M) 73 7))) rfl rfl rfl (fd_bI (by omega) (by omega)) ?_ ?_
  · rfl
  · rfl

theorem fd_l_runD (M : fd_M) (hG : fd_CG M) (h76 : ∀ k : Nat, 0 ≤ M 76 k ∧ M 76 k ≤ 3) : ∀ (n : Nat) (k : Nat) (u : fd_V) (hk : (k : Int) + n = M 3 2), fd_run (11 + 2 * (M 3 2).toNat) 170 2 [fd_R 73, fd_I ((k : Nat) : Int), u] [] (fd_flo M (4 * k)) (some (fd_I (fd_trn M 73 7))) (fd_trn M) := by
  obtain ⟨g0, g1, g2, g3, g4, g5⟩ := hG.1
  intro n
  induction n with
  | zero =>
    intro k u hk
    have e3 : fd_flo M (4 * k) 3 2 = M 3 2 := rfl
    refine fd_u_blk 4 (C := fd_c170) (b := true) (L' := [fd_R 73, fd_I ((k : Nat) : Int), u]) (st' := [fd_I ((fd_flo M (4 * k)) 3 2), fd_I ((k : Nat) : Int)]) (M' := (fd_flo M (4 * k))) rfl rfl (j := 6) rfl (rfl) ?_
    refine fd_u_br (C := fd_c170) (t := 42) (e := 7) (st' := []) (c := ((fd_flo M (4 * k)) 3 2) ≤ ((k : Nat) : Int)) (b := (fd_rng ((k : Nat) : Int) && fd_rng ((fd_flo M (4 * k)) 3 2))) rfl rfl rfl (fd_bA (fd_bR (by omega) (by omega)) (fd_bR (by omega) (by omega))) (fun h6 => ?_) (fun h6 => absurd h6 (by omega))
    have ek : k = (M 3 2).toNat := by omega
    subst ek
    exact fd_f_run M hG h76 _ _
  | succ n ih =>
    intro k u hk
    have e3 : fd_flo M (4 * k) 3 2 = M 3 2 := rfl
    refine fd_u_blk 4 (C := fd_c170) (b := true) (L' := [fd_R 73, fd_I ((k : Nat) : Int), u]) (st' := [fd_I ((fd_flo M (4 * k)) 3 2), fd_I ((k : Nat) : Int)]) (M' := (fd_flo M (4 * k))) rfl rfl (j := 6) rfl (rfl) ?_
    refine fd_u_br (C := fd_c170) (t := 42) (e := 7) (st' := []) (c := ((fd_flo M (4 * k)) 3 2) ≤ ((k : Nat) : Int)) (b := (fd_rng ((k : Nat) : Int) && fd_rng ((fd_flo M (4 * k)) 3 2))) rfl rfl rfl (fd_bA (fd_bR (by omega) (by omega)) (fd_bR (by omega) (by omega))) (fun h6 => absurd h6 (by omega)) (fun h6 => ?_)
    refine fd_u_blk 2 (C := fd_c170) (b := true) (L' := [fd_R 73, fd_I ((k : Nat) : Int), fd_I 0]) (st' := []) (M' := (fd_flo M (4 * k))) rfl rfl (j := 9) rfl (rfl) ?_
    exact fd_l_run4 M hG h76 k (by omega) (fun u => ih (k + 1) u (by omega)) 4 0 (by omega)

theorem fd_s_run (M : fd_M) (hG : fd_CG M) (h76 : ∀ k : Nat, 0 ≤ M 76 k ∧ M 76 k ≤ 3) : fd_call (11 + 2 * (M 3 2).toNat) 170 [fd_R 73] M (some (fd_I (fd_trn M 73 7))) (fd_trn M) := by
  refine fd_u_in (L := [fd_R 73, fd_R 1003, fd_R 1003]) rfl ?_
  obtain ⟨g0, g1, g2, g3, g4, g5⟩ := hG.1
  refine fd_u_blk 2 (C := fd_c170) (b := true) (L' := [fd_R 73, fd_I 0, fd_R 1003]) (st' := []) (M' := M) rfl rfl (j := 2) rfl (rfl) ?_
  have z := fd_l_runD M hG h76 (M 3 2).toNat 0 (fd_R 1003) (by omega)
  rw [Nat.mul_zero, fd_flo_0] at z
  exact z

def fd_X_turn (M : fd_M) (d : Int) : Int := if ¬ (d = -1 ∨ d = -2 ∨ (0 ≤ d ∧ d < M 3 2)) then -1 else if fd_trn M 73 7 = 0 then -9 else if d = -1 then fd_trn M 73 8 else if d = -2 then fd_trn M 73 9 else fd_trn M 77 d.toNat
def fd_Y_turn (M : fd_M) (d : Int) : fd_M := if ¬ (d = -1 ∨ d = -2 ∨ (0 ≤ d ∧ d < M 3 2)) then M else fd_trn M
theorem fd_x_turn (M : fd_M) (hG : fd_CG M) (h76 : ∀ k : Nat, 0 ≤ M 76 k ∧ M 76 k ≤ 3) (d : Int) (hd : -2147483648 ≤ d ∧ d < 2147483648) : fd_call (12 + 2 * (M 3 2).toNat) 15 [fd_R 0, fd_I d] M (some (fd_I (fd_X_turn M d))) (fd_Y_turn M d) := by
  refine fd_u_in (L := [fd_R 0, fd_I d]) rfl ?_
  obtain ⟨g0, g1, g2, g3, g4, g5⟩ := hG.1
  have tv := (fd_trn_ok hG h76).2.1.2.2.2
  refine fd_u_blk 2 (C := fd_c15) (b := true) (L' := [fd_R 0, fd_I d]) (st' := [fd_I (-1), fd_I d]) (M' := M) rfl rfl (j := 2) rfl (rfl) ?_
  refine fd_u_br (C := fd_c15) (t := 13) (e := 3) (st' := []) (c := d = (-1)) (b := (fd_rng d && fd_rng (-1))) rfl rfl rfl (fd_bA (fd_bR (by omega) (by omega)) (fd_bR (by omega) (by omega))) (fun h2 => ?_) (fun h2 => ?_)
  · refine fd_u_blk 2 (C := fd_c15) (b := true) (L' := [fd_R 0, fd_I d]) (st' := [fd_R 73]) (M' := M) rfl rfl (j := 15) rfl (rfl) ?_
    refine fd_u_call (C := fd_c15) (d0 := (11 + 2 * (M 3 2).toNat)) (mid := 170) (np := 1) (args := [fd_R 73]) (r1 := some (fd_I (fd_trn M 73 7))) (M1 := (fd_trn M)) (st' := [fd_I (fd_trn M 73 7)]) rfl rfl rfl rfl rfl rfl (rfl) (fd_s_run M hG h76) rfl (by omega) ?_
    refine fd_u_br (C := fd_c15) (t := 19) (e := 17) (st' := []) (c := ¬ (fd_trn M 73 7) = 0) (b := (fd_rng (fd_trn M 73 7))) rfl rfl rfl (fd_bR (by omega) (by omega)) (fun h16 => ?_) (fun h16 => ?_)
    · refine fd_u_blk 2 (C := fd_c15) (b := true) (L' := [fd_R 0, fd_I d]) (st' := [fd_I (-1), fd_I d]) (M' := (fd_trn M)) rfl rfl (j := 21) rfl (rfl) ?_
      refine fd_u_br (C := fd_c15) (t := 26) (e := 22) (st' := []) (c := ¬ d = (-1)) (b := (fd_rng d && fd_rng (-1))) rfl rfl rfl (fd_bA (fd_bR (by omega) (by omega)) (fd_bR (by omega) (by omega))) (fun h21 => ?_) (fun h21 => ?_)
      · refine fd_u_blk 2 (C := fd_c15) (b := true) (L' := [fd_R 0, fd_I d]) (st' := [fd_I (-2), fd_I d]) (M' := (fd_trn M)) rfl rfl (j := 28) rfl (rfl) ?_
        refine fd_u_br (C := fd_c15) (t := 33) (e := 29) (st' := []) (c := ¬ d = (-2)) (b := (fd_rng d && fd_rng (-2))) rfl rfl rfl (fd_bA (fd_bR (by omega) (by omega)) (fd_bR (by omega) (by omega))) (fun h28 => ?_) (fun h28 => ?_)
        · refine fd_u_blk 5 (C := fd_c15) (b := (fd_inb d 6 && true)) (L' := [fd_R 0, fd_I d]) (st' := [fd_I ((fd_trn M) 77 (d).toNat)]) (M' := (fd_trn M)) rfl rfl (j := 38) rfl (fd_bA (fd_bI (by omega) (by omega)) (rfl)) ?_
          refine fd_u_ret (C := fd_c15) (b := true) (r' := some (fd_I ((fd_trn M) 77 (d).toNat))) rfl rfl rfl (rfl) ?_ ?_
          · first | (exfalso; omega) | (rw [fd_X_turn, if_neg (show ¬ ¬ (d = -1 ∨ d = -2 ∨ (0 ≤ d ∧ d < M 3 2)) by omega), if_pos (by omega)]; done) | (rw [fd_X_turn, if_neg (show ¬ ¬ (d = -1 ∨ d = -2 ∨ (0 ≤ d ∧ d < M 3 2)) by omega), if_neg (by omega), if_pos (by omega)]; done) | (rw [fd_X_turn, if_neg (show ¬ ¬ (d = -1 ∨ d = -2 ∨ (0 ≤ d ∧ d < M 3 2)) by omega), if_neg (by omega), if_neg (by omega), if_pos (by omega)]; done) | (rw [fd_X_turn, if_neg (show ¬ ¬ (d = -1 ∨ d = -2 ∨ (0 ≤ d ∧ d < M 3 2)) by omega), if_neg (by omega), if_neg (by omega), if_neg (by omega)]; done)
          · rw [fd_Y_turn, if_neg (show ¬ ¬ (d = -1 ∨ d = -2 ∨ (0 ≤ d ∧ d < M 3 2)) by omega)]
        · refine fd_u_blk 3 (C := fd_c15) (b := true) (L' := [fd_R 0, fd_I d]) (st' := [fd_I ((fd_trn M) 73 9)]) (M' := (fd_trn M)) rfl rfl (j := 32) rfl (rfl) ?_
          refine fd_u_jmp (C := fd_c15) (j := 38) (st' := [fd_I ((fd_trn M) 73 9)]) rfl rfl (b := true) rfl rfl ?_
          refine fd_u_ret (C := fd_c15) (b := true) (r' := some (fd_I ((fd_trn M) 73 9))) rfl rfl rfl (rfl) ?_ ?_
          · first | (exfalso; omega) | (rw [fd_X_turn, if_neg (show ¬ ¬ (d = -1 ∨ d = -2 ∨ (0 ≤ d ∧ d < M 3 2)) by omega), if_pos (by omega)]; done) | (rw [fd_X_turn, if_neg (show ¬ ¬ (d = -1 ∨ d = -2 ∨ (0 ≤ d ∧ d < M 3 2)) by omega), if_neg (by omega), if_pos (by omega)]; done) | (rw [fd_X_turn, if_neg (show ¬ ¬ (d = -1 ∨ d = -2 ∨ (0 ≤ d ∧ d < M 3 2)) by omega), if_neg (by omega), if_neg (by omega), if_pos (by omega)]; done) | (rw [fd_X_turn, if_neg (show ¬ ¬ (d = -1 ∨ d = -2 ∨ (0 ≤ d ∧ d < M 3 2)) by omega), if_neg (by omega), if_neg (by omega), if_neg (by omega)]; done)
          · rw [fd_Y_turn, if_neg (show ¬ ¬ (d = -1 ∨ d = -2 ∨ (0 ≤ d ∧ d < M 3 2)) by omega)]
      · refine fd_u_blk 3 (C := fd_c15) (b := true) (L' := [fd_R 0, fd_I d]) (st' := [fd_I ((fd_trn M) 73 8)]) (M' := (fd_trn M)) rfl rfl (j := 25) rfl (rfl) ?_
        refine fd_u_ret (C := fd_c15) (b := true) (r' := some (fd_I ((fd_trn M) 73 8))) rfl rfl rfl (rfl) ?_ ?_
        · first | (exfalso; omega) | (rw [fd_X_turn, if_neg (show ¬ ¬ (d = -1 ∨ d = -2 ∨ (0 ≤ d ∧ d < M 3 2)) by omega), if_pos (by omega)]; done) | (rw [fd_X_turn, if_neg (show ¬ ¬ (d = -1 ∨ d = -2 ∨ (0 ≤ d ∧ d < M 3 2)) by omega), if_neg (by omega), if_pos (by omega)]; done) | (rw [fd_X_turn, if_neg (show ¬ ¬ (d = -1 ∨ d = -2 ∨ (0 ≤ d ∧ d < M 3 2)) by omega), if_neg (by omega), if_neg (by omega), if_pos (by omega)]; done) | (rw [fd_X_turn, if_neg (show ¬ ¬ (d = -1 ∨ d = -2 ∨ (0 ≤ d ∧ d < M 3 2)) by omega), if_neg (by omega), if_neg (by omega), if_neg (by omega)]; done)
        · rw [fd_Y_turn, if_neg (show ¬ ¬ (d = -1 ∨ d = -2 ∨ (0 ≤ d ∧ d < M 3 2)) by omega)]
    · refine fd_u_blk 1 (C := fd_c15) (b := true) (L' := [fd_R 0, fd_I d]) (st' := [fd_I (-9)]) (M' := (fd_trn M)) rfl rfl (j := 18) rfl (rfl) ?_
      refine fd_u_ret (C := fd_c15) (b := true) (r' := some (fd_I (-9))) rfl rfl rfl (rfl) ?_ ?_
      · first | (exfalso; omega) | (rw [fd_X_turn, if_neg (show ¬ ¬ (d = -1 ∨ d = -2 ∨ (0 ≤ d ∧ d < M 3 2)) by omega), if_pos (by omega)]; done) | (rw [fd_X_turn, if_neg (show ¬ ¬ (d = -1 ∨ d = -2 ∨ (0 ≤ d ∧ d < M 3 2)) by omega), if_neg (by omega), if_pos (by omega)]; done) | (rw [fd_X_turn, if_neg (show ¬ ¬ (d = -1 ∨ d = -2 ∨ (0 ≤ d ∧ d < M 3 2)) by omega), if_neg (by omega), if_neg (by omega), if_pos (by omega)]; done) | (rw [fd_X_turn, if_neg (show ¬ ¬ (d = -1 ∨ d = -2 ∨ (0 ≤ d ∧ d < M 3 2)) by omega), if_neg (by omega), if_neg (by omega), if_neg (by omega)]; done)
      · rw [fd_Y_turn, if_neg (show ¬ ¬ (d = -1 ∨ d = -2 ∨ (0 ≤ d ∧ d < M 3 2)) by omega)]
  · refine fd_u_blk 2 (C := fd_c15) (b := true) (L' := [fd_R 0, fd_I d]) (st' := [fd_I (-2), fd_I d]) (M' := M) rfl rfl (j := 5) rfl (rfl) ?_
    refine fd_u_br (C := fd_c15) (t := 13) (e := 6) (st' := []) (c := d = (-2)) (b := (fd_rng d && fd_rng (-2))) rfl rfl rfl (fd_bA (fd_bR (by omega) (by omega)) (fd_bR (by omega) (by omega))) (fun h5 => ?_) (fun h5 => ?_)
    · refine fd_u_blk 2 (C := fd_c15) (b := true) (L' := [fd_R 0, fd_I d]) (st' := [fd_R 73]) (M' := M) rfl rfl (j := 15) rfl (rfl) ?_
      refine fd_u_call (C := fd_c15) (d0 := (11 + 2 * (M 3 2).toNat)) (mid := 170) (np := 1) (args := [fd_R 73]) (r1 := some (fd_I (fd_trn M 73 7))) (M1 := (fd_trn M)) (st' := [fd_I (fd_trn M 73 7)]) rfl rfl rfl rfl rfl rfl (rfl) (fd_s_run M hG h76) rfl (by omega) ?_
      refine fd_u_br (C := fd_c15) (t := 19) (e := 17) (st' := []) (c := ¬ (fd_trn M 73 7) = 0) (b := (fd_rng (fd_trn M 73 7))) rfl rfl rfl (fd_bR (by omega) (by omega)) (fun h16 => ?_) (fun h16 => ?_)
      · refine fd_u_blk 2 (C := fd_c15) (b := true) (L' := [fd_R 0, fd_I d]) (st' := [fd_I (-1), fd_I d]) (M' := (fd_trn M)) rfl rfl (j := 21) rfl (rfl) ?_
        refine fd_u_br (C := fd_c15) (t := 26) (e := 22) (st' := []) (c := ¬ d = (-1)) (b := (fd_rng d && fd_rng (-1))) rfl rfl rfl (fd_bA (fd_bR (by omega) (by omega)) (fd_bR (by omega) (by omega))) (fun h21 => ?_) (fun h21 => ?_)
        · refine fd_u_blk 2 (C := fd_c15) (b := true) (L' := [fd_R 0, fd_I d]) (st' := [fd_I (-2), fd_I d]) (M' := (fd_trn M)) rfl rfl (j := 28) rfl (rfl) ?_
          refine fd_u_br (C := fd_c15) (t := 33) (e := 29) (st' := []) (c := ¬ d = (-2)) (b := (fd_rng d && fd_rng (-2))) rfl rfl rfl (fd_bA (fd_bR (by omega) (by omega)) (fd_bR (by omega) (by omega))) (fun h28 => ?_) (fun h28 => ?_)
          · refine fd_u_blk 5 (C := fd_c15) (b := (fd_inb d 6 && true)) (L' := [fd_R 0, fd_I d]) (st' := [fd_I ((fd_trn M) 77 (d).toNat)]) (M' := (fd_trn M)) rfl rfl (j := 38) rfl (fd_bA (fd_bI (by omega) (by omega)) (rfl)) ?_
            refine fd_u_ret (C := fd_c15) (b := true) (r' := some (fd_I ((fd_trn M) 77 (d).toNat))) rfl rfl rfl (rfl) ?_ ?_
            · first | (exfalso; omega) | (rw [fd_X_turn, if_neg (show ¬ ¬ (d = -1 ∨ d = -2 ∨ (0 ≤ d ∧ d < M 3 2)) by omega), if_pos (by omega)]; done) | (rw [fd_X_turn, if_neg (show ¬ ¬ (d = -1 ∨ d = -2 ∨ (0 ≤ d ∧ d < M 3 2)) by omega), if_neg (by omega), if_pos (by omega)]; done) | (rw [fd_X_turn, if_neg (show ¬ ¬ (d = -1 ∨ d = -2 ∨ (0 ≤ d ∧ d < M 3 2)) by omega), if_neg (by omega), if_neg (by omega), if_pos (by omega)]; done) | (rw [fd_X_turn, if_neg (show ¬ ¬ (d = -1 ∨ d = -2 ∨ (0 ≤ d ∧ d < M 3 2)) by omega), if_neg (by omega), if_neg (by omega), if_neg (by omega)]; done)
            · rw [fd_Y_turn, if_neg (show ¬ ¬ (d = -1 ∨ d = -2 ∨ (0 ≤ d ∧ d < M 3 2)) by omega)]
          · refine fd_u_blk 3 (C := fd_c15) (b := true) (L' := [fd_R 0, fd_I d]) (st' := [fd_I ((fd_trn M) 73 9)]) (M' := (fd_trn M)) rfl rfl (j := 32) rfl (rfl) ?_
            refine fd_u_jmp (C := fd_c15) (j := 38) (st' := [fd_I ((fd_trn M) 73 9)]) rfl rfl (b := true) rfl rfl ?_
            refine fd_u_ret (C := fd_c15) (b := true) (r' := some (fd_I ((fd_trn M) 73 9))) rfl rfl rfl (rfl) ?_ ?_
            · first | (exfalso; omega) | (rw [fd_X_turn, if_neg (show ¬ ¬ (d = -1 ∨ d = -2 ∨ (0 ≤ d ∧ d < M 3 2)) by omega), if_pos (by omega)]; done) | (rw [fd_X_turn, if_neg (show ¬ ¬ (d = -1 ∨ d = -2 ∨ (0 ≤ d ∧ d < M 3 2)) by omega), if_neg (by omega), if_pos (by omega)]; done) | (rw [fd_X_turn, if_neg (show ¬ ¬ (d = -1 ∨ d = -2 ∨ (0 ≤ d ∧ d < M 3 2)) by omega), if_neg (by omega), if_neg (by omega), if_pos (by omega)]; done) | (rw [fd_X_turn, if_neg (show ¬ ¬ (d = -1 ∨ d = -2 ∨ (0 ≤ d ∧ d < M 3 2)) by omega), if_neg (by omega), if_neg (by omega), if_neg (by omega)]; done)
            · rw [fd_Y_turn, if_neg (show ¬ ¬ (d = -1 ∨ d = -2 ∨ (0 ≤ d ∧ d < M 3 2)) by omega)]
        · refine fd_u_blk 3 (C := fd_c15) (b := true) (L' := [fd_R 0, fd_I d]) (st' := [fd_I ((fd_trn M) 73 8)]) (M' := (fd_trn M)) rfl rfl (j := 25) rfl (rfl) ?_
          refine fd_u_ret (C := fd_c15) (b := true) (r' := some (fd_I ((fd_trn M) 73 8))) rfl rfl rfl (rfl) ?_ ?_
          · first | (exfalso; omega) | (rw [fd_X_turn, if_neg (show ¬ ¬ (d = -1 ∨ d = -2 ∨ (0 ≤ d ∧ d < M 3 2)) by omega), if_pos (by omega)]; done) | (rw [fd_X_turn, if_neg (show ¬ ¬ (d = -1 ∨ d = -2 ∨ (0 ≤ d ∧ d < M 3 2)) by omega), if_neg (by omega), if_pos (by omega)]; done) | (rw [fd_X_turn, if_neg (show ¬ ¬ (d = -1 ∨ d = -2 ∨ (0 ≤ d ∧ d < M 3 2)) by omega), if_neg (by omega), if_neg (by omega), if_pos (by omega)]; done) | (rw [fd_X_turn, if_neg (show ¬ ¬ (d = -1 ∨ d = -2 ∨ (0 ≤ d ∧ d < M 3 2)) by omega), if_neg (by omega), if_neg (by omega), if_neg (by omega)]; done)
          · rw [fd_Y_turn, if_neg (show ¬ ¬ (d = -1 ∨ d = -2 ∨ (0 ≤ d ∧ d < M 3 2)) by omega)]
      · refine fd_u_blk 1 (C := fd_c15) (b := true) (L' := [fd_R 0, fd_I d]) (st' := [fd_I (-9)]) (M' := (fd_trn M)) rfl rfl (j := 18) rfl (rfl) ?_
        refine fd_u_ret (C := fd_c15) (b := true) (r' := some (fd_I (-9))) rfl rfl rfl (rfl) ?_ ?_
        · first | (exfalso; omega) | (rw [fd_X_turn, if_neg (show ¬ ¬ (d = -1 ∨ d = -2 ∨ (0 ≤ d ∧ d < M 3 2)) by omega), if_pos (by omega)]; done) | (rw [fd_X_turn, if_neg (show ¬ ¬ (d = -1 ∨ d = -2 ∨ (0 ≤ d ∧ d < M 3 2)) by omega), if_neg (by omega), if_pos (by omega)]; done) | (rw [fd_X_turn, if_neg (show ¬ ¬ (d = -1 ∨ d = -2 ∨ (0 ≤ d ∧ d < M 3 2)) by omega), if_neg (by omega), if_neg (by omega), if_pos (by omega)]; done) | (rw [fd_X_turn, if_neg (show ¬ ¬ (d = -1 ∨ d = -2 ∨ (0 ≤ d ∧ d < M 3 2)) by omega), if_neg (by omega), if_neg (by omega), if_neg (by omega)]; done)
        · rw [fd_Y_turn, if_neg (show ¬ ¬ (d = -1 ∨ d = -2 ∨ (0 ≤ d ∧ d < M 3 2)) by omega)]
    · refine fd_u_blk 3 (C := fd_c15) (b := true) (L' := [fd_R 0, fd_I d]) (st' := [fd_I d, fd_R 3]) (M' := M) rfl rfl (j := 9) rfl (rfl) ?_
      refine fd_u_call (C := fd_c15) (d0 := 0) (mid := 124) (np := 2) (args := [fd_R 3, fd_I d]) (r1 := some (fd_I (fd_bi (0 ≤ d ∧ d < M 3 2)))) (M1 := M) (st' := [fd_I (fd_bi (0 ≤ d ∧ d < M 3 2))]) rfl rfl rfl rfl rfl rfl (rfl) (fd_s_hasDoor M d (by omega) (by omega)) rfl (by omega) ?_
      refine fd_u_br (C := fd_c15) (t := 13) (e := 11) (st' := []) (c := ¬ (fd_bi (0 ≤ d ∧ d < M 3 2)) = 0) (b := (fd_rng (fd_bi (0 ≤ d ∧ d < M 3 2)))) rfl rfl rfl (fd_biR) (fun h10 => ?_) (fun h10 => ?_)
      · have h10 := fd_biT.mp h10
        refine fd_u_blk 2 (C := fd_c15) (b := true) (L' := [fd_R 0, fd_I d]) (st' := [fd_R 73]) (M' := M) rfl rfl (j := 15) rfl (rfl) ?_
        refine fd_u_call (C := fd_c15) (d0 := (11 + 2 * (M 3 2).toNat)) (mid := 170) (np := 1) (args := [fd_R 73]) (r1 := some (fd_I (fd_trn M 73 7))) (M1 := (fd_trn M)) (st' := [fd_I (fd_trn M 73 7)]) rfl rfl rfl rfl rfl rfl (rfl) (fd_s_run M hG h76) rfl (by omega) ?_
        refine fd_u_br (C := fd_c15) (t := 19) (e := 17) (st' := []) (c := ¬ (fd_trn M 73 7) = 0) (b := (fd_rng (fd_trn M 73 7))) rfl rfl rfl (fd_bR (by omega) (by omega)) (fun h16 => ?_) (fun h16 => ?_)
        · refine fd_u_blk 2 (C := fd_c15) (b := true) (L' := [fd_R 0, fd_I d]) (st' := [fd_I (-1), fd_I d]) (M' := (fd_trn M)) rfl rfl (j := 21) rfl (rfl) ?_
          refine fd_u_br (C := fd_c15) (t := 26) (e := 22) (st' := []) (c := ¬ d = (-1)) (b := (fd_rng d && fd_rng (-1))) rfl rfl rfl (fd_bA (fd_bR (by omega) (by omega)) (fd_bR (by omega) (by omega))) (fun h21 => ?_) (fun h21 => ?_)
          · refine fd_u_blk 2 (C := fd_c15) (b := true) (L' := [fd_R 0, fd_I d]) (st' := [fd_I (-2), fd_I d]) (M' := (fd_trn M)) rfl rfl (j := 28) rfl (rfl) ?_
            refine fd_u_br (C := fd_c15) (t := 33) (e := 29) (st' := []) (c := ¬ d = (-2)) (b := (fd_rng d && fd_rng (-2))) rfl rfl rfl (fd_bA (fd_bR (by omega) (by omega)) (fd_bR (by omega) (by omega))) (fun h28 => ?_) (fun h28 => ?_)
            · refine fd_u_blk 5 (C := fd_c15) (b := (fd_inb d 6 && true)) (L' := [fd_R 0, fd_I d]) (st' := [fd_I ((fd_trn M) 77 (d).toNat)]) (M' := (fd_trn M)) rfl rfl (j := 38) rfl (fd_bA (fd_bI (by omega) (by omega)) (rfl)) ?_
              refine fd_u_ret (C := fd_c15) (b := true) (r' := some (fd_I ((fd_trn M) 77 (d).toNat))) rfl rfl rfl (rfl) ?_ ?_
              · first | (exfalso; omega) | (rw [fd_X_turn, if_neg (show ¬ ¬ (d = -1 ∨ d = -2 ∨ (0 ≤ d ∧ d < M 3 2)) by omega), if_pos (by omega)]; done) | (rw [fd_X_turn, if_neg (show ¬ ¬ (d = -1 ∨ d = -2 ∨ (0 ≤ d ∧ d < M 3 2)) by omega), if_neg (by omega), if_pos (by omega)]; done) | (rw [fd_X_turn, if_neg (show ¬ ¬ (d = -1 ∨ d = -2 ∨ (0 ≤ d ∧ d < M 3 2)) by omega), if_neg (by omega), if_neg (by omega), if_pos (by omega)]; done) | (rw [fd_X_turn, if_neg (show ¬ ¬ (d = -1 ∨ d = -2 ∨ (0 ≤ d ∧ d < M 3 2)) by omega), if_neg (by omega), if_neg (by omega), if_neg (by omega)]; done)
              · rw [fd_Y_turn, if_neg (show ¬ ¬ (d = -1 ∨ d = -2 ∨ (0 ≤ d ∧ d < M 3 2)) by omega)]
            · refine fd_u_blk 3 (C := fd_c15) (b := true) (L' := [fd_R 0, fd_I d]) (st' := [fd_I ((fd_trn M) 73 9)]) (M' := (fd_trn M)) rfl rfl (j := 32) rfl (rfl) ?_
              refine fd_u_jmp (C := fd_c15) (j := 38) (st' := [fd_I ((fd_trn M) 73 9)]) rfl rfl (b := true) rfl rfl ?_
              refine fd_u_ret (C := fd_c15) (b := true) (r' := some (fd_I ((fd_trn M) 73 9))) rfl rfl rfl (rfl) ?_ ?_
              · first | (exfalso; omega) | (rw [fd_X_turn, if_neg (show ¬ ¬ (d = -1 ∨ d = -2 ∨ (0 ≤ d ∧ d < M 3 2)) by omega), if_pos (by omega)]; done) | (rw [fd_X_turn, if_neg (show ¬ ¬ (d = -1 ∨ d = -2 ∨ (0 ≤ d ∧ d < M 3 2)) by omega), if_neg (by omega), if_pos (by omega)]; done) | (rw [fd_X_turn, if_neg (show ¬ ¬ (d = -1 ∨ d = -2 ∨ (0 ≤ d ∧ d < M 3 2)) by omega), if_neg (by omega), if_neg (by omega), if_pos (by omega)]; done) | (rw [fd_X_turn, if_neg (show ¬ ¬ (d = -1 ∨ d = -2 ∨ (0 ≤ d ∧ d < M 3 2)) by omega), if_neg (by omega), if_neg (by omega), if_neg (by omega)]; done)
              · rw [fd_Y_turn, if_neg (show ¬ ¬ (d = -1 ∨ d = -2 ∨ (0 ≤ d ∧ d < M 3 2)) by omega)]
          · refine fd_u_blk 3 (C := fd_c15) (b := true) (L' := [fd_R 0, fd_I d]) (st' := [fd_I ((fd_trn M) 73 8)]) (M' := (fd_trn M)) rfl rfl (j := 25) rfl (rfl) ?_
            refine fd_u_ret (C := fd_c15) (b := true) (r' := some (fd_I ((fd_trn M) 73 8))) rfl rfl rfl (rfl) ?_ ?_
            · first | (exfalso; omega) | (rw [fd_X_turn, if_neg (show ¬ ¬ (d = -1 ∨ d = -2 ∨ (0 ≤ d ∧ d < M 3 2)) by omega), if_pos (by omega)]; done) | (rw [fd_X_turn, if_neg (show ¬ ¬ (d = -1 ∨ d = -2 ∨ (0 ≤ d ∧ d < M 3 2)) by omega), if_neg (by omega), if_pos (by omega)]; done) | (rw [fd_X_turn, if_neg (show ¬ ¬ (d = -1 ∨ d = -2 ∨ (0 ≤ d ∧ d < M 3 2)) by omega), if_neg (by omega), if_neg (by omega), if_pos (by omega)]; done) | (rw [fd_X_turn, if_neg (show ¬ ¬ (d = -1 ∨ d = -2 ∨ (0 ≤ d ∧ d < M 3 2)) by omega), if_neg (by omega), if_neg (by omega), if_neg (by omega)]; done)
            · rw [fd_Y_turn, if_neg (show ¬ ¬ (d = -1 ∨ d = -2 ∨ (0 ≤ d ∧ d < M 3 2)) by omega)]
        · refine fd_u_blk 1 (C := fd_c15) (b := true) (L' := [fd_R 0, fd_I d]) (st' := [fd_I (-9)]) (M' := (fd_trn M)) rfl rfl (j := 18) rfl (rfl) ?_
          refine fd_u_ret (C := fd_c15) (b := true) (r' := some (fd_I (-9))) rfl rfl rfl (rfl) ?_ ?_
          · first | (exfalso; omega) | (rw [fd_X_turn, if_neg (show ¬ ¬ (d = -1 ∨ d = -2 ∨ (0 ≤ d ∧ d < M 3 2)) by omega), if_pos (by omega)]; done) | (rw [fd_X_turn, if_neg (show ¬ ¬ (d = -1 ∨ d = -2 ∨ (0 ≤ d ∧ d < M 3 2)) by omega), if_neg (by omega), if_pos (by omega)]; done) | (rw [fd_X_turn, if_neg (show ¬ ¬ (d = -1 ∨ d = -2 ∨ (0 ≤ d ∧ d < M 3 2)) by omega), if_neg (by omega), if_neg (by omega), if_pos (by omega)]; done) | (rw [fd_X_turn, if_neg (show ¬ ¬ (d = -1 ∨ d = -2 ∨ (0 ≤ d ∧ d < M 3 2)) by omega), if_neg (by omega), if_neg (by omega), if_neg (by omega)]; done)
          · rw [fd_Y_turn, if_neg (show ¬ ¬ (d = -1 ∨ d = -2 ∨ (0 ≤ d ∧ d < M 3 2)) by omega)]
      · have h10 := fd_biF2  h10
        refine fd_u_blk 1 (C := fd_c15) (b := true) (L' := [fd_R 0, fd_I d]) (st' := [fd_I (-1)]) (M' := M) rfl rfl (j := 12) rfl (rfl) ?_
        refine fd_u_ret (C := fd_c15) (b := true) (r' := some (fd_I (-1))) rfl rfl rfl (rfl) ?_ ?_
        · rw [fd_X_turn, if_pos (show ¬ (d = -1 ∨ d = -2 ∨ (0 ≤ d ∧ d < M 3 2)) by omega)]
        · rw [fd_Y_turn, if_pos (show ¬ (d = -1 ∨ d = -2 ∨ (0 ≤ d ∧ d < M 3 2)) by omega)]


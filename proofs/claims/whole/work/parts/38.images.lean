/-! images: the class -/
def fd_hcp (M : fd_M) (r1 r2 : Nat) : Nat → fd_M
  | 0 => M
  | k + 1 => fd_cps (fd_hcp M r1 r2 k) (M r1 k).toNat (M r2 k).toNat
def fd_HR (M : fd_M) (r B : Nat) : Prop := ∀ i : Nat, i < 10 → ∃ j : Nat, j < 10 ∧ M r i = ((B + 5 * j : Nat) : Int)
theorem fd_cps_fr {M : fd_M} {a b c : Nat} (h : c < a ∨ a + 5 ≤ c) : fd_cps M a b c = M c := by
  funext k
  unfold fd_cps
  rw [if_neg (by omega), if_neg (by omega)]
theorem fd_hcp_fr {M : fd_M} {r1 r2 B : Nat} (h1 : fd_HR M r1 B) {c : Nat} (hc : c < B ∨ B + 50 ≤ c) : ∀ k : Nat, k ≤ 10 → fd_hcp M r1 r2 k c = M c
  | 0, _ => rfl
  | k + 1, hk => by
    obtain ⟨j, hj, ej⟩ := h1 k (by omega)
    show fd_cps (fd_hcp M r1 r2 k) (M r1 k).toNat (M r2 k).toNat c = M c
    rw [ej, fd_cps_fr (by omega), fd_hcp_fr h1 hc k (by omega)]
theorem fd_scn_all : (∀ j, j < 10 → fd_scn (21 + 5 * j)) ∧ (∀ j, j < 10 → fd_scn (91 + 5 * j)) ∧ (∀ j, j < 10 → fd_scn (149 + 5 * j)) := ⟨fd_scn_h, fun j h => (fd_scn_i j h).1, fun j h => (fd_scn_i j h).2⟩
theorem fd_SG_cps {M : fd_M} {a b : Nat} (hab : a + 5 ≤ b ∨ b + 5 ≤ a) (ha : fd_SG M a) (hb : fd_SG M b) : fd_SG (fd_cps M a b) a := by
  obtain ⟨a1, a2, a3, a4, a5, a6, a7, a8⟩ := ha
  obtain ⟨b1, b2, b3, b4, b5, b6, b7, b8⟩ := hb
  have key : ∀ (i : Nat) (P : Int → Prop), 1 ≤ i → i ≤ 4 → (∀ d : Nat, P (M (a + i) d)) → (∀ d : Nat, P (M (b + i) d)) → ∀ d : Nat, P (fd_cps M a b (a + i) d) := by
    intro i P h1 h4 p q d
    unfold fd_cps
    rw [if_neg (by omega)]
    by_cases h : d < 6
    · rw [if_pos (by omega), show a + i - a = i by omega]; exact q d
    · rw [if_neg (by omega)]; exact p d
  have k2 : ∀ j : Nat, 4 ≤ j → j ≤ 7 → fd_cps M a b a j = M b j := by
    intro j h1 h2
    unfold fd_cps
    rw [if_pos ⟨rfl, h1, h2⟩]
  refine ⟨key 1 (fun z => 0 ≤ z ∧ z ≤ 6) (by omega) (by omega) a1 b1, key 2 (fun z => 0 ≤ z ∧ z ≤ 6) (by omega) (by omega) a2 b2, key 3 (fun z => 0 ≤ z ∧ z ≤ 3) (by omega) (by omega) a3 b3, key 4 (fun z => 0 ≤ z ∧ z ≤ 9999) (by omega) (by omega) a4 b4, ?_, ?_, ?_, ?_⟩
  · rw [k2 4 (by omega) (by omega)]; exact b5
  · rw [k2 5 (by omega) (by omega)]; exact b6
  · rw [k2 6 (by omega) (by omega)]; exact b7
  · rw [k2 7 (by omega) (by omega)]; exact b8
theorem fd_l_hc89_19 (M : fd_M) (p1 : fd_HR M 90 91) (p2 : fd_HR M 20 21) (hz : 0 ≤ M 89 1 ∧ M 89 1 ≤ 10) (h67 : ∀ i : Nat, i < 10 → (0 ≤ M (M 20 i).toNat 6 ∧ M (M 20 i).toNat 6 ≤ 1) ∧ (0 ≤ M (M 20 i).toNat 7 ∧ M (M 20 i).toNat 7 ≤ 1)) : ∀ (n : Nat) (k : Nat) (hk : (k : Int) + n = M 89 1), fd_run 1 116 6 [fd_R 89, fd_R 19, fd_I ((k : Nat) : Int)] [] (fd_hcp M 90 20 k) (none) (fd_hcp M 90 20 (M 89 1).toNat) := by
  intro n
  induction n with
  | zero =>
    intro k hk
    have e1 : (fd_hcp M 90 20 k) 89 1 = M 89 1 := by rw [fd_hcp_fr p1 (by omega) k (by omega)]
    refine fd_u_blk 3 (C := fd_c116) (b := true) (L' := [fd_R 89, fd_R 19, fd_I ((k : Nat) : Int)]) (st' := [fd_I ((fd_hcp M 90 20 k) 89 1), fd_I ((k : Nat) : Int)]) (M' := (fd_hcp M 90 20 k)) rfl rfl (j := 9) rfl (rfl) ?_
    refine fd_u_br (C := fd_c116) (t := 21) (e := 10) (st' := []) (c := ((fd_hcp M 90 20 k) 89 1) ≤ ((k : Nat) : Int)) (b := (fd_rng ((k : Nat) : Int) && fd_rng ((fd_hcp M 90 20 k) 89 1))) rfl rfl rfl (fd_bA (fd_bR (by omega) (by omega)) (fd_bR (by omega) (by omega))) (fun h9 => ?_) (fun h9 => absurd h9 (by omega))
    refine fd_u_ret (C := fd_c116) (b := true) (r' := none) rfl rfl rfl (rfl) ?_ ?_
    · rfl
    · rw [show (M 89 1).toNat = k by omega]
  | succ n ih =>
    intro k hk
    have e1 : (fd_hcp M 90 20 k) 89 1 = M 89 1 := by rw [fd_hcp_fr p1 (by omega) k (by omega)]
    obtain ⟨j1, hj1, ej1⟩ := p1 k (by omega)
    obtain ⟨j2, hj2, ej2⟩ := p2 k (by omega)
    have er1 : (fd_hcp M 90 20 k) 90 k = M 90 k := by rw [fd_hcp_fr p1 (by omega) k (by omega)]
    have er2 : (fd_hcp M 90 20 k) 20 k = M 20 k := by rw [fd_hcp_fr p1 (by omega) k (by omega)]
    have ha : fd_scn ((fd_hcp M 90 20 k) 90 k).toNat := by rw [er1, ej1]; exact fd_scn_all.2.1 j1 hj1
    have hb : fd_scn ((fd_hcp M 90 20 k) 20 k).toNat := by rw [er2, ej2]; exact fd_scn_all.1 j2 hj2
    have hf : (fd_hcp M 90 20 k) ((fd_hcp M 90 20 k) 20 k).toNat = M (M 20 k).toNat := by rw [er2, fd_hcp_fr p1 (by omega) k (by omega)]
    refine fd_u_blk 3 (C := fd_c116) (b := true) (L' := [fd_R 89, fd_R 19, fd_I ((k : Nat) : Int)]) (st' := [fd_I ((fd_hcp M 90 20 k) 89 1), fd_I ((k : Nat) : Int)]) (M' := (fd_hcp M 90 20 k)) rfl rfl (j := 9) rfl (rfl) ?_
    refine fd_u_br (C := fd_c116) (t := 21) (e := 10) (st' := []) (c := ((fd_hcp M 90 20 k) 89 1) ≤ ((k : Nat) : Int)) (b := (fd_rng ((k : Nat) : Int) && fd_rng ((fd_hcp M 90 20 k) 89 1))) rfl rfl rfl (fd_bA (fd_bR (by omega) (by omega)) (fd_bR (by omega) (by omega))) (fun h9 => absurd h9 (by omega)) (fun h9 => ?_)
    refine fd_u_blk 8 (C := fd_c116) (b := (((fd_inb ((k : Nat) : Int) 10 || fd_isA true (fd_hcp M 90 20 k) 90 24 ((k : Nat) : Int)) && Nat.blt ((fd_hcp M 90 20 k) 90 k).toNat 1000) && (((fd_inb ((k : Nat) : Int) 10 || fd_isA true (fd_hcp M 90 20 k) 20 24 ((k : Nat) : Int)) && Nat.blt ((fd_hcp M 90 20 k) 20 k).toNat 1000) && true))) (L' := [fd_R 89, fd_R 19, fd_I ((k : Nat) : Int)]) (st' := [fd_R (((fd_hcp M 90 20 k) 20 k).toNat), fd_R (((fd_hcp M 90 20 k) 90 k).toNat)]) (M' := (fd_hcp M 90 20 k)) rfl rfl (j := 18) rfl (fd_bA (fd_bA (by rw [fd_bI (i := ((k : Nat) : Int)) (n := 10) (by omega) (by omega)]; rfl) (by rw [Nat.blt_eq]; omega)) (fd_bA (fd_bA (by rw [fd_bI (i := ((k : Nat) : Int)) (n := 10) (by omega) (by omega)]; rfl) (by rw [Nat.blt_eq]; omega)) (rfl))) ?_
    refine fd_u_call (C := fd_c116) (d0 := 0) (mid := 143) (np := 2) (args := [fd_R (((fd_hcp M 90 20 k) 90 k).toNat), fd_R (((fd_hcp M 90 20 k) 20 k).toNat)]) (r1 := none) (M1 := (fd_cps (fd_hcp M 90 20 k) ((fd_hcp M 90 20 k) 90 k).toNat ((fd_hcp M 90 20 k) 20 k).toNat)) (st' := []) rfl rfl rfl rfl rfl rfl (by have q1 := ha.2.2.2.2.2; have q2 := hb.2.2.2.2.2; simp [fd_inv, fd_n1, fd_cw, fd_isO, fd_al, ha.1, hb.1, Nat.blt_eq, show fd_mc 143 = 5 from rfl]; omega) (fd_s_copyFrom (fd_hcp M 90 20 k) ((fd_hcp M 90 20 k) 90 k).toNat ((fd_hcp M 90 20 k) 20 k).toNat ha hb (by omega) (by rw [hf]; exact (h67 k (by omega)).1) (by rw [hf]; exact (h67 k (by omega)).2)) rfl (by omega) ?_
    refine fd_u_blk 1 (C := fd_c116) (b := true) (L' := [fd_R 89, fd_R 19, fd_I (((k + 1) : Nat) : Int)]) (st' := []) (M' := (fd_cps (fd_hcp M 90 20 k) ((fd_hcp M 90 20 k) 90 k).toNat ((fd_hcp M 90 20 k) 20 k).toNat)) rfl rfl (j := 20) rfl (rfl) ?_
    refine fd_u_jmp (C := fd_c116) (j := 6) (st' := []) rfl rfl (b := true) rfl rfl ?_
    rw [er1, er2]
    exact ih (k + 1) (by omega)

theorem fd_s_hc89_19 (M : fd_M) (p1 : fd_HR M 90 91) (p2 : fd_HR M 20 21) (hz : 0 ≤ M 19 1 ∧ M 19 1 ≤ 10) (h67 : ∀ i : Nat, i < 10 → (0 ≤ M (M 20 i).toNat 6 ∧ M (M 20 i).toNat 6 ≤ 1) ∧ (0 ≤ M (M 20 i).toNat 7 ∧ M (M 20 i).toNat 7 ≤ 1)) : fd_call 1 116 [fd_R 89, fd_R 19] M (none) (fd_hcp (fd_up M 89 1 (M 19 1)) 90 20 (M 19 1).toNat) := by
  refine fd_u_in (L := [fd_R 89, fd_R 19, fd_R 1003]) rfl ?_
  refine fd_u_blk 6 (C := fd_c116) (b := true) (L' := [fd_R 89, fd_R 19, fd_I 0]) (st' := []) (M' := (fd_up M 89 1 (M 19 1))) rfl rfl (j := 6) rfl (rfl) ?_
  have zz : ∀ i : Nat, i < 10 → (0 ≤ fd_up M 89 1 (M 19 1) (fd_up M 89 1 (M 19 1) 20 i).toNat 6 ∧ fd_up M 89 1 (M 19 1) (fd_up M 89 1 (M 19 1) 20 i).toNat 6 ≤ 1) ∧ (0 ≤ fd_up M 89 1 (M 19 1) (fd_up M 89 1 (M 19 1) 20 i).toNat 7 ∧ fd_up M 89 1 (M 19 1) (fd_up M 89 1 (M 19 1) 20 i).toNat 7 ≤ 1) := by
    intro i hi
    obtain ⟨j, hj, ej⟩ := p2 i hi
    have q := h67 i hi
    rw [show fd_up M 89 1 (M 19 1) 20 = M 20 from fd_up_ne (by decide)]
    rw [ej] at q ⊢
    rw [fd_up_ne (by omega)]
    exact q
  have z := fd_l_hc89_19 (fd_up M 89 1 (M 19 1)) p1 p2 (by rw [fd_up_at, if_pos rfl]; exact hz) zz (M 19 1).toNat 0 (by rw [fd_up_at, if_pos rfl]; omega)
  rw [fd_up_at, if_pos rfl] at z
  exact z

theorem fd_l_hc147_19 (M : fd_M) (p1 : fd_HR M 148 149) (p2 : fd_HR M 20 21) (hz : 0 ≤ M 147 1 ∧ M 147 1 ≤ 10) (h67 : ∀ i : Nat, i < 10 → (0 ≤ M (M 20 i).toNat 6 ∧ M (M 20 i).toNat 6 ≤ 1) ∧ (0 ≤ M (M 20 i).toNat 7 ∧ M (M 20 i).toNat 7 ≤ 1)) : ∀ (n : Nat) (k : Nat) (hk : (k : Int) + n = M 147 1), fd_run 1 116 6 [fd_R 147, fd_R 19, fd_I ((k : Nat) : Int)] [] (fd_hcp M 148 20 k) (none) (fd_hcp M 148 20 (M 147 1).toNat) := by
  intro n
  induction n with
  | zero =>
    intro k hk
    have e1 : (fd_hcp M 148 20 k) 147 1 = M 147 1 := by rw [fd_hcp_fr p1 (by omega) k (by omega)]
    refine fd_u_blk 3 (C := fd_c116) (b := true) (L' := [fd_R 147, fd_R 19, fd_I ((k : Nat) : Int)]) (st' := [fd_I ((fd_hcp M 148 20 k) 147 1), fd_I ((k : Nat) : Int)]) (M' := (fd_hcp M 148 20 k)) rfl rfl (j := 9) rfl (rfl) ?_
    refine fd_u_br (C := fd_c116) (t := 21) (e := 10) (st' := []) (c := ((fd_hcp M 148 20 k) 147 1) ≤ ((k : Nat) : Int)) (b := (fd_rng ((k : Nat) : Int) && fd_rng ((fd_hcp M 148 20 k) 147 1))) rfl rfl rfl (fd_bA (fd_bR (by omega) (by omega)) (fd_bR (by omega) (by omega))) (fun h9 => ?_) (fun h9 => absurd h9 (by omega))
    refine fd_u_ret (C := fd_c116) (b := true) (r' := none) rfl rfl rfl (rfl) ?_ ?_
    · rfl
    · rw [show (M 147 1).toNat = k by omega]
  | succ n ih =>
    intro k hk
    have e1 : (fd_hcp M 148 20 k) 147 1 = M 147 1 := by rw [fd_hcp_fr p1 (by omega) k (by omega)]
    obtain ⟨j1, hj1, ej1⟩ := p1 k (by omega)
    obtain ⟨j2, hj2, ej2⟩ := p2 k (by omega)
    have er1 : (fd_hcp M 148 20 k) 148 k = M 148 k := by rw [fd_hcp_fr p1 (by omega) k (by omega)]
    have er2 : (fd_hcp M 148 20 k) 20 k = M 20 k := by rw [fd_hcp_fr p1 (by omega) k (by omega)]
    have ha : fd_scn ((fd_hcp M 148 20 k) 148 k).toNat := by rw [er1, ej1]; exact fd_scn_all.2.2 j1 hj1
    have hb : fd_scn ((fd_hcp M 148 20 k) 20 k).toNat := by rw [er2, ej2]; exact fd_scn_all.1 j2 hj2
    have hf : (fd_hcp M 148 20 k) ((fd_hcp M 148 20 k) 20 k).toNat = M (M 20 k).toNat := by rw [er2, fd_hcp_fr p1 (by omega) k (by omega)]
    refine fd_u_blk 3 (C := fd_c116) (b := true) (L' := [fd_R 147, fd_R 19, fd_I ((k : Nat) : Int)]) (st' := [fd_I ((fd_hcp M 148 20 k) 147 1), fd_I ((k : Nat) : Int)]) (M' := (fd_hcp M 148 20 k)) rfl rfl (j := 9) rfl (rfl) ?_
    refine fd_u_br (C := fd_c116) (t := 21) (e := 10) (st' := []) (c := ((fd_hcp M 148 20 k) 147 1) ≤ ((k : Nat) : Int)) (b := (fd_rng ((k : Nat) : Int) && fd_rng ((fd_hcp M 148 20 k) 147 1))) rfl rfl rfl (fd_bA (fd_bR (by omega) (by omega)) (fd_bR (by omega) (by omega))) (fun h9 => absurd h9 (by omega)) (fun h9 => ?_)
    refine fd_u_blk 8 (C := fd_c116) (b := (((fd_inb ((k : Nat) : Int) 10 || fd_isA true (fd_hcp M 148 20 k) 148 24 ((k : Nat) : Int)) && Nat.blt ((fd_hcp M 148 20 k) 148 k).toNat 1000) && (((fd_inb ((k : Nat) : Int) 10 || fd_isA true (fd_hcp M 148 20 k) 20 24 ((k : Nat) : Int)) && Nat.blt ((fd_hcp M 148 20 k) 20 k).toNat 1000) && true))) (L' := [fd_R 147, fd_R 19, fd_I ((k : Nat) : Int)]) (st' := [fd_R (((fd_hcp M 148 20 k) 20 k).toNat), fd_R (((fd_hcp M 148 20 k) 148 k).toNat)]) (M' := (fd_hcp M 148 20 k)) rfl rfl (j := 18) rfl (fd_bA (fd_bA (by rw [fd_bI (i := ((k : Nat) : Int)) (n := 10) (by omega) (by omega)]; rfl) (by rw [Nat.blt_eq]; omega)) (fd_bA (fd_bA (by rw [fd_bI (i := ((k : Nat) : Int)) (n := 10) (by omega) (by omega)]; rfl) (by rw [Nat.blt_eq]; omega)) (rfl))) ?_
    refine fd_u_call (C := fd_c116) (d0 := 0) (mid := 143) (np := 2) (args := [fd_R (((fd_hcp M 148 20 k) 148 k).toNat), fd_R (((fd_hcp M 148 20 k) 20 k).toNat)]) (r1 := none) (M1 := (fd_cps (fd_hcp M 148 20 k) ((fd_hcp M 148 20 k) 148 k).toNat ((fd_hcp M 148 20 k) 20 k).toNat)) (st' := []) rfl rfl rfl rfl rfl rfl (by have q1 := ha.2.2.2.2.2; have q2 := hb.2.2.2.2.2; simp [fd_inv, fd_n1, fd_cw, fd_isO, fd_al, ha.1, hb.1, Nat.blt_eq, show fd_mc 143 = 5 from rfl]; omega) (fd_s_copyFrom (fd_hcp M 148 20 k) ((fd_hcp M 148 20 k) 148 k).toNat ((fd_hcp M 148 20 k) 20 k).toNat ha hb (by omega) (by rw [hf]; exact (h67 k (by omega)).1) (by rw [hf]; exact (h67 k (by omega)).2)) rfl (by omega) ?_
    refine fd_u_blk 1 (C := fd_c116) (b := true) (L' := [fd_R 147, fd_R 19, fd_I (((k + 1) : Nat) : Int)]) (st' := []) (M' := (fd_cps (fd_hcp M 148 20 k) ((fd_hcp M 148 20 k) 148 k).toNat ((fd_hcp M 148 20 k) 20 k).toNat)) rfl rfl (j := 20) rfl (rfl) ?_
    refine fd_u_jmp (C := fd_c116) (j := 6) (st' := []) rfl rfl (b := true) rfl rfl ?_
    rw [er1, er2]
    exact ih (k + 1) (by omega)

theorem fd_s_hc147_19 (M : fd_M) (p1 : fd_HR M 148 149) (p2 : fd_HR M 20 21) (hz : 0 ≤ M 19 1 ∧ M 19 1 ≤ 10) (h67 : ∀ i : Nat, i < 10 → (0 ≤ M (M 20 i).toNat 6 ∧ M (M 20 i).toNat 6 ≤ 1) ∧ (0 ≤ M (M 20 i).toNat 7 ∧ M (M 20 i).toNat 7 ≤ 1)) : fd_call 1 116 [fd_R 147, fd_R 19] M (none) (fd_hcp (fd_up M 147 1 (M 19 1)) 148 20 (M 19 1).toNat) := by
  refine fd_u_in (L := [fd_R 147, fd_R 19, fd_R 1003]) rfl ?_
  refine fd_u_blk 6 (C := fd_c116) (b := true) (L' := [fd_R 147, fd_R 19, fd_I 0]) (st' := []) (M' := (fd_up M 147 1 (M 19 1))) rfl rfl (j := 6) rfl (rfl) ?_
  have zz : ∀ i : Nat, i < 10 → (0 ≤ fd_up M 147 1 (M 19 1) (fd_up M 147 1 (M 19 1) 20 i).toNat 6 ∧ fd_up M 147 1 (M 19 1) (fd_up M 147 1 (M 19 1) 20 i).toNat 6 ≤ 1) ∧ (0 ≤ fd_up M 147 1 (M 19 1) (fd_up M 147 1 (M 19 1) 20 i).toNat 7 ∧ fd_up M 147 1 (M 19 1) (fd_up M 147 1 (M 19 1) 20 i).toNat 7 ≤ 1) := by
    intro i hi
    obtain ⟨j, hj, ej⟩ := p2 i hi
    have q := h67 i hi
    rw [show fd_up M 147 1 (M 19 1) 20 = M 20 from fd_up_ne (by decide)]
    rw [ej] at q ⊢
    rw [fd_up_ne (by omega)]
    exact q
  have z := fd_l_hc147_19 (fd_up M 147 1 (M 19 1)) p1 p2 (by rw [fd_up_at, if_pos rfl]; exact hz) zz (M 19 1).toNat 0 (by rw [fd_up_at, if_pos rfl]; omega)
  rw [fd_up_at, if_pos rfl] at z
  exact z

theorem fd_l_hc19_89 (M : fd_M) (p1 : fd_HR M 20 21) (p2 : fd_HR M 90 91) (hz : 0 ≤ M 19 1 ∧ M 19 1 ≤ 10) (h67 : ∀ i : Nat, i < 10 → (0 ≤ M (M 90 i).toNat 6 ∧ M (M 90 i).toNat 6 ≤ 1) ∧ (0 ≤ M (M 90 i).toNat 7 ∧ M (M 90 i).toNat 7 ≤ 1)) : ∀ (n : Nat) (k : Nat) (hk : (k : Int) + n = M 19 1), fd_run 1 116 6 [fd_R 19, fd_R 89, fd_I ((k : Nat) : Int)] [] (fd_hcp M 20 90 k) (none) (fd_hcp M 20 90 (M 19 1).toNat) := by
  intro n
  induction n with
  | zero =>
    intro k hk
    have e1 : (fd_hcp M 20 90 k) 19 1 = M 19 1 := by rw [fd_hcp_fr p1 (by omega) k (by omega)]
    refine fd_u_blk 3 (C := fd_c116) (b := true) (L' := [fd_R 19, fd_R 89, fd_I ((k : Nat) : Int)]) (st' := [fd_I ((fd_hcp M 20 90 k) 19 1), fd_I ((k : Nat) : Int)]) (M' := (fd_hcp M 20 90 k)) rfl rfl (j := 9) rfl (rfl) ?_
    refine fd_u_br (C := fd_c116) (t := 21) (e := 10) (st' := []) (c := ((fd_hcp M 20 90 k) 19 1) ≤ ((k : Nat) : Int)) (b := (fd_rng ((k : Nat) : Int) && fd_rng ((fd_hcp M 20 90 k) 19 1))) rfl rfl rfl (fd_bA (fd_bR (by omega) (by omega)) (fd_bR (by omega) (by omega))) (fun h9 => ?_) (fun h9 => absurd h9 (by omega))
    refine fd_u_ret (C := fd_c116) (b := true) (r' := none) rfl rfl rfl (rfl) ?_ ?_
    · rfl
    · rw [show (M 19 1).toNat = k by omega]
  | succ n ih =>
    intro k hk
    have e1 : (fd_hcp M 20 90 k) 19 1 = M 19 1 := by rw [fd_hcp_fr p1 (by omega) k (by omega)]
    obtain ⟨j1, hj1, ej1⟩ := p1 k (by omega)
    obtain ⟨j2, hj2, ej2⟩ := p2 k (by omega)
    have er1 : (fd_hcp M 20 90 k) 20 k = M 20 k := by rw [fd_hcp_fr p1 (by omega) k (by omega)]
    have er2 : (fd_hcp M 20 90 k) 90 k = M 90 k := by rw [fd_hcp_fr p1 (by omega) k (by omega)]
    have ha : fd_scn ((fd_hcp M 20 90 k) 20 k).toNat := by rw [er1, ej1]; exact fd_scn_all.1 j1 hj1
    have hb : fd_scn ((fd_hcp M 20 90 k) 90 k).toNat := by rw [er2, ej2]; exact fd_scn_all.2.1 j2 hj2
    have hf : (fd_hcp M 20 90 k) ((fd_hcp M 20 90 k) 90 k).toNat = M (M 90 k).toNat := by rw [er2, fd_hcp_fr p1 (by omega) k (by omega)]
    refine fd_u_blk 3 (C := fd_c116) (b := true) (L' := [fd_R 19, fd_R 89, fd_I ((k : Nat) : Int)]) (st' := [fd_I ((fd_hcp M 20 90 k) 19 1), fd_I ((k : Nat) : Int)]) (M' := (fd_hcp M 20 90 k)) rfl rfl (j := 9) rfl (rfl) ?_
    refine fd_u_br (C := fd_c116) (t := 21) (e := 10) (st' := []) (c := ((fd_hcp M 20 90 k) 19 1) ≤ ((k : Nat) : Int)) (b := (fd_rng ((k : Nat) : Int) && fd_rng ((fd_hcp M 20 90 k) 19 1))) rfl rfl rfl (fd_bA (fd_bR (by omega) (by omega)) (fd_bR (by omega) (by omega))) (fun h9 => absurd h9 (by omega)) (fun h9 => ?_)
    refine fd_u_blk 8 (C := fd_c116) (b := (((fd_inb ((k : Nat) : Int) 10 || fd_isA true (fd_hcp M 20 90 k) 20 24 ((k : Nat) : Int)) && Nat.blt ((fd_hcp M 20 90 k) 20 k).toNat 1000) && (((fd_inb ((k : Nat) : Int) 10 || fd_isA true (fd_hcp M 20 90 k) 90 24 ((k : Nat) : Int)) && Nat.blt ((fd_hcp M 20 90 k) 90 k).toNat 1000) && true))) (L' := [fd_R 19, fd_R 89, fd_I ((k : Nat) : Int)]) (st' := [fd_R (((fd_hcp M 20 90 k) 90 k).toNat), fd_R (((fd_hcp M 20 90 k) 20 k).toNat)]) (M' := (fd_hcp M 20 90 k)) rfl rfl (j := 18) rfl (fd_bA (fd_bA (by rw [fd_bI (i := ((k : Nat) : Int)) (n := 10) (by omega) (by omega)]; rfl) (by rw [Nat.blt_eq]; omega)) (fd_bA (fd_bA (by rw [fd_bI (i := ((k : Nat) : Int)) (n := 10) (by omega) (by omega)]; rfl) (by rw [Nat.blt_eq]; omega)) (rfl))) ?_
    refine fd_u_call (C := fd_c116) (d0 := 0) (mid := 143) (np := 2) (args := [fd_R (((fd_hcp M 20 90 k) 20 k).toNat), fd_R (((fd_hcp M 20 90 k) 90 k).toNat)]) (r1 := none) (M1 := (fd_cps (fd_hcp M 20 90 k) ((fd_hcp M 20 90 k) 20 k).toNat ((fd_hcp M 20 90 k) 90 k).toNat)) (st' := []) rfl rfl rfl rfl rfl rfl (by have q1 := ha.2.2.2.2.2; have q2 := hb.2.2.2.2.2; simp [fd_inv, fd_n1, fd_cw, fd_isO, fd_al, ha.1, hb.1, Nat.blt_eq, show fd_mc 143 = 5 from rfl]; omega) (fd_s_copyFrom (fd_hcp M 20 90 k) ((fd_hcp M 20 90 k) 20 k).toNat ((fd_hcp M 20 90 k) 90 k).toNat ha hb (by omega) (by rw [hf]; exact (h67 k (by omega)).1) (by rw [hf]; exact (h67 k (by omega)).2)) rfl (by omega) ?_
    refine fd_u_blk 1 (C := fd_c116) (b := true) (L' := [fd_R 19, fd_R 89, fd_I (((k + 1) : Nat) : Int)]) (st' := []) (M' := (fd_cps (fd_hcp M 20 90 k) ((fd_hcp M 20 90 k) 20 k).toNat ((fd_hcp M 20 90 k) 90 k).toNat)) rfl rfl (j := 20) rfl (rfl) ?_
    refine fd_u_jmp (C := fd_c116) (j := 6) (st' := []) rfl rfl (b := true) rfl rfl ?_
    rw [er1, er2]
    exact ih (k + 1) (by omega)

theorem fd_s_hc19_89 (M : fd_M) (p1 : fd_HR M 20 21) (p2 : fd_HR M 90 91) (hz : 0 ≤ M 89 1 ∧ M 89 1 ≤ 10) (h67 : ∀ i : Nat, i < 10 → (0 ≤ M (M 90 i).toNat 6 ∧ M (M 90 i).toNat 6 ≤ 1) ∧ (0 ≤ M (M 90 i).toNat 7 ∧ M (M 90 i).toNat 7 ≤ 1)) : fd_call 1 116 [fd_R 19, fd_R 89] M (none) (fd_hcp (fd_up M 19 1 (M 89 1)) 20 90 (M 89 1).toNat) := by
  refine fd_u_in (L := [fd_R 19, fd_R 89, fd_R 1003]) rfl ?_
  refine fd_u_blk 6 (C := fd_c116) (b := true) (L' := [fd_R 19, fd_R 89, fd_I 0]) (st' := []) (M' := (fd_up M 19 1 (M 89 1))) rfl rfl (j := 6) rfl (rfl) ?_
  have zz : ∀ i : Nat, i < 10 → (0 ≤ fd_up M 19 1 (M 89 1) (fd_up M 19 1 (M 89 1) 90 i).toNat 6 ∧ fd_up M 19 1 (M 89 1) (fd_up M 19 1 (M 89 1) 90 i).toNat 6 ≤ 1) ∧ (0 ≤ fd_up M 19 1 (M 89 1) (fd_up M 19 1 (M 89 1) 90 i).toNat 7 ∧ fd_up M 19 1 (M 89 1) (fd_up M 19 1 (M 89 1) 90 i).toNat 7 ≤ 1) := by
    intro i hi
    obtain ⟨j, hj, ej⟩ := p2 i hi
    have q := h67 i hi
    rw [show fd_up M 19 1 (M 89 1) 90 = M 90 from fd_up_ne (by decide)]
    rw [ej] at q ⊢
    rw [fd_up_ne (by omega)]
    exact q
  have z := fd_l_hc19_89 (fd_up M 19 1 (M 89 1)) p1 p2 (by rw [fd_up_at, if_pos rfl]; exact hz) zz (M 89 1).toNat 0 (by rw [fd_up_at, if_pos rfl]; omega)
  rw [fd_up_at, if_pos rfl] at z
  exact z

theorem fd_l_hc19_147 (M : fd_M) (p1 : fd_HR M 20 21) (p2 : fd_HR M 148 149) (hz : 0 ≤ M 19 1 ∧ M 19 1 ≤ 10) (h67 : ∀ i : Nat, i < 10 → (0 ≤ M (M 148 i).toNat 6 ∧ M (M 148 i).toNat 6 ≤ 1) ∧ (0 ≤ M (M 148 i).toNat 7 ∧ M (M 148 i).toNat 7 ≤ 1)) : ∀ (n : Nat) (k : Nat) (hk : (k : Int) + n = M 19 1), fd_run 1 116 6 [fd_R 19, fd_R 147, fd_I ((k : Nat) : Int)] [] (fd_hcp M 20 148 k) (none) (fd_hcp M 20 148 (M 19 1).toNat) := by
  intro n
  induction n with
  | zero =>
    intro k hk
    have e1 : (fd_hcp M 20 148 k) 19 1 = M 19 1 := by rw [fd_hcp_fr p1 (by omega) k (by omega)]
    refine fd_u_blk 3 (C := fd_c116) (b := true) (L' := [fd_R 19, fd_R 147, fd_I ((k : Nat) : Int)]) (st' := [fd_I ((fd_hcp M 20 148 k) 19 1), fd_I ((k : Nat) : Int)]) (M' := (fd_hcp M 20 148 k)) rfl rfl (j := 9) rfl (rfl) ?_
    refine fd_u_br (C := fd_c116) (t := 21) (e := 10) (st' := []) (c := ((fd_hcp M 20 148 k) 19 1) ≤ ((k : Nat) : Int)) (b := (fd_rng ((k : Nat) : Int) && fd_rng ((fd_hcp M 20 148 k) 19 1))) rfl rfl rfl (fd_bA (fd_bR (by omega) (by omega)) (fd_bR (by omega) (by omega))) (fun h9 => ?_) (fun h9 => absurd h9 (by omega))
    refine fd_u_ret (C := fd_c116) (b := true) (r' := none) rfl rfl rfl (rfl) ?_ ?_
    · rfl
    · rw [show (M 19 1).toNat = k by omega]
  | succ n ih =>
    intro k hk
    have e1 : (fd_hcp M 20 148 k) 19 1 = M 19 1 := by rw [fd_hcp_fr p1 (by omega) k (by omega)]
    obtain ⟨j1, hj1, ej1⟩ := p1 k (by omega)
    obtain ⟨j2, hj2, ej2⟩ := p2 k (by omega)
    have er1 : (fd_hcp M 20 148 k) 20 k = M 20 k := by rw [fd_hcp_fr p1 (by omega) k (by omega)]
    have er2 : (fd_hcp M 20 148 k) 148 k = M 148 k := by rw [fd_hcp_fr p1 (by omega) k (by omega)]
    have ha : fd_scn ((fd_hcp M 20 148 k) 20 k).toNat := by rw [er1, ej1]; exact fd_scn_all.1 j1 hj1
    have hb : fd_scn ((fd_hcp M 20 148 k) 148 k).toNat := by rw [er2, ej2]; exact fd_scn_all.2.2 j2 hj2
    have hf : (fd_hcp M 20 148 k) ((fd_hcp M 20 148 k) 148 k).toNat = M (M 148 k).toNat := by rw [er2, fd_hcp_fr p1 (by omega) k (by omega)]
    refine fd_u_blk 3 (C := fd_c116) (b := true) (L' := [fd_R 19, fd_R 147, fd_I ((k : Nat) : Int)]) (st' := [fd_I ((fd_hcp M 20 148 k) 19 1), fd_I ((k : Nat) : Int)]) (M' := (fd_hcp M 20 148 k)) rfl rfl (j := 9) rfl (rfl) ?_
    refine fd_u_br (C := fd_c116) (t := 21) (e := 10) (st' := []) (c := ((fd_hcp M 20 148 k) 19 1) ≤ ((k : Nat) : Int)) (b := (fd_rng ((k : Nat) : Int) && fd_rng ((fd_hcp M 20 148 k) 19 1))) rfl rfl rfl (fd_bA (fd_bR (by omega) (by omega)) (fd_bR (by omega) (by omega))) (fun h9 => absurd h9 (by omega)) (fun h9 => ?_)
    refine fd_u_blk 8 (C := fd_c116) (b := (((fd_inb ((k : Nat) : Int) 10 || fd_isA true (fd_hcp M 20 148 k) 20 24 ((k : Nat) : Int)) && Nat.blt ((fd_hcp M 20 148 k) 20 k).toNat 1000) && (((fd_inb ((k : Nat) : Int) 10 || fd_isA true (fd_hcp M 20 148 k) 148 24 ((k : Nat) : Int)) && Nat.blt ((fd_hcp M 20 148 k) 148 k).toNat 1000) && true))) (L' := [fd_R 19, fd_R 147, fd_I ((k : Nat) : Int)]) (st' := [fd_R (((fd_hcp M 20 148 k) 148 k).toNat), fd_R (((fd_hcp M 20 148 k) 20 k).toNat)]) (M' := (fd_hcp M 20 148 k)) rfl rfl (j := 18) rfl (fd_bA (fd_bA (by rw [fd_bI (i := ((k : Nat) : Int)) (n := 10) (by omega) (by omega)]; rfl) (by rw [Nat.blt_eq]; omega)) (fd_bA (fd_bA (by rw [fd_bI (i := ((k : Nat) : Int)) (n := 10) (by omega) (by omega)]; rfl) (by rw [Nat.blt_eq]; omega)) (rfl))) ?_
    refine fd_u_call (C := fd_c116) (d0 := 0) (mid := 143) (np := 2) (args := [fd_R (((fd_hcp M 20 148 k) 20 k).toNat), fd_R (((fd_hcp M 20 148 k) 148 k).toNat)]) (r1 := none) (M1 := (fd_cps (fd_hcp M 20 148 k) ((fd_hcp M 20 148 k) 20 k).toNat ((fd_hcp M 20 148 k) 148 k).toNat)) (st' := []) rfl rfl rfl rfl rfl rfl (by have q1 := ha.2.2.2.2.2; have q2 := hb.2.2.2.2.2; simp [fd_inv, fd_n1, fd_cw, fd_isO, fd_al, ha.1, hb.1, Nat.blt_eq, show fd_mc 143 = 5 from rfl]; omega) (fd_s_copyFrom (fd_hcp M 20 148 k) ((fd_hcp M 20 148 k) 20 k).toNat ((fd_hcp M 20 148 k) 148 k).toNat ha hb (by omega) (by rw [hf]; exact (h67 k (by omega)).1) (by rw [hf]; exact (h67 k (by omega)).2)) rfl (by omega) ?_
    refine fd_u_blk 1 (C := fd_c116) (b := true) (L' := [fd_R 19, fd_R 147, fd_I (((k + 1) : Nat) : Int)]) (st' := []) (M' := (fd_cps (fd_hcp M 20 148 k) ((fd_hcp M 20 148 k) 20 k).toNat ((fd_hcp M 20 148 k) 148 k).toNat)) rfl rfl (j := 20) rfl (rfl) ?_
    refine fd_u_jmp (C := fd_c116) (j := 6) (st' := []) rfl rfl (b := true) rfl rfl ?_
    rw [er1, er2]
    exact ih (k + 1) (by omega)

theorem fd_s_hc19_147 (M : fd_M) (p1 : fd_HR M 20 21) (p2 : fd_HR M 148 149) (hz : 0 ≤ M 147 1 ∧ M 147 1 ≤ 10) (h67 : ∀ i : Nat, i < 10 → (0 ≤ M (M 148 i).toNat 6 ∧ M (M 148 i).toNat 6 ≤ 1) ∧ (0 ≤ M (M 148 i).toNat 7 ∧ M (M 148 i).toNat 7 ≤ 1)) : fd_call 1 116 [fd_R 19, fd_R 147] M (none) (fd_hcp (fd_up M 19 1 (M 147 1)) 20 148 (M 147 1).toNat) := by
  refine fd_u_in (L := [fd_R 19, fd_R 147, fd_R 1003]) rfl ?_
  refine fd_u_blk 6 (C := fd_c116) (b := true) (L' := [fd_R 19, fd_R 147, fd_I 0]) (st' := []) (M' := (fd_up M 19 1 (M 147 1))) rfl rfl (j := 6) rfl (rfl) ?_
  have zz : ∀ i : Nat, i < 10 → (0 ≤ fd_up M 19 1 (M 147 1) (fd_up M 19 1 (M 147 1) 148 i).toNat 6 ∧ fd_up M 19 1 (M 147 1) (fd_up M 19 1 (M 147 1) 148 i).toNat 6 ≤ 1) ∧ (0 ≤ fd_up M 19 1 (M 147 1) (fd_up M 19 1 (M 147 1) 148 i).toNat 7 ∧ fd_up M 19 1 (M 147 1) (fd_up M 19 1 (M 147 1) 148 i).toNat 7 ≤ 1) := by
    intro i hi
    obtain ⟨j, hj, ej⟩ := p2 i hi
    have q := h67 i hi
    rw [show fd_up M 19 1 (M 147 1) 148 = M 148 from fd_up_ne (by decide)]
    rw [ej] at q ⊢
    rw [fd_up_ne (by omega)]
    exact q
  have z := fd_l_hc19_147 (fd_up M 19 1 (M 147 1)) p1 p2 (by rw [fd_up_at, if_pos rfl]; exact hz) zz (M 147 1).toNat 0 (by rw [fd_up_at, if_pos rfl]; omega)
  rw [fd_up_at, if_pos rfl] at z
  exact z

def fd_take0 (M : fd_M) : fd_M := fd_up (fd_hcp (fd_up (fd_cps M 84 14) 89 1 (M 19 1)) 90 20 (M 19 1).toNat) 83 2 1
def fd_give0 (M : fd_M) : fd_M := fd_hcp (fd_up (fd_cps M 14 84) 19 1 (M 89 1)) 20 90 (M 89 1).toNat
theorem fd_s_take0 (M : fd_M) (p1 : fd_HR M 90 91) (p2 : fd_HR M 20 21) (hz : 0 ≤ M 19 1 ∧ M 19 1 ≤ 10) (h6 : 0 ≤ M 14 6 ∧ M 14 6 ≤ 1) (h7 : 0 ≤ M 14 7 ∧ M 14 7 ≤ 1) (h67 : ∀ i : Nat, i < 10 → (0 ≤ M (M 20 i).toNat 6 ∧ M (M 20 i).toNat 6 ≤ 1) ∧ (0 ≤ M (M 20 i).toNat 7 ∧ M (M 20 i).toNat 7 ≤ 1)) : fd_call 2 118 [fd_R 83, fd_R 14, fd_R 19] M (none) (fd_take0 M) := by
  refine fd_u_in (L := [fd_R 83, fd_R 14, fd_R 19]) rfl ?_
  have zz : ∀ i : Nat, i < 10 → (0 ≤ fd_cps M 84 14 (M 20 i).toNat 6 ∧ fd_cps M 84 14 (M 20 i).toNat 6 ≤ 1) ∧ (0 ≤ fd_cps M 84 14 (M 20 i).toNat 7 ∧ fd_cps M 84 14 (M 20 i).toNat 7 ≤ 1) := by
    intro i hi
    obtain ⟨j, hj, ej⟩ := p2 i hi
    have q := h67 i hi
    rw [ej] at q ⊢
    rw [fd_cps_fr (by omega)]
    exact q
  refine fd_u_blk 3 (C := fd_c118) (b := true) (L' := [fd_R 83, fd_R 14, fd_R 19]) (st' := [fd_R 14, fd_R 84]) (M' := M) rfl rfl (j := 3) rfl (rfl) ?_
  refine fd_u_call (C := fd_c118) (d0 := 0) (mid := 143) (np := 2) (args := [fd_R 84, fd_R 14]) (r1 := none) (M1 := (fd_cps M 84 14)) (st' := []) rfl rfl rfl rfl rfl rfl (rfl) (fd_s_copyFrom M 84 14 fd_scn_n.2.1 fd_scn_n.1 (by omega) h6 h7) rfl (by omega) ?_
  refine fd_u_blk 3 (C := fd_c118) (b := true) (L' := [fd_R 83, fd_R 14, fd_R 19]) (st' := [fd_R 19, fd_R 89]) (M' := (fd_cps M 84 14)) rfl rfl (j := 7) rfl (rfl) ?_
  refine fd_u_call (C := fd_c118) (d0 := 1) (mid := 116) (np := 2) (args := [fd_R 89, fd_R 19]) (r1 := none) (M1 := (fd_hcp (fd_up (fd_cps M 84 14) 89 1 (M 19 1)) 90 20 (M 19 1).toNat)) (st' := []) rfl rfl rfl rfl rfl rfl (rfl) (fd_s_hc89_19 (fd_cps M 84 14) p1 p2 hz zz) rfl (by omega) ?_
  refine fd_u_blk 3 (C := fd_c118) (b := true) (L' := [fd_R 83, fd_R 14, fd_R 19]) (st' := []) (M' := (fd_up (fd_hcp (fd_up (fd_cps M 84 14) 89 1 (M 19 1)) 90 20 (M 19 1).toNat) 83 2 1)) rfl rfl (j := 11) rfl (rfl) ?_
  refine fd_u_ret (C := fd_c118) (b := true) (r' := none) rfl rfl rfl (rfl) ?_ ?_
  · rfl
  · rfl

theorem fd_s_give0 (M : fd_M) (p1 : fd_HR M 20 21) (p2 : fd_HR M 90 91) (hz : 0 ≤ M 89 1 ∧ M 89 1 ≤ 10) (h6 : 0 ≤ M 84 6 ∧ M 84 6 ≤ 1) (h7 : 0 ≤ M 84 7 ∧ M 84 7 ≤ 1) (h67 : ∀ i : Nat, i < 10 → (0 ≤ M (M 90 i).toNat 6 ∧ M (M 90 i).toNat 6 ≤ 1) ∧ (0 ≤ M (M 90 i).toNat 7 ∧ M (M 90 i).toNat 7 ≤ 1)) : fd_call 2 119 [fd_R 83, fd_R 14, fd_R 19] M (none) (fd_give0 M) := by
  refine fd_u_in (L := [fd_R 83, fd_R 14, fd_R 19]) rfl ?_
  have zz : ∀ i : Nat, i < 10 → (0 ≤ fd_cps M 14 84 (M 90 i).toNat 6 ∧ fd_cps M 14 84 (M 90 i).toNat 6 ≤ 1) ∧ (0 ≤ fd_cps M 14 84 (M 90 i).toNat 7 ∧ fd_cps M 14 84 (M 90 i).toNat 7 ≤ 1) := by
    intro i hi
    obtain ⟨j, hj, ej⟩ := p2 i hi
    have q := h67 i hi
    rw [ej] at q ⊢
    rw [fd_cps_fr (by omega)]
    exact q
  refine fd_u_blk 3 (C := fd_c119) (b := true) (L' := [fd_R 83, fd_R 14, fd_R 19]) (st' := [fd_R 84, fd_R 14]) (M' := M) rfl rfl (j := 3) rfl (rfl) ?_
  refine fd_u_call (C := fd_c119) (d0 := 0) (mid := 143) (np := 2) (args := [fd_R 14, fd_R 84]) (r1 := none) (M1 := (fd_cps M 14 84)) (st' := []) rfl rfl rfl rfl rfl rfl (rfl) (fd_s_copyFrom M 14 84 fd_scn_n.1 fd_scn_n.2.1 (by omega) h6 h7) rfl (by omega) ?_
  refine fd_u_blk 3 (C := fd_c119) (b := true) (L' := [fd_R 83, fd_R 14, fd_R 19]) (st' := [fd_R 89, fd_R 19]) (M' := (fd_cps M 14 84)) rfl rfl (j := 7) rfl (rfl) ?_
  refine fd_u_call (C := fd_c119) (d0 := 1) (mid := 116) (np := 2) (args := [fd_R 19, fd_R 89]) (r1 := none) (M1 := (fd_hcp (fd_up (fd_cps M 14 84) 19 1 (M 89 1)) 20 90 (M 89 1).toNat)) (st' := []) rfl rfl rfl rfl rfl rfl (rfl) (fd_s_hc19_89 (fd_cps M 14 84) p1 p2 hz zz) rfl (by omega) ?_
  refine fd_u_ret (C := fd_c119) (b := true) (r' := none) rfl rfl rfl (rfl) ?_ ?_
  · rfl
  · rfl

def fd_take1 (M : fd_M) : fd_M := fd_up (fd_hcp (fd_up (fd_cps M 142 14) 147 1 (M 19 1)) 148 20 (M 19 1).toNat) 141 2 1
def fd_give1 (M : fd_M) : fd_M := fd_hcp (fd_up (fd_cps M 14 142) 19 1 (M 147 1)) 20 148 (M 147 1).toNat
theorem fd_s_take1 (M : fd_M) (p1 : fd_HR M 148 149) (p2 : fd_HR M 20 21) (hz : 0 ≤ M 19 1 ∧ M 19 1 ≤ 10) (h6 : 0 ≤ M 14 6 ∧ M 14 6 ≤ 1) (h7 : 0 ≤ M 14 7 ∧ M 14 7 ≤ 1) (h67 : ∀ i : Nat, i < 10 → (0 ≤ M (M 20 i).toNat 6 ∧ M (M 20 i).toNat 6 ≤ 1) ∧ (0 ≤ M (M 20 i).toNat 7 ∧ M (M 20 i).toNat 7 ≤ 1)) : fd_call 2 118 [fd_R 141, fd_R 14, fd_R 19] M (none) (fd_take1 M) := by
  refine fd_u_in (L := [fd_R 141, fd_R 14, fd_R 19]) rfl ?_
  have zz : ∀ i : Nat, i < 10 → (0 ≤ fd_cps M 142 14 (M 20 i).toNat 6 ∧ fd_cps M 142 14 (M 20 i).toNat 6 ≤ 1) ∧ (0 ≤ fd_cps M 142 14 (M 20 i).toNat 7 ∧ fd_cps M 142 14 (M 20 i).toNat 7 ≤ 1) := by
    intro i hi
    obtain ⟨j, hj, ej⟩ := p2 i hi
    have q := h67 i hi
    rw [ej] at q ⊢
    rw [fd_cps_fr (by omega)]
    exact q
  refine fd_u_blk 3 (C := fd_c118) (b := true) (L' := [fd_R 141, fd_R 14, fd_R 19]) (st' := [fd_R 14, fd_R 142]) (M' := M) rfl rfl (j := 3) rfl (rfl) ?_
  refine fd_u_call (C := fd_c118) (d0 := 0) (mid := 143) (np := 2) (args := [fd_R 142, fd_R 14]) (r1 := none) (M1 := (fd_cps M 142 14)) (st' := []) rfl rfl rfl rfl rfl rfl (rfl) (fd_s_copyFrom M 142 14 fd_scn_n.2.2 fd_scn_n.1 (by omega) h6 h7) rfl (by omega) ?_
  refine fd_u_blk 3 (C := fd_c118) (b := true) (L' := [fd_R 141, fd_R 14, fd_R 19]) (st' := [fd_R 19, fd_R 147]) (M' := (fd_cps M 142 14)) rfl rfl (j := 7) rfl (rfl) ?_
  refine fd_u_call (C := fd_c118) (d0 := 1) (mid := 116) (np := 2) (args := [fd_R 147, fd_R 19]) (r1 := none) (M1 := (fd_hcp (fd_up (fd_cps M 142 14) 147 1 (M 19 1)) 148 20 (M 19 1).toNat)) (st' := []) rfl rfl rfl rfl rfl rfl (rfl) (fd_s_hc147_19 (fd_cps M 142 14) p1 p2 hz zz) rfl (by omega) ?_
  refine fd_u_blk 3 (C := fd_c118) (b := true) (L' := [fd_R 141, fd_R 14, fd_R 19]) (st' := []) (M' := (fd_up (fd_hcp (fd_up (fd_cps M 142 14) 147 1 (M 19 1)) 148 20 (M 19 1).toNat) 141 2 1)) rfl rfl (j := 11) rfl (rfl) ?_
  refine fd_u_ret (C := fd_c118) (b := true) (r' := none) rfl rfl rfl (rfl) ?_ ?_
  · rfl
  · rfl

theorem fd_s_give1 (M : fd_M) (p1 : fd_HR M 20 21) (p2 : fd_HR M 148 149) (hz : 0 ≤ M 147 1 ∧ M 147 1 ≤ 10) (h6 : 0 ≤ M 142 6 ∧ M 142 6 ≤ 1) (h7 : 0 ≤ M 142 7 ∧ M 142 7 ≤ 1) (h67 : ∀ i : Nat, i < 10 → (0 ≤ M (M 148 i).toNat 6 ∧ M (M 148 i).toNat 6 ≤ 1) ∧ (0 ≤ M (M 148 i).toNat 7 ∧ M (M 148 i).toNat 7 ≤ 1)) : fd_call 2 119 [fd_R 141, fd_R 14, fd_R 19] M (none) (fd_give1 M) := by
  refine fd_u_in (L := [fd_R 141, fd_R 14, fd_R 19]) rfl ?_
  have zz : ∀ i : Nat, i < 10 → (0 ≤ fd_cps M 14 142 (M 148 i).toNat 6 ∧ fd_cps M 14 142 (M 148 i).toNat 6 ≤ 1) ∧ (0 ≤ fd_cps M 14 142 (M 148 i).toNat 7 ∧ fd_cps M 14 142 (M 148 i).toNat 7 ≤ 1) := by
    intro i hi
    obtain ⟨j, hj, ej⟩ := p2 i hi
    have q := h67 i hi
    rw [ej] at q ⊢
    rw [fd_cps_fr (by omega)]
    exact q
  refine fd_u_blk 3 (C := fd_c119) (b := true) (L' := [fd_R 141, fd_R 14, fd_R 19]) (st' := [fd_R 142, fd_R 14]) (M' := M) rfl rfl (j := 3) rfl (rfl) ?_
  refine fd_u_call (C := fd_c119) (d0 := 0) (mid := 143) (np := 2) (args := [fd_R 14, fd_R 142]) (r1 := none) (M1 := (fd_cps M 14 142)) (st' := []) rfl rfl rfl rfl rfl rfl (rfl) (fd_s_copyFrom M 14 142 fd_scn_n.1 fd_scn_n.2.2 (by omega) h6 h7) rfl (by omega) ?_
  refine fd_u_blk 3 (C := fd_c119) (b := true) (L' := [fd_R 141, fd_R 14, fd_R 19]) (st' := [fd_R 147, fd_R 19]) (M' := (fd_cps M 14 142)) rfl rfl (j := 7) rfl (rfl) ?_
  refine fd_u_call (C := fd_c119) (d0 := 1) (mid := 116) (np := 2) (args := [fd_R 19, fd_R 147]) (r1 := none) (M1 := (fd_hcp (fd_up (fd_cps M 14 142) 19 1 (M 147 1)) 20 148 (M 147 1).toNat)) (st' := []) rfl rfl rfl rfl rfl rfl (rfl) (fd_s_hc19_147 (fd_cps M 14 142) p1 p2 hz zz) rfl (by omega) ?_
  refine fd_u_ret (C := fd_c119) (b := true) (r' := none) rfl rfl rfl (rfl) ?_ ?_
  · rfl
  · rfl

def fd_IM (M : fd_M) : Prop := M 71 0 = 83 ∧ M 71 1 = 141 ∧ (∀ i : Nat, i < 10 → M 90 i = ((91 + 5 * i : Nat) : Int)) ∧ (∀ i : Nat, i < 10 → M 148 i = ((149 + 5 * i : Nat) : Int))
theorem fd_HR90 {M : fd_M} (h : fd_IM M) : fd_HR M 90 91 := fun i hi => ⟨i, hi, h.2.2.1 i hi⟩
theorem fd_HR148 {M : fd_M} (h : fd_IM M) : fd_HR M 148 149 := fun i hi => ⟨i, hi, h.2.2.2 i hi⟩
def fd_S67 (M : fd_M) (r : Nat) : Prop := ∀ i : Nat, i < 10 → (0 ≤ M (M r i).toNat 6 ∧ M (M r i).toNat 6 ≤ 1) ∧ (0 ≤ M (M r i).toNat 7 ∧ M (M r i).toNat 7 ≤ 1)
theorem fd_take0_fr {M : fd_M} (h : fd_IM M) (hz : 0 ≤ M 19 1 ∧ M 19 1 ≤ 10) {c : Nat} (hc : c < 83 ∨ 141 ≤ c) : fd_take0 M c = M c := by
  unfold fd_take0
  rw [fd_up_ne (by omega), fd_hcp_fr (M := fd_up (fd_cps M 84 14) 89 1 (M 19 1)) (B := 91) (r1 := 90) (fd_HR90 h) (by omega) _ (by omega), fd_up_ne (by omega), fd_cps_fr (by omega)]
theorem fd_take1_fr {M : fd_M} (h : fd_IM M) (hz : 0 ≤ M 19 1 ∧ M 19 1 ≤ 10) {c : Nat} (hc : c < 141 ∨ 199 ≤ c) : fd_take1 M c = M c := by
  unfold fd_take1
  rw [fd_up_ne (by omega), fd_hcp_fr (M := fd_up (fd_cps M 142 14) 147 1 (M 19 1)) (B := 149) (r1 := 148) (fd_HR148 h) (by omega) _ (by omega), fd_up_ne (by omega), fd_cps_fr (by omega)]
theorem fd_give0_fr {M : fd_M} (h : fd_HR M 20 21) (hz : 0 ≤ M 89 1 ∧ M 89 1 ≤ 10) {c : Nat} (hc : c < 14 ∨ 71 ≤ c ∨ c = 20) : fd_give0 M c = M c := by
  unfold fd_give0
  rw [fd_hcp_fr (M := fd_up (fd_cps M 14 84) 19 1 (M 89 1)) (B := 21) (r1 := 20) h (by omega) _ (by omega), fd_up_ne (by omega), fd_cps_fr (by omega)]
theorem fd_give1_fr {M : fd_M} (h : fd_HR M 20 21) (hz : 0 ≤ M 147 1 ∧ M 147 1 ≤ 10) {c : Nat} (hc : c < 14 ∨ 71 ≤ c ∨ c = 20) : fd_give1 M c = M c := by
  unfold fd_give1
  rw [fd_hcp_fr (M := fd_up (fd_cps M 14 142) 19 1 (M 147 1)) (B := 21) (r1 := 20) h (by omega) _ (by omega), fd_up_ne (by omega), fd_cps_fr (by omega)]
theorem fd_give0_sc {M : fd_M} (h : fd_HR M 20 21) (hz : 0 ≤ M 89 1 ∧ M 89 1 ≤ 10) {c : Nat} (hc : 14 ≤ c ∧ c < 19) : fd_give0 M c = fd_cps M 14 84 c := by
  unfold fd_give0
  rw [fd_hcp_fr (M := fd_up (fd_cps M 14 84) 19 1 (M 89 1)) (B := 21) (r1 := 20) h (by omega) _ (by omega), fd_up_ne (by omega)]
theorem fd_give1_sc {M : fd_M} (h : fd_HR M 20 21) (hz : 0 ≤ M 147 1 ∧ M 147 1 ≤ 10) {c : Nat} (hc : 14 ≤ c ∧ c < 19) : fd_give1 M c = fd_cps M 14 142 c := by
  unfold fd_give1
  rw [fd_hcp_fr (M := fd_up (fd_cps M 14 142) 19 1 (M 147 1)) (B := 21) (r1 := 20) h (by omega) _ (by omega), fd_up_ne (by omega)]
theorem fd_CG_cps {M : fd_M} {b : Nat} (hb : 19 ≤ b) (hG : fd_CG M) (h : fd_SG M b) : fd_CG (fd_cps M 14 b) := by
  refine ⟨?_, fd_SG_cps (by omega) hG.2 h⟩
  unfold fd_PG
  rw [fd_cps_fr (c := 3) (by omega), fd_cps_fr (c := 4) (by omega)]
  exact hG.1
def fd_X_keep (M : fd_M) (w : Int) : Int := if ¬ (0 ≤ w ∧ w < 2) then -1 else fd_sum (fd_dueC M) (M 3 2).toNat
def fd_Y_keep (M : fd_M) (w : Int) : fd_M := if ¬ (0 ≤ w ∧ w < 2) then M else if w = 0 then fd_take0 M else fd_take1 M
def fd_X_back (M : fd_M) (w : Int) : Int := if ¬ (0 ≤ w ∧ w < 2) then -1 else if w = 0 then (if M 83 2 = 0 then -2 else fd_sum (fd_dueC (fd_give0 M)) (M 3 2).toNat) else (if M 141 2 = 0 then -2 else fd_sum (fd_dueC (fd_give1 M)) (M 3 2).toNat)
def fd_Y_back (M : fd_M) (w : Int) : fd_M := if ¬ (0 ≤ w ∧ w < 2) then M else if w = 0 then (if M 83 2 = 0 then M else fd_give0 M) else (if M 141 2 = 0 then M else fd_give1 M)
theorem fd_f_keep0 (M : fd_M) (hG : fd_CG M) (hI : fd_IM M) (hH : fd_HR M 20 21) (hz : 0 ≤ M 19 1 ∧ M 19 1 ≤ 10) (h67 : fd_S67 M 20) : fd_run 8 24 5 [fd_R 0, fd_I 0] [] M (some (fd_I (fd_sum (fd_dueC M) (M 3 2).toNat))) (fd_take0 M) := by
  have h6 : 0 ≤ M 14 6 ∧ M 14 6 ≤ 1 := hG.2.2.2.2.2.2.2.1
  have h7 : 0 ≤ M 14 7 ∧ M 14 7 ≤ 1 := hG.2.2.2.2.2.2.2.2
  have zD : fd_call 7 157 [fd_R 72] (fd_take0 M) (some (fd_I (fd_sum (fd_dueC M) (M 3 2).toNat))) (fd_take0 M) := by
    have z := fd_s_dueOfAll (fd_take0 M) (fd_CG_of hG (fd_take0_fr hI hz (c := 3) (by omega)) (fd_take0_fr hI hz (c := 4) (by omega)) (fd_take0_fr hI hz (c := 14) (by omega)) (fd_take0_fr hI hz (c := 15) (by omega)) (fd_take0_fr hI hz (c := 16) (by omega)) (fd_take0_fr hI hz (c := 17) (by omega)) (fd_take0_fr hI hz (c := 18) (by omega)))
    rw [fd_dueC_of (fd_take0_fr hI hz (c := 3) (by omega)) (fd_take0_fr hI hz (c := 4) (by omega)) (fd_take0_fr hI hz (c := 14) (by omega)) (fd_take0_fr hI hz (c := 15) (by omega)) (fd_take0_fr hI hz (c := 16) (by omega)) (fd_take0_fr hI hz (c := 17) (by omega)), fd_take0_fr hI hz (c := 3) (by omega)] at z
    exact z
  have m0 := hI.1
  have m1 := hI.2.1
  refine fd_u_blk 4 (C := fd_c24) (b := (((false || fd_inb 0 2) && Nat.blt (M 71 0).toNat 1000) && true)) (L' := [fd_R 0, fd_I 0]) (st' := [fd_R ((M 71 0).toNat)]) (M' := M) rfl rfl (j := 9) rfl (fd_bA (fd_bA (by rw [fd_bI (i := 0) (n := 2) (by omega) (by omega)]; rfl) (by rw [Nat.blt_eq]; omega)) (rfl)) ?_
  rw [show (M 71 0).toNat = 83 by omega]
  refine fd_u_blk 4 (C := fd_c24) (b := true) (L' := [fd_R 0, fd_I 0]) (st' := [fd_R 19, fd_R 14, fd_R 83]) (M' := M) rfl rfl (j := 13) rfl (rfl) ?_
  refine fd_u_call (C := fd_c24) (d0 := 2) (mid := 118) (np := 3) (args := [fd_R 83, fd_R 14, fd_R 19]) (r1 := none) (M1 := (fd_take0 M)) (st' := []) rfl rfl rfl rfl rfl rfl (rfl) (fd_s_take0 M (fd_HR90 hI) hH hz h6 h7 h67) rfl (by omega) ?_
  refine fd_u_blk 2 (C := fd_c24) (b := true) (L' := [fd_R 0, fd_I 0]) (st' := [fd_R 72]) (M' := (fd_take0 M)) rfl rfl (j := 16) rfl (rfl) ?_
  refine fd_u_call (C := fd_c24) (d0 := 7) (mid := 157) (np := 1) (args := [fd_R 72]) (r1 := some (fd_I (fd_sum (fd_dueC M) (M 3 2).toNat))) (M1 := (fd_take0 M)) (st' := [fd_I (fd_sum (fd_dueC M) (M 3 2).toNat)]) rfl rfl rfl rfl rfl rfl (rfl) (zD) rfl (by omega) ?_
  refine fd_u_ret (C := fd_c24) (b := true) (r' := some (fd_I (fd_sum (fd_dueC M) (M 3 2).toNat))) rfl rfl rfl (rfl) ?_ ?_
  · rfl
  · rfl

theorem fd_f_back0 (M : fd_M) (hG : fd_CG M) (hI : fd_IM M) (hH : fd_HR M 20 21) (k0 : 0 ≤ M 83 2 ∧ M 83 2 ≤ 1) (k1 : 0 ≤ M 141 2 ∧ M 141 2 ≤ 1) (z0 : 0 ≤ M 89 1 ∧ M 89 1 ≤ 10) (z1 : 0 ≤ M 147 1 ∧ M 147 1 ≤ 10) (i0 : fd_SG M 84) (i1 : fd_SG M 142) (j0 : fd_S67 M 90) (j1 : fd_S67 M 148) : fd_run 8 25 5 [fd_R 0, fd_I 0] [] M (some (fd_I (if M 83 2 = 0 then -2 else fd_sum (fd_dueC (fd_give0 M)) (M 3 2).toNat))) (if M 83 2 = 0 then M else fd_give0 M) := by
  have h6 : 0 ≤ M 84 6 ∧ M 84 6 ≤ 1 := i0.2.2.2.2.2.2.1
  have h7 : 0 ≤ M 84 7 ∧ M 84 7 ≤ 1 := i0.2.2.2.2.2.2.2
  have zG : fd_CG (fd_give0 M) := fd_CG_of (fd_CG_cps (b := 84) (by omega) hG i0) ((fd_give0_fr hH z0 (c := 3) (by omega)).trans (fd_cps_fr (by omega)).symm) ((fd_give0_fr hH z0 (c := 4) (by omega)).trans (fd_cps_fr (by omega)).symm) (fd_give0_sc hH z0 (c := 14) (by omega)) (fd_give0_sc hH z0 (c := 15) (by omega)) (fd_give0_sc hH z0 (c := 16) (by omega)) (fd_give0_sc hH z0 (c := 17) (by omega)) (fd_give0_sc hH z0 (c := 18) (by omega))
  have zD : fd_call 7 157 [fd_R 72] (fd_give0 M) (some (fd_I (fd_sum (fd_dueC (fd_give0 M)) (M 3 2).toNat))) (fd_give0 M) := by
    have z := fd_s_dueOfAll (fd_give0 M) zG
    rw [fd_give0_fr hH z0 (c := 3) (by omega)] at z
    exact z
  have m0 := hI.1
  have m1 := hI.2.1
  refine fd_u_blk 4 (C := fd_c25) (b := (((false || fd_inb 0 2) && Nat.blt (M 71 0).toNat 1000) && true)) (L' := [fd_R 0, fd_I 0]) (st' := [fd_R ((M 71 0).toNat)]) (M' := M) rfl rfl (j := 9) rfl (fd_bA (fd_bA (by rw [fd_bI (i := 0) (n := 2) (by omega) (by omega)]; rfl) (by rw [Nat.blt_eq]; omega)) (rfl)) ?_
  rw [show (M 71 0).toNat = 83 by omega]
  refine fd_u_blk 1 (C := fd_c25) (b := true) (L' := [fd_R 0, fd_I 0]) (st' := [fd_I (M 83 2)]) (M' := M) rfl rfl (j := 10) rfl (rfl) ?_
  refine fd_u_br (C := fd_c25) (t := 13) (e := 11) (st' := []) (c := ¬ (M 83 2) = 0) (b := (fd_rng (M 83 2))) rfl rfl rfl (fd_bR (by omega) (by omega)) (fun h10 => ?_) (fun h10 => ?_)
  · refine fd_u_blk 4 (C := fd_c25) (b := (((false || fd_inb 0 2) && Nat.blt (M 71 0).toNat 1000) && true)) (L' := [fd_R 0, fd_I 0]) (st' := [fd_R ((M 71 0).toNat)]) (M' := M) rfl rfl (j := 17) rfl (fd_bA (fd_bA (by rw [fd_bI (i := 0) (n := 2) (by omega) (by omega)]; rfl) (by rw [Nat.blt_eq]; omega)) (rfl)) ?_
    rw [show (M 71 0).toNat = 83 by omega]
    refine fd_u_blk 4 (C := fd_c25) (b := true) (L' := [fd_R 0, fd_I 0]) (st' := [fd_R 19, fd_R 14, fd_R 83]) (M' := M) rfl rfl (j := 21) rfl (rfl) ?_
    refine fd_u_call (C := fd_c25) (d0 := 2) (mid := 119) (np := 3) (args := [fd_R 83, fd_R 14, fd_R 19]) (r1 := none) (M1 := (fd_give0 M)) (st' := []) rfl rfl rfl rfl rfl rfl (rfl) (fd_s_give0 M hH (fd_HR90 hI) z0 h6 h7 j0) rfl (by omega) ?_
    refine fd_u_blk 2 (C := fd_c25) (b := true) (L' := [fd_R 0, fd_I 0]) (st' := [fd_R 72]) (M' := (fd_give0 M)) rfl rfl (j := 24) rfl (rfl) ?_
    refine fd_u_call (C := fd_c25) (d0 := 7) (mid := 157) (np := 1) (args := [fd_R 72]) (r1 := some (fd_I (fd_sum (fd_dueC (fd_give0 M)) (M 3 2).toNat))) (M1 := (fd_give0 M)) (st' := [fd_I (fd_sum (fd_dueC (fd_give0 M)) (M 3 2).toNat)]) rfl rfl rfl rfl rfl rfl (rfl) (zD) rfl (by omega) ?_
    refine fd_u_ret (C := fd_c25) (b := true) (r' := some (fd_I (fd_sum (fd_dueC (fd_give0 M)) (M 3 2).toNat))) rfl rfl rfl (rfl) ?_ ?_
    · rw [if_neg (by omega)]
    · rw [if_neg (by omega)]
  · refine fd_u_blk 1 (C := fd_c25) (b := true) (L' := [fd_R 0, fd_I 0]) (st' := [fd_I (-2)]) (M' := M) rfl rfl (j := 12) rfl (rfl) ?_
    refine fd_u_ret (C := fd_c25) (b := true) (r' := some (fd_I (-2))) rfl rfl rfl (rfl) ?_ ?_
    · rw [if_pos (by omega)]
    · rw [if_pos (by omega)]

theorem fd_f_keep1 (M : fd_M) (hG : fd_CG M) (hI : fd_IM M) (hH : fd_HR M 20 21) (hz : 0 ≤ M 19 1 ∧ M 19 1 ≤ 10) (h67 : fd_S67 M 20) : fd_run 8 24 5 [fd_R 0, fd_I 1] [] M (some (fd_I (fd_sum (fd_dueC M) (M 3 2).toNat))) (fd_take1 M) := by
  have h6 : 0 ≤ M 14 6 ∧ M 14 6 ≤ 1 := hG.2.2.2.2.2.2.2.1
  have h7 : 0 ≤ M 14 7 ∧ M 14 7 ≤ 1 := hG.2.2.2.2.2.2.2.2
  have zD : fd_call 7 157 [fd_R 72] (fd_take1 M) (some (fd_I (fd_sum (fd_dueC M) (M 3 2).toNat))) (fd_take1 M) := by
    have z := fd_s_dueOfAll (fd_take1 M) (fd_CG_of hG (fd_take1_fr hI hz (c := 3) (by omega)) (fd_take1_fr hI hz (c := 4) (by omega)) (fd_take1_fr hI hz (c := 14) (by omega)) (fd_take1_fr hI hz (c := 15) (by omega)) (fd_take1_fr hI hz (c := 16) (by omega)) (fd_take1_fr hI hz (c := 17) (by omega)) (fd_take1_fr hI hz (c := 18) (by omega)))
    rw [fd_dueC_of (fd_take1_fr hI hz (c := 3) (by omega)) (fd_take1_fr hI hz (c := 4) (by omega)) (fd_take1_fr hI hz (c := 14) (by omega)) (fd_take1_fr hI hz (c := 15) (by omega)) (fd_take1_fr hI hz (c := 16) (by omega)) (fd_take1_fr hI hz (c := 17) (by omega)), fd_take1_fr hI hz (c := 3) (by omega)] at z
    exact z
  have m0 := hI.1
  have m1 := hI.2.1
  refine fd_u_blk 4 (C := fd_c24) (b := (((false || fd_inb 1 2) && Nat.blt (M 71 1).toNat 1000) && true)) (L' := [fd_R 0, fd_I 1]) (st' := [fd_R ((M 71 1).toNat)]) (M' := M) rfl rfl (j := 9) rfl (fd_bA (fd_bA (by rw [fd_bI (i := 1) (n := 2) (by omega) (by omega)]; rfl) (by rw [Nat.blt_eq]; omega)) (rfl)) ?_
  rw [show (M 71 1).toNat = 141 by omega]
  refine fd_u_blk 4 (C := fd_c24) (b := true) (L' := [fd_R 0, fd_I 1]) (st' := [fd_R 19, fd_R 14, fd_R 141]) (M' := M) rfl rfl (j := 13) rfl (rfl) ?_
  refine fd_u_call (C := fd_c24) (d0 := 2) (mid := 118) (np := 3) (args := [fd_R 141, fd_R 14, fd_R 19]) (r1 := none) (M1 := (fd_take1 M)) (st' := []) rfl rfl rfl rfl rfl rfl (rfl) (fd_s_take1 M (fd_HR148 hI) hH hz h6 h7 h67) rfl (by omega) ?_
  refine fd_u_blk 2 (C := fd_c24) (b := true) (L' := [fd_R 0, fd_I 1]) (st' := [fd_R 72]) (M' := (fd_take1 M)) rfl rfl (j := 16) rfl (rfl) ?_
  refine fd_u_call (C := fd_c24) (d0 := 7) (mid := 157) (np := 1) (args := [fd_R 72]) (r1 := some (fd_I (fd_sum (fd_dueC M) (M 3 2).toNat))) (M1 := (fd_take1 M)) (st' := [fd_I (fd_sum (fd_dueC M) (M 3 2).toNat)]) rfl rfl rfl rfl rfl rfl (rfl) (zD) rfl (by omega) ?_
  refine fd_u_ret (C := fd_c24) (b := true) (r' := some (fd_I (fd_sum (fd_dueC M) (M 3 2).toNat))) rfl rfl rfl (rfl) ?_ ?_
  · rfl
  · rfl

theorem fd_f_back1 (M : fd_M) (hG : fd_CG M) (hI : fd_IM M) (hH : fd_HR M 20 21) (k0 : 0 ≤ M 83 2 ∧ M 83 2 ≤ 1) (k1 : 0 ≤ M 141 2 ∧ M 141 2 ≤ 1) (z0 : 0 ≤ M 89 1 ∧ M 89 1 ≤ 10) (z1 : 0 ≤ M 147 1 ∧ M 147 1 ≤ 10) (i0 : fd_SG M 84) (i1 : fd_SG M 142) (j0 : fd_S67 M 90) (j1 : fd_S67 M 148) : fd_run 8 25 5 [fd_R 0, fd_I 1] [] M (some (fd_I (if M 141 2 = 0 then -2 else fd_sum (fd_dueC (fd_give1 M)) (M 3 2).toNat))) (if M 141 2 = 0 then M else fd_give1 M) := by
  have h6 : 0 ≤ M 142 6 ∧ M 142 6 ≤ 1 := i1.2.2.2.2.2.2.1
  have h7 : 0 ≤ M 142 7 ∧ M 142 7 ≤ 1 := i1.2.2.2.2.2.2.2
  have zG : fd_CG (fd_give1 M) := fd_CG_of (fd_CG_cps (b := 142) (by omega) hG i1) ((fd_give1_fr hH z1 (c := 3) (by omega)).trans (fd_cps_fr (by omega)).symm) ((fd_give1_fr hH z1 (c := 4) (by omega)).trans (fd_cps_fr (by omega)).symm) (fd_give1_sc hH z1 (c := 14) (by omega)) (fd_give1_sc hH z1 (c := 15) (by omega)) (fd_give1_sc hH z1 (c := 16) (by omega)) (fd_give1_sc hH z1 (c := 17) (by omega)) (fd_give1_sc hH z1 (c := 18) (by omega))
  have zD : fd_call 7 157 [fd_R 72] (fd_give1 M) (some (fd_I (fd_sum (fd_dueC (fd_give1 M)) (M 3 2).toNat))) (fd_give1 M) := by
    have z := fd_s_dueOfAll (fd_give1 M) zG
    rw [fd_give1_fr hH z1 (c := 3) (by omega)] at z
    exact z
  have m0 := hI.1
  have m1 := hI.2.1
  refine fd_u_blk 4 (C := fd_c25) (b := (((false || fd_inb 1 2) && Nat.blt (M 71 1).toNat 1000) && true)) (L' := [fd_R 0, fd_I 1]) (st' := [fd_R ((M 71 1).toNat)]) (M' := M) rfl rfl (j := 9) rfl (fd_bA (fd_bA (by rw [fd_bI (i := 1) (n := 2) (by omega) (by omega)]; rfl) (by rw [Nat.blt_eq]; omega)) (rfl)) ?_
  rw [show (M 71 1).toNat = 141 by omega]
  refine fd_u_blk 1 (C := fd_c25) (b := true) (L' := [fd_R 0, fd_I 1]) (st' := [fd_I (M 141 2)]) (M' := M) rfl rfl (j := 10) rfl (rfl) ?_
  refine fd_u_br (C := fd_c25) (t := 13) (e := 11) (st' := []) (c := ¬ (M 141 2) = 0) (b := (fd_rng (M 141 2))) rfl rfl rfl (fd_bR (by omega) (by omega)) (fun h10 => ?_) (fun h10 => ?_)
  · refine fd_u_blk 4 (C := fd_c25) (b := (((false || fd_inb 1 2) && Nat.blt (M 71 1).toNat 1000) && true)) (L' := [fd_R 0, fd_I 1]) (st' := [fd_R ((M 71 1).toNat)]) (M' := M) rfl rfl (j := 17) rfl (fd_bA (fd_bA (by rw [fd_bI (i := 1) (n := 2) (by omega) (by omega)]; rfl) (by rw [Nat.blt_eq]; omega)) (rfl)) ?_
    rw [show (M 71 1).toNat = 141 by omega]
    refine fd_u_blk 4 (C := fd_c25) (b := true) (L' := [fd_R 0, fd_I 1]) (st' := [fd_R 19, fd_R 14, fd_R 141]) (M' := M) rfl rfl (j := 21) rfl (rfl) ?_
    refine fd_u_call (C := fd_c25) (d0 := 2) (mid := 119) (np := 3) (args := [fd_R 141, fd_R 14, fd_R 19]) (r1 := none) (M1 := (fd_give1 M)) (st' := []) rfl rfl rfl rfl rfl rfl (rfl) (fd_s_give1 M hH (fd_HR148 hI) z1 h6 h7 j1) rfl (by omega) ?_
    refine fd_u_blk 2 (C := fd_c25) (b := true) (L' := [fd_R 0, fd_I 1]) (st' := [fd_R 72]) (M' := (fd_give1 M)) rfl rfl (j := 24) rfl (rfl) ?_
    refine fd_u_call (C := fd_c25) (d0 := 7) (mid := 157) (np := 1) (args := [fd_R 72]) (r1 := some (fd_I (fd_sum (fd_dueC (fd_give1 M)) (M 3 2).toNat))) (M1 := (fd_give1 M)) (st' := [fd_I (fd_sum (fd_dueC (fd_give1 M)) (M 3 2).toNat)]) rfl rfl rfl rfl rfl rfl (rfl) (zD) rfl (by omega) ?_
    refine fd_u_ret (C := fd_c25) (b := true) (r' := some (fd_I (fd_sum (fd_dueC (fd_give1 M)) (M 3 2).toNat))) rfl rfl rfl (rfl) ?_ ?_
    · rw [if_neg (by omega)]
    · rw [if_neg (by omega)]
  · refine fd_u_blk 1 (C := fd_c25) (b := true) (L' := [fd_R 0, fd_I 1]) (st' := [fd_I (-2)]) (M' := M) rfl rfl (j := 12) rfl (rfl) ?_
    refine fd_u_ret (C := fd_c25) (b := true) (r' := some (fd_I (-2))) rfl rfl rfl (rfl) ?_ ?_
    · rw [if_pos (by omega)]
    · rw [if_pos (by omega)]

theorem fd_x_keep (M : fd_M) (hG : fd_CG M) (hI : fd_IM M) (hH : fd_HR M 20 21) (hz : 0 ≤ M 19 1 ∧ M 19 1 ≤ 10) (h67 : fd_S67 M 20) (w : Int) (hw : -2147483648 ≤ w ∧ w < 2147483648) : fd_call 8 24 [fd_R 0, fd_I w] M (some (fd_I (fd_X_keep M w))) (fd_Y_keep M w) := by
  refine fd_u_in (L := [fd_R 0, fd_I w]) rfl ?_
  refine fd_u_blk 1 (C := fd_c24) (b := true) (L' := [fd_R 0, fd_I w]) (st' := [fd_I w]) (M' := M) rfl rfl (j := 1) rfl (rfl) ?_
  refine fd_u_call (C := fd_c24) (d0 := 0) (mid := 42) (np := 1) (args := [fd_I w]) (r1 := some (fd_I (fd_bi (0 ≤ w ∧ w < 2)))) (M1 := M) (st' := [fd_I (fd_bi (0 ≤ w ∧ w < 2))]) rfl rfl rfl rfl rfl rfl (rfl) (fd_s_isImage M w (by omega)) rfl (by omega) ?_
  refine fd_u_br (C := fd_c24) (t := 5) (e := 3) (st' := []) (c := ¬ (fd_bi (0 ≤ w ∧ w < 2)) = 0) (b := (fd_rng (fd_bi (0 ≤ w ∧ w < 2)))) rfl rfl rfl (fd_biR) (fun h2 => ?_) (fun h2 => ?_)
  · have h2 := fd_biT.mp h2
    rw [fd_X_keep, fd_Y_keep, if_neg (show ¬ ¬ (0 ≤ w ∧ w < 2) by omega), if_neg (show ¬ ¬ (0 ≤ w ∧ w < 2) by omega)]
    rcases (show w = 0 ∨ w = 1 by omega) with e | e
    · rw [e]
      exact fd_f_keep0 M hG hI hH hz h67
    · rw [e]
      exact fd_f_keep1 M hG hI hH hz h67
  · have h2 := fd_biF2  h2
    refine fd_u_blk 1 (C := fd_c24) (b := true) (L' := [fd_R 0, fd_I w]) (st' := [fd_I (-1)]) (M' := M) rfl rfl (j := 4) rfl (rfl) ?_
    refine fd_u_ret (C := fd_c24) (b := true) (r' := some (fd_I (-1))) rfl rfl rfl (rfl) ?_ ?_
    · rw [fd_X_keep, if_pos (show ¬ (0 ≤ w ∧ w < 2) by omega)]
    · rw [fd_Y_keep, if_pos (show ¬ (0 ≤ w ∧ w < 2) by omega)]

theorem fd_x_back (M : fd_M) (hG : fd_CG M) (hI : fd_IM M) (hH : fd_HR M 20 21) (k0 : 0 ≤ M 83 2 ∧ M 83 2 ≤ 1) (k1 : 0 ≤ M 141 2 ∧ M 141 2 ≤ 1) (z0 : 0 ≤ M 89 1 ∧ M 89 1 ≤ 10) (z1 : 0 ≤ M 147 1 ∧ M 147 1 ≤ 10) (i0 : fd_SG M 84) (i1 : fd_SG M 142) (j0 : fd_S67 M 90) (j1 : fd_S67 M 148) (w : Int) (hw : -2147483648 ≤ w ∧ w < 2147483648) : fd_call 8 25 [fd_R 0, fd_I w] M (some (fd_I (fd_X_back M w))) (fd_Y_back M w) := by
  refine fd_u_in (L := [fd_R 0, fd_I w]) rfl ?_
  refine fd_u_blk 1 (C := fd_c25) (b := true) (L' := [fd_R 0, fd_I w]) (st' := [fd_I w]) (M' := M) rfl rfl (j := 1) rfl (rfl) ?_
  refine fd_u_call (C := fd_c25) (d0 := 0) (mid := 42) (np := 1) (args := [fd_I w]) (r1 := some (fd_I (fd_bi (0 ≤ w ∧ w < 2)))) (M1 := M) (st' := [fd_I (fd_bi (0 ≤ w ∧ w < 2))]) rfl rfl rfl rfl rfl rfl (rfl) (fd_s_isImage M w (by omega)) rfl (by omega) ?_
  refine fd_u_br (C := fd_c25) (t := 5) (e := 3) (st' := []) (c := ¬ (fd_bi (0 ≤ w ∧ w < 2)) = 0) (b := (fd_rng (fd_bi (0 ≤ w ∧ w < 2)))) rfl rfl rfl (fd_biR) (fun h2 => ?_) (fun h2 => ?_)
  · have h2 := fd_biT.mp h2
    rw [fd_X_back, fd_Y_back, if_neg (show ¬ ¬ (0 ≤ w ∧ w < 2) by omega), if_neg (show ¬ ¬ (0 ≤ w ∧ w < 2) by omega)]
    rcases (show w = 0 ∨ w = 1 by omega) with e | e
    · rw [e]
      exact fd_f_back0 M hG hI hH k0 k1 z0 z1 i0 i1 j0 j1
    · rw [e]
      exact fd_f_back1 M hG hI hH k0 k1 z0 z1 i0 i1 j0 j1
  · have h2 := fd_biF2  h2
    refine fd_u_blk 1 (C := fd_c25) (b := true) (L' := [fd_R 0, fd_I w]) (st' := [fd_I (-1)]) (M' := M) rfl rfl (j := 4) rfl (rfl) ?_
    refine fd_u_ret (C := fd_c25) (b := true) (r' := some (fd_I (-1))) rfl rfl rfl (rfl) ?_ ?_
    · rw [fd_X_back, if_pos (show ¬ (0 ≤ w ∧ w < 2) by omega)]
    · rw [fd_Y_back, if_pos (show ¬ (0 ≤ w ∧ w < 2) by omega)]


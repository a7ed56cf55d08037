/-! what a text tells, item by item -/
abbrev pz_n (tx : Nat → Int) (len p : Nat) (lo hi : Int) : Prop := tk_kd tx len p = 2 ∧ lo ≤ tk_vl tx len p ∧ tk_vl tx len p ≤ hi
def pz_gd (c : Int) : Int := if c = 102 then 0 else if c = 116 then 2 else if c = 120 then 1 else -1
def pz_g (tx : Nat → Int) (len p : Nat) : Int := if tk_kd tx len p = 1 then pz_gd (tk_vl tx len p) else -1
abbrev pz_R : Type := Bool × Nat × fd_M
def pz_e (tx : Nat → Int) (len p : Nat) (Z : fd_M) : pz_R := if tk_kd tx len p = 3 then (true, tk_nx tx len p, Z) else (false, p, Z)
def pz_r (tx : Nat → Int) (len : Nat) : Nat → Nat → Nat → fd_M → pz_R
  | 0, _, p, Z => pz_e tx len p (fd_up Z 0 1 (Z 0 1 + 1))
  | n + 1, x, p, Z => if pz_g tx len p = -1 then (false, p, Z) else pz_r tx len n (x + 1) (tk_nx tx len p) (fd_up Z 1 (Z 0 1 * 7 + (x : Int)).toNat (pz_g tx len p))
def pz_f (Z : fd_M) (x y : Int) : Bool := decide (Z 1 (y * 7 + x).toNat = 0) && fd_all (fun d => decide (¬ (Z 2 d = x ∧ Z 3 d = y))) (Z 0 2).toNat
def pz_dz (Z : fd_M) (x y w : Int) : fd_M := fd_up (fd_up (fd_up (fd_up Z 2 (Z 0 2).toNat x) 3 (Z 0 2).toNat y) 4 (Z 0 2).toNat w) 0 2 (Z 0 2 + 1)
def pz_w (tx : Nat → Int) (len : Nat) (it : Int) (p : Nat) (Z : fd_M) : pz_R := if ¬ it = 0 then (false, p, Z) else if ¬ pz_n tx len (tk_nx tx len p) 1 7 then (false, tk_nx tx len p, Z) else pz_e tx len (tk_nx tx len (tk_nx tx len p)) (fd_up Z 0 0 (tk_vl tx len (tk_nx tx len p)))
def pz_ro (tx : Nat → Int) (len p : Nat) (Z : fd_M) : pz_R := if Z 0 0 = 0 ∨ 7 ≤ Z 0 1 ∨ 0 < Z 0 2 then (false, p, Z) else pz_r tx len (Z 0 0).toNat 0 (tk_nx tx len p) Z
def pz_d (tx : Nat → Int) (len p : Nat) (Z : fd_M) : pz_R := if 6 ≤ Z 0 2 then (false, p, Z) else if ¬ pz_n tx len (tk_nx tx len p) 0 (Z 0 0 - 1) then (false, tk_nx tx len p, Z) else if ¬ (pz_n tx len (tk_nx tx len (tk_nx tx len p)) 0 (Z 0 1 - 1) ∧ pz_f Z (tk_vl tx len (tk_nx tx len p)) (tk_vl tx len (tk_nx tx len (tk_nx tx len p))) = true) then (false, tk_nx tx len (tk_nx tx len p), Z) else if ¬ pz_n tx len (tk_nx tx len (tk_nx tx len (tk_nx tx len p))) 0 3 then (false, tk_nx tx len (tk_nx tx len (tk_nx tx len p)), Z) else pz_e tx len (tk_nx tx len (tk_nx tx len (tk_nx tx len (tk_nx tx len p)))) (pz_dz Z (tk_vl tx len (tk_nx tx len p)) (tk_vl tx len (tk_nx tx len (tk_nx tx len p))) (tk_vl tx len (tk_nx tx len (tk_nx tx len (tk_nx tx len p)))))
def pz_p (tx : Nat → Int) (len p : Nat) (Z : fd_M) : pz_R := if ¬ Z 0 5 = 0 then (false, p, Z) else if ¬ pz_n tx len (tk_nx tx len p) 1 9 then (false, tk_nx tx len p, Z) else pz_e tx len (tk_nx tx len (tk_nx tx len p)) (fd_up (fd_up Z 0 5 1) 0 3 (tk_vl tx len (tk_nx tx len p)))
def pz_s (tx : Nat → Int) (len p : Nat) (Z : fd_M) : pz_R := if ¬ Z 0 6 = 0 then (false, p, Z) else if ¬ pz_n tx len (tk_nx tx len p) 1 7 then (false, tk_nx tx len p, Z) else pz_e tx len (tk_nx tx len (tk_nx tx len p)) (fd_up (fd_up Z 0 6 1) 0 4 (tk_vl tx len (tk_nx tx len p)))
def pz_i (tx : Nat → Int) (len : Nat) (it : Int) (p : Nat) (Z : fd_M) : pz_R := if ¬ tk_kd tx len p = 1 then (false, p, Z) else if tk_vl tx len p = 119 then pz_w tx len it p Z else if tk_vl tx len p = 114 then pz_ro tx len p Z else if tk_vl tx len p = 100 then pz_d tx len p Z else if tk_vl tx len p = 112 then pz_p tx len p Z else if tk_vl tx len p = 115 then pz_s tx len p Z else (false, p, Z)
def pz_a (tx : Nat → Int) (len : Nat) : Nat → Int → Nat → fd_M → pz_R × Int
  | 0, it, p, Z => ((false, p, Z), it)
  | n + 1, it, p, Z => if tk_kd tx len p = 0 then ((true, p, Z), it) else if (pz_i tx len it p Z).1 = true then pz_a tx len n (it + 1) (pz_i tx len it p Z).2.1 (pz_i tx len it p Z).2.2 else (pz_i tx len it p Z, it)
theorem pz_e_Z (tx : Nat → Int) (len p : Nat) (Z : fd_M) : (pz_e tx len p Z).2.2 = Z := by
  unfold pz_e
  split <;> rfl
theorem pz_e_i (tx : Nat → Int) (len p : Nat) (Z Y : fd_M) : (pz_e tx len p Z).1 = (pz_e tx len p Y).1 ∧ (pz_e tx len p Z).2.1 = (pz_e tx len p Y).2.1 := by
  unfold pz_e
  split <;> exact ⟨rfl, rfl⟩
/-- the text, as the class has it -/
def tk_Tx (tx : Nat → Int) (len : Nat) (M : fd_M) : Prop := M 2 = tx ∧ M 1 1 = (len : Int) ∧ len ≤ 150 ∧ (∀ k, 0 ≤ tx k ∧ tx k ≤ 255)
theorem tk_Tx_XG {tx : Nat → Int} {len : Nat} {M : fd_M} (h : tk_Tx tx len M) : tk_XG M := ⟨by rw [h.2.1]; have := h.2.2.1; omega, by rw [h.1]; exact h.2.2.2⟩
theorem tk_Tx_FA {tx : Nat → Int} {len : Nat} {M R : fd_M} (h : tk_Tx tx len M) (f : tk_FA M R) : tk_Tx tx len R := ⟨(f.1 2 (by decide)).trans h.1, by rw [f.1 1 (by decide)]; exact h.2.1, h.2.2⟩
theorem fd_p_adv {tx : Nat → Int} {len : Nat} {M : fd_M} (hx : tk_Tx tx len M) {p : Nat} (hp : p ≤ len) (hn : M 13 2 = (p : Int)) : ∃ R, fd_call 2 129 [fd_R 13] M none R ∧ tk_TC tx len p R ∧ tk_FA M R := by
  obtain ⟨r, R, c, e, t, f⟩ := fd_q_advance M (tk_Tx_XG hx) p hn (by rw [hx.2.1]; omega)
  subst e
  rw [hx.1, hx.2.1] at t
  exact ⟨R, c, t, f⟩
theorem tk_nl {tx : Nat → Int} {len p : Nat} (h : p ≤ len) : tk_nx tx len p ≤ len := (tk_nx_rng h).2.1
/-- what the class's draft tells -/
def fd_zc (M : fd_M) : fd_M := fun a k => if a = 0 then (if k < 5 then M 8 k else if k = 5 then M 13 7 else if k = 6 then M 13 8 else 0) else if a = 1 then M 9 k else if a = 2 then M 10 k else if a = 3 then M 11 k else if a = 4 then M 12 k else 0
theorem fd_zc_of {M R : fd_M} (h8 : R 8 = M 8) (h7 : R 13 7 = M 13 7) (h6 : R 13 8 = M 13 8) (h9 : R 9 = M 9) (h10 : R 10 = M 10) (h11 : R 11 = M 11) (h12 : R 12 = M 12) : fd_zc R = fd_zc M := by
  funext a k
  unfold fd_zc
  rw [h8, h7, h6, h9, h10, h11, h12]
theorem fd_zc_FA {M R : fd_M} (f : tk_FA M R) : fd_zc R = fd_zc M := fd_zc_of (f.1 _ (by decide)) (f.2 _ (by decide)) (f.2 _ (by decide)) (f.1 _ (by decide)) (f.1 _ (by decide)) (f.1 _ (by decide)) (f.1 _ (by decide))
theorem fd_zc_8 (M : fd_M) {k : Nat} (hk : k < 5) (v : Int) : fd_zc (fd_up M 8 k v) = fd_up (fd_zc M) 0 k v := by
  funext a j
  unfold fd_zc fd_up
  by_cases h : a = 0
  · subst h
    by_cases h2 : j = k
    · subst h2; simp [hk]
    · simp [h2]
  · simp [h]
theorem fd_zc_p (M : fd_M) (v : Int) : fd_zc (fd_up M 13 7 v) = fd_up (fd_zc M) 0 5 v := by
  funext a j
  unfold fd_zc fd_up
  by_cases h : a = 0
  · subst h
    by_cases h2 : j = 5
    · subst h2; simp
    · simp [h2]
  · simp [h]
theorem fd_zc_s (M : fd_M) (v : Int) : fd_zc (fd_up M 13 8 v) = fd_up (fd_zc M) 0 6 v := by
  funext a j
  unfold fd_zc fd_up
  by_cases h : a = 0
  · subst h
    by_cases h2 : j = 6
    · subst h2; simp
    · simp [h2]
  · simp [h]
theorem fd_zc_i (M : fd_M) (v : Int) : fd_zc (fd_up M 13 6 v) = fd_zc M := fd_zc_of (fd_up_ne (by decide)) rfl rfl (fd_up_ne (by decide)) (fd_up_ne (by decide)) (fd_up_ne (by decide)) (fd_up_ne (by decide))
theorem fd_zc_9 (M : fd_M) (k : Nat) (v : Int) : fd_zc (fd_up M 9 k v) = fd_up (fd_zc M) 1 k v := by
  funext a j
  unfold fd_zc fd_up
  by_cases h : a = 1
  · subst h; simp
  · simp [h]
theorem fd_zc_10 (M : fd_M) (k : Nat) (v : Int) : fd_zc (fd_up M 10 k v) = fd_up (fd_zc M) 2 k v := by
  funext a j
  unfold fd_zc fd_up
  by_cases h : a = 2
  · subst h; simp
  · simp [h]
theorem fd_zc_11 (M : fd_M) (k : Nat) (v : Int) : fd_zc (fd_up M 11 k v) = fd_up (fd_zc M) 3 k v := by
  funext a j
  unfold fd_zc fd_up
  by_cases h : a = 3
  · subst h; simp
  · simp [h]
theorem fd_zc_12 (M : fd_M) (k : Nat) (v : Int) : fd_zc (fd_up M 12 k v) = fd_up (fd_zc M) 4 k v := by
  funext a j
  unfold fd_zc fd_up
  by_cases h : a = 4
  · subst h; simp
  · simp [h]
def pz_G (Z : fd_M) : Prop := (0 ≤ Z 0 0 ∧ Z 0 0 ≤ 7) ∧ (0 ≤ Z 0 1 ∧ Z 0 1 ≤ 7) ∧ (0 ≤ Z 0 2 ∧ Z 0 2 ≤ 6) ∧ (1 ≤ Z 0 3 ∧ Z 0 3 ≤ 9) ∧ (1 ≤ Z 0 4 ∧ Z 0 4 ≤ 7) ∧ (0 ≤ Z 0 5 ∧ Z 0 5 ≤ 1) ∧ (0 ≤ Z 0 6 ∧ Z 0 6 ≤ 1) ∧ (∀ k, 0 ≤ Z 1 k ∧ Z 1 k ≤ 2) ∧ (∀ k, 0 ≤ Z 2 k ∧ Z 2 k ≤ 6) ∧ (∀ k, 0 ≤ Z 3 k ∧ Z 3 k ≤ 6) ∧ (∀ k, 0 ≤ Z 4 k ∧ Z 4 k ≤ 3)
def tk_FB (M R : fd_M) : Prop := (∀ c, c < 8 ∨ 14 ≤ c → R c = M c) ∧ R 13 6 = M 13 6
theorem tk_FB_rf (M : fd_M) : tk_FB M M := ⟨fun _ _ => rfl, rfl⟩
theorem tk_FB_tr {M N K : fd_M} (h : tk_FB M N) (h2 : tk_FB N K) : tk_FB M K := ⟨fun c hc => (h2.1 c hc).trans (h.1 c hc), h2.2.trans h.2⟩
theorem tk_FB_FA {M R : fd_M} (f : tk_FA M R) : tk_FB M R := ⟨fun c hc => f.1 c (by omega), f.2 6 (by decide)⟩
theorem tk_FB_up (M : fd_M) {c k : Nat} (h : 8 ≤ c ∧ c ≤ 12) (v : Int) : tk_FB M (fd_up M c k v) := ⟨fun a ha => fd_up_ne (by omega), by rw [fd_up_ne (by omega)]⟩
theorem tk_FB_13 (M : fd_M) {k : Nat} (h : k ≠ 6) (v : Int) : tk_FB M (fd_up M 13 k v) := ⟨fun a ha => fd_up_ne (by omega), by rw [fd_up_at, if_neg (fun z => h z.symm)]⟩
/-- what a step of the reader leaves -/
def tk_PQ (tx : Nat → Int) (len : Nat) (M : fd_M) (F : pz_R) (r : Option fd_V) (R : fd_M) : Prop := r = some (fd_I (fd_bi (F.1 = true))) ∧ tk_TC tx len F.2.1 R ∧ fd_zc R = F.2.2 ∧ tk_FB M R
theorem fd_p_num {tx : Nat → Int} {len : Nat} (M : fd_M) (hx : tk_Tx tx len M) (q : Nat) (hq : q ≤ len) (hn : M 13 2 = (q : Int)) (lo hi : Int) (hlo : -10 ≤ lo ∧ lo ≤ 10) (hhi : -10 ≤ hi ∧ hi ≤ 10) : fd_callE 3 139 [fd_R 13, fd_I lo, fd_I hi] M (fun r R => r = some (fd_I (fd_bi (pz_n tx len q lo hi))) ∧ tk_TC tx len q R ∧ tk_FA M R) := by
  refine fd_e_in (L := [fd_R 13, fd_I lo, fd_I hi]) rfl ?_
  refine fd_e_blk 1 (C := fd_c139) (b := true) (L' := [fd_R 13, fd_I lo, fd_I hi]) (st' := [fd_R 13]) (M' := M) rfl rfl (j := 1) rfl (rfl) ?_
  obtain ⟨A2, c2, t2, f2⟩ := fd_p_adv (M := M) hx (p := q) hq hn
  obtain ⟨a2, b2, k2, v2⟩ := id t2
  have kr2 := tk_kd_rng tx len (q)
  have vr2 := tk_vl_rng hx.2.2.2 len (q)
  refine fd_e_call (C := fd_c139) (d0 := 2) (mid := 129) (np := 1) (args := [fd_R 13]) (r1 := none) (M1 := A2) (st' := []) rfl rfl rfl rfl rfl rfl (rfl) (c2) rfl (by omega) ?_
  have qv2 : A2 13 4 = 2 → 0 ≤ A2 13 5 ∧ A2 13 5 ≤ 255 := fun z => by rw [v2 (by omega)]; exact vr2
  refine fd_e_blk 3 (C := fd_c139) (b := true) (L' := [fd_R 13, fd_I lo, fd_I hi]) (st' := [fd_I 2, fd_I (A2 13 4)]) (M' := A2) rfl rfl (j := 5) rfl (rfl) ?_
  refine fd_e_br (C := fd_c139) (t := 16) (e := 6) (st' := []) (c := ¬ (A2 13 4) = 2) (b := (fd_rng (A2 13 4) && fd_rng 2)) rfl rfl rfl (fd_bA (fd_bR (by omega) (by omega)) (fd_bR (by omega) (by omega))) (fun h5 => ?_) (fun h5 => ?_)
  · refine fd_e_blk 1 (C := fd_c139) (b := true) (L' := [fd_R 13, fd_I lo, fd_I hi]) (st' := [fd_I 0]) (M' := A2) rfl rfl (j := 17) rfl (rfl) ?_
    refine fd_e_ret (C := fd_c139) (b := true) (r' := some (fd_I 0)) rfl rfl rfl (rfl) ?_
    exact ⟨by rw [fd_bi0 (show ¬ pz_n tx len q lo hi from fun z => by obtain ⟨z1, z2, z3⟩ := z; first | omega | (rw [← v2 (by omega)] at z2 z3; omega))], t2, f2⟩
  · refine fd_e_blk 3 (C := fd_c139) (b := true) (L' := [fd_R 13, fd_I lo, fd_I hi]) (st' := [fd_I lo, fd_I (A2 13 5)]) (M' := A2) rfl rfl (j := 9) rfl (rfl) ?_
    refine fd_e_br (C := fd_c139) (t := 16) (e := 10) (st' := []) (c := (A2 13 5) < lo) (b := (fd_rng (A2 13 5) && fd_rng lo)) rfl rfl rfl (fd_bA (fd_bR (by omega) (by omega)) (fd_bR (by omega) (by omega))) (fun h9 => ?_) (fun h9 => ?_)
    · refine fd_e_blk 1 (C := fd_c139) (b := true) (L' := [fd_R 13, fd_I lo, fd_I hi]) (st' := [fd_I 0]) (M' := A2) rfl rfl (j := 17) rfl (rfl) ?_
      refine fd_e_ret (C := fd_c139) (b := true) (r' := some (fd_I 0)) rfl rfl rfl (rfl) ?_
      exact ⟨by rw [fd_bi0 (show ¬ pz_n tx len q lo hi from fun z => by obtain ⟨z1, z2, z3⟩ := z; first | omega | (rw [← v2 (by omega)] at z2 z3; omega))], t2, f2⟩
    · refine fd_e_blk 3 (C := fd_c139) (b := true) (L' := [fd_R 13, fd_I lo, fd_I hi]) (st' := [fd_I hi, fd_I (A2 13 5)]) (M' := A2) rfl rfl (j := 13) rfl (rfl) ?_
      refine fd_e_br (C := fd_c139) (t := 16) (e := 14) (st' := []) (c := hi < (A2 13 5)) (b := (fd_rng (A2 13 5) && fd_rng hi)) rfl rfl rfl (fd_bA (fd_bR (by omega) (by omega)) (fd_bR (by omega) (by omega))) (fun h13 => ?_) (fun h13 => ?_)
      · refine fd_e_blk 1 (C := fd_c139) (b := true) (L' := [fd_R 13, fd_I lo, fd_I hi]) (st' := [fd_I 0]) (M' := A2) rfl rfl (j := 17) rfl (rfl) ?_
        refine fd_e_ret (C := fd_c139) (b := true) (r' := some (fd_I 0)) rfl rfl rfl (rfl) ?_
        exact ⟨by rw [fd_bi0 (show ¬ pz_n tx len q lo hi from fun z => by obtain ⟨z1, z2, z3⟩ := z; first | omega | (rw [← v2 (by omega)] at z2 z3; omega))], t2, f2⟩
      · refine fd_e_blk 1 (C := fd_c139) (b := true) (L' := [fd_R 13, fd_I lo, fd_I hi]) (st' := [fd_I 1]) (M' := A2) rfl rfl (j := 15) rfl (rfl) ?_
        refine fd_e_jmp (C := fd_c139) (j := 17) (st' := [fd_I 1]) rfl rfl (b := true) rfl rfl ?_
        refine fd_e_ret (C := fd_c139) (b := true) (r' := some (fd_I 1)) rfl rfl rfl (rfl) ?_
        exact ⟨by rw [fd_bi1 (show pz_n tx len q lo hi from ⟨by omega, by rw [← v2 (by omega)]; omega, by rw [← v2 (by omega)]; omega⟩)], t2, f2⟩

theorem fd_p_end {tx : Nat → Int} {len : Nat} (M : fd_M) (hx : tk_Tx tx len M) (q : Nat) (hq : q ≤ len) (hn : M 13 2 = (q : Int)) (Z : fd_M) : fd_callE 3 140 [fd_R 13] M (fun r R => r = some (fd_I (fd_bi ((pz_e tx len q Z).1 = true))) ∧ tk_TC tx len (pz_e tx len q Z).2.1 R ∧ tk_FA M R) := by
  refine fd_e_in (L := [fd_R 13]) rfl ?_
  refine fd_e_blk 1 (C := fd_c140) (b := true) (L' := [fd_R 13]) (st' := [fd_R 13]) (M' := M) rfl rfl (j := 1) rfl (rfl) ?_
  obtain ⟨A2, c2, t2, f2⟩ := fd_p_adv (M := M) hx (p := q) hq hn
  obtain ⟨a2, b2, k2, v2⟩ := id t2
  have kr2 := tk_kd_rng tx len (q)
  have vr2 := tk_vl_rng hx.2.2.2 len (q)
  refine fd_e_call (C := fd_c140) (d0 := 2) (mid := 129) (np := 1) (args := [fd_R 13]) (r1 := none) (M1 := A2) (st' := []) rfl rfl rfl rfl rfl rfl (rfl) (c2) rfl (by omega) ?_
  refine fd_e_blk 3 (C := fd_c140) (b := true) (L' := [fd_R 13]) (st' := [fd_I 3, fd_I (A2 13 4)]) (M' := A2) rfl rfl (j := 5) rfl (rfl) ?_
  refine fd_e_br (C := fd_c140) (t := 8) (e := 6) (st' := []) (c := (A2 13 4) = 3) (b := (fd_rng (A2 13 4) && fd_rng 3)) rfl rfl rfl (fd_bA (fd_bR (by omega) (by omega)) (fd_bR (by omega) (by omega))) (fun h5 => ?_) (fun h5 => ?_)
  · refine fd_e_blk 1 (C := fd_c140) (b := true) (L' := [fd_R 13]) (st' := [fd_R 13]) (M' := A2) rfl rfl (j := 9) rfl (rfl) ?_
    obtain ⟨A7, c7, t7, f7⟩ := fd_p_adv (M := A2) (tk_Tx_FA hx f2) (p := tk_nx tx len q) (tk_nl hq) a2
    obtain ⟨a7, b7, k7, v7⟩ := id t7
    have kr7 := tk_kd_rng tx len (tk_nx tx len q)
    have vr7 := tk_vl_rng hx.2.2.2 len (tk_nx tx len q)
    refine fd_e_call (C := fd_c140) (d0 := 2) (mid := 129) (np := 1) (args := [fd_R 13]) (r1 := none) (M1 := A7) (st' := []) rfl rfl rfl rfl rfl rfl (rfl) (c7) rfl (by omega) ?_
    refine fd_e_blk 1 (C := fd_c140) (b := true) (L' := [fd_R 13]) (st' := [fd_I 1]) (M' := A7) rfl rfl (j := 11) rfl (rfl) ?_
    refine fd_e_ret (C := fd_c140) (b := true) (r' := some (fd_I 1)) rfl rfl rfl (rfl) ?_
    refine ⟨?_, ?_, tk_FA_tr f2 f7⟩
    · rw [pz_e, if_pos (by omega)]; rfl
    · rw [pz_e, if_pos (by omega)]; exact t7
  · refine fd_e_blk 1 (C := fd_c140) (b := true) (L' := [fd_R 13]) (st' := [fd_I 0]) (M' := A2) rfl rfl (j := 7) rfl (rfl) ?_
    refine fd_e_ret (C := fd_c140) (b := true) (r' := some (fd_I 0)) rfl rfl rfl (rfl) ?_
    refine ⟨?_, ?_, f2⟩
    · rw [pz_e, if_neg (by omega)]; rfl
    · rw [pz_e, if_neg (by omega)]; exact t2

theorem fd_p_gnd {tx : Nat → Int} {len : Nat} (M : fd_M) (hx : tk_Tx tx len M) (q : Nat) (hq : q ≤ len) (hn : M 13 2 = (q : Int)) : fd_callE 3 135 [fd_R 13] M (fun r R => r = some (fd_I (pz_g tx len q)) ∧ tk_TC tx len q R ∧ tk_FA M R) := by
  refine fd_e_in (L := [fd_R 13]) rfl ?_
  refine fd_e_blk 1 (C := fd_c135) (b := true) (L' := [fd_R 13]) (st' := [fd_R 13]) (M' := M) rfl rfl (j := 1) rfl (rfl) ?_
  obtain ⟨A2, c2, t2, f2⟩ := fd_p_adv (M := M) hx (p := q) hq hn
  obtain ⟨a2, b2, k2, v2⟩ := id t2
  have kr2 := tk_kd_rng tx len (q)
  have vr2 := tk_vl_rng hx.2.2.2 len (q)
  refine fd_e_call (C := fd_c135) (d0 := 2) (mid := 129) (np := 1) (args := [fd_R 13]) (r1 := none) (M1 := A2) (st' := []) rfl rfl rfl rfl rfl rfl (rfl) (c2) rfl (by omega) ?_
  refine fd_e_blk 3 (C := fd_c135) (b := true) (L' := [fd_R 13]) (st' := [fd_I 1, fd_I (A2 13 4)]) (M' := A2) rfl rfl (j := 5) rfl (rfl) ?_
  refine fd_e_br (C := fd_c135) (t := 8) (e := 6) (st' := []) (c := (A2 13 4) = 1) (b := (fd_rng (A2 13 4) && fd_rng 1)) rfl rfl rfl (fd_bA (fd_bR (by omega) (by omega)) (fd_bR (by omega) (by omega))) (fun h5 => ?_) (fun h5 => ?_)
  · have qv2 : 0 ≤ A2 13 5 ∧ A2 13 5 ≤ 255 := by rw [v2 (by omega)]; exact vr2
    refine fd_e_blk 2 (C := fd_c135) (b := true) (L' := [fd_R 13]) (st' := [fd_I (A2 13 5)]) (M' := A2) rfl rfl (j := 10) rfl (rfl) ?_
    by_cases h10_0 : (A2 13 5) = 102
    · refine fd_e_jmp (C := fd_c135) (j := 11) (st' := []) rfl rfl (b := fd_rng (A2 13 5)) (by rw [h10_0]; rfl) (fd_bR (by omega) (by omega)) ?_
      refine fd_e_blk 1 (C := fd_c135) (b := true) (L' := [fd_R 13]) (st' := [fd_I 0]) (M' := A2) rfl rfl (j := 12) rfl (rfl) ?_
      refine fd_e_ret (C := fd_c135) (b := true) (r' := some (fd_I 0)) rfl rfl rfl (rfl) ?_
      refine ⟨?_, t2, f2⟩
      rw [pz_g]
      first | (rw [if_neg (by omega)]; done) | (rw [if_pos (by omega), ← v2 (by omega), pz_gd]; first | (rw [if_pos h10_0]; done) | (rw [if_neg h10_0, if_pos h10_1]; done) | (rw [if_neg h10_0, if_neg h10_1, if_pos h10_2]; done) | (rw [if_neg h10_0, if_neg h10_1, if_neg h10_2]; done))
    by_cases h10_1 : (A2 13 5) = 116
    · refine fd_e_jmp (C := fd_c135) (j := 15) (st' := []) rfl rfl (b := fd_rng (A2 13 5)) (by rw [h10_1]; rfl) (fd_bR (by omega) (by omega)) ?_
      refine fd_e_blk 1 (C := fd_c135) (b := true) (L' := [fd_R 13]) (st' := [fd_I 2]) (M' := A2) rfl rfl (j := 16) rfl (rfl) ?_
      refine fd_e_ret (C := fd_c135) (b := true) (r' := some (fd_I 2)) rfl rfl rfl (rfl) ?_
      refine ⟨?_, t2, f2⟩
      rw [pz_g]
      first | (rw [if_neg (by omega)]; done) | (rw [if_pos (by omega), ← v2 (by omega), pz_gd]; first | (rw [if_pos h10_0]; done) | (rw [if_neg h10_0, if_pos h10_1]; done) | (rw [if_neg h10_0, if_neg h10_1, if_pos h10_2]; done) | (rw [if_neg h10_0, if_neg h10_1, if_neg h10_2]; done))
    by_cases h10_2 : (A2 13 5) = 120
    · refine fd_e_jmp (C := fd_c135) (j := 13) (st' := []) rfl rfl (b := fd_rng (A2 13 5)) (by rw [h10_2]; rfl) (fd_bR (by omega) (by omega)) ?_
      refine fd_e_blk 1 (C := fd_c135) (b := true) (L' := [fd_R 13]) (st' := [fd_I 1]) (M' := A2) rfl rfl (j := 14) rfl (rfl) ?_
      refine fd_e_ret (C := fd_c135) (b := true) (r' := some (fd_I 1)) rfl rfl rfl (rfl) ?_
      refine ⟨?_, t2, f2⟩
      rw [pz_g]
      first | (rw [if_neg (by omega)]; done) | (rw [if_pos (by omega), ← v2 (by omega), pz_gd]; first | (rw [if_pos h10_0]; done) | (rw [if_neg h10_0, if_pos h10_1]; done) | (rw [if_neg h10_0, if_neg h10_1, if_pos h10_2]; done) | (rw [if_neg h10_0, if_neg h10_1, if_neg h10_2]; done))
    refine fd_e_jmp (C := fd_c135) (j := 17) (st' := []) rfl rfl (b := fd_rng (A2 13 5)) (by simp only [fd_jmp, fd_look, List.drop_succ_cons, List.drop_zero, h10_0, h10_1, h10_2, if_false]; rfl) (fd_bR (by omega) (by omega)) ?_
    refine fd_e_blk 1 (C := fd_c135) (b := true) (L' := [fd_R 13]) (st' := [fd_I (-1)]) (M' := A2) rfl rfl (j := 18) rfl (rfl) ?_
    refine fd_e_ret (C := fd_c135) (b := true) (r' := some (fd_I (-1))) rfl rfl rfl (rfl) ?_
    refine ⟨?_, t2, f2⟩
    rw [pz_g]
    first | (rw [if_neg (by omega)]; done) | (rw [if_pos (by omega), ← v2 (by omega), pz_gd]; first | (rw [if_pos h10_0]; done) | (rw [if_neg h10_0, if_pos h10_1]; done) | (rw [if_neg h10_0, if_neg h10_1, if_pos h10_2]; done) | (rw [if_neg h10_0, if_neg h10_1, if_neg h10_2]; done))
  · refine fd_e_blk 1 (C := fd_c135) (b := true) (L' := [fd_R 13]) (st' := [fd_I (-1)]) (M' := A2) rfl rfl (j := 7) rfl (rfl) ?_
    refine fd_e_ret (C := fd_c135) (b := true) (r' := some (fd_I (-1))) rfl rfl rfl (rfl) ?_
    refine ⟨?_, t2, f2⟩
    rw [pz_g]
    first | (rw [if_neg (by omega)]; done) | (rw [if_pos (by omega), ← v2 (by omega), pz_gd]; first | (rw [if_pos h10_0]; done) | (rw [if_neg h10_0, if_pos h10_1]; done) | (rw [if_neg h10_0, if_neg h10_1, if_pos h10_2]; done) | (rw [if_neg h10_0, if_neg h10_1, if_neg h10_2]; done))


/-! turn: the first least -/
def tn_st (ok : Nat → Bool) (key : Nat → Int) (c : Nat) (s : Int × Int) : Int × Int := if ok c = true then (if s.1 = -9 ∨ key c < s.2 then ((c : Int), key c) else s) else s
def tn_sc (ok : Nat → Bool) (key : Nat → Int) : Nat → Nat → Int × Int → Int × Int
  | 0, _, s => s
  | n + 1, c, s => tn_sc ok key n (c + 1) (tn_st ok key c s)
theorem tn_sc_add (ok : Nat → Bool) (key : Nat → Int) : ∀ (a b c : Nat) (s : Int × Int), tn_sc ok key (a + b) c s = tn_sc ok key b (c + a) (tn_sc ok key a c s)
  | 0, b, c, s => by rw [Nat.zero_add]; rfl
  | a + 1, b, c, s => by
    rw [show a + 1 + b = (a + b) + 1 by omega]
    show tn_sc ok key (a + b) (c + 1) (tn_st ok key c s) = tn_sc ok key b (c + (a + 1)) (tn_sc ok key a (c + 1) (tn_st ok key c s))
    rw [tn_sc_add ok key a b, show c + 1 + a = c + (a + 1) by omega]
theorem tn_sc_tf (ok : Nat → Bool) (key : Nat → Int) : ∀ n : Nat, tn_sc ok key n 0 (-9, 0) = fd_tf ok key n
  | 0 => rfl
  | n + 1 => by
    rw [tn_sc_add ok key n 1, tn_sc_tf ok key n, Nat.zero_add]
    rfl
theorem tn_sc_id (ok : Nat → Bool) (key : Nat → Int) (s : Int × Int) : ∀ (n c : Nat), (∀ k, c ≤ k → k < c + n → tn_st ok key k s = s) → tn_sc ok key n c s = s
  | 0, c, _ => rfl
  | n + 1, c, h => by
    show tn_sc ok key n (c + 1) (tn_st ok key c s) = s
    rw [h c (by omega) (by omega)]
    exact tn_sc_id ok key s n (c + 1) (fun k h1 h2 => h k (by omega) (by omega))
theorem tn_dg {d n c j : Nat} (h : j < d) : fd_dg (d + n) c j = fd_dg d (c / 4 ^ n) j := by
  unfold fd_dg
  rw [Nat.div_div_eq_div_mul, ← Nat.pow_add, show d + n - 1 - j = n + (d - 1 - j) by omega]
theorem tn_dgS {d P k j : Nat} (hk : k < 4) (h : j < d) : fd_dg (d + 1) (P * 4 + k) j = fd_dg d P j := by
  rw [tn_dg h, Nat.pow_one, show (P * 4 + k) / 4 = P by omega]
theorem tn_dgL {d P k : Nat} (hk : k < 4) : fd_dg (d + 1) (P * 4 + k) d = (k : Int) := by
  unfold fd_dg
  rw [show d + 1 - 1 - d = 0 by omega, Nat.pow_zero, Nat.div_one]
  omega
theorem tn_dtc_c {N K : fd_M} {d : Nat} (h74 : N 74 = K 74) (h14 : N 14 = K 14) (h3 : N 3 = K 3) (hd : N 76 d = K 76 d) (hj : ∀ j, j < d → N 76 j = K 76 j) (hr : -1 ≤ K 74 ((d : Int) * 4 + K 76 d).toNat) : fd_dtc N d = fd_dtc K d := by
  have pf : ∀ j, fd_pf N j = fd_pf K j := fun j => by
    unfold fd_pf
    rw [h14, h3]
  unfold fd_dtc
  rw [h74, hd, pf, pf]
  generalize K 74 ((d : Int) * 4 + K 76 d).toNat = t at *
  by_cases z : t = -1
  · rw [if_pos z, if_pos z]
  · rw [if_neg z, if_neg z]
    by_cases q : t < d
    · rw [hj t.toNat (by omega)]
    · rw [if_neg (fun w => q w.1), if_neg (fun w => q w.1)]
theorem tn_sum_le {f : Nat → Int} (h : ∀ j, 0 ≤ f j) (a : Nat) : ∀ b : Nat, fd_sum f a ≤ fd_sum f (a + b)
  | 0 => Int.le_refl _
  | b + 1 => by
    have := tn_sum_le h a b
    have := h (a + b)
    show fd_sum f a ≤ fd_sum f (a + b) + f (a + b)
    omega
theorem tn_sum_01 {f : Nat → Int} (h : ∀ j, 0 ≤ f j ∧ f j ≤ 1) : ∀ n : Nat, 0 ≤ fd_sum f n ∧ fd_sum f n ≤ n
  | 0 => by
    show (0 : Int) ≤ 0 ∧ (0 : Int) ≤ ((0 : Nat) : Int)
    omega
  | n + 1 => by
    have := tn_sum_01 h n
    have := h n
    show 0 ≤ fd_sum f n + f n ∧ fd_sum f n + f n ≤ ((n + 1 : Nat) : Int)
    omega
def tn_tu (B : fd_M) (g : Nat → Int) (j : Nat) : Int := if g j = B 17 j then 0 else 1
theorem tn_tu_rng (B : fd_M) (g : Nat → Int) (j : Nat) : 0 ≤ tn_tu B g j ∧ tn_tu B g j ≤ 1 := by
  unfold tn_tu
  split <;> omega
def tn_R (D : Nat) (N : fd_M) (s : Int × Int) : Prop := (N 73 7 = 0 ∧ s.1 = -9) ∨ (N 73 7 = 1 ∧ 0 ≤ s.1 ∧ s.2 = 10 * N 73 8 + N 73 9 ∧ (0 ≤ N 73 9 ∧ N 73 9 ≤ 6) ∧ ∀ j, j < D → N 77 j = fd_dg D s.1.toNat j)
section tn
variable {B : fd_M} {D : Nat} {ok : Nat → Bool} {key : Nat → Int}
/-- what holds of the tables -/
def tn_H (B : fd_M) (D : Nat) (ok : Nat → Bool) (key : Nat → Int) : Prop := fd_CG B ∧ D ≤ 6 ∧ (∀ (j : Nat) (w : Int), j < D → 0 ≤ w ∧ w ≤ 3 → -1 ≤ B 74 ((j : Int) * 4 + w).toNat) ∧ (∀ c, ok c = true ↔ ∀ j, j < D → ¬ B 75 ((j : Int) * 4 + fd_dg D c j).toNat = 0) ∧ (∀ c, key c = 10 * fd_sum (tn_inc B (fd_dg D c)) D + fd_sum (tn_tu B (fd_dg D c)) D)
theorem tn_inc_0 (hH : tn_H B D ok key) (g : Nat → Int) (j : Nat) : 0 ≤ tn_inc B g j := (fd_dtc_rng (M := tn_g B g) hH.1 j).1
theorem tn_inc_c (hH : tn_H B D ok key) {g k : Nat → Int} {d : Nat} (hd : d < D) (h : ∀ j, j ≤ d → g j = k j) (hk : 0 ≤ k d ∧ k d ≤ 3) : tn_inc B g d = tn_inc B k d :=
  tn_dtc_c rfl rfl rfl (h d (Nat.le_refl _)) (fun j hj => h j (by omega)) (hH.2.2.1 d (k d) hd hk)
/-- a branch: its part of the sums -/
theorem tn_pre (hH : tn_H B D ok key) {n d P c : Nat} (hdn : d + n = D) (hc : c / 4 ^ n = P) : (∀ j, j < d → fd_dg D c j = fd_dg d P j) ∧ fd_sum (tn_inc B (fd_dg D c)) d = fd_sum (tn_inc B (fd_dg d P)) d ∧ fd_sum (tn_tu B (fd_dg D c)) d = fd_sum (tn_tu B (fd_dg d P)) d := by
  have a : ∀ j, j < d → fd_dg D c j = fd_dg d P j := fun j hj => by rw [← hdn, tn_dg hj, hc]
  refine ⟨a, fd_sum_congr _ (fun j hj => tn_inc_c hH (by omega) (fun i hi => a i (by omega)) (fd_dg_rng _ _ _)), fd_sum_congr _ (fun j hj => ?_)⟩
  unfold tn_tu
  rw [a j hj]
theorem tn_div {n P c : Nat} (h1 : P * 4 ^ n ≤ c) (h2 : c < P * 4 ^ n + 4 ^ n) : c / 4 ^ n = P := by
  have p := Nat.pow_pos (n := n) (show 0 < 4 by decide)
  apply Nat.div_eq_of_lt_le
  · exact h1
  · rw [Nat.add_mul, Nat.one_mul]; exact h2
theorem tn_nb (hH : tn_H B D ok key) {n d P : Nat} (hdn : d + n = D) {due tu : Int} (hdue : due = fd_sum (tn_inc B (fd_dg d P)) d) (htu : tu = fd_sum (tn_tu B (fd_dg d P)) d) {N : fd_M} {s : Int × Int} (hR : tn_R D N s) (hb : ¬ fd_bet N due tu) : tn_sc ok key (4 ^ n) (P * 4 ^ n) s = s := by
  refine tn_sc_id ok key s _ _ (fun c h1 h2 => ?_)
  have pr := tn_pre hH hdn (tn_div h1 h2)
  have i0 := tn_sum_le (tn_inc_0 hH (fd_dg D c)) d n
  have i1 := tn_sum_le (fun j => (tn_tu_rng B (fd_dg D c) j).1) d n
  rw [hdn] at i0 i1
  rw [pr.2.1, ← hdue] at i0
  rw [pr.2.2, ← htu] at i1
  have ke := hH.2.2.2.2 c
  have t0 := (tn_sum_01 (tn_tu_rng B (fd_dg d P)) d).1
  rw [← htu] at t0
  unfold fd_bet at hb
  rcases hR with ⟨r1, -⟩ | ⟨r1, r2, r3, r4, -⟩
  · exact absurd (Or.inl r1) hb
  · unfold tn_st
    split
    · rw [if_neg]
      intro z
      rcases z with z | z
      · omega
      · by_cases l1 : due < N 73 8
        · exact hb (Or.inr (Or.inl l1))
        · by_cases l2 : due = N 73 8
          · by_cases l3 : tu < N 73 9
            · exact hb (Or.inr (Or.inr ⟨l2, l3⟩))
            · omega
          · omega
    · rfl
def tn_Main (B : fd_M) (D : Nat) (ok : Nat → Bool) (key : Nat → Int) (n d : Nat) : Prop := ∀ (P : Nat) (due tu : Int) (N : fd_M) (s : Int × Int), fd_sam B N → (∀ j, j < d → N 76 j = fd_dg d P j) → due = fd_sum (tn_inc B (fd_dg d P)) d → tu = fd_sum (tn_tu B (fd_dg d P)) d → (∀ j, j < d → ¬ B 75 ((j : Int) * 4 + fd_dg d P j).toNat = 0) → tn_R D N s → tn_R D (fd_cho n d due tu N) (tn_sc ok key (4 ^ n) (P * 4 ^ n) s) ∧ fd_sam B (fd_cho n d due tu N) ∧ (∀ j, j < d → fd_cho n d due tu N 76 j = N 76 j)
theorem tn_loop (hH : tn_H B D ok key) {n d : Nat} (hdn : d + (n + 1) = D) (IH : tn_Main B D ok key n (d + 1)) (P : Nat) (due tu : Int) (hdue : due = fd_sum (tn_inc B (fd_dg d P)) d) (htu : tu = fd_sum (tn_tu B (fd_dg d P)) d) (hok : ∀ j, j < d → ¬ B 75 ((j : Int) * 4 + fd_dg d P j).toNat = 0) : ∀ (m k : Nat) (N : fd_M) (s : Int × Int), k + m = 4 → fd_sam B N → (∀ j, j < d → N 76 j = fd_dg d P j) → tn_R D N s → tn_R D (fd_eac (fd_stp (fd_cho n (d + 1)) d due tu) m k N) (tn_sc ok key (m * 4 ^ n) ((P * 4 + k) * 4 ^ n) s) ∧ fd_sam B (fd_eac (fd_stp (fd_cho n (d + 1)) d due tu) m k N) ∧ (∀ j, j < d → fd_eac (fd_stp (fd_cho n (d + 1)) d due tu) m k N 76 j = N 76 j)
  | 0, k, N, s, _, hs, _, hR => by
    rw [Nat.zero_mul]
    exact ⟨hR, hs, fun _ _ => rfl⟩
  | m + 1, k, N, s, hk, hs, hw, hR => by
    have step : tn_R D (fd_stp (fd_cho n (d + 1)) d due tu k N) (tn_sc ok key (4 ^ n) ((P * 4 + k) * 4 ^ n) s) ∧ fd_sam B (fd_stp (fd_cho n (d + 1)) d due tu k N) ∧ (∀ j, j < d → fd_stp (fd_cho n (d + 1)) d due tu k N 76 j = N 76 j) := by
      unfold fd_stp
      have e75 : N 75 = B 75 := hs 75 (by decide) (by decide) (by decide)
      have e17 : N 17 = B 17 := hs 17 (by decide) (by decide) (by decide)
      by_cases z : N 75 ((d : Int) * 4 + (k : Int)).toNat = 0
      · rw [if_pos z, tn_sc_id ok key s _ _ (fun c h1 h2 => ?_)]
        · exact ⟨hR, hs, fun _ _ => rfl⟩
        · have pr := tn_pre hH (n := n) (d := d + 1) (by omega) (tn_div h1 h2)
          unfold tn_st
          rw [if_neg]
          intro w
          refine (hH.2.2.2.1 c).mp w d (by omega) ?_
          rw [pr.1 d (by omega), tn_dgL (by omega), ← e75]
          exact z
      · rw [if_neg z]
        have w1 : ∀ j, fd_up N 76 d (k : Int) 76 j = if j = d then (k : Int) else N 76 j := fun j => fd_up_at ..
        have w2 : ∀ j, j < d + 1 → fd_up N 76 d (k : Int) 76 j = fd_dg (d + 1) (P * 4 + k) j := fun j hj => by
          rw [w1]
          by_cases q : j = d
          · rw [if_pos q, q, tn_dgL (by omega)]
          · rw [if_neg q, tn_dgS (by omega) (by omega)]
            exact hw j (by omega)
        have d0 : ∀ j, j < d → fd_dg (d + 1) (P * 4 + k) j = fd_dg d P j := fun j hj => tn_dgS (by omega) hj
        have s1 : fd_sum (tn_inc B (fd_dg (d + 1) (P * 4 + k))) d = due := by
          rw [hdue]
          exact fd_sum_congr _ (fun j hj => tn_inc_c hH (by omega) (fun i hi => d0 i (by omega)) (fd_dg_rng _ _ _))
        have s2 : fd_sum (tn_tu B (fd_dg (d + 1) (P * 4 + k))) d = tu := by
          rw [htu]
          refine fd_sum_congr _ (fun j hj => ?_)
          unfold tn_tu
          rw [d0 j hj]
        have s3 : fd_dtc (fd_up N 76 d (k : Int)) d = tn_inc B (fd_dg (d + 1) (P * 4 + k)) d := by
          refine tn_dtc_c ?_ ?_ ?_ (w2 d (by omega)) (fun j hj => w2 j (by omega)) ?_
          · rw [fd_up_ne (by decide)]; exact hs 74 (by decide) (by decide) (by decide)
          · rw [fd_up_ne (by decide)]; exact hs 14 (by decide) (by decide) (by decide)
          · rw [fd_up_ne (by decide)]; exact hs 3 (by decide) (by decide) (by decide)
          · exact hH.2.2.1 d (fd_dg (d + 1) (P * 4 + k) d) (by omega) (fd_dg_rng _ _ _)
        have r := IH (P * 4 + k) (due + fd_dtc (fd_up N 76 d (k : Int)) d) (tu + (if (k : Int) = N 17 d then 0 else 1)) (fd_up N 76 d (k : Int)) s (fun c a b e => (fd_up_ne b).trans (hs c a b e)) w2 (by
            show _ = fd_sum (tn_inc B (fd_dg (d + 1) (P * 4 + k))) d + tn_inc B (fd_dg (d + 1) (P * 4 + k)) d
            rw [s1, s3]) (by
            show _ = fd_sum (tn_tu B (fd_dg (d + 1) (P * 4 + k))) d + tn_tu B (fd_dg (d + 1) (P * 4 + k)) d
            rw [s2]
            unfold tn_tu
            rw [tn_dgL (by omega), e17]) (fun j hj => by
            by_cases q : j = d
            · rw [q, tn_dgL (by omega), ← e75]; exact z
            · rw [d0 j (by omega)]; exact hok j (by omega)) (by
            rcases hR with r | r
            · exact Or.inl r
            · exact Or.inr r)
        refine ⟨r.1, r.2.1, fun j hj => ?_⟩
        rw [r.2.2 j (by omega), w1, if_neg (by omega)]
    have rest := tn_loop hH hdn IH P due tu hdue htu hok m (k + 1) _ _ (by omega) step.2.1 (fun j hj => by rw [step.2.2 j hj]; exact hw j hj) step.1
    rw [show (m + 1) * 4 ^ n = 4 ^ n + m * 4 ^ n by rw [Nat.add_mul, Nat.one_mul]; omega, tn_sc_add, show (P * 4 + k) * 4 ^ n + 4 ^ n = (P * 4 + (k + 1)) * 4 ^ n by rw [← Nat.add_assoc, Nat.add_mul (P * 4 + k) 1, Nat.one_mul]]
    exact ⟨rest.1, rest.2.1, fun j hj => (rest.2.2 j hj).trans (step.2.2 j hj)⟩
theorem tn_main (hH : tn_H B D ok key) : ∀ (n d : Nat), d + n = D → tn_Main B D ok key n d
  | 0, d, hdn => by
    intro P due tu N s hs hw hdue htu hok hR
    show tn_R D (if fd_bet N due tu then fd_tk N due tu else N) _ ∧ fd_sam B (if fd_bet N due tu then fd_tk N due tu else N) ∧ (∀ j, j < d → (if fd_bet N due tu then fd_tk N due tu else N) 76 j = N 76 j)
    by_cases hb : fd_bet N due tu
    · rw [if_pos hb]
      have ed : d = D := by omega
      subst ed
      have c0 : tn_sc ok key (4 ^ 0) (P * 4 ^ 0) s = tn_st ok key P s := by
        rw [Nat.pow_zero, Nat.mul_one]
        rfl
      have ke := hH.2.2.2.2 P
      rw [← hdue, ← htu] at ke
      have t6 := tn_sum_01 (tn_tu_rng B (fd_dg d P)) d
      rw [← htu] at t6
      have d6 := hH.2.1
      have bt : s.1 = -9 ∨ key P < s.2 := by
        rcases hR with ⟨r1, r2⟩ | ⟨r1, r2, r3, r4, -⟩
        · exact Or.inl r2
        · right
          rcases hb with z | z | z
          · omega
          · omega
          · omega
      have es : tn_st ok key P s = ((P : Int), key P) := by
        unfold tn_st
        rw [if_pos ((hH.2.2.2.1 P).mpr hok), if_pos bt]
      rw [c0, es]
      have f : ∀ c, c ≠ 73 → c ≠ 77 → fd_tk N due tu c = N c := fun c h1 h2 => by
        funext k
        simp [fd_tk, fd_cp, fd_up, h1, h2]
      refine ⟨Or.inr ⟨rfl, by show (0 : Int) ≤ (P : Int); omega, ?_, ?_, fun j hj => ?_⟩, fun c a b e => (f c a e).trans (hs c a b e), fun j hj => by rw [f 76 (by decide) (by decide)]⟩
      · show key P = 10 * due + tu
        exact ke
      · show 0 ≤ tu ∧ tu ≤ 6
        omega
      · show fd_tk N due tu 77 j = fd_dg d P j
        rw [← hw j hj]
        unfold fd_tk fd_cp
        rw [if_pos (by omega), Nat.sub_zero, Nat.zero_add]
        rfl
    · rw [if_neg hb, tn_nb hH hdn hdue htu hR hb]
      exact ⟨hR, hs, fun _ _ => rfl⟩
  | n + 1, d, hdn => by
    intro P due tu N s hs hw hdue htu hok hR
    show tn_R D (if fd_bet N due tu then fd_eac (fd_stp (fd_cho n (d + 1)) d due tu) 4 0 N else N) _ ∧ fd_sam B (if fd_bet N due tu then fd_eac (fd_stp (fd_cho n (d + 1)) d due tu) 4 0 N else N) ∧ (∀ j, j < d → (if fd_bet N due tu then fd_eac (fd_stp (fd_cho n (d + 1)) d due tu) 4 0 N else N) 76 j = N 76 j)
    by_cases hb : fd_bet N due tu
    · rw [if_pos hb]
      have r := tn_loop hH hdn (tn_main hH n (d + 1) (by omega)) P due tu hdue htu hok 4 0 N s rfl hs hw hR
      rw [show (P * 4 + 0) * 4 ^ n = P * 4 ^ (n + 1) by rw [Nat.pow_succ', ← Nat.mul_assoc, Nat.add_zero], show 4 * 4 ^ n = 4 ^ (n + 1) from Nat.pow_succ'.symm] at r
      exact r
    · rw [if_neg hb, tn_nb hH hdn hdue htu hR hb]
      exact ⟨hR, hs, fun _ _ => rfl⟩
end tn

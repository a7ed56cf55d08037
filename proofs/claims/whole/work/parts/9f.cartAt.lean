/-! cartAt: one more cart -/
def ca_cv (cv : Int → Int → Int) (px py : Int) : Int → Int → Int := fun x y => if (x = px ∧ y = py) ∧ cv x y = 0 then 3 else cv x y
theorem ca_rl_back (M : fd_M) (due dx dy : Int) (t p : Nat) (hs : (dx = 0 ∧ dy = -1) ∨ (dx = 1 ∧ dy = 0) ∨ (dx = 0 ∧ dy = 1) ∨ (dx = -1 ∧ dy = 0)) : ∀ (m i : Nat) (x y : Int) (r : Nat → Int), (p : Int) = y * 7 + x - i * (7 * dy + dx) → fd_rl M due dx dy t m x y r p = r p
  | 0, i, x, y, r, h => rfl
  | m + 1, i, x, y, r, h => by
    rw [fd_rl]
    split
    · rfl
    · rename_i h1
      have g : (p : Int) = (y + dy) * 7 + (x + dx) - ((i + 1 : Nat) : Int) * (7 * dy + dx) := by
        rcases hs with ⟨rfl, rfl⟩ | ⟨rfl, rfl⟩ | ⟨rfl, rfl⟩ | ⟨rfl, rfl⟩ <;> omega
      rw [ca_rl_back M due dx dy t p hs m (i + 1) _ _ _ g]
      split
      · have ne : ¬ p = ((y + dy) * 7 + (x + dx)).toNat := by
          intro e
          rcases hs with ⟨rfl, rfl⟩ | ⟨rfl, rfl⟩ | ⟨rfl, rfl⟩ | ⟨rfl, rfl⟩ <;> omega
        unfold fd_ur
        rw [if_neg ne]
      · rfl
theorem ca_see_9 (cv : Int → Int → Int) (lf dx dy px py : Int) : ∀ (n : Nat) (x y : Int), fd_see cv lf dx dy n x y = -9 → fd_see (ca_cv cv px py) lf dx dy n x y = -9
  | 0, _, _, _ => rfl
  | n + 1, x, y, h => by
    rw [fd_see] at h
    by_cases q : ((x + dx) = px ∧ (y + dy) = py) ∧ cv (x + dx) (y + dy) = 0
    · exact fd_see_end (c := 3) (by unfold ca_cv; rw [if_pos q]) (by omega)
    · have e : ca_cv cv px py (x + dx) (y + dy) = cv (x + dx) (y + dy) := by unfold ca_cv; rw [if_neg q]
      rw [fd_see, e]
      by_cases h1 : 10 ≤ cv (x + dx) (y + dy)
      · rw [if_pos h1] at h ⊢; exact h
      · rw [if_neg h1] at h ⊢
        split
        · rfl
        · rename_i h2
          rw [if_neg h2] at h
          exact ca_see_9 cv lf dx dy px py n _ _ h
theorem ca_rl {M : fd_M} (hG : fd_CG M) (due dx dy px py : Int) (hs : (dx = 0 ∧ dy = -1) ∨ (dx = 1 ∧ dy = 0) ∨ (dx = 0 ∧ dy = 1) ∨ (dx = -1 ∧ dy = 0)) (hp : (0 ≤ px ∧ px ≤ 6) ∧ (0 ≤ py ∧ py ≤ 6)) (x0 y0 : Int) (h0 : (0 ≤ x0 ∧ x0 ≤ 6) ∧ (0 ≤ y0 ∧ y0 ≤ 6)) (o : Int) (ho : 0 ≤ o) : ∀ (n m i : Nat) (x y : Int) (r : Nat → Int), i + m = 6 → x = x0 + i * dx → y = y0 + i * dy → fd_see (fd_cvC M) (M 14 6) dx dy n x y = o → (fd_see (ca_cv (fd_cvC M) px py) (M 14 6) dx dy n x y = -9 ∧ fd_rl M due dx dy o.toNat m x y r (py * 7 + px).toNat = r (py * 7 + px).toNat + due) ∨ (fd_see (ca_cv (fd_cvC M) px py) (M 14 6) dx dy n x y = o ∧ fd_rl M due dx dy o.toNat m x y r (py * 7 + px).toNat = r (py * 7 + px).toNat)
  | 0, m, i, x, y, r, _, _, _, h => by
    have : (-9 : Int) = o := h
    omega
  | n + 1, 0, i, x, y, r, hi, hx, hy, h => by
    exfalso
    obtain ⟨g0, g1, -⟩ := hG.1
    have e : fd_cvC M (x + dx) (y + dy) = -1 := by
      unfold fd_cvC
      rw [if_neg]
      intro z
      rcases hs with ⟨rfl, rfl⟩ | ⟨rfl, rfl⟩ | ⟨rfl, rfl⟩ | ⟨rfl, rfl⟩ <;> omega
    rw [fd_see_end e (by omega)] at h
    omega
  | n + 1, m + 1, i, x, y, r, hi, hx, hy, h => by
    obtain ⟨g0, g1, g2, g3, g4, g5⟩ := hG.1
    have cr := fd_cvC_rng hG (x + dx) (y + dy)
    have dr := fd_dor_rng g2.1 (x + dx) (y + dy)
    have ec : fd_cvC M (x + dx) (y + dy) = if 0 ≤ x + dx ∧ x + dx < M 3 0 ∧ 0 ≤ y + dy ∧ y + dy < M 3 1 then (if fd_dor M (x + dx) (y + dy) = -1 then (if M 14 5 / 2 ^ ((y + dy) * 7 + (x + dx)).toNat % 2 = 1 then 3 else M 4 ((y + dy) * 7 + (x + dx)).toNat) else 10 + fd_dor M (x + dx) (y + dy)) else -1 := rfl
    have gr := g5 ((y + dy) * 7 + (x + dx)).toNat
    rw [fd_see] at h
    by_cases h1 : 10 ≤ fd_cvC M (x + dx) (y + dy)
    · right
      rw [if_pos h1] at h
      have e : ca_cv (fd_cvC M) px py (x + dx) (y + dy) = fd_cvC M (x + dx) (y + dy) := by unfold ca_cv; rw [if_neg (by omega)]
      refine ⟨by rw [fd_see_hit e h1]; exact h, ?_⟩
      have b : 0 ≤ x + dx ∧ x + dx < M 3 0 ∧ 0 ≤ y + dy ∧ y + dy < M 3 1 := by
        apply Classical.byContradiction
        intro z
        rw [if_neg z] at ec
        omega
      rw [if_pos b] at ec
      have d1 : ¬ fd_dor M (x + dx) (y + dy) = -1 := by
        intro z
        rw [if_pos z] at ec
        split at ec <;> omega
      rw [if_neg d1] at ec
      have eo : o = fd_dor M (x + dx) (y + dy) := by omega
      have ds := fd_dr_some (px := M 15) (py := M 16) (x := x + dx) (y := y + dy) (M 3 2).toNat 0 d1
      rw [fd_rl, if_pos (Or.inr (by rw [eo]; exact ds))]
    · rw [if_neg h1] at h
      by_cases h2 : fd_cvC M (x + dx) (y + dy) = -1 ∨ fd_cvC M (x + dx) (y + dy) = 1 ∨ fd_cvC M (x + dx) (y + dy) = 3 ∨ (fd_cvC M (x + dx) (y + dy) = 2 ∧ M 14 6 = 1)
      · rw [if_pos h2] at h; omega
      · rw [if_neg h2] at h
        have b : 0 ≤ x + dx ∧ x + dx < M 3 0 ∧ 0 ≤ y + dy ∧ y + dy < M 3 1 := by
          apply Classical.byContradiction
          intro z
          rw [if_neg z] at ec
          omega
        rw [if_pos b] at ec
        have d1 : fd_dor M (x + dx) (y + dy) = -1 := by
          apply Classical.byContradiction
          intro z
          rw [if_neg z] at ec
          omega
        rw [if_pos d1] at ec
        have c1 : ¬ M 14 5 / 2 ^ ((y + dy) * 7 + (x + dx)).toNat % 2 = 1 := by
          intro z
          rw [if_pos z] at ec
          omega
        rw [if_neg c1] at ec
        have ob := fd_see_rng (fd_cvC_rng hG) (M 14 6) dx dy n (x + dx) (y + dy)
        have nt : ¬ (M 15 o.toNat = x + dx ∧ M 16 o.toNat = y + dy) := fd_dr_none (M 3 2).toNat 0 d1 o.toNat (Nat.zero_le _) (by omega)
        rw [fd_rl, if_neg (by intro z; rcases z with z | z; exact z b; exact nt z)]
        have xi : x + dx = x0 + ((i + 1 : Nat) : Int) * dx := by
          rcases hs with ⟨rfl, rfl⟩ | ⟨rfl, rfl⟩ | ⟨rfl, rfl⟩ | ⟨rfl, rfl⟩ <;> omega
        have yi : y + dy = y0 + ((i + 1 : Nat) : Int) * dy := by
          rcases hs with ⟨rfl, rfl⟩ | ⟨rfl, rfl⟩ | ⟨rfl, rfl⟩ | ⟨rfl, rfl⟩ <;> omega
        by_cases q : x + dx = px ∧ y + dy = py
        · by_cases z : fd_cvC M (x + dx) (y + dy) = 0
          · left
            have e3 : ca_cv (fd_cvC M) px py (x + dx) (y + dy) = 3 := by unfold ca_cv; rw [if_pos ⟨q, z⟩]
            refine ⟨fd_see_end e3 (by omega), ?_⟩
            rw [if_pos (by omega), ca_rl_back M due dx dy o.toNat _ hs m 0 _ _ _ (by rw [← q.1, ← q.2]; omega)]
            unfold fd_ur
            rw [if_pos (by rw [q.1, q.2]), q.1, q.2]
          · have e : ca_cv (fd_cvC M) px py (x + dx) (y + dy) = fd_cvC M (x + dx) (y + dy) := by unfold ca_cv; rw [if_neg (fun w => z w.2)]
            rw [fd_see_on e h1 h2, if_neg (by omega)]
            exact ca_rl hG due dx dy px py hs hp x0 y0 h0 o ho n m (i + 1) _ _ r (by omega) xi yi h
        · have e : ca_cv (fd_cvC M) px py (x + dx) (y + dy) = fd_cvC M (x + dx) (y + dy) := by unfold ca_cv; rw [if_neg (fun w => q w.1)]
          rw [fd_see_on e h1 h2]
          have u := ca_rl hG due dx dy px py hs hp x0 y0 h0 o ho n m (i + 1) _ _ (if M 4 ((y + dy) * 7 + (x + dx)).toNat = 0 then fd_ur r ((y + dy) * 7 + (x + dx)).toNat (r ((y + dy) * 7 + (x + dx)).toNat + due) else r) (by omega) xi yi h
          have er : (if M 4 ((y + dy) * 7 + (x + dx)).toNat = 0 then fd_ur r ((y + dy) * 7 + (x + dx)).toNat (r ((y + dy) * 7 + (x + dx)).toNat + due) else r) (py * 7 + px).toNat = r (py * 7 + px).toNat := by
            split
            · unfold fd_ur
              rw [if_neg (by omega)]
            · rfl
          rw [er] at u
          exact u
def ca_D (M : fd_M) (px py : Int) (d : Nat) : Int := fd_due (M 17) (M 3 3) (if M 14 7 = 1 ∨ ¬ M 14 4 / 2 ^ d % 2 = 1 then -9 else fd_see (ca_cv (fd_cvC M) px py) (M 14 6) (fd_sx (M 17 d)) (fd_sy (M 17 d)) (M 3 4).toNat (M 15 d) (M 16 d)) d
theorem ca_dir {w : Int} (h : 0 ≤ w ∧ w ≤ 3) : (fd_sx w = 0 ∧ fd_sy w = -1) ∨ (fd_sx w = 1 ∧ fd_sy w = 0) ∨ (fd_sx w = 0 ∧ fd_sy w = 1) ∨ (fd_sx w = -1 ∧ fd_sy w = 0) := by
  have : w = 0 ∨ w = 1 ∨ w = 2 ∨ w = 3 := by omega
  rcases this with rfl | rfl | rfl | rfl <;> decide
theorem ca_addr {M : fd_M} (hG : fd_CG M) {px py : Int} (hp : (0 ≤ px ∧ px ≤ 6) ∧ (0 ≤ py ∧ py ≤ 6)) (d : Nat) (r : Nat → Int) : fd_addr M d r (py * 7 + px).toNat = r (py * 7 + px).toNat + (fd_dueC M d - ca_D M px py d) := by
  have sr := fd_sw_rng hG d
  have z9 : ∀ w, fd_due (M 17) (M 3 3) (-9) w = 0 := fun w => rfl
  unfold fd_addr fd_dueC ca_D
  by_cases h : M 14 7 = 1 ∨ ¬ M 14 4 / 2 ^ d % 2 = 1
  · have e : fd_sw M d = -9 := by unfold fd_sw; rw [if_pos h]
    rw [e, if_pos (show fd_nb (-9) = -1 from rfl), if_pos h]
    omega
  · have e : fd_sw M d = fd_see (fd_cvC M) (M 14 6) (fd_sx (M 17 d)) (fd_sy (M 17 d)) (M 3 4).toNat (M 15 d) (M 16 d) := by unfold fd_sw; rw [if_neg h]; rfl
    rw [if_neg h]
    by_cases h9 : fd_sw M d = -9
    · rw [if_pos (by rw [h9]; rfl), h9, ca_see_9 _ _ _ _ _ _ _ _ _ (by rw [← e]; exact h9), z9]
      omega
    · have en : fd_nb (fd_sw M d) = fd_sw M d := by unfold fd_nb; rw [if_neg h9]
      rw [en, if_neg (by omega)]
      have s1 : 0 ≤ M 15 d ∧ M 15 d ≤ 6 := hG.2.1 d
      have s2 : 0 ≤ M 16 d ∧ M 16 d ≤ 6 := hG.2.2.1 d
      have s3 : 0 ≤ M 17 d ∧ M 17 d ≤ 3 := hG.2.2.2.1 d
      have u := ca_rl hG (fd_due (M 17) (M 3 3) (fd_sw M d) d) (fd_sx (M 17 d)) (fd_sy (M 17 d)) px py (ca_dir s3) hp (M 15 d) (M 16 d) ⟨s1, s2⟩ (fd_sw M d) (by omega) (M 3 4).toNat 6 0 (M 15 d) (M 16 d) r rfl (by omega) (by omega) e.symm
      rcases u with ⟨u1, u2⟩ | ⟨u1, u2⟩
      · rw [u1, u2, z9]; omega
      · rw [u1, u2]; omega
theorem ca_adds {M : fd_M} (hG : fd_CG M) {px py : Int} (hp : (0 ≤ px ∧ px ≤ 6) ∧ (0 ≤ py ∧ py ≤ 6)) : ∀ k : Nat, fd_adds M k (py * 7 + px).toNat = fd_sum (fd_dueC M) k - fd_sum (ca_D M px py) k
  | 0 => by
    show (if (py * 7 + px).toNat < 49 then 0 else M 82 _) = (0 : Int) - 0
    rw [if_pos (by omega)]
    rfl
  | k + 1 => by
    show fd_addr M k (fd_adds M k) (py * 7 + px).toNat = (fd_sum (fd_dueC M) k + fd_dueC M k) - (fd_sum (ca_D M px py) k + ca_D M px py k)
    rw [ca_addr hG hp, ca_adds hG hp k]
    omega
theorem ca_sx {p : Nat → Nat → Bool} {g k : Nat → Nat → Int} {S : Int} {W : Nat} (y : Nat) (h1 : ∀ x, x < W → p y x = true → g y x = S - k y x) (h2 : ∀ x, x < W → ¬ p y x = true → k y x = 0) : ∀ (n x : Nat) (a b : Int × Int), x + n = W → a.1 = b.1 → a.2 = S - b.2 → 0 ≤ b.2 → (fd_ccx p g y n x a).1 = (fd_scx k y n x b).1 ∧ (fd_ccx p g y n x a).2 = S - (fd_scx k y n x b).2 ∧ 0 ≤ (fd_scx k y n x b).2
  | 0, x, a, b, _, e1, e2, e3 => ⟨e1, e2, e3⟩
  | n + 1, x, a, b, hx, e1, e2, e3 => by
    have w : (fd_cst p g y x a).1 = (fd_sst k y x b).1 ∧ (fd_cst p g y x a).2 = S - (fd_sst k y x b).2 ∧ 0 ≤ (fd_sst k y x b).2 := by
      unfold fd_cst fd_sst
      by_cases hp : p y x = true
      · have := h1 x (by omega) hp
        rw [if_pos hp]
        by_cases q : b.2 < k y x
        · rw [if_pos q, if_pos (by omega)]
          exact ⟨rfl, this, by show 0 ≤ k y x; omega⟩
        · rw [if_neg q, if_neg (by omega)]
          exact ⟨e1, e2, e3⟩
      · have := h2 x (by omega) hp
        rw [if_neg hp, if_neg (by omega)]
        exact ⟨e1, e2, e3⟩
    exact ca_sx y h1 h2 n (x + 1) _ _ (by omega) w.1 w.2.1 w.2.2
theorem ca_sy {p : Nat → Nat → Bool} {g k : Nat → Nat → Int} {S : Int} {W H : Nat} (h1 : ∀ y x, y < H → x < W → p y x = true → g y x = S - k y x) (h2 : ∀ y x, y < H → x < W → ¬ p y x = true → k y x = 0) : ∀ (n y : Nat) (a b : Int × Int), y + n = H → a.1 = b.1 → a.2 = S - b.2 → 0 ≤ b.2 → (fd_ccy p g W n y a).1 = (fd_scy k W n y b).1
  | 0, y, a, b, _, e1, e2, e3 => e1
  | n + 1, y, a, b, hy, e1, e2, e3 => by
    have w := ca_sx (p := p) (g := g) (k := k) (S := S) (W := W) y (fun x hx => h1 y x (by omega) hx) (fun x hx => h2 y x (by omega) hx) W 0 a b (by omega) e1 e2 e3
    exact ca_sy h1 h2 n (y + 1) _ _ (by omega) w.1 w.2.1 w.2.2
theorem ca_xb : ∀ n : Fin 128, ∀ k j : Fin 7, ((fd_xor (n.val : Int) (2 ^ k.val)) / 2 ^ j.val % 2 = 1) ↔ (if j = k then ¬ (n.val : Int) / 2 ^ k.val % 2 = 1 else (n.val : Int) / 2 ^ j.val % 2 = 1) := by decide +kernel
theorem ca_tg {T : fd_M} (hP : fd_RP T) (hS : fd_RS T) {x y : Nat} (hx : x < 7) (hy : y < 7) (hv : fd_cvR T (x : Int) (y : Int) = 0) : fd_cvR (fd_tg T x y) = ca_cv (fd_cvR T) x y := by
  obtain ⟨g0, g1, g2, -⟩ := hP
  have e8 : ∀ j, fd_tg T x y 208 j = if j = 21 + y then fd_xor (T 208 (21 + y)) (2 ^ x) else T 208 j := fun j => fd_up_at ..
  have f : ∀ c, c ≠ 208 → fd_tg T x y c = T c := fun c hc => fd_up_ne hc
  have dp : ∀ a b : Nat, fd_dpR (fd_tg T x y) a b = fd_dpR T a b := fun a b => by
    unfold fd_dpR
    rw [f 204 (by decide)]
    have w : ∀ (n k : Nat), k + n ≤ 6 → fd_dp (fd_tg T x y 208) (7 * (b : Int) + (a : Int)) n k = fd_dp (T 208) (7 * (b : Int) + (a : Int)) n k := by
      intro n
      induction n with
      | zero => intro k _; rfl
      | succ n ih =>
        intro k hk
        rw [fd_dp, fd_dp, e8 k, if_neg (show ¬ k = 21 + y by omega), ih (k + 1) (by omega)]
    exact w _ 0 (by omega)
  funext a b
  unfold ca_cv
  have hv2 := hv
  unfold fd_cvR at hv2 ⊢
  rw [dp, f 201 (by decide), f 202 (by decide), f 203 (by decide)]
  by_cases hb : 0 ≤ a ∧ a < T 201 0 ∧ 0 ≤ b ∧ b < T 202 0
  · rw [if_pos hb, if_pos hb]
    by_cases q : a = (x : Int) ∧ b = (y : Int)
    · obtain ⟨rfl, rfl⟩ := q
      rw [if_pos hb] at hv2
      rw [show (x : Int).toNat = x from rfl, show (y : Int).toNat = y from rfl] at hv2 ⊢
      have dr := fd_dpR_rng g2.1 x y
      have d9 : fd_dpR T x y = -9 := by
        apply Classical.byContradiction
        intro z
        rw [if_neg z] at hv2
        omega
      rw [if_pos d9] at hv2
      have b0 : ¬ T 208 (21 + y) / 2 ^ x % 2 = 1 := by
        intro z
        rw [if_pos z] at hv2
        omega
      rw [if_neg b0] at hv2
      have rr := hS.2.1 y hy
      have xb := ca_xb ⟨(T 208 (21 + y)).toNat, by omega⟩ ⟨x, hx⟩ ⟨x, hx⟩
      rw [if_pos rfl] at xb
      dsimp only at xb
      rw [show (((T 208 (21 + y)).toNat : Nat) : Int) = T 208 (21 + y) by omega] at xb
      rw [if_pos d9, if_pos d9, e8, if_pos rfl, if_pos (xb.2 b0), if_neg b0, if_pos ⟨⟨rfl, rfl⟩, hv2⟩]
    · have hq : ∀ P : Prop, ¬ ((a = (x : Int) ∧ b = (y : Int)) ∧ P) := fun P w => q w.1
      rw [if_neg (hq _)]
      have bit : (fd_tg T x y 208 (21 + b.toNat) / 2 ^ a.toNat % 2 = 1) = (T 208 (21 + b.toNat) / 2 ^ a.toNat % 2 = 1) := by
        rw [e8]
        by_cases z : 21 + b.toNat = 21 + y
        · rw [if_pos z]
          have rr := hS.2.1 y hy
          have xb := ca_xb ⟨(T 208 (21 + y)).toNat, by omega⟩ ⟨x, hx⟩ ⟨a.toNat, by omega⟩
          rw [if_neg (fun w => by have w2 : a.toNat = x := congrArg Fin.val w; omega)] at xb
          dsimp only at xb
          rw [show (((T 208 (21 + y)).toNat : Nat) : Int) = T 208 (21 + y) by omega] at xb
          rw [z]
          exact propext xb
        · rw [if_neg z]
      simp only [bit]
  · rw [if_neg hb, if_neg hb, if_neg (by omega)]
theorem fd_o_cartAt : fd_op fd_Rel 16 98 0 := fd_op0 fun M h => by
  have hG := fd_Rel_CG h
  have a := fd_x_cartAt M hG
  have h1 : fd_Rel (fd_Y_cartAt M) := fd_Rel_tmp h (fun c _ _ _ h5 _ => fd_wr_fr h5) (by unfold fd_Y_cartAt; rw [fd_wr_fr (by decide)]; exact h.1.2.2.2.2.2.2.2.2.2.1)
  have b := fd_r_cartAt (fd_Y_cartAt M) (fd_Rel_RP h1) (fd_Rel_RS h1)
  have y : ∀ c, c ≠ 82 → fd_Y_cartAt M c = M c := fun c hc => fd_wr_fr hc
  obtain ⟨p0, p1, p2, p3, p4, -⟩ := h1.2.2.2.1
  have eC : fd_cvC (fd_Y_cartAt M) = fd_cvC M := fd_cvC_of (y 3 (by decide)) (y 4 (by decide)) (by rw [y 14 (by decide)]) (y 15 (by decide)) (y 16 (by decide))
  have eD : fd_dueC (fd_Y_cartAt M) = fd_dueC M := fd_dueC_of (y 3 (by decide)) (y 4 (by decide)) (y 14 (by decide)) (y 15 (by decide)) (y 16 (by decide)) (y 17 (by decide))
  have tf : ∀ c, c ≠ 210 → c ≠ 199 → fd_tak (fd_Y_cartAt M) c = fd_Y_cartAt M c := fun c h1 h2 => fd_tak_fr h1 h2
  have hPT : fd_RP (fd_tak (fd_Y_cartAt M)) := fd_RP_of (fd_Rel_RP h1) (tf _ (by decide) (by decide)) (tf _ (by decide) (by decide)) (tf _ (by decide) (by decide)) (tf _ (by decide) (by decide)) (tf _ (by decide) (by decide))
  have hST : fd_RS (fd_tak (fd_Y_cartAt M)) := by
    have := fd_Rel_RS h1
    unfold fd_RS at this ⊢
    rw [tf 204 (by decide) (by decide), tf 208 (by decide) (by decide)]
    exact this
  have cvT : fd_cvR (fd_tak (fd_Y_cartAt M)) = fd_cvC M := by
    rw [fd_cvR_sm (fd_smR_tak _), fd_Rel_cv h1, eC]
  obtain ⟨g0, g1, g2, -⟩ := hG.1
  have e3 : fd_Y_cartAt M 3 = M 3 := y 3 (by decide)
  have t4 : fd_tak (fd_Y_cartAt M) 204 0 = M 3 2 := by rw [tf _ (by decide) (by decide), p2, e3]
  have e : fd_A_cartAt (fd_Y_cartAt M) = fd_X_cartAt M := by
    unfold fd_A_cartAt fd_X_cartAt
    rw [fd_Rel_ds h1, eD, p0, p1, e3]
    refine ca_sy (S := fd_sum (fd_dueC M) (M 3 2).toNat) (W := (M 3 0).toNat) (H := (M 3 1).toNat) (fun yy x hy hx hp => ?_) (fun yy x hy hx hp => ?_) _ 0 _ _ (by omega) rfl (by show fd_sum (fd_dueC M) (M 3 2).toNat = fd_sum (fd_dueC M) (M 3 2).toNat - 0; omega) (by show (0 : Int) ≤ 0; omega)
    · have hv : fd_cvR (fd_tak (fd_Y_cartAt M)) (x : Int) (yy : Int) = 0 := of_decide_eq_true hp
      unfold fd_cg
      rw [ca_adds hG (px := (x : Int)) (py := (yy : Int)) (by omega)]
      have ev : fd_vc (fd_tak (fd_Y_cartAt M)) yy x = fd_sum (ca_D M x yy) (M 3 2).toNat := by
        unfold fd_vc
        rw [t4]
        refine fd_sum_congr _ (fun d hd => ?_)
        have u : ∀ c, c ≠ 208 → fd_tg (fd_tak (fd_Y_cartAt M)) x yy c = fd_tak (fd_Y_cartAt M) c := fun c hc => fd_up_ne hc
        have u8 : ∀ j, j < 21 → fd_tg (fd_tak (fd_Y_cartAt M)) x yy 208 j = M 208 j := fun j hj => by
          have := fd_up_at (fd_tak (fd_Y_cartAt M)) 208 (21 + yy) (fd_xor (fd_tak (fd_Y_cartAt M) 208 (21 + yy)) (2 ^ x)) j
          unfold fd_tg
          rw [this, if_neg (by omega), tf 208 (by decide) (by decide), y 208 (by decide)]
        have dd : (d : Int) < M 3 2 := by omega
        obtain ⟨n1, n2, n3, n4, n5, n6⟩ := fd_Rel_SN h
        have nd := (n1 d dd).1.1
        have s1 : 0 ≤ M 15 d ∧ M 15 d ≤ 6 := hG.2.1 d
        have w10 : ∀ k : Nat, (k : Int) < M 3 2 → fd_tg (fd_tak (fd_Y_cartAt M)) x yy 210 k = M 17 k := fun k hk => by
          rw [u 210 (by decide), fd_Rel_tw h1 (by rw [e3]; exact hk), y 17 (by decide)]
        have es : fd_sR (fd_tg (fd_tak (fd_Y_cartAt M)) x yy) d = (if M 14 7 = 1 ∨ ¬ M 14 4 / 2 ^ d % 2 = 1 then -9 else fd_see (ca_cv (fd_cvC M) x yy) (M 14 6) (fd_sx (M 17 d)) (fd_sy (M 17 d)) (M 3 4).toNat (M 15 d) (M 16 d)) := by
          unfold fd_sR fd_wR
          rw [u 199 (by decide), (fd_Rel_to h1).1, (fd_Rel_to h1).2, y 14 (by decide), w10 d dd, ca_tg hPT hST (by omega) (by omega) hv, cvT, u8 13 (by omega), u8 d (by omega), n4, u 207 (by decide), tf 207 (by decide) (by decide), p4, e3, nd, show (7 * M 16 d + M 15 d) % 7 = M 15 d by omega, show (7 * M 16 d + M 15 d) / 7 = M 16 d by omega]
        have rg := fd_sR_rng (fd_RP_tg hPT x yy) d
        have t42 : fd_tg (fd_tak (fd_Y_cartAt M)) x yy 204 0 = M 3 2 := by rw [u 204 (by decide), t4]
        unfold fd_dR ca_D
        rw [← es, u 207 (by decide), tf 207 (by decide) (by decide), p3, e3]
        exact fd_due_c (w10 d dd) (fun z => w10 _ (by omega))
      rw [ev]
      omega
    · have hv : ¬ fd_cvC M (x : Int) (yy : Int) = 0 := by
        intro z
        apply hp
        unfold fd_vp
        rw [cvT]
        exact decide_eq_true z
      unfold fd_cg
      rw [ca_adds hG (px := (x : Int)) (py := (yy : Int)) (by omega)]
      have ec : ca_cv (fd_cvC M) x yy = fd_cvC M := by
        funext a b
        unfold ca_cv
        rw [if_neg]
        intro z
        obtain ⟨⟨rfl, rfl⟩, z⟩ := z
        exact hv z
      have ed : ca_D M x yy = fd_dueC M := by
        funext d
        unfold ca_D fd_dueC fd_sw fd_wsee
        rw [ec]
      rw [ed]
      omega
  rw [e] at b
  exact ⟨_, _, _, fd_callD a (by decide), fd_callD b (by decide), fd_Rel_sm h1 (fd_smR_tak _)⟩

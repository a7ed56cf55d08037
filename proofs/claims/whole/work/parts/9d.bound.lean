/-! bound -/
def wy_cd (f : Nat → Nat) : Nat → Nat
  | 0 => 0
  | n + 1 => wy_cd f n * 4 + f n
theorem wy_lt {f : Nat → Nat} (h : ∀ d, f d < 4) : ∀ n : Nat, wy_cd f n < 4 ^ n
  | 0 => by
    show 0 < 4 ^ 0
    decide
  | n + 1 => by
    have := wy_lt h n
    have := h n
    show wy_cd f n * 4 + f n < 4 ^ (n + 1)
    rw [Nat.pow_succ]
    omega
theorem wy_div {f : Nat → Nat} (h : ∀ d, f d < 4) (m : Nat) : ∀ k : Nat, wy_cd f (m + k) / 4 ^ k = wy_cd f m
  | 0 => by rw [Nat.pow_zero, Nat.div_one, Nat.add_zero]
  | k + 1 => by
    have := h (m + k)
    show (wy_cd f (m + k) * 4 + f (m + k)) / 4 ^ (k + 1) = wy_cd f m
    rw [Nat.pow_succ', ← Nat.div_div_eq_div_mul, show (wy_cd f (m + k) * 4 + f (m + k)) / 4 = wy_cd f (m + k) by omega]
    exact wy_div h m k
theorem wy_dg {f : Nat → Nat} (h : ∀ d, f d < 4) {D d : Nat} (hd : d < D) : fd_dg D (wy_cd f D) d = (f d : Int) := by
  unfold fd_dg
  have e := wy_div h (d + 1) (D - 1 - d)
  rw [show d + 1 + (D - 1 - d) = D by omega] at e
  rw [e]
  have := h d
  show (((wy_cd f d * 4 + f d) % 4 : Nat) : Int) = _
  omega
theorem fd_exi_iff {p : Nat → Bool} : ∀ n : Nat, fd_exi p n = true ↔ ∃ k, k < n ∧ p k = true
  | 0 => by
    constructor
    · intro h; cases h
    · rintro ⟨k, hk, -⟩; omega
  | n + 1 => by
    show (fd_exi p n || p n) = true ↔ _
    rw [Bool.or_eq_true, fd_exi_iff n]
    constructor
    · rintro (⟨k, hk, h⟩ | h)
      · exact ⟨k, by omega, h⟩
      · exact ⟨n, by omega, h⟩
    · rintro ⟨k, hk, h⟩
      by_cases e : k = n
      · subst e; exact Or.inr h
      · exact Or.inl ⟨k, by omega, h⟩
/-- a memory that differs from M in what the reference uses while it looks -/
theorem fd_ok_iff {M T : fd_M} (h : fd_Rel M) (hT : fd_smR M T) (c : Nat) : fd_okc' T c = true ↔ ∀ d : Nat, (d : Int) < M 3 2 → fd_vac M d (fd_dg (M 3 2).toNat c d) := by
  have e4 : T 204 0 = M 3 2 := by rw [hT.1 204 (by decide) (by decide)]; exact h.2.2.2.1.2.2.1
  have e5 : fd_wy T (M 3 2).toNat c 204 0 = M 3 2 := by rw [fd_wy_fr (by decide)]; exact e4
  unfold fd_okc' fd_ahw
  rw [e4, e5, fd_all_iff]
  have key : ∀ d : Nat, (d : Int) < M 3 2 → (fd_hw (fd_wy T (M 3 2).toNat c) d = true ↔ fd_vac M d (fd_dg (M 3 2).toNat c d)) := fun d hd => by
    unfold fd_hw
    rw [decide_eq_true_iff, fd_wy_at (by omega)]
    exact (fd_vR_sm (fd_smR_tr hT (fd_wy_sm T _ c)) d _).trans (fd_Rel_v h hd _)
  constructor
  · intro q d hd
    exact (key d hd).mp (q d (by omega))
  · intro q d hd
    exact (key d (by omega)).mpr (q d (by omega))
theorem fd_can_w {M : fd_M} {d : Nat} (h : fd_can M d = true) : ∃ w : Nat, w < 4 ∧ fd_vac M d (w : Int) := by
  unfold fd_can at h
  rcases of_decide_eq_true h with q | q | q | q
  · exact ⟨0, by decide, q⟩
  · exact ⟨1, by decide, q⟩
  · exact ⟨2, by decide, q⟩
  · exact ⟨3, by decide, q⟩
theorem fd_w_can {M : fd_M} {d : Nat} {w : Int} (hw : 0 ≤ w ∧ w ≤ 3) (h : fd_vac M d w) : fd_can M d = true := by
  unfold fd_can
  apply decide_eq_true
  have : w = 0 ∨ w = 1 ∨ w = 2 ∨ w = 3 := by omega
  rcases this with rfl | rfl | rfl | rfl
  · exact Or.inl h
  · exact Or.inr (Or.inl h)
  · exact Or.inr (Or.inr (Or.inl h))
  · exact Or.inr (Or.inr (Or.inr h))
theorem fd_pick {M : fd_M} {D : Nat} (h : ∀ d, d < D → fd_can M d = true) : ∃ f : Nat → Nat, (∀ d, f d < 4) ∧ (∀ d, d < D → fd_vac M d (f d : Int)) := by
  have q : ∀ d, ∃ w : Nat, w < 4 ∧ (d < D → fd_vac M d (w : Int)) := fun d => by
    by_cases hd : d < D
    · obtain ⟨w, h1, h2⟩ := fd_can_w (h d hd)
      exact ⟨w, h1, fun _ => h2⟩
    · exact ⟨0, by decide, fun z => absurd z hd⟩
  exact ⟨fun d => (q d).choose, fun d => (q d).choose_spec.1, fun d hd => (q d).choose_spec.2 hd⟩
theorem fd_any_eq {M T : fd_M} (h : fd_Rel M) (hT : fd_smR M T) : fd_exi (fd_okc' T) (4 ^ (M 3 2).toNat) = fd_all (fd_can M) (M 3 2).toNat := by
  rw [Bool.eq_iff_iff, fd_exi_iff, fd_all_iff]
  constructor
  · rintro ⟨c, hc, ho⟩ d hd
    exact fd_w_can (fd_dg_rng _ _ _) ((fd_ok_iff h hT c).mp ho d (by omega))
  · intro q
    obtain ⟨f, h1, h2⟩ := fd_pick q
    exact ⟨wy_cd f (M 3 2).toNat, wy_lt h1 _, (fd_ok_iff h hT _).mpr (fun d hd => by rw [wy_dg h1 (by omega)]; exact h2 d (by omega))⟩
theorem fd_bd_s {M : fd_M} (h : fd_Rel M) (c : Nat) {d : Nat} (hd : (d : Int) < M 3 2) : fd_sR (fd_wy (fd_bdT M) (M 3 2).toNat c) d = fd_wsee M d (fd_dg (M 3 2).toNat c d) := by
  have hD := fd_Rel_D h
  have sm := fd_smR_tr (fd_bdT_sm M) (fd_wy_sm (fd_bdT M) (M 3 2).toNat c)
  have p2 := h.2.2.2.1.2.2.1
  have e20 : fd_wy (fd_bdT M) (M 3 2).toNat c 199 20 = 0 := by
    rw [fd_wy_fr (by decide)]
    unfold fd_bdT
    rw [fd_up_at, if_pos rfl]
  have e19 : fd_wy (fd_bdT M) (M 3 2).toNat c 199 19 = 2 ^ (M 3 2).toNat - 1 := by
    rw [fd_wy_fr (by decide)]
    unfold fd_bdT
    rw [fd_up_at, if_neg (by decide), fd_up_at, if_pos rfl, p2]
  have eb : ((2 : Int) ^ (M 3 2).toNat - 1) / 2 ^ d % 2 = 1 := by
    have e : (2 : Int) ^ (M 3 2).toNat - 1 = ((2 ^ (M 3 2).toNat - 1 : Nat) : Int) := by
      have := Nat.two_pow_pos (M 3 2).toNat
      rw [fd_pw]
      omega
    rw [e, fd_ib, Nat.testBit_two_pow_sub_one]
    have : d < (M 3 2).toNat := by omega
    simp [this]
  unfold fd_sR
  rw [e20, e19, eb, if_neg (by decide), fd_wy_at (by omega), fd_wR_sm sm, fd_Rel_w h hd]
theorem fd_bq_eq {M : fd_M} (h : fd_Rel M) (hall : fd_all (fd_can M) (M 3 2).toNat = true) {a b : Nat} (hab : a < b) (hb : b < (M 3 2).toNat) : fd_bqq (fd_bdT M) (4 ^ (M 3 2).toNat) a b = fd_bq M a b := by
  have hG := fd_Rel_CG h
  have sm := fd_bdT_sm M
  have e4 : fd_bdT M 204 0 = M 3 2 := by rw [sm.1 204 (by decide) (by decide)]; exact h.2.2.2.1.2.2.1
  unfold fd_bqq
  rw [fd_any_eq h sm, hall, Bool.true_and]
  have nbe : ∀ (d : Nat) (w : Int) (t : Nat), fd_nb (fd_wsee M d w) = (t : Int) ↔ fd_wsee M d w = (t : Int) := fun d w t => fd_nb_eq (by have := fd_wsee_rng hG d w; omega)
  have must : ∀ d t : Nat, fd_must M d (t : Int) = true ↔ ∀ w : Nat, w < 4 → fd_vac M d (w : Int) → fd_wsee M d (w : Int) = (t : Int) := fun d t => by
    unfold fd_must
    rw [fd_all_iff]
    constructor
    · intro q w hw hv
      rcases of_decide_eq_true (q w hw) with z | z
      · exact absurd hv z
      · exact (nbe d w t).mp z
    · intro q w hw
      apply decide_eq_true
      by_cases z : fd_vac M d (w : Int)
      · exact Or.inr ((nbe d w t).mpr (q w hw z))
      · exact Or.inl z
  have bq : ∀ c : Nat, fd_bqR (fd_bdT M) a b c = true ↔ (fd_okc' (fd_bdT M) c = true → fd_wsee M a (fd_dg (M 3 2).toNat c a) = (b : Int) ∨ fd_wsee M b (fd_dg (M 3 2).toNat c b) = (a : Int)) := fun c => by
    unfold fd_bqR
    rw [e4, fd_bd_s h c (d := a) (by omega), fd_bd_s h c (d := b) (by omega)]
    cases fd_okc' (fd_bdT M) c <;> simp
  rw [Bool.eq_iff_iff, fd_all_iff]
  unfold fd_bq
  rw [Bool.or_eq_true, must, must]
  have dgn : ∀ c d : Nat, ∃ w : Nat, w < 4 ∧ fd_dg (M 3 2).toNat c d = (w : Int) := fun c d => ⟨c / 4 ^ ((M 3 2).toNat - 1 - d) % 4, Nat.mod_lt _ (by decide), rfl⟩
  constructor
  · intro q
    apply Classical.byContradiction
    intro z
    have z1 : ¬ ∀ w : Nat, w < 4 → fd_vac M a (w : Int) → fd_wsee M a (w : Int) = (b : Int) := fun k => z (Or.inl k)
    have z2 : ¬ ∀ w : Nat, w < 4 → fd_vac M b (w : Int) → fd_wsee M b (w : Int) = (a : Int) := fun k => z (Or.inr k)
    obtain ⟨w1, k1⟩ := Classical.not_forall.mp z1
    obtain ⟨k2, k3⟩ := Classical.not_imp.mp k1
    obtain ⟨k4, k5⟩ := Classical.not_imp.mp k3
    obtain ⟨w2, m1⟩ := Classical.not_forall.mp z2
    obtain ⟨m2, m3⟩ := Classical.not_imp.mp m1
    obtain ⟨m4, m5⟩ := Classical.not_imp.mp m3
    obtain ⟨f, f1, f2⟩ := fd_pick ((fd_all_iff _).mp hall)
    have g1 : ∀ d, (if d = a then w1 else if d = b then w2 else f d) < 4 := fun d => by
      split
      · exact k2
      · split
        · exact m2
        · exact f1 d
    have ca := wy_dg g1 (show a < (M 3 2).toNat by omega)
    have cb := wy_dg g1 hb
    rw [if_pos rfl] at ca
    rw [if_neg (show ¬ b = a by omega), if_pos rfl] at cb
    have y := (bq (wy_cd (fun d => if d = a then w1 else if d = b then w2 else f d) (M 3 2).toNat)).mp (q _ (wy_lt g1 _)) ((fd_ok_iff h sm _).mpr (fun d hd => by
      rw [wy_dg g1 (by omega)]
      by_cases da : d = a
      · rw [if_pos da, da]; exact k4
      · rw [if_neg da]
        by_cases db : d = b
        · rw [if_pos db, db]; exact m4
        · rw [if_neg db]; exact f2 d (by omega)))
    rw [ca, cb] at y
    rcases y with y | y
    · exact k5 y
    · exact m5 y
  · rintro (q | q) c hc
    · refine (bq c).mpr (fun ho => Or.inl ?_)
      obtain ⟨w, hw, ew⟩ := dgn c a
      have v := (fd_ok_iff h sm c).mp ho a (by omega)
      rw [ew] at v ⊢
      exact q w hw v
    · refine (bq c).mpr (fun ho => Or.inr ?_)
      obtain ⟨w, hw, ew⟩ := dgn c b
      have v := (fd_ok_iff h sm c).mp ho b (by omega)
      rw [ew] at v ⊢
      exact q w hw v
theorem fd_bin_congr {q r : Nat → Nat → Bool} {D a : Nat} (h : ∀ b, a < b → b < D → q a b = r a b) : ∀ (n b : Nat) (s : Int × Int), a < b → b + n ≤ D → fd_bin q a n b s = fd_bin r a n b s
  | 0, _, _, _, _ => rfl
  | n + 1, b, s, h1, h2 => by
    show fd_bin q a n (b + 1) (fd_bst q a b s) = fd_bin r a n (b + 1) (fd_bst r a b s)
    have e : fd_bst q a b s = fd_bst r a b s := by
      unfold fd_bst
      rw [h b h1 (by omega)]
    rw [e]
    exact fd_bin_congr h n (b + 1) _ (by omega) (by omega)
theorem fd_bou_congr {q r : Nat → Nat → Bool} {D : Nat} (h : ∀ a b, a < b → b < D → q a b = r a b) : ∀ (n a : Nat) (s : Int × Int), a + n ≤ D → fd_bou q D n a s = fd_bou r D n a s
  | 0, _, _, _ => rfl
  | n + 1, a, s, h1 => by
    show fd_bou q D n (a + 1) (fd_bin q a (D - (a + 1)) (a + 1) s) = fd_bou r D n (a + 1) (fd_bin r a (D - (a + 1)) (a + 1) s)
    rw [fd_bin_congr (h a) _ _ _ (by omega) (by omega)]
    exact fd_bou_congr h n (a + 1) _ (by omega)
theorem fd_bin_no {a : Nat} : ∀ (n b : Nat) (s : Int × Int), fd_bin (fun _ _ => false) a n b s = s
  | 0, _, _ => rfl
  | n + 1, b, s => fd_bin_no n (b + 1) s
theorem fd_bou_no {D : Nat} : ∀ (n a : Nat) (s : Int × Int), fd_bou (fun _ _ => false) D n a s = s
  | 0, _, _ => rfl
  | n + 1, a, s => by
    show fd_bou (fun _ _ => false) D n (a + 1) (fd_bin (fun _ _ => false) a (D - (a + 1)) (a + 1) s) = s
    rw [fd_bin_no, fd_bou_no n]
theorem fd_o_bound : fd_op fd_Rel 17 99 1 := fd_op1 fun M h w hw => by
  have a := fd_x_bound M (fd_Rel_CG h) w hw
  obtain ⟨r, R, c, e1, e2⟩ := fd_r_bound M (fd_Rel_RP h) (fd_Rel_RS h) w hw
  have p2 := h.2.2.2.1.2.2.1
  have eA : fd_A_bound M w = fd_X_bound M w := by
    unfold fd_A_bound fd_X_bound
    rw [p2, fd_any_eq h (fd_bdT_sm M)]
    by_cases hc : 0 ≤ w ∧ w ≤ 1
    · rw [if_neg (not_not_intro hc), if_neg (show ¬ ¬ (w = 0 ∨ w = 1) by omega)]
      by_cases hall : fd_all (fd_can M) (M 3 2).toNat = true
      · rw [if_pos hall, if_neg (not_not_intro hall), fd_bou_congr (fun a b h1 h2 => fd_bq_eq h hall h1 h2) (M 3 2).toNat 0 (0, -9) (by omega)]
      · rw [if_neg hall, if_pos hall]
        have e : fd_bqq (fd_bdT M) (4 ^ (M 3 2).toNat) = fun _ _ => false := by
          funext a b
          unfold fd_bqq
          rw [fd_any_eq h (fd_bdT_sm M), Bool.eq_false_iff.mpr hall, Bool.false_and]
        rw [e, fd_bou_no]
        split <;> rfl
    · rw [if_pos hc, if_pos (show ¬ (w = 0 ∨ w = 1) by omega)]
  rw [eA] at e1
  subst e1
  exact ⟨_, _, R, fd_callD a (by decide), fd_callD c (by decide), fd_Rel_sm h e2⟩

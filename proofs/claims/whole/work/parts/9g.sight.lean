/-! sight is mutual, and what a setting of the doors is due -/
theorem tn_s1 (cv : Int → Int → Int) (lf dx dy o : Int) (ho : 0 ≤ o) : ∀ (n : Nat) (x y : Int), fd_see cv lf dx dy n x y = o → ∃ k : Nat, k < n ∧ (∀ i : Nat, i < k → ¬ 10 ≤ cv (x + (i + 1) * dx) (y + (i + 1) * dy) ∧ ¬ (cv (x + (i + 1) * dx) (y + (i + 1) * dy) = -1 ∨ cv (x + (i + 1) * dx) (y + (i + 1) * dy) = 1 ∨ cv (x + (i + 1) * dx) (y + (i + 1) * dy) = 3 ∨ (cv (x + (i + 1) * dx) (y + (i + 1) * dy) = 2 ∧ lf = 1))) ∧ cv (x + (k + 1) * dx) (y + (k + 1) * dy) = 10 + o
  | 0, x, y, h => by
    have : (-9 : Int) = o := h
    omega
  | n + 1, x, y, h => by
    have one : ∀ z : Int, (((0 : Nat) : Int) + 1) * z = z := fun z => by rw [show (((0 : Nat) : Int) + 1) = 1 from rfl, Int.one_mul]
    have two : ∀ (i : Nat) (z d : Int), z + d + ((i : Int) + 1) * d = z + (((i + 1 : Nat) : Int) + 1) * d := fun i z d => by
      rw [show (((i + 1 : Nat) : Int) + 1) = ((i : Int) + 1) + 1 by omega, Int.add_mul ((i : Int) + 1) 1 d, Int.one_mul]
      omega
    rw [fd_see] at h
    by_cases h1 : 10 ≤ cv (x + dx) (y + dy)
    · rw [if_pos h1] at h
      exact ⟨0, by omega, fun i hi => absurd hi (by omega), by rw [one, one]; omega⟩
    · rw [if_neg h1] at h
      by_cases h2 : cv (x + dx) (y + dy) = -1 ∨ cv (x + dx) (y + dy) = 1 ∨ cv (x + dx) (y + dy) = 3 ∨ (cv (x + dx) (y + dy) = 2 ∧ lf = 1)
      · rw [if_pos h2] at h; omega
      · rw [if_neg h2] at h
        obtain ⟨k, hk, ha, hb⟩ := tn_s1 cv lf dx dy o ho n _ _ h
        rw [two, two] at hb
        refine ⟨k + 1, by omega, fun i hi => ?_, hb⟩
        cases i with
        | zero => rw [one, one]; exact ⟨h1, h2⟩
        | succ i =>
          have := ha i (by omega)
          rw [two, two] at this
          exact this
theorem tn_s2 (cv : Int → Int → Int) (lf dx dy o : Int) (ho : 0 ≤ o) : ∀ (n k : Nat) (x y : Int), k < n → (∀ i : Nat, i < k → ¬ 10 ≤ cv (x + (i + 1) * dx) (y + (i + 1) * dy) ∧ ¬ (cv (x + (i + 1) * dx) (y + (i + 1) * dy) = -1 ∨ cv (x + (i + 1) * dx) (y + (i + 1) * dy) = 1 ∨ cv (x + (i + 1) * dx) (y + (i + 1) * dy) = 3 ∨ (cv (x + (i + 1) * dx) (y + (i + 1) * dy) = 2 ∧ lf = 1))) → cv (x + (k + 1) * dx) (y + (k + 1) * dy) = 10 + o → fd_see cv lf dx dy n x y = o
  | 0, k, x, y, hk, _, _ => absurd hk (by omega)
  | n + 1, 0, x, y, hk, ha, hb => by
    have one : ∀ z : Int, (((0 : Nat) : Int) + 1) * z = z := fun z => by rw [show (((0 : Nat) : Int) + 1) = 1 from rfl, Int.one_mul]
    rw [one, one] at hb
    rw [fd_see_hit hb (by omega)]
    omega
  | n + 1, k + 1, x, y, hk, ha, hb => by
    have one : ∀ z : Int, (((0 : Nat) : Int) + 1) * z = z := fun z => by rw [show (((0 : Nat) : Int) + 1) = 1 from rfl, Int.one_mul]
    have two : ∀ (i : Nat) (z d : Int), z + d + ((i : Int) + 1) * d = z + (((i + 1 : Nat) : Int) + 1) * d := fun i z d => by
      rw [show (((i + 1 : Nat) : Int) + 1) = ((i : Int) + 1) + 1 by omega, Int.add_mul ((i : Int) + 1) 1 d, Int.one_mul]
      omega
    have a0 := ha 0 (by omega)
    rw [one, one] at a0
    rw [fd_see_on rfl a0.1 a0.2]
    refine tn_s2 cv lf dx dy o ho n k _ _ (by omega) (fun i hi => ?_) (by rw [two, two]; exact hb)
    rw [two, two]
    exact ha (i + 1) (by omega)
theorem tn_opp {w : Int} (h : 0 ≤ w ∧ w ≤ 3) : fd_sx ((w + 2) % 4) = - fd_sx w ∧ fd_sy ((w + 2) % 4) = - fd_sy w := by
  have : w = 0 ∨ w = 1 ∨ w = 2 ∨ w = 3 := by omega
  rcases this with rfl | rfl | rfl | rfl <;> decide
/-- doors within the plan, and no two on one cell -/
def tn_A (M : fd_M) : Prop := (∀ d : Nat, (d : Int) < M 3 2 → M 15 d < M 3 0 ∧ M 16 d < M 3 1) ∧ (∀ d e : Nat, (d : Int) < M 3 2 → (e : Int) < M 3 2 → M 15 d = M 15 e → M 16 d = M 16 e → d = e)
theorem tn_cv {M : fd_M} (hG : fd_CG M) (hA : tn_A M) {d : Nat} (hd : (d : Int) < M 3 2) : fd_cvC M (M 15 d) (M 16 d) = 10 + d := by
  have s1 : 0 ≤ M 15 d ∧ M 15 d ≤ 6 := hG.2.1 d
  have s2 : 0 ≤ M 16 d ∧ M 16 d ≤ 6 := hG.2.2.1 d
  have q := hA.1 d hd
  have g2 := hG.1.2.2.1
  unfold fd_cvC
  rw [if_pos (by omega)]
  have d1 : ¬ fd_dor M (M 15 d) (M 16 d) = -1 := fun z => fd_dr_none (M 3 2).toNat 0 z d (Nat.zero_le _) (by omega) ⟨rfl, rfl⟩
  have dr := fd_dor_rng g2.1 (M 15 d) (M 16 d)
  have ds := fd_dr_some (px := M 15) (py := M 16) (x := M 15 d) (y := M 16 d) (M 3 2).toNat 0 d1
  have e := hA.2 _ d (by show (((fd_dor M (M 15 d) (M 16 d)).toNat : Nat) : Int) < M 3 2; omega) hd ds.1 ds.2
  have e2 : (fd_dor M (M 15 d) (M 16 d)).toNat = d := e
  rw [if_neg d1]
  omega
theorem tn_at {M : fd_M} (hG : fd_CG M) {x y o : Int} (ho : 0 ≤ o) (h : fd_cvC M x y = 10 + o) : M 15 o.toNat = x ∧ M 16 o.toNat = y := by
  have g5 := hG.1.2.2.2.2.2
  unfold fd_cvC at h
  by_cases b : 0 ≤ x ∧ x < M 3 0 ∧ 0 ≤ y ∧ y < M 3 1
  · rw [if_pos b] at h
    by_cases d1 : fd_dor M x y = -1
    · rw [if_pos d1] at h
      have := g5 (y * 7 + x).toNat
      split at h <;> omega
    · rw [if_neg d1] at h
      have ds := fd_dr_some (px := M 15) (py := M 16) (x := x) (y := y) (M 3 2).toNat 0 d1
      have e : o = fd_dor M x y := by omega
      rw [e]
      exact ds
  · rw [if_neg b] at h; omega
/-- who is seen sees back -/
theorem tn_back {M : fd_M} (hG : fd_CG M) (hA : tn_A M) {d : Nat} (hd : (d : Int) < M 3 2) {w : Int} (hw : 0 ≤ w ∧ w ≤ 3) (h : ¬ fd_wsee M d w = -9) : fd_wsee M (fd_wsee M d w).toNat ((w + 2) % 4) = (d : Int) ∧ fd_wsee M d w ≠ (d : Int) := by
  have rg := fd_wsee_rng hG d w
  obtain ⟨k, hk, ha, hb⟩ := tn_s1 (fd_cvC M) (M 14 6) (fd_sx w) (fd_sy w) (fd_wsee M d w) (by omega) _ _ _ (rfl : fd_see (fd_cvC M) (M 14 6) (fd_sx w) (fd_sy w) (M 3 4).toNat (M 15 d) (M 16 d) = fd_wsee M d w)
  have pt := tn_at hG (by omega) hb
  have dir := ca_dir hw
  have op := tn_opp hw
  refine ⟨?_, fun z => ?_⟩
  · unfold fd_wsee
    rw [op.1, op.2]
    have pt1 := pt.1
    have pt2 := pt.2
    unfold fd_wsee at pt1 pt2
    rw [pt1, pt2]
    have mv : ∀ (i : Nat) (z s : Int), i < k → (s = 0 ∨ s = 1 ∨ s = -1) → z + ((k : Int) + 1) * s + ((i : Int) + 1) * -s = z + (((k - 1 - i : Nat) : Int) + 1) * s := fun i z s hi hs => by
      rcases hs with rfl | rfl | rfl <;> omega
    have mz : ∀ (z s : Int), z + ((k : Int) + 1) * s + ((k : Int) + 1) * -s = z := fun z s => by
      rw [Int.mul_neg]; omega
    refine tn_s2 _ _ _ _ (d : Int) (by omega) _ k _ _ hk (fun i hi => ?_) ?_
    · rw [mv i _ _ hi (by omega), mv i _ _ hi (by omega)]
      exact ha (k - 1 - i) (by omega)
    · rw [mz, mz]
      exact tn_cv hG hA hd
  · rw [z] at pt
    have e1 : M 15 d = M 15 d + ((k : Int) + 1) * fd_sx w := pt.1
    have e2 : M 16 d = M 16 d + ((k : Int) + 1) * fd_sy w := pt.2
    rcases dir with ⟨a, b⟩ | ⟨a, b⟩ | ⟨a, b⟩ | ⟨a, b⟩ <;> rw [a] at e1 <;> rw [b] at e2 <;> omega
def tn_g (B : fd_M) (g : Nat → Int) : fd_M := fun c k => if c = 76 then g k else B c k
def tn_inc (B : fd_M) (g : Nat → Int) (d : Nat) : Int := fd_dtc (tn_g B g) d
theorem tn_ind (f : Nat → Int) (v : Int) (t : Nat) : ∀ e : Nat, fd_sum (fun j => f j + (if j = t then v else 0)) e = fd_sum f e + (if t < e then v else 0)
  | 0 => by
    show (0 : Int) = 0 + (if t < 0 then v else 0)
    rw [if_neg (by omega)]; rfl
  | e + 1 => by
    show fd_sum (fun j => f j + (if j = t then v else 0)) e + (f e + (if e = t then v else 0)) = fd_sum f e + f e + (if t < e + 1 then v else 0)
    rw [tn_ind f v t e]
    by_cases h : e = t
    · rw [if_pos h, if_neg (by omega), if_pos (by omega)]; omega
    · rw [if_neg h]
      by_cases h2 : t < e
      · rw [if_pos h2, if_pos (by omega)]; omega
      · rw [if_neg h2, if_neg (by omega)]; omega
/-- pairs counted at their second door -/
theorem tn_pair (a p T : Nat → Int) (m : Nat → Bool) (hT : ∀ j, m j = true → 0 ≤ T j ∧ T j ≠ (j : Int)) (hS : ∀ j, m j = true → m (T j).toNat = true ∧ T (T j).toNat = (j : Int)) : ∀ e : Nat, fd_sum (fun j => a j + (if m j = true ∧ T j < (j : Int) then p j + p (T j).toNat else 0)) e = fd_sum (fun j => a j + (if m j = true ∧ T j < (e : Int) then p j else 0)) e
  | 0 => rfl
  | e + 1 => by
    show fd_sum (fun j => a j + (if m j = true ∧ T j < (j : Int) then p j + p (T j).toNat else 0)) e + (a e + (if m e = true ∧ T e < (e : Int) then p e + p (T e).toNat else 0)) = fd_sum (fun j => a j + (if m j = true ∧ T j < ((e + 1 : Nat) : Int) then p j else 0)) e + (a e + (if m e = true ∧ T e < ((e + 1 : Nat) : Int) then p e else 0))
    rw [tn_pair a p T m hT hS e]
    by_cases q : m e = true ∧ T e < (e : Int)
    · have t0 := hT e q.1
      have s0 := hS e q.1
      have c : fd_sum (fun j => a j + (if m j = true ∧ T j < ((e + 1 : Nat) : Int) then p j else 0)) e = fd_sum (fun j => (a j + (if m j = true ∧ T j < (e : Int) then p j else 0)) + (if j = (T e).toNat then p (T e).toNat else 0)) e := by
        refine fd_sum_congr _ (fun j hj => ?_)
        by_cases z : j = (T e).toNat
        · rw [if_pos z]
          subst z
          rw [if_pos ⟨s0.1, by rw [s0.2]; omega⟩, if_neg (by rw [s0.2]; omega)]
          omega
        · rw [if_neg z]
          by_cases y : m j = true ∧ T j < (e : Int)
          · rw [if_pos y, if_pos ⟨y.1, by omega⟩]; omega
          · rw [if_neg y, if_neg ?_]
            · omega
            · intro w
              have k : T j = (e : Int) := by
                have : ¬ T j < (e : Int) := fun u => y ⟨w.1, u⟩
                omega
              have u := (hS j w.1).2
              rw [k] at u
              have u : T e = (j : Int) := u
              omega
      rw [c, tn_ind, if_pos q, if_pos (by omega), if_pos ⟨q.1, by omega⟩]
      omega
    · have c : fd_sum (fun j => a j + (if m j = true ∧ T j < ((e + 1 : Nat) : Int) then p j else 0)) e = fd_sum (fun j => a j + (if m j = true ∧ T j < (e : Int) then p j else 0)) e := by
        refine fd_sum_congr _ (fun j hj => ?_)
        by_cases y : m j = true ∧ T j < (e : Int)
        · rw [if_pos y, if_pos ⟨y.1, by omega⟩]
        · rw [if_neg y, if_neg ?_]
          intro w
          have k : T j = (e : Int) := by
            have : ¬ T j < (e : Int) := fun u => y ⟨w.1, u⟩
            omega
          have u := hS j w.1
          rw [k] at u
          have u1 : m e = true := u.1
          have u2 : T e = (j : Int) := u.2
          exact q ⟨u1, by omega⟩
      have t0 := fun z => hT e z
      rw [c, if_neg q, if_neg (fun w => q ⟨w.1, by have := t0 w.1; omega⟩)]
theorem tn_total {M B : fd_M} (hG : fd_CG M) (hA : tn_A M) (h3 : B 3 = M 3) (h14 : B 14 = M 14) (h74 : ∀ (j : Nat) (w : Int), (j : Int) < M 3 2 → 0 ≤ w ∧ w ≤ 3 → B 74 ((j : Int) * 4 + w).toNat = fd_nb (fd_wsee M j w)) (g : Nat → Int) (hg : ∀ k, 0 ≤ g k ∧ g k ≤ 3) : fd_sum (tn_inc B g) (M 3 2).toNat = fd_sum (fun j => fd_due g (M 3 3) (if M 14 7 = 1 ∨ ¬ M 14 4 / 2 ^ j % 2 = 1 then -9 else fd_wsee M j (g j)) j) (M 3 2).toNat := by
  have g2 := hG.1.2.2.1
  have f7 := hG.2.2.2.2.2.2.2.2
  have wr : ∀ j, fd_wsee M j (g j) = -9 ∨ (0 ≤ fd_wsee M j (g j) ∧ fd_wsee M j (g j) < M 3 2) := fun j => fd_wsee_rng hG j _
  have pfe : ∀ j, fd_pf (tn_g B g) j = fd_pf M j := fun j => by
    show (if B 14 4 / 2 ^ j % 2 = 1 ∧ B 14 7 = 0 then B 3 3 else 0) = (if M 14 4 / 2 ^ j % 2 = 1 ∧ M 14 7 = 0 then M 3 3 else 0)
    rw [h14, h3]
  have key := tn_pair (fun j => if fd_wsee M j (g j) = -9 then 0 else fd_pf M j) (fd_pf M) (fun j => fd_wsee M j (g j)) (fun j => decide ((j : Int) < M 3 2 ∧ ¬ fd_wsee M j (g j) = -9 ∧ g (fd_wsee M j (g j)).toNat = (g j + 2) % 4)) (fun j hm => by
    obtain ⟨a, b, c⟩ := of_decide_eq_true hm
    exact ⟨by have := wr j; omega, (tn_back hG hA a (hg j) b).2⟩) (fun j hm => by
    obtain ⟨a, b, c⟩ := of_decide_eq_true hm
    have u := (tn_back hG hA a (hg j) b).1
    rw [← c] at u
    have r := wr j
    refine ⟨decide_eq_true ⟨by omega, ?_, ?_⟩, u⟩
    · rw [u]; omega
    · rw [u, c]
      show g j = _
      have := hg j
      omega) (M 3 2).toNat
  have e1 : fd_sum (tn_inc B g) (M 3 2).toNat = fd_sum (fun j => (if fd_wsee M j (g j) = -9 then 0 else fd_pf M j) + (if decide ((j : Int) < M 3 2 ∧ ¬ fd_wsee M j (g j) = -9 ∧ g (fd_wsee M j (g j)).toNat = (g j + 2) % 4) = true ∧ fd_wsee M j (g j) < (j : Int) then fd_pf M j + fd_pf M (fd_wsee M j (g j)).toNat else 0)) (M 3 2).toNat := by
    refine fd_sum_congr _ (fun j hj => ?_)
    have jd : (j : Int) < M 3 2 := by omega
    unfold tn_inc fd_dtc
    rw [pfe, pfe]
    have t : tn_g B g 74 ((j : Int) * 4 + tn_g B g 76 j).toNat = fd_nb (fd_wsee M j (g j)) := h74 j (g j) jd (hg j)
    rw [t]
    show (if fd_nb (fd_wsee M j (g j)) = -1 then 0 else if fd_nb (fd_wsee M j (g j)) < (j : Int) ∧ g (fd_nb (fd_wsee M j (g j))).toNat = (g j + 2) % 4 then _ else _) = _
    have r := wr j
    by_cases z : fd_wsee M j (g j) = -9
    · rw [if_pos (by rw [z]; rfl), if_pos z, if_neg (fun w => (of_decide_eq_true w.1).2.1 z)]
      rfl
    · have nb : fd_nb (fd_wsee M j (g j)) = fd_wsee M j (g j) := by unfold fd_nb; rw [if_neg z]
      rw [nb, if_neg (by omega), if_neg z]
      by_cases q : fd_wsee M j (g j) < (j : Int) ∧ g (fd_wsee M j (g j)).toNat = (g j + 2) % 4
      · rw [if_pos q, if_pos ⟨decide_eq_true ⟨jd, z, q.2⟩, q.1⟩]
      · rw [if_neg q, if_neg (fun w => q ⟨w.2, (of_decide_eq_true w.1).2.2⟩)]
        omega
  have e2 : fd_sum (fun j => (if fd_wsee M j (g j) = -9 then 0 else fd_pf M j) + (if decide ((j : Int) < M 3 2 ∧ ¬ fd_wsee M j (g j) = -9 ∧ g (fd_wsee M j (g j)).toNat = (g j + 2) % 4) = true ∧ fd_wsee M j (g j) < (((M 3 2).toNat : Nat) : Int) then fd_pf M j else 0)) (M 3 2).toNat = fd_sum (fun j => fd_due g (M 3 3) (if M 14 7 = 1 ∨ ¬ M 14 4 / 2 ^ j % 2 = 1 then -9 else fd_wsee M j (g j)) j) (M 3 2).toNat := by
    refine fd_sum_congr _ (fun j hj => ?_)
    have jd : (j : Int) < M 3 2 := by omega
    have r := wr j
    have pj : fd_pf M j = if M 14 4 / 2 ^ j % 2 = 1 ∧ M 14 7 = 0 then M 3 3 else 0 := rfl
    by_cases z : fd_wsee M j (g j) = -9
    · rw [if_pos z, if_neg (fun w => (of_decide_eq_true w.1).2.1 z), z, ite_self]
      rfl
    · rw [if_neg z]
      by_cases o : M 14 7 = 1 ∨ ¬ M 14 4 / 2 ^ j % 2 = 1
      · rw [if_neg (by omega)] at pj
        rw [if_pos o, pj, ite_self]
        rfl
      · rw [if_pos (by omega)] at pj
        rw [if_neg o, pj]
        unfold fd_due
        rw [if_neg z]
        by_cases q : g (fd_wsee M j (g j)).toNat = (g j + 2) % 4
        · rw [if_pos q, if_pos ⟨decide_eq_true ⟨jd, z, q⟩, by omega⟩]
          omega
        · rw [if_neg q, if_neg (fun w => q (of_decide_eq_true w.1).2.2)]
          omega
  rw [e1, key, e2]

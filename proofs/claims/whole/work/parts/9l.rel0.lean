/-! from the constructors' memory to the plain one, and the relation at the start -/
theorem kk_all {n : Nat} {p : Nat → Bool} (h : (List.range n).all p = true) : ∀ i, i < n → p i = true := fun i hi => List.all_eq_true.mp h i (List.mem_range.mpr hi)
theorem kk_ag : ∀ c, c < 213 → fd_ag fd_Mc fd_Mk c = true := fun c hc => by
  by_cases h1 : c < 83
  · exact kk_all fd_ag0 c h1
  · by_cases h2 : c < 199
    · have := kk_all fd_ag1 (c - 83) (by omega)
      rw [show 83 + (c - 83) = c by omega] at this
      exact this
    · by_cases h3 : c < 208
      · have := kk_all fd_ag2 (c - 199) (by omega)
        rw [show 199 + (c - 199) = c by omega] at this
        exact this
      · by_cases h4 : c = 208
        · rw [h4]; exact fd_ag3
        · have := kk_all fd_ag4 (c - 209) (by omega)
          rw [show 209 + (c - 209) = c by omega] at this
          exact this
theorem kk_arr (cI : ClassId) (N : Nat) (f g : Nat → Value) (h : ∀ j, j < N → f j = g j) : arrV cI N f = arrV cI N g := by
  unfold arrV
  congr 2
  funext j
  exact h j.val j.isLt
theorem kk_at {g : fd_G} {H : Heap} {M N : fd_M} {c : Nat} (h : fd_ag M N c = true) (hM : va_at g.2.2.2.1 fd_cl (g.1 + c, fd_ce g true M c) H) : va_at g.2.2.2.1 fd_cl (g.1 + c, fd_ce g true N c) H := by
  unfold fd_ag at h
  unfold fd_ce at hM ⊢
  by_cases h1 : (fd_SH c).1 < 20
  · rw [show Nat.blt (fd_SH c).1 20 = true from (Nat.blt_eq).mpr h1, cond_true] at h
    rw [if_pos h1] at hM ⊢
    have e : (List.range (fd_SH c).2).map (fun k => fd_fv g true N (fd_SH c).1 c k) = (List.range (fd_SH c).2).map (fun k => fd_fv g true M (fd_SH c).1 c k) := by
      apply List.map_congr_left
      intro k hk
      have := List.all_eq_true.mp h k hk
      unfold fd_fv
      rw [of_decide_eq_true this]
    rw [e]
    exact hM
  · have hb : Nat.blt (fd_SH c).1 20 = false := by
      cases q : Nat.blt (fd_SH c).1 20
      · rfl
      · exact absurd ((Nat.blt_eq).mp q) h1
    rw [hb, cond_false] at h
    have a : ∀ k, k < (fd_SH c).2 → M c k = N c k := fun k hk => of_decide_eq_true (kk_all h k hk)
    rw [if_neg h1] at hM ⊢
    by_cases h2 : (fd_SH c).1 < 23
    · rw [if_pos h2] at hM ⊢
      have hM : H[g.1 + c]? = some (arrV (g.2.2.2.2 (fd_SH c).1) (fd_SH c).2 (fun j => .int (Int32.ofInt (M c j)))) := hM
      show H[g.1 + c]? = some (arrV (g.2.2.2.2 (fd_SH c).1) (fd_SH c).2 (fun j => .int (Int32.ofInt (N c j))))
      rw [hM, kk_arr _ _ _ (fun j => .int (Int32.ofInt (N c j))) (fun j hj => by rw [a j hj])]
    · rw [if_neg h2] at hM ⊢
      have hM : H[g.1 + c]? = some (arrV (g.2.2.2.2 (fd_SH c).1) (fd_SH c).2 (fun j => va_rf (fd_ro g (M c j)))) := hM
      show H[g.1 + c]? = some (arrV (g.2.2.2.2 (fd_SH c).1) (fd_SH c).2 (fun j => va_rf (fd_ro g (N c j))))
      rw [hM, kk_arr _ _ _ (fun j => va_rf (fd_ro g (N c j))) (fun j hj => by rw [a j hj])]
theorem kk_hp {g : fd_G} {H : Heap} (h : fd_hp g true fd_Mc H) : fd_hp g true fd_Mk H := by
  have e0 : fd_Mc 5000 0 = 213 := fd_ctor2.2
  have e1 : fd_Mk 5000 0 = 213 := rfl
  have e2 : fd_ap fd_Mc = 213 := by show Int.toNat _ = _; rw [e0]; rfl
  have e3 : fd_ap fd_Mk = 213 := by show Int.toNat _ = _; rw [e1]; rfl
  obtain ⟨-, h2, h3, h4, h5⟩ := h
  rw [e2] at h2 h4 h5
  refine ⟨fun z => (by cases z), by rw [e3]; exact h2, by rw [e1]; omega, fun z => by rw [e3]; exact h4 z, ?_⟩
  rw [e3]
  intro k q hq
  have hk : k < 213 := by
    have := (List.getElem?_eq_some_iff.mp hq).1
    unfold fd_ws at this
    rw [List.length_map, List.length_range] at this
    exact this
  have b := fd_ws_get (g := g) (ph := true) (M := fd_Mk) hk
  rw [hq] at b
  obtain rfl := Option.some.inj b
  exact kk_at (kk_ag k hk) (h5 k _ (fd_ws_get hk))
theorem kk_01 {c : Nat} (h : ¬ (c = 3 ∨ c = 8) ∧ c ≠ 20 ∧ c ≠ 90 ∧ c ≠ 148 ∧ c ≠ 71 ∧ c ≠ 207 ∧ c ≠ 208 ∧ c ≠ 5000) (k : Nat) : 0 ≤ fd_Mk c k ∧ fd_Mk c k ≤ 1 := by
  obtain ⟨a1, a2, a3, a4, a5, a6, a7, a8⟩ := h
  unfold fd_Mk
  rw [if_neg a1, if_neg a2, if_neg a3, if_neg a4, if_neg a5, if_neg a6, if_neg a7, if_neg a8]
  split <;> omega
theorem kk_0 {c : Nat} (h : ¬ (c = 3 ∨ c = 8) ∧ c ≠ 20 ∧ c ≠ 90 ∧ c ≠ 148 ∧ c ≠ 71 ∧ c ≠ 207 ∧ c ≠ 208 ∧ c ≠ 5000) (hs : kk_scn c = false) (k : Nat) : fd_Mk c k = 0 := by
  obtain ⟨a1, a2, a3, a4, a5, a6, a7, a8⟩ := h
  unfold fd_Mk
  rw [if_neg a1, if_neg a2, if_neg a3, if_neg a4, if_neg a5, if_neg a6, if_neg a7, if_neg a8, if_neg (by rw [hs]; exact fun z => by cases z.2)]
theorem kk_SG {a : Nat} (h : ∀ i, i ≤ 4 → ¬ (a + i = 3 ∨ a + i = 8) ∧ a + i ≠ 20 ∧ a + i ≠ 90 ∧ a + i ≠ 148 ∧ a + i ≠ 71 ∧ a + i ≠ 207 ∧ a + i ≠ 208 ∧ a + i ≠ 5000) : fd_SG fd_Mk a := by
  have b0 := kk_01 (h 0 (by omega))
  have b1 := kk_01 (h 1 (by omega))
  have b2 := kk_01 (h 2 (by omega))
  have b3 := kk_01 (h 3 (by omega))
  have b4 := kk_01 (h 4 (by omega))
  rw [Nat.add_zero] at b0
  have c4 := b0 4
  have c5 := b0 5
  have c6 := b0 6
  have c7 := b0 7
  exact ⟨fun d => by have := b1 d; omega, fun d => by have := b2 d; omega, fun d => by have := b3 d; omega, fun d => by have := b4 d; omega, by omega, by omega, by omega, by omega⟩
theorem kk_Rel : fd_Rel fd_Mk := by
  have z : ∀ c, (c = 4 ∨ c = 9 ∨ c = 10 ∨ c = 11 ∨ c = 12 ∨ c = 76 ∨ c = 2 ∨ c = 200 ∨ c = 79 ∨ c = 80 ∨ c = 211 ∨ c = 212 ∨ c = 203) → ∀ k, fd_Mk c k = 0 := fun c hc k => kk_0 (by omega) (by rcases hc with rfl | rfl | rfl | rfl | rfl | rfl | rfl | rfl | rfl | rfl | rfl | rfl | rfl <;> rfl) k
  have zf : ∀ c, (c = 79 ∨ c = 80 ∨ c = 211 ∨ c = 212) → fd_Mk c = fun _ => 0 := fun c hc => funext fun k => z c (by omega) k
  refine ⟨⟨?_, ?_, ?_, ?_, ?_, ?_, ?_, ?_, ?_, ?_, ?_⟩, ⟨?_, ?_, ?_, ?_⟩, ⟨?_, ?_, ?_, ?_, ?_, ?_, ?_, ?_⟩, ⟨?_, ?_, ?_, ?_, ?_, ?_⟩, ⟨?_, ?_, ?_⟩, ?_, ?_⟩
  · exact ⟨by decide, by decide, by decide, by decide, by decide, fun k => by rw [z 4 (by omega)]; omega⟩
  · exact fun i hi => ⟨i, hi, rfl⟩
  · intro i j _ _ e
    have e : ((21 + 5 * i : Nat) : Int) = ((21 + 5 * j : Nat) : Int) := e
    omega
  · decide
  · exact ⟨rfl, rfl, fun i _ => rfl, fun i _ => rfl⟩
  · decide
  · decide
  · decide
  · decide
  · exact fun k => by rw [z 76 (by omega)]; omega
  · exact ⟨fun k => by rw [z 9 (by omega)]; omega, fun k => by rw [z 10 (by omega)]; omega, fun k => by rw [z 11 (by omega)]; omega, fun k => by rw [z 12 (by omega)]; omega⟩
  · exact kk_SG (fun i hi => by omega)
  · exact kk_SG (fun i hi => by omega)
  · exact kk_SG (fun i hi => by omega)
  · exact fun j hj => ⟨kk_SG (fun i hi => by omega), kk_SG (fun i hi => by omega), kk_SG (fun i hi => by omega)⟩
  · exact ⟨by decide, fun i hi => absurd hi (by have : fd_Mk 78 2 = 0 := rfl; omega)⟩
  · rfl
  · rw [zf 211 (by omega), zf 79 (by omega)]
  · rw [zf 212 (by omega), zf 80 (by omega)]
  · exact ⟨by decide, fun k => by rw [z 2 (by omega)]; omega⟩
  · rfl
  · intro k
    rw [z 200 (by omega), z 2 (by omega)]
    decide
  · rfl
  · rfl
  · rfl
  · rfl
  · rfl
  · rfl
  · intro x y hx _
    have : fd_Mk 3 0 = 0 := rfl
    omega
  · rw [fd_SN_eq]
    have d0 : fd_Mk 3 2 = 0 := rfl
    refine ⟨fun d hd => absurd hd (by omega), fun d e hd => absurd hd (by omega), rfl, rfl, rfl, fun y hy => ?_⟩
    have e1 : fd_Mk 14 5 = 0 := rfl
    have e2 : fd_Mk 208 (21 + y) = 0 := by
      show (if 21 + y = 13 then (1 : Int) else 0) = 0
      rw [if_neg (by omega)]
    rw [e1, e2, Int.zero_ediv]
    rfl
  · rfl
  · intro i hi
    have : fd_Mk 19 1 = 0 := rfl
    omega
  · exact ⟨rfl, fun q => absurd rfl q⟩
  · exact ⟨rfl, fun q => absurd rfl q⟩
theorem kk_ops : fd_OpsOk fd_Rel := ⟨fd_o_type, fd_o_clear, fd_o_quarter, fd_o_cell, fd_o_door, fd_o_hinges, fd_o_moves, fd_o_opens, fd_o_cart, fd_o_leaf, fd_o_fog, fd_o_bills, fd_o_undo, fd_o_now, fd_o_turn, fd_o_cartAt, fd_o_bound, fd_o_tells, fd_o_forget, fd_o_open, fd_o_odds, fd_o_mean, fd_o_mark, fd_o_keep, fd_o_back, fd_o_count, fd_o_trace⟩

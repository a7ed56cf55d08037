/-! the law from its entry -/
theorem kk_whole {p : Program} {e : Env} {s : State} {m : MethodId} {below : List Frame} {meth : Method} {c : Code} (l : Launch) {b L : Nat} {xs : Nat → Int32} (hL : L ≤ 256) (C0 : lw_At p s m meth c b L xs) : W p l e room_1 s m #[Value.ref b] below meth c s.heap [] 0 0 (lw_Z below #[Value.ref b] s) (entryFrame m ([Value.ref b] : List Value).toArray 4) := by
  obtain ⟨hx, hb, hr, hml, hown, hts, hX, hbl, hlocks, hgv⟩ := id C0
  obtain ⟨g, hbs, hKn⟩ := fd_known hts hgv
  obtain ⟨c1, c2, c3, c4⟩ := fd_costs
  have hH0 := fd_hp0 (g := g) (H := s.heap) hbs.symm
  have hl := lv_entry ([Value.ref b]) (n := 4) (Nat.le_of_ble_eq_true rfl)
  rw [lg_entry_eq]
  generalize (lg_sl ([Value.ref b]) ++ List.replicate (4 - (lg_sl ([Value.ref b])).length) Slot.unset).toArray = ls at hl ⊢
  have hl : lv_has ls 4 [(0, .ref b)] := hl
  refine fd_lawNew (ci := 0) (idx := 7) C0 hKn (by decide) (by decide +kernel) (by decide +kernel) (by decide +kernel : decode code 0 = .ok (.new 7, 3)) hH0 va_S.rf ⟨by decide, by decide⟩ (fun H1 hH1 hS1 => ?_)
  refine lv_dup hx hb (by decide +kernel : decode code 3 = .ok (.dup, 1)) rfl ?_
  refine fd_lawInit (mid := 0) (a := 0) (idx := 9) C0 hKn (by omega) (by decide) (by decide +kernel) fd_made1 (by decide +kernel : decode code 4 = .ok (.invokespecial 9, 3)) (by decide) hH1 hS1 hl.1 (Nat.le_of_ble_eq_true rfl) fd_cost1 fd_cost2 ⟨by decide, by decide⟩ (fun H2 l2 hH2 hS2 => ?_)
  refine W.widen (k := 300) (n := 6000) (by decide) (by decide) ?_
  refine lv_astore_n (lv' := [(1, .ref (g.1 + 0)), (0, .ref b)]) hx hb (by decide +kernel : decode code 7 = .ok (.astore_n 1, 1)) rfl hl (by decide) rfl (fun ls hl => ?_)
  refine fd_lawNew (ci := 10) (idx := 10) (M := fd_Mb) C0 hKn (by decide) (by decide +kernel) (by rw [c2]; decide) (by decide +kernel : decode code 8 = .ok (.new 10, 3)) hH2 hS2 ⟨by decide, by decide⟩ (fun H3 hH3 hS3 => ?_)
  rw [c2]
  refine lv_dup hx hb (by decide +kernel : decode code 11 = .ok (.dup, 1)) rfl ?_
  refine fd_lawInit (mid := 51) (a := 199) (idx := 12) C0 hKn (by omega) (by decide) (by decide +kernel) fd_made2 (by decide +kernel : decode code 12 = .ok (.invokespecial 12, 3)) (by decide) hH3 hS3 hl.1 (Nat.le_of_ble_eq_true rfl) fd_cost3 fd_cost4 ⟨by decide, by decide⟩ (fun H4 l4 hH4 hS4 => ?_)
  refine W.widen (k := 1000) (n := 11000) (by decide) (by decide) ?_
  refine lv_astore_n (lv' := [(2, .ref (g.1 + 199)), (1, .ref (g.1 + 0)), (0, .ref b)]) hx hb (by decide +kernel : decode code 15 = .ok (.astore_n 2, 1)) rfl hl (by decide) rfl (fun ls hl => ?_)
  refine lv_iconst (v := 0) hx hb (by decide +kernel : decode code 16 = .ok (.iconst 0, 1)) (by decide) ?_
  refine lv_istore_n (lv' := [(3, .int 0), (2, .ref (g.1 + 199)), (1, .ref (g.1 + 0)), (0, .ref b)]) hx hb (by decide +kernel : decode code 17 = .ok (.istore_n 3, 1)) rfl hl (by decide) rfl (fun ls hl => ?_)
  have hHc := kk_hp (fd_hp_ph hH4 fd_ctor2.2 fd_ctor_rf)
  exact fd_law_loop hL C0 hKn hbs kk_ops L 0 (by omega) (by omega) fd_Mk H4 l4 kk_Rel hHc hS4 ls (lv_sub hl [3, 2, 1, 0] rfl)


section fdStart
variable {p : Program} {l : Launch} {e : Env} {s : State} {m : MethodId} {below : List Frame} {meth : Method} {c : Code} {b L : Nat} {xs : Nat → Int32} {g : fd_G} {H : Heap} {locs : List Loc} {cells slots : Nat} {Q : State → Prop} {la : Array Slot} {M M1 : fd_M} {ci idx pc mid a : Nat} {rest : List Value}
/-- a making in the law -/
theorem fd_lawNew (C0 : lw_At p s m meth c b L xs) (hKn : fd_Kn g s s.heap) (hci : ci < 11) (hcl : Jvm.Cond.classLink R_law idx (fd_clD ci).1 ∈ lw_tbl) (hsh : (fd_SH (fd_ap M)).1 = ci) (hd : decode code pc = .ok (.new idx, 3)) (hH : fd_hp g false M H) (hS : va_S (fd_A g) s.heap H locs) (hcs : cells ≤ 900 ∧ slots ≤ 9000)
    (kk : ∀ (H1 : Heap), fd_hp g false (fd_nw M (fd_dfl ci)) H1 → va_S (fd_A g) s.heap H1 locs → W p l e room_1 s m #[Value.ref b] below meth c H1 locs (cells + 1) (slots + 1000) Q (F0 m (pc + 3) la (.ref (g.1 + fd_ap M) :: rest))) : W p l e room_1 s m #[Value.ref b] below meth c H locs cells slots Q (F0 m pc la rest) := by
  obtain ⟨hx, hb, hr, hml, hown, hts, hX, hbl, hlocks, hgv⟩ := C0
  have hK := hKn.1
  have hap : fd_ap M < 213 := (fd_sh_at (by omega)).1
  have hn3 := (fd_sh_at (c := fd_ap M) (by omega)).2.2
  obtain ⟨hin, hinst, hini2, -, hty⟩ := fd_cl_at hci
  have hts2 : ∀ w ∈ fd_tbl, w.before #[Value.ref b] s = true := fun w hw => hts w (List.mem_filter.mp hw).1
  have hsz := ((fd_sh_at (c := fd_ap M) (by omega)).2.1 (by omega)).2
  rw [hsh] at hsz
  have hKc := hK.1 ci _ (fd_clD_get hci)
  have hN : (fd_clD ci).2.2 < 1000 := by rw [hsz]; exact hn3
  refine W.newcK hx hb hown (hts _ hcl) (hts2 _ hinst) (hts2 _ hini2) rfl hd (by show cells + 1 ≤ 600000; omega) (by show slots + _ ≤ 7302250; omega) hKc.2.1 (hH.1 rfl) fun H1 kC hkC q1 z1 o1 => ?_
  refine W.widen (k := cells + 1) (n := slots + 1000) (Nat.le_refl _) (by omega) ?_
  refine kk H1 (fd_hp_nw hH hap z1 o1 ?_) ⟨Nat.le_trans hS.1 (by rw [z1, hH.1 rfl]; omega), fun x h1 h2 => (o1 x (by have := hS.1; have := hH.1 rfl; omega)).trans (hS.2.1 x h1 h2), hS.2.2⟩
  rw [fd_ce_obj hsh (by omega)]
  refine ⟨_, fd_clD_get hci, (u_born (fd_ty ci) hts2 hin hKc hkC q1 hty).to (fun j hj => ?_)⟩
  have hj2 : j < (fd_SH (fd_ap M)).2 := by omega
  have hR := (fd_cl2_at hci j hj).2
  have e3 : vp_V ((List.range (fd_SH (fd_ap M)).2).map (fun k => fd_fv g false (fd_nw M (fd_dfl ci)) ci (fd_ap M) k)) j = fd_fv g false (fd_nw M (fd_dfl ci)) ci (fd_ap M) j := by
    simp [vp_V, hj2]
  rw [e3]
  unfold fd_fv fd_gf fd_rf
  simp only [fd_nw_new]
  unfold fd_dfl
  cases ht : fd_ty ci j <;> rw [ht] at hR <;> first | rfl | exact absurd (hR rfl) (by decide)
/-- a constructor called by the law -/
theorem fd_lawInit {mc ms : Nat} (C0 : lw_At p s m meth c b L xs) (hKn : fd_Kn g s s.heap) (hbs : g.1 ≤ s.heap.size) (hmid : mid < 177) (hq : fd_sk mid = 2 ∧ fd_np mid = some 0 ∧ 1 ≤ fd_mL mid ∧ fd_r mid = none ∧ (fd_y mid).name = "<init>" ∧ Jvm.Cond.methodLink R_law idx (fd_y mid) ∈ lw_tbl) {f : Nat} (hf : fd_ex false f 20 mid 0 (fd_pad mid [fd_R a]) [] M = some (none, M1)) (hd : decode code pc = .ok (.invokespecial idx, 3)) (ha : a < 1000) (hH : fd_hp g false M H) (hS : va_S (fd_A g) s.heap H locs) (hls : la.size = 4) (hrest : (rest.map fun v => v.category).sum ≤ 8) (hmc : fd_ap M1 - fd_ap M = mc) (hms : fd_sl (fd_ap M1) - fd_sl (fd_ap M) = ms) (hcs : cells + mc ≤ 600000 ∧ slots + ms ≤ 7302250)
    (kk : ∀ (H1 : Heap) (l1 : List Loc), fd_hp g false M1 H1 → va_S (fd_A g) s.heap H1 l1 → W p l e room_1 s m #[Value.ref b] below meth c H1 l1 (cells + mc) (slots + ms) Q (F0 m (pc + 3) la rest)) :
    W p l e room_1 s m #[Value.ref b] below meth c H locs cells slots Q (F0 m pc la (.ref (g.1 + a) :: rest)) := by
  obtain ⟨hx, hb, hr, hml, hown, hts, hX, hbl, hlocks, hgv⟩ := C0
  obtain ⟨hsk, hnp, hlen, hret, hnm, hlink⟩ := hq
  have hM := fd_met (g := g) (l := l) hmid (by exact hlen) (fun v hv => by
    rcases List.mem_cons.mp hv with rfl | hv
    · show Nat.blt a 1000 = true
      simp; omega
    · cases hv) hf
  rw [hmc, hms] at hM
  obtain ⟨⟨hcode, hinit⟩, -, -, hsk2, ⟨hy1, hy2, -, -⟩, hmL⟩ := fd_okM_inv hmid
  have hts2 : ∀ w ∈ fd_tbl, w.before #[Value.ref b] s = true := fun w hw => hts w (List.mem_filter.mp hw).1
  have hG : GoodIn lw_tbl (.code (fd_y mid) (fd_b mid) (fd_mL mid) (fd_r mid) :: fd_gtbl) := fun w hw => by
    obtain ⟨q1, q2⟩ := fd_goodIn hcode w hw
    exact ⟨(List.mem_filter.mp q1).1, q2⟩
  have hargv : (List.map (fd_cv g) [fd_R a]) = [Value.ref (g.1 + a)] := by
    rw [List.map_cons, show fd_cv g (fd_R a) = .ref (g.1 + a) from fd_rv_lt ha]
    rfl
  have hpre : ∀ U : State, U.heap = H → s.WarmedH U.vm → fd_Pc g false [fd_R a] M (Value.ref (g.1 + a) :: []).toArray U := fun U hU hW =>
    ⟨by rw [hargv], by rw [hU]; exact hH, fd_Kn_moved hW (fun q h1 h2 => by rw [hU]; exact hS.2.1 q h1 h2) hKn, by rw [hU]; exact Nat.le_trans hbs hS.1⟩
  rw [hret] at hG
  unfold fd_wsm at hM
  rw [hret] at hM
  have hrun : va_Run p l e room_1 s m #[Value.ref b] below meth c H locs cells slots mc ms (F0 m pc la (.ref (g.1 + a) :: rest)) rest (fd_Qc g false none M1 (Value.ref (g.1 + a) :: []).toArray) (fd_A g) :=
    va_runI (As := []) ⟨hx, hb, hml, hown, hts⟩ hM ⟨callB_of 0 hts hG rfl rfl rfl (hts2 _ hinit) (hts _ hlink) ⟨hy1, hy2, hnp⟩ ⟨by show 20 + 5 + 1 ≤ 2048; decide, Nat.le_trans (fd_arith _ 20 hmL) (by show 60 * (20 + 1) + 300 ≤ 84000; decide)⟩, hnm, hts2 _ (hsk2 hsk)⟩ ⟨fd_Pc_blind, hpre⟩ rfl rfl hls rfl (lv_room hrest) hd hcs
  refine va_callv (a := (Value.ref (g.1 + a) :: []).toArray) hrun hS (fun q _ h => h) (fun q h => h) (fun u t H1 l1 ht hvm hp hB hz hk1 hS1 => ?_)
  exact kk H1 l1 (by rw [← ht]; exact hB) hS1
end fdStart
theorem fd_hp0 {g : fd_G} {H : Heap} (h : H.size = g.1) : fd_hp g false fd_M0 H := by
  refine ⟨fun _ => h, by decide, by decide, fun q => (by cases q), fun k q hq => ?_⟩
  have hk := (List.getElem?_eq_some_iff.mp hq).1
  exact absurd hk (by simp [fd_ws, fd_M0])
theorem fd_costs : fd_ap fd_Ma = 1 ∧ fd_ap fd_Mb = 199 ∧ fd_ap fd_Mb' = 200 ∧ fd_ap fd_Mc = 213 := by
  have h1 := fd_ctor1.2
  have h2 := fd_ctor2.2
  have e2 : fd_ap fd_Mb = 199 := by show Int.toNat _ = _; rw [h1]; rfl
  refine ⟨by decide +kernel, e2, ?_, by show Int.toNat _ = _; rw [h2]; rfl⟩
  have := (fd_nw_ap (M := fd_Mb) (f := fd_dfl 10) (by omega) (by omega)).2
  rw [e2] at this
  exact this
theorem fd_slots : fd_sl 1 = 13 ∧ fd_sl 199 = 1568 ∧ fd_sl 200 = 1592 ∧ fd_sl 213 = 2809 := by decide +kernel
theorem fd_cost1 : fd_ap fd_Mb - fd_ap fd_Ma = 198 := by rw [fd_costs.1, fd_costs.2.1]
theorem fd_cost2 : fd_sl (fd_ap fd_Mb) - fd_sl (fd_ap fd_Ma) = 1555 := by rw [fd_costs.1, fd_costs.2.1, fd_slots.1, fd_slots.2.1]
theorem fd_cost3 : fd_ap fd_Mc - fd_ap fd_Mb' = 13 := by rw [fd_costs.2.2.1, fd_costs.2.2.2]
theorem fd_cost4 : fd_sl (fd_ap fd_Mc) - fd_sl (fd_ap fd_Mb') = 1217 := by rw [fd_costs.2.2.1, fd_costs.2.2.2, fd_slots.2.2.1, fd_slots.2.2.2]
theorem fd_made1 : fd_ex false 400 20 0 0 (fd_pad 0 [fd_R 0]) [] fd_Ma = some (none, fd_Mb) := fd_isN_eq fd_ctor1.1
theorem fd_made2 : fd_ex false 3000 20 51 0 (fd_pad 51 [fd_R 199]) [] fd_Mb' = some (none, fd_Mc) := fd_isN_eq fd_ctor2.1
theorem fd_whole (Rel : fd_M → Prop) (hops : fd_OpsOk Rel) (h0 : Rel fd_Mc) {p : Program} {e : Env} {s : State} {m : MethodId} {below : List Frame} {meth : Method} {c : Code} (l : Launch) {b L : Nat} {xs : Nat → Int32} (hL : L ≤ 256) (C0 : lw_At p s m meth c b L xs) : W p l e room_1 s m #[Value.ref b] below meth c s.heap [] 0 0 (lw_Z below #[Value.ref b] s) (entryFrame m ([Value.ref b] : List Value).toArray 4) := by
  obtain ⟨hx, hb, hr, hml, hown, hts, hX, hbl, hlocks, hgv⟩ := id C0
  obtain ⟨g, hbs, hKn⟩ := fd_known hts hgv
  obtain ⟨c1, c2, c3, c4⟩ := fd_costs
  have hH0 := fd_hp0 (g := g) (H := s.heap) hbs.symm
  have hl := lv_entry ([Value.ref b]) (n := 4) (Nat.le_of_ble_eq_true rfl)
  rw [lg_entry_eq]
  generalize (lg_sl ([Value.ref b]) ++ List.replicate (4 - (lg_sl ([Value.ref b])).length) Slot.unset).toArray = ls at hl ⊢
  have hl : lv_has ls 4 [(0, .ref b)] := hl
  refine fd_lawNew (ci := 0) (idx := 7) C0 hKn (by decide) (by decide +kernel) (by decide +kernel) (by decide +kernel : decode code 0 = .ok (.new 7, 3)) hH0 va_S.rf ⟨by decide, by decide⟩ (fun H1 hH1 hS1 => ?_)
  refine lv_dup hx hb (by decide +kernel : decode code 3 = .ok (.dup, 1)) rfl ?_
  refine fd_lawInit (mid := 0) (a := 0) (idx := 9) C0 hKn (by omega) (by decide) (by decide +kernel) fd_made1 (by decide +kernel : decode code 4 = .ok (.invokespecial 9, 3)) (by decide) hH1 hS1 hl.1 (Nat.le_of_ble_eq_true rfl) fd_cost1 fd_cost2 ⟨by decide, by decide⟩ (fun H2 l2 hH2 hS2 => ?_)
  refine W.widen (k := 300) (n := 6000) (by decide) (by decide) ?_
  refine lv_astore_n (lv' := [(1, .ref (g.1 + 0)), (0, .ref b)]) hx hb (by decide +kernel : decode code 7 = .ok (.astore_n 1, 1)) rfl hl (by decide) rfl (fun ls hl => ?_)
  refine fd_lawNew (ci := 10) (idx := 10) (M := fd_Mb) C0 hKn (by decide) (by decide +kernel) (by rw [c2]; decide) (by decide +kernel : decode code 8 = .ok (.new 10, 3)) hH2 hS2 ⟨by decide, by decide⟩ (fun H3 hH3 hS3 => ?_)
  rw [c2]
  refine lv_dup hx hb (by decide +kernel : decode code 11 = .ok (.dup, 1)) rfl ?_
  refine fd_lawInit (mid := 51) (a := 199) (idx := 12) C0 hKn (by omega) (by decide) (by decide +kernel) fd_made2 (by decide +kernel : decode code 12 = .ok (.invokespecial 12, 3)) (by decide) hH3 hS3 hl.1 (Nat.le_of_ble_eq_true rfl) fd_cost3 fd_cost4 ⟨by decide, by decide⟩ (fun H4 l4 hH4 hS4 => ?_)
  refine W.widen (k := 1000) (n := 11000) (by decide) (by decide) ?_
  refine lv_astore_n (lv' := [(2, .ref (g.1 + 199)), (1, .ref (g.1 + 0)), (0, .ref b)]) hx hb (by decide +kernel : decode code 15 = .ok (.astore_n 2, 1)) rfl hl (by decide) rfl (fun ls hl => ?_)
  refine lv_iconst (v := 0) hx hb (by decide +kernel : decode code 16 = .ok (.iconst 0, 1)) (by decide) ?_
  refine lv_istore_n (lv' := [(3, .int 0), (2, .ref (g.1 + 199)), (1, .ref (g.1 + 0)), (0, .ref b)]) hx hb (by decide +kernel : decode code 17 = .ok (.istore_n 3, 1)) rfl hl (by decide) rfl (fun ls hl => ?_)
  have hHc := fd_hp_ph hH4 fd_ctor2.2 fd_ctor_rf
  exact fd_law_loop hL C0 hKn hbs hops L 0 (by omega) (by omega) fd_Mc H4 l4 h0 hHc hS4 ls (lv_sub hl [3, 2, 1, 0] rfl)


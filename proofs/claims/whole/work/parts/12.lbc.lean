theorem fd_gmem {w : Jvm.Cond} (h : w ∈ lw_tbl) (hg : goodWord w = true) : w ∈ fd_gtbl := List.mem_filter.mpr ⟨h, hg⟩
theorem fd_lb_words : Jvm.Cond.constantLong "java/lang/Long" 314 6148914691236517205 ∈ lw_tbl ∧ Jvm.Cond.constantLong "java/lang/Long" 316 3689348814741910323 ∈ lw_tbl ∧ Jvm.Cond.constantLong "java/lang/Long" 318 1085102592571150095 ∈ lw_tbl := by decide +kernel
set_option maxRecDepth 20000 in
/-- Long.bitCount, as its code counts -/
theorem fd_lbcM (l : Launch) (x : Int64) (H : Heap) : Met l fd_lb (.code fd_lb prog_14_method_50_code 2 (some .int) :: fd_gtbl) { frames := 1, cells := 0, slots := 0, locals := 40 } (va_Pc [.long x] (fun U => U.heap = H)) (va_Qi (fun r (_ : Unit) => r = fd_bc x) (fun _ t => t.heap = H) (fun _ => False)) 0 0 (fun _ => False) := by
  refine Met.ofW (cc := prog_14_method_50_code) (maxL := 2) (ret := some .int) (by decide) rfl ?_
  intro p e s m args below meth c s₁ B hml hv
  obtain ⟨rfl, hH⟩ := hv
  have hx := B.exec
  have hb := B.bytes
  have hr := B.returns
  have hts := atoms_spec (ws := .code fd_lb prog_14_method_50_code 2 (some .int) :: fd_gtbl) B.pre
  have hown : s.vm.findClass "java/lang/Long" = some m.cls := findClass_of_methodNamed B.named
  have hlocks := B.notSynchronized
  have c1 := hts _ (List.mem_cons_of_mem _ (fd_gmem fd_lb_words.1 rfl))
  have c2 := hts _ (List.mem_cons_of_mem _ (fd_gmem fd_lb_words.2.1 rfl))
  have c3 := hts _ (List.mem_cons_of_mem _ (fd_gmem fd_lb_words.2.2 rfl))
  have hS : va_S (fun _ => False) s.heap s.heap [] := va_S.rf
  have hl := lv_entry ([.long x]) (n := 2) (Nat.le_of_ble_eq_true rfl)
  rw [lg_entry_eq]
  generalize (lg_sl ([.long x]) ++ List.replicate (2 - (lg_sl ([.long x])).length) Slot.unset).toArray = ls at hl ⊢
  have hl : lv_has ls 2 [(0, .long x)] := hl
  refine lv_lload_n hx hb (by decide +kernel : decode prog_14_method_50_code 0 = .ok (.lload_n 0, 1)) rfl (lv_at hl 0 rfl) ?_
  refine lv_lload_n hx hb (by decide +kernel : decode prog_14_method_50_code 1 = .ok (.lload_n 0, 1)) rfl (lv_at hl 0 rfl) ?_
  refine lv_iconst (v := 1) hx hb (by decide +kernel : decode prog_14_method_50_code 2 = .ok (.iconst 1, 1)) (by decide) ?_
  refine lv_lushr hx hb (by decide +kernel : decode prog_14_method_50_code 3 = .ok (.lushr, 1)) rfl ?_
  refine lv_ldc2 hx hb hown c1 (by decide +kernel : decode prog_14_method_50_code 4 = .ok (.ldc2_w 314, 3)) ?_
  refine lv_land hx hb (by decide +kernel : decode prog_14_method_50_code 7 = .ok (.land, 1)) ?_
  refine lv_lsub hx hb (by decide +kernel : decode prog_14_method_50_code 8 = .ok (.lsub, 1)) ?_
  refine lv_topl (fun x1 e1 => ?_)
  refine lv_lstore_n (lv' := [(0, .long x1)]) hx hb (by decide +kernel : decode prog_14_method_50_code 9 = .ok (.lstore_n 0, 1)) rfl hl (by decide) rfl (fun ls hl => ?_)
  refine lv_lload_n hx hb (by decide +kernel : decode prog_14_method_50_code 10 = .ok (.lload_n 0, 1)) rfl (lv_at hl 0 rfl) ?_
  refine lv_ldc2 hx hb hown c2 (by decide +kernel : decode prog_14_method_50_code 11 = .ok (.ldc2_w 316, 3)) ?_
  refine lv_land hx hb (by decide +kernel : decode prog_14_method_50_code 14 = .ok (.land, 1)) ?_
  refine lv_lload_n hx hb (by decide +kernel : decode prog_14_method_50_code 15 = .ok (.lload_n 0, 1)) rfl (lv_at hl 0 rfl) ?_
  refine lv_iconst (v := 2) hx hb (by decide +kernel : decode prog_14_method_50_code 16 = .ok (.iconst 2, 1)) (by decide) ?_
  refine lv_lushr hx hb (by decide +kernel : decode prog_14_method_50_code 17 = .ok (.lushr, 1)) rfl ?_
  refine lv_ldc2 hx hb hown c2 (by decide +kernel : decode prog_14_method_50_code 18 = .ok (.ldc2_w 316, 3)) ?_
  refine lv_land hx hb (by decide +kernel : decode prog_14_method_50_code 21 = .ok (.land, 1)) ?_
  refine lv_ladd hx hb (by decide +kernel : decode prog_14_method_50_code 22 = .ok (.ladd, 1)) ?_
  refine lv_topl (fun x2 e2 => ?_)
  refine lv_lstore_n (lv' := [(0, .long x2)]) hx hb (by decide +kernel : decode prog_14_method_50_code 23 = .ok (.lstore_n 0, 1)) rfl hl (by decide) rfl (fun ls hl => ?_)
  refine lv_lload_n hx hb (by decide +kernel : decode prog_14_method_50_code 24 = .ok (.lload_n 0, 1)) rfl (lv_at hl 0 rfl) ?_
  refine lv_lload_n hx hb (by decide +kernel : decode prog_14_method_50_code 25 = .ok (.lload_n 0, 1)) rfl (lv_at hl 0 rfl) ?_
  refine lv_iconst (v := 4) hx hb (by decide +kernel : decode prog_14_method_50_code 26 = .ok (.iconst 4, 1)) (by decide) ?_
  refine lv_lushr hx hb (by decide +kernel : decode prog_14_method_50_code 27 = .ok (.lushr, 1)) rfl ?_
  refine lv_ladd hx hb (by decide +kernel : decode prog_14_method_50_code 28 = .ok (.ladd, 1)) ?_
  refine lv_ldc2 hx hb hown c3 (by decide +kernel : decode prog_14_method_50_code 29 = .ok (.ldc2_w 318, 3)) ?_
  refine lv_land hx hb (by decide +kernel : decode prog_14_method_50_code 32 = .ok (.land, 1)) ?_
  refine lv_topl (fun x3 e3 => ?_)
  refine lv_lstore_n (lv' := [(0, .long x3)]) hx hb (by decide +kernel : decode prog_14_method_50_code 33 = .ok (.lstore_n 0, 1)) rfl hl (by decide) rfl (fun ls hl => ?_)
  refine lv_lload_n hx hb (by decide +kernel : decode prog_14_method_50_code 34 = .ok (.lload_n 0, 1)) rfl (lv_at hl 0 rfl) ?_
  refine lv_lload_n hx hb (by decide +kernel : decode prog_14_method_50_code 35 = .ok (.lload_n 0, 1)) rfl (lv_at hl 0 rfl) ?_
  refine lv_bipush (v := 8) hx hb (by decide +kernel : decode prog_14_method_50_code 36 = .ok (.bipush 8, 2)) (by decide) ?_
  refine lv_lushr hx hb (by decide +kernel : decode prog_14_method_50_code 38 = .ok (.lushr, 1)) rfl ?_
  refine lv_ladd hx hb (by decide +kernel : decode prog_14_method_50_code 39 = .ok (.ladd, 1)) ?_
  refine lv_topl (fun x4 e4 => ?_)
  refine lv_lstore_n (lv' := [(0, .long x4)]) hx hb (by decide +kernel : decode prog_14_method_50_code 40 = .ok (.lstore_n 0, 1)) rfl hl (by decide) rfl (fun ls hl => ?_)
  refine lv_lload_n hx hb (by decide +kernel : decode prog_14_method_50_code 41 = .ok (.lload_n 0, 1)) rfl (lv_at hl 0 rfl) ?_
  refine lv_lload_n hx hb (by decide +kernel : decode prog_14_method_50_code 42 = .ok (.lload_n 0, 1)) rfl (lv_at hl 0 rfl) ?_
  refine lv_bipush (v := 16) hx hb (by decide +kernel : decode prog_14_method_50_code 43 = .ok (.bipush 16, 2)) (by decide) ?_
  refine lv_lushr hx hb (by decide +kernel : decode prog_14_method_50_code 45 = .ok (.lushr, 1)) rfl ?_
  refine lv_ladd hx hb (by decide +kernel : decode prog_14_method_50_code 46 = .ok (.ladd, 1)) ?_
  refine lv_topl (fun x5 e5 => ?_)
  refine lv_lstore_n (lv' := [(0, .long x5)]) hx hb (by decide +kernel : decode prog_14_method_50_code 47 = .ok (.lstore_n 0, 1)) rfl hl (by decide) rfl (fun ls hl => ?_)
  refine lv_lload_n hx hb (by decide +kernel : decode prog_14_method_50_code 48 = .ok (.lload_n 0, 1)) rfl (lv_at hl 0 rfl) ?_
  refine lv_lload_n hx hb (by decide +kernel : decode prog_14_method_50_code 49 = .ok (.lload_n 0, 1)) rfl (lv_at hl 0 rfl) ?_
  refine lv_bipush (v := 32) hx hb (by decide +kernel : decode prog_14_method_50_code 50 = .ok (.bipush 32, 2)) (by decide) ?_
  refine lv_lushr hx hb (by decide +kernel : decode prog_14_method_50_code 52 = .ok (.lushr, 1)) rfl ?_
  refine lv_ladd hx hb (by decide +kernel : decode prog_14_method_50_code 53 = .ok (.ladd, 1)) ?_
  refine lv_topl (fun x6 e6 => ?_)
  refine lv_lstore_n (lv' := [(0, .long x6)]) hx hb (by decide +kernel : decode prog_14_method_50_code 54 = .ok (.lstore_n 0, 1)) rfl hl (by decide) rfl (fun ls hl => ?_)
  refine lv_lload_n hx hb (by decide +kernel : decode prog_14_method_50_code 55 = .ok (.lload_n 0, 1)) rfl (lv_at hl 0 rfl) ?_
  refine lv_l2i hx hb (by decide +kernel : decode prog_14_method_50_code 56 = .ok (.l2i, 1)) rfl ?_
  refine lv_bipush (v := 127) hx hb (by decide +kernel : decode prog_14_method_50_code 57 = .ok (.bipush 127, 2)) (by decide) ?_
  refine lv_iand hx hb (by decide +kernel : decode prog_14_method_50_code 59 = .ok (.iand, 1)) ?_
  refine W.iret hx hb hr (fun t ht hW => ⟨⟨_, (), rfl, ?_, ht.trans hH⟩, hS.F ht⟩) hS.2.2 (by decide +kernel : decode prog_14_method_50_code 60 = .ok (.ireturn, 1))
  rw [e6, e5, e4, e3, e2, e1]
  rfl

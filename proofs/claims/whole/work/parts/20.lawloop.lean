section fdLoop
variable {p : Program} {l : Launch} {e : Env} {s : State} {m : MethodId} {below : List Frame} {meth : Method} {c : Code} {b L : Nat} {xs : Nat → Int32} {g : fd_G} {Rel : fd_M → Prop}
theorem fd_law_sw : decode code 32 = .ok (.tableswitch (828 - 32) 0 26 #[124, 147, 160, 173, 206, 239, 272, 305, 338, 381, 404, 427, 440, 453, 476, 499, 512, 535, 568, 581, 604, 647, 680, 713, 736, 759, 782], 124) := by decide +kernel
theorem fd_law_loop (hL : L ≤ 256) (C0 : lw_At p s m meth c b L xs) (hKn : fd_Kn g s s.heap) (hbs : g.1 = s.heap.size) (hops : fd_OpsOk Rel) :
    ∀ (n i : Nat), L < i + 4 * n + 4 → i ≤ L → ∀ (M : fd_M) (H : Heap) (locs : List Loc), Rel M → fd_hp g true M H → va_S (fd_A g) s.heap H locs → ∀ (la : Array Slot), lv_has la 4 [(0, .ref b), (1, .ref g.1), (2, .ref (g.1 + 199)), (3, .int (nI i))] → W p l e room_1 s m #[Value.ref b] below meth c H locs 1000 11000 (lw_Z below #[Value.ref b] s) (F0 m 18 la []) := by
  intro n
  induction n with
  | zero => ?_
  | succ n ih => ?_
  all_goals
    intro i hn hiL M H locs hR hH hS la hl
    obtain ⟨hx, hb, hr, hml, hown, hts, hX, hbl, hlocks, hgv⟩ := id C0
    have hbA : ¬ g.1 ≤ b := by omega
    refine lv_iload_n hx hb (by decide +kernel : decode code 18 = .ok (.iload_n 3, 1)) rfl (lv_at hl 3 rfl) ?_
    refine lv_aload_n hx hb (by decide +kernel : decode code 19 = .ok (.aload_n 0, 1)) rfl (lv_at hl 0 rfl) ?_
    refine va_slen hx hb hX hbl hbA hS (by decide +kernel : decode code 20 = .ok (.arraylength, 1)) ?_
    refine lv_iconst (v := 4) hx hb (by decide +kernel : decode code 21 = .ok (.iconst 4, 1)) (by decide) ?_
    refine lv_isub hx hb (by decide +kernel : decode code 22 = .ok (.isub, 1)) ?_
    have e4 : (nI L - 4 : Int32).toInt = (L : Int) - 4 := pk_sub_toInt (b := 4) (by omega) (by decide)
    have ei : (nI i).toInt = (i : Int) := nI_toInt (by omega)
    refine lv_icmp_gt (tgt := 834) hx hb (by decide +kernel : decode code 23 = .ok (.if_icmp .gt 811, 3)) (by decide) (fun _ => ?_) (fun q => ?_)
    · refine lv_iconst (v := 1) hx hb (by decide +kernel : decode code 834 = .ok (.iconst 1, 1)) (by decide) ?_
      refine va_forget (fun q hq => ?_) ?_
      · have := hS.2.2 q hq
        show s.heap.size ≤ q.base
        rw [← hbs]
        exact this
      refine W.widen (k := 600000) (n := 7302250) (by decide) (by decide) ?_
      exact lw_ret hx hb hr hlocks (by decide +kernel : decode code 835 = .ok (.ireturn, 1))
  · exfalso
    apply q
    rw [Int32.lt_iff_toInt_lt]
    show (nI L - 4 : Int32).toInt < _
    rw [e4, ei]
    omega
  · have hi4 : i + 4 ≤ L := by
      rcases Nat.lt_or_ge L (i + 4) with z | z
      · exfalso
        apply q
        rw [Int32.lt_iff_toInt_lt]
        show (nI L - 4 : Int32).toInt < _
        rw [e4, ei]
        omega
      · exact z
    have kk : ∀ (M2 : fd_M) (H2 : Heap) (l2 : List Loc), Rel M2 → fd_hp g true M2 H2 → va_S (fd_A g) s.heap H2 l2 → W p l e room_1 s m #[Value.ref b] below meth c H2 l2 1000 11000 (lw_Z below #[Value.ref b] s) (F0 m 828 la []) := fun M2 H2 l2 h1 h2 h3 => by
      refine lv_iinc (v := nI (i + 4)) (lv' := [(3, .int (nI (i + 4))), (0, .ref b), (1, .ref g.1), (2, .ref (g.1 + 199))]) hx hb (by decide +kernel : decode code 828 = .ok (.iinc 3 4, 3)) hl (k := 3) rfl (nI_add i 4) (by decide) rfl (fun la1 hl1 => ?_)
      refine lv_goto (tgt := 18) hx hb (by decide +kernel : decode code 831 = .ok (.goto (-813), 3)) (by decide) ?_
      exact ih (i + 4) (by omega) hi4 M2 H2 l2 h1 h2 h3 la1 (lv_sub hl1 [1, 2, 3, 0] rfl)
    refine lv_aload_n hx hb (by decide +kernel : decode code 26 = .ok (.aload_n 0, 1)) rfl (lv_at hl 0 rfl) ?_
    refine lv_iload_n hx hb (by decide +kernel : decode code 27 = .ok (.iload_n 3, 1)) rfl (lv_at hl 3 rfl) ?_
    refine va_sld hx hb hX hbl hbA hS (vp_in_nI (show i < L by omega) (by omega)) (by decide +kernel : decode code 28 = .ok (.iaload, 1)) ?_
    refine lv_bipush (v := 31) hx hb (by decide +kernel : decode code 29 = .ok (.bipush 31, 2)) (by decide) ?_
    refine lv_iand hx hb (by decide +kernel : decode code 31 = .ok (.iand, 1)) ?_
    obtain ⟨j, hj, ej⟩ := pk_andE (xs (nI i).toNatClampNeg) (m := 31) 5 (by decide)
    rw [ej]
    have ejt : (nI j).toInt = (j : Int) := nI_toInt (by omega)
    obtain ⟨o0, o1, o2, o3, o4, o5, o6, o7, o8, o9, o10, o11, o12, o13, o14, o15, o16, o17, o18, o19, o20, o21, o22, o23, o24, o25, o26⟩ := hops
    rcases Nat.lt_or_ge j 27 with hj27 | hj27
    · have hcs : j = 0 ∨ j = 1 ∨ j = 2 ∨ j = 3 ∨ j = 4 ∨ j = 5 ∨ j = 6 ∨ j = 7 ∨ j = 8 ∨ j = 9 ∨ j = 10 ∨ j = 11 ∨ j = 12 ∨ j = 13 ∨ j = 14 ∨ j = 15 ∨ j = 16 ∨ j = 17 ∨ j = 18 ∨ j = 19 ∨ j = 20 ∨ j = 21 ∨ j = 22 ∨ j = 23 ∨ j = 24 ∨ j = 25 ∨ j = 26 := by omega
      rcases hcs with rfl | rfl | rfl | rfl | rfl | rfl | rfl | rfl | rfl | rfl | rfl | rfl | rfl | rfl | rfl | rfl | rfl | rfl | rfl | rfl | rfl | rfl | rfl | rfl | rfl | rfl | rfl
      · exact lv_tableIn (tgt := 156) (off := 124) hx hb fd_law_sw (by decide) (by decide) (by decide) (by decide) (fd_lc_0 C0 hKn hbs o0 hR hl hH hS hi4 hL ⟨by decide, by decide⟩ kk)
      · exact lv_tableIn (tgt := 179) (off := 147) hx hb fd_law_sw (by decide) (by decide) (by decide) (by decide) (fd_lc_1 C0 hKn hbs o1 hR hl hH hS hi4 hL ⟨by decide, by decide⟩ kk)
      · exact lv_tableIn (tgt := 192) (off := 160) hx hb fd_law_sw (by decide) (by decide) (by decide) (by decide) (fd_lc_2 C0 hKn hbs o2 hR hl hH hS hi4 hL ⟨by decide, by decide⟩ kk)
      · exact lv_tableIn (tgt := 205) (off := 173) hx hb fd_law_sw (by decide) (by decide) (by decide) (by decide) (fd_lc_3 C0 hKn hbs o3 hR hl hH hS hi4 hL ⟨by decide, by decide⟩ kk)
      · exact lv_tableIn (tgt := 238) (off := 206) hx hb fd_law_sw (by decide) (by decide) (by decide) (by decide) (fd_lc_4 C0 hKn hbs o4 hR hl hH hS hi4 hL ⟨by decide, by decide⟩ kk)
      · exact lv_tableIn (tgt := 271) (off := 239) hx hb fd_law_sw (by decide) (by decide) (by decide) (by decide) (fd_lc_5 C0 hKn hbs o5 hR hl hH hS hi4 hL ⟨by decide, by decide⟩ kk)
      · exact lv_tableIn (tgt := 304) (off := 272) hx hb fd_law_sw (by decide) (by decide) (by decide) (by decide) (fd_lc_6 C0 hKn hbs o6 hR hl hH hS hi4 hL ⟨by decide, by decide⟩ kk)
      · exact lv_tableIn (tgt := 337) (off := 305) hx hb fd_law_sw (by decide) (by decide) (by decide) (by decide) (fd_lc_7 C0 hKn hbs o7 hR hl hH hS hi4 hL ⟨by decide, by decide⟩ kk)
      · exact lv_tableIn (tgt := 370) (off := 338) hx hb fd_law_sw (by decide) (by decide) (by decide) (by decide) (fd_lc_8 C0 hKn hbs o8 hR hl hH hS hi4 hL ⟨by decide, by decide⟩ kk)
      · exact lv_tableIn (tgt := 413) (off := 381) hx hb fd_law_sw (by decide) (by decide) (by decide) (by decide) (fd_lc_9 C0 hKn hbs o9 hR hl hH hS hi4 hL ⟨by decide, by decide⟩ kk)
      · exact lv_tableIn (tgt := 436) (off := 404) hx hb fd_law_sw (by decide) (by decide) (by decide) (by decide) (fd_lc_10 C0 hKn hbs o10 hR hl hH hS hi4 hL ⟨by decide, by decide⟩ kk)
      · exact lv_tableIn (tgt := 459) (off := 427) hx hb fd_law_sw (by decide) (by decide) (by decide) (by decide) (fd_lc_11 C0 hKn hbs o11 hR hl hH hS hi4 hL ⟨by decide, by decide⟩ kk)
      · exact lv_tableIn (tgt := 472) (off := 440) hx hb fd_law_sw (by decide) (by decide) (by decide) (by decide) (fd_lc_12 C0 hKn hbs o12 hR hl hH hS hi4 hL ⟨by decide, by decide⟩ kk)
      · exact lv_tableIn (tgt := 485) (off := 453) hx hb fd_law_sw (by decide) (by decide) (by decide) (by decide) (fd_lc_13 C0 hKn hbs o13 hR hl hH hS hi4 hL ⟨by decide, by decide⟩ kk)
      · exact lv_tableIn (tgt := 508) (off := 476) hx hb fd_law_sw (by decide) (by decide) (by decide) (by decide) (fd_lc_14 C0 hKn hbs o14 hR hl hH hS hi4 hL ⟨by decide, by decide⟩ kk)
      · exact lv_tableIn (tgt := 531) (off := 499) hx hb fd_law_sw (by decide) (by decide) (by decide) (by decide) (fd_lc_15 C0 hKn hbs o15 hR hl hH hS hi4 hL ⟨by decide, by decide⟩ kk)
      · exact lv_tableIn (tgt := 544) (off := 512) hx hb fd_law_sw (by decide) (by decide) (by decide) (by decide) (fd_lc_16 C0 hKn hbs o16 hR hl hH hS hi4 hL ⟨by decide, by decide⟩ kk)
      · exact lv_tableIn (tgt := 567) (off := 535) hx hb fd_law_sw (by decide) (by decide) (by decide) (by decide) (fd_lc_17 C0 hKn hbs o17 hR hl hH hS hi4 hL ⟨by decide, by decide⟩ kk)
      · exact lv_tableIn (tgt := 600) (off := 568) hx hb fd_law_sw (by decide) (by decide) (by decide) (by decide) (fd_lc_18 C0 hKn hbs o18 hR hl hH hS hi4 hL ⟨by decide, by decide⟩ kk)
      · exact lv_tableIn (tgt := 613) (off := 581) hx hb fd_law_sw (by decide) (by decide) (by decide) (by decide) (fd_lc_19 C0 hKn hbs o19 hR hl hH hS hi4 hL ⟨by decide, by decide⟩ kk)
      · exact lv_tableIn (tgt := 636) (off := 604) hx hb fd_law_sw (by decide) (by decide) (by decide) (by decide) (fd_lc_20 C0 hKn hbs o20 hR hl hH hS hi4 hL ⟨by decide, by decide⟩ kk)
      · exact lv_tableIn (tgt := 679) (off := 647) hx hb fd_law_sw (by decide) (by decide) (by decide) (by decide) (fd_lc_21 C0 hKn hbs o21 hR hl hH hS hi4 hL ⟨by decide, by decide⟩ kk)
      · exact lv_tableIn (tgt := 712) (off := 680) hx hb fd_law_sw (by decide) (by decide) (by decide) (by decide) (fd_lc_22 C0 hKn hbs o22 hR hl hH hS hi4 hL ⟨by decide, by decide⟩ kk)
      · exact lv_tableIn (tgt := 745) (off := 713) hx hb fd_law_sw (by decide) (by decide) (by decide) (by decide) (fd_lc_23 C0 hKn hbs o23 hR hl hH hS hi4 hL ⟨by decide, by decide⟩ kk)
      · exact lv_tableIn (tgt := 768) (off := 736) hx hb fd_law_sw (by decide) (by decide) (by decide) (by decide) (fd_lc_24 C0 hKn hbs o24 hR hl hH hS hi4 hL ⟨by decide, by decide⟩ kk)
      · exact lv_tableIn (tgt := 791) (off := 759) hx hb fd_law_sw (by decide) (by decide) (by decide) (by decide) (fd_lc_25 C0 hKn hbs o25 hR hl hH hS hi4 hL ⟨by decide, by decide⟩ kk)
      · exact lv_tableIn (tgt := 814) (off := 782) hx hb fd_law_sw (by decide) (by decide) (by decide) (by decide) (fd_lc_26 C0 hKn hbs o26 hR hl hH hS hi4 hL ⟨by decide, by decide⟩ kk)
    · exact lv_tableOut (tgt := 828) hx hb fd_law_sw (by rw [ejt]; omega) (by decide) (kk M H locs hR hH hS)
end fdLoop

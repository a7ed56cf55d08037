theorem fd_arith (K d : Nat) (h : K ≤ 20) : 8 + (K + 11) + (60 * d + 300) ≤ 60 * (d + 1) + 300 := by omega
section fdK5
variable {g : fd_G} {ph : Bool} {p : Program} {l : Launch} {e : Env} {R : Room} {s : State} {m : MethodId} {args : Array Value} {below : List Frame} {meth : Method} {c : Code} {mm a0 i pc : Nat} {Q : State → Prop} {as : List Int} {L st : List fd_V} {M M1 : fd_M} {H : Heap} {locs : List Loc} {la : Array Slot} {d op : Nat} {r1 : Option fd_V}
theorem fd_cwsum (g : fd_G) (r : List fd_V) : ((r.map (fd_cv g)).map fun v => v.category).sum = (r.map fd_cw).sum := by
  rw [List.map_map]
  congr 1
  apply List.map_congr_left
  intro v _
  exact fd_cat g v
/-- the call itself: from the callee's contract, by the way it is called -/
theorem fd_callR (cx : fd_cx g p R s m args meth c mm) (hok : fd_okI (fd_y mm).cls (fd_b mm) (fd_ini mm) (fd_pcs mm) pc ((fd_pcs mm).getD (i + 1) 0) op as = true) (hop : 120 ≤ op) (hinv : fd_inv ph op (fd_n as 0) (fd_n as 1) st M = true)
    (hM : Met l (fd_y (fd_n as 0)) (fd_wsm (fd_n as 0)) (fd_rm d (fd_ap M1 - fd_ap M) (fd_sl (fd_ap M1) - fd_sl (fd_ap M))) (fd_Pc g ph (st.take (fd_n as 1)).reverse M) (fd_Qc g ph r1 M1) (fd_ap M1 - fd_ap M) (fd_sl (fd_ap M1) - fd_sl (fd_ap M)) (fd_A g))
    (hF : d + 6 ≤ R.frames) (hLo : 60 * (d + 1) + 300 ≤ R.locals) (hrc : fd_ap M - a0 + (fd_ap M1 - fd_ap M) ≤ R.cells) (hrs : fd_sl (fd_ap M) - fd_sl a0 + (fd_sl (fd_ap M1) - fd_sl (fd_ap M)) ≤ R.slots)
    (hH : fd_hp g ph M H) (hS : va_S (fd_A g) s.heap H locs) (hl : fd_lr g la (fd_mL mm) L) :
    (fd_pcs mm)[i + 1]? = some (pc + 3) ∧ va_Run p l e R s m args below meth c H locs (fd_ap M - a0) (fd_sl (fd_ap M) - fd_sl a0) (fd_ap M1 - fd_ap M) (fd_sl (fd_ap M1) - fd_sl (fd_ap M)) (F0 m pc la (st.map (fd_cv g))) ((st.drop (fd_n as 1)).map (fd_cv g)) (fd_Qc g ph r1 M1 ((st.take (fd_n as 1)).reverse.map (fd_cv g)).toArray) (fd_A g) := by
  obtain ⟨hx, hb, hml, hr, hown, hts, hlk, hini, hKn, hbs, h177, hfr, hlo⟩ := cx
  have hmid := fd_mid_lt hok hop
  obtain ⟨⟨hcode, hinit⟩, hsk0, hsk1, hsk2, ⟨hy1, hy2, -, -⟩, hmL⟩ := fd_okM_inv hmid
  unfold fd_inv at hinv
  rw [Bool.and_eq_true, Bool.and_eq_true, Bool.and_eq_true] at hinv
  obtain ⟨⟨hnp, hall, hsum⟩, hrecv⟩ := hinv
  have hnp : fd_n as 1 ≤ st.length := by simpa using hnp
  have hsum : ((st.drop (fd_n as 1)).map fd_cw).sum ≤ 8 := by simpa using hsum
  have hroom : (((st.drop (fd_n as 1)).map (fd_cv g)).map fun v => v.category).sum ≤ 8 := by rw [fd_cwsum]; exact hsum
  have hst : st.map (fd_cv g) = ((st.take (fd_n as 1)).reverse.map (fd_cv g)).reverse ++ (st.drop (fd_n as 1)).map (fd_cv g) := by
    rw [List.map_reverse, List.reverse_reverse, ← List.map_append, List.take_append_drop]
  have hlen : (st.take (fd_n as 1)).reverse.length = fd_n as 1 := by
    rw [List.length_reverse, List.length_take]; omega
  have hpre : ∀ U : State, U.heap = H → s.WarmedH U.vm → fd_Pc g ph (st.take (fd_n as 1)).reverse M ((st.take (fd_n as 1)).reverse.map (fd_cv g)).toArray U := fun U hU hW =>
    ⟨rfl, by rw [hU]; exact hH, fd_Kn_moved hW (fun q h1 h2 => by rw [hU]; exact hS.2.1 q h1 h2) hKn, by rw [hU]; exact Nat.le_trans hbs hS.1⟩
  have hG := fd_goodIn hcode
  have hRR : (fd_rm d (fd_ap M1 - fd_ap M) (fd_sl (fd_ap M1) - fd_sl (fd_ap M))).frames + 1 ≤ R.frames ∧ 8 + (fd_mL (fd_n as 0) + 11) + (fd_rm d (fd_ap M1 - fd_ap M) (fd_sl (fd_ap M1) - fd_sl (fd_ap M))).locals ≤ R.locals := by
    constructor
    · show d + 5 + 1 ≤ _
      omega
    · exact Nat.le_trans (fd_arith _ d hmL) hLo
  generalize hargs : (st.take (fd_n as 1)).reverse = AL at *
  have hn1 : ∀ v ∈ AL, fd_n1 v = true := by
    intro v hv
    rw [← hargs] at hv
    exact List.all_eq_true.mp hall v (List.mem_reverse.mp hv)
  rcases fd_op_call hok hop with rfl | rfl | rfl
  · rw [fd_okI, Bool.and_eq_true, Bool.and_eq_true, Bool.and_eq_true] at hok
    obtain ⟨hd, hnx⟩ := fd_dc_inv hok.1
    obtain ⟨-, hmc, hcls, hpar, h1np, -⟩ := of_decide_eq_true hok.2.1
    have hsk := of_decide_eq_true hok.2.2.1
    have hlk2 := hok.2.2.2
    refine ⟨fd_nxt hnx (by decide), ?_⟩
    rcases AL with _ | ⟨⟨a⟩ | ⟨a⟩ | ⟨a⟩, tl⟩
    · cases hrecv
    · cases hrecv
    · cases hrecv
    dsimp only at hrecv
    obtain ⟨hsh, hal⟩ := fd_isO_inv hrecv
    obtain ⟨hlt, h213⟩ := fd_lt_ap hH hal (by omega)
    have hce := fd_ws_get (g := g) (ph := ph) (M := M) hlt
    rw [fd_ce_obj hsh (by omega)] at hce
    have hcell := va_recv hKn.1 hH.2.2.2.2 (fd_clD_get hmc) hce
    rw [hcls] at hcell
    have hst2 : st.map (fd_cv g) = (tl.map (fd_cv g)).reverse ++ .ref (g.1 + a) :: (st.drop (fd_n as 1)).map (fd_cv g) := by
      rw [hst]
      simp only [List.map_cons, List.reverse_cons, List.append_assoc, List.singleton_append]
      rw [show fd_cv g (Sum.inr (Sum.inr a)) = .ref (g.1 + a) from fd_rv_lt (by omega)]
    have hargv : (List.map (fd_cv g) (Sum.inr (Sum.inr a) :: tl)) = .ref (g.1 + a) :: tl.map (fd_cv g) := by
      rw [List.map_cons, show fd_cv g (Sum.inr (Sum.inr a)) = .ref (g.1 + a) from fd_rv_lt (by omega)]
    rw [hargv] at hpre ⊢
    have hlen2 : (tl.map (fd_cv g)).length = fd_n as 1 - 1 := by
      rw [List.length_map]
      simp only [List.length_cons] at hlen
      omega
    split at hlk2
    · exact va_runV ⟨hx, hb, hml, hown, hts⟩ hM ⟨callB_of (fd_n as 1 - 1) hts hG rfl rfl rfl (hts _ hinit) (hts _ (fd_wd_mem hlk2)) ⟨hy1, hy2, hpar⟩ hRR, hts _ (hsk1 hsk).1, hts _ (hsk1 hsk).2⟩ ⟨fd_Pc_blind, hcell, hpre⟩ rfl hlen2 hl.2.2.1 hst2 (lv_room hroom) hd ⟨hrc, hrs⟩
    · exact va_runVN ⟨hx, hb, hml, hown, hts⟩ hM ⟨va_cnB (fd_n as 1 - 1) hts hG rfl rfl rfl (va_Nw.of rfl (hts _ (fd_wd_mem hlk2))) (hts _ hinit) ⟨hy1, hy2, hpar⟩ hRR, hts _ (hsk1 hsk).1, hts _ (hsk1 hsk).2⟩ ⟨fd_Pc_blind, hcell, hpre⟩ rfl hlen2 hl.2.2.1 hst2 (lv_room hroom) hd ⟨hrc, hrs⟩
  · rw [fd_okI, Bool.and_eq_true, Bool.and_eq_true, Bool.and_eq_true] at hok
    obtain ⟨hd, hnx⟩ := fd_dc_inv hok.1
    obtain ⟨-, hpar, -⟩ := of_decide_eq_true hok.2.1
    have hsk := of_decide_eq_true hok.2.2.1
    have hlk2 := hok.2.2.2
    refine ⟨fd_nxt hnx (by decide), ?_⟩
    have hlen2 : (AL.map (fd_cv g)).length = fd_n as 1 := by rw [List.length_map]; exact hlen
    split at hlk2
    · exact va_runS ⟨hx, hb, hml, hown, hts⟩ hM ⟨callB_of (fd_n as 1) hts hG rfl rfl rfl (hts _ hinit) (hts _ (fd_wd_mem hlk2)) ⟨hy1, hy2, hpar⟩ hRR, hts _ (hsk0 hsk)⟩ ⟨fd_Pc_blind, hpre⟩ rfl hlen2 hl.2.2.1 hst (lv_room hroom) hd ⟨hrc, hrs⟩
    · exact va_runSN ⟨hx, hb, hml, hown, hts⟩ hM ⟨va_cnB (fd_n as 1) hts hG rfl rfl rfl (va_Nw.of rfl (hts _ (fd_wd_mem hlk2))) (hts _ hinit) ⟨hy1, hy2, hpar⟩ hRR, hts _ (hsk0 hsk), trivial⟩ ⟨fd_Pc_blind, hpre⟩ rfl hlen2 hl.2.2.1 hst (lv_room hroom) hd ⟨hrc, hrs⟩
  · rw [fd_okI, Bool.and_eq_true, Bool.and_eq_true, Bool.and_eq_true] at hok
    obtain ⟨hd, hnx⟩ := fd_dc_inv hok.1
    obtain ⟨-, hpar, h1np, -, hnm, hret⟩ := of_decide_eq_true hok.2.1
    have hsk := of_decide_eq_true hok.2.2.1
    have hlk2 := hok.2.2.2
    refine ⟨fd_nxt hnx (by decide), ?_⟩
    rcases AL with _ | ⟨⟨a⟩ | ⟨a⟩ | ⟨a⟩, tl⟩
    · cases hrecv
    · cases hrecv
    · cases hrecv
    have ha3 : a < 1000 := by
      have h9 : Nat.blt a 1000 = true := hn1 (Sum.inr (Sum.inr a)) List.mem_cons_self
      simpa using h9
    have hst2 : st.map (fd_cv g) = (tl.map (fd_cv g)).reverse ++ .ref (g.1 + a) :: (st.drop (fd_n as 1)).map (fd_cv g) := by
      rw [hst]
      simp only [List.map_cons, List.reverse_cons, List.append_assoc, List.singleton_append]
      rw [show fd_cv g (Sum.inr (Sum.inr a)) = .ref (g.1 + a) from fd_rv_lt ha3]
    have hargv : (List.map (fd_cv g) (Sum.inr (Sum.inr a) :: tl)) = .ref (g.1 + a) :: tl.map (fd_cv g) := by
      rw [List.map_cons, show fd_cv g (Sum.inr (Sum.inr a)) = .ref (g.1 + a) from fd_rv_lt ha3]
    rw [hargv] at hpre ⊢
    have hlen2 : (tl.map (fd_cv g)).length = fd_n as 1 - 1 := by
      rw [List.length_map]
      simp only [List.length_cons] at hlen
      omega
    rw [hret] at hG
    have hM2 := hM
    unfold fd_wsm at hM2
    rw [hret] at hM2
    split at hlk2
    · exact va_runI ⟨hx, hb, hml, hown, hts⟩ hM2 ⟨callB_of (fd_n as 1 - 1) hts hG rfl rfl rfl (hts _ hinit) (hts _ (fd_wd_mem hlk2)) ⟨hy1, hy2, hpar⟩ hRR, hnm, hts _ (hsk2 hsk)⟩ ⟨fd_Pc_blind, hpre⟩ rfl hlen2 hl.2.2.1 hst2 (lv_room hroom) hd ⟨hrc, hrs⟩
    · exact va_runIN ⟨hx, hb, hml, hown, hts⟩ hM2 ⟨va_cnB (fd_n as 1 - 1) hts hG rfl rfl rfl (va_Nw.of rfl (hts _ (fd_wd_mem hlk2))) (hts _ hinit) ⟨hy1, hy2, hpar⟩ hRR, hnm, hts _ (hsk2 hsk)⟩ ⟨fd_Pc_blind, hpre⟩ rfl hlen2 hl.2.2.1 hst2 (lv_room hroom) hd ⟨hrc, hrs⟩
theorem fd_callW (cx : fd_cx g p R s m args meth c mm) (hok : fd_okI (fd_y mm).cls (fd_b mm) (fd_ini mm) (fd_pcs mm) pc ((fd_pcs mm).getD (i + 1) 0) op as = true) (hop : 120 ≤ op) (hinv : fd_inv ph op (fd_n as 0) (fd_n as 1) st M = true)
    (hM : Met l (fd_y (fd_n as 0)) (fd_wsm (fd_n as 0)) (fd_rm d (fd_ap M1 - fd_ap M) (fd_sl (fd_ap M1) - fd_sl (fd_ap M))) (fd_Pc g ph (st.take (fd_n as 1)).reverse M) (fd_Qc g ph r1 M1) (fd_ap M1 - fd_ap M) (fd_sl (fd_ap M1) - fd_sl (fd_ap M)) (fd_A g))
    (hF : d + 6 ≤ R.frames) (hLo : 60 * (d + 1) + 300 ≤ R.locals) (ha0 : a0 ≤ fd_ap M) (hmn : fd_ap M ≤ fd_ap M1) (hrc : fd_ap M1 - a0 ≤ R.cells) (hrs : fd_sl (fd_ap M1) - fd_sl a0 ≤ R.slots)
    (kk : fd_Go g ph p l e R s m args below meth c mm a0 Q (i + 1) L (r1.toList ++ st.drop (fd_n as 1)) M1)
    (hH : fd_hp g ph M H) (hS : va_S (fd_A g) s.heap H locs) (hl : fd_lr g la (fd_mL mm) L) : W p l e R s m args below meth c H locs (fd_ap M - a0) (fd_sl (fd_ap M) - fd_sl a0) Q (F0 m pc la (st.map (fd_cv g))) := by
  have s1 := fd_sl_mono ha0
  have s2 := fd_sl_mono hmn
  have ec : fd_ap M - a0 + (fd_ap M1 - fd_ap M) = fd_ap M1 - a0 := Nat.add_comm .. ▸ Nat.sub_add_sub_cancel hmn ha0
  have es : fd_sl (fd_ap M) - fd_sl a0 + (fd_sl (fd_ap M1) - fd_sl (fd_ap M)) = fd_sl (fd_ap M1) - fd_sl a0 := Nat.add_comm .. ▸ Nat.sub_add_sub_cancel s2 s1
  obtain ⟨hpc, hrun⟩ := fd_callR (a0 := a0) (e := e) (below := below) cx hok hop hinv hM hF hLo (by rw [ec]; exact hrc) (by rw [es]; exact hrs) hH hS hl
  rcases r1 with _ | ⟨a⟩ | ⟨a⟩ | ⟨a⟩
  · refine va_callv (a := ((st.take (fd_n as 1)).reverse.map (fd_cv g)).toArray) hrun hS (fun q _ h => h) (fun q h => h) (fun u t H1 l1 ht hvm hp hB hz hk1 hS1 => ?_)
    have k1 := kk (pc + 3) H1 l1 la hpc (by rw [← ht]; exact hB) hS1 hl
    rw [ec, es]
    exact k1
  · refine va_calli (a := ((st.take (fd_n as 1)).reverse.map (fd_cv g)).toArray) hrun hS (fun q _ h => h) (fun q h => h) (fun r u t H1 l1 ht hvm hp hB hz hk1 hS1 => ?_)
    have k1 := kk (pc + 3) H1 l1 la hpc (by rw [← ht]; exact hB) hS1 hl
    rw [ec, es]
    subst hp
    exact k1
  · refine va_calll (a := ((st.take (fd_n as 1)).reverse.map (fd_cv g)).toArray) hrun hS (fun q _ h => h) (fun q h => h) (fun r u t H1 l1 ht hvm hp hB hz hk1 hS1 => ?_)
    have k1 := kk (pc + 3) H1 l1 la hpc (by rw [← ht]; exact hB) hS1 hl
    rw [ec, es]
    subst hp
    exact k1
  · intro T hT X
    obtain ⟨v, st0, t, T', L', -, -, -, -, -, hf, -⟩ := hrun T hT X
    exact hf.elim
theorem fd_retW {r : Option fd_V} (cx : fd_cx g p R s m args meth c mm) (hok : fd_okI (fd_y mm).cls (fd_b mm) (fd_ini mm) (fd_pcs mm) pc ((fd_pcs mm).getD (i + 1) 0) op as = true) (hn : fd_ret (fd_rk mm) op st = some (true, r)) (hH : fd_hp g ph M H) (hS : va_S (fd_A g) s.heap H locs) :
    W p l e R s m args below meth c H locs (fd_ap M - a0) (fd_sl (fd_ap M) - fd_sl a0) (MQ below (fd_Qc g ph r M) args s (fd_ap M - a0) (fd_sl (fd_ap M) - fd_sl a0) (fd_A g)) (F0 m pc la (st.map (fd_cv g))) := by
  obtain ⟨hx, hb, hml, hr, hown, hts, hlk, hini, hKn, hbs, h177, hfr, hlo⟩ := cx
  obtain ⟨-, -, -, -, ⟨-, -, -, hrt⟩, -⟩ := fd_okM_inv h177
  rw [hrt] at hr
  unfold fd_ret at hn
  split at hn
  · rename_i a
    injection hn with hn
    injection hn with h1 h2
    subst h2
    have hd : decode (fd_b mm) pc = .ok (.ireturn, 1) := of_decide_eq_true hok
    rw [Bool.or_eq_true, Bool.and_eq_true, fd_inb_iff] at h1
    rcases h1 with h1 | ⟨h1, h3⟩
    · rw [Nat.eq_of_beq_eq_true h1] at hr
      exact W.iret hx hb hr (fun t ht hW => ⟨⟨Int32.ofInt a, (), rfl, rfl, by show fd_hp g ph M t.heap; rw [ht]; exact hH⟩, hS.F ht⟩) hS.2.2 hd hlk
    · rw [Nat.eq_of_beq_eq_true h1] at hr
      exact W.zret hx hb hr (fd_bool h3).1 (fun t ht hW => ⟨⟨Int32.ofInt a, (), rfl, rfl, by show fd_hp g ph M t.heap; rw [ht]; exact hH⟩, hS.F ht⟩) hS.2.2 hd hlk
  · rename_i a
    injection hn with hn
    injection hn with h1 h2
    subst h2
    have hd : decode (fd_b mm) pc = .ok (.lreturn, 1) := of_decide_eq_true hok
    rw [Nat.eq_of_beq_eq_true h1] at hr
    exact W.lret hx hb hr (fun t ht hW => ⟨⟨Int64.ofInt a, (), rfl, rfl, by show fd_hp g ph M t.heap; rw [ht]; exact hH⟩, hS.F ht⟩) hS.2.2 hd hlk
  · injection hn with hn
    injection hn with h1 h2
    subst h2
    have hd : decode (fd_b mm) pc = .ok (.return_, 1) := of_decide_eq_true hok
    rw [Nat.eq_of_beq_eq_true h1] at hr
    exact W.vret hx hb hr (fun t ht hW => ⟨⟨(), rfl, trivial, by show fd_hp g ph M t.heap; rw [ht]; exact hH⟩, hS.F ht⟩) hS.2.2 hd hlk
  · cases hn
end fdK5
/-- every run of the small machine is one of the machine -/
theorem fd_main {g : fd_G} {ph : Bool} {l : Launch} : ∀ (f d mm i : Nat) (L st : List fd_V) (M : fd_M) (r : Option fd_V) (M' : fd_M), fd_ex ph f d mm i L st M = some (r, M') →
    ∀ (p : Program) (e : Env) (s : State) (m : MethodId) (args : Array Value) (below : List Frame) (meth : Method) (c : Code) (a0 : Nat), fd_cx g p (fd_rm d (fd_ap M' - a0) (fd_sl (fd_ap M') - fd_sl a0)) s m args meth c mm → a0 ≤ fd_ap M →
    fd_Go g ph p l e (fd_rm d (fd_ap M' - a0) (fd_sl (fd_ap M') - fd_sl a0)) s m args below meth c mm a0 (MQ below (fd_Qc g ph r M') args s (fd_ap M' - a0) (fd_sl (fd_ap M') - fd_sl a0) (fd_A g)) i L st M
  | 0, _, _, _, _, _, _, _, _, h => by rw [fd_ex] at h; cases h
  | f + 1, d, mm, i, L, st, M, r, M', h => by
    intro p e s m args below meth c a0 cx ha0 pc H locs la hpc hH hS hl
    have h177 : mm < 177 := cx.2.2.2.2.2.2.2.2.2.2.1
    obtain ⟨op, as, hi, h⟩ := fd_ex_succ h
    obtain ⟨pc', hpc', hok⟩ := fd_ok_at h177 hi
    cases hpc.symm.trans hpc'
    rcases h with ⟨h1, L1, st1, M1, h2, h3⟩ | ⟨h1, h2, j, st1, h3, h4⟩ | ⟨h1, h2, h3, r1, h4, h5⟩ | ⟨h1, d', rfl, h2, r1, M1, h3, h4⟩
    · have m0 := fd_nx_mono hok h2
      have m1 := fd_mono f _ _ _ _ _ _ _ _ h177 h3
      exact fd_step cx hok h2 (fd_main f d mm (i + 1) L1 st1 M1 r M' h3 p e s m args below meth c a0 cx (Nat.le_trans ha0 m0)) hH hS hl (Nat.sub_le_sub_right m1 a0) (Nat.sub_le_sub_right (fd_sl_mono m1) _) ha0
    · exact fd_jump cx hok h3 (fd_main f d mm j L st1 M r M' h4 p e s m args below meth c a0 cx ha0) hH hS hl
    · cases h5
      exact fd_retW cx hok h4 hH hS
    · have hmid := fd_mid_lt hok h1
      have m0 := fd_mono f _ _ _ _ _ _ _ _ hmid h3
      have m1 := fd_mono f _ _ _ _ _ _ _ _ h177 h4
      have hnp : (st.take (fd_n as 1)).reverse.length ≤ fd_mL (fd_n as 0) ∧ ∀ v ∈ (st.take (fd_n as 1)).reverse, fd_n1 v = true := by
        have q := h2
        unfold fd_inv at q
        rw [Bool.and_eq_true, Bool.and_eq_true, Bool.and_eq_true] at q
        refine ⟨?_, fun v hv => List.all_eq_true.mp q.1.2.1 v (List.mem_reverse.mp hv)⟩
        rw [List.length_reverse, List.length_take]
        refine Nat.le_trans (Nat.min_le_left _ _) ?_
        rcases fd_op_call hok h1 with rfl | rfl | rfl
        all_goals
          rw [fd_okI, Bool.and_eq_true, Bool.and_eq_true] at hok
          have z := of_decide_eq_true hok.2.1
        · exact z.2.2.2.2.2
        · exact z.2.2
        · exact z.2.2.2.1
      have hM := fd_met_of (g := g) (ph := ph) (l := l) (d := d') (mc := fd_ap M1 - fd_ap M) (ms := fd_sl (fd_ap M1) - fd_sl (fd_ap M)) (M := M) (M' := M1) (r := r1) hmid hnp.1 hnp.2 (fun p e s m args below meth c cx => fd_main f d' (fd_n as 0) 0 _ [] M r1 M1 h3 p e s m args below meth c (fd_ap M) cx (Nat.le_refl _))
      exact fd_callW cx hok h1 h2 hM (Nat.le_refl _) (Nat.le_refl _) ha0 m0 (Nat.sub_le_sub_right m1 a0) (Nat.sub_le_sub_right (fd_sl_mono m1) _) (fd_main f (d' + 1) mm (i + 1) L _ M1 r M' h4 p e s m args below meth c a0 cx (Nat.le_trans ha0 m0)) hH hS hl
/-- THE CONTRACT of a method out of its run -/
theorem fd_met {g : fd_G} {ph : Bool} {l : Launch} {f d mm : Nat} {as : List fd_V} {M M' : fd_M} {r : Option fd_V} (h177 : mm < 177) (hlen : as.length ≤ fd_mL mm) (hn1 : ∀ v ∈ as, fd_n1 v = true) (h : fd_ex ph f d mm 0 (fd_pad mm as) [] M = some (r, M')) :
    Met l (fd_y mm) (fd_wsm mm) (fd_rm d (fd_ap M' - fd_ap M) (fd_sl (fd_ap M') - fd_sl (fd_ap M))) (fd_Pc g ph as M) (fd_Qc g ph r M') (fd_ap M' - fd_ap M) (fd_sl (fd_ap M') - fd_sl (fd_ap M)) (fd_A g) :=
  fd_met_of h177 hlen hn1 (fun p e s m args below meth c cx => fd_main f d mm 0 _ [] M r M' h p e s m args below meth c (fd_ap M) cx (Nat.le_refl _))

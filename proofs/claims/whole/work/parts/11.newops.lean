theorem fd_sl_mono {a b : Nat} (h : a ≤ b) : fd_sl a ≤ fd_sl b := by
  induction b with
  | zero => rw [Nat.le_zero.mp h]; exact Nat.le_refl _
  | succ b ih =>
    rcases Nat.lt_or_ge a (b + 1) with q | q
    · rw [fd_sl_succ]
      exact Nat.le_trans (ih (by omega)) (by omega)
    · rw [show a = b + 1 by omega]
      exact Nat.le_refl _
theorem fd_nw_old {M : fd_M} {f : Nat → Int} {c : Nat} (h : c ≠ fd_ap M) (h2 : c ≠ 5000) : fd_nw M f c = M c := by
  funext k
  simp [fd_nw, h, h2]
theorem fd_nw_new {M : fd_M} {f : Nat → Int} {k : Nat} : fd_nw M f (fd_ap M) k = f k := by simp [fd_nw]
theorem fd_nw_ap {M : fd_M} {f : Nat → Int} (h : fd_ap M < 213) (h0 : 0 ≤ M 5000 0) : fd_nw M f 5000 0 = M 5000 0 + 1 ∧ fd_ap (fd_nw M f) = fd_ap M + 1 := by
  have e : fd_nw M f 5000 0 = M 5000 0 + 1 := by
    have h1 : ¬ (5000 = (M 5000 0).toNat) := by
      intro q
      have : fd_ap M = 5000 := q.symm
      omega
    simp [fd_nw, h1]
  refine ⟨e, ?_⟩
  show Int.toNat (fd_nw M f 5000 0) = (M 5000 0).toNat + 1
  rw [e]
  omega
/-- the memory behind a making -/
theorem fd_hp_nw {g : fd_G} {M : fd_M} {f : Nat → Int} {H H1 : Heap} (hH : fd_hp g false M H) (hap : fd_ap M < 213) (z : H1.size = g.1 + fd_ap M + 1) (o1 : ∀ q, q < g.1 + fd_ap M → H1[q]? = H[q]?) (hnew : va_at g.2.2.2.1 fd_cl (g.1 + fd_ap M, fd_ce g false (fd_nw M f) (fd_ap M)) H1) : fd_hp g false (fd_nw M f) H1 := by
  obtain ⟨e1, e2⟩ := fd_nw_ap (f := f) hap hH.2.2.1
  refine ⟨fun _ => by rw [e2, z]; omega, by rw [e2]; exact hap, by rw [e1]; have := hH.2.2.1; omega, fun h => (by cases h), ?_⟩
  intro k q hq
  rw [e2] at hq
  have hk : k < fd_ap M + 1 := by
    have := (List.getElem?_eq_some_iff.mp hq).1
    simpa [fd_ws] using this
  rw [fd_ws_get hk] at hq
  cases hq
  rcases Nat.lt_or_ge k (fd_ap M) with h | h
  · rw [fd_ce_congr (fd_nw_old (by omega) (by omega))]
    exact (hH.2.2.2.2 k _ (fd_ws_get h)).kept (o1 _ (by show g.1 + k < _; omega))
  · rw [show k = fd_ap M by omega]
    exact hnew
theorem fd_hp_set {g : fd_G} {ph : Bool} {M M' : fd_M} {H H1 : Heap} {c : Nat} (hH : fd_hp g ph M H) (hc : c < fd_ap M) (ho : ∀ c', c' ≠ c → M' c' = M c') (hz : ph = false → H1.size = H.size) (x : Nat × va_E) (hx : x = (g.1 + c, fd_ce g ph M' c)) (hP : va_P g.2.2.2.1 fd_cl ((fd_ws g ph M (fd_ap M)).set c x) H1) : fd_hp g ph M' H1 := by
  have h213 : c < 213 := Nat.lt_of_lt_of_le hc hH.2.1
  have e0 : M' 5000 0 = M 5000 0 := by rw [ho 5000 (by omega)]
  have e : fd_ap M' = fd_ap M := by show Int.toNat _ = _; rw [e0]
  refine ⟨fun h => by rw [hz h, e]; exact hH.1 h, by rw [e]; exact hH.2.1, by rw [e0]; exact hH.2.2.1, fun h => by rw [e]; exact hH.2.2.2.1 h, ?_⟩
  rw [e, ← fd_ws_set (M := M) (c := c) hx (fun c' _ h => ho c' h)]
  exact hP
theorem fd_sum_le (g : fd_G) (r : List fd_V) : ((r.map (fd_cv g)).map fun v => v.category).sum ≤ 2 * r.length := by
  induction r with
  | nil => simp
  | cons a r ih =>
    have : (fd_cv g a).category ≤ 2 := by
      rw [fd_cat]
      unfold fd_cw
      split <;> omega
    simp only [List.map_cons, List.sum_cons, List.length_cons]
    omega
def fd_okX : Bool := decide (Jvm.Cond.arrayClass .int ∈ lw_tbl ∧ Jvm.Cond.arrayClass .byte ∈ lw_tbl ∧ Jvm.Cond.arrayClass .boolean ∈ lw_tbl ∧ Jvm.Cond.arrayOver (.object "FacingDoors$Scene") ∈ lw_tbl ∧ Jvm.Cond.arrayOver (.object "FacingDoors$Image") ∈ lw_tbl ∧ Jvm.Cond.native arraycopyName ∈ lw_tbl ∧ Jvm.Cond.static arraycopyName ∈ lw_tbl ∧ Jvm.Cond.initialized "java/lang/System" ∈ lw_tbl ∧ Jvm.Cond.instanceMethod objectInit ∈ lw_tbl ∧ Jvm.Cond.code objectInit ⟨#[0xb1]⟩ 1 none ∈ lw_tbl ∧ Jvm.Cond.static Lib.Math.min.name ∈ lw_tbl ∧ Jvm.Cond.initialized "java/lang/Math" ∈ lw_tbl ∧ Jvm.Cond.code Lib.Math.min.name Lib.Math.min.code 2 (some .int) ∈ lw_tbl ∧ Jvm.Cond.static fd_lb ∈ lw_tbl ∧ Jvm.Cond.initialized "java/lang/Long" ∈ lw_tbl ∧ Jvm.Cond.code fd_lb prog_14_method_50_code 2 (some .int) ∈ lw_tbl)
theorem fd_okX_ok : fd_okX = true := by decide +kernel
theorem fd_okXs : Jvm.Cond.arrayClass .int ∈ fd_tbl ∧ Jvm.Cond.arrayClass .byte ∈ fd_tbl ∧ Jvm.Cond.arrayClass .boolean ∈ fd_tbl ∧ Jvm.Cond.arrayOver (.object "FacingDoors$Scene") ∈ fd_tbl ∧ Jvm.Cond.arrayOver (.object "FacingDoors$Image") ∈ fd_tbl ∧ Jvm.Cond.native arraycopyName ∈ fd_tbl ∧ Jvm.Cond.static arraycopyName ∈ fd_tbl ∧ Jvm.Cond.initialized "java/lang/System" ∈ fd_tbl ∧ Jvm.Cond.instanceMethod objectInit ∈ fd_tbl ∧ Jvm.Cond.code objectInit ⟨#[0xb1]⟩ 1 none ∈ fd_tbl ∧ Jvm.Cond.static Lib.Math.min.name ∈ fd_tbl ∧ Jvm.Cond.initialized "java/lang/Math" ∈ fd_tbl ∧ Jvm.Cond.code Lib.Math.min.name Lib.Math.min.code 2 (some .int) ∈ fd_tbl ∧ Jvm.Cond.static fd_lb ∈ fd_tbl ∧ Jvm.Cond.initialized "java/lang/Long" ∈ fd_tbl ∧ Jvm.Cond.code fd_lb prog_14_method_50_code 2 (some .int) ∈ fd_tbl := by
  obtain ⟨w1, w2, w3, w4, w5, w6, w7, w8, w9, w10, w11, w12, w13, w14, w15, w16⟩ := of_decide_eq_true fd_okX_ok
  exact ⟨fd_mt w1, fd_mt w2, fd_mt w3, fd_mt w4, fd_mt w5, fd_mt w6, fd_mt w7, fd_mt w8, fd_mt w9, fd_mt w10, fd_mt w11, fd_mt w12, fd_mt w13, fd_mt w14, fd_mt w15, fd_mt w16⟩
section fdK3
variable {g : fd_G} {ph : Bool} {p : Program} {l : Launch} {e : Env} {R : Room} {s : State} {m : MethodId} {args : Array Value} {below : List Frame} {meth : Method} {c : Code} {mm a0 i pc : Nat} {Q : State → Prop} {as : List Int} {L L' st st' : List fd_V} {M M' : fd_M} {H : Heap} {locs : List Loc} {la : Array Slot}
theorem fd_k37 (cx : fd_cx g p R s m args meth c mm) (hok : fd_okI (fd_y mm).cls (fd_b mm) (fd_ini mm) (fd_pcs mm) pc ((fd_pcs mm).getD (i + 1) 0) 37 as = true) (hn : fd_nx ph 37 as L st M = some (true, L', st', M')) (kk : fd_Go g ph p l e R s m args below meth c mm a0 Q (i + 1) L' st' M') (hH : fd_hp g ph M H) (hS : va_S (fd_A g) s.heap H locs) (hl : fd_lr g la (fd_mL mm) L) (hrc : fd_ap M' - a0 ≤ R.cells) (hrs : fd_sl (fd_ap M') - fd_sl a0 ≤ R.slots) (ha0 : a0 ≤ fd_ap M) : W p l e R s m args below meth c H locs (fd_ap M - a0) (fd_sl (fd_ap M) - fd_sl a0) Q (F0 m pc la (st.map (fd_cv g))) := by
  obtain ⟨hx, hb, hml, hr, hown, hts, hlk, hini, ⟨hK, hNw, hSt⟩, hbs, h177, hfr, hlo⟩ := cx
  obtain ⟨w1, w2, w3, w4, w5, w6, w7, w8, w9, w10, w11, w12, w13, w14, w15, w16⟩ := fd_okXs
  rw [fd_okI, Bool.and_eq_true, Bool.and_eq_true] at hok
  obtain ⟨hd, hnx⟩ := fd_dc_inv hok.1
  have hci := of_decide_eq_true hok.2.1
  obtain ⟨r, hr0⟩ : ∃ r, r = st := ⟨_, rfl⟩
  subst hr0
  obtain ⟨hg, rfl, rfl, rfl⟩ := fd_some4 hn
  rw [Bool.and_eq_true, Bool.and_eq_true] at hg
  have hph : ph = false := by simpa using hg.1
  subst hph
  have hsh : (fd_SH (fd_ap M)).1 = fd_n as 0 := Nat.eq_of_beq_eq_true hg.2.1
  have hap : fd_ap M < 213 := (fd_sh_at (by omega)).1
  have hn3 := (fd_sh_at (c := fd_ap M) (by omega)).2.2
  obtain ⟨e1, e2⟩ := fd_nw_ap (f := fd_dfl (fd_n as 0)) hap hH.2.2.1
  have hslm := fd_sl_mono ha0
  rw [e2] at hrc hrs
  rw [fd_sl_succ] at hrs
  have hsS : ∀ {H1 : Heap}, H1.size = g.1 + fd_ap M + 1 → (∀ q, q < g.1 + fd_ap M → H1[q]? = H[q]?) → va_S (fd_A g) s.heap H1 locs := fun {H1} z o1 => ⟨Nat.le_trans hS.1 (by rw [z, hH.1 rfl]; omega), fun x h1 h2 => (o1 x (by have := hS.1; have := hH.1 rfl; omega)).trans (hS.2.1 x h1 h2), hS.2.2⟩
  have fin : ∀ {H1 : Heap}, H1.size = g.1 + fd_ap M + 1 → (∀ q, q < g.1 + fd_ap M → H1[q]? = H[q]?) → va_at g.2.2.2.1 fd_cl (g.1 + fd_ap M, fd_ce g false (fd_nw M (fd_dfl (fd_n as 0))) (fd_ap M)) H1 → W p l e R s m args below meth c H1 locs (fd_ap M - a0 + 1) (fd_sl (fd_ap M) - fd_sl a0 + (fd_SH (fd_ap M)).2) Q (F0 m (pc + 3) la (.ref (g.1 + fd_ap M) :: r.map (fd_cv g))) := fun {H1} z o1 hnew => by
    have k1 := kk (pc + 3) H1 locs la (fd_nxt hnx (by decide)) (fd_hp_nw hH hap z o1 hnew) (hsS z o1) hl
    rw [e2, fd_sl_succ, List.map_cons, show fd_cv g (fd_R (fd_ap M)) = .ref (g.1 + fd_ap M) from fd_rv_lt (by omega), show fd_ap M + 1 - a0 = fd_ap M - a0 + 1 by omega, show fd_sl (fd_ap M) + (fd_SH (fd_ap M)).2 - fd_sl a0 = fd_sl (fd_ap M) - fd_sl a0 + (fd_SH (fd_ap M)).2 by omega] at k1
    exact k1
  obtain ⟨hin, hinst, hini2, -, hty⟩ := fd_cl_at hci
  have hsz := ((fd_sh_at (c := fd_ap M) (by omega)).2.1 (by omega)).2
  rw [hsh] at hsz
  have hKn := hK.1 (fd_n as 0) _ (fd_clD_get hci)
  refine W.newcK hx hb hown (hts _ (fd_wd_mem hok.2.2)) (hts _ hinst) (hts _ hini2) rfl hd (by omega) (by omega) hKn.2.1 (hH.1 rfl) fun H1 kC hkC q1 z1 o1 => ?_
  rw [hsz]
  refine fin z1 o1 ?_
  rw [fd_ce_obj hsh (by omega)]
  refine ⟨_, fd_clD_get hci, (u_born (fd_ty (fd_n as 0)) hts hin hKn hkC q1 hty).to (fun j hj => ?_)⟩
  have hj2 : j < (fd_SH (fd_ap M)).2 := by omega
  have hR := (fd_cl2_at hci j hj).2
  have e3 : vp_V ((List.range (fd_SH (fd_ap M)).2).map (fun k => fd_fv g false (fd_nw M (fd_dfl (fd_n as 0))) (fd_n as 0) (fd_ap M) k)) j = fd_fv g false (fd_nw M (fd_dfl (fd_n as 0))) (fd_n as 0) (fd_ap M) j := by
    simp [vp_V, hj2]
  rw [e3]
  unfold fd_fv fd_gf fd_rf
  simp only [fd_nw_new]
  unfold fd_dfl
  cases ht : fd_ty (fd_n as 0) j <;> rw [ht] at hR <;> first | rfl | exact absurd (hR rfl) (by decide)
theorem fd_k38 (cx : fd_cx g p R s m args meth c mm) (hok : fd_okI (fd_y mm).cls (fd_b mm) (fd_ini mm) (fd_pcs mm) pc ((fd_pcs mm).getD (i + 1) 0) 38 as = true) (hn : fd_nx ph 38 as L st M = some (true, L', st', M')) (kk : fd_Go g ph p l e R s m args below meth c mm a0 Q (i + 1) L' st' M') (hH : fd_hp g ph M H) (hS : va_S (fd_A g) s.heap H locs) (hl : fd_lr g la (fd_mL mm) L) (hrc : fd_ap M' - a0 ≤ R.cells) (hrs : fd_sl (fd_ap M') - fd_sl a0 ≤ R.slots) (ha0 : a0 ≤ fd_ap M) : W p l e R s m args below meth c H locs (fd_ap M - a0) (fd_sl (fd_ap M) - fd_sl a0) Q (F0 m pc la (st.map (fd_cv g))) := by
  obtain ⟨hx, hb, hml, hr, hown, hts, hlk, hini, ⟨hK, hNw, hSt⟩, hbs, h177, hfr, hlo⟩ := cx
  obtain ⟨w1, w2, w3, w4, w5, w6, w7, w8, w9, w10, w11, w12, w13, w14, w15, w16⟩ := fd_okXs
  rw [fd_okI, Bool.and_eq_true] at hok
  obtain ⟨hd, hnx⟩ := fd_dc_inv hok.1
  have hci := of_decide_eq_true hok.2
  obtain ⟨n, r, rfl, hn1⟩ := fd_pI_inv hn
  obtain ⟨hg, rfl, rfl, rfl⟩ := fd_some4 hn1
  rw [Bool.and_eq_true, Bool.and_eq_true] at hg
  have hph : ph = false := by simpa using hg.1
  subst hph
  have hsh : (fd_SH (fd_ap M)).1 = fd_n as 0 := Nat.eq_of_beq_eq_true hg.2.1
  have hap : fd_ap M < 213 := (fd_sh_at (by omega)).1
  have hn3 := (fd_sh_at (c := fd_ap M) (by omega)).2.2
  obtain ⟨e1, e2⟩ := fd_nw_ap (f := fun _ => 0) hap hH.2.2.1
  have hslm := fd_sl_mono ha0
  rw [e2] at hrc hrs
  rw [fd_sl_succ] at hrs
  have hsS : ∀ {H1 : Heap}, H1.size = g.1 + fd_ap M + 1 → (∀ q, q < g.1 + fd_ap M → H1[q]? = H[q]?) → va_S (fd_A g) s.heap H1 locs := fun {H1} z o1 => ⟨Nat.le_trans hS.1 (by rw [z, hH.1 rfl]; omega), fun x h1 h2 => (o1 x (by have := hS.1; have := hH.1 rfl; omega)).trans (hS.2.1 x h1 h2), hS.2.2⟩
  have fin : ∀ {H1 : Heap}, H1.size = g.1 + fd_ap M + 1 → (∀ q, q < g.1 + fd_ap M → H1[q]? = H[q]?) → va_at g.2.2.2.1 fd_cl (g.1 + fd_ap M, fd_ce g false (fd_nw M (fun _ => 0)) (fd_ap M)) H1 → W p l e R s m args below meth c H1 locs (fd_ap M - a0 + 1) (fd_sl (fd_ap M) - fd_sl a0 + (fd_SH (fd_ap M)).2) Q (F0 m (pc + 2) la (.ref (g.1 + fd_ap M) :: r.map (fd_cv g))) := fun {H1} z o1 hnew => by
    have k1 := kk (pc + 2) H1 locs la (fd_nxt hnx (by decide)) (fd_hp_nw hH hap z o1 hnew) (hsS z o1) hl
    rw [e2, fd_sl_succ, List.map_cons, show fd_cv g (fd_R (fd_ap M)) = .ref (g.1 + fd_ap M) from fd_rv_lt (by omega), show fd_ap M + 1 - a0 = fd_ap M - a0 + 1 by omega, show fd_sl (fd_ap M) + (fd_SH (fd_ap M)).2 - fd_sl a0 = fd_sl (fd_ap M) - fd_sl a0 + (fd_SH (fd_ap M)).2 by omega] at k1
    exact k1
  have hnn : n = ((fd_SH (fd_ap M)).2 : Int) := of_decide_eq_true hg.2.2
  have hN : (Int32.ofInt n).toNatClampNeg = (fd_SH (fd_ap M)).2 := by rw [hnn, fd_oi]; exact nI_clamp (by omega)
  have hn0 : ¬ Int32.ofInt n < 0 := by rw [hnn, fd_oi]; exact nI_pos (by omega)
  have hcase : fd_n as 0 = 20 ∨ fd_n as 0 = 21 ∨ fd_n as 0 = 22 := by omega
  rcases hcase with h | h | h
  · rw [h] at hsh hd
    refine va_newaK hx hb (atype := .int) (hts _ w1) rfl hd rfl hn0 hN (by rw [show componentBytes (newarray.typeOf .int) = 4 from rfl]; omega) (by omega) (by omega) (hH.1 rfl) fun H1 cA q1 z1 o1 hAr hNm => ?_
    refine fin z1 o1 ?_
    rw [fd_ce_int hsh (by decide) (by decide)]
    have hcA : cA = g.2.2.2.2 20 := Option.some.inj (hNm.symm.trans (hK.2 0 _ rfl).2)
    subst hcA
    show H1[g.1 + fd_ap M]? = some (vp_cell _ _)
    rw [q1, vp_cell_i]
    simp only [fd_nw_new]
    rfl
  · rw [h] at hsh hd
    refine va_newaK hx hb (atype := .byte) (hts _ w2) rfl hd rfl hn0 hN (by rw [show componentBytes (newarray.typeOf .byte) = 1 from rfl]; omega) (by omega) (by omega) (hH.1 rfl) fun H1 cA q1 z1 o1 hAr hNm => ?_
    refine fin z1 o1 ?_
    rw [fd_ce_int hsh (by decide) (by decide)]
    have hcA : cA = g.2.2.2.2 21 := Option.some.inj (hNm.symm.trans (hK.2 1 _ rfl).2)
    subst hcA
    show H1[g.1 + fd_ap M]? = some (vp_cell _ _)
    rw [q1, vp_cell_i]
    simp only [fd_nw_new]
    rfl
  · rw [h] at hsh hd
    refine va_newaK hx hb (atype := .boolean) (hts _ w3) rfl hd rfl hn0 hN (by rw [show componentBytes (newarray.typeOf .boolean) = 1 from rfl]; omega) (by omega) (by omega) (hH.1 rfl) fun H1 cA q1 z1 o1 hAr hNm => ?_
    refine fin z1 o1 ?_
    rw [fd_ce_int hsh (by decide) (by decide)]
    have hcA : cA = g.2.2.2.2 22 := Option.some.inj (hNm.symm.trans (hK.2 2 _ rfl).2)
    subst hcA
    show H1[g.1 + fd_ap M]? = some (vp_cell _ _)
    rw [q1, vp_cell_i]
    simp only [fd_nw_new]
    rfl
theorem fd_k39 (cx : fd_cx g p R s m args meth c mm) (hok : fd_okI (fd_y mm).cls (fd_b mm) (fd_ini mm) (fd_pcs mm) pc ((fd_pcs mm).getD (i + 1) 0) 39 as = true) (hn : fd_nx ph 39 as L st M = some (true, L', st', M')) (kk : fd_Go g ph p l e R s m args below meth c mm a0 Q (i + 1) L' st' M') (hH : fd_hp g ph M H) (hS : va_S (fd_A g) s.heap H locs) (hl : fd_lr g la (fd_mL mm) L) (hrc : fd_ap M' - a0 ≤ R.cells) (hrs : fd_sl (fd_ap M') - fd_sl a0 ≤ R.slots) (ha0 : a0 ≤ fd_ap M) : W p l e R s m args below meth c H locs (fd_ap M - a0) (fd_sl (fd_ap M) - fd_sl a0) Q (F0 m pc la (st.map (fd_cv g))) := by
  obtain ⟨hx, hb, hml, hr, hown, hts, hlk, hini, ⟨hK, hNw, hSt⟩, hbs, h177, hfr, hlo⟩ := cx
  obtain ⟨w1, w2, w3, w4, w5, w6, w7, w8, w9, w10, w11, w12, w13, w14, w15, w16⟩ := fd_okXs
  rw [fd_okI, Bool.and_eq_true, Bool.and_eq_true] at hok
  obtain ⟨hd, hnx⟩ := fd_dc_inv hok.1
  have hci := of_decide_eq_true hok.2.1
  obtain ⟨n, r, rfl, hn1⟩ := fd_pI_inv hn
  obtain ⟨hg, rfl, rfl, rfl⟩ := fd_some4 hn1
  rw [Bool.and_eq_true, Bool.and_eq_true] at hg
  have hph : ph = false := by simpa using hg.1
  subst hph
  have hsh : (fd_SH (fd_ap M)).1 = fd_n as 0 := Nat.eq_of_beq_eq_true hg.2.1
  have hap : fd_ap M < 213 := (fd_sh_at (by omega)).1
  have hn3 := (fd_sh_at (c := fd_ap M) (by omega)).2.2
  obtain ⟨e1, e2⟩ := fd_nw_ap (f := fun _ => 1000) hap hH.2.2.1
  have hslm := fd_sl_mono ha0
  rw [e2] at hrc hrs
  rw [fd_sl_succ] at hrs
  have hsS : ∀ {H1 : Heap}, H1.size = g.1 + fd_ap M + 1 → (∀ q, q < g.1 + fd_ap M → H1[q]? = H[q]?) → va_S (fd_A g) s.heap H1 locs := fun {H1} z o1 => ⟨Nat.le_trans hS.1 (by rw [z, hH.1 rfl]; omega), fun x h1 h2 => (o1 x (by have := hS.1; have := hH.1 rfl; omega)).trans (hS.2.1 x h1 h2), hS.2.2⟩
  have fin : ∀ {H1 : Heap}, H1.size = g.1 + fd_ap M + 1 → (∀ q, q < g.1 + fd_ap M → H1[q]? = H[q]?) → va_at g.2.2.2.1 fd_cl (g.1 + fd_ap M, fd_ce g false (fd_nw M (fun _ => 1000)) (fd_ap M)) H1 → W p l e R s m args below meth c H1 locs (fd_ap M - a0 + 1) (fd_sl (fd_ap M) - fd_sl a0 + (fd_SH (fd_ap M)).2) Q (F0 m (pc + 3) la (.ref (g.1 + fd_ap M) :: r.map (fd_cv g))) := fun {H1} z o1 hnew => by
    have k1 := kk (pc + 3) H1 locs la (fd_nxt hnx (by decide)) (fd_hp_nw hH hap z o1 hnew) (hsS z o1) hl
    rw [e2, fd_sl_succ, List.map_cons, show fd_cv g (fd_R (fd_ap M)) = .ref (g.1 + fd_ap M) from fd_rv_lt (by omega), show fd_ap M + 1 - a0 = fd_ap M - a0 + 1 by omega, show fd_sl (fd_ap M) + (fd_SH (fd_ap M)).2 - fd_sl a0 = fd_sl (fd_ap M) - fd_sl a0 + (fd_SH (fd_ap M)).2 by omega] at k1
    exact k1
  have hnn : n = ((fd_SH (fd_ap M)).2 : Int) := of_decide_eq_true hg.2.2
  have hN : (Int32.ofInt n).toNatClampNeg = (fd_SH (fd_ap M)).2 := by rw [hnn, fd_oi]; exact nI_clamp (by omega)
  have hn0 : ¬ Int32.ofInt n < 0 := by rw [hnn, fd_oi]; exact nI_pos (by omega)
  have hcase : fd_n as 0 = 23 ∨ fd_n as 0 = 24 := by omega
  rcases hcase with h | h
  · rw [h] at hsh hok
    refine W.anew hx hb hown (hts _ (fd_wd_mem hok.2.2)) (hts _ w4) rfl hd rfl hn0 (by rw [hN]; omega) (by omega) (by rw [hN]; omega) fun cA kA comp f1 f2 f3 f4 => ?_
    rw [hN]
    generalize hH1 : H.push ({ cls := cA, slots := Array.replicate (fd_SH (fd_ap M)).2 .null, vm := .none } : Cell) = H1
    have z1 : H1.size = g.1 + fd_ap M + 1 := by rw [← hH1, Array.size_push, hH.1 rfl]
    have q1 : H1[g.1 + fd_ap M]? = some (arrV cA (fd_SH (fd_ap M)).2 (fun _ => .null)) := by rw [← hH1, ← hH.1 rfl, Array.getElem?_push_size, ← arrV_new]
    have o1 : ∀ q, q < g.1 + fd_ap M → H1[q]? = H[q]? := fun q hq => by
      rw [← hH1, Array.getElem?_push, if_neg (by rw [hH.1 rfl]; omega)]
    rw [hH.1 rfl]
    refine fin z1 o1 ?_
    rw [fd_ce_ref hsh (by decide)]
    obtain ⟨kA2, comp2, -, -, -, hNm⟩ := (hK.2 3 _ rfl).2
    have hcA : cA = g.2.2.2.2 23 := Option.some.inj (f1.symm.trans hNm)
    subst hcA
    show H1[g.1 + fd_ap M]? = some (vp_cell _ _)
    rw [q1, vp_cell_q]
    simp only [fd_nw_new]
    rfl
  · rw [h] at hsh hok
    refine W.anew hx hb hown (hts _ (fd_wd_mem hok.2.2)) (hts _ w5) rfl hd rfl hn0 (by rw [hN]; omega) (by omega) (by rw [hN]; omega) fun cA kA comp f1 f2 f3 f4 => ?_
    rw [hN]
    generalize hH1 : H.push ({ cls := cA, slots := Array.replicate (fd_SH (fd_ap M)).2 .null, vm := .none } : Cell) = H1
    have z1 : H1.size = g.1 + fd_ap M + 1 := by rw [← hH1, Array.size_push, hH.1 rfl]
    have q1 : H1[g.1 + fd_ap M]? = some (arrV cA (fd_SH (fd_ap M)).2 (fun _ => .null)) := by rw [← hH1, ← hH.1 rfl, Array.getElem?_push_size, ← arrV_new]
    have o1 : ∀ q, q < g.1 + fd_ap M → H1[q]? = H[q]? := fun q hq => by
      rw [← hH1, Array.getElem?_push, if_neg (by rw [hH.1 rfl]; omega)]
    rw [hH.1 rfl]
    refine fin z1 o1 ?_
    rw [fd_ce_ref hsh (by decide)]
    obtain ⟨kA2, comp2, -, -, -, hNm⟩ := (hK.2 4 _ rfl).2
    have hcA : cA = g.2.2.2.2 24 := Option.some.inj (f1.symm.trans hNm)
    subst hcA
    show H1[g.1 + fd_ap M]? = some (vp_cell _ _)
    rw [q1, vp_cell_q]
    simp only [fd_nw_new]
    rfl
theorem fd_k40 (cx : fd_cx g p R s m args meth c mm) (hok : fd_okI (fd_y mm).cls (fd_b mm) (fd_ini mm) (fd_pcs mm) pc ((fd_pcs mm).getD (i + 1) 0) 40 as = true) (hn : fd_nx ph 40 as L st M = some (true, L', st', M')) (kk : fd_Go g ph p l e R s m args below meth c mm a0 Q (i + 1) L' st' M') (hH : fd_hp g ph M H) (hS : va_S (fd_A g) s.heap H locs) (hl : fd_lr g la (fd_mL mm) L) (hrc : fd_ap M' - a0 ≤ R.cells) (hrs : fd_sl (fd_ap M') - fd_sl a0 ≤ R.slots) (ha0 : a0 ≤ fd_ap M) : W p l e R s m args below meth c H locs (fd_ap M - a0) (fd_sl (fd_ap M) - fd_sl a0) Q (F0 m pc la (st.map (fd_cv g))) := by
  obtain ⟨hx, hb, hml, hr, hown, hts, hlk, hini, ⟨hK, hNw, hSt⟩, hbs, h177, hfr, hlo⟩ := cx
  obtain ⟨w1, w2, w3, w4, w5, w6, w7, w8, w9, w10, w11, w12, w13, w14, w15, w16⟩ := fd_okXs
  rw [fd_okI, Bool.and_eq_true] at hok
  obtain ⟨hd, hnx⟩ := fd_dc_inv hok.1
  obtain ⟨n, r, rfl, hn1⟩ := fd_pI_inv hn
  obtain ⟨dp, r, rfl, hn2⟩ := fd_pI_inv hn1
  obtain ⟨c2, r, rfl, hn3⟩ := fd_pR_inv hn2
  obtain ⟨sp, r, rfl, hn4⟩ := fd_pI_inv hn3
  obtain ⟨c1, r, rfl, hn5⟩ := fd_pR_inv hn4
  obtain ⟨hg, rfl, rfl, rfl⟩ := fd_some4 hn5
  rw [Bool.and_eq_true, Bool.and_eq_true, Bool.and_eq_true, Bool.and_eq_true, Bool.and_eq_true] at hg
  obtain ⟨⟨⟨hph, hs1, ha1⟩, hs2, ha2⟩, hq⟩ := hg
  obtain ⟨h1, h2, h3, h4, h5, h6⟩ := of_decide_eq_true hq
  subst hph
  have hs1 := Nat.eq_of_beq_eq_true hs1
  have hs2 := Nat.eq_of_beq_eq_true hs2
  obtain ⟨hl1, b1⟩ := fd_lt_ap hH ha1 (by omega)
  obtain ⟨hl2, b2⟩ := fd_lt_ap hH ha2 (by omega)
  have m1 := (fd_sh_at (c := c1) (by omega)).2.2
  have m2 := (fd_sh_at (c := c2) (by omega)).2.2
  have hc1 := fd_ws_get (g := g) (ph := true) (M := M) hl1
  have hc2 := fd_ws_get (g := g) (ph := true) (M := M) hl2
  rw [fd_ce_int hs1 (by decide) (by decide)] at hc1
  rw [fd_ce_int hs2 (by decide) (by decide)] at hc2
  obtain ⟨n', rfl⟩ := Int.eq_ofNat_of_zero_le h3
  obtain ⟨dp', rfl⟩ := Int.eq_ofNat_of_zero_le h2
  obtain ⟨sp', rfl⟩ := Int.eq_ofNat_of_zero_le h1
  have en : (Int32.ofInt (n' : Int)).toNatClampNeg = n' := by rw [fd_oi]; exact nI_clamp (by omega)
  have ed : (Int32.ofInt (dp' : Int)).toNatClampNeg = dp' := by rw [fd_oi]; exact nI_clamp (by omega)
  have es : (Int32.ofInt (sp' : Int)).toNatClampNeg = sp' := by rw [fd_oi]; exact nI_clamp (by omega)
  have hsum := fd_sum_le g r
  have hnat : nativeFrameWords "java/lang/System" "arraycopy" 5 ≤ 100 := by decide +kernel
  simp only [List.map_cons]
  rw [show fd_cv g (fd_R c1) = .ref (g.1 + c1) from fd_rv_lt (by omega), show fd_cv g (fd_R c2) = .ref (g.1 + c2) from fd_rv_lt (by omega)]
  refine va_copyi hx hb (by rw [hml]; exact hl.2.2.1.symm) hown (hts _ (fd_wd_mem hok.2)) (hts _ w6) (hts _ w7) (hts _ w8) hK hH.2.2.2.2 fd_ws_D hS c1 c2 0 0 hc1 hc2 rfl rfl rfl (by rw [fd_oi]; exact nI_pos (by omega)) (by rw [fd_oi]; exact nI_pos (by omega)) (by rw [fd_oi]; exact nI_pos (by omega)) (by rw [es, en]; omega) (by rw [ed, en]; omega) (fun _ _ => rfl) (by omega) (by omega) hd (fun H1 l1 hP1 _ hS1 => ?_)
  rw [es, ed, en] at hP1
  have ho : ∀ c', c' ≠ c2 → fd_cp M c1 sp' c2 dp' n' c' = M c' := fun c' h => by funext k; simp [fd_cp, h]
  have k1 := kk (pc + 3) H1 l1 la (fd_nxt hnx (by decide)) (fd_hp_set hH hl2 ho (fun h => (by cases h)) _ (by
    rw [fd_ce_int hs2 (by decide) (by decide)]
    congr 5
    funext k
    simp only [va_cpy, fd_cp, Int.toNat_natCast, true_and]
    split <;> rfl) hP1) hS1 hl
  have e0 : fd_ap (fd_cp M c1 sp' c2 dp' n') = fd_ap M := by show Int.toNat _ = _; rw [ho 5000 (by omega)]
  rw [show ((sp' : Int)).toNat = sp' from rfl, show ((dp' : Int)).toNat = dp' from rfl, show ((n' : Int)).toNat = n' from rfl, e0] at k1
  exact k1
theorem fd_k42 (cx : fd_cx g p R s m args meth c mm) (hok : fd_okI (fd_y mm).cls (fd_b mm) (fd_ini mm) (fd_pcs mm) pc ((fd_pcs mm).getD (i + 1) 0) 42 as = true) (hn : fd_nx ph 42 as L st M = some (true, L', st', M')) (kk : fd_Go g ph p l e R s m args below meth c mm a0 Q (i + 1) L' st' M') (hH : fd_hp g ph M H) (hS : va_S (fd_A g) s.heap H locs) (hl : fd_lr g la (fd_mL mm) L) (hrc : fd_ap M' - a0 ≤ R.cells) (hrs : fd_sl (fd_ap M') - fd_sl a0 ≤ R.slots) (ha0 : a0 ≤ fd_ap M) : W p l e R s m args below meth c H locs (fd_ap M - a0) (fd_sl (fd_ap M) - fd_sl a0) Q (F0 m pc la (st.map (fd_cv g))) := by
  obtain ⟨hx, hb, hml, hr, hown, hts, hlk, hini, ⟨hK, hNw, hSt⟩, hbs, h177, hfr, hlo⟩ := cx
  obtain ⟨w1, w2, w3, w4, w5, w6, w7, w8, w9, w10, w11, w12, w13, w14, w15, w16⟩ := fd_okXs
  rw [fd_okI, Bool.and_eq_true] at hok
  obtain ⟨hd, hnx⟩ := fd_dc_inv hok.1
  obtain ⟨a, r, rfl, hn1⟩ := fd_pR_inv hn
  obtain ⟨hg, rfl, rfl, rfl⟩ := fd_some4 hn1
  rw [Bool.and_eq_true] at hg
  have ha3 : a < 1000 := by simpa using hg.1
  have hr4 : r.length ≤ 4 := by simpa using hg.2
  have hsum := fd_sum_le g r
  have hroom := lv_room (m := m) (pc := pc) (ls := la) (rest := .ref (g.1 + a) :: r.map (fd_cv g)) (st := r.map (fd_cv g)) (by omega)
  rw [List.map_cons, show fd_cv g (fd_R a) = .ref (g.1 + a) from fd_rv_lt ha3]
  exact W.objInit hx hb hown (hts _ (fd_wd_mem hok.2)) (hts _ w9) (hts _ w10) rfl (hl.2.2.1.trans hml.symm) rfl hd (by omega) (by omega) (kk (pc + 3) H locs la (fd_nxt hnx (by decide)) hH hS hl)
theorem fd_k44 (cx : fd_cx g p R s m args meth c mm) (hok : fd_okI (fd_y mm).cls (fd_b mm) (fd_ini mm) (fd_pcs mm) pc ((fd_pcs mm).getD (i + 1) 0) 44 as = true) (hn : fd_nx ph 44 as L st M = some (true, L', st', M')) (kk : fd_Go g ph p l e R s m args below meth c mm a0 Q (i + 1) L' st' M') (hH : fd_hp g ph M H) (hS : va_S (fd_A g) s.heap H locs) (hl : fd_lr g la (fd_mL mm) L) (hrc : fd_ap M' - a0 ≤ R.cells) (hrs : fd_sl (fd_ap M') - fd_sl a0 ≤ R.slots) (ha0 : a0 ≤ fd_ap M) : W p l e R s m args below meth c H locs (fd_ap M - a0) (fd_sl (fd_ap M) - fd_sl a0) Q (F0 m pc la (st.map (fd_cv g))) := by
  obtain ⟨hx, hb, hml, hr, hown, hts, hlk, hini, ⟨hK, hNw, hSt⟩, hbs, h177, hfr, hlo⟩ := cx
  obtain ⟨w1, w2, w3, w4, w5, w6, w7, w8, w9, w10, w11, w12, w13, w14, w15, w16⟩ := fd_okXs
  rw [fd_okI, Bool.and_eq_true] at hok
  obtain ⟨hd, hnx⟩ := fd_dc_inv hok.1
  obtain ⟨b, r, rfl, hn1⟩ := fd_pI_inv hn
  obtain ⟨a, r, rfl, hn2⟩ := fd_pI_inv hn1
  obtain ⟨hg, rfl, rfl, rfl⟩ := fd_some4 hn2
  rw [Bool.and_eq_true, Bool.and_eq_true, fd_rng_iff, fd_rng_iff] at hg
  have hr4 : r.length ≤ 4 := by simpa using hg.2.2
  have hsum := fd_sum_le g r
  have k1 := kk (pc + 3) H locs la (fd_nxt hnx (by decide)) hH hS hl
  refine va_mmin hx hb (by rw [hml]; exact hl.2.2.1.symm) hown (hts _ (fd_wd_mem hok.2)) (hts _ w11) (hts _ w12) (hts _ w13) (by omega) (by omega) hrc hrs hd ?_
  have e1 : (if Int32.ofInt b < Int32.ofInt a then Int32.ofInt b else Int32.ofInt a) = Int32.ofInt (if b < a then b else a) := by
    by_cases h : b < a
    · rw [if_pos h, if_pos ((fd_ltI hg.2.1 hg.1).mpr h)]
    · rw [if_neg h, if_neg (fun q => h ((fd_ltI hg.2.1 hg.1).mp q))]
  rw [e1]
  exact k1
end fdK3

section fdK4
variable {g : fd_G} {ph : Bool} {p : Program} {l : Launch} {e : Env} {R : Room} {s : State} {m : MethodId} {args : Array Value} {below : List Frame} {meth : Method} {c : Code} {mm a0 i pc : Nat} {Q : State → Prop} {as : List Int} {L L' st st' : List fd_V} {M M' : fd_M} {H : Heap} {locs : List Loc} {la : Array Slot}
theorem fd_good_in {w : Jvm.Cond} (h : w ∈ fd_gtbl) : w ∈ fd_tbl ∧ ((w.onTables && w.keeps) = true ∨ ∃ ty, w = .arrayClass ty) := ⟨fd_mt (List.mem_filter.mp h).1 (by rw [(List.mem_filter.mp h).2]; rfl), good_of_word (List.mem_filter.mp h).2⟩
theorem fd_goodIn {y : MethodName} {b : ByteArray} {n : Nat} {r : Option FieldType} (h : Jvm.Cond.code y b n r ∈ fd_tbl) : GoodIn fd_tbl (.code y b n r :: fd_gtbl) := by
  intro w hw
  rcases List.mem_cons.mp hw with rfl | hw
  · exact ⟨h, good_of_word rfl⟩
  · exact fd_good_in hw
theorem fd_k41 (cx : fd_cx g p R s m args meth c mm) (hok : fd_okI (fd_y mm).cls (fd_b mm) (fd_ini mm) (fd_pcs mm) pc ((fd_pcs mm).getD (i + 1) 0) 41 as = true) (hn : fd_nx ph 41 as L st M = some (true, L', st', M')) (kk : fd_Go g ph p l e R s m args below meth c mm a0 Q (i + 1) L' st' M') (hH : fd_hp g ph M H) (hS : va_S (fd_A g) s.heap H locs) (hl : fd_lr g la (fd_mL mm) L) (hrc : fd_ap M' - a0 ≤ R.cells) (hrs : fd_sl (fd_ap M') - fd_sl a0 ≤ R.slots) (ha0 : a0 ≤ fd_ap M) : W p l e R s m args below meth c H locs (fd_ap M - a0) (fd_sl (fd_ap M) - fd_sl a0) Q (F0 m pc la (st.map (fd_cv g))) := by
  obtain ⟨hx, hb, hml, hr, hown, hts, hlk, hini, ⟨hK, hNw, hSt⟩, hbs, h177, hfr, hlo⟩ := cx
  obtain ⟨w1, w2, w3, w4, w5, w6, w7, w8, w9, w10, w11, w12, w13, w14, w15, w16⟩ := fd_okXs
  rw [fd_okI, Bool.and_eq_true] at hok
  obtain ⟨hd, hnx⟩ := fd_dc_inv hok.1
  obtain ⟨a, r, rfl, hn1⟩ := fd_pJ_inv hn
  obtain ⟨hg, rfl, rfl, rfl⟩ := fd_some4 hn1
  have hr4 : r.length ≤ 4 := by simpa using hg
  have hsum := fd_sum_le g r
  refine va_calli (A1 := fun _ => False) (free := fun _ => False) (rest := r.map (fd_cv g)) (va_runS (As := [.long (Int64.ofInt a)]) ⟨hx, hb, hml, hown, hts⟩ (fd_lbcM l (Int64.ofInt a) H) ⟨callB_of 1 hts (fd_goodIn w16) rfl rfl rfl (hts _ w15) (hts _ (fd_wd_mem hok.2)) ⟨by decide, by decide, by decide +kernel⟩ ⟨by show 1 + 1 ≤ R.frames; omega, by show 8 + (2 + 11) + 40 ≤ R.locals; omega⟩, hts _ w14⟩ ⟨fun a' U g' mk q => q, fun U hU hW => ⟨rfl, hU⟩⟩ rfl rfl (hl.2.2.1) rfl (lv_room (by omega)) hd ⟨hrc, hrs⟩) hS (fun q _ h => h.elim) (fun q h => h.elim) (fun r1 u t H1 l1 ht hvm hp hB hz hk1 hS1 => ?_)
  subst hp
  have e1 : H1 = H := ht.symm.trans hB
  subst e1
  have k1 := kk (pc + 3) H1 l1 la (fd_nxt hnx (by decide)) hH hS1 hl
  have e2 : Int32.ofInt (fd_lbc a) = fd_bc (Int64.ofInt a) := Int32.ofInt_toInt _
  rw [List.map_cons, show fd_cv g (fd_I (fd_lbc a)) = .int (fd_bc (Int64.ofInt a)) from congrArg Value.int e2] at k1
  exact k1
theorem fd_step {op : Nat} (cx : fd_cx g p R s m args meth c mm) (hok : fd_okI (fd_y mm).cls (fd_b mm) (fd_ini mm) (fd_pcs mm) pc ((fd_pcs mm).getD (i + 1) 0) op as = true) (hn : fd_nx ph op as L st M = some (true, L', st', M')) (kk : fd_Go g ph p l e R s m args below meth c mm a0 Q (i + 1) L' st' M') (hH : fd_hp g ph M H) (hS : va_S (fd_A g) s.heap H locs) (hl : fd_lr g la (fd_mL mm) L) (hrc : fd_ap M' - a0 ≤ R.cells) (hrs : fd_sl (fd_ap M') - fd_sl a0 ≤ R.slots) (ha0 : a0 ≤ fd_ap M) : W p l e R s m args below meth c H locs (fd_ap M - a0) (fd_sl (fd_ap M) - fd_sl a0) Q (F0 m pc la (st.map (fd_cv g))) := by
  match op, hok, hn with
  | 0, hok, hn => exact fd_k0 cx hok hn kk hH hS hl
  | 1, hok, hn => exact fd_k1 cx hok hn kk hH hS hl
  | 2, hok, hn => exact fd_k2 cx hok hn kk hH hS hl
  | 3, hok, hn => exact fd_k3 cx hok hn kk hH hS hl
  | 4, hok, hn => exact fd_k4 cx hok hn kk hH hS hl
  | 5, hok, hn => exact fd_k5 cx hok hn kk hH hS hl
  | 6, hok, hn => exact fd_k6 cx hok hn kk hH hS hl
  | 7, hok, hn => exact fd_k7 cx hok hn kk hH hS hl
  | 8, hok, hn => exact fd_k8 cx hok hn kk hH hS hl
  | 9, hok, hn => exact fd_k9 cx hok hn kk hH hS hl
  | 10, hok, hn => exact fd_k10 cx hok hn kk hH hS hl
  | 11, hok, hn => exact fd_k11 cx hok hn kk hH hS hl
  | 12, hok, hn => exact fd_k12 cx hok hn kk hH hS hl
  | 13, hok, hn => exact fd_k13 cx hok hn kk hH hS hl
  | 14, hok, hn => exact fd_k14 cx hok hn kk hH hS hl
  | 15, hok, hn => exact fd_k15 cx hok hn kk hH hS hl
  | 16, hok, hn => exact fd_k16 cx hok hn kk hH hS hl
  | 17, hok, hn => exact fd_k17 cx hok hn kk hH hS hl
  | 18, hok, hn => exact fd_k18 cx hok hn kk hH hS hl
  | 19, hok, hn => exact fd_k19 cx hok hn kk hH hS hl
  | 20, hok, hn => exact fd_k20 cx hok hn kk hH hS hl
  | 21, hok, hn => exact fd_k21 cx hok hn kk hH hS hl
  | 22, hok, hn => exact fd_k22 cx hok hn kk hH hS hl
  | 23, hok, hn => exact fd_k23 cx hok hn kk hH hS hl
  | 24, hok, hn => exact fd_k24 cx hok hn kk hH hS hl
  | 25, hok, hn => exact fd_k25 cx hok hn kk hH hS hl
  | 26, hok, hn => exact fd_k26 cx hok hn kk hH hS hl
  | 27, hok, hn => exact fd_k27 cx hok hn kk hH hS hl
  | 28, hok, hn => exact fd_k28 cx hok hn kk hH hS hl
  | 29, hok, hn => exact fd_k29 cx hok hn kk hH hS hl
  | 30, hok, hn => exact fd_k30 cx hok hn kk hH hS hl
  | 31, hok, hn => exact fd_k31 cx hok hn kk hH hS hl
  | 32, hok, hn => exact fd_k32 cx hok hn kk hH hS hl
  | 33, hok, hn => exact fd_k33 cx hok hn kk hH hS hl
  | 34, hok, hn => exact fd_k34 cx hok hn kk hH hS hl
  | 35, hok, hn => exact fd_k35 cx hok hn kk hH hS hl
  | 36, hok, hn => exact fd_k36 cx hok hn kk hH hS hl
  | 37, hok, hn => exact fd_k37 cx hok hn kk hH hS hl hrc hrs ha0
  | 38, hok, hn => exact fd_k38 cx hok hn kk hH hS hl hrc hrs ha0
  | 39, hok, hn => exact fd_k39 cx hok hn kk hH hS hl hrc hrs ha0
  | 40, hok, hn => exact fd_k40 cx hok hn kk hH hS hl hrc hrs ha0
  | 41, hok, hn => exact fd_k41 cx hok hn kk hH hS hl hrc hrs ha0
  | 42, hok, hn => exact fd_k42 cx hok hn kk hH hS hl hrc hrs ha0
  | 43, hok, hn => exact fd_k43 cx hok hn kk hH hS hl
  | 44, hok, hn => exact fd_k44 cx hok hn kk hH hS hl hrc hrs ha0
  | 45, hok, hn => exact fd_k45 cx hok hn kk hH hS hl
  | n + 46, hok, hn => cases hn
theorem fd_up_mono {M : fd_M} {c k : Nat} {v : Int} (h : (fd_SH c).1 ≤ 24) : fd_ap M ≤ fd_ap (fd_up M c k v) := by
  have e : fd_up M c k v 5000 0 = M 5000 0 := fd_up_ap (fd_sh_at h).1
  show (M 5000 0).toNat ≤ Int.toNat _
  rw [e]
  exact Nat.le_refl _
theorem fd_nw_mono {M : fd_M} {f : Nat → Int} (h : (fd_SH (fd_ap M)).1 ≤ 24) : fd_ap M ≤ fd_ap (fd_nw M f) := by
  have h1 := (fd_sh_at h).1
  have e : fd_nw M f 5000 0 = M 5000 0 + 1 := by
    have h1 : ¬ (5000 = (M 5000 0).toNat) := by
      intro q
      have : fd_ap M = 5000 := q.symm
      omega
    simp [fd_nw, h1]
  show (M 5000 0).toNat ≤ Int.toNat _
  rw [e]
  omega
theorem fd_nx_mono {own : String} {b : ByteArray} {ini : Bool} {pcs : List Nat} {pc nx op : Nat} {as : List Int} {ph : Bool} {L L' st st' : List fd_V} {M M' : fd_M} (hok : fd_okI own b ini pcs pc nx op as = true) (hn : fd_nx ph op as L st M = some (true, L', st', M')) : fd_ap M ≤ fd_ap M' := by
  match op, hok, hn with
  | 0, hok, hn => obtain ⟨-, -, -, rfl⟩ := fd_some4 hn; exact Nat.le_refl _
  | 1, hok, hn => obtain ⟨_, _, hn⟩ := fd_lI_inv hn; obtain ⟨-, -, -, rfl⟩ := fd_some4 hn; exact Nat.le_refl _
  | 2, hok, hn => obtain ⟨_, _, hn⟩ := fd_lR_inv hn; obtain ⟨-, -, -, rfl⟩ := fd_some4 hn; exact Nat.le_refl _
  | 3, hok, hn => obtain ⟨v1, r1, rfl, hn1⟩ := fd_pI_inv hn; obtain ⟨-, -, -, rfl⟩ := fd_some4 hn1; exact Nat.le_refl _
  | 4, hok, hn => obtain ⟨v1, r1, rfl, hn1⟩ := fd_pR_inv hn; obtain ⟨-, -, -, rfl⟩ := fd_some4 hn1; exact Nat.le_refl _
  | 5, hok, hn => obtain ⟨_, _, hn⟩ := fd_lI_inv hn; obtain ⟨-, -, -, rfl⟩ := fd_some4 hn; exact Nat.le_refl _
  | 6, hok, hn => obtain ⟨v1, r1, rfl, hn1⟩ := fd_pI_inv hn; obtain ⟨v2, r2, rfl, hn2⟩ := fd_pI_inv hn1; obtain ⟨-, -, -, rfl⟩ := fd_some4 hn2; exact Nat.le_refl _
  | 7, hok, hn => obtain ⟨v1, r1, rfl, hn1⟩ := fd_pI_inv hn; obtain ⟨v2, r2, rfl, hn2⟩ := fd_pI_inv hn1; obtain ⟨-, -, -, rfl⟩ := fd_some4 hn2; exact Nat.le_refl _
  | 8, hok, hn => obtain ⟨v1, r1, rfl, hn1⟩ := fd_pI_inv hn; obtain ⟨v2, r2, rfl, hn2⟩ := fd_pI_inv hn1; obtain ⟨-, -, -, rfl⟩ := fd_some4 hn2; exact Nat.le_refl _
  | 9, hok, hn => obtain ⟨v1, r1, rfl, hn1⟩ := fd_pI_inv hn; obtain ⟨v2, r2, rfl, hn2⟩ := fd_pI_inv hn1; obtain ⟨-, -, -, rfl⟩ := fd_some4 hn2; exact Nat.le_refl _
  | 10, hok, hn => obtain ⟨v1, r1, rfl, hn1⟩ := fd_pI_inv hn; obtain ⟨v2, r2, rfl, hn2⟩ := fd_pI_inv hn1; obtain ⟨-, -, -, rfl⟩ := fd_some4 hn2; exact Nat.le_refl _
  | 11, hok, hn => obtain ⟨v1, r1, rfl, hn1⟩ := fd_pI_inv hn; obtain ⟨v2, r2, rfl, hn2⟩ := fd_pI_inv hn1; obtain ⟨-, -, -, rfl⟩ := fd_some4 hn2; exact Nat.le_refl _
  | 12, hok, hn => obtain ⟨v1, r1, rfl, hn1⟩ := fd_pI_inv hn; obtain ⟨v2, r2, rfl, hn2⟩ := fd_pI_inv hn1; obtain ⟨-, -, -, rfl⟩ := fd_some4 hn2; exact Nat.le_refl _
  | 13, hok, hn => obtain ⟨v1, r1, rfl, hn1⟩ := fd_pI_inv hn; obtain ⟨v2, r2, rfl, hn2⟩ := fd_pI_inv hn1; obtain ⟨-, -, -, rfl⟩ := fd_some4 hn2; exact Nat.le_refl _
  | 14, hok, hn => obtain ⟨v1, r1, rfl, hn1⟩ := fd_pI_inv hn; obtain ⟨v2, r2, rfl, hn2⟩ := fd_pI_inv hn1; obtain ⟨-, -, -, rfl⟩ := fd_some4 hn2; exact Nat.le_refl _
  | 15, hok, hn => obtain ⟨v1, r1, rfl, hn1⟩ := fd_pI_inv hn; obtain ⟨v2, r2, rfl, hn2⟩ := fd_pI_inv hn1; obtain ⟨-, -, -, rfl⟩ := fd_some4 hn2; exact Nat.le_refl _
  | 16, hok, hn => obtain ⟨v1, r1, rfl, hn1⟩ := fd_pI_inv hn; obtain ⟨v2, r2, rfl, hn2⟩ := fd_pI_inv hn1; obtain ⟨-, -, -, rfl⟩ := fd_some4 hn2; exact Nat.le_refl _
  | 17, hok, hn => obtain ⟨-, -, -, rfl⟩ := fd_some4 hn; exact Nat.le_refl _
  | 18, hok, hn => obtain ⟨v1, r1, rfl, hn1⟩ := fd_pJ_inv hn; obtain ⟨v2, r2, rfl, hn2⟩ := fd_pJ_inv hn1; obtain ⟨-, -, -, rfl⟩ := fd_some4 hn2; exact Nat.le_refl _
  | 19, hok, hn => obtain ⟨v1, r1, rfl, hn1⟩ := fd_pJ_inv hn; obtain ⟨v2, r2, rfl, hn2⟩ := fd_pJ_inv hn1; obtain ⟨-, -, -, rfl⟩ := fd_some4 hn2; exact Nat.le_refl _
  | 20, hok, hn => obtain ⟨v1, r1, rfl, hn1⟩ := fd_pJ_inv hn; obtain ⟨v2, r2, rfl, hn2⟩ := fd_pJ_inv hn1; obtain ⟨-, -, -, rfl⟩ := fd_some4 hn2; exact Nat.le_refl _
  | 21, hok, hn => obtain ⟨v1, r1, rfl, hn1⟩ := fd_pI_inv hn; obtain ⟨v2, r2, rfl, hn2⟩ := fd_pJ_inv hn1; obtain ⟨-, -, -, rfl⟩ := fd_some4 hn2; exact Nat.le_refl _
  | 22, hok, hn => obtain ⟨v1, r1, rfl, hn1⟩ := fd_pJ_inv hn; obtain ⟨v2, r2, rfl, hn2⟩ := fd_pJ_inv hn1; obtain ⟨-, -, -, rfl⟩ := fd_some4 hn2; exact Nat.le_refl _
  | 23, hok, hn => obtain ⟨v1, r1, rfl, hn1⟩ := fd_pI_inv hn; obtain ⟨-, -, -, rfl⟩ := fd_some4 hn1; exact Nat.le_refl _
  | 24, hok, hn =>
    rcases st with _ | ⟨⟨a⟩ | ⟨a⟩ | ⟨a⟩, r⟩
    · cases hn
    · obtain ⟨-, -, -, rfl⟩ := fd_some4 hn; exact Nat.le_refl _
    · cases hn
    · obtain ⟨-, -, -, rfl⟩ := fd_some4 hn; exact Nat.le_refl _
  | 25, hok, hn => obtain ⟨v1, r1, rfl, hn1⟩ := fd_pI_inv hn; obtain ⟨v2, r2, rfl, hn2⟩ := fd_pR_inv hn1; obtain ⟨-, -, -, rfl⟩ := fd_some4 hn2; exact Nat.le_refl _
  | 26, hok, hn => obtain ⟨v1, r1, rfl, hn1⟩ := fd_pI_inv hn; obtain ⟨-, -, -, rfl⟩ := fd_some4 hn1; exact Nat.le_refl _
  | 27, hok, hn => obtain ⟨v1, r1, rfl, hn1⟩ := fd_pR_inv hn; obtain ⟨-, -, -, rfl⟩ := fd_some4 hn1; exact Nat.le_refl _
  | 28, hok, hn =>
    rw [fd_okI, Bool.and_eq_true, Bool.and_eq_true] at hok
    obtain ⟨hci, -, -, -⟩ := fd_okF_inv hok.2.1
    have hn : fd_put ph (fd_n as 0) (fd_n as 1) (fd_n as 2) L st M = some (true, L', st', M') := hn
    unfold fd_put at hn
    split at hn
    · obtain ⟨_, _, rfl, hn1⟩ := fd_pI_inv hn; obtain ⟨_, _, rfl, hn2⟩ := fd_pR_inv hn1; obtain ⟨hg, -, -, rfl⟩ := fd_some4 hn2; exact fd_up_mono (by rw [(fd_isO_inv hg).1]; omega)
    · obtain ⟨_, _, rfl, hn1⟩ := fd_pJ_inv hn; obtain ⟨_, _, rfl, hn2⟩ := fd_pR_inv hn1; obtain ⟨hg, -, -, rfl⟩ := fd_some4 hn2; exact fd_up_mono (by rw [(fd_isO_inv hg).1]; omega)
    · obtain ⟨_, _, rfl, hn1⟩ := fd_pR_inv hn; obtain ⟨_, _, rfl, hn2⟩ := fd_pR_inv hn1; obtain ⟨hg, -, -, rfl⟩ := fd_some4 hn2
      rw [Bool.and_eq_true, Bool.and_eq_true] at hg
      exact fd_up_mono (by rw [(fd_isO_inv hg.2.1).1]; omega)
    · obtain ⟨_, _, rfl, hn1⟩ := fd_pI_inv hn; obtain ⟨_, _, rfl, hn2⟩ := fd_pR_inv hn1; obtain ⟨hg, -, -, rfl⟩ := fd_some4 hn2
      rw [Bool.and_eq_true] at hg
      exact fd_up_mono (by rw [(fd_isO_inv hg.1).1]; omega)
    · cases hn
  | 29, hok, hn => obtain ⟨-, -, -, rfl⟩ := fd_some4 hn; exact Nat.le_refl _
  | 30, hok, hn => obtain ⟨v1, r1, rfl, hn1⟩ := fd_pI_inv hn; obtain ⟨v2, r2, rfl, hn2⟩ := fd_pR_inv hn1; obtain ⟨-, -, -, rfl⟩ := fd_some4 hn2; exact Nat.le_refl _
  | 31, hok, hn => obtain ⟨v1, r1, rfl, hn1⟩ := fd_pI_inv hn; obtain ⟨v2, r2, rfl, hn2⟩ := fd_pI_inv hn1; obtain ⟨v3, r3, rfl, hn3⟩ := fd_pR_inv hn2; obtain ⟨hg, -, -, rfl⟩ := fd_some4 hn3; exact fd_up_mono (by rw [(fd_isA_inv hg).1]; decide)
  | 32, hok, hn => obtain ⟨v1, r1, rfl, hn1⟩ := fd_pI_inv hn; obtain ⟨v2, r2, rfl, hn2⟩ := fd_pR_inv hn1; obtain ⟨-, -, -, rfl⟩ := fd_some4 hn2; exact Nat.le_refl _
  | 33, hok, hn =>
    obtain ⟨v1, r1, rfl, hn1⟩ := fd_pI_inv hn; obtain ⟨v2, r2, rfl, hn2⟩ := fd_pI_inv hn1; obtain ⟨v3, r3, rfl, hn3⟩ := fd_pR_inv hn2; obtain ⟨hg, -, -, rfl⟩ := fd_some4 hn3
    rw [Bool.or_eq_true, Bool.and_eq_true, Bool.and_eq_true] at hg
    rcases hg with hg | hg <;> exact fd_up_mono (by rw [(fd_isA_inv hg.1).1]; decide)
  | 34, hok, hn => obtain ⟨v1, r1, rfl, hn1⟩ := fd_pI_inv hn; obtain ⟨v2, r2, rfl, hn2⟩ := fd_pR_inv hn1; obtain ⟨-, -, -, rfl⟩ := fd_some4 hn2; exact Nat.le_refl _
  | 35, hok, hn =>
    obtain ⟨v1, r1, rfl, hn1⟩ := fd_pR_inv hn; obtain ⟨v2, r2, rfl, hn2⟩ := fd_pI_inv hn1; obtain ⟨v3, r3, rfl, hn3⟩ := fd_pR_inv hn2; obtain ⟨hg, -, -, rfl⟩ := fd_some4 hn3
    rw [Bool.or_eq_true, Bool.and_eq_true, Bool.and_eq_true] at hg
    rcases hg with hg | hg <;> exact fd_up_mono (by rw [(fd_isA_inv hg.1).1]; decide)
  | 36, hok, hn => obtain ⟨v1, r1, rfl, hn1⟩ := fd_pR_inv hn; obtain ⟨-, -, -, rfl⟩ := fd_some4 hn1; exact Nat.le_refl _
  | 37, hok, hn =>
    have h24 : fd_n as 0 ≤ 24 := by
      rw [fd_okI, Bool.and_eq_true, Bool.and_eq_true] at hok
      have := of_decide_eq_true hok.2.1
      omega
    obtain ⟨hg, -, -, rfl⟩ := fd_some4 hn
    rw [Bool.and_eq_true, Bool.and_eq_true] at hg
    exact fd_nw_mono (by rw [Nat.eq_of_beq_eq_true hg.2.1]; exact h24)
  | 38, hok, hn =>
    have h24 : fd_n as 0 ≤ 24 := by
      rw [fd_okI, Bool.and_eq_true] at hok
      have := of_decide_eq_true hok.2
      omega
    obtain ⟨v1, r1, rfl, hn1⟩ := fd_pI_inv hn; obtain ⟨hg, -, -, rfl⟩ := fd_some4 hn1
    rw [Bool.and_eq_true, Bool.and_eq_true] at hg
    exact fd_nw_mono (by rw [Nat.eq_of_beq_eq_true hg.2.1]; exact h24)
  | 39, hok, hn =>
    have h24 : fd_n as 0 ≤ 24 := by
      rw [fd_okI, Bool.and_eq_true, Bool.and_eq_true] at hok
      have := of_decide_eq_true hok.2.1
      omega
    obtain ⟨v1, r1, rfl, hn1⟩ := fd_pI_inv hn; obtain ⟨hg, -, -, rfl⟩ := fd_some4 hn1
    rw [Bool.and_eq_true, Bool.and_eq_true] at hg
    exact fd_nw_mono (by rw [Nat.eq_of_beq_eq_true hg.2.1]; exact h24)
  | 40, hok, hn =>
    obtain ⟨v1, r1, rfl, hn1⟩ := fd_pI_inv hn; obtain ⟨v2, r2, rfl, hn2⟩ := fd_pI_inv hn1; obtain ⟨v3, r3, rfl, hn3⟩ := fd_pR_inv hn2; obtain ⟨v4, r4, rfl, hn4⟩ := fd_pI_inv hn3; obtain ⟨v5, r5, rfl, hn5⟩ := fd_pR_inv hn4; obtain ⟨hg, -, -, rfl⟩ := fd_some4 hn5
    rw [Bool.and_eq_true, Bool.and_eq_true, Bool.and_eq_true, Bool.and_eq_true, Bool.and_eq_true] at hg
    have hs2 := Nat.eq_of_beq_eq_true hg.1.2.1
    have h2 := (fd_sh_at (c := v3) (by omega)).1
    have e : fd_cp M v5 v4.toNat v3 v2.toNat v1.toNat 5000 0 = M 5000 0 := by simp [fd_cp, show ¬ 5000 = v3 by omega]
    show (M 5000 0).toNat ≤ Int.toNat _
    rw [e]
    exact Nat.le_refl _
  | 41, hok, hn => obtain ⟨v1, r1, rfl, hn1⟩ := fd_pJ_inv hn; obtain ⟨-, -, -, rfl⟩ := fd_some4 hn1; exact Nat.le_refl _
  | 42, hok, hn => obtain ⟨v1, r1, rfl, hn1⟩ := fd_pR_inv hn; obtain ⟨-, -, -, rfl⟩ := fd_some4 hn1; exact Nat.le_refl _
  | 43, hok, hn => obtain ⟨v1, r1, rfl, hn1⟩ := fd_pI_inv hn; obtain ⟨v2, r2, rfl, hn2⟩ := fd_pR_inv hn1; obtain ⟨-, -, -, rfl⟩ := fd_some4 hn2; exact Nat.le_refl _
  | 44, hok, hn => obtain ⟨v1, r1, rfl, hn1⟩ := fd_pI_inv hn; obtain ⟨v2, r2, rfl, hn2⟩ := fd_pI_inv hn1; obtain ⟨-, -, -, rfl⟩ := fd_some4 hn2; exact Nat.le_refl _
  | 45, hok, hn => obtain ⟨v1, r1, rfl, hn1⟩ := fd_pI_inv hn; obtain ⟨v2, r2, rfl, hn2⟩ := fd_pJ_inv hn1; obtain ⟨-, -, -, rfl⟩ := fd_some4 hn2; exact Nat.le_refl _
  | n + 46, hok, hn => cases hn
theorem fd_jp_inv {pcs : List Nat} {pc t : Nat} {off : Int} (h : fd_jp pcs pc t off = true) : pcs[t]? = some ((pc : Int) + off).toNat ∧ (pc : Int) + off = ((((pc : Int) + off).toNat : Nat) : Int) := by
  have h1 := of_decide_eq_true h
  exact ⟨h1.1, (Int.toNat_of_nonneg h1.2).symm⟩
theorem fd_icmp_inv {own : String} {b : ByteArray} {ini : Bool} {pcs : List Nat} {pc nx op : Nat} {as : List Int} (h1 : 101 ≤ op) (h2 : op ≤ 106) (h : fd_okI own b ini pcs pc nx op as = true) : ∃ off, decode b pc = .ok (.if_icmp (fd_icmp (op - 101)) off, 3) ∧ nx = pc + 3 ∧ fd_jp pcs pc (fd_n as 0) off = true := by
  unfold fd_okI at h
  split at h
  all_goals first | omega | skip
  rw [if_pos ⟨h1, h2⟩] at h
  split at h
  · rename_i cd off hde
    rw [Bool.and_eq_true] at h
    obtain ⟨e1, e2⟩ := of_decide_eq_true h.1
    subst e1
    exact ⟨off, hde, e2, h.2⟩
  · cases h
theorem fd_ifc_inv {own : String} {b : ByteArray} {ini : Bool} {pcs : List Nat} {pc nx op : Nat} {as : List Int} (h1 : 107 ≤ op) (h2 : op ≤ 112) (h : fd_okI own b ini pcs pc nx op as = true) : ∃ off, decode b pc = .ok (.ifCond (fd_icmp (op - 107)) off, 3) ∧ nx = pc + 3 ∧ fd_jp pcs pc (fd_n as 0) off = true := by
  unfold fd_okI at h
  split at h
  all_goals first | omega | skip
  rw [if_neg (by omega), if_pos ⟨h1, h2⟩] at h
  split at h
  · rename_i cd off hde
    rw [Bool.and_eq_true] at h
    obtain ⟨e1, e2⟩ := of_decide_eq_true h.1
    subst e1
    exact ⟨off, hde, e2, h.2⟩
  · cases h
theorem fd_j100 {j : Nat} (cx : fd_cx g p R s m args meth c mm) (hok : fd_okI (fd_y mm).cls (fd_b mm) (fd_ini mm) (fd_pcs mm) pc ((fd_pcs mm).getD (i + 1) 0) 100 as = true) (hn : fd_jmp 100 as i st = some (true, j, st')) (kk : fd_Go g ph p l e R s m args below meth c mm a0 Q j L st' M) (hH : fd_hp g ph M H) (hS : va_S (fd_A g) s.heap H locs) (hl : fd_lr g la (fd_mL mm) L) : W p l e R s m args below meth c H locs (fd_ap M - a0) (fd_sl (fd_ap M) - fd_sl a0) Q (F0 m pc la (st.map (fd_cv g))) := by
  rw [fd_okI] at hok
  split at hok
  · rename_i off hd
    obtain ⟨h1, h2⟩ := fd_jp_inv hok
    cases hn
    exact lv_goto cx.1 cx.2.1 hd h2 (kk _ H locs la h1 hH hS hl)
  · cases hok
theorem fd_j101 {j : Nat} (cx : fd_cx g p R s m args meth c mm) (hok : fd_okI (fd_y mm).cls (fd_b mm) (fd_ini mm) (fd_pcs mm) pc ((fd_pcs mm).getD (i + 1) 0) 101 as = true) (hn : fd_jmp 101 as i st = some (true, j, st')) (kk : fd_Go g ph p l e R s m args below meth c mm a0 Q j L st' M) (hH : fd_hp g ph M H) (hS : va_S (fd_A g) s.heap H locs) (hl : fd_lr g la (fd_mL mm) L) : W p l e R s m args below meth c H locs (fd_ap M - a0) (fd_sl (fd_ap M) - fd_sl a0) Q (F0 m pc la (st.map (fd_cv g))) := by
  obtain ⟨off, hd, hnx, hjp⟩ := fd_icmp_inv (by decide) (by decide) hok
  obtain ⟨h1, h2⟩ := fd_jp_inv hjp
  rcases st with _ | ⟨⟨b⟩ | ⟨b⟩ | ⟨b⟩, r⟩
  · cases hn
  rotate_left
  · cases hn
  · cases hn
  rcases r with _ | ⟨⟨a⟩ | ⟨a⟩ | ⟨a⟩, r⟩
  · cases hn
  rotate_left
  · cases hn
  · cases hn
  have hn : (some (fd_rng a && fd_rng b, (if a = b then fd_n as 0 else i + 1), r) : Option (Bool × Nat × List fd_V)) = some (true, j, st') := hn
  injection hn with hn
  injection hn with hr hn
  injection hn with hj hs
  subst hj
  subst hs
  rw [Bool.and_eq_true, fd_rng_iff, fd_rng_iff] at hr
  refine lv_icmp_eq cx.1 cx.2.1 hd h2 (fun q => ?_) (fun q => ?_)
  · rw [if_pos ((fd_eqI hr.1 hr.2).mp q)] at kk
    exact kk _ H locs la h1 hH hS hl
  · rw [if_neg (fun z => q ((fd_eqI hr.1 hr.2).mpr z))] at kk
    exact kk _ H locs la (fd_nxt hnx (by decide)) hH hS hl
theorem fd_j102 {j : Nat} (cx : fd_cx g p R s m args meth c mm) (hok : fd_okI (fd_y mm).cls (fd_b mm) (fd_ini mm) (fd_pcs mm) pc ((fd_pcs mm).getD (i + 1) 0) 102 as = true) (hn : fd_jmp 102 as i st = some (true, j, st')) (kk : fd_Go g ph p l e R s m args below meth c mm a0 Q j L st' M) (hH : fd_hp g ph M H) (hS : va_S (fd_A g) s.heap H locs) (hl : fd_lr g la (fd_mL mm) L) : W p l e R s m args below meth c H locs (fd_ap M - a0) (fd_sl (fd_ap M) - fd_sl a0) Q (F0 m pc la (st.map (fd_cv g))) := by
  obtain ⟨off, hd, hnx, hjp⟩ := fd_icmp_inv (by decide) (by decide) hok
  obtain ⟨h1, h2⟩ := fd_jp_inv hjp
  rcases st with _ | ⟨⟨b⟩ | ⟨b⟩ | ⟨b⟩, r⟩
  · cases hn
  rotate_left
  · cases hn
  · cases hn
  rcases r with _ | ⟨⟨a⟩ | ⟨a⟩ | ⟨a⟩, r⟩
  · cases hn
  rotate_left
  · cases hn
  · cases hn
  have hn : (some (fd_rng a && fd_rng b, (if ¬ a = b then fd_n as 0 else i + 1), r) : Option (Bool × Nat × List fd_V)) = some (true, j, st') := hn
  injection hn with hn
  injection hn with hr hn
  injection hn with hj hs
  subst hj
  subst hs
  rw [Bool.and_eq_true, fd_rng_iff, fd_rng_iff] at hr
  refine lv_icmp_ne cx.1 cx.2.1 hd h2 (fun q => ?_) (fun q => ?_)
  · rw [if_pos (fun z => q ((fd_eqI hr.1 hr.2).mpr z))] at kk
    exact kk _ H locs la h1 hH hS hl
  · rw [if_neg (fun z => z ((fd_eqI hr.1 hr.2).mp q))] at kk
    exact kk _ H locs la (fd_nxt hnx (by decide)) hH hS hl
theorem fd_j103 {j : Nat} (cx : fd_cx g p R s m args meth c mm) (hok : fd_okI (fd_y mm).cls (fd_b mm) (fd_ini mm) (fd_pcs mm) pc ((fd_pcs mm).getD (i + 1) 0) 103 as = true) (hn : fd_jmp 103 as i st = some (true, j, st')) (kk : fd_Go g ph p l e R s m args below meth c mm a0 Q j L st' M) (hH : fd_hp g ph M H) (hS : va_S (fd_A g) s.heap H locs) (hl : fd_lr g la (fd_mL mm) L) : W p l e R s m args below meth c H locs (fd_ap M - a0) (fd_sl (fd_ap M) - fd_sl a0) Q (F0 m pc la (st.map (fd_cv g))) := by
  obtain ⟨off, hd, hnx, hjp⟩ := fd_icmp_inv (by decide) (by decide) hok
  obtain ⟨h1, h2⟩ := fd_jp_inv hjp
  rcases st with _ | ⟨⟨b⟩ | ⟨b⟩ | ⟨b⟩, r⟩
  · cases hn
  rotate_left
  · cases hn
  · cases hn
  rcases r with _ | ⟨⟨a⟩ | ⟨a⟩ | ⟨a⟩, r⟩
  · cases hn
  rotate_left
  · cases hn
  · cases hn
  have hn : (some (fd_rng a && fd_rng b, (if a < b then fd_n as 0 else i + 1), r) : Option (Bool × Nat × List fd_V)) = some (true, j, st') := hn
  injection hn with hn
  injection hn with hr hn
  injection hn with hj hs
  subst hj
  subst hs
  rw [Bool.and_eq_true, fd_rng_iff, fd_rng_iff] at hr
  refine lv_icmp_lt cx.1 cx.2.1 hd h2 (fun q => ?_) (fun q => ?_)
  · rw [if_pos ((fd_ltI hr.1 hr.2).mp q)] at kk
    exact kk _ H locs la h1 hH hS hl
  · rw [if_neg (fun z => q ((fd_ltI hr.1 hr.2).mpr z))] at kk
    exact kk _ H locs la (fd_nxt hnx (by decide)) hH hS hl
theorem fd_j104 {j : Nat} (cx : fd_cx g p R s m args meth c mm) (hok : fd_okI (fd_y mm).cls (fd_b mm) (fd_ini mm) (fd_pcs mm) pc ((fd_pcs mm).getD (i + 1) 0) 104 as = true) (hn : fd_jmp 104 as i st = some (true, j, st')) (kk : fd_Go g ph p l e R s m args below meth c mm a0 Q j L st' M) (hH : fd_hp g ph M H) (hS : va_S (fd_A g) s.heap H locs) (hl : fd_lr g la (fd_mL mm) L) : W p l e R s m args below meth c H locs (fd_ap M - a0) (fd_sl (fd_ap M) - fd_sl a0) Q (F0 m pc la (st.map (fd_cv g))) := by
  obtain ⟨off, hd, hnx, hjp⟩ := fd_icmp_inv (by decide) (by decide) hok
  obtain ⟨h1, h2⟩ := fd_jp_inv hjp
  rcases st with _ | ⟨⟨b⟩ | ⟨b⟩ | ⟨b⟩, r⟩
  · cases hn
  rotate_left
  · cases hn
  · cases hn
  rcases r with _ | ⟨⟨a⟩ | ⟨a⟩ | ⟨a⟩, r⟩
  · cases hn
  rotate_left
  · cases hn
  · cases hn
  have hn : (some (fd_rng a && fd_rng b, (if b ≤ a then fd_n as 0 else i + 1), r) : Option (Bool × Nat × List fd_V)) = some (true, j, st') := hn
  injection hn with hn
  injection hn with hr hn
  injection hn with hj hs
  subst hj
  subst hs
  rw [Bool.and_eq_true, fd_rng_iff, fd_rng_iff] at hr
  refine lv_icmp_ge cx.1 cx.2.1 hd h2 (fun q => ?_) (fun q => ?_)
  · rw [if_pos ((fd_leI hr.2 hr.1).mp q)] at kk
    exact kk _ H locs la h1 hH hS hl
  · rw [if_neg (fun z => q ((fd_leI hr.2 hr.1).mpr z))] at kk
    exact kk _ H locs la (fd_nxt hnx (by decide)) hH hS hl
theorem fd_j105 {j : Nat} (cx : fd_cx g p R s m args meth c mm) (hok : fd_okI (fd_y mm).cls (fd_b mm) (fd_ini mm) (fd_pcs mm) pc ((fd_pcs mm).getD (i + 1) 0) 105 as = true) (hn : fd_jmp 105 as i st = some (true, j, st')) (kk : fd_Go g ph p l e R s m args below meth c mm a0 Q j L st' M) (hH : fd_hp g ph M H) (hS : va_S (fd_A g) s.heap H locs) (hl : fd_lr g la (fd_mL mm) L) : W p l e R s m args below meth c H locs (fd_ap M - a0) (fd_sl (fd_ap M) - fd_sl a0) Q (F0 m pc la (st.map (fd_cv g))) := by
  obtain ⟨off, hd, hnx, hjp⟩ := fd_icmp_inv (by decide) (by decide) hok
  obtain ⟨h1, h2⟩ := fd_jp_inv hjp
  rcases st with _ | ⟨⟨b⟩ | ⟨b⟩ | ⟨b⟩, r⟩
  · cases hn
  rotate_left
  · cases hn
  · cases hn
  rcases r with _ | ⟨⟨a⟩ | ⟨a⟩ | ⟨a⟩, r⟩
  · cases hn
  rotate_left
  · cases hn
  · cases hn
  have hn : (some (fd_rng a && fd_rng b, (if b < a then fd_n as 0 else i + 1), r) : Option (Bool × Nat × List fd_V)) = some (true, j, st') := hn
  injection hn with hn
  injection hn with hr hn
  injection hn with hj hs
  subst hj
  subst hs
  rw [Bool.and_eq_true, fd_rng_iff, fd_rng_iff] at hr
  refine lv_icmp_gt cx.1 cx.2.1 hd h2 (fun q => ?_) (fun q => ?_)
  · rw [if_pos ((fd_ltI hr.2 hr.1).mp q)] at kk
    exact kk _ H locs la h1 hH hS hl
  · rw [if_neg (fun z => q ((fd_ltI hr.2 hr.1).mpr z))] at kk
    exact kk _ H locs la (fd_nxt hnx (by decide)) hH hS hl
theorem fd_j106 {j : Nat} (cx : fd_cx g p R s m args meth c mm) (hok : fd_okI (fd_y mm).cls (fd_b mm) (fd_ini mm) (fd_pcs mm) pc ((fd_pcs mm).getD (i + 1) 0) 106 as = true) (hn : fd_jmp 106 as i st = some (true, j, st')) (kk : fd_Go g ph p l e R s m args below meth c mm a0 Q j L st' M) (hH : fd_hp g ph M H) (hS : va_S (fd_A g) s.heap H locs) (hl : fd_lr g la (fd_mL mm) L) : W p l e R s m args below meth c H locs (fd_ap M - a0) (fd_sl (fd_ap M) - fd_sl a0) Q (F0 m pc la (st.map (fd_cv g))) := by
  obtain ⟨off, hd, hnx, hjp⟩ := fd_icmp_inv (by decide) (by decide) hok
  obtain ⟨h1, h2⟩ := fd_jp_inv hjp
  rcases st with _ | ⟨⟨b⟩ | ⟨b⟩ | ⟨b⟩, r⟩
  · cases hn
  rotate_left
  · cases hn
  · cases hn
  rcases r with _ | ⟨⟨a⟩ | ⟨a⟩ | ⟨a⟩, r⟩
  · cases hn
  rotate_left
  · cases hn
  · cases hn
  have hn : (some (fd_rng a && fd_rng b, (if a ≤ b then fd_n as 0 else i + 1), r) : Option (Bool × Nat × List fd_V)) = some (true, j, st') := hn
  injection hn with hn
  injection hn with hr hn
  injection hn with hj hs
  subst hj
  subst hs
  rw [Bool.and_eq_true, fd_rng_iff, fd_rng_iff] at hr
  refine lv_icmp_le cx.1 cx.2.1 hd h2 (fun q => ?_) (fun q => ?_)
  · rw [if_pos ((fd_leI hr.1 hr.2).mp q)] at kk
    exact kk _ H locs la h1 hH hS hl
  · rw [if_neg (fun z => q ((fd_leI hr.1 hr.2).mpr z))] at kk
    exact kk _ H locs la (fd_nxt hnx (by decide)) hH hS hl
theorem fd_j107 {j : Nat} (cx : fd_cx g p R s m args meth c mm) (hok : fd_okI (fd_y mm).cls (fd_b mm) (fd_ini mm) (fd_pcs mm) pc ((fd_pcs mm).getD (i + 1) 0) 107 as = true) (hn : fd_jmp 107 as i st = some (true, j, st')) (kk : fd_Go g ph p l e R s m args below meth c mm a0 Q j L st' M) (hH : fd_hp g ph M H) (hS : va_S (fd_A g) s.heap H locs) (hl : fd_lr g la (fd_mL mm) L) : W p l e R s m args below meth c H locs (fd_ap M - a0) (fd_sl (fd_ap M) - fd_sl a0) Q (F0 m pc la (st.map (fd_cv g))) := by
  obtain ⟨off, hd, hnx, hjp⟩ := fd_ifc_inv (by decide) (by decide) hok
  obtain ⟨h1, h2⟩ := fd_jp_inv hjp
  rcases st with _ | ⟨⟨a⟩ | ⟨a⟩ | ⟨a⟩, r⟩
  · cases hn
  rotate_left
  · cases hn
  · cases hn
  have hn : (some (fd_rng a, (if a = 0 then fd_n as 0 else i + 1), r) : Option (Bool × Nat × List fd_V)) = some (true, j, st') := hn
  injection hn with hn
  injection hn with hr hn
  injection hn with hj hs
  subst hj
  subst hs
  rw [fd_rng_iff] at hr
  have z0 : (-2147483648 : Int) ≤ 0 ∧ (0 : Int) < 2147483648 := by decide
  refine lv_if_eq cx.1 cx.2.1 hd h2 (fun q => ?_) (fun q => ?_)
  · rw [if_pos ((fd_eqI hr z0).mp q)] at kk
    exact kk _ H locs la h1 hH hS hl
  · rw [if_neg (fun z => q ((fd_eqI hr z0).mpr z))] at kk
    exact kk _ H locs la (fd_nxt hnx (by decide)) hH hS hl
theorem fd_j108 {j : Nat} (cx : fd_cx g p R s m args meth c mm) (hok : fd_okI (fd_y mm).cls (fd_b mm) (fd_ini mm) (fd_pcs mm) pc ((fd_pcs mm).getD (i + 1) 0) 108 as = true) (hn : fd_jmp 108 as i st = some (true, j, st')) (kk : fd_Go g ph p l e R s m args below meth c mm a0 Q j L st' M) (hH : fd_hp g ph M H) (hS : va_S (fd_A g) s.heap H locs) (hl : fd_lr g la (fd_mL mm) L) : W p l e R s m args below meth c H locs (fd_ap M - a0) (fd_sl (fd_ap M) - fd_sl a0) Q (F0 m pc la (st.map (fd_cv g))) := by
  obtain ⟨off, hd, hnx, hjp⟩ := fd_ifc_inv (by decide) (by decide) hok
  obtain ⟨h1, h2⟩ := fd_jp_inv hjp
  rcases st with _ | ⟨⟨a⟩ | ⟨a⟩ | ⟨a⟩, r⟩
  · cases hn
  rotate_left
  · cases hn
  · cases hn
  have hn : (some (fd_rng a, (if ¬ a = 0 then fd_n as 0 else i + 1), r) : Option (Bool × Nat × List fd_V)) = some (true, j, st') := hn
  injection hn with hn
  injection hn with hr hn
  injection hn with hj hs
  subst hj
  subst hs
  rw [fd_rng_iff] at hr
  have z0 : (-2147483648 : Int) ≤ 0 ∧ (0 : Int) < 2147483648 := by decide
  refine lv_if_ne cx.1 cx.2.1 hd h2 (fun q => ?_) (fun q => ?_)
  · rw [if_pos (fun z => q ((fd_eqI hr z0).mpr z))] at kk
    exact kk _ H locs la h1 hH hS hl
  · rw [if_neg (fun z => z ((fd_eqI hr z0).mp q))] at kk
    exact kk _ H locs la (fd_nxt hnx (by decide)) hH hS hl
theorem fd_j109 {j : Nat} (cx : fd_cx g p R s m args meth c mm) (hok : fd_okI (fd_y mm).cls (fd_b mm) (fd_ini mm) (fd_pcs mm) pc ((fd_pcs mm).getD (i + 1) 0) 109 as = true) (hn : fd_jmp 109 as i st = some (true, j, st')) (kk : fd_Go g ph p l e R s m args below meth c mm a0 Q j L st' M) (hH : fd_hp g ph M H) (hS : va_S (fd_A g) s.heap H locs) (hl : fd_lr g la (fd_mL mm) L) : W p l e R s m args below meth c H locs (fd_ap M - a0) (fd_sl (fd_ap M) - fd_sl a0) Q (F0 m pc la (st.map (fd_cv g))) := by
  obtain ⟨off, hd, hnx, hjp⟩ := fd_ifc_inv (by decide) (by decide) hok
  obtain ⟨h1, h2⟩ := fd_jp_inv hjp
  rcases st with _ | ⟨⟨a⟩ | ⟨a⟩ | ⟨a⟩, r⟩
  · cases hn
  rotate_left
  · cases hn
  · cases hn
  have hn : (some (fd_rng a, (if a < 0 then fd_n as 0 else i + 1), r) : Option (Bool × Nat × List fd_V)) = some (true, j, st') := hn
  injection hn with hn
  injection hn with hr hn
  injection hn with hj hs
  subst hj
  subst hs
  rw [fd_rng_iff] at hr
  have z0 : (-2147483648 : Int) ≤ 0 ∧ (0 : Int) < 2147483648 := by decide
  refine lv_if_lt cx.1 cx.2.1 hd h2 (fun q => ?_) (fun q => ?_)
  · rw [if_pos ((fd_ltI hr z0).mp q)] at kk
    exact kk _ H locs la h1 hH hS hl
  · rw [if_neg (fun z => q ((fd_ltI hr z0).mpr z))] at kk
    exact kk _ H locs la (fd_nxt hnx (by decide)) hH hS hl
theorem fd_j110 {j : Nat} (cx : fd_cx g p R s m args meth c mm) (hok : fd_okI (fd_y mm).cls (fd_b mm) (fd_ini mm) (fd_pcs mm) pc ((fd_pcs mm).getD (i + 1) 0) 110 as = true) (hn : fd_jmp 110 as i st = some (true, j, st')) (kk : fd_Go g ph p l e R s m args below meth c mm a0 Q j L st' M) (hH : fd_hp g ph M H) (hS : va_S (fd_A g) s.heap H locs) (hl : fd_lr g la (fd_mL mm) L) : W p l e R s m args below meth c H locs (fd_ap M - a0) (fd_sl (fd_ap M) - fd_sl a0) Q (F0 m pc la (st.map (fd_cv g))) := by
  obtain ⟨off, hd, hnx, hjp⟩ := fd_ifc_inv (by decide) (by decide) hok
  obtain ⟨h1, h2⟩ := fd_jp_inv hjp
  rcases st with _ | ⟨⟨a⟩ | ⟨a⟩ | ⟨a⟩, r⟩
  · cases hn
  rotate_left
  · cases hn
  · cases hn
  have hn : (some (fd_rng a, (if 0 ≤ a then fd_n as 0 else i + 1), r) : Option (Bool × Nat × List fd_V)) = some (true, j, st') := hn
  injection hn with hn
  injection hn with hr hn
  injection hn with hj hs
  subst hj
  subst hs
  rw [fd_rng_iff] at hr
  have z0 : (-2147483648 : Int) ≤ 0 ∧ (0 : Int) < 2147483648 := by decide
  refine lv_if_ge cx.1 cx.2.1 hd h2 (fun q => ?_) (fun q => ?_)
  · rw [if_pos ((fd_leI z0 hr).mp q)] at kk
    exact kk _ H locs la h1 hH hS hl
  · rw [if_neg (fun z => q ((fd_leI z0 hr).mpr z))] at kk
    exact kk _ H locs la (fd_nxt hnx (by decide)) hH hS hl
theorem fd_j111 {j : Nat} (cx : fd_cx g p R s m args meth c mm) (hok : fd_okI (fd_y mm).cls (fd_b mm) (fd_ini mm) (fd_pcs mm) pc ((fd_pcs mm).getD (i + 1) 0) 111 as = true) (hn : fd_jmp 111 as i st = some (true, j, st')) (kk : fd_Go g ph p l e R s m args below meth c mm a0 Q j L st' M) (hH : fd_hp g ph M H) (hS : va_S (fd_A g) s.heap H locs) (hl : fd_lr g la (fd_mL mm) L) : W p l e R s m args below meth c H locs (fd_ap M - a0) (fd_sl (fd_ap M) - fd_sl a0) Q (F0 m pc la (st.map (fd_cv g))) := by
  obtain ⟨off, hd, hnx, hjp⟩ := fd_ifc_inv (by decide) (by decide) hok
  obtain ⟨h1, h2⟩ := fd_jp_inv hjp
  rcases st with _ | ⟨⟨a⟩ | ⟨a⟩ | ⟨a⟩, r⟩
  · cases hn
  rotate_left
  · cases hn
  · cases hn
  have hn : (some (fd_rng a, (if 0 < a then fd_n as 0 else i + 1), r) : Option (Bool × Nat × List fd_V)) = some (true, j, st') := hn
  injection hn with hn
  injection hn with hr hn
  injection hn with hj hs
  subst hj
  subst hs
  rw [fd_rng_iff] at hr
  have z0 : (-2147483648 : Int) ≤ 0 ∧ (0 : Int) < 2147483648 := by decide
  refine lv_if_gt cx.1 cx.2.1 hd h2 (fun q => ?_) (fun q => ?_)
  · rw [if_pos ((fd_ltI z0 hr).mp q)] at kk
    exact kk _ H locs la h1 hH hS hl
  · rw [if_neg (fun z => q ((fd_ltI z0 hr).mpr z))] at kk
    exact kk _ H locs la (fd_nxt hnx (by decide)) hH hS hl
theorem fd_j112 {j : Nat} (cx : fd_cx g p R s m args meth c mm) (hok : fd_okI (fd_y mm).cls (fd_b mm) (fd_ini mm) (fd_pcs mm) pc ((fd_pcs mm).getD (i + 1) 0) 112 as = true) (hn : fd_jmp 112 as i st = some (true, j, st')) (kk : fd_Go g ph p l e R s m args below meth c mm a0 Q j L st' M) (hH : fd_hp g ph M H) (hS : va_S (fd_A g) s.heap H locs) (hl : fd_lr g la (fd_mL mm) L) : W p l e R s m args below meth c H locs (fd_ap M - a0) (fd_sl (fd_ap M) - fd_sl a0) Q (F0 m pc la (st.map (fd_cv g))) := by
  obtain ⟨off, hd, hnx, hjp⟩ := fd_ifc_inv (by decide) (by decide) hok
  obtain ⟨h1, h2⟩ := fd_jp_inv hjp
  rcases st with _ | ⟨⟨a⟩ | ⟨a⟩ | ⟨a⟩, r⟩
  · cases hn
  rotate_left
  · cases hn
  · cases hn
  have hn : (some (fd_rng a, (if a ≤ 0 then fd_n as 0 else i + 1), r) : Option (Bool × Nat × List fd_V)) = some (true, j, st') := hn
  injection hn with hn
  injection hn with hr hn
  injection hn with hj hs
  subst hj
  subst hs
  rw [fd_rng_iff] at hr
  have z0 : (-2147483648 : Int) ≤ 0 ∧ (0 : Int) < 2147483648 := by decide
  refine lv_if_le cx.1 cx.2.1 hd h2 (fun q => ?_) (fun q => ?_)
  · rw [if_pos ((fd_leI hr z0).mp q)] at kk
    exact kk _ H locs la h1 hH hS hl
  · rw [if_neg (fun z => q ((fd_leI hr z0).mpr z))] at kk
    exact kk _ H locs la (fd_nxt hnx (by decide)) hH hS hl
theorem fd_j113 {j : Nat} (cx : fd_cx g p R s m args meth c mm) (hok : fd_okI (fd_y mm).cls (fd_b mm) (fd_ini mm) (fd_pcs mm) pc ((fd_pcs mm).getD (i + 1) 0) 113 as = true) (hn : fd_jmp 113 as i st = some (true, j, st')) (kk : fd_Go g ph p l e R s m args below meth c mm a0 Q j L st' M) (hH : fd_hp g ph M H) (hS : va_S (fd_A g) s.heap H locs) (hl : fd_lr g la (fd_mL mm) L) : W p l e R s m args below meth c H locs (fd_ap M - a0) (fd_sl (fd_ap M) - fd_sl a0) Q (F0 m pc la (st.map (fd_cv g))) := by
  rw [fd_okI] at hok
  split at hok
  · rename_i d lo hi offs len hd
    rw [Bool.and_eq_true, Bool.and_eq_true] at hok
    obtain ⟨h1, h2⟩ := fd_jp_inv hok.1
    obtain ⟨k1, k2, k3, k4⟩ := of_decide_eq_true hok.2.1
    have hall := List.all_eq_true.mp hok.2.2
    rcases st with _ | ⟨⟨a⟩ | ⟨a⟩ | ⟨a⟩, r⟩
    · cases hn
    rotate_left
    · cases hn
    · cases hn
    have hn : (some (fd_rng a, (if 0 ≤ a - fd_a as 1 ∧ a - fd_a as 1 < (as.length : Int) - 2 then fd_n as (2 + (a - fd_a as 1).toNat) else fd_n as 0), r) : Option (Bool × Nat × List fd_V)) = some (true, j, st') := hn
    injection hn with hn
    injection hn with hr hn
    injection hn with hj hs
    subst hj
    subst hs
    rw [fd_rng_iff] at hr
    have ea : (Int32.ofInt a).toInt = a := fd_toI hr
    by_cases hc : 0 ≤ a - fd_a as 1 ∧ a - fd_a as 1 < (as.length : Int) - 2
    · rw [if_pos hc] at kk
      have hj := hall (a - fd_a as 1).toNat (List.mem_range.mpr (by omega))
      obtain ⟨q1, q2⟩ := fd_jp_inv hj
      have ho : offs[((Int32.ofInt a).toInt - lo).toNat]? = some (offs.toList.getD (a - fd_a as 1).toNat 0) := by
        rw [ea, ← k1, ← Array.getElem?_toList, List.getD_eq_getElem?_getD]
        have hlt : (a - fd_a as 1).toNat < offs.toList.length := by omega
        rw [List.getElem?_eq_getElem hlt]
        rfl
      exact lv_tableIn cx.1 cx.2.1 hd (by rw [ea]; omega) (by rw [ea]; omega) ho q2 (kk _ H locs la q1 hH hS hl)
    · rw [if_neg hc] at kk
      exact lv_tableOut cx.1 cx.2.1 hd (by rw [ea]; omega) h2 (kk _ H locs la h1 hH hS hl)
  · cases hok
theorem fd_look_ok {pcs : List Nat} {pc : Nat} {x d : Int} {dd : Int} (hd : fd_jp pcs pc dd.toNat d = true) : ∀ (ps : List (Int × Int)) (as : List Int), as.length = 2 * ps.length → (∀ j, j < ps.length → (as.getD (2 * j) 0 = (ps.getD j (0, 0)).1 ∧ 0 ≤ as.getD (2 * j + 1) 0) ∧ fd_jp pcs pc (as.getD (2 * j + 1) 0).toNat (ps.getD j (0, 0)).2 = true) → fd_jp pcs pc (fd_look x dd as).toNat (Op.lookupswitch.offset ps d x) = true
  | [], as, h, _ => by
    have : as = [] := List.length_eq_zero_iff.mp (by simpa using h)
    subst this
    exact hd
  | (k, o) :: ps, as, h, hj => by
    match as, h with
    | [], h => simp at h
    | [_], h => simp at h; omega
    | k' :: t' :: r, h =>
      have h0 := hj 0 (by simp)
      simp only [List.getD_cons_zero, Nat.mul_zero, Nat.zero_add, List.getD_cons_succ] at h0
      rw [Op.lookupswitch.offset_cons, fd_look]
      have e1 : k' = k := h0.1.1
      subst e1
      by_cases hx : x = k'
      · rw [if_pos hx, if_pos hx.symm]
        exact h0.2
      · rw [if_neg hx, if_neg (fun q => hx q.symm)]
        refine fd_look_ok hd ps r (by simp at h; omega) (fun j hjl => ?_)
        have h1 := hj (j + 1) (by simp; omega)
        simpa [Nat.mul_add, Nat.mul_one, List.getD_cons_succ] using h1
theorem fd_j118 {j : Nat} (cx : fd_cx g p R s m args meth c mm) (hok : fd_okI (fd_y mm).cls (fd_b mm) (fd_ini mm) (fd_pcs mm) pc ((fd_pcs mm).getD (i + 1) 0) 118 as = true) (hn : fd_jmp 118 as i st = some (true, j, st')) (kk : fd_Go g ph p l e R s m args below meth c mm a0 Q j L st' M) (hH : fd_hp g ph M H) (hS : va_S (fd_A g) s.heap H locs) (hl : fd_lr g la (fd_mL mm) L) : W p l e R s m args below meth c H locs (fd_ap M - a0) (fd_sl (fd_ap M) - fd_sl a0) Q (F0 m pc la (st.map (fd_cv g))) := by
  rw [fd_okI] at hok
  split at hok
  · rename_i d ps len hd
    rw [Bool.and_eq_true, Bool.and_eq_true, Bool.and_eq_true] at hok
    obtain ⟨hdj, hso, hln, hal⟩ := hok
    have hln := of_decide_eq_true hln
    have hall := List.all_eq_true.mp hal
    rcases st with _ | ⟨⟨a⟩ | ⟨a⟩ | ⟨a⟩, r⟩
    · cases hn
    rotate_left
    · cases hn
    · cases hn
    have hn : (some (fd_rng a, (fd_look a (fd_a as 0) (as.drop 1)).toNat, r) : Option (Bool × Nat × List fd_V)) = some (true, j, st') := hn
    injection hn with hn
    injection hn with hr hn
    injection hn with hj hs
    subst hj
    subst hs
    rw [fd_rng_iff] at hr
    have ea : (Int32.ofInt a).toInt = a := fd_toI hr
    have key := fd_look_ok (pcs := fd_pcs mm) (pc := pc) (x := a) (d := d) (dd := fd_a as 0) hdj ps.toList (as.drop 1) (by rw [List.length_drop]; omega) (fun j hjl => by
      have h1 := hall j (List.mem_range.mpr hjl)
      rw [Bool.and_eq_true] at h1
      have h2 := of_decide_eq_true h1.1
      have e1 : ∀ k, (as.drop 1).getD k 0 = as.getD (1 + k) 0 := fun k => by
        rw [List.getD_eq_getElem?_getD, List.getD_eq_getElem?_getD, List.getElem?_drop]
      rw [e1, e1, show 1 + (2 * j + 1) = 2 + 2 * j by omega]
      exact ⟨h2, h1.2⟩)
    obtain ⟨q1, q2⟩ := fd_jp_inv key
    exact lv_lookup cx.1 cx.2.1 hd hso (by rw [ea]) q2 (kk _ H locs la q1 hH hS hl)
  · cases hok
theorem fd_jump {op j : Nat} (cx : fd_cx g p R s m args meth c mm) (hok : fd_okI (fd_y mm).cls (fd_b mm) (fd_ini mm) (fd_pcs mm) pc ((fd_pcs mm).getD (i + 1) 0) op as = true) (hn : fd_jmp op as i st = some (true, j, st')) (kk : fd_Go g ph p l e R s m args below meth c mm a0 Q j L st' M) (hH : fd_hp g ph M H) (hS : va_S (fd_A g) s.heap H locs) (hl : fd_lr g la (fd_mL mm) L) : W p l e R s m args below meth c H locs (fd_ap M - a0) (fd_sl (fd_ap M) - fd_sl a0) Q (F0 m pc la (st.map (fd_cv g))) := by
  have hop : op = 100 ∨ op = 101 ∨ op = 102 ∨ op = 103 ∨ op = 104 ∨ op = 105 ∨ op = 106 ∨ op = 107 ∨ op = 108 ∨ op = 109 ∨ op = 110 ∨ op = 111 ∨ op = 112 ∨ op = 113 ∨ op = 118 := by
    unfold fd_jmp at hn
    split at hn
    all_goals first | (cases hn; done) | omega
  rcases hop with rfl | rfl | rfl | rfl | rfl | rfl | rfl | rfl | rfl | rfl | rfl | rfl | rfl | rfl | rfl
  · exact fd_j100 cx hok hn kk hH hS hl
  · exact fd_j101 cx hok hn kk hH hS hl
  · exact fd_j102 cx hok hn kk hH hS hl
  · exact fd_j103 cx hok hn kk hH hS hl
  · exact fd_j104 cx hok hn kk hH hS hl
  · exact fd_j105 cx hok hn kk hH hS hl
  · exact fd_j106 cx hok hn kk hH hS hl
  · exact fd_j107 cx hok hn kk hH hS hl
  · exact fd_j108 cx hok hn kk hH hS hl
  · exact fd_j109 cx hok hn kk hH hS hl
  · exact fd_j110 cx hok hn kk hH hS hl
  · exact fd_j111 cx hok hn kk hH hS hl
  · exact fd_j112 cx hok hn kk hH hS hl
  · exact fd_j113 cx hok hn kk hH hS hl
  · exact fd_j118 cx hok hn kk hH hS hl
end fdK4

section fdK
variable {g : fd_G} {ph : Bool} {p : Program} {l : Launch} {e : Env} {R : Room} {s : State} {m : MethodId} {args : Array Value} {below : List Frame} {meth : Method} {c : Code} {mm a0 i pc : Nat} {Q : State → Prop} {as : List Int} {L L' st st' : List fd_V} {M M' : fd_M} {H : Heap} {locs : List Loc} {la : Array Slot}
def fd_cx (g : fd_G) (p : Program) (R : Room) (s : State) (m : MethodId) (args : Array Value) (meth : Method) (c : Code) (mm : Nat) : Prop :=
  p.tables.exec = Jvm.exec ∧ c.code = fd_b mm ∧ c.maxLocals = fd_mL mm ∧ meth.sig.returnType = fd_r mm ∧ s.vm.findClass (fd_y mm).cls = some m.cls ∧ (∀ w ∈ fd_tbl, w.before args s = true) ∧ meth.locks = false ∧ (fd_ini mm = true → meth.name = "<init>") ∧ fd_Kn g s s.heap ∧ g.1 ≤ s.heap.size ∧ mm < 177 ∧ 5 ≤ R.frames ∧ 200 ≤ R.locals
def fd_Go (g : fd_G) (ph : Bool) (p : Program) (l : Launch) (e : Env) (R : Room) (s : State) (m : MethodId) (args : Array Value) (below : List Frame) (meth : Method) (c : Code) (mm a0 : Nat) (Q : State → Prop) (i : Nat) (L st : List fd_V) (M : fd_M) : Prop :=
  ∀ (pc : Nat) (H : Heap) (locs : List Loc) (la : Array Slot), (fd_pcs mm)[i]? = some pc → fd_hp g ph M H → va_S (fd_A g) s.heap H locs → fd_lr g la (fd_mL mm) L → W p l e R s m args below meth c H locs (fd_ap M - a0) (fd_sl (fd_ap M) - fd_sl a0) Q (F0 m pc la (st.map (fd_cv g)))
theorem fd_k6 (cx : fd_cx g p R s m args meth c mm) (hok : fd_okI (fd_y mm).cls (fd_b mm) (fd_ini mm) (fd_pcs mm) pc ((fd_pcs mm).getD (i + 1) 0) 6 as = true) (hn : fd_nx ph 6 as L st M = some (true, L', st', M')) (kk : fd_Go g ph p l e R s m args below meth c mm a0 Q (i + 1) L' st' M') (hH : fd_hp g ph M H) (hS : va_S (fd_A g) s.heap H locs) (hl : fd_lr g la (fd_mL mm) L) : W p l e R s m args below meth c H locs (fd_ap M - a0) (fd_sl (fd_ap M) - fd_sl a0) Q (F0 m pc la (st.map (fd_cv g))) := by
  obtain ⟨hd, hx⟩ := fd_dc_inv (show fd_dc (fd_b mm) pc _ .iadd 1 = true from hok)
  obtain ⟨b, r, rfl, hn⟩ := fd_pI_inv hn
  obtain ⟨a, r, rfl, hn⟩ := fd_pI_inv hn
  obtain ⟨hg, rfl, rfl, rfl⟩ := fd_some4 hn
  have k1 := kk (pc + 1) H locs la (fd_nxt hx (by decide)) hH hS hl
  refine lv_iadd cx.1 cx.2.1 hd ?_
  rw [← Int32.ofInt_add]
  exact k1
theorem fd_k7 (cx : fd_cx g p R s m args meth c mm) (hok : fd_okI (fd_y mm).cls (fd_b mm) (fd_ini mm) (fd_pcs mm) pc ((fd_pcs mm).getD (i + 1) 0) 7 as = true) (hn : fd_nx ph 7 as L st M = some (true, L', st', M')) (kk : fd_Go g ph p l e R s m args below meth c mm a0 Q (i + 1) L' st' M') (hH : fd_hp g ph M H) (hS : va_S (fd_A g) s.heap H locs) (hl : fd_lr g la (fd_mL mm) L) : W p l e R s m args below meth c H locs (fd_ap M - a0) (fd_sl (fd_ap M) - fd_sl a0) Q (F0 m pc la (st.map (fd_cv g))) := by
  obtain ⟨hd, hx⟩ := fd_dc_inv (show fd_dc (fd_b mm) pc _ .isub 1 = true from hok)
  obtain ⟨b, r, rfl, hn⟩ := fd_pI_inv hn
  obtain ⟨a, r, rfl, hn⟩ := fd_pI_inv hn
  obtain ⟨hg, rfl, rfl, rfl⟩ := fd_some4 hn
  have k1 := kk (pc + 1) H locs la (fd_nxt hx (by decide)) hH hS hl
  refine lv_isub cx.1 cx.2.1 hd ?_
  rw [← Int32.ofInt_sub]
  exact k1
theorem fd_k8 (cx : fd_cx g p R s m args meth c mm) (hok : fd_okI (fd_y mm).cls (fd_b mm) (fd_ini mm) (fd_pcs mm) pc ((fd_pcs mm).getD (i + 1) 0) 8 as = true) (hn : fd_nx ph 8 as L st M = some (true, L', st', M')) (kk : fd_Go g ph p l e R s m args below meth c mm a0 Q (i + 1) L' st' M') (hH : fd_hp g ph M H) (hS : va_S (fd_A g) s.heap H locs) (hl : fd_lr g la (fd_mL mm) L) : W p l e R s m args below meth c H locs (fd_ap M - a0) (fd_sl (fd_ap M) - fd_sl a0) Q (F0 m pc la (st.map (fd_cv g))) := by
  obtain ⟨hd, hx⟩ := fd_dc_inv (show fd_dc (fd_b mm) pc _ .imul 1 = true from hok)
  obtain ⟨b, r, rfl, hn⟩ := fd_pI_inv hn
  obtain ⟨a, r, rfl, hn⟩ := fd_pI_inv hn
  obtain ⟨hg, rfl, rfl, rfl⟩ := fd_some4 hn
  have k1 := kk (pc + 1) H locs la (fd_nxt hx (by decide)) hH hS hl
  refine lv_imul cx.1 cx.2.1 hd ?_
  rw [← Int32.ofInt_mul]
  exact k1
theorem fd_k9 (cx : fd_cx g p R s m args meth c mm) (hok : fd_okI (fd_y mm).cls (fd_b mm) (fd_ini mm) (fd_pcs mm) pc ((fd_pcs mm).getD (i + 1) 0) 9 as = true) (hn : fd_nx ph 9 as L st M = some (true, L', st', M')) (kk : fd_Go g ph p l e R s m args below meth c mm a0 Q (i + 1) L' st' M') (hH : fd_hp g ph M H) (hS : va_S (fd_A g) s.heap H locs) (hl : fd_lr g la (fd_mL mm) L) : W p l e R s m args below meth c H locs (fd_ap M - a0) (fd_sl (fd_ap M) - fd_sl a0) Q (F0 m pc la (st.map (fd_cv g))) := by
  obtain ⟨hd, hx⟩ := fd_dc_inv (show fd_dc (fd_b mm) pc _ .idiv 1 = true from hok)
  obtain ⟨b, r, rfl, hn⟩ := fd_pI_inv hn
  obtain ⟨a, r, rfl, hn⟩ := fd_pI_inv hn
  obtain ⟨hg, rfl, rfl, rfl⟩ := fd_some4 hn
  have k1 := kk (pc + 1) H locs la (fd_nxt hx (by decide)) hH hS hl
  rw [Bool.and_eq_true, fd_inb_iff, fd_inb_iff] at hg
  obtain ⟨e1, e2, e3⟩ := fd_divI hg.1 hg.2
  refine lv_idiv cx.1 cx.2.1 hd e3 ?_
  rw [e1]
  exact k1
theorem fd_k10 (cx : fd_cx g p R s m args meth c mm) (hok : fd_okI (fd_y mm).cls (fd_b mm) (fd_ini mm) (fd_pcs mm) pc ((fd_pcs mm).getD (i + 1) 0) 10 as = true) (hn : fd_nx ph 10 as L st M = some (true, L', st', M')) (kk : fd_Go g ph p l e R s m args below meth c mm a0 Q (i + 1) L' st' M') (hH : fd_hp g ph M H) (hS : va_S (fd_A g) s.heap H locs) (hl : fd_lr g la (fd_mL mm) L) : W p l e R s m args below meth c H locs (fd_ap M - a0) (fd_sl (fd_ap M) - fd_sl a0) Q (F0 m pc la (st.map (fd_cv g))) := by
  obtain ⟨hd, hx⟩ := fd_dc_inv (show fd_dc (fd_b mm) pc _ .irem 1 = true from hok)
  obtain ⟨b, r, rfl, hn⟩ := fd_pI_inv hn
  obtain ⟨a, r, rfl, hn⟩ := fd_pI_inv hn
  obtain ⟨hg, rfl, rfl, rfl⟩ := fd_some4 hn
  have k1 := kk (pc + 1) H locs la (fd_nxt hx (by decide)) hH hS hl
  rw [Bool.and_eq_true, fd_inb_iff, fd_inb_iff] at hg
  obtain ⟨e1, e2, e3⟩ := fd_divI hg.1 hg.2
  refine lv_irem cx.1 cx.2.1 hd e3 ?_
  rw [e2]
  exact k1
theorem fd_k11 (cx : fd_cx g p R s m args meth c mm) (hok : fd_okI (fd_y mm).cls (fd_b mm) (fd_ini mm) (fd_pcs mm) pc ((fd_pcs mm).getD (i + 1) 0) 11 as = true) (hn : fd_nx ph 11 as L st M = some (true, L', st', M')) (kk : fd_Go g ph p l e R s m args below meth c mm a0 Q (i + 1) L' st' M') (hH : fd_hp g ph M H) (hS : va_S (fd_A g) s.heap H locs) (hl : fd_lr g la (fd_mL mm) L) : W p l e R s m args below meth c H locs (fd_ap M - a0) (fd_sl (fd_ap M) - fd_sl a0) Q (F0 m pc la (st.map (fd_cv g))) := by
  obtain ⟨hd, hx⟩ := fd_dc_inv (show fd_dc (fd_b mm) pc _ .iand 1 = true from hok)
  obtain ⟨b, r, rfl, hn⟩ := fd_pI_inv hn
  obtain ⟨a, r, rfl, hn⟩ := fd_pI_inv hn
  obtain ⟨hg, rfl, rfl, rfl⟩ := fd_some4 hn
  have k1 := kk (pc + 1) H locs la (fd_nxt hx (by decide)) hH hS hl
  refine lv_iand cx.1 cx.2.1 hd ?_
  have e1 : Int32.ofInt (fd_and a b) = _ := Int32.ofInt_toInt _
  rw [← e1]
  exact k1
theorem fd_k12 (cx : fd_cx g p R s m args meth c mm) (hok : fd_okI (fd_y mm).cls (fd_b mm) (fd_ini mm) (fd_pcs mm) pc ((fd_pcs mm).getD (i + 1) 0) 12 as = true) (hn : fd_nx ph 12 as L st M = some (true, L', st', M')) (kk : fd_Go g ph p l e R s m args below meth c mm a0 Q (i + 1) L' st' M') (hH : fd_hp g ph M H) (hS : va_S (fd_A g) s.heap H locs) (hl : fd_lr g la (fd_mL mm) L) : W p l e R s m args below meth c H locs (fd_ap M - a0) (fd_sl (fd_ap M) - fd_sl a0) Q (F0 m pc la (st.map (fd_cv g))) := by
  obtain ⟨hd, hx⟩ := fd_dc_inv (show fd_dc (fd_b mm) pc _ .ior 1 = true from hok)
  obtain ⟨b, r, rfl, hn⟩ := fd_pI_inv hn
  obtain ⟨a, r, rfl, hn⟩ := fd_pI_inv hn
  obtain ⟨hg, rfl, rfl, rfl⟩ := fd_some4 hn
  have k1 := kk (pc + 1) H locs la (fd_nxt hx (by decide)) hH hS hl
  refine lv_ior cx.1 cx.2.1 hd ?_
  have e1 : Int32.ofInt (fd_or a b) = _ := Int32.ofInt_toInt _
  rw [← e1]
  exact k1
theorem fd_k13 (cx : fd_cx g p R s m args meth c mm) (hok : fd_okI (fd_y mm).cls (fd_b mm) (fd_ini mm) (fd_pcs mm) pc ((fd_pcs mm).getD (i + 1) 0) 13 as = true) (hn : fd_nx ph 13 as L st M = some (true, L', st', M')) (kk : fd_Go g ph p l e R s m args below meth c mm a0 Q (i + 1) L' st' M') (hH : fd_hp g ph M H) (hS : va_S (fd_A g) s.heap H locs) (hl : fd_lr g la (fd_mL mm) L) : W p l e R s m args below meth c H locs (fd_ap M - a0) (fd_sl (fd_ap M) - fd_sl a0) Q (F0 m pc la (st.map (fd_cv g))) := by
  obtain ⟨hd, hx⟩ := fd_dc_inv (show fd_dc (fd_b mm) pc _ .ixor 1 = true from hok)
  obtain ⟨b, r, rfl, hn⟩ := fd_pI_inv hn
  obtain ⟨a, r, rfl, hn⟩ := fd_pI_inv hn
  obtain ⟨hg, rfl, rfl, rfl⟩ := fd_some4 hn
  have k1 := kk (pc + 1) H locs la (fd_nxt hx (by decide)) hH hS hl
  refine lv_ixor cx.1 cx.2.1 hd ?_
  have e1 : Int32.ofInt (fd_xor a b) = _ := Int32.ofInt_toInt _
  rw [← e1]
  exact k1
theorem fd_k14 (cx : fd_cx g p R s m args meth c mm) (hok : fd_okI (fd_y mm).cls (fd_b mm) (fd_ini mm) (fd_pcs mm) pc ((fd_pcs mm).getD (i + 1) 0) 14 as = true) (hn : fd_nx ph 14 as L st M = some (true, L', st', M')) (kk : fd_Go g ph p l e R s m args below meth c mm a0 Q (i + 1) L' st' M') (hH : fd_hp g ph M H) (hS : va_S (fd_A g) s.heap H locs) (hl : fd_lr g la (fd_mL mm) L) : W p l e R s m args below meth c H locs (fd_ap M - a0) (fd_sl (fd_ap M) - fd_sl a0) Q (F0 m pc la (st.map (fd_cv g))) := by
  obtain ⟨hd, hx⟩ := fd_dc_inv (show fd_dc (fd_b mm) pc _ .ishl 1 = true from hok)
  obtain ⟨b, r, rfl, hn⟩ := fd_pI_inv hn
  obtain ⟨a, r, rfl, hn⟩ := fd_pI_inv hn
  obtain ⟨hg, rfl, rfl, rfl⟩ := fd_some4 hn
  have k1 := kk (pc + 1) H locs la (fd_nxt hx (by decide)) hH hS hl
  rw [Bool.and_eq_true, fd_inb_iff] at hg
  obtain ⟨h1, h2⟩ := hg
  have h1 := of_decide_eq_true h1
  subst h1
  obtain ⟨n, rfl⟩ := Int.eq_ofNat_of_zero_le h2.1
  refine lv_ishl cx.1 cx.2.1 hd ?_
  have e1 := fd_shl1 n (by omega)
  rw [fd_oi, show Int32.ofInt 1 = (1 : Int32) from rfl, e1]
  exact k1
theorem fd_k15 (cx : fd_cx g p R s m args meth c mm) (hok : fd_okI (fd_y mm).cls (fd_b mm) (fd_ini mm) (fd_pcs mm) pc ((fd_pcs mm).getD (i + 1) 0) 15 as = true) (hn : fd_nx ph 15 as L st M = some (true, L', st', M')) (kk : fd_Go g ph p l e R s m args below meth c mm a0 Q (i + 1) L' st' M') (hH : fd_hp g ph M H) (hS : va_S (fd_A g) s.heap H locs) (hl : fd_lr g la (fd_mL mm) L) : W p l e R s m args below meth c H locs (fd_ap M - a0) (fd_sl (fd_ap M) - fd_sl a0) Q (F0 m pc la (st.map (fd_cv g))) := by
  obtain ⟨hd, hx⟩ := fd_dc_inv (show fd_dc (fd_b mm) pc _ .ishr 1 = true from hok)
  obtain ⟨b, r, rfl, hn⟩ := fd_pI_inv hn
  obtain ⟨a, r, rfl, hn⟩ := fd_pI_inv hn
  obtain ⟨hg, rfl, rfl, rfl⟩ := fd_some4 hn
  have k1 := kk (pc + 1) H locs la (fd_nxt hx (by decide)) hH hS hl
  rw [Bool.and_eq_true, fd_inb_iff, fd_inb_iff] at hg
  obtain ⟨e1, e2⟩ := fd_shrI hg.1 hg.2
  refine lv_ishr cx.1 cx.2.1 hd ?_
  rw [e1]
  exact k1
theorem fd_k16 (cx : fd_cx g p R s m args meth c mm) (hok : fd_okI (fd_y mm).cls (fd_b mm) (fd_ini mm) (fd_pcs mm) pc ((fd_pcs mm).getD (i + 1) 0) 16 as = true) (hn : fd_nx ph 16 as L st M = some (true, L', st', M')) (kk : fd_Go g ph p l e R s m args below meth c mm a0 Q (i + 1) L' st' M') (hH : fd_hp g ph M H) (hS : va_S (fd_A g) s.heap H locs) (hl : fd_lr g la (fd_mL mm) L) : W p l e R s m args below meth c H locs (fd_ap M - a0) (fd_sl (fd_ap M) - fd_sl a0) Q (F0 m pc la (st.map (fd_cv g))) := by
  obtain ⟨hd, hx⟩ := fd_dc_inv (show fd_dc (fd_b mm) pc _ .iushr 1 = true from hok)
  obtain ⟨b, r, rfl, hn⟩ := fd_pI_inv hn
  obtain ⟨a, r, rfl, hn⟩ := fd_pI_inv hn
  obtain ⟨hg, rfl, rfl, rfl⟩ := fd_some4 hn
  have k1 := kk (pc + 1) H locs la (fd_nxt hx (by decide)) hH hS hl
  rw [Bool.and_eq_true, fd_inb_iff, fd_inb_iff] at hg
  obtain ⟨e1, e2⟩ := fd_shrI hg.1 hg.2
  exact lv_iushr cx.1 cx.2.1 hd e2 k1
theorem fd_k18 (cx : fd_cx g p R s m args meth c mm) (hok : fd_okI (fd_y mm).cls (fd_b mm) (fd_ini mm) (fd_pcs mm) pc ((fd_pcs mm).getD (i + 1) 0) 18 as = true) (hn : fd_nx ph 18 as L st M = some (true, L', st', M')) (kk : fd_Go g ph p l e R s m args below meth c mm a0 Q (i + 1) L' st' M') (hH : fd_hp g ph M H) (hS : va_S (fd_A g) s.heap H locs) (hl : fd_lr g la (fd_mL mm) L) : W p l e R s m args below meth c H locs (fd_ap M - a0) (fd_sl (fd_ap M) - fd_sl a0) Q (F0 m pc la (st.map (fd_cv g))) := by
  obtain ⟨hd, hx⟩ := fd_dc_inv (show fd_dc (fd_b mm) pc _ .ladd 1 = true from hok)
  obtain ⟨b, r, rfl, hn⟩ := fd_pJ_inv hn
  obtain ⟨a, r, rfl, hn⟩ := fd_pJ_inv hn
  obtain ⟨hg, rfl, rfl, rfl⟩ := fd_some4 hn
  have k1 := kk (pc + 1) H locs la (fd_nxt hx (by decide)) hH hS hl
  refine lv_ladd cx.1 cx.2.1 hd ?_
  rw [← Int64.ofInt_add]
  exact k1
theorem fd_k19 (cx : fd_cx g p R s m args meth c mm) (hok : fd_okI (fd_y mm).cls (fd_b mm) (fd_ini mm) (fd_pcs mm) pc ((fd_pcs mm).getD (i + 1) 0) 19 as = true) (hn : fd_nx ph 19 as L st M = some (true, L', st', M')) (kk : fd_Go g ph p l e R s m args below meth c mm a0 Q (i + 1) L' st' M') (hH : fd_hp g ph M H) (hS : va_S (fd_A g) s.heap H locs) (hl : fd_lr g la (fd_mL mm) L) : W p l e R s m args below meth c H locs (fd_ap M - a0) (fd_sl (fd_ap M) - fd_sl a0) Q (F0 m pc la (st.map (fd_cv g))) := by
  obtain ⟨hd, hx⟩ := fd_dc_inv (show fd_dc (fd_b mm) pc _ .lxor 1 = true from hok)
  obtain ⟨b, r, rfl, hn⟩ := fd_pJ_inv hn
  obtain ⟨a, r, rfl, hn⟩ := fd_pJ_inv hn
  obtain ⟨hg, rfl, rfl, rfl⟩ := fd_some4 hn
  have k1 := kk (pc + 1) H locs la (fd_nxt hx (by decide)) hH hS hl
  refine lv_lxor cx.1 cx.2.1 hd ?_
  have e1 : Int64.ofInt (fd_lxor a b) = _ := Int64.ofInt_toInt _
  rw [← e1]
  exact k1
theorem fd_k20 (cx : fd_cx g p R s m args meth c mm) (hok : fd_okI (fd_y mm).cls (fd_b mm) (fd_ini mm) (fd_pcs mm) pc ((fd_pcs mm).getD (i + 1) 0) 20 as = true) (hn : fd_nx ph 20 as L st M = some (true, L', st', M')) (kk : fd_Go g ph p l e R s m args below meth c mm a0 Q (i + 1) L' st' M') (hH : fd_hp g ph M H) (hS : va_S (fd_A g) s.heap H locs) (hl : fd_lr g la (fd_mL mm) L) : W p l e R s m args below meth c H locs (fd_ap M - a0) (fd_sl (fd_ap M) - fd_sl a0) Q (F0 m pc la (st.map (fd_cv g))) := by
  obtain ⟨hd, hx⟩ := fd_dc_inv (show fd_dc (fd_b mm) pc _ .land 1 = true from hok)
  obtain ⟨b, r, rfl, hn⟩ := fd_pJ_inv hn
  obtain ⟨a, r, rfl, hn⟩ := fd_pJ_inv hn
  obtain ⟨hg, rfl, rfl, rfl⟩ := fd_some4 hn
  have k1 := kk (pc + 1) H locs la (fd_nxt hx (by decide)) hH hS hl
  refine lv_land cx.1 cx.2.1 hd ?_
  have e1 : Int64.ofInt (fd_land a b) = _ := Int64.ofInt_toInt _
  rw [← e1]
  exact k1
theorem fd_k22 (cx : fd_cx g p R s m args meth c mm) (hok : fd_okI (fd_y mm).cls (fd_b mm) (fd_ini mm) (fd_pcs mm) pc ((fd_pcs mm).getD (i + 1) 0) 22 as = true) (hn : fd_nx ph 22 as L st M = some (true, L', st', M')) (kk : fd_Go g ph p l e R s m args below meth c mm a0 Q (i + 1) L' st' M') (hH : fd_hp g ph M H) (hS : va_S (fd_A g) s.heap H locs) (hl : fd_lr g la (fd_mL mm) L) : W p l e R s m args below meth c H locs (fd_ap M - a0) (fd_sl (fd_ap M) - fd_sl a0) Q (F0 m pc la (st.map (fd_cv g))) := by
  obtain ⟨hd, hx⟩ := fd_dc_inv (show fd_dc (fd_b mm) pc _ .lcmp 1 = true from hok)
  obtain ⟨b, r, rfl, hn⟩ := fd_pJ_inv hn
  obtain ⟨a, r, rfl, hn⟩ := fd_pJ_inv hn
  obtain ⟨hg, rfl, rfl, rfl⟩ := fd_some4 hn
  have k1 := kk (pc + 1) H locs la (fd_nxt hx (by decide)) hH hS hl
  refine W.lcmp cx.1 cx.2.1 hd ?_
  have e1 : Int32.ofInt (fd_lcmp a b) = _ := Int32.ofInt_toInt _
  rw [← e1]
  exact k1
theorem fd_k21 (cx : fd_cx g p R s m args meth c mm) (hok : fd_okI (fd_y mm).cls (fd_b mm) (fd_ini mm) (fd_pcs mm) pc ((fd_pcs mm).getD (i + 1) 0) 21 as = true) (hn : fd_nx ph 21 as L st M = some (true, L', st', M')) (kk : fd_Go g ph p l e R s m args below meth c mm a0 Q (i + 1) L' st' M') (hH : fd_hp g ph M H) (hS : va_S (fd_A g) s.heap H locs) (hl : fd_lr g la (fd_mL mm) L) : W p l e R s m args below meth c H locs (fd_ap M - a0) (fd_sl (fd_ap M) - fd_sl a0) Q (F0 m pc la (st.map (fd_cv g))) := by
  obtain ⟨hd, hx⟩ := fd_dc_inv (show fd_dc (fd_b mm) pc _ .lshl 1 = true from hok)
  obtain ⟨b, r, rfl, hn⟩ := fd_pI_inv hn
  obtain ⟨a, r, rfl, hn⟩ := fd_pJ_inv hn
  obtain ⟨hg, rfl, rfl, rfl⟩ := fd_some4 hn
  have k1 := kk (pc + 1) H locs la (fd_nxt hx (by decide)) hH hS hl
  rw [Bool.and_eq_true, fd_inb_iff] at hg
  obtain ⟨h1, h2⟩ := hg
  have h1 := of_decide_eq_true h1
  subst h1
  obtain ⟨n, rfl⟩ := Int.eq_ofNat_of_zero_le h2.1
  refine lv_lshl (v := Int64.ofInt (2 ^ n)) cx.1 cx.2.1 hd ?_ k1
  rw [fd_oi, show Int64.ofInt 1 = (1 : Int64) from rfl]
  exact fd_lshl1 n (by omega)
theorem fd_k45 (cx : fd_cx g p R s m args meth c mm) (hok : fd_okI (fd_y mm).cls (fd_b mm) (fd_ini mm) (fd_pcs mm) pc ((fd_pcs mm).getD (i + 1) 0) 45 as = true) (hn : fd_nx ph 45 as L st M = some (true, L', st', M')) (kk : fd_Go g ph p l e R s m args below meth c mm a0 Q (i + 1) L' st' M') (hH : fd_hp g ph M H) (hS : va_S (fd_A g) s.heap H locs) (hl : fd_lr g la (fd_mL mm) L) : W p l e R s m args below meth c H locs (fd_ap M - a0) (fd_sl (fd_ap M) - fd_sl a0) Q (F0 m pc la (st.map (fd_cv g))) := by
  obtain ⟨hd, hx⟩ := fd_dc_inv (show fd_dc (fd_b mm) pc _ .lshr 1 = true from hok)
  obtain ⟨b, r, rfl, hn⟩ := fd_pI_inv hn
  obtain ⟨a, r, rfl, hn⟩ := fd_pJ_inv hn
  obtain ⟨hg, rfl, rfl, rfl⟩ := fd_some4 hn
  have k1 := kk (pc + 1) H locs la (fd_nxt hx (by decide)) hH hS hl
  rw [Bool.and_eq_true, fd_inb_iff, fd_inb_iff] at hg
  exact lv_lshr (v := Int64.ofInt (a / 2 ^ b.toNat)) cx.1 cx.2.1 hd (fd_lshrJ hg.1 hg.2) k1
theorem fd_k23 (cx : fd_cx g p R s m args meth c mm) (hok : fd_okI (fd_y mm).cls (fd_b mm) (fd_ini mm) (fd_pcs mm) pc ((fd_pcs mm).getD (i + 1) 0) 23 as = true) (hn : fd_nx ph 23 as L st M = some (true, L', st', M')) (kk : fd_Go g ph p l e R s m args below meth c mm a0 Q (i + 1) L' st' M') (hH : fd_hp g ph M H) (hS : va_S (fd_A g) s.heap H locs) (hl : fd_lr g la (fd_mL mm) L) : W p l e R s m args below meth c H locs (fd_ap M - a0) (fd_sl (fd_ap M) - fd_sl a0) Q (F0 m pc la (st.map (fd_cv g))) := by
  obtain ⟨hd, hx⟩ := fd_dc_inv (show fd_dc (fd_b mm) pc _ .i2b 1 = true from hok)
  obtain ⟨a, r, rfl, hn⟩ := fd_pI_inv hn
  obtain ⟨hg, rfl, rfl, rfl⟩ := fd_some4 hn
  exact lv_i2b cx.1 cx.2.1 hd (Int32.ofInt_toInt _).symm (kk (pc + 1) H locs la (fd_nxt hx (by decide)) hH hS hl)
theorem fd_k24 (cx : fd_cx g p R s m args meth c mm) (hok : fd_okI (fd_y mm).cls (fd_b mm) (fd_ini mm) (fd_pcs mm) pc ((fd_pcs mm).getD (i + 1) 0) 24 as = true) (hn : fd_nx ph 24 as L st M = some (true, L', st', M')) (kk : fd_Go g ph p l e R s m args below meth c mm a0 Q (i + 1) L' st' M') (hH : fd_hp g ph M H) (hS : va_S (fd_A g) s.heap H locs) (hl : fd_lr g la (fd_mL mm) L) : W p l e R s m args below meth c H locs (fd_ap M - a0) (fd_sl (fd_ap M) - fd_sl a0) Q (F0 m pc la (st.map (fd_cv g))) := by
  obtain ⟨hd, hx⟩ := fd_dc_inv (show fd_dc (fd_b mm) pc _ .dup 1 = true from hok)
  rcases st with _ | ⟨⟨a⟩ | ⟨a⟩ | ⟨a⟩, r⟩
  · cases hn
  · obtain ⟨hg, rfl, rfl, rfl⟩ := fd_some4 hn
    exact lv_dup cx.1 cx.2.1 hd rfl (kk (pc + 1) H locs la (fd_nxt hx (by decide)) hH hS hl)
  · cases hn
  · obtain ⟨hg, rfl, rfl, rfl⟩ := fd_some4 hn
    exact lv_dup cx.1 cx.2.1 hd (fd_cat g (fd_R a)) (kk (pc + 1) H locs la (fd_nxt hx (by decide)) hH hS hl)
theorem fd_k25 (cx : fd_cx g p R s m args meth c mm) (hok : fd_okI (fd_y mm).cls (fd_b mm) (fd_ini mm) (fd_pcs mm) pc ((fd_pcs mm).getD (i + 1) 0) 25 as = true) (hn : fd_nx ph 25 as L st M = some (true, L', st', M')) (kk : fd_Go g ph p l e R s m args below meth c mm a0 Q (i + 1) L' st' M') (hH : fd_hp g ph M H) (hS : va_S (fd_A g) s.heap H locs) (hl : fd_lr g la (fd_mL mm) L) : W p l e R s m args below meth c H locs (fd_ap M - a0) (fd_sl (fd_ap M) - fd_sl a0) Q (F0 m pc la (st.map (fd_cv g))) := by
  obtain ⟨hd, hx⟩ := fd_dc_inv (show fd_dc (fd_b mm) pc _ .dup2 1 = true from hok)
  obtain ⟨b, r, rfl, hn⟩ := fd_pI_inv hn
  obtain ⟨a, r, rfl, hn⟩ := fd_pR_inv hn
  obtain ⟨hg, rfl, rfl, rfl⟩ := fd_some4 hn
  exact lv_dup2_11 cx.1 cx.2.1 hd rfl (fd_cat g (fd_R a)) (kk (pc + 1) H locs la (fd_nxt hx (by decide)) hH hS hl)
theorem fd_k26 (cx : fd_cx g p R s m args meth c mm) (hok : fd_okI (fd_y mm).cls (fd_b mm) (fd_ini mm) (fd_pcs mm) pc ((fd_pcs mm).getD (i + 1) 0) 26 as = true) (hn : fd_nx ph 26 as L st M = some (true, L', st', M')) (kk : fd_Go g ph p l e R s m args below meth c mm a0 Q (i + 1) L' st' M') (hH : fd_hp g ph M H) (hS : va_S (fd_A g) s.heap H locs) (hl : fd_lr g la (fd_mL mm) L) : W p l e R s m args below meth c H locs (fd_ap M - a0) (fd_sl (fd_ap M) - fd_sl a0) Q (F0 m pc la (st.map (fd_cv g))) := by
  obtain ⟨hd, hx⟩ := fd_dc_inv (show fd_dc (fd_b mm) pc _ .pop 1 = true from hok)
  obtain ⟨b, r, rfl, hn⟩ := fd_pI_inv hn
  obtain ⟨hg, rfl, rfl, rfl⟩ := fd_some4 hn
  exact lv_pop cx.1 cx.2.1 hd rfl (kk (pc + 1) H locs la (fd_nxt hx (by decide)) hH hS hl)
theorem fd_k0 (cx : fd_cx g p R s m args meth c mm) (hok : fd_okI (fd_y mm).cls (fd_b mm) (fd_ini mm) (fd_pcs mm) pc ((fd_pcs mm).getD (i + 1) 0) 0 as = true) (hn : fd_nx ph 0 as L st M = some (true, L', st', M')) (kk : fd_Go g ph p l e R s m args below meth c mm a0 Q (i + 1) L' st' M') (hH : fd_hp g ph M H) (hS : va_S (fd_A g) s.heap H locs) (hl : fd_lr g la (fd_mL mm) L) : W p l e R s m args below meth c H locs (fd_ap M - a0) (fd_sl (fd_ap M) - fd_sl a0) Q (F0 m pc la (st.map (fd_cv g))) := by
  obtain ⟨-, rfl, rfl, rfl⟩ := fd_some4 hn
  rw [fd_okI] at hok
  split at hok
  · obtain ⟨hd, hx⟩ := fd_dc_inv hok
    exact lv_iconst cx.1 cx.2.1 hd rfl (kk (pc + 1) H locs la (fd_nxt hx (by decide)) hH hS hl)
  · rw [Bool.and_eq_true] at hok
    obtain ⟨hd, hx⟩ := fd_dc_inv hok.1
    exact lv_bipush cx.1 cx.2.1 hd (of_decide_eq_true hok.2) (kk (pc + 2) H locs la (fd_nxt hx (by decide)) hH hS hl)
  · rw [Bool.and_eq_true] at hok
    obtain ⟨hd, hx⟩ := fd_dc_inv hok.1
    exact lv_sipush cx.1 cx.2.1 hd (of_decide_eq_true hok.2) (kk (pc + 3) H locs la (fd_nxt hx (by decide)) hH hS hl)
  · rw [Bool.and_eq_true] at hok
    obtain ⟨hd, hx⟩ := fd_dc_inv hok.1
    exact lv_ldc cx.1 cx.2.1 cx.2.2.2.2.1 (cx.2.2.2.2.2.1 _ (fd_wd_mem hok.2)) hd (kk (pc + 2) H locs la (fd_nxt hx (by decide)) hH hS hl)
  · rw [Bool.and_eq_true] at hok
    obtain ⟨hd, hx⟩ := fd_dc_inv hok.1
    exact lv_ldcw cx.1 cx.2.1 cx.2.2.2.2.1 (cx.2.2.2.2.2.1 _ (fd_wd_mem hok.2)) hd (kk (pc + 3) H locs la (fd_nxt hx (by decide)) hH hS hl)
theorem fd_k17 (cx : fd_cx g p R s m args meth c mm) (hok : fd_okI (fd_y mm).cls (fd_b mm) (fd_ini mm) (fd_pcs mm) pc ((fd_pcs mm).getD (i + 1) 0) 17 as = true) (hn : fd_nx ph 17 as L st M = some (true, L', st', M')) (kk : fd_Go g ph p l e R s m args below meth c mm a0 Q (i + 1) L' st' M') (hH : fd_hp g ph M H) (hS : va_S (fd_A g) s.heap H locs) (hl : fd_lr g la (fd_mL mm) L) : W p l e R s m args below meth c H locs (fd_ap M - a0) (fd_sl (fd_ap M) - fd_sl a0) Q (F0 m pc la (st.map (fd_cv g))) := by
  obtain ⟨-, rfl, rfl, rfl⟩ := fd_some4 hn
  rw [fd_okI] at hok
  split at hok
  · split at hok
    · rename_i h0
      obtain ⟨hd, hx⟩ := fd_dc_inv hok
      have k1 := kk (pc + 1) H locs la (fd_nxt hx (by decide)) hH hS hl
      rw [h0] at k1
      exact lv_lconst cx.1 cx.2.1 hd rfl k1
    · rw [Bool.and_eq_true] at hok
      obtain ⟨hd, hx⟩ := fd_dc_inv hok.2
      have k1 := kk (pc + 1) H locs la (fd_nxt hx (by decide)) hH hS hl
      rw [of_decide_eq_true hok.1] at k1
      exact lv_lconst cx.1 cx.2.1 hd rfl k1
  · rw [Bool.and_eq_true] at hok
    obtain ⟨hd, hx⟩ := fd_dc_inv hok.1
    exact lv_ldc2 cx.1 cx.2.1 cx.2.2.2.2.1 (cx.2.2.2.2.2.1 _ (fd_wd_mem hok.2)) hd (kk (pc + 3) H locs la (fd_nxt hx (by decide)) hH hS hl)
theorem fd_k1 (cx : fd_cx g p R s m args meth c mm) (hok : fd_okI (fd_y mm).cls (fd_b mm) (fd_ini mm) (fd_pcs mm) pc ((fd_pcs mm).getD (i + 1) 0) 1 as = true) (hn : fd_nx ph 1 as L st M = some (true, L', st', M')) (kk : fd_Go g ph p l e R s m args below meth c mm a0 Q (i + 1) L' st' M') (hH : fd_hp g ph M H) (hS : va_S (fd_A g) s.heap H locs) (hl : fd_lr g la (fd_mL mm) L) : W p l e R s m args below meth c H locs (fd_ap M - a0) (fd_sl (fd_ap M) - fd_sl a0) Q (F0 m pc la (st.map (fd_cv g))) := by
  obtain ⟨a, ha, hn⟩ := fd_lI_inv hn
  obtain ⟨hg, rfl, rfl, rfl⟩ := fd_some4 hn
  have hv := fd_lr_get hl ha (by intro q; cases q)
  rw [fd_okI] at hok
  split at hok
  · rw [Bool.and_eq_true] at hok
    have h4 := of_decide_eq_true hok.1
    obtain ⟨hd, hx⟩ := fd_dc_inv hok.2
    have k1 := kk (pc + 1) H locs la (fd_nxt hx (by decide)) hH hS hl
    exact lv_iload_n cx.1 cx.2.1 hd (show (fd_f4 (fd_n as 0)).val = fd_n as 0 from Nat.mod_eq_of_lt h4) hv k1
  · obtain ⟨hd, hx⟩ := fd_dc_inv hok
    have k1 := kk (pc + 2) H locs la (fd_nxt hx (by decide)) hH hS hl
    exact lv_iload cx.1 cx.2.1 hd hv k1
theorem fd_k2 (cx : fd_cx g p R s m args meth c mm) (hok : fd_okI (fd_y mm).cls (fd_b mm) (fd_ini mm) (fd_pcs mm) pc ((fd_pcs mm).getD (i + 1) 0) 2 as = true) (hn : fd_nx ph 2 as L st M = some (true, L', st', M')) (kk : fd_Go g ph p l e R s m args below meth c mm a0 Q (i + 1) L' st' M') (hH : fd_hp g ph M H) (hS : va_S (fd_A g) s.heap H locs) (hl : fd_lr g la (fd_mL mm) L) : W p l e R s m args below meth c H locs (fd_ap M - a0) (fd_sl (fd_ap M) - fd_sl a0) Q (F0 m pc la (st.map (fd_cv g))) := by
  obtain ⟨a, ha, hn⟩ := fd_lR_inv hn
  obtain ⟨hg, rfl, rfl, rfl⟩ := fd_some4 hn
  have ha3 : a < 1000 := by simpa using hg
  have hv := fd_lr_get hl ha (by intro q; cases q; omega)
  have ev : fd_cv g (fd_R a) = .ref (g.1 + a) := fd_rv_lt ha3
  rw [ev] at hv
  rw [fd_okI] at hok
  split at hok
  · rw [Bool.and_eq_true] at hok
    have h4 := of_decide_eq_true hok.1
    obtain ⟨hd, hx⟩ := fd_dc_inv hok.2
    have k1 := kk (pc + 1) H locs la (fd_nxt hx (by decide)) hH hS hl
    rw [List.map_cons, ev] at k1
    exact lv_aload_n cx.1 cx.2.1 hd (show (fd_f4 (fd_n as 0)).val = fd_n as 0 from Nat.mod_eq_of_lt h4) hv k1
  · obtain ⟨hd, hx⟩ := fd_dc_inv hok
    have k1 := kk (pc + 2) H locs la (fd_nxt hx (by decide)) hH hS hl
    rw [List.map_cons, ev] at k1
    exact lv_aload cx.1 cx.2.1 hd hv k1
theorem fd_k3 (cx : fd_cx g p R s m args meth c mm) (hok : fd_okI (fd_y mm).cls (fd_b mm) (fd_ini mm) (fd_pcs mm) pc ((fd_pcs mm).getD (i + 1) 0) 3 as = true) (hn : fd_nx ph 3 as L st M = some (true, L', st', M')) (kk : fd_Go g ph p l e R s m args below meth c mm a0 Q (i + 1) L' st' M') (hH : fd_hp g ph M H) (hS : va_S (fd_A g) s.heap H locs) (hl : fd_lr g la (fd_mL mm) L) : W p l e R s m args below meth c H locs (fd_ap M - a0) (fd_sl (fd_ap M) - fd_sl a0) Q (F0 m pc la (st.map (fd_cv g))) := by
  obtain ⟨a, r, rfl, hn⟩ := fd_pI_inv hn
  obtain ⟨hg, rfl, rfl, rfl⟩ := fd_some4 hn
  have hk : fd_n as 0 < fd_mL mm := by rw [← hl.1]; simpa using hg
  rw [fd_okI] at hok
  split at hok
  · rw [Bool.and_eq_true] at hok
    have h4 := of_decide_eq_true hok.1
    obtain ⟨hd, hx⟩ := fd_dc_inv hok.2
    exact lv_istore_n cx.1 cx.2.1 hd (show (fd_f4 (fd_n as 0)).val = fd_n as 0 from Nat.mod_eq_of_lt h4) hl.2.2 hk rfl (fun la1 h1 => kk (pc + 1) H locs la1 (fd_nxt hx (by decide)) hH hS (fd_lr_set hl hk rfl h1))
  · obtain ⟨hd, hx⟩ := fd_dc_inv hok
    exact lv_istore cx.1 cx.2.1 hd hl.2.2 hk rfl (fun la1 h1 => kk (pc + 2) H locs la1 (fd_nxt hx (by decide)) hH hS (fd_lr_set hl hk rfl h1))
theorem fd_k4 (cx : fd_cx g p R s m args meth c mm) (hok : fd_okI (fd_y mm).cls (fd_b mm) (fd_ini mm) (fd_pcs mm) pc ((fd_pcs mm).getD (i + 1) 0) 4 as = true) (hn : fd_nx ph 4 as L st M = some (true, L', st', M')) (kk : fd_Go g ph p l e R s m args below meth c mm a0 Q (i + 1) L' st' M') (hH : fd_hp g ph M H) (hS : va_S (fd_A g) s.heap H locs) (hl : fd_lr g la (fd_mL mm) L) : W p l e R s m args below meth c H locs (fd_ap M - a0) (fd_sl (fd_ap M) - fd_sl a0) Q (F0 m pc la (st.map (fd_cv g))) := by
  obtain ⟨a, r, rfl, hn⟩ := fd_pR_inv hn
  obtain ⟨hg, rfl, rfl, rfl⟩ := fd_some4 hn
  rw [Bool.and_eq_true] at hg
  have hk : fd_n as 0 < fd_mL mm := by rw [← hl.1]; simpa using hg.1
  have ha3 : a < 1000 := by simpa using hg.2
  have ev : fd_cv g (fd_R a) = .ref (g.1 + a) := fd_rv_lt ha3
  rw [List.map_cons, ev]
  rw [fd_okI] at hok
  split at hok
  · rw [Bool.and_eq_true] at hok
    have h4 := of_decide_eq_true hok.1
    obtain ⟨hd, hx⟩ := fd_dc_inv hok.2
    exact lv_astore_n cx.1 cx.2.1 hd (show (fd_f4 (fd_n as 0)).val = fd_n as 0 from Nat.mod_eq_of_lt h4) hl.2.2 hk rfl (fun la1 h1 => kk (pc + 1) H locs la1 (fd_nxt hx (by decide)) hH hS (fd_lr_set hl hk rfl (by rw [ev]; exact h1)))
  · obtain ⟨hd, hx⟩ := fd_dc_inv hok
    exact lv_astore cx.1 cx.2.1 hd hl.2.2 hk rfl (fun la1 h1 => kk (pc + 2) H locs la1 (fd_nxt hx (by decide)) hH hS (fd_lr_set hl hk rfl (by rw [ev]; exact h1)))
theorem fd_k5 (cx : fd_cx g p R s m args meth c mm) (hok : fd_okI (fd_y mm).cls (fd_b mm) (fd_ini mm) (fd_pcs mm) pc ((fd_pcs mm).getD (i + 1) 0) 5 as = true) (hn : fd_nx ph 5 as L st M = some (true, L', st', M')) (kk : fd_Go g ph p l e R s m args below meth c mm a0 Q (i + 1) L' st' M') (hH : fd_hp g ph M H) (hS : va_S (fd_A g) s.heap H locs) (hl : fd_lr g la (fd_mL mm) L) : W p l e R s m args below meth c H locs (fd_ap M - a0) (fd_sl (fd_ap M) - fd_sl a0) Q (F0 m pc la (st.map (fd_cv g))) := by
  obtain ⟨hd, hx⟩ := fd_dc_inv (show fd_dc (fd_b mm) pc _ (.iinc (fd_n as 0) (fd_a as 1)) 3 = true from hok)
  obtain ⟨a, ha, hn⟩ := fd_lI_inv hn
  obtain ⟨hg, rfl, rfl, rfl⟩ := fd_some4 hn
  have hk : fd_n as 0 < fd_mL mm := by rw [← hl.1]; exact (List.getElem?_eq_some_iff.mp ha).1
  obtain ⟨k, hk1⟩ := List.getElem?_of_mem (fd_as_mem.mpr ⟨fd_I a, ha, (by intro q; cases q), rfl⟩ : (fd_n as 0, fd_cv g (fd_I a)) ∈ fd_as g L)
  exact lv_iinc (v := Int32.ofInt (a + fd_a as 1)) cx.1 cx.2.1 hd hl.2.2 (k := k) hk1 (Int32.ofInt_add ..).symm hk rfl (fun la1 h1 => kk (pc + 3) H locs la1 (fd_nxt hx (by decide)) hH hS (fd_lr_set hl hk rfl h1))
end fdK

/-! THE SMALL MACHINE IS SOUND: a run of fd_ex gives a contract of the method -/
def fd_Qc (g : fd_G) (ph : Bool) (r : Option fd_V) (M' : fd_M) : Array Value → State → Outcome → State → Prop := match r with
  | none => va_Qv (fun _ : Unit => True) (fun _ t => fd_hp g ph M' t.heap) (fd_A g)
  | some (.inl a) => va_Qi (fun r (_ : Unit) => r = Int32.ofInt a) (fun _ t => fd_hp g ph M' t.heap) (fd_A g)
  | some (.inr (.inl a)) => va_Ql (fun r (_ : Unit) => r = Int64.ofInt a) (fun _ t => fd_hp g ph M' t.heap) (fd_A g)
  | some (.inr (.inr _)) => fun _ _ _ _ => False
def fd_Pc (g : fd_G) (ph : Bool) (as : List fd_V) (M : fd_M) : Array Value → State → Prop := va_Pc (as.map (fd_cv g)) (fun U => fd_hp g ph M U.heap ∧ fd_Kn g U U.heap ∧ g.1 ≤ U.heap.size)
def fd_rm (d mc ms : Nat) : Room := { frames := d + 5, cells := mc, slots := ms, locals := 60 * d + 300 }
def fd_wsm (m : Nat) : List Jvm.Cond := .code (fd_y m) (fd_b m) (fd_mL m) (fd_r m) :: fd_gtbl
theorem fd_okM_inv {m : Nat} (h : m < 177) : (Jvm.Cond.code (fd_y m) (fd_b m) (fd_mL m) (fd_r m) ∈ fd_tbl ∧ Jvm.Cond.initialized (fd_y m).cls ∈ fd_tbl) ∧ (fd_sk m = 0 → Jvm.Cond.static (fd_y m) ∈ fd_tbl) ∧ (fd_sk m = 1 → Jvm.Cond.instanceMethod (fd_y m) ∈ fd_tbl ∧ Jvm.Cond.selects (fd_y m).cls (fd_y m) (fd_y m) ∈ fd_tbl) ∧ (fd_sk m = 2 → Jvm.Cond.instanceMethod (fd_y m) ∈ fd_tbl) ∧ ((fd_y m).cls ≠ "java/lang/invoke/MethodHandle" ∧ (fd_y m).cls ≠ "java/lang/invoke/VarHandle" ∧ plainName (fd_y m).cls = true ∧ fd_r m = fd_rtyp (fd_rk m)) ∧ fd_mL m ≤ 20 := by
  have h1 := fd_okMM h
  rw [fd_okM, Bool.and_eq_true, Bool.and_eq_true, Bool.and_eq_true, Bool.and_eq_true] at h1
  obtain ⟨⟨a1, a2⟩, a3, a4, a5⟩ := h1
  refine ⟨⟨fd_wd_mem a1, fd_wd_mem a2⟩, fun q => ?_, fun q => ?_, fun q => ?_, of_decide_eq_true a4, of_decide_eq_true a5⟩
  · rw [q] at a3
    exact fd_wd_mem a3
  · rw [q] at a3
    have a3 := Bool.and_eq_true_iff.mp a3
    exact ⟨fd_wd_mem a3.1, fd_wd_mem a3.2⟩
  · rw [q] at a3
    exact fd_wd_mem a3
theorem fd_ex_succ {ph : Bool} {f d mm i : Nat} {L st : List fd_V} {M : fd_M} {y : Option fd_V × fd_M} (h : fd_ex ph (f + 1) d mm i L st M = some y) : ∃ op as, (fd_code mm)[i]? = some (op, as) ∧
    ((op < 100 ∧ ∃ L1 st1 M1, fd_nx ph op as L st M = some (true, L1, st1, M1) ∧ fd_ex ph f d mm (i + 1) L1 st1 M1 = some y) ∨
     (¬ op < 100 ∧ (op < 114 ∨ op = 118) ∧ ∃ j st1, fd_jmp op as i st = some (true, j, st1) ∧ fd_ex ph f d mm j L st1 M = some y) ∨
     (¬ op < 100 ∧ ¬ (op < 114 ∨ op = 118) ∧ op < 120 ∧ ∃ r, fd_ret (fd_rk mm) op st = some (true, r) ∧ y = (r, M)) ∨
     (120 ≤ op ∧ ∃ d', d = d' + 1 ∧ fd_inv ph op (fd_n as 0) (fd_n as 1) st M = true ∧ ∃ r1 M1, fd_ex ph f d' (fd_n as 0) 0 (fd_pad (fd_n as 0) (st.take (fd_n as 1)).reverse) [] M = some (r1, M1) ∧ fd_ex ph f (d' + 1) mm (i + 1) L (r1.toList ++ st.drop (fd_n as 1)) M1 = some y)) := by
  rw [fd_ex] at h
  cases hi : (fd_code mm)[i]? with
  | none => rw [hi] at h; cases h
  | some I =>
    obtain ⟨op, as⟩ := I
    rw [hi] at h
    refine ⟨op, as, rfl, ?_⟩
    dsimp only at h
    by_cases h1 : op < 100
    · rw [if_pos h1] at h
      refine Or.inl ⟨h1, ?_⟩
      split at h
      · exact ⟨_, _, _, by assumption, h⟩
      · cases h
    · rw [if_neg h1] at h
      refine Or.inr ?_
      by_cases h2 : op < 114 ∨ op = 118
      · rw [if_pos h2] at h
        refine Or.inl ⟨h1, h2, ?_⟩
        split at h
        · exact ⟨_, _, by assumption, h⟩
        · cases h
      · rw [if_neg h2] at h
        refine Or.inr ?_
        by_cases h3 : op < 120
        · rw [if_pos h3] at h
          refine Or.inl ⟨h1, h2, h3, ?_⟩
          split at h
          · cases h
            exact ⟨_, by assumption, rfl⟩
          · cases h
        · rw [if_neg h3] at h
          refine Or.inr ⟨by omega, ?_⟩
          cases d with
          | zero => cases h
          | succ d' =>
            refine ⟨d', rfl, ?_⟩
            dsimp only at h
            by_cases h4 : fd_inv ph op (fd_n as 0) (fd_n as 1) st M = true
            · rw [if_pos h4] at h
              refine ⟨h4, ?_⟩
              split at h
              · exact ⟨_, _, by assumption, h⟩
              · cases h
            · rw [if_neg h4] at h
              cases h
theorem fd_op_call {own : String} {b : ByteArray} {ini : Bool} {pcs : List Nat} {pc nx op : Nat} {as : List Int} (hok : fd_okI own b ini pcs pc nx op as = true) (h : 120 ≤ op) : op = 120 ∨ op = 121 ∨ op = 122 := by
  unfold fd_okI at hok
  split at hok
  all_goals first | omega | skip
  rw [if_neg (by omega), if_neg (by omega)] at hok
  cases hok
theorem fd_mid_lt {own : String} {b : ByteArray} {ini : Bool} {pcs : List Nat} {pc nx op : Nat} {as : List Int} (hok : fd_okI own b ini pcs pc nx op as = true) (h : 120 ≤ op) : fd_n as 0 < 177 := by
  rcases fd_op_call hok h with rfl | rfl | rfl
  all_goals
    rw [fd_okI, Bool.and_eq_true, Bool.and_eq_true] at hok
    exact (of_decide_eq_true hok.2.1).1
theorem fd_mono {ph : Bool} : ∀ (f d mm i : Nat) (L st : List fd_V) (M : fd_M) (r : Option fd_V) (M' : fd_M), mm < 177 → fd_ex ph f d mm i L st M = some (r, M') → fd_ap M ≤ fd_ap M'
  | 0, _, _, _, _, _, _, _, _, _, h => by rw [fd_ex] at h; cases h
  | f + 1, d, mm, i, L, st, M, r, M', hm, h => by
    obtain ⟨op, as, hi, h⟩ := fd_ex_succ h
    obtain ⟨pc, hpc, hok⟩ := fd_ok_at hm hi
    rcases h with ⟨h1, L1, st1, M1, h2, h3⟩ | ⟨h1, h2, j, st1, h3, h4⟩ | ⟨h1, h2, h3, r1, h4, h5⟩ | ⟨h1, d', rfl, h2, r1, M1, h3, h4⟩
    · exact Nat.le_trans (fd_nx_mono hok h2) (fd_mono f _ _ _ _ _ _ _ _ hm h3)
    · exact fd_mono f _ _ _ _ _ _ _ _ hm h4
    · cases h5
      exact Nat.le_refl _
    · exact Nat.le_trans (fd_mono f _ _ _ _ _ _ _ _ (fd_mid_lt hok h1) h3) (fd_mono f _ _ _ _ _ _ _ _ hm h4)
theorem fd_Kn_same {g : fd_G} {u U : State} {H : Heap} (h : u.vm = U.vm) (hk : fd_Kn g u H) : fd_Kn g U H := by
  have ha : u.vm.Alike U.vm := by rw [h]; exact Vm.Alike.refl _
  refine ⟨va_K.moved ha hk.1, fun w hw => ?_, va_Z.moved ha hk.2.2.1, va_T.moved ha hk.2.2.2.1, va_Z.moved ha hk.2.2.2.2.1, va_T.moved ha hk.2.2.2.2.2⟩
  have h1 : fd_nest w = true := (List.mem_filter.mp hw).2
  have h2 := hk.2.1 w hw
  clear hw
  cases w <;> first | exact va_Nw.same rfl h h2 | skip
  case arrayOver t =>
    cases t with
    | object C => exact va_AO.moved ha h2
    | _ => cases h1
  all_goals cases h1
theorem fd_Pc_blind {g : fd_G} {ph : Bool} {as : List fd_V} {M : fd_M} : FrameBlind (fd_Pc g ph as M) := by
  intro a U g' mk q
  obtain ⟨q0, q1, q2, q3⟩ := q
  exact ⟨q0, q1, fd_Kn_same (u := U) rfl q2, q3⟩
/-! entry -/
theorem fd_pcs0_all : (List.range 177).all (fun m => decide ((fd_pcs m)[0]? = some 0)) = true := by decide +kernel
theorem fd_pcs0 {m : Nat} (h : m < 177) : (fd_pcs m)[0]? = some 0 := of_decide_eq_true (List.all_eq_true.mp fd_pcs0_all m (List.mem_range.mpr h))
theorem fd_args_mem : ∀ (vs : List Value) (o k : Nat) (w : Value), (∀ v ∈ vs, v.category = 1) → vs[k]? = some w → (o + k, w) ∈ lv_args o vs
  | [], _, k, w, _, h => by simp at h
  | v :: vs, o, k, w, hc, h => by
    have h1 : ¬ v.category = 2 := by rw [hc v List.mem_cons_self]; decide
    rw [lv_args, if_neg h1]
    cases k with
    | zero =>
      cases h
      exact List.mem_cons_self
    | succ k =>
      have := fd_args_mem vs (o + 1) k w (fun v hv => hc v (List.mem_cons_of_mem _ hv)) h
      rw [show o + (k + 1) = o + 1 + k by omega]
      exact List.mem_cons_of_mem _ this
theorem fd_sl_len : ∀ (vs : List Value), (∀ v ∈ vs, v.category = 1) → (lg_sl vs).length = vs.length
  | [], _ => rfl
  | v :: vs, hc => by
    have h1 : ¬ v.category = 2 := by rw [hc v List.mem_cons_self]; decide
    have := fd_sl_len vs (fun v hv => hc v (List.mem_cons_of_mem _ hv))
    simp only [lg_sl, List.flatMap_cons, if_neg h1] at this ⊢
    simp [this]
theorem fd_n1_cw {v : fd_V} (h : fd_n1 v = true) : fd_cw v = 1 ∧ v ≠ fd_R 1003 := by
  rcases v with a | a | c
  · exact ⟨rfl, fun q => by cases q⟩
  · cases h
  · refine ⟨rfl, fun q => ?_⟩
    cases q
    cases h
theorem fd_entry {g : fd_G} {mid : Nat} {as : List fd_V} (hlen : as.length ≤ fd_mL mid) (hn1 : ∀ v ∈ as, fd_n1 v = true) : fd_lr g ((lg_sl (as.map (fd_cv g)) ++ List.replicate (fd_mL mid - (lg_sl (as.map (fd_cv g))).length) Slot.unset).toArray) (fd_mL mid) (fd_pad mid as) := by
  have hc : ∀ v ∈ as.map (fd_cv g), v.category = 1 := by
    intro v hv
    obtain ⟨x, hx, rfl⟩ := List.mem_map.mp hv
    rw [fd_cat]
    exact (fd_n1_cw (hn1 x hx)).1
  have hl := lv_entry (as.map (fd_cv g)) (n := fd_mL mid) (by rw [fd_sl_len _ hc, List.length_map]; exact hlen)
  refine ⟨by simp [fd_pad]; omega, fun v hv => ?_, hl.1, hl.2.1, fun q hq => ?_⟩
  · rcases List.mem_append.mp hv with h | h
    · exact (fd_n1_cw (hn1 v h)).1
    · rw [(List.mem_replicate.mp h).2]
      rfl
  · obtain ⟨k, w⟩ := q
    obtain ⟨v, hv, hne, rfl⟩ := fd_as_mem.mp hq
    have hk : as[k]? = some v := by
      rcases Nat.lt_or_ge k as.length with h | h
      · rw [fd_pad, List.getElem?_append_left h] at hv
        exact hv
      · rw [fd_pad, List.getElem?_append_right h] at hv
        exact absurd (List.mem_replicate.mp (List.mem_of_getElem? hv)).2 hne
    have := fd_args_mem (as.map (fd_cv g)) 0 k (fd_cv g v) hc (by rw [List.getElem?_map, hk]; rfl)
    rw [Nat.zero_add] at this
    exact hl.2.2 _ this
theorem fd_met_of {g : fd_G} {ph : Bool} {l : Launch} {mid d mc ms : Nat} {as : List fd_V} {M M' : fd_M} {r : Option fd_V} (h177 : mid < 177) (hlen : as.length ≤ fd_mL mid) (hn1 : ∀ v ∈ as, fd_n1 v = true)
    (hgo : ∀ (p : Program) (e : Env) (s : State) (m : MethodId) (args : Array Value) (below : List Frame) (meth : Method) (c : Code), fd_cx g p (fd_rm d mc ms) s m args meth c mid → fd_Go g ph p l e (fd_rm d mc ms) s m args below meth c mid (fd_ap M) (MQ below (fd_Qc g ph r M') args s mc ms (fd_A g)) 0 (fd_pad mid as) [] M) :
    Met l (fd_y mid) (fd_wsm mid) (fd_rm d mc ms) (fd_Pc g ph as M) (fd_Qc g ph r M') mc ms (fd_A g) := by
  obtain ⟨⟨hcode, hinit⟩, -, -, -, ⟨-, -, hplain, -⟩, -⟩ := fd_okM_inv h177
  refine Met.ofW (cc := fd_b mid) (maxL := fd_mL mid) (ret := fd_r mid) hplain rfl ?_
  intro p e s m args below meth c s₁ B hml hv
  obtain ⟨rfl, hH, hKn, hbs⟩ := hv
  have hts := atoms_spec (ws := fd_wsm mid) B.pre
  have hown := findClass_of_methodNamed B.named
  have cx : fd_cx g p (fd_rm d mc ms) s m (as.map (fd_cv g)).toArray meth c mid := ⟨B.exec, B.bytes, hml, B.returns, hown, fd_words (fun w hw => hts w (List.mem_cons_of_mem _ hw)) hKn.2.1, B.notSynchronized, fun hi => by rw [(name_of_methodNamed B.named B.method).1]; exact of_decide_eq_true hi, hKn, hbs, h177, by show 5 ≤ d + 5; omega, by show 200 ≤ 60 * d + 300; omega⟩
  have k := hgo p e s m _ below meth c cx 0 s.heap [] _ (fd_pcs0 h177) hH va_S.rf (fd_entry hlen hn1)
  rw [Nat.sub_self, Nat.sub_self] at k
  rw [lg_entry_eq]
  exact k

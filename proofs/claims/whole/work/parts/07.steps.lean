/-! locals -/
def fd_as (g : fd_G) (L : List fd_V) : List (Nat × Value) := (List.range L.length).filterMap (fun k => match L[k]? with
  | some v => if v = fd_R 1003 then none else some (k, fd_cv g v)
  | none => none)
theorem fd_as_mem {g : fd_G} {L : List fd_V} {k : Nat} {w : Value} : (k, w) ∈ fd_as g L ↔ ∃ v, L[k]? = some v ∧ v ≠ fd_R 1003 ∧ w = fd_cv g v := by
  unfold fd_as
  rw [List.mem_filterMap]
  constructor
  · rintro ⟨j, -, hj⟩
    cases hv : L[j]? with
    | none => rw [hv] at hj; cases hj
    | some v =>
      rw [hv] at hj
      by_cases h : v = fd_R 1003
      · simp only [h, if_true] at hj; cases hj
      · simp only [if_neg h] at hj
        cases hj
        exact ⟨v, hv, h, rfl⟩
  · rintro ⟨v, hv, h, rfl⟩
    refine ⟨k, List.mem_range.mpr (List.getElem?_eq_some_iff.mp hv).1, ?_⟩
    rw [hv]
    simp only [if_neg h]
def fd_lr (g : fd_G) (la : Array Slot) (nL : Nat) (L : List fd_V) : Prop := L.length = nL ∧ (∀ v ∈ L, fd_cw v = 1) ∧ lv_has la nL (fd_as g L)
theorem fd_lr_get {g : fd_G} {la : Array Slot} {nL k : Nat} {L : List fd_V} {v : fd_V} (h : fd_lr g la nL L) (hk : L[k]? = some v) (hv : v ≠ fd_R 1003) : la[k]? = some (.val (fd_cv g v)) := h.2.2.2.2 (k, fd_cv g v) (fd_as_mem.mpr ⟨v, hk, hv, rfl⟩)
theorem fd_lr_set {g : fd_G} {la la' : Array Slot} {nL k : Nat} {L : List fd_V} {v : fd_V} (h : fd_lr g la nL L) (hk : k < nL) (hv : fd_cw v = 1) (h' : lv_has la' nL ((k, fd_cv g v) :: (fd_as g L).filter (fun q => !(q.1 == k) && !(q.1 + 1 == k && q.2.category == 2)))) : fd_lr g la' nL (L.set k v) := by
  refine ⟨by rw [List.length_set]; exact h.1, fun w hw => ?_, h'.1, h'.2.1, fun q hq => ?_⟩
  · rcases List.mem_or_eq_of_mem_set hw with hw | rfl
    · exact h.2.1 w hw
    · exact hv
  · obtain ⟨j, w⟩ := q
    obtain ⟨x, hx, hne, rfl⟩ := fd_as_mem.mp hq
    refine h'.2.2 _ ?_
    by_cases hj : j = k
    · subst hj
      rw [List.getElem?_set_self (by have := h.1; omega)] at hx
      cases hx
      exact List.mem_cons_self
    · rw [List.getElem?_set_ne (fun q => hj q.symm)] at hx
      refine List.mem_cons_of_mem _ (List.mem_filter.mpr ⟨fd_as_mem.mpr ⟨x, hx, hne, rfl⟩, ?_⟩)
      have h1 : (fd_cv g x).category = 1 := by rw [fd_cat]; exact h.2.1 x (List.mem_of_getElem? hx)
      simp [hj, h1]
/-! inversion -/
theorem fd_pI_inv {st : List fd_V} {F : Int → List fd_V → fd_Rs} {y} (h : fd_pI st F = some y) : ∃ a r, st = .inl a :: r ∧ F a r = some y := by
  unfold fd_pI at h
  split at h
  · exact ⟨_, _, rfl, h⟩
  · cases h
theorem fd_pJ_inv {st : List fd_V} {F : Int → List fd_V → fd_Rs} {y} (h : fd_pJ st F = some y) : ∃ a r, st = .inr (.inl a) :: r ∧ F a r = some y := by
  unfold fd_pJ at h
  split at h
  · exact ⟨_, _, rfl, h⟩
  · cases h
theorem fd_pR_inv {st : List fd_V} {F : Nat → List fd_V → fd_Rs} {y} (h : fd_pR st F = some y) : ∃ a r, st = .inr (.inr a) :: r ∧ F a r = some y := by
  unfold fd_pR at h
  split at h
  · exact ⟨_, _, rfl, h⟩
  · cases h
theorem fd_lI_inv {v : Option fd_V} {F : Int → fd_Rs} {y} (h : fd_lI v F = some y) : ∃ a, v = some (.inl a) ∧ F a = some y := by
  unfold fd_lI at h
  split at h
  · exact ⟨_, rfl, h⟩
  · cases h
theorem fd_lR_inv {v : Option fd_V} {F : Nat → fd_Rs} {y} (h : fd_lR v F = some y) : ∃ a, v = some (.inr (.inr a)) ∧ F a = some y := by
  unfold fd_lR at h
  split at h
  · exact ⟨_, rfl, h⟩
  · cases h
theorem fd_some4 {b : Bool} {x x' y y' : List fd_V} {z z' : fd_M} (h : (some (b, x, y, z) : fd_Rs) = some (true, x', y', z')) : b = true ∧ x = x' ∧ y = y' ∧ z = z' := by
  cases h
  exact ⟨rfl, rfl, rfl, rfl⟩
/-! the rows of the check at a place -/
theorem fd_okL_at {own : String} {b : ByteArray} {ini : Bool} {pcs : List Nat} : ∀ (r : List fd_Ins) (q : List Nat), fd_okL own b ini pcs r q = true → ∀ (i : Nat) (op : Nat) (as : List Int), r[i]? = some (op, as) → ∃ pc, q[i]? = some pc ∧ fd_okI own b ini pcs pc (q.getD (i + 1) 0) op as = true
  | [], [], _, i, op, as, h => by simp at h
  | [], _ :: _, h, _, _, _, _ => by cases h
  | _ :: _, [], h, _, _, _, _ => by cases h
  | (op', as') :: r, pc :: q, h, i, op, as, hi => by
    rw [fd_okL, Bool.and_eq_true] at h
    cases i with
    | zero =>
      cases hi
      exact ⟨pc, rfl, by
        have := h.1
        cases q <;> exact this⟩
    | succ i =>
      obtain ⟨pc', h1, h2⟩ := fd_okL_at r q h.2 i op as hi
      exact ⟨pc', h1, h2⟩
theorem fd_ok_at {mm i op : Nat} {as : List Int} (hm : mm < 177) (hi : (fd_code mm)[i]? = some (op, as)) : ∃ pc, (fd_pcs mm)[i]? = some pc ∧ fd_okI (fd_y mm).cls (fd_b mm) (fd_ini mm) (fd_pcs mm) pc ((fd_pcs mm).getD (i + 1) 0) op as = true := by
  have h := fd_okAll mm hm
  rw [fd_okC, Bool.and_eq_true] at h
  exact fd_okL_at _ _ h.2 i op as hi
theorem fd_okMM {mm : Nat} (hm : mm < 177) : fd_okM mm = true := by
  have h := fd_okAll mm hm
  rw [fd_okC, Bool.and_eq_true] at h
  exact h.1
theorem fd_wd_mem {p : Nat} {w : Jvm.Cond} (h : fd_wd p w = true) (hg : (goodWord w || fd_nest w) = true := by rfl) : w ∈ fd_tbl := fd_mt (List.mem_of_getElem? (of_decide_eq_true h)) hg
theorem fd_wd_memL {p : Nat} {w : Jvm.Cond} (h : fd_wd p w = true) : w ∈ lw_tbl := List.mem_of_getElem? (of_decide_eq_true h)
theorem fd_dc_inv {b : ByteArray} {pc nx : Nat} {I : Instr} {len : Nat} (h : fd_dc b pc nx I len = true) : decode b pc = .ok (I, len) ∧ nx = pc + len := by
  rw [fd_dc, Bool.and_eq_true] at h
  exact ⟨of_decide_eq_true h.1, of_decide_eq_true h.2⟩
theorem fd_nxt {q : List Nat} {j pc len : Nat} (h : q.getD j 0 = pc + len) (hl : 0 < len) : q[j]? = some (pc + len) := by
  rw [List.getD_eq_getElem?_getD] at h
  cases hj : q[j]? with
  | none => rw [hj] at h; simp at h; omega
  | some x => rw [hj] at h; simp at h; rw [h]
/-! what is so of the cells' shapes -/
def fd_shOk (c : Nat) : Bool := decide ((fd_SH c).1 < 20 → (fd_SH c).1 < 11 ∧ (fd_clD (fd_SH c).1).2.2 = (fd_SH c).2) && decide ((fd_SH c).2 < 1000 ∧ ((fd_SH c).1 ≤ 24))
theorem fd_sh_all : (List.range 213).all fd_shOk = true := by decide +kernel
theorem fd_sh_out {c : Nat} (h : 213 ≤ c) : fd_SH c = (99, 0) := by
  unfold fd_SH
  simp only [Bool.cond_eq_ite, Nat.ble_eq]
  repeat (first | rw [if_pos (by omega)])
theorem fd_sh_at {c : Nat} (h : (fd_SH c).1 ≤ 24) : c < 213 ∧ ((fd_SH c).1 < 20 → (fd_SH c).1 < 11 ∧ (fd_clD (fd_SH c).1).2.2 = (fd_SH c).2) ∧ (fd_SH c).2 < 1000 := by
  have hc : c < 213 := by
    rcases Nat.lt_or_ge c 213 with q | q
    · exact q
    · rw [fd_sh_out q] at h
      exact absurd h (by decide)
  have h1 := List.all_eq_true.mp fd_sh_all c (List.mem_range.mpr hc)
  rw [fd_shOk, Bool.and_eq_true] at h1
  exact ⟨hc, of_decide_eq_true h1.1, (of_decide_eq_true h1.2).1⟩
def fd_sl (n : Nat) : Nat := ((List.range n).map (fun c => (fd_SH c).2)).sum
theorem fd_sl_succ (n : Nat) : fd_sl (n + 1) = fd_sl n + (fd_SH n).2 := by
  simp [fd_sl, List.range_succ]
/-- a class by its number -/
theorem fd_clD_get {ci : Nat} (h : ci < 11) : fd_cl[ci]? = some (fd_clD ci) := by
  rcases ci with _ | _ | _ | _ | _ | _ | _ | _ | _ | _ | _ | ci <;> first | rfl | omega
def fd_clOk (ci : Nat) : Bool := (u_ws (fd_clD ci).1 (fd_clD ci).2.1 (fd_clD ci).2.2).all (fun w => decide (w ∈ lw_tbl) && goodWord w) &&
  (decide (.instantiable (fd_clD ci).1 (fd_clD ci).2.2 ∈ lw_tbl ∧ Jvm.Cond.initialized (fd_clD ci).1 ∈ lw_tbl) &&
  decide ((∀ a, a < (fd_clD ci).2.2 → ∀ b, b < (fd_clD ci).2.2 → a ≠ b → ((fd_clD ci).2.1 a).2.1 ≠ ((fd_clD ci).2.1 b).2.1) ∧ ∀ k, k < (fd_clD ci).2.2 → parseFieldDescriptor ((fd_clD ci).2.1 k).2.2.1 = some (fd_ty ci k)))
theorem fd_cl_all : (List.range 11).all fd_clOk = true := by decide +kernel
theorem fd_cl_at {ci : Nat} (h : ci < 11) : (∀ w ∈ u_ws (fd_clD ci).1 (fd_clD ci).2.1 (fd_clD ci).2.2, w ∈ fd_tbl) ∧ Jvm.Cond.instantiable (fd_clD ci).1 (fd_clD ci).2.2 ∈ fd_tbl ∧ Jvm.Cond.initialized (fd_clD ci).1 ∈ fd_tbl ∧ (∀ a, a < (fd_clD ci).2.2 → ∀ b, b < (fd_clD ci).2.2 → a ≠ b → ((fd_clD ci).2.1 a).2.1 ≠ ((fd_clD ci).2.1 b).2.1) ∧ ∀ k, k < (fd_clD ci).2.2 → parseFieldDescriptor ((fd_clD ci).2.1 k).2.2.1 = some (fd_ty ci k) := by
  have h1 := List.all_eq_true.mp fd_cl_all ci (List.mem_range.mpr h)
  rw [fd_clOk, Bool.and_eq_true, Bool.and_eq_true] at h1
  have h2 := of_decide_eq_true h1.2.1
  have h3 := of_decide_eq_true h1.2.2
  exact ⟨fun w hw => by
    have q := List.all_eq_true.mp h1.1 w hw
    rw [Bool.and_eq_true] at q
    exact fd_mt (of_decide_eq_true q.1) (by rw [q.2]; rfl), fd_mt h2.1, fd_mt h2.2, h3.1, h3.2⟩

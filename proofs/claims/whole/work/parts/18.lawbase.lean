/-! THE CLAIM OUT OF ONE WALK OF THE LAW'S BODY. Your part is whole_start (and what it stands on); all else here is the same for every law, but numbers. -/
def R_law : String := "FacingDoorsLaw"
def lw_P (b : Addr) (xs : List Int32) (args : Array Value) (s : State) : Prop := args = #[.ref b] ∧ s.IntsAt b xs ∧ xs.length ≤ 256 ∧ (Jvm.Cond.and given_1 narrow_1).before args s = true
def lw_Q (_ : Array Value) (s : State) (o : Outcome) (t : State) : Prop := o = .returned (some (.int 1)) ∧ Framed s o t [] 600000 7302250
def lw_Z (below : List Frame) (a : Array Value) (s : State) : State → Prop := fun t => ∃ o, t.status = .running ∧ Ended t below o ∧ lw_Q a s o t
/-- the law's own end, with 1 on the stack, nothing written that was there before, its room as the claim has it -/
theorem lw_ret {p : Program} {l : Launch} {e : Env} {s : State} {m : MethodId} {below : List Frame} {meth : Method} {c : Code} {b : Nat} (hx : p.tables.exec = Jvm.exec) (hb : c.code = code) (hr : meth.sig.returnType = ret) (hlocks : meth.locks = false) {pc : Nat} {H : Heap} {ls : Array Slot} (hdg : decode code pc = .ok (.ireturn, 1)) : W p l e room_1 s m #[Value.ref b] below meth c H [] 600000 7302250 (lw_Z below #[Value.ref b] s) (F0 m pc ls [.int 1]) := by
  intro T hT X
  obtain ⟨fs, hret, hrun, hended, hW, hframe⟩ := X.leave (v := some (.int 1)) (hlocks := hlocks) (fun h => by rw [hr] at h; cases h)
  have hmeth' : T.vm.method? m = some meth := X.method'
  refine ⟨T.setFrames fs, ?_, .returned (some (.int 1)), hrun, hended, rfl, ⟨_, rfl⟩, hW, hframe⟩
  jvm_step X.here [X.here.top, hx, hb, hdg, hmeth', hr, ret, narrow_b1]
  (try refine ⟨rfl, ?_⟩); (try refine ⟨rfl, ?_⟩)
  first | (intro acts; rw [hret _ acts rfl rfl rfl]) | rw [hret _ _ rfl rfl rfl]
  exact Steps.refl _
/-- what holds at the law's entry: the machine, the code, the tables' words (any of lw_tbl by 'hts w (by decide +kernel)'), the script of L ints xs at the cell b, what the Statement gives of the start (any of its parts by flat_of_before) -/
def lw_At (p : Program) (s : State) (m : MethodId) (meth : Method) (c : Code) (b L : Nat) (xs : Nat → Int32) : Prop :=
  p.tables.exec = Jvm.exec ∧ c.code = code ∧ meth.sig.returnType = ret ∧ c.maxLocals = 4 ∧ s.vm.findClass R_law = some m.cls ∧ (∀ w ∈ lw_tbl, w.before #[Value.ref b] s = true) ∧ va_X b L xs s s.heap ∧ b < s.heap.size ∧ meth.locks = false ∧ (Jvm.Cond.and given_1 narrow_1).before #[Value.ref b] s = true
/-! behind the constructors nothing is made -/
theorem fd_nx_same {own : String} {b : ByteArray} {ini : Bool} {pcs : List Nat} {pc nx op : Nat} {as : List Int} {L L' st st' : List fd_V} {M M' : fd_M} (hok : fd_okI own b ini pcs pc nx op as = true) (hn : fd_nx true op as L st M = some (true, L', st', M')) : M' 5000 0 = M 5000 0 := by
  match op, hok, hn with
  | 0, hok, hn => obtain ⟨-, -, -, rfl⟩ := fd_some4 hn; rfl
  | 1, hok, hn => obtain ⟨_, _, hn⟩ := fd_lI_inv hn; obtain ⟨-, -, -, rfl⟩ := fd_some4 hn; rfl
  | 2, hok, hn => obtain ⟨_, _, hn⟩ := fd_lR_inv hn; obtain ⟨-, -, -, rfl⟩ := fd_some4 hn; rfl
  | 3, hok, hn => obtain ⟨v1, r1, rfl, hn1⟩ := fd_pI_inv hn; obtain ⟨-, -, -, rfl⟩ := fd_some4 hn1; rfl
  | 4, hok, hn => obtain ⟨v1, r1, rfl, hn1⟩ := fd_pR_inv hn; obtain ⟨-, -, -, rfl⟩ := fd_some4 hn1; rfl
  | 5, hok, hn => obtain ⟨_, _, hn⟩ := fd_lI_inv hn; obtain ⟨-, -, -, rfl⟩ := fd_some4 hn; rfl
  | 6, hok, hn => obtain ⟨v1, r1, rfl, hn1⟩ := fd_pI_inv hn; obtain ⟨v2, r2, rfl, hn2⟩ := fd_pI_inv hn1; obtain ⟨-, -, -, rfl⟩ := fd_some4 hn2; rfl
  | 7, hok, hn => obtain ⟨v1, r1, rfl, hn1⟩ := fd_pI_inv hn; obtain ⟨v2, r2, rfl, hn2⟩ := fd_pI_inv hn1; obtain ⟨-, -, -, rfl⟩ := fd_some4 hn2; rfl
  | 8, hok, hn => obtain ⟨v1, r1, rfl, hn1⟩ := fd_pI_inv hn; obtain ⟨v2, r2, rfl, hn2⟩ := fd_pI_inv hn1; obtain ⟨-, -, -, rfl⟩ := fd_some4 hn2; rfl
  | 9, hok, hn => obtain ⟨v1, r1, rfl, hn1⟩ := fd_pI_inv hn; obtain ⟨v2, r2, rfl, hn2⟩ := fd_pI_inv hn1; obtain ⟨-, -, -, rfl⟩ := fd_some4 hn2; rfl
  | 10, hok, hn => obtain ⟨v1, r1, rfl, hn1⟩ := fd_pI_inv hn; obtain ⟨v2, r2, rfl, hn2⟩ := fd_pI_inv hn1; obtain ⟨-, -, -, rfl⟩ := fd_some4 hn2; rfl
  | 11, hok, hn => obtain ⟨v1, r1, rfl, hn1⟩ := fd_pI_inv hn; obtain ⟨v2, r2, rfl, hn2⟩ := fd_pI_inv hn1; obtain ⟨-, -, -, rfl⟩ := fd_some4 hn2; rfl
  | 12, hok, hn => obtain ⟨v1, r1, rfl, hn1⟩ := fd_pI_inv hn; obtain ⟨v2, r2, rfl, hn2⟩ := fd_pI_inv hn1; obtain ⟨-, -, -, rfl⟩ := fd_some4 hn2; rfl
  | 13, hok, hn => obtain ⟨v1, r1, rfl, hn1⟩ := fd_pI_inv hn; obtain ⟨v2, r2, rfl, hn2⟩ := fd_pI_inv hn1; obtain ⟨-, -, -, rfl⟩ := fd_some4 hn2; rfl
  | 14, hok, hn => obtain ⟨v1, r1, rfl, hn1⟩ := fd_pI_inv hn; obtain ⟨v2, r2, rfl, hn2⟩ := fd_pI_inv hn1; obtain ⟨-, -, -, rfl⟩ := fd_some4 hn2; rfl
  | 15, hok, hn => obtain ⟨v1, r1, rfl, hn1⟩ := fd_pI_inv hn; obtain ⟨v2, r2, rfl, hn2⟩ := fd_pI_inv hn1; obtain ⟨-, -, -, rfl⟩ := fd_some4 hn2; rfl
  | 16, hok, hn => obtain ⟨v1, r1, rfl, hn1⟩ := fd_pI_inv hn; obtain ⟨v2, r2, rfl, hn2⟩ := fd_pI_inv hn1; obtain ⟨-, -, -, rfl⟩ := fd_some4 hn2; rfl
  | 17, hok, hn => obtain ⟨-, -, -, rfl⟩ := fd_some4 hn; rfl
  | 18, hok, hn => obtain ⟨v1, r1, rfl, hn1⟩ := fd_pJ_inv hn; obtain ⟨v2, r2, rfl, hn2⟩ := fd_pJ_inv hn1; obtain ⟨-, -, -, rfl⟩ := fd_some4 hn2; rfl
  | 19, hok, hn => obtain ⟨v1, r1, rfl, hn1⟩ := fd_pJ_inv hn; obtain ⟨v2, r2, rfl, hn2⟩ := fd_pJ_inv hn1; obtain ⟨-, -, -, rfl⟩ := fd_some4 hn2; rfl
  | 20, hok, hn => obtain ⟨v1, r1, rfl, hn1⟩ := fd_pJ_inv hn; obtain ⟨v2, r2, rfl, hn2⟩ := fd_pJ_inv hn1; obtain ⟨-, -, -, rfl⟩ := fd_some4 hn2; rfl
  | 21, hok, hn => obtain ⟨v1, r1, rfl, hn1⟩ := fd_pI_inv hn; obtain ⟨v2, r2, rfl, hn2⟩ := fd_pJ_inv hn1; obtain ⟨-, -, -, rfl⟩ := fd_some4 hn2; rfl
  | 22, hok, hn => obtain ⟨v1, r1, rfl, hn1⟩ := fd_pJ_inv hn; obtain ⟨v2, r2, rfl, hn2⟩ := fd_pJ_inv hn1; obtain ⟨-, -, -, rfl⟩ := fd_some4 hn2; rfl
  | 23, hok, hn => obtain ⟨v1, r1, rfl, hn1⟩ := fd_pI_inv hn; obtain ⟨-, -, -, rfl⟩ := fd_some4 hn1; rfl
  | 24, hok, hn =>
    rcases st with _ | ⟨⟨a⟩ | ⟨a⟩ | ⟨a⟩, r⟩
    · cases hn
    · obtain ⟨-, -, -, rfl⟩ := fd_some4 hn; rfl
    · cases hn
    · obtain ⟨-, -, -, rfl⟩ := fd_some4 hn; rfl
  | 25, hok, hn => obtain ⟨v1, r1, rfl, hn1⟩ := fd_pI_inv hn; obtain ⟨v2, r2, rfl, hn2⟩ := fd_pR_inv hn1; obtain ⟨-, -, -, rfl⟩ := fd_some4 hn2; rfl
  | 26, hok, hn => obtain ⟨v1, r1, rfl, hn1⟩ := fd_pI_inv hn; obtain ⟨-, -, -, rfl⟩ := fd_some4 hn1; rfl
  | 27, hok, hn => obtain ⟨v1, r1, rfl, hn1⟩ := fd_pR_inv hn; obtain ⟨-, -, -, rfl⟩ := fd_some4 hn1; rfl
  | 28, hok, hn =>
    rw [fd_okI, Bool.and_eq_true, Bool.and_eq_true] at hok
    obtain ⟨hci, -, -, -⟩ := fd_okF_inv hok.2.1
    have hn : fd_put true (fd_n as 0) (fd_n as 1) (fd_n as 2) L st M = some (true, L', st', M') := hn
    unfold fd_put at hn
    split at hn
    · obtain ⟨_, _, rfl, hn1⟩ := fd_pI_inv hn; obtain ⟨_, _, rfl, hn2⟩ := fd_pR_inv hn1; obtain ⟨hg, -, -, rfl⟩ := fd_some4 hn2; exact fd_up_ap (fd_sh_at (by rw [(fd_isO_inv hg).1]; omega)).1
    · obtain ⟨_, _, rfl, hn1⟩ := fd_pJ_inv hn; obtain ⟨_, _, rfl, hn2⟩ := fd_pR_inv hn1; obtain ⟨hg, -, -, rfl⟩ := fd_some4 hn2; exact fd_up_ap (fd_sh_at (by rw [(fd_isO_inv hg).1]; omega)).1
    · obtain ⟨_, _, rfl, hn1⟩ := fd_pR_inv hn; obtain ⟨_, _, rfl, hn2⟩ := fd_pR_inv hn1; obtain ⟨hg, -, -, rfl⟩ := fd_some4 hn2
      cases hg
    · obtain ⟨_, _, rfl, hn1⟩ := fd_pI_inv hn; obtain ⟨_, _, rfl, hn2⟩ := fd_pR_inv hn1; obtain ⟨hg, -, -, rfl⟩ := fd_some4 hn2
      rw [Bool.and_eq_true] at hg
      exact fd_up_ap (fd_sh_at (by rw [(fd_isO_inv hg.1).1]; omega)).1
    · cases hn
  | 29, hok, hn => obtain ⟨-, -, -, rfl⟩ := fd_some4 hn; rfl
  | 30, hok, hn => obtain ⟨v1, r1, rfl, hn1⟩ := fd_pI_inv hn; obtain ⟨v2, r2, rfl, hn2⟩ := fd_pR_inv hn1; obtain ⟨-, -, -, rfl⟩ := fd_some4 hn2; rfl
  | 31, hok, hn => obtain ⟨v1, r1, rfl, hn1⟩ := fd_pI_inv hn; obtain ⟨v2, r2, rfl, hn2⟩ := fd_pI_inv hn1; obtain ⟨v3, r3, rfl, hn3⟩ := fd_pR_inv hn2; obtain ⟨hg, -, -, rfl⟩ := fd_some4 hn3; exact fd_up_ap (fd_sh_at (by rw [(fd_isA_inv hg).1]; decide)).1
  | 32, hok, hn => obtain ⟨v1, r1, rfl, hn1⟩ := fd_pI_inv hn; obtain ⟨v2, r2, rfl, hn2⟩ := fd_pR_inv hn1; obtain ⟨-, -, -, rfl⟩ := fd_some4 hn2; rfl
  | 33, hok, hn =>
    obtain ⟨v1, r1, rfl, hn1⟩ := fd_pI_inv hn; obtain ⟨v2, r2, rfl, hn2⟩ := fd_pI_inv hn1; obtain ⟨v3, r3, rfl, hn3⟩ := fd_pR_inv hn2; obtain ⟨hg, -, -, rfl⟩ := fd_some4 hn3
    rw [Bool.or_eq_true, Bool.and_eq_true, Bool.and_eq_true] at hg
    rcases hg with hg | hg <;> exact fd_up_ap (fd_sh_at (by rw [(fd_isA_inv hg.1).1]; decide)).1
  | 34, hok, hn => obtain ⟨v1, r1, rfl, hn1⟩ := fd_pI_inv hn; obtain ⟨v2, r2, rfl, hn2⟩ := fd_pR_inv hn1; obtain ⟨-, -, -, rfl⟩ := fd_some4 hn2; rfl
  | 35, hok, hn =>
    obtain ⟨v1, r1, rfl, hn1⟩ := fd_pR_inv hn; obtain ⟨v2, r2, rfl, hn2⟩ := fd_pI_inv hn1; obtain ⟨v3, r3, rfl, hn3⟩ := fd_pR_inv hn2; obtain ⟨hg, -, -, rfl⟩ := fd_some4 hn3
    rw [Bool.or_eq_true, Bool.and_eq_true, Bool.and_eq_true] at hg
    rcases hg with hg | hg <;> exact fd_up_ap (fd_sh_at (by rw [(fd_isA_inv hg.1).1]; decide)).1
  | 36, hok, hn => obtain ⟨v1, r1, rfl, hn1⟩ := fd_pR_inv hn; obtain ⟨-, -, -, rfl⟩ := fd_some4 hn1; rfl
  | 37, hok, hn =>
    obtain ⟨hg, -, -, rfl⟩ := fd_some4 hn
    cases hg
  | 38, hok, hn =>
    obtain ⟨v1, r1, rfl, hn1⟩ := fd_pI_inv hn; obtain ⟨hg, -, -, rfl⟩ := fd_some4 hn1
    cases hg
  | 39, hok, hn =>
    obtain ⟨v1, r1, rfl, hn1⟩ := fd_pI_inv hn; obtain ⟨hg, -, -, rfl⟩ := fd_some4 hn1
    cases hg
  | 40, hok, hn =>
    obtain ⟨v1, r1, rfl, hn1⟩ := fd_pI_inv hn; obtain ⟨v2, r2, rfl, hn2⟩ := fd_pI_inv hn1; obtain ⟨v3, r3, rfl, hn3⟩ := fd_pR_inv hn2; obtain ⟨v4, r4, rfl, hn4⟩ := fd_pI_inv hn3; obtain ⟨v5, r5, rfl, hn5⟩ := fd_pR_inv hn4; obtain ⟨hg, -, -, rfl⟩ := fd_some4 hn5
    rw [Bool.and_eq_true, Bool.and_eq_true, Bool.and_eq_true, Bool.and_eq_true, Bool.and_eq_true] at hg
    have hs2 := Nat.eq_of_beq_eq_true hg.1.2.1
    have h2 := (fd_sh_at (c := v3) (by omega)).1
    simp [fd_cp, show ¬ 5000 = v3 by omega]
  | 41, hok, hn => obtain ⟨v1, r1, rfl, hn1⟩ := fd_pJ_inv hn; obtain ⟨-, -, -, rfl⟩ := fd_some4 hn1; rfl
  | 42, hok, hn => obtain ⟨v1, r1, rfl, hn1⟩ := fd_pR_inv hn; obtain ⟨-, -, -, rfl⟩ := fd_some4 hn1; rfl
  | 43, hok, hn => obtain ⟨v1, r1, rfl, hn1⟩ := fd_pI_inv hn; obtain ⟨v2, r2, rfl, hn2⟩ := fd_pR_inv hn1; obtain ⟨-, -, -, rfl⟩ := fd_some4 hn2; rfl
  | 44, hok, hn => obtain ⟨v1, r1, rfl, hn1⟩ := fd_pI_inv hn; obtain ⟨v2, r2, rfl, hn2⟩ := fd_pI_inv hn1; obtain ⟨-, -, -, rfl⟩ := fd_some4 hn2; rfl
  | 45, hok, hn => obtain ⟨v1, r1, rfl, hn1⟩ := fd_pI_inv hn; obtain ⟨v2, r2, rfl, hn2⟩ := fd_pJ_inv hn1; obtain ⟨-, -, -, rfl⟩ := fd_some4 hn2; rfl
  | n + 46, hok, hn => cases hn
theorem fd_stay : ∀ (f d mm i : Nat) (L st : List fd_V) (M : fd_M) (r : Option fd_V) (M' : fd_M), mm < 177 → fd_ex true f d mm i L st M = some (r, M') → M' 5000 0 = M 5000 0
  | 0, _, _, _, _, _, _, _, _, _, h => by rw [fd_ex] at h; cases h
  | f + 1, d, mm, i, L, st, M, r, M', hm, h => by
    obtain ⟨op, as, hi, h⟩ := fd_ex_succ h
    obtain ⟨pc, hpc, hok⟩ := fd_ok_at hm hi
    rcases h with ⟨h1, L1, st1, M1, h2, h3⟩ | ⟨h1, h2, j, st1, h3, h4⟩ | ⟨h1, h2, h3, r1, h4, h5⟩ | ⟨h1, d', rfl, h2, r1, M1, h3, h4⟩
    · rw [fd_stay f _ _ _ _ _ _ _ _ hm h3, fd_nx_same hok h2]
    · exact fd_stay f _ _ _ _ _ _ _ _ hm h4
    · cases h5
      rfl
    · rw [fd_stay f _ _ _ _ _ _ _ _ hm h4, fd_stay f _ _ _ _ _ _ _ _ (fd_mid_lt hok h1) h3]
/-! what the law's start knows -/
theorem fd_known {s : State} {b : Nat} (hts : ∀ w ∈ lw_tbl, w.before #[Value.ref b] s = true) (hgv : (Jvm.Cond.and given_1 narrow_1).before #[Value.ref b] s = true) : ∃ g : fd_G, g.1 = s.heap.size ∧ fd_Kn g s s.heap := by
  have hk : ∀ ci : Nat, ∃ q : ClassId × (Nat → Nat), ci < 11 → u_Kn s (fd_clD ci).1 (fd_clD ci).2.1 (fd_clD ci).2.2 q.1 q.2 := by
    intro ci
    by_cases h : ci < 11
    · obtain ⟨h1, h2, -, -, -⟩ := fd_cl_at h
      obtain ⟨cC, iS, hq⟩ := u_known (ws := lw_tbl) hts (fun w hw => (List.mem_filter.mp (h1 w hw)).1) (hts _ (List.mem_filter.mp h2).1)
      exact ⟨(cC, iS), fun _ => hq⟩
    · exact ⟨(0, fun _ => 0), fun q => absurd q h⟩
  obtain ⟨F, hF⟩ := Classical.axiomOfChoice hk
  obtain ⟨w1, w2, w3, w4, w5, -⟩ := of_decide_eq_true fd_okX_ok
  obtain ⟨a0, k0, p0, x0, y0, z0⟩ := Cond.arrayClass_spec (hts _ w1)
  obtain ⟨a1, k1, p1, x1, y1, z1⟩ := Cond.arrayClass_spec (hts _ w2)
  obtain ⟨a2, k2, p2, x2, y2, z2⟩ := Cond.arrayClass_spec (hts _ w3)
  obtain ⟨p3, a3, k3, n3, -, y3, z3, x3⟩ := Cond.arrayOver_spec (hts _ w4)
  obtain ⟨p4, a4, k4, n4, -, y4, z4, x4⟩ := Cond.arrayOver_spec (hts _ w5)
  have hs := flat_of_before _ hgv
  have hA : ∀ a : Nat, a < s.heap.size → ¬ s.heap.size ≤ a := fun a h => Nat.not_le.mpr h
  obtain ⟨tX, eX, TX⟩ := va_Tof (A := fun q => s.heap.size ≤ q) (args := #[Value.ref b]) (s := s) (tm := .static "FacingDoors" "STEP_X" "[I") (ty := .int) (N := 4) (f := fun j => .int (Int32.ofInt (fd_sx j))) (by decide) (hs _ (by decide +kernel)) (va_eqt (hs _ (by decide +kernel))) (fun j hj => by
    have h4 : j = 0 ∨ j = 1 ∨ j = 2 ∨ j = 3 := by omega
    rcases h4 with rfl | rfl | rfl | rfl
    · exact va_eqt (z := 0) (hs (.eq (.elem (.static "FacingDoors" "STEP_X" "[I") (.int 0)) (.int 0)) (by decide +kernel))
    · exact va_eqt (z := 1) (hs (.eq (.elem (.static "FacingDoors" "STEP_X" "[I") (.int 1)) (.int 1)) (by decide +kernel))
    · exact va_eqt (z := 0) (hs (.eq (.elem (.static "FacingDoors" "STEP_X" "[I") (.int 2)) (.int 0)) (by decide +kernel))
    · exact va_eqt (z := -1) (hs (.eq (.elem (.static "FacingDoors" "STEP_X" "[I") (.int 3)) (.int (-1))) (by decide +kernel))) hA
  obtain ⟨tY, eY, TY⟩ := va_Tof (A := fun q => s.heap.size ≤ q) (args := #[Value.ref b]) (s := s) (tm := .static "FacingDoors" "STEP_Y" "[I") (ty := .int) (N := 4) (f := fun j => .int (Int32.ofInt (fd_sy j))) (by decide) (hs _ (by decide +kernel)) (va_eqt (hs _ (by decide +kernel))) (fun j hj => by
    have h4 : j = 0 ∨ j = 1 ∨ j = 2 ∨ j = 3 := by omega
    rcases h4 with rfl | rfl | rfl | rfl
    · exact va_eqt (z := -1) (hs (.eq (.elem (.static "FacingDoors" "STEP_Y" "[I") (.int 0)) (.int (-1))) (by decide +kernel))
    · exact va_eqt (z := 0) (hs (.eq (.elem (.static "FacingDoors" "STEP_Y" "[I") (.int 1)) (.int 0)) (by decide +kernel))
    · exact va_eqt (z := 1) (hs (.eq (.elem (.static "FacingDoors" "STEP_Y" "[I") (.int 2)) (.int 1)) (by decide +kernel))
    · exact va_eqt (z := 0) (hs (.eq (.elem (.static "FacingDoors" "STEP_Y" "[I") (.int 3)) (.int 0)) (by decide +kernel))) hA
  have hini := hts (.initialized "FacingDoors") (List.mem_of_getElem? (i := 92) (by decide +kernel))
  have ZX := va_Zof (A := fun q => s.heap.size ≤ q) (hts (.laysStatic "FacingDoors" "STEP_X" "[I") (by decide +kernel)) hini eX hA
  have ZY := va_Zof (A := fun q => s.heap.size ≤ q) (hts (.laysStatic "FacingDoors" "STEP_Y" "[I") (by decide +kernel)) hini eY hA
  refine ⟨(s.heap.size, tX, tY, (fun ci => (F ci).1, fun ci => (F ci).2), fun k => match k with | 20 => a0 | 21 => a1 | 22 => a2 | 23 => a3 | _ => a4), rfl, ⟨fun ci q hq => ?_, fun k q hq => ?_⟩, fun w hw => ?_, ZX, TX, ZY, TY⟩
  · have hc : ci < 11 := (List.getElem?_eq_some_iff.mp hq).1
    rw [fd_clD_get hc] at hq
    cases hq
    exact hF ci hc
  · have hc : k < 5 := (List.getElem?_eq_some_iff.mp hq).1
    have h5 : k = 0 ∨ k = 1 ∨ k = 2 ∨ k = 3 ∨ k = 4 := by omega
    rcases h5 with rfl | rfl | rfl | rfl | rfl
    · cases hq
      exact ⟨fun n z => ⟨fun k h => (by cases h), k0, y0, p0, z0⟩, x0⟩
    · cases hq
      exact ⟨fun n z => ⟨fun k h => (by cases h), k1, y1, p1, z1⟩, x1⟩
    · cases hq
      exact ⟨fun n z => ⟨fun k h => (by cases h), k2, y2, p2, z2⟩, x2⟩
    · cases hq
      exact ⟨fun n z => ⟨fun k h => (by cases h), k3, y3, p3, z3⟩, k3, p3, y3, z3, n3, x3⟩
    · cases hq
      exact ⟨fun n z => ⟨fun k h => (by cases h), k4, y4, p4, z4⟩, k4, p4, y4, z4, n4, x4⟩
  · obtain ⟨h1, h2⟩ := List.mem_filter.mp hw
    have h3 := hts w h1
    clear hw
    cases w <;> first | exact va_Nw.of rfl h3 | skip
    case arrayOver t =>
      cases t with
      | object C => exact va_AO.of h3
      | _ => cases h2
    all_goals cases h2


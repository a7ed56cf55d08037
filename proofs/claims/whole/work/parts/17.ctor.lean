/-! the two constructors, run by the kernel -/
def fd_M0 : fd_M := fun _ _ => 0
def fd_Ma : fd_M := fd_nw fd_M0 (fd_dfl 0)
def fd_isN (x : Option (Option fd_V × fd_M)) : Bool := match x with
  | some (none, _) => true
  | _ => false
def fd_getM (x : Option (Option fd_V × fd_M)) : fd_M := match x with
  | some (_, M) => M
  | none => fd_M0
theorem fd_isN_eq {x : Option (Option fd_V × fd_M)} (h : fd_isN x = true) : x = some (none, fd_getM x) := by
  unfold fd_isN at h
  split at h
  · rfl
  · cases h
def fd_run1 : Option (Option fd_V × fd_M) := fd_ex false 400 20 0 0 (fd_pad 0 [fd_R 0]) [] fd_Ma
def fd_Mb : fd_M := fd_getM fd_run1
def fd_Mb' : fd_M := fd_nw fd_Mb (fd_dfl 10)
def fd_run2 : Option (Option fd_V × fd_M) := fd_ex false 3000 20 51 0 (fd_pad 51 [fd_R 199]) [] fd_Mb'
def fd_Mc : fd_M := fd_getM fd_run2
theorem fd_ctor1 : fd_isN fd_run1 = true ∧ fd_Mb 5000 0 = 199 := by decide +kernel
theorem fd_ctor2 : fd_isN fd_run2 = true ∧ fd_Mc 5000 0 = 213 := by decide +kernel
def fd_rfOk (M : fd_M) (c : Nat) : Bool := (List.range (fd_SH c).2).all (fun k => match fd_RF c k with
  | some r => decide (M c k = r)
  | none => true)
theorem fd_ctor_rf : (List.range 213).all (fd_rfOk fd_Mc) = true := by decide +kernel
theorem fd_ce_ph {g : fd_G} {M : fd_M} {c : Nat} (h : fd_rfOk M c = true) : fd_ce g false M c = fd_ce g true M c := by
  unfold fd_ce
  split
  · congr 2
    apply List.map_congr_left
    intro k hk
    have h1 := List.all_eq_true.mp h k hk
    unfold fd_fv fd_gf
    split
    · rfl
    · have : fd_rf false M c k = fd_rf true M c k := by
        unfold fd_rf
        simp only [cond_true, cond_false]
        cases hr : fd_RF c k with
        | none => rfl
        | some r =>
          rw [hr] at h1
          have h2 : M c k = r := of_decide_eq_true h1
          dsimp only
          rw [h2]
          rfl
      rw [this]
    · rfl
  · rfl
theorem fd_hp_ph {g : fd_G} {M : fd_M} {H : Heap} (hH : fd_hp g false M H) (hap : M 5000 0 = 213) (hrf : (List.range 213).all (fd_rfOk M) = true) : fd_hp g true M H := by
  have e : fd_ap M = 213 := by show Int.toNat _ = _; rw [hap]; rfl
  refine ⟨fun h => (by cases h), hH.2.1, hH.2.2.1, fun _ => e, ?_⟩
  have hP := hH.2.2.2.2
  rw [e] at hP ⊢
  have : fd_ws g true M 213 = fd_ws g false M 213 := by
    unfold fd_ws
    apply List.map_congr_left
    intro c hc
    rw [fd_ce_ph (List.all_eq_true.mp hrf c hc)]
  rw [this]
  exact hP

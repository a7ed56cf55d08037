/-! numbers -/
theorem fd_oi (n : Nat) : Int32.ofInt (n : Int) = nI n := Int32.ofInt_eq_ofNat
theorem fd_inb_iff {i n : Int} : fd_inb i n = true ↔ 0 ≤ i ∧ i < n := by simp [fd_inb]
theorem fd_rng_iff {a : Int} : fd_rng a = true ↔ -2147483648 ≤ a ∧ a < 2147483648 := by simp [fd_rng]
theorem fd_toI {a : Int} (h : -2147483648 ≤ a ∧ a < 2147483648) : (Int32.ofInt a).toInt = a := Int32.toInt_ofInt_of_le (by omega) (by omega)
theorem fd_eqI {a b : Int} (ha : -2147483648 ≤ a ∧ a < 2147483648) (hb : -2147483648 ≤ b ∧ b < 2147483648) : Int32.ofInt a = Int32.ofInt b ↔ a = b := by rw [← Int32.toInt_inj, fd_toI ha, fd_toI hb]
theorem fd_ltI {a b : Int} (ha : -2147483648 ≤ a ∧ a < 2147483648) (hb : -2147483648 ≤ b ∧ b < 2147483648) : Int32.ofInt a < Int32.ofInt b ↔ a < b := by rw [Int32.lt_iff_toInt_lt, fd_toI ha, fd_toI hb]
theorem fd_leI {a b : Int} (ha : -2147483648 ≤ a ∧ a < 2147483648) (hb : -2147483648 ≤ b ∧ b < 2147483648) : Int32.ofInt a ≤ Int32.ofInt b ↔ a ≤ b := by rw [Int32.le_iff_toInt_le, fd_toI ha, fd_toI hb]
theorem fd_vin {i : Int} {n : Nat} (h : 0 ≤ i ∧ i < n) (hn : n < 2147483648) : vp_in (Int32.ofInt i) n ∧ (Int32.ofInt i).toNatClampNeg = i.toNat := by
  have e : (Int32.ofInt i).toInt = i := fd_toI (by omega)
  refine ⟨vp_in_iff.mpr (by rw [e]; exact h), ?_⟩
  show (Int32.ofInt i).toInt.toNat = i.toNat
  rw [e]
theorem fd_divI {a b : Int} (ha : 0 ≤ a ∧ a < 2147483648) (hb : 0 ≤ b - 1 ∧ b - 1 < 2147483647) : Int32.ofInt a / Int32.ofInt b = Int32.ofInt (a / b) ∧ Int32.ofInt a - Int32.ofInt a / Int32.ofInt b * Int32.ofInt b = Int32.ofInt (a % b) ∧ ¬ Int32.ofInt b = 0 := by
  obtain ⟨n, rfl⟩ := Int.eq_ofNat_of_zero_le ha.1
  obtain ⟨k, rfl⟩ := Int.eq_ofNat_of_zero_le (show 0 ≤ b by omega)
  have h1 : n < 2 ^ 31 := by omega
  have h2 : k < 2 ^ 31 := by omega
  have h3 : 0 < k := by omega
  rw [fd_oi, fd_oi, pk_rem h1 h3 h2, pk_div h1 h3 h2, ← Int.natCast_ediv, ← Int.natCast_emod, fd_oi, fd_oi]
  exact ⟨rfl, rfl, nI_ne0 h3 h2⟩
theorem fd_sl31 : ∀ n, n < 32 → ((nI n &&& 31).toBitVec.smod 32).toNat = n := by decide +kernel
theorem fd_su31 : ∀ n, n < 32 → (((nI n).toUInt32 &&& Int32.toUInt32 31).toBitVec % 32).toNat = n := by decide +kernel
theorem fd_shl1 : ∀ n, n < 32 → (1 : Int32) <<< (nI n &&& 31) = Int32.ofInt (2 ^ n) := by decide +kernel
theorem fd_lshl1 : ∀ n, n < 64 → (1 : Int64) <<< ((nI n).toInt64 &&& 63) = Int64.ofInt (2 ^ n) := by decide +kernel
theorem fd_shrI {a b : Int} (ha : 0 ≤ a ∧ a < 2147483648) (hb : 0 ≤ b ∧ b < 32) : Int32.ofInt a >>> (Int32.ofInt b &&& 31) = Int32.ofInt (a / 2 ^ b.toNat) ∧ ((Int32.ofInt a).toUInt32 >>> ((Int32.ofInt b).toUInt32 &&& Int32.toUInt32 31)).toInt32 = Int32.ofInt (a / 2 ^ b.toNat) := by
  obtain ⟨n, rfl⟩ := Int.eq_ofNat_of_zero_le ha.1
  obtain ⟨k, rfl⟩ := Int.eq_ofNat_of_zero_le hb.1
  have h1 : n < 2 ^ 31 := by omega
  have h2 : k < 32 := by omega
  have e : ((n : Int) / 2 ^ ((k : Int)).toNat) = ((n / 2 ^ k : Nat) : Int) := by
    rw [Int.toNat_natCast, Int.natCast_ediv]
    simp
  rw [e, fd_oi, fd_oi, fd_oi, pk_shrN h1 _ k (fd_sl31 k h2), pk_ushrN (by omega) _ k (fd_su31 k h2)]
  exact ⟨rfl, rfl⟩
theorem fd_sl63 : ∀ n, n < 64 → (((nI n).toInt64 &&& 63).toBitVec.smod 64).toNat = n := by decide +kernel
theorem fd_lshrJ {a b : Int} (ha : 0 ≤ a ∧ a < 9223372036854775808) (hb : 0 ≤ b ∧ b < 64) : Int64.ofInt a >>> ((Int32.ofInt b).toInt64 &&& 63) = Int64.ofInt (a / 2 ^ b.toNat) := by
  obtain ⟨n, rfl⟩ := Int.eq_ofNat_of_zero_le ha.1
  obtain ⟨k, rfl⟩ := Int.eq_ofNat_of_zero_le hb.1
  have h1 : n < 2 ^ 63 := by omega
  have h2 : k < 64 := by omega
  have e : ((n : Int) / 2 ^ ((k : Int)).toNat) = ((n / 2 ^ k : Nat) : Int) := by
    rw [Int.toNat_natCast, Int.natCast_ediv]
    simp
  have hq : n / 2 ^ k < 2 ^ 63 := Nat.lt_of_le_of_lt (Nat.div_le_self _ _) h1
  rw [e, fd_oi]
  have e2 : ((n / 2 ^ k : Nat) : Int).bmod (2 ^ 64) = ((n / 2 ^ k : Nat) : Int) := by
    generalize n / 2 ^ k = q at hq
    exact Int.bmod_eq_of_le (by omega) (by omega)
  apply Int64.toBitVec.inj
  rw [Int64.toBitVec_shiftRight, BitVec.sshiftRight', fd_sl63 k h2, Int64.toBitVec_ofInt, Int64.toBitVec_ofInt]
  apply BitVec.eq_of_toInt_eq
  rw [BitVec.toInt_sshiftRight, BitVec.toInt_ofInt, BitVec.toInt_ofInt, Int.bmod_eq_of_le (by omega) (by omega), e2, Int.shiftRight_eq_div_pow, Int.natCast_ediv]
/-! the world: base address, the two tables of steps, class numbers, array classes -/
abbrev fd_G : Type := Nat × Nat × Nat × va_G × (Nat → ClassId)
def fd_rv (g : fd_G) (c : Nat) : Value := if c < 1000 then .ref (g.1 + c) else if c = 1001 then .ref g.2.1 else if c = 1002 then .ref g.2.2.1 else .null
def fd_cv (g : fd_G) (v : fd_V) : Value := match v with
  | .inl a => .int (Int32.ofInt a)
  | .inr (.inl a) => .long (Int64.ofInt a)
  | .inr (.inr c) => fd_rv g c
theorem fd_rv_lt {g : fd_G} {c : Nat} (h : c < 1000) : fd_rv g c = .ref (g.1 + c) := if_pos h
theorem fd_cat (g : fd_G) (v : fd_V) : (fd_cv g v).category = fd_cw v := by
  rcases v with a | a | c
  · rfl
  · rfl
  · show (fd_rv g c).category = 1
    unfold fd_rv
    split
    · rfl
    · split
      · rfl
      · split <;> rfl
def fd_fv (g : fd_G) (ph : Bool) (M : fd_M) (ci c k : Nat) : Value := fd_cv g (fd_gf ph M (fd_kd (fd_ty ci k)) c k)
def fd_ro (g : fd_G) (x : Int) : Option Nat := if x.toNat < 1000 then some (g.1 + x.toNat) else none
def fd_ce (g : fd_G) (ph : Bool) (M : fd_M) (c : Nat) : va_E :=
  if (fd_SH c).1 < 20 then .inr ((fd_SH c).1, (List.range (fd_SH c).2).map (fun k => fd_fv g ph M (fd_SH c).1 c k))
  else if (fd_SH c).1 < 23 then .inl (g.2.2.2.2 (fd_SH c).1, (fd_SH c).2, .inl (fun j => Int32.ofInt (M c j)))
  else .inl (g.2.2.2.2 (fd_SH c).1, (fd_SH c).2, .inr (.inr (.inr (.inr (fun j => fd_ro g (M c j))))))
def fd_ws (g : fd_G) (ph : Bool) (M : fd_M) (n : Nat) : va_W := (List.range n).map (fun c => (g.1 + c, fd_ce g ph M c))
abbrev fd_ap (M : fd_M) : Nat := (M 5000 0).toNat
abbrev fd_A (g : fd_G) : Nat → Prop := fun q => g.1 ≤ q
def fd_hp (g : fd_G) (ph : Bool) (M : fd_M) (H : Heap) : Prop :=
  (ph = false → H.size = g.1 + fd_ap M) ∧ fd_ap M ≤ fd_NC ∧ 0 ≤ M 5000 0 ∧ (ph = true → fd_ap M = fd_NC) ∧ va_P g.2.2.2.1 fd_cl (fd_ws g ph M (fd_ap M)) H
theorem fd_ws_get {g : fd_G} {ph : Bool} {M : fd_M} {n c : Nat} (h : c < n) : (fd_ws g ph M n)[c]? = some (g.1 + c, fd_ce g ph M c) := by
  simp [fd_ws, List.getElem?_map, List.getElem?_range h]
theorem fd_ws_D {g : fd_G} {ph : Bool} {M : fd_M} {n : Nat} : va_D (fd_A g) (fd_ws g ph M n) := by
  have key : ∀ (i : Nat) (p : Nat × va_E), (fd_ws g ph M n)[i]? = some p → p.1 = g.1 + i := by
    intro i p hp
    have hl : i < n := by
      have := (List.getElem?_eq_some_iff.mp hp).1
      simpa [fd_ws] using this
    rw [fd_ws_get hl] at hp
    cases hp
    rfl
  refine ⟨fun i j p q hp hq e => ?_, fun k q hq => ?_⟩
  · have := key i p hp
    have := key j q hq
    omega
  · have := key k q hq
    show g.1 ≤ q.1
    omega
theorem fd_ce_congr {g : fd_G} {ph : Bool} {M M' : fd_M} {c : Nat} (h : M' c = M c) : fd_ce g ph M' c = fd_ce g ph M c := by
  have h1 : ∀ ci k, fd_fv g ph M' ci c k = fd_fv g ph M ci c k := fun ci k => by
    unfold fd_fv fd_gf fd_rf
    rw [h]
  unfold fd_ce
  simp only [h1, h]
theorem fd_ws_set {g : fd_G} {ph : Bool} {M M' : fd_M} {n c : Nat} {x : Nat × va_E} (hx : x = (g.1 + c, fd_ce g ph M' c)) (ho : ∀ c', c' < n → c' ≠ c → M' c' = M c') : (fd_ws g ph M n).set c x = fd_ws g ph M' n := by
  subst hx
  apply List.ext_getElem?
  intro i
  by_cases hi : i < n
  · by_cases hc : c = i
    · subst hc
      rw [List.getElem?_set_self (by simpa [fd_ws] using hi), fd_ws_get hi]
    · rw [List.getElem?_set_ne hc, fd_ws_get hi, fd_ws_get hi, fd_ce_congr (ho i hi (fun q => hc q.symm))]
  · rw [List.getElem?_eq_none (by simpa [fd_ws] using hi), List.getElem?_eq_none (by simpa [fd_ws] using hi)]
/-- what the tables say at a state: classes, array classes, words, the two tables of steps -/
def fd_tys (g : fd_G) : List (ClassId × FieldType) := [(g.2.2.2.2 20, .int), (g.2.2.2.2 21, .byte), (g.2.2.2.2 22, .boolean), (g.2.2.2.2 23, .object "FacingDoors$Scene"), (g.2.2.2.2 24, .object "FacingDoors$Image")]
def fd_nest (w : Jvm.Cond) : Bool := match w with
  | .fieldLinkNest .. => true
  | .methodLinkNest .. => true
  | .arrayOver (.object _) => true
  | _ => false
def fd_gtbl : List Jvm.Cond := lw_tbl.filter goodWord
def fd_ntbl : List Jvm.Cond := lw_tbl.filter fd_nest
/-- the words that a frame holds: those that go over into calls -/
def fd_tbl : List Jvm.Cond := lw_tbl.filter (fun w => goodWord w || fd_nest w)
theorem fd_mt {w : Jvm.Cond} (h : w ∈ lw_tbl) (hg : (goodWord w || fd_nest w) = true := by rfl) : w ∈ fd_tbl := List.mem_filter.mpr ⟨h, hg⟩
def fd_St (g : fd_G) (U : State) (H : Heap) : Prop :=
  va_Z "FacingDoors" "STEP_X" "[I" (.ref g.2.1) (fd_A g) U H ∧ va_T .int g.2.1 4 (fun j => .int (Int32.ofInt (fd_sx j))) (fd_A g) U H ∧
  va_Z "FacingDoors" "STEP_Y" "[I" (.ref g.2.2.1) (fd_A g) U H ∧ va_T .int g.2.2.1 4 (fun j => .int (Int32.ofInt (fd_sy j))) (fd_A g) U H
def fd_Kn (g : fd_G) (U : State) (H : Heap) : Prop := va_K g.2.2.2.1 fd_cl (fd_tys g) U ∧ (∀ w ∈ fd_ntbl, va_Nw w U) ∧ fd_St g U H
theorem fd_Nw_moved {s U : State} {w : Jvm.Cond} (hw : w ∈ fd_ntbl) (hW : s.WarmedH U.vm) (h : va_Nw w s) : va_Nw w U := by
  have h1 : fd_nest w = true := (List.mem_filter.mp hw).2
  cases w <;> first | exact va_Nw.warmF hW h | exact va_Nw.warmM hW h | skip
  case arrayOver t =>
    cases t with
    | object C => exact va_AO.moved hW.alike h
    | _ => cases h1
  all_goals cases h1
theorem fd_Kn_moved {g : fd_G} {s U : State} {H H1 : Heap} (hW : s.WarmedH U.vm) (hk : ∀ q : Nat, q < H.size → ¬ fd_A g q → H1[q]? = H[q]?) (h : fd_Kn g s H) : fd_Kn g U H1 :=
  ⟨va_K.moved hW.alike h.1, fun w hw => fd_Nw_moved hw hW (h.2.1 w hw), (va_Z.moved hW.alike h.2.2.1).kept hk, (va_T.moved hW.alike h.2.2.2.1).kept hk, (va_Z.moved hW.alike h.2.2.2.2.1).kept hk, (va_T.moved hW.alike h.2.2.2.2.2).kept hk⟩
theorem fd_words {s : State} {args : Array Value} (h1 : ∀ w ∈ fd_gtbl, w.before args s = true) (h2 : ∀ w ∈ fd_ntbl, va_Nw w s) : ∀ w ∈ fd_tbl, w.before args s = true := by
  intro w hw0
  obtain ⟨hw, hq⟩ := List.mem_filter.mp hw0
  clear hw0
  cases hg : goodWord w with
  | true => exact h1 w (List.mem_filter.mpr ⟨hw, hg⟩)
  | false =>
    have h3 : fd_nest w = true := by rw [hg] at hq; exact hq
    have h4 := h2 w (List.mem_filter.mpr ⟨hw, h3⟩)
    cases w <;> first | exact va_Nw.use rfl h4 | skip
    case arrayOver t =>
      cases t with
      | object C => exact va_AO.use h4
      | _ => cases h3
    all_goals cases h3

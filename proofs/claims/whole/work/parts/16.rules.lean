/-! rules for runs of the small machine -/
theorem fd_nx_lt {ph : Bool} {op : Nat} {as : List Int} {L st : List fd_V} {M : fd_M} {y} (h : fd_nx ph op as L st M = some y) : op < 100 := by
  rcases Nat.lt_or_ge op 46 with q | q
  · omega
  · exfalso
    obtain ⟨n, rfl⟩ : ∃ n, op = n + 46 := ⟨op - 46, by omega⟩
    cases h
theorem fd_x_nx {ph : Bool} {f d m i op : Nat} {as : List Int} {L st L1 st1 : List fd_V} {M M1 : fd_M} {y} (hi : (fd_code m)[i]? = some (op, as)) (hn : fd_nx ph op as L st M = some (true, L1, st1, M1)) (k : fd_ex ph f d m (i + 1) L1 st1 M1 = some y) : fd_ex ph (f + 1) d m i L st M = some y := by
  rw [fd_ex, hi]
  dsimp only
  rw [if_pos (fd_nx_lt hn), hn]
  exact k
theorem fd_x_jmp {ph : Bool} {f d m i op j : Nat} {as : List Int} {L st st1 : List fd_V} {M : fd_M} {y} (hi : (fd_code m)[i]? = some (op, as)) (h1 : ¬ op < 100) (h2 : op < 114 ∨ op = 118) (hn : fd_jmp op as i st = some (true, j, st1)) (k : fd_ex ph f d m j L st1 M = some y) : fd_ex ph (f + 1) d m i L st M = some y := by
  rw [fd_ex, hi]
  dsimp only
  rw [if_neg h1, if_pos h2, hn]
  exact k
theorem fd_x_ret {ph : Bool} {f d m i op : Nat} {as : List Int} {L st : List fd_V} {M : fd_M} {r} (hi : (fd_code m)[i]? = some (op, as)) (h1 : ¬ op < 100) (h2 : ¬ (op < 114 ∨ op = 118)) (h3 : op < 120) (hn : fd_ret (fd_rk m) op st = some (true, r)) : fd_ex ph (f + 1) d m i L st M = some (r, M) := by
  rw [fd_ex, hi]
  dsimp only
  rw [if_neg h1, if_neg h2, if_pos h3, hn]
theorem fd_x_call {ph : Bool} {f d m i op : Nat} {as : List Int} {L st : List fd_V} {M M1 : fd_M} {r1 : Option fd_V} {y} (hi : (fd_code m)[i]? = some (op, as)) (h1 : 120 ≤ op) (hinv : fd_inv ph op (fd_n as 0) (fd_n as 1) st M = true) (hc : fd_ex ph f d (fd_n as 0) 0 (fd_pad (fd_n as 0) (st.take (fd_n as 1)).reverse) [] M = some (r1, M1)) (k : fd_ex ph f (d + 1) m (i + 1) L (r1.toList ++ st.drop (fd_n as 1)) M1 = some y) : fd_ex ph (f + 1) (d + 1) m i L st M = some y := by
  rw [fd_ex, hi]
  dsimp only
  rw [if_neg (by omega), if_neg (by omega), if_neg (by omega), if_pos hinv, hc]
  exact k
theorem fd_fuel {ph : Bool} : ∀ (f d m i : Nat) (L st : List fd_V) (M : fd_M) (y), fd_ex ph f d m i L st M = some y → fd_ex ph (f + 1) d m i L st M = some y
  | 0, _, _, _, _, _, _, _, h => by rw [fd_ex] at h; cases h
  | f + 1, d, m, i, L, st, M, y, h => by
    obtain ⟨op, as, hi, h⟩ := fd_ex_succ h
    rcases h with ⟨h1, L1, st1, M1, h2, h3⟩ | ⟨h1, h2, j, st1, h3, h4⟩ | ⟨h1, h2, h3, r1, h4, rfl⟩ | ⟨h1, d', rfl, h2, r1, M1, h3, h4⟩
    · exact fd_x_nx hi h2 (fd_fuel f _ _ _ _ _ _ _ h3)
    · exact fd_x_jmp hi h1 h2 h3 (fd_fuel f _ _ _ _ _ _ _ h4)
    · exact fd_x_ret hi h1 h2 h3 h4
    · exact fd_x_call hi h1 h2 (fd_fuel f _ _ _ _ _ _ _ h3) (fd_fuel f _ _ _ _ _ _ _ h4)
theorem fd_fuelN {ph : Bool} {f d m i : Nat} {L st : List fd_V} {M : fd_M} {y} (h : fd_ex ph f d m i L st M = some y) : ∀ n, fd_ex ph (f + n) d m i L st M = some y
  | 0 => h
  | n + 1 => fd_fuel _ _ _ _ _ _ _ _ (fd_fuelN h n)
theorem fd_fuelL {ph : Bool} {f g d m i : Nat} {L st : List fd_V} {M : fd_M} {y} (hfg : f ≤ g) (h : fd_ex ph f d m i L st M = some y) : fd_ex ph g d m i L st M = some y := by
  rw [show g = f + (g - f) by omega]
  exact fd_fuelN h _
theorem fd_deep {ph : Bool} : ∀ (f d m i : Nat) (L st : List fd_V) (M : fd_M) (y), fd_ex ph f d m i L st M = some y → fd_ex ph f (d + 1) m i L st M = some y
  | 0, _, _, _, _, _, _, _, h => by rw [fd_ex] at h; cases h
  | f + 1, d, m, i, L, st, M, y, h => by
    obtain ⟨op, as, hi, h⟩ := fd_ex_succ h
    rcases h with ⟨h1, L1, st1, M1, h2, h3⟩ | ⟨h1, h2, j, st1, h3, h4⟩ | ⟨h1, h2, h3, r1, h4, rfl⟩ | ⟨h1, d', rfl, h2, r1, M1, h3, h4⟩
    · exact fd_x_nx hi h2 (fd_deep f _ _ _ _ _ _ _ h3)
    · exact fd_x_jmp hi h1 h2 h3 (fd_deep f _ _ _ _ _ _ _ h4)
    · exact fd_x_ret hi h1 h2 h3 h4
    · exact fd_x_call hi h1 h2 (fd_deep f _ _ _ _ _ _ _ h3) (fd_deep f _ _ _ _ _ _ _ h4)
theorem fd_deepL {ph : Bool} {f d d' m i : Nat} {L st : List fd_V} {M : fd_M} {y} (hd : d ≤ d') (h : fd_ex ph f d m i L st M = some y) : fd_ex ph f d' m i L st M = some y := by
  have key : ∀ n, fd_ex ph f (d + n) m i L st M = some y := fun n => by
    induction n with
    | zero => exact h
    | succ n ih => exact fd_deep _ _ _ _ _ _ _ _ ih
  have := key (d' - d)
  rwa [show d + (d' - d) = d' by omega] at this
/-- runs behind the constructors -/
def fd_run (d m i : Nat) (L st : List fd_V) (M : fd_M) (r : Option fd_V) (M' : fd_M) : Prop := ∃ f, fd_ex true f d m i L st M = some (r, M')
def fd_call (d m : Nat) (as : List fd_V) (M : fd_M) (r : Option fd_V) (M' : fd_M) : Prop := fd_run d m 0 (fd_pad m as) [] M r M'
theorem fd_callD {d d' m : Nat} {as : List fd_V} {M M' : fd_M} {r : Option fd_V} (h : fd_call d m as M r M') (hd : d ≤ d') : fd_call d' m as M r M' := ⟨h.choose, fd_deepL hd h.choose_spec⟩
/-- a row of instructions -/
def fd_bl : Nat → List fd_Ins → List fd_V → List fd_V → fd_M → fd_Rs
  | 0, _, ls, st, M => some (true, ls, st, M)
  | _ + 1, [], _, _, _ => none
  | n + 1, (op, as) :: is, ls, st, M => match fd_nx true op as ls st M with
    | some (b, ls', st', M') => match fd_bl n is ls' st' M' with
      | some (b2, r) => some (b && b2, r)
      | none => none
    | none => none
theorem fd_bl_ok {d m : Nat} {r : Option fd_V} {R : fd_M} : ∀ (n i : Nat) (L st L' st' : List fd_V) (M M' : fd_M), fd_bl n ((fd_code m).drop i) L st M = some (true, L', st', M') → fd_run d m (i + n) L' st' M' r R → fd_run d m i L st M r R
  | 0, i, L, st, L', st', M, M', h, k => by
    rw [fd_bl] at h
    cases h
    exact k
  | n + 1, i, L, st, L', st', M, M', h, k => by
    cases hd : (fd_code m).drop i with
    | nil => rw [hd, fd_bl] at h; cases h
    | cons I is =>
      obtain ⟨op, as⟩ := I
      have hi : (fd_code m)[i]? = some (op, as) := by
        have : ((fd_code m).drop i)[0]? = some (op, as) := by rw [hd]; rfl
        rw [List.getElem?_drop] at this
        simpa using this
      have hd2 : (fd_code m).drop (i + 1) = is := by
        rw [← List.drop_drop, hd]
        rfl
      rw [hd, fd_bl] at h
      cases hn : fd_nx true op as L st M with
      | none => rw [hn] at h; cases h
      | some y =>
        obtain ⟨b, L1, st1, M1⟩ := y
        rw [hn] at h
        dsimp only at h
        cases hb : fd_bl n is L1 st1 M1 with
        | none => rw [hb] at h; cases h
        | some z =>
          obtain ⟨b2, L2, st2, M2⟩ := z
          rw [hb] at h
          dsimp only at h
          injection h with h
          injection h with h1 h2
          rw [Bool.and_eq_true] at h1
          obtain ⟨rfl, rfl⟩ := h1
          injection h2 with h3 h4
          injection h4 with h5 h6
          subst h3
          subst h5
          subst h6
          obtain ⟨f, hf⟩ := fd_bl_ok n (i + 1) L1 st1 L2 st2 M1 M2 (by rw [hd2]; exact hb) (by rw [show i + 1 + n = i + (n + 1) by omega]; exact k)
          exact ⟨f + 1, fd_x_nx hi hn hf⟩
theorem fd_u_blk {d m i j : Nat} {C : List fd_Ins} {b : Bool} {L st L' st' : List fd_V} {M M' : fd_M} {r : Option fd_V} {R : fd_M} (n : Nat) (hC : fd_code m = C) (h : fd_bl n (C.drop i) L st M = some (b, L', st', M')) (hj : i + n = j) (hb : b = true) (k : fd_run d m j L' st' M' r R) : fd_run d m i L st M r R := by
  subst hb
  subst hC
  subst hj
  exact fd_bl_ok n i L st L' st' M M' h k
theorem fd_u_br {d m i t e op : Nat} {C : List fd_Ins} {as : List Int} {c : Prop} {dc : Decidable c} {b : Bool} {L st st' : List fd_V} {M : fd_M} {r : Option fd_V} {R : fd_M} (hC : fd_code m = C) (hi : C[i]? = some (op, as)) (hj : fd_jmp op as i st = some (b, @ite Nat c dc t e, st')) (hb : b = true) (kt : c → fd_run d m t L st' M r R) (kf : ¬ c → fd_run d m e L st' M r R) : fd_run d m i L st M r R := by
  subst hb
  subst hC
  have h1 : ¬ op < 100 ∧ (op < 114 ∨ op = 118) := by
    unfold fd_jmp at hj
    split at hj
    all_goals first | (cases hj; done) | omega
  by_cases hc : c
  · rw [if_pos hc] at hj
    obtain ⟨f, hf⟩ := kt hc
    exact ⟨f + 1, fd_x_jmp hi h1.1 h1.2 hj hf⟩
  · rw [if_neg hc] at hj
    obtain ⟨f, hf⟩ := kf hc
    exact ⟨f + 1, fd_x_jmp hi h1.1 h1.2 hj hf⟩
theorem fd_u_jmp {d m i j op : Nat} {C : List fd_Ins} {as : List Int} {b : Bool} {L st st' : List fd_V} {M : fd_M} {r : Option fd_V} {R : fd_M} (hC : fd_code m = C) (hi : C[i]? = some (op, as)) (hj : fd_jmp op as i st = some (b, j, st')) (hb : b = true) (k : fd_run d m j L st' M r R) : fd_run d m i L st M r R :=
  fd_u_br (c := True) (dc := instDecidableTrue) (t := j) (e := j) hC hi (by rw [hj, if_pos trivial]) hb (fun _ => k) (fun _ => k)
theorem fd_u_ret {d m i op : Nat} {C : List fd_Ins} {as : List Int} {b : Bool} {L st : List fd_V} {M : fd_M} {r r' : Option fd_V} {R : fd_M} (hC : fd_code m = C) (hi : C[i]? = some (op, as)) (h : fd_ret (fd_rk m) op st = some (b, r')) (hb : b = true) (hr : r' = r) (hM : M = R) : fd_run d m i L st M r R := by
  subst hb
  subst hC
  subst hr
  subst hM
  have h1 : ¬ op < 100 ∧ ¬ (op < 114 ∨ op = 118) ∧ op < 120 := by
    unfold fd_ret at h
    split at h
    all_goals first | (cases h; done) | omega
  exact ⟨1, fd_x_ret hi h1.1 h1.2.1 h1.2.2 h⟩
theorem fd_u_call {d d0 m i op mid np : Nat} {C : List fd_Ins} {as : List Int} {args L st st' : List fd_V} {M M1 : fd_M} {r r1 : Option fd_V} {R : fd_M} (hC : fd_code m = C) (hi : C[i]? = some (op, as)) (hop : Nat.ble 120 op = true) (hm : fd_n as 0 = mid) (hp : fd_n as 1 = np) (ha : (st.take np).reverse = args) (hinv : fd_inv true op mid np st M = true) (hc : fd_call d0 mid args M r1 M1) (hs : r1.toList ++ st.drop np = st') (hd : d0 < d) (k : fd_run d m (i + 1) L st' M1 r R) : fd_run d m i L st M r R := by
  subst hC
  subst hm
  subst hp
  subst ha
  subst hs
  obtain ⟨f, hf⟩ := hc
  obtain ⟨f2, hf2⟩ := k
  obtain ⟨d', rfl⟩ : ∃ d', d = d' + 1 := ⟨d - 1, by omega⟩
  exact ⟨max f f2 + 1, fd_x_call hi (by simpa using hop) hinv (fd_fuelL (Nat.le_max_left _ _) (fd_deepL (by omega) hf)) (fd_fuelL (Nat.le_max_right _ _) hf2)⟩
theorem fd_u_in {d m : Nat} {as L : List fd_V} {M : fd_M} {r : Option fd_V} {R : fd_M} (hL : fd_pad m as = L) (k : fd_run d m 0 L [] M r R) : fd_call d m as M r R := by
  subst hL
  exact k
theorem fd_bI {i n : Int} (h1 : 0 ≤ i) (h2 : i < n) : fd_inb i n = true := fd_inb_iff.mpr ⟨h1, h2⟩
theorem fd_bR {a : Int} (h1 : -2147483648 ≤ a) (h2 : a < 2147483648) : fd_rng a = true := fd_rng_iff.mpr ⟨h1, h2⟩
theorem fd_bA {a b : Bool} (h1 : a = true) (h2 : b = true) : (a && b) = true := by rw [h1, h2]; rfl

/-! how many bits: the class's way and the reference's -/
theorem bc_and (a b : Nat) : lN a &&& lN b = lN (a &&& b) := by
  apply Int64.toBitVec.inj
  show BitVec.ofNat 64 a &&& BitVec.ofNat 64 b = BitVec.ofNat 64 (a &&& b)
  apply BitVec.eq_of_toNat_eq
  simp [BitVec.toNat_and, BitVec.toNat_ofNat, Nat.and_mod_two_pow]
theorem bc_us {n : Nat} (hn : n < 2 ^ 64) (k : Nat) (hk : k < 64) (K : Int32) (hK : (K.toInt64.toUInt64 &&& Int64.toUInt64 63).toBitVec = BitVec.ofNat 64 k) : fd_us (lN n) K = lN (n / 2 ^ k) := by
  apply Int64.toBitVec.inj
  unfold fd_us
  show (BitVec.ofNat 64 n) >>> ((K.toInt64.toUInt64 &&& Int64.toUInt64 63).toBitVec % 64#64) = BitVec.ofNat 64 (n / 2 ^ k)
  rw [hK]
  apply BitVec.eq_of_toNat_eq
  have e1 : (BitVec.ofNat 64 k % 64#64).toNat = k := by
    rw [BitVec.toNat_umod, BitVec.toNat_ofNat, BitVec.toNat_ofNat, Nat.mod_eq_of_lt (show k < 2 ^ 64 by omega), show 64 % 2 ^ 64 = 64 from rfl, Nat.mod_eq_of_lt hk]
  have e2 : n / 2 ^ k < 2 ^ 64 := Nat.lt_of_le_of_lt (Nat.div_le_self _ _) hn
  rw [BitVec.ushiftRight_eq', BitVec.toNat_ushiftRight, e1, BitVec.toNat_ofNat, BitVec.toNat_ofNat, Nat.mod_eq_of_lt hn, Nat.mod_eq_of_lt e2, Nat.shiftRight_eq_div_pow]
def bc_val : List Nat → Nat
  | [] => 0
  | b :: r => b + 256 * bc_val r
def bc_mk (c : Nat) : Nat → Nat
  | 0 => 0
  | j + 1 => c + 256 * bc_mk c j
theorem bc_A {lo hi m mm k : Nat} (hlo : lo < 256) (hm : m < 256) (h : ∀ j, j < 8 → m.testBit j = true → j + k < 8) : (lo + 256 * hi) / 2 ^ k &&& (m + 256 * mm) = (lo / 2 ^ k &&& m) + 256 * (hi / 2 ^ k &&& mm) := by
  have l1 : (lo / 2 ^ k &&& m) < 2 ^ 8 := Nat.lt_of_le_of_lt Nat.and_le_right hm
  apply Nat.eq_of_testBit_eq
  intro j
  rw [show lo + 256 * hi = 2 ^ 8 * hi + lo by omega, show m + 256 * mm = 2 ^ 8 * mm + m by omega, show (lo / 2 ^ k &&& m) + 256 * (hi / 2 ^ k &&& mm) = 2 ^ 8 * (hi / 2 ^ k &&& mm) + (lo / 2 ^ k &&& m) by omega]
  rw [Nat.testBit_and, Nat.testBit_div_two_pow, Nat.testBit_two_pow_mul_add hi (show lo < 2 ^ 8 from hlo), Nat.testBit_two_pow_mul_add mm (show m < 2 ^ 8 from hm), Nat.testBit_two_pow_mul_add _ l1]
  by_cases h8 : j < 8
  · rw [if_pos h8, if_pos h8, Nat.testBit_and, Nat.testBit_div_two_pow]
    cases hb : m.testBit j
    · simp
    · have := h j h8 hb
      rw [if_pos (by omega)]
  · rw [if_neg h8, if_neg h8, if_neg (by omega), Nat.testBit_and, Nat.testBit_div_two_pow]
    congr 2
    omega
def bc_s1 (j n : Nat) : Nat := n - (n / 2 ^ 1 &&& bc_mk 85 j)
def bc_s2 (j n : Nat) : Nat := (n / 2 ^ 0 &&& bc_mk 51 j) + (n / 2 ^ 2 &&& bc_mk 51 j)
def bc_s3 (j n : Nat) : Nat := (n + n / 2 ^ 4) / 2 ^ 0 &&& bc_mk 15 j
def bc_c1 (b : Nat) : Nat := b - (b / 2 ^ 1 &&& 85)
def bc_c2 (b : Nat) : Nat := (b / 2 ^ 0 &&& 51) + (b / 2 ^ 2 &&& 51)
def bc_c3 (b : Nat) : Nat := (b + b / 16) % 16
theorem bc_d1 : ∀ b : Fin 256, (b.val / 2 ^ 1 &&& 85) ≤ b.val ∧ bc_c1 b.val < 256 := by decide +kernel
theorem bc_d2 : ∀ b : Fin 256, bc_c2 (bc_c1 b.val) % 16 ≤ 4 ∧ bc_c2 (bc_c1 b.val) / 16 ≤ 4 := by decide +kernel
theorem bc_d3 : ∀ b : Fin 256, bc_c3 (bc_c2 (bc_c1 b.val)) = b.val % 2 + b.val / 2 % 2 + b.val / 4 % 2 + b.val / 8 % 2 + b.val / 16 % 2 + b.val / 32 % 2 + b.val / 64 % 2 + b.val / 128 % 2 := by decide +kernel
theorem bc_t85 : ∀ j : Fin 8, Nat.testBit 85 j.val = true → j.val + 1 < 8 := by decide
theorem bc_t51 : ∀ j : Fin 8, Nat.testBit 51 j.val = true → j.val + 2 < 8 := by decide
theorem bc_l1 : ∀ bs : List Nat, (∀ b ∈ bs, b < 256) → (bc_val bs / 2 ^ 1 &&& bc_mk 85 bs.length) ≤ bc_val bs ∧ bc_s1 bs.length (bc_val bs) = bc_val (bs.map bc_c1)
  | [], _ => by simp [bc_val, bc_s1, bc_mk]
  | b :: r, h => by
    have hb := h b (by simp)
    have ih := bc_l1 r (fun z hz => h z (by simp [hz]))
    have d := bc_d1 ⟨b, hb⟩
    have a := bc_A (hi := bc_val r) (mm := bc_mk 85 r.length) (k := 1) hb (show 85 < 256 by decide) (fun j hj => bc_t85 ⟨j, hj⟩)
    unfold bc_s1 at ih ⊢
    show (((b + 256 * bc_val r) / 2 ^ 1 &&& (85 + 256 * bc_mk 85 r.length)) ≤ b + 256 * bc_val r) ∧ (b + 256 * bc_val r) - ((b + 256 * bc_val r) / 2 ^ 1 &&& (85 + 256 * bc_mk 85 r.length)) = bc_c1 b + 256 * bc_val (r.map bc_c1)
    rw [a, ← ih.2]
    unfold bc_c1 at d ⊢
    have d1 : (b / 2 ^ 1 &&& 85) ≤ b := d.1
    have i1 := ih.1
    generalize (b / 2 ^ 1 &&& 85) = u at d1 ⊢
    generalize (bc_val r / 2 ^ 1 &&& bc_mk 85 r.length) = v at i1 ⊢
    omega
theorem bc_l2 : ∀ bs : List Nat, (∀ b ∈ bs, b < 256) → bc_s2 bs.length (bc_val bs) = bc_val (bs.map bc_c2)
  | [], _ => by simp [bc_val, bc_s2, bc_mk]
  | b :: r, h => by
    have hb := h b (by simp)
    have ih := bc_l2 r (fun z hz => h z (by simp [hz]))
    have a0 := bc_A (hi := bc_val r) (mm := bc_mk 51 r.length) (k := 0) hb (show 51 < 256 by decide) (fun j hj _ => by omega)
    have a2 := bc_A (hi := bc_val r) (mm := bc_mk 51 r.length) (k := 2) hb (show 51 < 256 by decide) (fun j hj => bc_t51 ⟨j, hj⟩)
    unfold bc_s2 at ih ⊢
    show ((b + 256 * bc_val r) / 2 ^ 0 &&& (51 + 256 * bc_mk 51 r.length)) + ((b + 256 * bc_val r) / 2 ^ 2 &&& (51 + 256 * bc_mk 51 r.length)) = bc_c2 b + 256 * bc_val (r.map bc_c2)
    rw [a0, a2, ← ih]
    unfold bc_c2
    omega
theorem bc_l3 : ∀ bs : List Nat, (∀ b ∈ bs, b % 16 ≤ 4 ∧ b / 16 ≤ 4) → bc_s3 bs.length (bc_val bs) = bc_val (bs.map bc_c3)
  | [], _ => by simp [bc_val, bc_s3, bc_mk]
  | b :: r, h => by
    have hb := h b (by simp)
    have ih := bc_l3 r (fun z hz => h z (by simp [hz]))
    have hr : bc_val r % 16 ≤ 4 := by
      cases r with
      | nil => simp [bc_val]
      | cons x t =>
        have := h x (by simp)
        show (x + 256 * bc_val t) % 16 ≤ 4
        omega
    have a := bc_A (lo := b + b / 16 + 16 * (bc_val r % 16)) (hi := bc_val r + bc_val r / 16) (mm := bc_mk 15 r.length) (k := 0) (by omega) (show 15 < 256 by decide) (fun j hj _ => by omega)
    unfold bc_s3 at ih ⊢
    show ((b + 256 * bc_val r) + (b + 256 * bc_val r) / 2 ^ 4) / 2 ^ 0 &&& (15 + 256 * bc_mk 15 r.length) = bc_c3 b + 256 * bc_val (r.map bc_c3)
    rw [← ih, show (b + 256 * bc_val r) + (b + 256 * bc_val r) / 2 ^ 4 = (b + b / 16 + 16 * (bc_val r % 16)) + 256 * (bc_val r + bc_val r / 16) by omega, a]
    unfold bc_c3
    rw [Nat.pow_zero, Nat.div_one, Nat.div_one, show (15 : Nat) = 2 ^ 4 - 1 from rfl, Nat.and_two_pow_sub_one_eq_mod]
    rw [show (b + b / 16 + 16 * (bc_val r % 16)) % 2 ^ 4 = (b + b / 16) % 16 by omega]
theorem bc_bc (b0 b1 b2 b3 b4 b5 b6 : Nat) (h0 : b0 < 256) (h1 : b1 < 256) (h2 : b2 < 256) (h3 : b3 < 256) (h4 : b4 < 256) (h5 : b5 < 256) (h6 : b6 < 256) : (fd_bc (lN (bc_val [b0, b1, b2, b3, b4, b5, b6, 0]))).toInt = (((bc_c3 (bc_c2 (bc_c1 b0))) + (bc_c3 (bc_c2 (bc_c1 b1))) + (bc_c3 (bc_c2 (bc_c1 b2))) + (bc_c3 (bc_c2 (bc_c1 b3))) + (bc_c3 (bc_c2 (bc_c1 b4))) + (bc_c3 (bc_c2 (bc_c1 b5))) + (bc_c3 (bc_c2 (bc_c1 b6))) : Nat) : Int) := by
  have q : ∀ b, b < 256 → bc_c1 b < 256 ∧ (bc_c2 (bc_c1 b) % 16 ≤ 4 ∧ bc_c2 (bc_c1 b) / 16 ≤ 4) ∧ bc_c3 (bc_c2 (bc_c1 b)) ≤ 8 := fun b hb => ⟨(bc_d1 ⟨b, hb⟩).2, bc_d2 ⟨b, hb⟩, by have := bc_d3 ⟨b, hb⟩; rw [this]; dsimp only; omega⟩
  have hb : ∀ b ∈ [b0, b1, b2, b3, b4, b5, b6, 0], b < 256 := by simp; omega
  have l1 := bc_l1 [b0, b1, b2, b3, b4, b5, b6, 0] hb
  have l2 := bc_l2 ([b0, b1, b2, b3, b4, b5, b6, 0].map bc_c1) (fun b hm => by obtain ⟨x, hx, rfl⟩ := List.mem_map.mp hm; exact (q x (hb x hx)).1)
  have l3 := bc_l3 (([b0, b1, b2, b3, b4, b5, b6, 0].map bc_c1).map bc_c2) (fun b hm => by obtain ⟨x, hx, rfl⟩ := List.mem_map.mp hm; obtain ⟨y, hy, rfl⟩ := List.mem_map.mp hx; exact (q y (hb y hy)).2.1)
  have m85 : bc_mk 85 8 = 6148914691236517205 := by decide
  have m51 : bc_mk 51 8 = 3689348814741910323 := by decide
  have m15 : bc_mk 15 8 = 1085102592571150095 := by decide
  have lt1 : bc_val [b0, b1, b2, b3, b4, b5, b6, 0] < 2 ^ 64 := by simp [bc_val]; omega
  have e1 : fd_bc1 (lN (bc_val [b0, b1, b2, b3, b4, b5, b6, 0])) = lN (bc_val ([b0, b1, b2, b3, b4, b5, b6, 0].map bc_c1)) := by
    unfold fd_bc1
    rw [bc_us lt1 1 (by decide) 1 (by decide), show (6148914691236517205 : Int64) = lN 6148914691236517205 from rfl, bc_and, ← m85]
    exact (lN_sub l1.1).trans (congrArg lN l1.2)
  have q0 := q b0 h0
  have q1 := q b1 h1
  have q2 := q b2 h2
  have q3 := q b3 h3
  have q4 := q b4 h4
  have q5 := q b5 h5
  have q6 := q b6 h6
  have lt2 : bc_val ([b0, b1, b2, b3, b4, b5, b6, 0].map bc_c1) < 2 ^ 64 := by
    have z : bc_c1 0 = 0 := by decide
    simp [bc_val, z]
    omega
  have e2 : fd_bc2 (lN (bc_val ([b0, b1, b2, b3, b4, b5, b6, 0].map bc_c1))) = lN (bc_val (([b0, b1, b2, b3, b4, b5, b6, 0].map bc_c1).map bc_c2)) := by
    unfold fd_bc2
    rw [bc_us lt2 2 (by decide) 2 (by decide), show (3689348814741910323 : Int64) = lN 3689348814741910323 from rfl, bc_and, bc_and, lN_add, ← m51]
    refine congrArg lN (Eq.trans ?_ l2)
    unfold bc_s2
    rw [Nat.pow_zero, Nat.div_one]
    rfl
  have lt3 : bc_val (([b0, b1, b2, b3, b4, b5, b6, 0].map bc_c1).map bc_c2) < 2 ^ 64 := by
    have z : bc_c2 (bc_c1 0) = 0 := by decide
    simp [bc_val, z]
    omega
  have e3 : fd_bc3 (lN (bc_val (([b0, b1, b2, b3, b4, b5, b6, 0].map bc_c1).map bc_c2))) = lN (bc_val ((([b0, b1, b2, b3, b4, b5, b6, 0].map bc_c1).map bc_c2).map bc_c3)) := by
    unfold fd_bc3
    rw [bc_us lt3 4 (by decide) 4 (by decide), show (1085102592571150095 : Int64) = lN 1085102592571150095 from rfl, lN_add, bc_and, ← m15]
    refine congrArg lN (Eq.trans ?_ l3)
    unfold bc_s3
    rw [Nat.pow_zero, Nat.div_one]
    rfl
  have z : bc_c3 (bc_c2 (bc_c1 0)) = 0 := by decide
  have e4 : bc_val ((([b0, b1, b2, b3, b4, b5, b6, 0].map bc_c1).map bc_c2).map bc_c3) = bc_c3 (bc_c2 (bc_c1 b0)) + 256 * (bc_c3 (bc_c2 (bc_c1 b1)) + 256 * (bc_c3 (bc_c2 (bc_c1 b2)) + 256 * (bc_c3 (bc_c2 (bc_c1 b3)) + 256 * (bc_c3 (bc_c2 (bc_c1 b4)) + 256 * (bc_c3 (bc_c2 (bc_c1 b5)) + 256 * bc_c3 (bc_c2 (bc_c1 b6))))))) := by
    simp [bc_val, z]
  unfold fd_bc
  rw [e1, e2, e3, e4]
  generalize bc_c3 (bc_c2 (bc_c1 b0)) = c0 at q0 ⊢
  generalize bc_c3 (bc_c2 (bc_c1 b1)) = c1 at q1 ⊢
  generalize bc_c3 (bc_c2 (bc_c1 b2)) = c2 at q2 ⊢
  generalize bc_c3 (bc_c2 (bc_c1 b3)) = c3 at q3 ⊢
  generalize bc_c3 (bc_c2 (bc_c1 b4)) = c4 at q4 ⊢
  generalize bc_c3 (bc_c2 (bc_c1 b5)) = c5 at q5 ⊢
  generalize bc_c3 (bc_c2 (bc_c1 b6)) = c6 at q6 ⊢
  have k0 := q0.2.2
  have k1 := q1.2.2
  have k2 := q2.2.2
  have k3 := q3.2.2
  have k4 := q4.2.2
  have k5 := q5.2.2
  have k6 := q6.2.2
  clear q0 q1 q2 q3 q4 q5 q6 e1 e2 e3 e4 l1 l2 l3 lt1 lt2 lt3 hb q
  unfold fd_bc4 fd_bc5 fd_bc6
  rw [bc_us (by omega) 8 (by decide) 8 (by decide), lN_add]
  rw [show (c0 + 256 * (c1 + 256 * (c2 + 256 * (c3 + 256 * (c4 + 256 * (c5 + 256 * c6)))))) + (c0 + 256 * (c1 + 256 * (c2 + 256 * (c3 + 256 * (c4 + 256 * (c5 + 256 * c6)))))) / 2 ^ 8 = (c0 + c1) + 256 * ((c1 + c2) + 256 * ((c2 + c3) + 256 * ((c3 + c4) + 256 * ((c4 + c5) + 256 * ((c5 + c6) + 256 * c6))))) by omega]
  rw [bc_us (by omega) 16 (by decide) 16 (by decide), lN_add]
  rw [show ((c0 + c1) + 256 * ((c1 + c2) + 256 * ((c2 + c3) + 256 * ((c3 + c4) + 256 * ((c4 + c5) + 256 * ((c5 + c6) + 256 * c6)))))) + ((c0 + c1) + 256 * ((c1 + c2) + 256 * ((c2 + c3) + 256 * ((c3 + c4) + 256 * ((c4 + c5) + 256 * ((c5 + c6) + 256 * c6)))))) / 2 ^ 16 = (c0 + c1 + c2 + c3) + 256 * ((c1 + c2 + c3 + c4) + 256 * ((c2 + c3 + c4 + c5) + 256 * ((c3 + c4 + c5 + c6) + 256 * ((c4 + c5 + c6) + 256 * ((c5 + c6) + 256 * c6))))) by omega]
  rw [bc_us (by omega) 32 (by decide) 32 (by decide), lN_add]
  rw [show ((c0 + c1 + c2 + c3) + 256 * ((c1 + c2 + c3 + c4) + 256 * ((c2 + c3 + c4 + c5) + 256 * ((c3 + c4 + c5 + c6) + 256 * ((c4 + c5 + c6) + 256 * ((c5 + c6) + 256 * c6)))))) + ((c0 + c1 + c2 + c3) + 256 * ((c1 + c2 + c3 + c4) + 256 * ((c2 + c3 + c4 + c5) + 256 * ((c3 + c4 + c5 + c6) + 256 * ((c4 + c5 + c6) + 256 * ((c5 + c6) + 256 * c6)))))) / 2 ^ 32 = (c0 + c1 + c2 + c3 + c4 + c5 + c6) + 256 * ((c1 + c2 + c3 + c4 + c5 + c6) + 256 * ((c2 + c3 + c4 + c5 + c6) + 256 * ((c3 + c4 + c5 + c6) + 256 * ((c4 + c5 + c6) + 256 * ((c5 + c6) + 256 * c6))))) by omega]
  rw [lN_i]
  generalize hR : (c1 + c2 + c3 + c4 + c5 + c6) + 256 * ((c2 + c3 + c4 + c5 + c6) + 256 * ((c3 + c4 + c5 + c6) + 256 * ((c4 + c5 + c6) + 256 * ((c5 + c6) + 256 * c6)))) = R
  have e9 : nI ((c0 + c1 + c2 + c3 + c4 + c5 + c6) + 256 * R) &&& 127 = nI (((c0 + c1 + c2 + c3 + c4 + c5 + c6) + 256 * R) &&& 127) := by
    apply Int32.toBitVec.inj
    show BitVec.ofNat 32 _ &&& BitVec.ofNat 32 127 = BitVec.ofNat 32 _
    apply BitVec.eq_of_toNat_eq
    simp [BitVec.toNat_and, BitVec.toNat_ofNat, Nat.and_mod_two_pow]
  rw [e9, show (127 : Nat) = 2 ^ 7 - 1 from rfl, Nat.and_two_pow_sub_one_eq_mod, show ((c0 + c1 + c2 + c3 + c4 + c5 + c6) + 256 * R) % 2 ^ 7 = c0 + c1 + c2 + c3 + c4 + c5 + c6 by omega]
  exact nI_toInt (by omega)
theorem bc_bitN (n a x : Nat) (hx : x < 8) : n / 2 ^ a % 256 / 2 ^ x % 2 = n / 2 ^ (a + x) % 2 := by
  have e : ∀ m k : Nat, m / 2 ^ k % 2 = (m.testBit k).toNat := fun m k => by
    rw [Nat.testBit_eq_decide_div_mod_eq]
    have := Nat.mod_lt (m / 2 ^ k) (show 2 > 0 by decide)
    by_cases h : m / 2 ^ k % 2 = 1
    · simp [h]
    · have : m / 2 ^ k % 2 = 0 := by omega
      simp [this]
  rw [e, e, show (256 : Nat) = 2 ^ 8 from rfl, Nat.testBit_mod_two_pow, Nat.testBit_div_two_pow]
  simp [hx, Nat.add_comm]
def bc_f (n k : Nat) : Nat := n / 2 ^ k % 2
theorem bc_byte (n a : Nat) : bc_c3 (bc_c2 (bc_c1 (n / 2 ^ a % 256))) = bc_f n a + bc_f n (a + 1) + bc_f n (a + 2) + bc_f n (a + 3) + bc_f n (a + 4) + bc_f n (a + 5) + bc_f n (a + 6) + bc_f n (a + 7) := by
  have h : n / 2 ^ a % 256 < 256 := Nat.mod_lt _ (by decide)
  rw [bc_d3 ⟨n / 2 ^ a % 256, h⟩]
  have g : ∀ x, x < 8 → n / 2 ^ a % 256 / 2 ^ x % 2 = bc_f n (a + x) := fun x hx => bc_bitN n a x hx
  have g0 := g 0 (by omega)
  have g1 := g 1 (by omega)
  have g2 := g 2 (by omega)
  have g3 := g 3 (by omega)
  have g4 := g 4 (by omega)
  have g5 := g 5 (by omega)
  have g6 := g 6 (by omega)
  have g7 := g 7 (by omega)
  rw [Nat.add_zero, Nat.pow_zero, Nat.div_one] at g0
  rw [← g0, ← g1, ← g2, ← g3, ← g4, ← g5, ← g6, ← g7]
theorem bc_row (n a : Nat) : fd_many ((n : Int) / 2 ^ a % 128) = ((bc_f n a + bc_f n (a + 1) + bc_f n (a + 2) + bc_f n (a + 3) + bc_f n (a + 4) + bc_f n (a + 5) + bc_f n (a + 6) : Nat) : Int) := by
  have g : ∀ x, x < 7 → (n : Int) / 2 ^ a % 128 / 2 ^ x % 2 = (bc_f n (a + x) : Int) := fun x hx => by
    rw [fd_bitI (by omega) a x hx, fd_pw]
    unfold bc_f
    exact_mod_cast rfl
  unfold fd_many
  simp only [fd_sum]
  rw [g 0 (by omega), g 1 (by omega), g 2 (by omega), g 3 (by omega), g 4 (by omega), g 5 (by omega), g 6 (by omega), Nat.add_zero]
  omega
theorem bc_zero {n k : Nat} (hn : n < 2 ^ 49) (hk : 49 ≤ k) : bc_f n k = 0 := by
  unfold bc_f
  rw [Nat.div_eq_of_lt (Nat.lt_of_lt_of_le hn (Nat.pow_le_pow_right (by decide) hk))]
theorem fd_lbc_eq {v : Int} (h : 0 ≤ v ∧ v < 562949953421312) : fd_lbc v = fd_sum (fun y => fd_many (v / 2 ^ (7 * y) % 128)) 7 := by
  obtain ⟨n, rfl⟩ := Int.eq_ofNat_of_zero_le h.1
  have hn : n < 2 ^ 49 := by omega
  have e : fd_lbc (n : Int) = (fd_bc (lN n)).toInt := by
    unfold fd_lbc
    rw [show Int64.ofInt (n : Int) = lN n from Int64.ofInt_eq_ofNat]
  have eb : n = bc_val [n / 2 ^ 0 % 256, n / 2 ^ 8 % 256, n / 2 ^ 16 % 256, n / 2 ^ 24 % 256, n / 2 ^ 32 % 256, n / 2 ^ 40 % 256, n / 2 ^ 48 % 256, 0] := by
    simp only [bc_val]
    omega
  have m : ∀ x : Nat, x % 256 < 256 := fun x => Nat.mod_lt _ (by decide)
  have b := bc_bc (n / 2 ^ 0 % 256) (n / 2 ^ 8 % 256) (n / 2 ^ 16 % 256) (n / 2 ^ 24 % 256) (n / 2 ^ 32 % 256) (n / 2 ^ 40 % 256) (n / 2 ^ 48 % 256) (m _) (m _) (m _) (m _) (m _) (m _) (m _)
  rw [← eb, bc_byte, bc_byte, bc_byte, bc_byte, bc_byte, bc_byte, bc_byte] at b
  rw [e, b]
  simp only [fd_sum, bc_row]
  simp only [Nat.reduceAdd, Nat.reduceMul]
  rw [bc_zero hn (show 49 ≤ 49 by decide), bc_zero hn (show 49 ≤ 50 by decide), bc_zero hn (show 49 ≤ 51 by decide), bc_zero hn (show 49 ≤ 52 by decide), bc_zero hn (show 49 ≤ 53 by decide), bc_zero hn (show 49 ≤ 54 by decide), bc_zero hn (show 49 ≤ 55 by decide)]
  omega

theorem fd_ok_0 : (List.range 6).all (fun j => fd_okC (0 + j)) = true := by decide +kernel
theorem fd_ok_1 : (List.range 6).all (fun j => fd_okC (6 + j)) = true := by decide +kernel
theorem fd_ok_2 : (List.range 6).all (fun j => fd_okC (12 + j)) = true := by decide +kernel
theorem fd_ok_3 : (List.range 6).all (fun j => fd_okC (18 + j)) = true := by decide +kernel
theorem fd_ok_4 : (List.range 6).all (fun j => fd_okC (24 + j)) = true := by decide +kernel
theorem fd_ok_5 : (List.range 6).all (fun j => fd_okC (30 + j)) = true := by decide +kernel
theorem fd_ok_6 : (List.range 6).all (fun j => fd_okC (36 + j)) = true := by decide +kernel
theorem fd_ok_7 : (List.range 6).all (fun j => fd_okC (42 + j)) = true := by decide +kernel
theorem fd_ok_8 : (List.range 6).all (fun j => fd_okC (48 + j)) = true := by decide +kernel
theorem fd_ok_9 : (List.range 6).all (fun j => fd_okC (54 + j)) = true := by decide +kernel
theorem fd_ok_10 : (List.range 6).all (fun j => fd_okC (60 + j)) = true := by decide +kernel
theorem fd_ok_11 : (List.range 6).all (fun j => fd_okC (66 + j)) = true := by decide +kernel
theorem fd_ok_12 : (List.range 6).all (fun j => fd_okC (72 + j)) = true := by decide +kernel
theorem fd_ok_13 : (List.range 6).all (fun j => fd_okC (78 + j)) = true := by decide +kernel
theorem fd_ok_14 : (List.range 6).all (fun j => fd_okC (84 + j)) = true := by decide +kernel
theorem fd_ok_15 : (List.range 6).all (fun j => fd_okC (90 + j)) = true := by decide +kernel
theorem fd_ok_16 : (List.range 6).all (fun j => fd_okC (96 + j)) = true := by decide +kernel
theorem fd_ok_17 : (List.range 6).all (fun j => fd_okC (102 + j)) = true := by decide +kernel
theorem fd_ok_18 : (List.range 6).all (fun j => fd_okC (108 + j)) = true := by decide +kernel
theorem fd_ok_19 : (List.range 6).all (fun j => fd_okC (114 + j)) = true := by decide +kernel
theorem fd_ok_20 : (List.range 6).all (fun j => fd_okC (120 + j)) = true := by decide +kernel
theorem fd_ok_21 : (List.range 6).all (fun j => fd_okC (126 + j)) = true := by decide +kernel
theorem fd_ok_22 : (List.range 6).all (fun j => fd_okC (132 + j)) = true := by decide +kernel
theorem fd_ok_23 : (List.range 6).all (fun j => fd_okC (138 + j)) = true := by decide +kernel
theorem fd_ok_24 : (List.range 6).all (fun j => fd_okC (144 + j)) = true := by decide +kernel
theorem fd_ok_25 : (List.range 6).all (fun j => fd_okC (150 + j)) = true := by decide +kernel
theorem fd_ok_26 : (List.range 6).all (fun j => fd_okC (156 + j)) = true := by decide +kernel
theorem fd_ok_27 : (List.range 6).all (fun j => fd_okC (162 + j)) = true := by decide +kernel
theorem fd_ok_28 : (List.range 6).all (fun j => fd_okC (168 + j)) = true := by decide +kernel
theorem fd_ok_29 : (List.range 4).all (fun j => fd_okC (174 + j)) = true := by decide +kernel
theorem fd_okAll (m : Nat) (h : m < 178) : fd_okC m = true := by
  rcases Nat.lt_or_ge m 6 with h0 | h0
  · have q := List.all_eq_true.mp fd_ok_0 (m - 0) (List.mem_range.mpr (by omega))
    rwa [show 0 + (m - 0) = m by omega] at q
  rcases Nat.lt_or_ge m 12 with h6 | h6
  · have q := List.all_eq_true.mp fd_ok_1 (m - 6) (List.mem_range.mpr (by omega))
    rwa [show 6 + (m - 6) = m by omega] at q
  rcases Nat.lt_or_ge m 18 with h12 | h12
  · have q := List.all_eq_true.mp fd_ok_2 (m - 12) (List.mem_range.mpr (by omega))
    rwa [show 12 + (m - 12) = m by omega] at q
  rcases Nat.lt_or_ge m 24 with h18 | h18
  · have q := List.all_eq_true.mp fd_ok_3 (m - 18) (List.mem_range.mpr (by omega))
    rwa [show 18 + (m - 18) = m by omega] at q
  rcases Nat.lt_or_ge m 30 with h24 | h24
  · have q := List.all_eq_true.mp fd_ok_4 (m - 24) (List.mem_range.mpr (by omega))
    rwa [show 24 + (m - 24) = m by omega] at q
  rcases Nat.lt_or_ge m 36 with h30 | h30
  · have q := List.all_eq_true.mp fd_ok_5 (m - 30) (List.mem_range.mpr (by omega))
    rwa [show 30 + (m - 30) = m by omega] at q
  rcases Nat.lt_or_ge m 42 with h36 | h36
  · have q := List.all_eq_true.mp fd_ok_6 (m - 36) (List.mem_range.mpr (by omega))
    rwa [show 36 + (m - 36) = m by omega] at q
  rcases Nat.lt_or_ge m 48 with h42 | h42
  · have q := List.all_eq_true.mp fd_ok_7 (m - 42) (List.mem_range.mpr (by omega))
    rwa [show 42 + (m - 42) = m by omega] at q
  rcases Nat.lt_or_ge m 54 with h48 | h48
  · have q := List.all_eq_true.mp fd_ok_8 (m - 48) (List.mem_range.mpr (by omega))
    rwa [show 48 + (m - 48) = m by omega] at q
  rcases Nat.lt_or_ge m 60 with h54 | h54
  · have q := List.all_eq_true.mp fd_ok_9 (m - 54) (List.mem_range.mpr (by omega))
    rwa [show 54 + (m - 54) = m by omega] at q
  rcases Nat.lt_or_ge m 66 with h60 | h60
  · have q := List.all_eq_true.mp fd_ok_10 (m - 60) (List.mem_range.mpr (by omega))
    rwa [show 60 + (m - 60) = m by omega] at q
  rcases Nat.lt_or_ge m 72 with h66 | h66
  · have q := List.all_eq_true.mp fd_ok_11 (m - 66) (List.mem_range.mpr (by omega))
    rwa [show 66 + (m - 66) = m by omega] at q
  rcases Nat.lt_or_ge m 78 with h72 | h72
  · have q := List.all_eq_true.mp fd_ok_12 (m - 72) (List.mem_range.mpr (by omega))
    rwa [show 72 + (m - 72) = m by omega] at q
  rcases Nat.lt_or_ge m 84 with h78 | h78
  · have q := List.all_eq_true.mp fd_ok_13 (m - 78) (List.mem_range.mpr (by omega))
    rwa [show 78 + (m - 78) = m by omega] at q
  rcases Nat.lt_or_ge m 90 with h84 | h84
  · have q := List.all_eq_true.mp fd_ok_14 (m - 84) (List.mem_range.mpr (by omega))
    rwa [show 84 + (m - 84) = m by omega] at q
  rcases Nat.lt_or_ge m 96 with h90 | h90
  · have q := List.all_eq_true.mp fd_ok_15 (m - 90) (List.mem_range.mpr (by omega))
    rwa [show 90 + (m - 90) = m by omega] at q
  rcases Nat.lt_or_ge m 102 with h96 | h96
  · have q := List.all_eq_true.mp fd_ok_16 (m - 96) (List.mem_range.mpr (by omega))
    rwa [show 96 + (m - 96) = m by omega] at q
  rcases Nat.lt_or_ge m 108 with h102 | h102
  · have q := List.all_eq_true.mp fd_ok_17 (m - 102) (List.mem_range.mpr (by omega))
    rwa [show 102 + (m - 102) = m by omega] at q
  rcases Nat.lt_or_ge m 114 with h108 | h108
  · have q := List.all_eq_true.mp fd_ok_18 (m - 108) (List.mem_range.mpr (by omega))
    rwa [show 108 + (m - 108) = m by omega] at q
  rcases Nat.lt_or_ge m 120 with h114 | h114
  · have q := List.all_eq_true.mp fd_ok_19 (m - 114) (List.mem_range.mpr (by omega))
    rwa [show 114 + (m - 114) = m by omega] at q
  rcases Nat.lt_or_ge m 126 with h120 | h120
  · have q := List.all_eq_true.mp fd_ok_20 (m - 120) (List.mem_range.mpr (by omega))
    rwa [show 120 + (m - 120) = m by omega] at q
  rcases Nat.lt_or_ge m 132 with h126 | h126
  · have q := List.all_eq_true.mp fd_ok_21 (m - 126) (List.mem_range.mpr (by omega))
    rwa [show 126 + (m - 126) = m by omega] at q
  rcases Nat.lt_or_ge m 138 with h132 | h132
  · have q := List.all_eq_true.mp fd_ok_22 (m - 132) (List.mem_range.mpr (by omega))
    rwa [show 132 + (m - 132) = m by omega] at q
  rcases Nat.lt_or_ge m 144 with h138 | h138
  · have q := List.all_eq_true.mp fd_ok_23 (m - 138) (List.mem_range.mpr (by omega))
    rwa [show 138 + (m - 138) = m by omega] at q
  rcases Nat.lt_or_ge m 150 with h144 | h144
  · have q := List.all_eq_true.mp fd_ok_24 (m - 144) (List.mem_range.mpr (by omega))
    rwa [show 144 + (m - 144) = m by omega] at q
  rcases Nat.lt_or_ge m 156 with h150 | h150
  · have q := List.all_eq_true.mp fd_ok_25 (m - 150) (List.mem_range.mpr (by omega))
    rwa [show 150 + (m - 150) = m by omega] at q
  rcases Nat.lt_or_ge m 162 with h156 | h156
  · have q := List.all_eq_true.mp fd_ok_26 (m - 156) (List.mem_range.mpr (by omega))
    rwa [show 156 + (m - 156) = m by omega] at q
  rcases Nat.lt_or_ge m 168 with h162 | h162
  · have q := List.all_eq_true.mp fd_ok_27 (m - 162) (List.mem_range.mpr (by omega))
    rwa [show 162 + (m - 162) = m by omega] at q
  rcases Nat.lt_or_ge m 174 with h168 | h168
  · have q := List.all_eq_true.mp fd_ok_28 (m - 168) (List.mem_range.mpr (by omega))
    rwa [show 168 + (m - 168) = m by omega] at q
  rcases Nat.lt_or_ge m 178 with h174 | h174
  · have q := List.all_eq_true.mp fd_ok_29 (m - 174) (List.mem_range.mpr (by omega))
    rwa [show 174 + (m - 174) = m by omega] at q
  exact absurd h (by omega)

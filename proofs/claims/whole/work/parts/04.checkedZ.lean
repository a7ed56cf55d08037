theorem fd_okAll (m : Nat) (h : m < 177) : fd_okC m = true := by
  rcases Nat.lt_or_ge m 3 with h0 | h0
  · have q := List.all_eq_true.mp fd_ok_0 (m - 0) (List.mem_range.mpr (by omega))
    rwa [show 0 + (m - 0) = m by omega] at q
  rcases Nat.lt_or_ge m 6 with h3 | h3
  · have q := List.all_eq_true.mp fd_ok_1 (m - 3) (List.mem_range.mpr (by omega))
    rwa [show 3 + (m - 3) = m by omega] at q
  rcases Nat.lt_or_ge m 9 with h6 | h6
  · have q := List.all_eq_true.mp fd_ok_2 (m - 6) (List.mem_range.mpr (by omega))
    rwa [show 6 + (m - 6) = m by omega] at q
  rcases Nat.lt_or_ge m 12 with h9 | h9
  · have q := List.all_eq_true.mp fd_ok_3 (m - 9) (List.mem_range.mpr (by omega))
    rwa [show 9 + (m - 9) = m by omega] at q
  rcases Nat.lt_or_ge m 15 with h12 | h12
  · have q := List.all_eq_true.mp fd_ok_4 (m - 12) (List.mem_range.mpr (by omega))
    rwa [show 12 + (m - 12) = m by omega] at q
  rcases Nat.lt_or_ge m 18 with h15 | h15
  · have q := List.all_eq_true.mp fd_ok_5 (m - 15) (List.mem_range.mpr (by omega))
    rwa [show 15 + (m - 15) = m by omega] at q
  rcases Nat.lt_or_ge m 21 with h18 | h18
  · have q := List.all_eq_true.mp fd_ok_6 (m - 18) (List.mem_range.mpr (by omega))
    rwa [show 18 + (m - 18) = m by omega] at q
  rcases Nat.lt_or_ge m 24 with h21 | h21
  · have q := List.all_eq_true.mp fd_ok_7 (m - 21) (List.mem_range.mpr (by omega))
    rwa [show 21 + (m - 21) = m by omega] at q
  rcases Nat.lt_or_ge m 27 with h24 | h24
  · have q := List.all_eq_true.mp fd_ok_8 (m - 24) (List.mem_range.mpr (by omega))
    rwa [show 24 + (m - 24) = m by omega] at q
  rcases Nat.lt_or_ge m 30 with h27 | h27
  · have q := List.all_eq_true.mp fd_ok_9 (m - 27) (List.mem_range.mpr (by omega))
    rwa [show 27 + (m - 27) = m by omega] at q
  rcases Nat.lt_or_ge m 33 with h30 | h30
  · have q := List.all_eq_true.mp fd_ok_10 (m - 30) (List.mem_range.mpr (by omega))
    rwa [show 30 + (m - 30) = m by omega] at q
  rcases Nat.lt_or_ge m 36 with h33 | h33
  · have q := List.all_eq_true.mp fd_ok_11 (m - 33) (List.mem_range.mpr (by omega))
    rwa [show 33 + (m - 33) = m by omega] at q
  rcases Nat.lt_or_ge m 39 with h36 | h36
  · have q := List.all_eq_true.mp fd_ok_12 (m - 36) (List.mem_range.mpr (by omega))
    rwa [show 36 + (m - 36) = m by omega] at q
  rcases Nat.lt_or_ge m 42 with h39 | h39
  · have q := List.all_eq_true.mp fd_ok_13 (m - 39) (List.mem_range.mpr (by omega))
    rwa [show 39 + (m - 39) = m by omega] at q
  rcases Nat.lt_or_ge m 45 with h42 | h42
  · have q := List.all_eq_true.mp fd_ok_14 (m - 42) (List.mem_range.mpr (by omega))
    rwa [show 42 + (m - 42) = m by omega] at q
  rcases Nat.lt_or_ge m 48 with h45 | h45
  · have q := List.all_eq_true.mp fd_ok_15 (m - 45) (List.mem_range.mpr (by omega))
    rwa [show 45 + (m - 45) = m by omega] at q
  rcases Nat.lt_or_ge m 51 with h48 | h48
  · have q := List.all_eq_true.mp fd_ok_16 (m - 48) (List.mem_range.mpr (by omega))
    rwa [show 48 + (m - 48) = m by omega] at q
  rcases Nat.lt_or_ge m 54 with h51 | h51
  · have q := List.all_eq_true.mp fd_ok_17 (m - 51) (List.mem_range.mpr (by omega))
    rwa [show 51 + (m - 51) = m by omega] at q
  rcases Nat.lt_or_ge m 57 with h54 | h54
  · have q := List.all_eq_true.mp fd_ok_18 (m - 54) (List.mem_range.mpr (by omega))
    rwa [show 54 + (m - 54) = m by omega] at q
  rcases Nat.lt_or_ge m 60 with h57 | h57
  · have q := List.all_eq_true.mp fd_ok_19 (m - 57) (List.mem_range.mpr (by omega))
    rwa [show 57 + (m - 57) = m by omega] at q
  rcases Nat.lt_or_ge m 63 with h60 | h60
  · have q := List.all_eq_true.mp fd_ok_20 (m - 60) (List.mem_range.mpr (by omega))
    rwa [show 60 + (m - 60) = m by omega] at q
  rcases Nat.lt_or_ge m 66 with h63 | h63
  · have q := List.all_eq_true.mp fd_ok_21 (m - 63) (List.mem_range.mpr (by omega))
    rwa [show 63 + (m - 63) = m by omega] at q
  rcases Nat.lt_or_ge m 69 with h66 | h66
  · have q := List.all_eq_true.mp fd_ok_22 (m - 66) (List.mem_range.mpr (by omega))
    rwa [show 66 + (m - 66) = m by omega] at q
  rcases Nat.lt_or_ge m 72 with h69 | h69
  · have q := List.all_eq_true.mp fd_ok_23 (m - 69) (List.mem_range.mpr (by omega))
    rwa [show 69 + (m - 69) = m by omega] at q
  rcases Nat.lt_or_ge m 75 with h72 | h72
  · have q := List.all_eq_true.mp fd_ok_24 (m - 72) (List.mem_range.mpr (by omega))
    rwa [show 72 + (m - 72) = m by omega] at q
  rcases Nat.lt_or_ge m 78 with h75 | h75
  · have q := List.all_eq_true.mp fd_ok_25 (m - 75) (List.mem_range.mpr (by omega))
    rwa [show 75 + (m - 75) = m by omega] at q
  rcases Nat.lt_or_ge m 81 with h78 | h78
  · have q := List.all_eq_true.mp fd_ok_26 (m - 78) (List.mem_range.mpr (by omega))
    rwa [show 78 + (m - 78) = m by omega] at q
  rcases Nat.lt_or_ge m 84 with h81 | h81
  · have q := List.all_eq_true.mp fd_ok_27 (m - 81) (List.mem_range.mpr (by omega))
    rwa [show 81 + (m - 81) = m by omega] at q
  rcases Nat.lt_or_ge m 87 with h84 | h84
  · have q := List.all_eq_true.mp fd_ok_28 (m - 84) (List.mem_range.mpr (by omega))
    rwa [show 84 + (m - 84) = m by omega] at q
  rcases Nat.lt_or_ge m 90 with h87 | h87
  · have q := List.all_eq_true.mp fd_ok_29 (m - 87) (List.mem_range.mpr (by omega))
    rwa [show 87 + (m - 87) = m by omega] at q
  rcases Nat.lt_or_ge m 93 with h90 | h90
  · have q := List.all_eq_true.mp fd_ok_30 (m - 90) (List.mem_range.mpr (by omega))
    rwa [show 90 + (m - 90) = m by omega] at q
  rcases Nat.lt_or_ge m 96 with h93 | h93
  · have q := List.all_eq_true.mp fd_ok_31 (m - 93) (List.mem_range.mpr (by omega))
    rwa [show 93 + (m - 93) = m by omega] at q
  rcases Nat.lt_or_ge m 99 with h96 | h96
  · have q := List.all_eq_true.mp fd_ok_32 (m - 96) (List.mem_range.mpr (by omega))
    rwa [show 96 + (m - 96) = m by omega] at q
  rcases Nat.lt_or_ge m 102 with h99 | h99
  · have q := List.all_eq_true.mp fd_ok_33 (m - 99) (List.mem_range.mpr (by omega))
    rwa [show 99 + (m - 99) = m by omega] at q
  rcases Nat.lt_or_ge m 105 with h102 | h102
  · have q := List.all_eq_true.mp fd_ok_34 (m - 102) (List.mem_range.mpr (by omega))
    rwa [show 102 + (m - 102) = m by omega] at q
  rcases Nat.lt_or_ge m 108 with h105 | h105
  · have q := List.all_eq_true.mp fd_ok_35 (m - 105) (List.mem_range.mpr (by omega))
    rwa [show 105 + (m - 105) = m by omega] at q
  rcases Nat.lt_or_ge m 111 with h108 | h108
  · have q := List.all_eq_true.mp fd_ok_36 (m - 108) (List.mem_range.mpr (by omega))
    rwa [show 108 + (m - 108) = m by omega] at q
  rcases Nat.lt_or_ge m 114 with h111 | h111
  · have q := List.all_eq_true.mp fd_ok_37 (m - 111) (List.mem_range.mpr (by omega))
    rwa [show 111 + (m - 111) = m by omega] at q
  rcases Nat.lt_or_ge m 117 with h114 | h114
  · have q := List.all_eq_true.mp fd_ok_38 (m - 114) (List.mem_range.mpr (by omega))
    rwa [show 114 + (m - 114) = m by omega] at q
  rcases Nat.lt_or_ge m 120 with h117 | h117
  · have q := List.all_eq_true.mp fd_ok_39 (m - 117) (List.mem_range.mpr (by omega))
    rwa [show 117 + (m - 117) = m by omega] at q
  rcases Nat.lt_or_ge m 123 with h120 | h120
  · have q := List.all_eq_true.mp fd_ok_40 (m - 120) (List.mem_range.mpr (by omega))
    rwa [show 120 + (m - 120) = m by omega] at q
  rcases Nat.lt_or_ge m 126 with h123 | h123
  · have q := List.all_eq_true.mp fd_ok_41 (m - 123) (List.mem_range.mpr (by omega))
    rwa [show 123 + (m - 123) = m by omega] at q
  rcases Nat.lt_or_ge m 129 with h126 | h126
  · have q := List.all_eq_true.mp fd_ok_42 (m - 126) (List.mem_range.mpr (by omega))
    rwa [show 126 + (m - 126) = m by omega] at q
  rcases Nat.lt_or_ge m 132 with h129 | h129
  · have q := List.all_eq_true.mp fd_ok_43 (m - 129) (List.mem_range.mpr (by omega))
    rwa [show 129 + (m - 129) = m by omega] at q
  rcases Nat.lt_or_ge m 135 with h132 | h132
  · have q := List.all_eq_true.mp fd_ok_44 (m - 132) (List.mem_range.mpr (by omega))
    rwa [show 132 + (m - 132) = m by omega] at q
  rcases Nat.lt_or_ge m 138 with h135 | h135
  · have q := List.all_eq_true.mp fd_ok_45 (m - 135) (List.mem_range.mpr (by omega))
    rwa [show 135 + (m - 135) = m by omega] at q
  rcases Nat.lt_or_ge m 141 with h138 | h138
  · have q := List.all_eq_true.mp fd_ok_46 (m - 138) (List.mem_range.mpr (by omega))
    rwa [show 138 + (m - 138) = m by omega] at q
  rcases Nat.lt_or_ge m 144 with h141 | h141
  · have q := List.all_eq_true.mp fd_ok_47 (m - 141) (List.mem_range.mpr (by omega))
    rwa [show 141 + (m - 141) = m by omega] at q
  rcases Nat.lt_or_ge m 147 with h144 | h144
  · have q := List.all_eq_true.mp fd_ok_48 (m - 144) (List.mem_range.mpr (by omega))
    rwa [show 144 + (m - 144) = m by omega] at q
  rcases Nat.lt_or_ge m 150 with h147 | h147
  · have q := List.all_eq_true.mp fd_ok_49 (m - 147) (List.mem_range.mpr (by omega))
    rwa [show 147 + (m - 147) = m by omega] at q
  rcases Nat.lt_or_ge m 153 with h150 | h150
  · have q := List.all_eq_true.mp fd_ok_50 (m - 150) (List.mem_range.mpr (by omega))
    rwa [show 150 + (m - 150) = m by omega] at q
  rcases Nat.lt_or_ge m 156 with h153 | h153
  · have q := List.all_eq_true.mp fd_ok_51 (m - 153) (List.mem_range.mpr (by omega))
    rwa [show 153 + (m - 153) = m by omega] at q
  rcases Nat.lt_or_ge m 159 with h156 | h156
  · have q := List.all_eq_true.mp fd_ok_52 (m - 156) (List.mem_range.mpr (by omega))
    rwa [show 156 + (m - 156) = m by omega] at q
  rcases Nat.lt_or_ge m 162 with h159 | h159
  · have q := List.all_eq_true.mp fd_ok_53 (m - 159) (List.mem_range.mpr (by omega))
    rwa [show 159 + (m - 159) = m by omega] at q
  rcases Nat.lt_or_ge m 165 with h162 | h162
  · have q := List.all_eq_true.mp fd_ok_54 (m - 162) (List.mem_range.mpr (by omega))
    rwa [show 162 + (m - 162) = m by omega] at q
  rcases Nat.lt_or_ge m 168 with h165 | h165
  · have q := List.all_eq_true.mp fd_ok_55 (m - 165) (List.mem_range.mpr (by omega))
    rwa [show 165 + (m - 165) = m by omega] at q
  rcases Nat.lt_or_ge m 171 with h168 | h168
  · have q := List.all_eq_true.mp fd_ok_56 (m - 168) (List.mem_range.mpr (by omega))
    rwa [show 168 + (m - 168) = m by omega] at q
  rcases Nat.lt_or_ge m 174 with h171 | h171
  · have q := List.all_eq_true.mp fd_ok_57 (m - 171) (List.mem_range.mpr (by omega))
    rwa [show 171 + (m - 171) = m by omega] at q
  rcases Nat.lt_or_ge m 177 with h174 | h174
  · have q := List.all_eq_true.mp fd_ok_58 (m - 174) (List.mem_range.mpr (by omega))
    rwa [show 174 + (m - 174) = m by omega] at q
  exact absurd h (by omega)

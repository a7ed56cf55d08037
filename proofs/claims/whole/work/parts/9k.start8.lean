theorem fd_ag3 : fd_ag fd_Mc fd_Mk 208 = true := by decide +kernel

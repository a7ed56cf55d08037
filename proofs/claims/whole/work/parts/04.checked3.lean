theorem fd_ok_27 : (List.range 3).all (fun j => fd_okC (81 + j)) = true := by decide +kernel
theorem fd_ok_28 : (List.range 3).all (fun j => fd_okC (84 + j)) = true := by decide +kernel
theorem fd_ok_29 : (List.range 3).all (fun j => fd_okC (87 + j)) = true := by decide +kernel
theorem fd_ok_30 : (List.range 3).all (fun j => fd_okC (90 + j)) = true := by decide +kernel
theorem fd_ok_31 : (List.range 3).all (fun j => fd_okC (93 + j)) = true := by decide +kernel
theorem fd_ok_32 : (List.range 3).all (fun j => fd_okC (96 + j)) = true := by decide +kernel
theorem fd_ok_33 : (List.range 3).all (fun j => fd_okC (99 + j)) = true := by decide +kernel

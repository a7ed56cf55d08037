theorem fd_ok_20 : (List.range 3).all (fun j => fd_okC (60 + j)) = true := by decide +kernel
theorem fd_ok_21 : (List.range 3).all (fun j => fd_okC (63 + j)) = true := by decide +kernel
theorem fd_ok_22 : (List.range 3).all (fun j => fd_okC (66 + j)) = true := by decide +kernel
theorem fd_ok_23 : (List.range 3).all (fun j => fd_okC (69 + j)) = true := by decide +kernel
theorem fd_ok_24 : (List.range 3).all (fun j => fd_okC (72 + j)) = true := by decide +kernel
theorem fd_ok_25 : (List.range 3).all (fun j => fd_okC (75 + j)) = true := by decide +kernel
theorem fd_ok_26 : (List.range 3).all (fun j => fd_okC (78 + j)) = true := by decide +kernel

theorem fd_ok_0 : (List.range 3).all (fun j => fd_okC (0 + j)) = true := by decide +kernel
theorem fd_ok_1 : (List.range 3).all (fun j => fd_okC (3 + j)) = true := by decide +kernel
theorem fd_ok_2 : (List.range 3).all (fun j => fd_okC (6 + j)) = true := by decide +kernel
theorem fd_ok_3 : (List.range 3).all (fun j => fd_okC (9 + j)) = true := by decide +kernel
theorem fd_ok_4 : (List.range 3).all (fun j => fd_okC (12 + j)) = true := by decide +kernel
theorem fd_ok_5 : (List.range 3).all (fun j => fd_okC (15 + j)) = true := by decide +kernel
theorem fd_ok_6 : (List.range 3).all (fun j => fd_okC (18 + j)) = true := by decide +kernel

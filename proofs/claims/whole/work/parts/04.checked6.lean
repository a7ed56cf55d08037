theorem fd_ok_53 : (List.range 3).all (fun j => fd_okC (159 + j)) = true := by decide +kernel
theorem fd_ok_54 : (List.range 3).all (fun j => fd_okC (162 + j)) = true := by decide +kernel
theorem fd_ok_55 : (List.range 3).all (fun j => fd_okC (165 + j)) = true := by decide +kernel
theorem fd_ok_56 : (List.range 3).all (fun j => fd_okC (168 + j)) = true := by decide +kernel
theorem fd_ok_57 : (List.range 3).all (fun j => fd_okC (171 + j)) = true := by decide +kernel
theorem fd_ok_58 : (List.range 3).all (fun j => fd_okC (174 + j)) = true := by decide +kernel

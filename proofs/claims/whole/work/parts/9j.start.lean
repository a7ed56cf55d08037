/-! the memory that the constructors leave, plain -/
def kk_scn (c : Nat) : Bool := Nat.beq c 14 || (Nat.beq c 84 || (Nat.beq c 142 || ((Nat.ble 21 c && (Nat.blt c 71 && Nat.beq ((c - 21) % 5) 0)) || ((Nat.ble 91 c && (Nat.blt c 141 && Nat.beq ((c - 91) % 5) 0)) || (Nat.ble 149 c && (Nat.blt c 199 && Nat.beq ((c - 149) % 5) 0))))))
def fd_Mk : fd_M := fun c k => if c = 3 ∨ c = 8 then (if k = 3 then 1 else if k = 4 then 7 else 0) else if c = 20 then ((21 + 5 * k : Nat) : Int) else if c = 90 then ((91 + 5 * k : Nat) : Int) else if c = 148 then ((149 + 5 * k : Nat) : Int) else if c = 71 then (if k = 0 then 83 else 141) else if c = 207 then (if k = 0 ∨ k = 2 then 1 else 7) else if c = 208 then (if k = 13 then 1 else 0) else if c = 5000 then 213 else if k = 6 ∧ kk_scn c = true then 1 else 0
def fd_agO (M N : fd_M) (c : Nat) : Bool := (List.range (fd_SH c).2).all (fun k => decide (fd_gf true M (fd_kd (fd_ty (fd_SH c).1 k)) c k = fd_gf true N (fd_kd (fd_ty (fd_SH c).1 k)) c k))
def fd_agA (M N : fd_M) (c : Nat) : Bool := (List.range (fd_SH c).2).all (fun k => decide (M c k = N c k))
def fd_ag (M N : fd_M) (c : Nat) : Bool := bif Nat.blt (fd_SH c).1 20 then fd_agO M N c else fd_agA M N c
theorem fd_ag0 : (List.range 83).all (fd_ag fd_Mc fd_Mk) = true := by decide +kernel
theorem fd_ag1 : (List.range 116).all (fun i => fd_ag fd_Mc fd_Mk (83 + i)) = true := by decide +kernel
theorem fd_ag2 : (List.range 9).all (fun i => fd_ag fd_Mc fd_Mk (199 + i)) = true := by decide +kernel
theorem fd_ag4 : (List.range 4).all (fun i => fd_ag fd_Mc fd_Mk (209 + i)) = true := by decide +kernel
theorem fd_ag5 : fd_Mc 5000 0 = fd_Mk 5000 0 := by decide +kernel

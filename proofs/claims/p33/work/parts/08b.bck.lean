def bc1 (x : Nat) : Nat := x - (x / 2 &&& 1431655765)
def bc2 (x : Nat) : Nat := (x &&& 858993459) + (x / 4 &&& 858993459)
def bc3 (x : Nat) : Nat := x + x / 16 &&& 252645135
def bc4 (x : Nat) : Nat := x + x / 256
def bc5 (x : Nat) : Nat := x + x / 65536
def bcx (x : Nat) : Nat := bc5 (bc4 (bc3 (bc2 (bc1 x)))) &&& 63
def cnf (x : Nat) : Nat := x % 2 + x / 2 % 2 + x / 4 % 2 + x / 8 % 2 + x / 16 % 2 + x / 32 % 2 + x / 64 % 2 + x / 128 % 2 + x / 256 % 2 + x / 512 % 2 + x / 1024 % 2 + x / 2048 % 2 + x / 4096 % 2 + x / 8192 % 2 + x / 16384 % 2 + x / 32768 % 2
def bck (a : Nat) : Bool := (List.range 16).all fun h => (List.range 256).all fun l => Nat.beq (bcx (4096 * a + (256 * h + l))) (cnf (4096 * a + (256 * h + l)))
theorem bck_0 : bck 0 = true := by decide +kernel
theorem bck_1 : bck 1 = true := by decide +kernel
theorem bck_2 : bck 2 = true := by decide +kernel
theorem bck_3 : bck 3 = true := by decide +kernel
theorem bck_4 : bck 4 = true := by decide +kernel
theorem bck_5 : bck 5 = true := by decide +kernel
theorem bck_6 : bck 6 = true := by decide +kernel
theorem bck_7 : bck 7 = true := by decide +kernel
theorem bck_8 : bck 8 = true := by decide +kernel
theorem bck_9 : bck 9 = true := by decide +kernel
theorem bck_10 : bck 10 = true := by decide +kernel
theorem bck_11 : bck 11 = true := by decide +kernel
theorem bck_12 : bck 12 = true := by decide +kernel
theorem bck_13 : bck 13 = true := by decide +kernel
theorem bck_14 : bck 14 = true := by decide +kernel
theorem bck_15 : bck 15 = true := by decide +kernel

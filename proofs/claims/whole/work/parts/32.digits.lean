/-! ===== rows of colours as numbers: digits and exchanges, n places, place 0 highest ===== -/
def kb_dg (n s p : Nat) : Nat := s / 4 ^ (n - 1 - p) % 4
def kb_ss (n s p : Nat) : Nat := s + 3 * 4 ^ (n - 2 - p) * (s / 4 ^ (n - 2 - p) % 4) - 3 * 4 ^ (n - 2 - p) * (s / (4 * 4 ^ (n - 2 - p)) % 4)
def kb_chkD (s : Nat) : Bool := (List.range 5).all fun p => Nat.blt (kb_ss 6 s p) 4096 && (List.range 6).all fun j => kb_dg 6 (kb_ss 6 s p) j == (if j = p then kb_dg 6 s (p + 1) else if j = p + 1 then kb_dg 6 s p else kb_dg 6 s j)
theorem kb_chkD_ok : (List.range 4096).all kb_chkD = true := by decide +kernel
def kb_chkE (s : Nat) : Bool := (List.range 5).all fun p => kb_exchanged (nI s) (nI (2 * (4 - p))) == nI (kb_ss 6 s p)
theorem kb_chkE_ok : (List.range 4096).all kb_chkE = true := by decide +kernel
def kb_chkW (w : Nat) : Bool := (List.range 2).all fun p => kb_exchanged (nI w) (nI (2 * (1 - p))) == nI (kb_ss 3 w p)
theorem kb_chkW_ok : (List.range 64).all kb_chkW = true := by decide +kernel
def kb_swapped (n s p : Int32) : Int32 := ((s &&& ((nI 15 <<< ((nI 2 * ((n - nI 2) - p)) &&& 31)) ^^^ (-1))) ||| (((s >>> ((nI 2 * ((n - nI 2) - p)) &&& 31)) &&& nI 3) <<< (((nI 2 * ((n - nI 2) - p)) + nI 2) &&& 31))) ||| (((s >>> (((nI 2 * ((n - nI 2) - p)) + nI 2) &&& 31)) &&& nI 3) <<< ((nI 2 * ((n - nI 2) - p)) &&& 31))
def kb_chkS (n s : Nat) : Bool := (List.range (n - 1)).all fun p => kb_swapped (nI n) (nI s) (nI p) == nI (kb_ss n s p)
theorem kb_chkS2 : (List.range 16).all (kb_chkS 2) = true := by decide +kernel
theorem kb_chkS3 : (List.range 64).all (kb_chkS 3) = true := by decide +kernel
theorem kb_chkS4 : (List.range 256).all (kb_chkS 4) = true := by decide +kernel
theorem kb_chkS5 : (List.range 1024).all (kb_chkS 5) = true := by decide +kernel
theorem kb_chkS6 : (List.range 4096).all (kb_chkS 6) = true := by decide +kernel

/-! ===== rows of colours as numbers: digits and exchanges, n places, place 0 highest ===== -/
def kb_dg (n s p : Nat) : Nat := s / 4 ^ (n - 1 - p) % 4
def kb_ss (n s p : Nat) : Nat := s + 3 * 4 ^ (n - 2 - p) * (s / 4 ^ (n - 2 - p) % 4) - 3 * 4 ^ (n - 2 - p) * (s / (4 * 4 ^ (n - 2 - p)) % 4)
def kb_chkD (s : Nat) : Bool := (List.range 5).all fun p => Nat.blt (kb_ss 6 s p) 4096 && (List.range 6).all fun j => kb_dg 6 (kb_ss 6 s p) j == (if j = p then kb_dg 6 s (p + 1) else if j = p + 1 then kb_dg 6 s p else kb_dg 6 s j)
theorem kb_chkD_ok : (List.range 4096).all kb_chkD = true := by decide +kernel
def kb_chkE (s : Nat) : Bool := (List.range 5).all fun p => kb_exchanged (nI s) (nI (2 * (4 - p))) == nI (kb_ss 6 s p)
theorem kb_chkE_ok : (List.range 4096).all kb_chkE = true := by decide +kernel

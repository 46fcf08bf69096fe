/-! fund: the least and the greatest amount by themselves -/
def ivF : List (Nat × Nat) := [(0, 2147483648), (2147483649, 2147483649), (2147483650, 2147484646), (2147484647, 2147484647), (2147484648, 4294967295)]
theorem chnF : chn ivF 0 = true := by decide +kernel
theorem cb_55 : ca2 c1 55 iv4 ivF = true := by decide +kernel

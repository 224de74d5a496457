/-! Part 70: the law's program answers 1 -/
def m_mu0 : mM := (0, fun _ _ => 0, fun _ _ => 0, fun _ _ => none)
theorem m_main (b L : Nat) (xs : Nat → Int32) (hL : L ≤ 3072) : ∃ μ', fn_L_law b L xs m_mu0 = some (1, μ') := sorry

/-! PURE PART: text, all sorts -/
section TXa
variable {h : Hp} {x o : Nat} {S : Sx} {t w : Int}
theorem SBo.text (M : SBo h x o S) (t0 : -2147483648 ≤ t) (t1 : t < 2147483648) (w0 : -2147483648 ≤ w) (w1 : w < 2147483648) : Sp h x o (m_X11_text x (J t) (J w) h) (m_X12_text o (J t) (J w)) := by
  by_cases c : pcT S t w = -1
  · exact M.textNo t0 t1 w0 w1 c
  · have q := (pc_rg M.2.2.2.1 c).1
    obtain rfl | rfl | rfl : t = 0 ∨ t = 1 ∨ t = 2 := by omega
    · exact M.textA w0 w1 c
    · exact M.textQ w0 w1 c
    · exact M.textU w0 w1 c
end TXa

/-! the law: its instructions -/
def t_La_48 : List (Nat × Instr × Nat) := [(1785, .iinc 3 7, 3), (1788, .goto (-1770), 3), (1791, .iconst 1, 1), (1792, .ireturn, 1)]
theorem d_La_48 : kx_dk m_La_law.2.1 t_La_48 = true := by decide +kernel

/-! the law: the cases of its switch begin -/
theorem lw_nil : True := trivial

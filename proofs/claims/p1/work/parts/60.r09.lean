/-! Round 9 of the law: lawful (written by wip/gen/genrun.py) -/
set_option maxRecDepth 100000 in
theorem r9l_0 : z_ok false 401408 774144 [] [] [] := z_pb_ok (by decide +kernel)
theorem r9_all : z_ok false 401408 774144 [] [] [] := by
  exact r9l_0


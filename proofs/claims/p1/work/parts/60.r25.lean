/-! Round 25 of the law: back (written by wip/gen/genrun.py) -/
set_option maxRecDepth 100000 in
theorem r25l_0 : z_ok false 466944 888832 [] [.inr (.inr (.inl 0))] [] := z_pb_ok (by decide +kernel)
theorem r25_all : z_ok false 466944 888832 [] [.inr (.inr (.inl 0))] [] := by
  exact r25l_0


/-! Round 24 of the law: image (written by wip/gen/genrun.py) -/
set_option maxRecDepth 100000 in
theorem r24l_0 : z_ok false 462848 884736 [] [.inr (.inr (.inl 0))] [] := z_pb_ok (by decide +kernel)
theorem r24_all : z_ok false 462848 884736 [] [.inr (.inr (.inl 0))] [] := by
  exact r24l_0


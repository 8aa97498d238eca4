/-! Round 7 of the law: text (written by wip/gen/genrun.py) -/
set_option maxRecDepth 100000 in
theorem r7l_0 : z_ok false 393216 716800 [.inr (.inr (.inl 0))] [.inr (.inr (.inl 0)), .inr (.inr (.inl 0))] [] := z_pb_ok (by decide +kernel)
theorem r7_all : z_ok false 393216 716800 [.inr (.inr (.inl 0))] [.inr (.inr (.inl 0)), .inr (.inr (.inl 0))] [] := by
  exact r7l_0


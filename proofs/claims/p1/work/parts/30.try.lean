def z_ok (o : m_R) : Bool := match o with
  | some (some (.inl n), (c, s, _)) => Nat.beq n 1 && Nat.beq c 67 && Nat.beq s 21485
  | _ => false
set_option maxRecDepth 100000 in
theorem z_ctor : z_ok (m_run (m_cg []) 8000 100 0 [.inr (.inr (.inr 0)), .inr (.inr (.inl 0)), .inr (.inr (.inl 0)), .inr (.inr (.inl 0))] [] (0, 0, [])) = true := by decide +kernel

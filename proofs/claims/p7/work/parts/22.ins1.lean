/-! INSTRUCTIONS, each by its row: numbers, locals, the stack, branches -/
section ROWS
variable {p : Program} {l : Launch} {e : Env} {R : Room} {s : State} {m : MethodId} {args : Array Value} {below : List Frame} {meth : Method} {c : Code} {H : Heap} {locs : List Loc} {cells slots : Nat} {Q : State → Prop}
variable {cc : ByteArray} {pc : Nat} {ls ls' : Array Slot} {rest : List Value}
theorem mr_istore_n (hexec : p.tables.exec = Jvm.exec) (hb : c.code = cc) {k : Fin 4} {i : Nat} {x : Int32} (hdg : decode cc pc = .ok (.istore_n k, 1)) (hi : (k : Nat) = i) (e' : storeLocals ls i (.int x) = some ls') (kk : W p l e R s m args below meth c H locs cells slots Q (F0 m (pc + 1) ls' rest)) : W p l e R s m args below meth c H locs cells slots Q (F0 m pc ls (.int x :: rest)) := by
  subst hi
  intro T hT X
  obtain ⟨t, a, b⟩ := kk T hT X
  refine ⟨t, ?_, b⟩
  jvm_step X.here [X.here.top, ↓top_set X.here.top, hexec, hb, hdg, e']
  exact a
theorem mr_istore (hexec : p.tables.exec = Jvm.exec) (hb : c.code = cc) {i : Nat} {x : Int32} (hdg : decode cc pc = .ok (.istore i, 2)) (e' : storeLocals ls i (.int x) = some ls') (kk : W p l e R s m args below meth c H locs cells slots Q (F0 m (pc + 2) ls' rest)) : W p l e R s m args below meth c H locs cells slots Q (F0 m pc ls (.int x :: rest)) := by
  intro T hT X
  obtain ⟨t, a, b⟩ := kk T hT X
  refine ⟨t, ?_, b⟩
  jvm_step X.here [X.here.top, ↓top_set X.here.top, hexec, hb, hdg, e']
  exact a
theorem mr_astore_n (hexec : p.tables.exec = Jvm.exec) (hb : c.code = cc) {k : Fin 4} {i : Nat} {v : Value} (hv : v = .null ∨ ∃ x, v = .ref x) (hdg : decode cc pc = .ok (.astore_n k, 1)) (hi : (k : Nat) = i) (e' : storeLocals ls i v = some ls') (kk : W p l e R s m args below meth c H locs cells slots Q (F0 m (pc + 1) ls' rest)) : W p l e R s m args below meth c H locs cells slots Q (F0 m pc ls (v :: rest)) := by
  subst hi
  intro T hT X
  obtain ⟨t, a, b⟩ := kk T hT X
  refine ⟨t, ?_, b⟩
  rcases hv with rfl | ⟨x, rfl⟩ <;>
    (jvm_step X.here [X.here.top, ↓top_set X.here.top, hexec, hb, hdg, e', Value.isRef]
     exact a)
theorem mr_astore (hexec : p.tables.exec = Jvm.exec) (hb : c.code = cc) {i : Nat} {v : Value} (hv : v = .null ∨ ∃ x, v = .ref x) (hdg : decode cc pc = .ok (.astore i, 2)) (e' : storeLocals ls i v = some ls') (kk : W p l e R s m args below meth c H locs cells slots Q (F0 m (pc + 2) ls' rest)) : W p l e R s m args below meth c H locs cells slots Q (F0 m pc ls (v :: rest)) := by
  intro T hT X
  obtain ⟨t, a, b⟩ := kk T hT X
  refine ⟨t, ?_, b⟩
  rcases hv with rfl | ⟨x, rfl⟩ <;>
    (jvm_step X.here [X.here.top, ↓top_set X.here.top, hexec, hb, hdg, e', Value.isRef]
     exact a)
theorem mr_iinc (hexec : p.tables.exec = Jvm.exec) (hb : c.code = cc) {i : Nat} {n : Int} {x : Int32} (hdg : decode cc pc = .ok (.iinc i n, 3)) (hg : ls[i]? = some (.val (.int x))) (e' : storeLocals ls i (.int (x + Int32.ofInt n)) = some ls') (kk : W p l e R s m args below meth c H locs cells slots Q (F0 m (pc + 3) ls' rest)) : W p l e R s m args below meth c H locs cells slots Q (F0 m pc ls rest) := by
  intro T hT X
  obtain ⟨t, a, b⟩ := kk T hT X
  refine ⟨t, ?_, b⟩
  jvm_step X.here [X.here.top, ↓top_set X.here.top, hexec, hb, hdg, hg, e']
  exact a
end ROWS
theorem mc_i (n : Nat) : m_cat (.inl n) := fun _ h => by cases h
theorem mc_o (o : Option Nat) : m_cat (.inr (.inl o)) := fun _ h => by cases h
theorem mc_s (i : Nat) : m_cat (.inr (.inr (.inr i))) := fun _ h => by cases h
theorem mv_ref {Γ : m_G} {ad : List Nat} {o : Option Nat} {w : Value} (h : m_rv Γ ad (.inr (.inl o)) w) : w = .null ∨ ∃ x, w = .ref x := by
  cases o with
  | none => exact Or.inl h
  | some q => obtain ⟨a, -, h⟩ := h; exact Or.inr ⟨a, h⟩
section OK1
variable {Γ : m_G} {tab : Nat → Option m_M} {k : Nat} {M : m_M} {pc : Nat} {K : m_X}
theorem ok_ic {n : Nat} {z : Int} (hd : decode M.2.1 pc = .ok (.iconst z, 1)) (hz : Int32.ofInt z = nI n) (hK : m_ok Γ tab k M (pc + 1) K) : m_ok Γ tab k M pc (x_ic n K) := by
  refine ok_step hK ?_
  intro p l e R s m args below meth c A Q d fr go cl lv st h r hX
  exact ⟨lv, .inl n :: st, hX, fun ad ws tys H locs ls vs ad0 cells slots _ _ hh hl hv kk => lv_iconst fr.1 fr.2.1 hd hz (kk ls _ hl ⟨_, _, rfl, rfl, hv⟩)⟩
theorem ok_bi {n : Nat} {z : Int} (hd : decode M.2.1 pc = .ok (.bipush z, 2)) (hz : (Int8.ofInt z).toInt32 = nI n) (hK : m_ok Γ tab k M (pc + 2) K) : m_ok Γ tab k M pc (x_ic n K) := by
  refine ok_step hK ?_
  intro p l e R s m args below meth c A Q d fr go cl lv st h r hX
  exact ⟨lv, .inl n :: st, hX, fun ad ws tys H locs ls vs ad0 cells slots _ _ hh hl hv kk => lv_bipush fr.1 fr.2.1 hd hz (kk ls _ hl ⟨_, _, rfl, rfl, hv⟩)⟩
theorem ok_si {n : Nat} {z : Int} (hd : decode M.2.1 pc = .ok (.sipush z, 3)) (hz : (Int16.ofInt z).toInt32 = nI n) (hK : m_ok Γ tab k M (pc + 3) K) : m_ok Γ tab k M pc (x_ic n K) := by
  refine ok_step hK ?_
  intro p l e R s m args below meth c A Q d fr go cl lv st h r hX
  exact ⟨lv, .inl n :: st, hX, fun ad ws tys H locs ls vs ad0 cells slots _ _ hh hl hv kk => lv_sipush fr.1 fr.2.1 hd hz (kk ls _ hl ⟨_, _, rfl, rfl, hv⟩)⟩
theorem ok_ldc {n i : Nat} {v : Int32} (hd : decode M.2.1 pc = .ok (.ldc i, 2)) (hw : Cond.constant M.1.cls i v ∈ m_T) (hz : v = nI n) (hK : m_ok Γ tab k M (pc + 2) K) : m_ok Γ tab k M pc (x_ic n K) := by
  refine ok_step hK ?_
  intro p l e R s m args below meth c A Q d fr go cl lv st h r hX
  exact ⟨lv, .inl n :: st, hX, fun ad ws tys H locs ls vs ad0 cells slots _ _ hh hl hv kk => lv_ldc fr.1 fr.2.1 fr.2.2.2.1 (fr.2.2.2.2.1 _ hw) hd (kk ls _ hl ⟨_, _, rfl, congrArg _ hz, hv⟩)⟩
theorem ok_ldcw {n i : Nat} {v : Int32} (hd : decode M.2.1 pc = .ok (.ldc_w i, 3)) (hw : Cond.constant M.1.cls i v ∈ m_T) (hz : v = nI n) (hK : m_ok Γ tab k M (pc + 3) K) : m_ok Γ tab k M pc (x_ic n K) := by
  refine ok_step hK ?_
  intro p l e R s m args below meth c A Q d fr go cl lv st h r hX
  exact ⟨lv, .inl n :: st, hX, fun ad ws tys H locs ls vs ad0 cells slots _ _ hh hl hv kk => lv_ldcw fr.1 fr.2.1 fr.2.2.2.1 (fr.2.2.2.2.1 _ hw) hd (kk ls _ hl ⟨_, _, rfl, congrArg _ hz, hv⟩)⟩
theorem ok_ldc2 {n i : Nat} {v : Int64} (hd : decode M.2.1 pc = .ok (.ldc2_w i, 3)) (hw : Cond.constantLong M.1.cls i v ∈ m_T) (hz : v = lN n) (hK : m_ok Γ tab k M (pc + 3) K) : m_ok Γ tab k M pc (x_lc n K) := by
  refine ok_step hK ?_
  intro p l e R s m args below meth c A Q d fr go cl lv st h r hX
  exact ⟨lv, .inr (.inr (.inl n)) :: st, hX, fun ad ws tys H locs ls vs ad0 cells slots _ _ hh hl hv kk => lv_ldc2 fr.1 fr.2.1 fr.2.2.2.1 (fr.2.2.2.2.1 _ hw) hd (kk ls _ hl ⟨_, _, rfl, congrArg _ hz, hv⟩)⟩
theorem ok_nul (hd : decode M.2.1 pc = .ok (.aconst_null, 1)) (hK : m_ok Γ tab k M (pc + 1) K) : m_ok Γ tab k M pc (x_nul K) := by
  refine ok_step hK ?_
  intro p l e R s m args below meth c A Q d fr go cl lv st h r hX
  exact ⟨lv, .inr (.inl none) :: st, hX, fun ad ws tys H locs ls vs ad0 cells slots _ _ hh hl hv kk => lv_null fr.1 fr.2.1 hd (kk ls _ hl ⟨_, _, rfl, rfl, hv⟩)⟩
theorem ok_str {i j : Nat} {tx : String} (hd : decode M.2.1 pc = .ok (.ldc i, 2)) (hj : m_strs[j]? = some (M.1.cls, i, tx)) (hK : m_ok Γ tab k M (pc + 2) K) : m_ok Γ tab k M pc (x_sc (j + 1) K) := by
  refine ok_step hK ?_
  intro p l e R s m args below meth c A Q d fr go cl lv st h r hX
  have hE := fr.2.2.2.2.2.2.2.2.2.1
  exact ⟨lv, .inr (.inr (.inr (j + 1))) :: st, hX, fun ad ws tys H locs ls vs ad0 cells slots _ _ hh hl hv kk => va_ldcS fr.1 fr.2.1 fr.2.2.2.1 (hE.2.1 j _ hj) hd (kk ls _ hl ⟨_, _, rfl, rfl, hv⟩)⟩
theorem ml_il {α : Type} {lv : List m_V} {i : Nat} {f : Nat → m_R} {r : Option m_V × m_H} (h : m_get lv i (fun v => Sum.rec (motive := fun _ => m_R) (fun n => f n) (fun _ => none) v) = some r) : ∃ n, lv[i]? = some (.inl n) ∧ f n = some r := by
  obtain ⟨v, h1, h2⟩ := mx_get h
  rcases v with n | v
  · exact ⟨n, h1, h2⟩
  · cases h2
theorem ok_il_n {i : Nat} {q : Fin 4} (hd : decode M.2.1 pc = .ok (.iload_n q, 1)) (hi : (q : Nat) = i) (hK : m_ok Γ tab k M (pc + 1) K) : m_ok Γ tab k M pc (x_il i K) := by
  refine ok_step hK ?_
  intro p l e R s m args below meth c A Q d fr go cl lv st h r hX
  obtain ⟨n, h1, h2⟩ := ml_il (α := Nat) hX
  refine ⟨lv, .inl n :: st, h2, fun ad ws tys H locs ls vs ad0 cells slots _ _ hh hl hv kk => ?_⟩
  obtain ⟨w, h3, h4⟩ := hl.2.2 i _ h1 (mc_i n)
  cases (show w = .int (nI n) from h4)
  exact lv_iload_n fr.1 fr.2.1 hd hi h3 (kk ls _ hl ⟨_, _, rfl, rfl, hv⟩)
theorem ok_il {i : Nat} (hd : decode M.2.1 pc = .ok (.iload i, 2)) (hK : m_ok Γ tab k M (pc + 2) K) : m_ok Γ tab k M pc (x_il i K) := by
  refine ok_step hK ?_
  intro p l e R s m args below meth c A Q d fr go cl lv st h r hX
  obtain ⟨n, h1, h2⟩ := ml_il (α := Nat) hX
  refine ⟨lv, .inl n :: st, h2, fun ad ws tys H locs ls vs ad0 cells slots _ _ hh hl hv kk => ?_⟩
  obtain ⟨w, h3, h4⟩ := hl.2.2 i _ h1 (mc_i n)
  cases (show w = .int (nI n) from h4)
  exact lv_iload fr.1 fr.2.1 hd h3 (kk ls _ hl ⟨_, _, rfl, rfl, hv⟩)
theorem ml_al {lv st : List m_V} {i : Nat} {go : m_I} {cl : m_C} {h : m_H} {r : Option m_V × m_H} (hX : x_al i K go cl lv st h = some r) : ∃ v, lv[i]? = some v ∧ m_cat v ∧ (∀ n, v ≠ .inl n) ∧ K go cl lv (v :: st) h = some r := by
  obtain ⟨v, h1, h2⟩ := mx_get hX
  rcases v with n | o | n | j
  · cases h2
  · exact ⟨_, h1, mc_o _, fun _ z => (by cases z), h2⟩
  · cases h2
  · exact ⟨_, h1, mc_s _, fun _ z => (by cases z), h2⟩
theorem mv_al {ad : List Nat} {v : m_V} {w : Value} (h : m_rv Γ ad v w) (h1 : m_cat v) (h2 : ∀ n, v ≠ .inl n) : w = .null ∨ ∃ x, w = .ref x := by
  rcases v with n | o | n | j
  · exact absurd rfl (h2 n)
  · exact mv_ref h
  · exact absurd rfl (h1 n)
  · exact Or.inr ⟨_, h⟩
theorem ok_al_n {i : Nat} {q : Fin 4} (hd : decode M.2.1 pc = .ok (.aload_n q, 1)) (hi : (q : Nat) = i) (hK : m_ok Γ tab k M (pc + 1) K) : m_ok Γ tab k M pc (x_al i K) := by
  refine ok_step hK ?_
  intro p l e R s m args below meth c A Q d fr go cl lv st h r hX
  obtain ⟨v, h1, h2, h3, h4⟩ := ml_al hX
  refine ⟨lv, v :: st, h4, fun ad ws tys H locs ls vs ad0 cells slots _ _ hh hl hv kk => ?_⟩
  obtain ⟨w, h5, h6⟩ := hl.2.2 i _ h1 h2
  rcases mv_al h6 h2 h3 with rfl | ⟨x, rfl⟩
  · exact lv_aload_nN fr.1 fr.2.1 hd hi h5 (kk ls _ hl ⟨_, _, rfl, h6, hv⟩)
  · exact lv_aload_n fr.1 fr.2.1 hd hi h5 (kk ls _ hl ⟨_, _, rfl, h6, hv⟩)
theorem ok_al {i : Nat} (hd : decode M.2.1 pc = .ok (.aload i, 2)) (hK : m_ok Γ tab k M (pc + 2) K) : m_ok Γ tab k M pc (x_al i K) := by
  refine ok_step hK ?_
  intro p l e R s m args below meth c A Q d fr go cl lv st h r hX
  obtain ⟨v, h1, h2, h3, h4⟩ := ml_al hX
  refine ⟨lv, v :: st, h4, fun ad ws tys H locs ls vs ad0 cells slots _ _ hh hl hv kk => ?_⟩
  obtain ⟨w, h5, h6⟩ := hl.2.2 i _ h1 h2
  rcases mv_al h6 h2 h3 with rfl | ⟨x, rfl⟩
  · exact lv_aloadN fr.1 fr.2.1 hd h5 (kk ls _ hl ⟨_, _, rfl, h6, hv⟩)
  · exact lv_aload fr.1 fr.2.1 hd h5 (kk ls _ hl ⟨_, _, rfl, h6, hv⟩)
theorem ok_is_n {i : Nat} {q : Fin 4} (hd : decode M.2.1 pc = .ok (.istore_n q, 1)) (hi : (q : Nat) = i) (hn : i < M.2.2.1) (hK : m_ok Γ tab k M (pc + 1) K) : m_ok Γ tab k M pc (x_is i K) := by
  refine ok_step hK ?_
  intro p l e R s m args below meth c A Q d fr go cl lv st h r hX
  obtain ⟨n, t, rfl, h2⟩ := mx_pi hX
  rw [mi_set] at h2
  refine ⟨_, t, h2, fun ad ws tys H locs ls vs ad0 cells slots _ _ hh hl hv kk => ?_⟩
  obtain ⟨w, vt, rfl, hw, hv⟩ := hv
  cases (show w = .int (nI n) from hw)
  obtain ⟨ls', e1, e2⟩ := ml_set (v := .inl n) (w := .int (nI n)) hl hn rfl (mc_i n)
  exact mr_istore_n fr.1 fr.2.1 hd hi e1 (kk ls' _ e2 hv)
theorem ok_is {i : Nat} (hd : decode M.2.1 pc = .ok (.istore i, 2)) (hn : i < M.2.2.1) (hK : m_ok Γ tab k M (pc + 2) K) : m_ok Γ tab k M pc (x_is i K) := by
  refine ok_step hK ?_
  intro p l e R s m args below meth c A Q d fr go cl lv st h r hX
  obtain ⟨n, t, rfl, h2⟩ := mx_pi hX
  rw [mi_set] at h2
  refine ⟨_, t, h2, fun ad ws tys H locs ls vs ad0 cells slots _ _ hh hl hv kk => ?_⟩
  obtain ⟨w, vt, rfl, hw, hv⟩ := hv
  cases (show w = .int (nI n) from hw)
  obtain ⟨ls', e1, e2⟩ := ml_set (v := .inl n) (w := .int (nI n)) hl hn rfl (mc_i n)
  exact mr_istore fr.1 fr.2.1 hd e1 (kk ls' _ e2 hv)
theorem ml_as {lv st : List m_V} {i : Nat} {go : m_I} {cl : m_C} {h : m_H} {r : Option m_V × m_H} (hX : x_as i K go cl lv st h = some r) : ∃ o t, st = .inr (.inl o) :: t ∧ K go cl (lv.set i (.inr (.inl o))) t h = some r := by
  obtain ⟨v, t, rfl, h2⟩ := mx_pv hX
  rcases v with n | o | z
  · cases h2
  · replace h2 : m_set lv i (.inr (.inl o)) (fun lv' => K go cl lv' t h) = some r := h2
    rw [mi_set] at h2
    exact ⟨o, t, rfl, h2⟩
  · cases h2
theorem ok_as_n {i : Nat} {q : Fin 4} (hd : decode M.2.1 pc = .ok (.astore_n q, 1)) (hi : (q : Nat) = i) (hn : i < M.2.2.1) (hK : m_ok Γ tab k M (pc + 1) K) : m_ok Γ tab k M pc (x_as i K) := by
  refine ok_step hK ?_
  intro p l e R s m args below meth c A Q d fr go cl lv st h r hX
  obtain ⟨o, t, rfl, h2⟩ := ml_as hX
  refine ⟨_, t, h2, fun ad ws tys H locs ls vs ad0 cells slots _ _ hh hl hv kk => ?_⟩
  obtain ⟨w, vt, rfl, hw, hv⟩ := hv
  obtain ⟨ls', e1, e2⟩ := ml_set hl hn hw (mc_o o)
  exact mr_astore_n fr.1 fr.2.1 (mv_ref hw) hd hi e1 (kk ls' _ e2 hv)
theorem ok_as {i : Nat} (hd : decode M.2.1 pc = .ok (.astore i, 2)) (hn : i < M.2.2.1) (hK : m_ok Γ tab k M (pc + 2) K) : m_ok Γ tab k M pc (x_as i K) := by
  refine ok_step hK ?_
  intro p l e R s m args below meth c A Q d fr go cl lv st h r hX
  obtain ⟨o, t, rfl, h2⟩ := ml_as hX
  refine ⟨_, t, h2, fun ad ws tys H locs ls vs ad0 cells slots _ _ hh hl hv kk => ?_⟩
  obtain ⟨w, vt, rfl, hw, hv⟩ := hv
  obtain ⟨ls', e1, e2⟩ := ml_set hl hn hw (mc_o o)
  exact mr_astore fr.1 fr.2.1 (mv_ref hw) hd e1 (kk ls' _ e2 hv)
theorem ok_inc {i n : Nat} {z : Int} (hd : decode M.2.1 pc = .ok (.iinc i z, 3)) (hz : Int32.ofInt z = nI n) (hn : i < M.2.2.1) (hK : m_ok Γ tab k M (pc + 3) K) : m_ok Γ tab k M pc (x_inc i n K) := by
  refine ok_step hK ?_
  intro p l e R s m args below meth c A Q d fr go cl lv st h r hX
  obtain ⟨a, h1, h2⟩ := ml_il (α := Nat) hX
  rw [mi_f, mi_set] at h2
  refine ⟨_, st, h2, fun ad ws tys H locs ls vs ad0 cells slots _ _ hh hl hv kk => ?_⟩
  obtain ⟨w, h3, h4⟩ := hl.2.2 i _ h1 (mc_i a)
  cases (show w = .int (nI a) from h4)
  obtain ⟨ls', e1, e2⟩ := ml_set (v := .inl (m_add a n)) (w := .int (nI a + Int32.ofInt z)) hl hn (by rw [hz, mn_add]; rfl) (mc_i _)
  exact mr_iinc fr.1 fr.2.1 hd h3 e1 (kk ls' _ e2 hv)
end OK1

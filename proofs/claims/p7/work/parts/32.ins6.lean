/-! INSTRUCTIONS: natives, calls -/
theorem gi {l : List Cond} (h : ∀ w ∈ l, w ∈ m_T) : GoodIn m_T l := fun w hw => ⟨h w hw, good_of_word (mt_good (h w hw))⟩
theorem gi_w {M : m_M} (h : Cond.code M.1 M.2.1 M.2.2.1 M.2.2.2 ∈ m_T) : ∀ w ∈ m_w M, w ∈ m_T := fun w hw => (List.mem_cons.mp hw).elim (fun e => e ▸ h) id
section OK6
variable {Γ : m_G} {tab : Nat → Option m_M} {k : Nat} {M : m_M} {pc : Nat} {K : m_X}
theorem ok_oi {i : Nat} (hd : decode M.2.1 pc = .ok (.invokespecial i, 3)) (h1 : Cond.methodLink M.1.cls i Lib.objectInit ∈ m_T) (h2 : Cond.instanceMethod Lib.objectInit ∈ m_T) (h3 : Cond.code Lib.objectInit ⟨#[0xb1]⟩ 1 none ∈ m_T) (hK : m_ok Γ tab k M (pc + 3) K) : m_ok Γ tab k M pc (x_oi K) := by
  refine ok_step hK ?_
  intro p l e R s m args below meth c A Q d fr go cl lv st h r hX
  obtain ⟨q, t, rfl, g1⟩ := mx_pr hX
  obtain ⟨g2, g3⟩ := mx_short g1
  refine ⟨lv, t, g3, fun ad ws tys H locs ls vs ad0 cells slots _ _ hh hl hv kk => ?_⟩
  obtain ⟨w, vt, rfl, ⟨a, ha, rfl⟩, hv⟩ := hv
  have hs := ms_sum hv
  have hR1 := fr.2.2.2.2.2.2.2.2.2.2.1
  have hR2 := fr.2.2.2.2.2.2.2.2.2.2.2.1
  exact W.objInit (g := F0 m pc ls (.ref a :: vt)) fr.1 fr.2.1 fr.2.2.2.1 (fr.2.2.2.2.1 _ h1) (fr.2.2.2.2.1 _ h2) (fr.2.2.2.2.1 _ h3) rfl (by rw [fr.2.2.1]; exact hl.1) rfl hd (by omega) (by show 2 * 0 + _ + 12 ≤ _; omega) (kk ls vt hl hv)
theorem ok_max {i : Nat} (hd : decode M.2.1 pc = .ok (.invokestatic i, 3)) (h1 : Cond.methodLink M.1.cls i Lib.Math.max.name ∈ m_T) (h2 : Cond.static Lib.Math.max.name ∈ m_T) (h3 : Cond.initialized "java/lang/Math" ∈ m_T) (h4 : Cond.code Lib.Math.max.name Lib.Math.max.code 2 (some .int) ∈ m_T) (hK : m_ok Γ tab k M (pc + 3) K) : m_ok Γ tab k M pc (x_max K) := by
  refine ok_step hK ?_
  intro p l e R s m args below meth c A Q d fr go cl lv st h r hX
  obtain ⟨b, t, rfl, g1⟩ := mx_pi hX
  obtain ⟨a, t, rfl, g2⟩ := mx_pi g1
  obtain ⟨g3, g4⟩ := mx_short g2
  have key : ∃ n, K go cl lv (.inl n :: t) h = some r ∧ nI n = if nI a < nI b then nI b else nI a := by
    rcases mx_if g4 with ⟨z, g5⟩ | ⟨z, g5⟩
    · exact ⟨b, g5, by rw [if_pos (mn_blt.mp z)]⟩
    · exact ⟨a, g5, by rw [if_neg (fun y => by rw [mn_blt.mpr y] at z; cases z)]⟩
  obtain ⟨n, k1, k2⟩ := key
  refine ⟨lv, _, k1, fun ad ws tys H locs ls vs ad0 cells slots c1 c2 hh hl hv kk => ?_⟩
  obtain ⟨w1, vt, rfl, hw1, w2, vt, rfl, hw2, hv⟩ := hv
  cases (show w1 = .int (nI b) from hw1)
  cases (show w2 = .int (nI a) from hw2)
  have hs := ms_sum hv
  have hR1 := fr.2.2.2.2.2.2.2.2.2.2.1
  have hR2 := fr.2.2.2.2.2.2.2.2.2.2.2.1
  exact va_mmax fr.1 fr.2.1 (by rw [fr.2.2.1]; exact hl.1.symm) fr.2.2.2.1 (fr.2.2.2.2.1 _ h1) (fr.2.2.2.2.1 _ h2) (fr.2.2.2.2.1 _ h3) (fr.2.2.2.2.1 _ h4) (by omega) (by omega) c1 c2 hd (kk ls _ hl ⟨_, _, rfl, congrArg _ k2.symm, hv⟩)
theorem ok_min {i : Nat} (hd : decode M.2.1 pc = .ok (.invokestatic i, 3)) (h1 : Cond.methodLink M.1.cls i Lib.Math.min.name ∈ m_T) (h2 : Cond.static Lib.Math.min.name ∈ m_T) (h3 : Cond.initialized "java/lang/Math" ∈ m_T) (h4 : Cond.code Lib.Math.min.name Lib.Math.min.code 2 (some .int) ∈ m_T) (hK : m_ok Γ tab k M (pc + 3) K) : m_ok Γ tab k M pc (x_min K) := by
  refine ok_step hK ?_
  intro p l e R s m args below meth c A Q d fr go cl lv st h r hX
  obtain ⟨b, t, rfl, g1⟩ := mx_pi hX
  obtain ⟨a, t, rfl, g2⟩ := mx_pi g1
  obtain ⟨g3, g4⟩ := mx_short g2
  have key : ∃ n, K go cl lv (.inl n :: t) h = some r ∧ nI n = if nI b < nI a then nI b else nI a := by
    rcases mx_if g4 with ⟨z, g5⟩ | ⟨z, g5⟩
    · exact ⟨b, g5, by rw [if_pos (mn_blt.mp z)]⟩
    · exact ⟨a, g5, by rw [if_neg (fun y => by rw [mn_blt.mpr y] at z; cases z)]⟩
  obtain ⟨n, k1, k2⟩ := key
  refine ⟨lv, _, k1, fun ad ws tys H locs ls vs ad0 cells slots c1 c2 hh hl hv kk => ?_⟩
  obtain ⟨w1, vt, rfl, hw1, w2, vt, rfl, hw2, hv⟩ := hv
  cases (show w1 = .int (nI b) from hw1)
  cases (show w2 = .int (nI a) from hw2)
  have hs := ms_sum hv
  have hR1 := fr.2.2.2.2.2.2.2.2.2.2.1
  have hR2 := fr.2.2.2.2.2.2.2.2.2.2.2.1
  exact va_mmin fr.1 fr.2.1 (by rw [fr.2.2.1]; exact hl.1.symm) fr.2.2.2.1 (fr.2.2.2.2.1 _ h1) (fr.2.2.2.2.1 _ h2) (fr.2.2.2.2.1 _ h3) (fr.2.2.2.2.1 _ h4) (by omega) (by omega) c1 c2 hd (kk ls _ hl ⟨_, _, rfl, congrArg _ k2.symm, hv⟩)
/-- a copy, place by place, the last first -/
theorem mc_loop {A0 sp dp : Nat} {kc : Nat → m_R} {r : Option m_V × m_H} : ∀ (n A1 : Nat), (Nat.rec (motive := fun _ => Nat → m_R) (fun B => kc B) (fun j ih B => m_f (m_au B (Nat.add dp j) (m_ag A0 (Nat.add sp j))) ih) n A1 : m_R) = some r → ∃ A', kc A' = some r ∧ ∀ j, m_ag A' j = if dp ≤ j ∧ j < dp + n then m_ag A0 (sp + (j - dp)) else m_ag A1 j := by
  intro n
  induction n with
  | zero => intro A1 h; exact ⟨A1, h, fun j => by rw [if_neg (by omega)]⟩
  | succ n ih =>
    intro A1 h
    replace h : m_f (m_au A1 (Nat.add dp n) (m_ag A0 (Nat.add sp n))) (Nat.rec (motive := fun _ => Nat → m_R) (fun B => kc B) (fun j ih B => m_f (m_au B (Nat.add dp j) (m_ag A0 (Nat.add sp j))) ih) n) = some r := h
    rw [mi_f] at h
    obtain ⟨A', h1, h2⟩ := ih _ h
    refine ⟨A', h1, fun j => ?_⟩
    rw [h2 j]
    by_cases h3 : dp ≤ j ∧ j < dp + n
    · rw [if_pos h3, if_pos (by omega)]
    · rw [if_neg h3, ma_u]
      by_cases h4 : j = dp + n
      · rw [if_pos (show j = Nat.add dp n from h4), if_pos (by omega), Nat.mod_eq_of_lt (ma_lt _ _)]
        show m_ag A0 (sp + n) = _
        rw [h4, Nat.add_sub_cancel_left]
      · rw [if_neg (show ¬ j = Nat.add dp n from h4), if_neg (by omega)]
theorem ok_copy {i : Nat} (hd : decode M.2.1 pc = .ok (.invokestatic i, 3)) (h1 : Cond.methodLink M.1.cls i arraycopyName ∈ m_T) (h2 : Cond.native arraycopyName ∈ m_T) (h3 : Cond.static arraycopyName ∈ m_T) (h4 : Cond.initialized "java/lang/System" ∈ m_T) (hK : m_ok Γ tab k M (pc + 3) K) : m_ok Γ tab k M pc (x_copy K) := by
  refine ok_gen hK ?_
  intro p l e R s m args below meth c A Q d fr go cl hck lv st h r hX
  obtain ⟨n, t, rfl, g1⟩ := mx_pi hX
  obtain ⟨dp, t, rfl, g2⟩ := mx_pi g1
  obtain ⟨q1, t, rfl, g3⟩ := mx_pr g2
  obtain ⟨sp, t, rfl, g4⟩ := mx_pi g3
  obtain ⟨q0, t, rfl, g5⟩ := mx_pr g4
  obtain ⟨g6, g7⟩ := mx_short g5
  rw [mi_hp] at g7
  obtain ⟨e0, g8, g9⟩ := mx_hg g7
  obtain ⟨z0, n0, A0, rfl, g10⟩ := mx_arr g9
  obtain ⟨e1, g11, g12⟩ := mx_hg g10
  obtain ⟨z1, n1, A1, rfl, g13⟩ := mx_arr g12
  obtain ⟨g14, g15⟩ := mx_iff g13
  have hz : z0 = false ∧ z1 = false := by cases z0 <;> cases z1 <;> first | exact ⟨rfl, rfl⟩ | cases g14
  obtain ⟨rfl, rfl⟩ := hz
  obtain ⟨g16, g17⟩ := mx_ift g15
  obtain ⟨g18, g19⟩ := mx_ift g17
  have l0 : sp + n ≤ n0 := Nat.le_of_ble_eq_true g16
  have l1 : dp + n ≤ n1 := Nat.le_of_ble_eq_true g18
  obtain ⟨A', g20, g21⟩ := mc_loop (A0 := A0) (sp := sp) (dp := dp) (kc := fun B => m_hs h.2.2 q1 (.inl (false, n1, B)) (fun hl' => K go cl lv t (h.1, h.2.1, hl'))) n A1 g19
  obtain ⟨l', g22, g23, g24, g25⟩ := mx_hs g20 g11
  refine ⟨lv, t, _, g22, Nat.le_refl _, Nat.le_refl _, fun ad ws tys H locs ls vs ad0 cells slots hh hl hv hc1 hc2 kk => ?_⟩
  obtain ⟨w1, vt, rfl, hw1, w2, vt, rfl, hw2, w3, vt, rfl, ⟨a1, ha1, rfl⟩, w4, vt, rfl, hw4, w5, vt, rfl, ⟨a0, ha0, rfl⟩, hv⟩ := hv
  cases (show w1 = .int (nI n) from hw1)
  cases (show w2 = .int (nI dp) from hw2)
  cases (show w4 = .int (nI sp) from hw4)
  obtain ⟨b0, c0, t0, i1, i2, i3, i4⟩ := hh_arr hh g8
  cases ha0.symm.trans i1
  obtain ⟨b1, c1, t1, j1, j2, j3, j4⟩ := hh_arr hh g11
  cases ha1.symm.trans j1
  have hs := ms_sum hv
  have hR1 := fr.2.2.2.2.2.2.2.2.2.2.1
  have hR2 := fr.2.2.2.2.2.2.2.2.2.2.2.1
  have hq := mw_lt hh.2.1.2.2.1 g11
  have cn : (nI n).toNatClampNeg = n := nI_clamp (by omega)
  have cs : (nI sp).toNatClampNeg = sp := nI_clamp (by omega)
  have cd : (nI dp).toNatClampNeg = dp := nI_clamp (by omega)
  have hw7 : nativeFrameWords "java/lang/System" "arraycopy" 5 = 7 := by decide +kernel
  refine va_copyi (ty := .int) fr.1 fr.2.1 (by rw [fr.2.2.1]; exact hl.1.symm) fr.2.2.2.1 (fr.2.2.2.2.1 _ h1) (fr.2.2.2.2.1 _ h2) (fr.2.2.2.2.1 _ h3) (fr.2.2.2.2.1 _ h4) hh.2.2.2.1 hh.2.2.1 hh.2.2.2.2.1 hh.2.2.2.2.2 q0 q1 t0 t1 i2 j2 i3 j3 rfl (nI_pos (by omega)) (nI_pos (by omega)) (nI_pos (by omega)) (by rw [cn, cs]; exact l0) (by rw [cn, cd]; exact l1) (fun _ _ => rfl) (by omega) (by rw [hw7]; omega) hd (fun H1 locs1 hP1 hD1 hS1 => ?_)
  have hf : va_cpy (fun j => nI (m_ag A0 j)) (fun j => nI (m_ag A1 j)) sp dp n = fun j => nI (m_ag A' j) := by
    funext j
    rw [g21 j]
    unfold va_cpy
    split <;> rfl
  rw [cn, cs, cd, hf] at hP1 hD1
  have := kk ad _ tys H1 locs1 ls vt (hh_set (w0 := .inl (c1, n1, .inl (fun j => nI (m_ag A1 j)))) hh hq ha1 g23 g24 g25 ⟨c1, t1, rfl, j3, j4⟩ hP1 hD1 hS1) hl hv
  simpa using this
/-- behind a call -/
theorem call_on {p : Program} {l : Launch} {e : Env} {R : Room} {s : State} {m : MethodId} {args : Array Value} {below : List Frame} {meth : Method} {c : Code} {A : Nat → Prop} {Q : State → Prop} {ad0 ad : List Nat} {ws : va_W} {tys : List (ClassId × FieldType)} {H : Heap} {locs : List Loc} {h h1 : m_H} {v : Option m_V} {cells slots mc ms : Nat} {ls : Array Slot} {st0 rest : List Value} {a : Array Value} (hA : ∀ q : Nat, s.heap.size ≤ q → A q) (hh : m_hh Γ s A ad0 h ad ws tys H locs)
    (hr : va_Run p l e R s m args below meth c H locs cells slots mc ms (F0 m pc ls st0) rest (m_Qc Γ ad ws H.size v h1 a) (va_A ws H.size))
    (kk : ∀ (ad2 : List Nat) (ws2 : va_W) (tys2 : List (ClassId × FieldType)) (H2 : Heap) (locs2 : List Loc) (w : Option Value), m_hh Γ s A ad0 h1 ad2 ws2 tys2 H2 locs2 → m_pre ad ad2 → m_ro Γ ad2 v w → W p l e R s m args below meth c H2 locs2 (cells + mc) (slots + ms) Q (F0 m (pc + 3) ls (w.toList ++ rest))) : W p l e R s m args below meth c H locs cells slots Q (F0 m pc ls st0) := by
  intro T hT X
  obtain ⟨w, st₀, t, T', L, k0, X', hL, e1, e2, ⟨⟨w2, ad2, ws2, tys2, hw, hro, hpre, hrh, hP2, hK2, hD2⟩, hF⟩, st⟩ := hr T hT X
  cases hw
  obtain ⟨b1, -, b3, b4, b5, b6⟩ := hh
  have hAB : ∀ q, va_A ws H.size q → A q := by
    intro q hq
    rcases hq with ⟨i, x, hx⟩ | hq
    · exact b5.2 i _ hx
    · exact hA q (Nat.le_trans b6.1 hq)
  have hF' : H.size ≤ T'.heap.size ∧ ∀ q : Nat, q < H.size → ¬ va_A ws H.size q → T'.heap[q]? = H[q]? := by
    rw [e1]
    obtain ⟨f1, f2⟩ := hF
    rw [k0] at f1 f2
    exact ⟨f1, f2⟩
  have hal : t.vm.Alike s.vm := by rw [← e2]; exact X'.warmed.alike.symm
  obtain ⟨t2, a1, b2⟩ := kk ad2 ws2 tys2 T'.heap (locs ++ L) w ⟨mp_tr b1 hpre, hrh, by rw [e1]; exact hP2, va_K.moved hal hK2, hD2.weaken (fun _ q _ hq => hAB q.1 hq),
    ⟨Nat.le_trans b6.1 hF'.1, fun q x1 x2 => (hF'.2 q (Nat.lt_of_lt_of_le x1 b6.1) (fun z => x2 (hAB q z))).trans (b6.2.1 q x1 x2), fun q hq => by
      rcases List.mem_append.mp hq with hq | hq
      · exact b6.2.2 q hq
      · exact hAB _ (hL q hq)⟩⟩ hpre hro T' rfl X'
  exact ⟨t2, st t2 a1, b2⟩
theorem call_pre {p : Program} {l : Launch} {e : Env} {R : Room} {s : State} {m : MethodId} {args : Array Value} {meth : Method} {c : Code} {A : Nat → Prop} {d : Nat} {ad0 ad : List Nat} {ws : va_W} {tys : List (ClassId × FieldType)} {H : Heap} {locs : List Loc} {h : m_H} (fr : m_fr Γ M p l e R s m args meth c A d) (hh : m_hh Γ s A ad0 h ad ws tys H locs) (vs : List Value) : PreS s H (va_Pc vs (fun U => U.heap.size = H.size ∧ va_P Γ.1 vwCl ws U.heap ∧ va_K Γ.1 vwCl tys U ∧ va_D (fun _ => True) ws ∧ m_Ev Γ (va_A ws H.size) U)) vs := by
  refine ⟨fun a U g mk q => ?_, fun U hU hW => ⟨rfl, by rw [hU], by rw [hU]; exact hh.2.2.1, va_K.moved hW.alike hh.2.2.2.1, hh.2.2.2.2.1.weaken (fun _ _ _ _ => trivial), (fr.2.2.2.2.2.2.2.2.2.1).call hh.2.2.2.2.2 hU hW (fun q hq => ?_)⟩⟩
  · obtain ⟨q0, q1, qP, qK, qD, qE⟩ := q
    exact ⟨q0, q1, qP, va_K.moved (u := U) (U := U.calling g mk a) (Vm.Alike.refl U.vm) qK, qD, m_Ev.same (u := U) (U := U.calling g mk a) rfl rfl qE⟩
  · rcases hq with ⟨i, x, hx⟩ | hq
    · exact hh.2.2.2.2.1.2 i _ hx
    · exact fr.2.2.2.2.2.2.2.2.1 q (Nat.le_trans hh.2.2.2.2.2.1 hq)
/-- how a call of M2 with n arguments gets under way, from any plain stack -/
def m_go (Γ : m_G) (M : m_M) (pc : Nat) (M2 : m_M) (n : Nat) (Rc : m_H → List m_V → Prop) : Prop :=
  ∀ (p : Program) (l : Launch) (e : Env) (R : Room) (s : State) (m : MethodId) (args : Array Value) (below : List Frame) (meth : Method) (c : Code) (A : Nat → Prop) (d : Nat), m_fr Γ M p l e R s m args meth c A (d + 1) →
  ∀ (as : List m_V) (h h1 : m_H) (v : Option m_V), as.length = n → Rc h as → m_ct Γ l d M2 as h v h1 →
  ∀ (ad0 ad : List Nat) (ws : va_W) (tys : List (ClassId × FieldType)) (H : Heap) (locs : List Loc) (ls : Array Slot) (vs rest : List Value) (cells slots : Nat), m_hh Γ s A ad0 h ad ws tys H locs → ls.size = M.2.2.1 → m_rs Γ ad as vs → (rest.map fun v => v.category).sum ≤ 8 → cells + (h1.1 - h.1) ≤ R.cells → slots + (h1.2.1 - h.2.1) ≤ R.slots →
    va_Run p l e R s m args below meth c H locs cells slots (h1.1 - h.1) (h1.2.1 - h.2.1) (F0 m pc ls (vs.reverse ++ rest)) rest (m_Qc Γ ad ws H.size v h1 vs.toArray) (va_A ws H.size)
theorem ok_call {k2 n : Nat} {M2 : m_M} {pads : List m_V} {Rc : m_H → List m_V → Prop} {X : m_X} (ht : tab k2 = some M2) (hk0 : k2 ≠ 0) (hn : n ≤ M2.2.2.1) (hp : pads = m_un (M2.2.2.1 - n)) (hgo : m_go Γ M pc M2 n Rc) (hK : m_ok Γ tab k M (pc + 3) K)
    (hX0 : ∀ (go : m_I) (cl : m_C) (lv st : List m_V) (h : m_H) (r : Option m_V × m_H), X go cl lv st h = some r → ∃ as t v h1, st = as.reverse ++ t ∧ as.length = n ∧ (∀ x ∈ as, m_cat x) ∧ t.length ≤ 4 ∧ Rc h as ∧ cl (4096 * k2) (as ++ pads) h = some (v, h1) ∧ h.1 ≤ h1.1 ∧ h.2.1 ≤ h1.2.1 ∧ ∃ st2, (v = none ∧ st2 = t ∨ ∃ x, v = some x ∧ st2 = x :: t) ∧ K go cl lv st2 h1 = some r) : m_ok Γ tab k M pc X := by
  refine ok_gen hK ?_
  intro p l e R s m args below meth c A Q d fr go cl hck lv st h r hX
  obtain ⟨as, t, v, h1, rfl, h2, h3, h4, h5, h6, i1, i2, st2, h7, h8⟩ := hX0 go cl lv st h r hX
  subst hp
  obtain ⟨d', rfl, i3⟩ := hck k2 M2 as h h1 v hk0 ht (by omega) h3 (by rw [h2]; exact h6)
  refine ⟨lv, st2, h1, h8, i1, i2, fun ad ws tys H locs ls vs ad0 cells slots hh hl hv hc1 hc2 kk => ?_⟩
  obtain ⟨x, y, rfl, j1, j2⟩ := ms_app hv
  have j3 := ms_rev j1
  rw [List.reverse_reverse] at j3
  have hr := hgo p l e R s m args below meth c A d' fr as h h1 v h2 h5 i3 ad0 ad ws tys H locs ls x.reverse y cells slots hh hl.1 j3 (Nat.le_trans (ms_sum j2) (by omega)) hc1 hc2
  rw [List.reverse_reverse] at hr
  refine call_on fr.2.2.2.2.2.2.2.2.1 hh hr (fun ad2 ws2 tys2 H2 locs2 w k1 k2 k3 => kk ad2 ws2 tys2 H2 locs2 ls _ k1 (ml_mono k2 hl) ?_)
  rcases h7 with ⟨rfl, rfl⟩ | ⟨x2, rfl, rfl⟩
  · rw [show w = none from k3]
    exact ms_mono k2 j2
  · obtain ⟨w2, rfl, k4⟩ := k3
    exact ⟨w2, y, rfl, k4, ms_mono k2 j2⟩
theorem ml_ca {key n : Nat} {pads : List m_V} {go : m_I} {cl : m_C} {lv st : List m_V} {h : m_H} {r : Option m_V × m_H} (hX : x_ca key n pads K go cl lv st h = some r) : ∃ as t v h1, st = as.reverse ++ t ∧ as.length = n ∧ (∀ x ∈ as, m_cat x) ∧ t.length ≤ 4 ∧ cl key (as ++ pads) h = some (v, h1) ∧ h.1 ≤ h1.1 ∧ h.2.1 ≤ h1.2.1 ∧ ∃ st2, (v = none ∧ st2 = t ∨ ∃ x, v = some x ∧ st2 = x :: t) ∧ K go cl lv st2 h1 = some r := by
  obtain ⟨as, t, h1, h2, h3, h4⟩ := mx_take n hX
  obtain ⟨h5, h6⟩ := mx_short h4
  obtain ⟨v, h7, h8, h9⟩ := mx_ans h6
  obtain ⟨m1, h9⟩ := mx_ift h9
  obtain ⟨m2, h9⟩ := mx_ift h9
  replace m1 := Nat.le_of_ble_eq_true m1
  replace m2 := Nat.le_of_ble_eq_true m2
  cases v with
  | none => cases h9
  | some x => exact ⟨as, t, some x, h7, h1, h2, h3, h5, h8, m1, m2, x :: t, Or.inr ⟨x, rfl, rfl⟩, h9⟩
theorem ml_cv {key n : Nat} {pads : List m_V} {go : m_I} {cl : m_C} {lv st : List m_V} {h : m_H} {r : Option m_V × m_H} (hX : x_cv key n pads K go cl lv st h = some r) : ∃ as t v h1, st = as.reverse ++ t ∧ as.length = n ∧ (∀ x ∈ as, m_cat x) ∧ t.length ≤ 4 ∧ cl key (as ++ pads) h = some (v, h1) ∧ h.1 ≤ h1.1 ∧ h.2.1 ≤ h1.2.1 ∧ ∃ st2, (v = none ∧ st2 = t ∨ ∃ x, v = some x ∧ st2 = x :: t) ∧ K go cl lv st2 h1 = some r := by
  obtain ⟨as, t, h1, h2, h3, h4⟩ := mx_take n hX
  obtain ⟨h5, h6⟩ := mx_short h4
  obtain ⟨v, h7, h8, h9⟩ := mx_ans h6
  obtain ⟨m1, h9⟩ := mx_ift h9
  obtain ⟨m2, h9⟩ := mx_ift h9
  replace m1 := Nat.le_of_ble_eq_true m1
  replace m2 := Nat.le_of_ble_eq_true m2
  cases v with
  | none => exact ⟨as, t, none, h7, h1, h2, h3, h5, h8, m1, m2, t, Or.inl ⟨rfl, rfl⟩, h9⟩
  | some x => cases h9
/-- the receiver is an object of class ci, or any object -/
def m_rc (ci : Nat) (h : m_H) (as : List m_V) : Prop := ∃ q fs t, as = .inr (.inl (some q)) :: t ∧ m_at h.2.2 q = some (.inr (.inr (ci, fs)))
def m_rn (_ : m_H) (_ : List m_V) : Prop := True
def m_ro1 (_ : m_H) (as : List m_V) : Prop := ∃ q t, as = .inr (.inl (some q)) :: t
theorem ml_rcv {j n : Nat} {X : m_X} {go : m_I} {cl : m_C} {lv st : List m_V} {h : m_H} {r : Option m_V × m_H} (hj : n = j + 1) (hX : x_rcv j X go cl lv st h = some r) : X go cl lv st h = some r ∧ ∀ as t, st = as.reverse ++ t → as.length = n → m_ro1 h as := by
  obtain ⟨v, h1, h2⟩ := mx_get hX
  obtain ⟨q, t0, h3, h4⟩ := mx_pr h2
  cases h3
  refine ⟨h4, fun as t hs hl => ?_⟩
  cases as with
  | nil => simp at hl; omega
  | cons a as =>
    have hla : as.length = j := by simp at hl; omega
    rw [hs] at h1
    simp only [List.reverse_cons, List.append_assoc] at h1
    rw [List.getElem?_append_right (by simp [hla])] at h1
    simp [hla] at h1
    subst h1
    exact ⟨q, as, rfl⟩
theorem ml_this {j ci n : Nat} {X : m_X} {go : m_I} {cl : m_C} {lv st : List m_V} {h : m_H} {r : Option m_V × m_H} (hj : n = j + 1) (hX : x_this j ci X go cl lv st h = some r) : X go cl lv st h = some r ∧ ∀ as t, st = as.reverse ++ t → as.length = n → m_rc ci h as := by
  obtain ⟨v, h1, h2⟩ := mx_get hX
  obtain ⟨q, t0, h3, h4⟩ := mx_pr h2
  cases h3
  obtain ⟨e, h5, h6⟩ := mx_hg h4
  obtain ⟨c, fs, rfl, h7⟩ := mx_obj h6
  obtain ⟨h8, h9⟩ := mx_ift h7
  cases Nat.eq_of_beq_eq_true h8
  refine ⟨h9, fun as t hs hl => ?_⟩
  cases as with
  | nil => simp at hl; omega
  | cons a as =>
    have hla : as.length = j := by simp at hl; omega
    rw [hs] at h1
    simp only [List.reverse_cons, List.append_assoc] at h1
    rw [List.getElem?_append_right (by simp [hla])] at h1
    simp [hla] at h1
    subst h1
    exact ⟨q, fs, as, rfl, h5⟩
theorem ok_cat {k2 n key : Nat} {M2 : m_M} {pads : List m_V} (hkey : key = 4096 * k2) (ht : tab k2 = some M2) (hk0 : k2 ≠ 0) (hn : n ≤ M2.2.2.1) (hp : pads = m_un (M2.2.2.1 - n)) (hgo : m_go Γ M pc M2 n m_rn) (hK : m_ok Γ tab k M (pc + 3) K) : m_ok Γ tab k M pc (x_ca key n pads K) := ok_call ht hk0 hn hp hgo hK (fun go cl lv st h r hX => by
  obtain ⟨as, t, v, h1, a1, a2, a3, a4, a5, a6⟩ := ml_ca hX
  exact ⟨as, t, v, h1, a1, a2, a3, a4, trivial, hkey ▸ a5, a6⟩)
theorem ok_cvt {k2 n key : Nat} {M2 : m_M} {pads : List m_V} (hkey : key = 4096 * k2) (ht : tab k2 = some M2) (hk0 : k2 ≠ 0) (hn : n ≤ M2.2.2.1) (hp : pads = m_un (M2.2.2.1 - n)) (hgo : m_go Γ M pc M2 n m_rn) (hK : m_ok Γ tab k M (pc + 3) K) : m_ok Γ tab k M pc (x_cv key n pads K) := ok_call ht hk0 hn hp hgo hK (fun go cl lv st h r hX => by
  obtain ⟨as, t, v, h1, a1, a2, a3, a4, a5, a6⟩ := ml_cv hX
  exact ⟨as, t, v, h1, a1, a2, a3, a4, trivial, hkey ▸ a5, a6⟩)
theorem ok_cai {k2 n key j ci : Nat} {M2 : m_M} {pads : List m_V} (hkey : key = 4096 * k2) (hj : n = j + 1) (ht : tab k2 = some M2) (hk0 : k2 ≠ 0) (hn : n ≤ M2.2.2.1) (hp : pads = m_un (M2.2.2.1 - n)) (hgo : m_go Γ M pc M2 n (m_rc ci)) (hK : m_ok Γ tab k M (pc + 3) K) : m_ok Γ tab k M pc (x_this j ci (x_ca key n pads K)) := ok_call ht hk0 hn hp hgo hK (fun go cl lv st h r hX => by
  obtain ⟨hX, hr⟩ := ml_this hj hX
  obtain ⟨as, t, v, h1, a1, a2, a3, a4, a5, a6⟩ := ml_ca hX
  exact ⟨as, t, v, h1, a1, a2, a3, a4, hr as t a1 a2, hkey ▸ a5, a6⟩)
theorem ok_cvr {k2 n key j : Nat} {M2 : m_M} {pads : List m_V} (hkey : key = 4096 * k2) (hj : n = j + 1) (ht : tab k2 = some M2) (hk0 : k2 ≠ 0) (hn : n ≤ M2.2.2.1) (hp : pads = m_un (M2.2.2.1 - n)) (hgo : m_go Γ M pc M2 n m_ro1) (hK : m_ok Γ tab k M (pc + 3) K) : m_ok Γ tab k M pc (x_rcv j (x_cv key n pads K)) := ok_call ht hk0 hn hp hgo hK (fun go cl lv st h r hX => by
  obtain ⟨hX, hr⟩ := ml_rcv hj hX
  obtain ⟨as, t, v, h1, a1, a2, a3, a4, a5, a6⟩ := ml_cv hX
  exact ⟨as, t, v, h1, a1, a2, a3, a4, hr as t a1 a2, hkey ▸ a5, a6⟩)
theorem ok_cvi {k2 n key j ci : Nat} {M2 : m_M} {pads : List m_V} (hkey : key = 4096 * k2) (hj : n = j + 1) (ht : tab k2 = some M2) (hk0 : k2 ≠ 0) (hn : n ≤ M2.2.2.1) (hp : pads = m_un (M2.2.2.1 - n)) (hgo : m_go Γ M pc M2 n (m_rc ci)) (hK : m_ok Γ tab k M (pc + 3) K) : m_ok Γ tab k M pc (x_this j ci (x_cv key n pads K)) := ok_call ht hk0 hn hp hgo hK (fun go cl lv st h r hX => by
  obtain ⟨hX, hr⟩ := ml_this hj hX
  obtain ⟨as, t, v, h1, a1, a2, a3, a4, a5, a6⟩ := ml_cv hX
  exact ⟨as, t, v, h1, a1, a2, a3, a4, hr as t a1 a2, hkey ▸ a5, a6⟩)
def m_nn (M2 : m_M) (n : Nat) : Prop := M2.1.cls ≠ "java/lang/invoke/MethodHandle" ∧ M2.1.cls ≠ "java/lang/invoke/VarHandle" ∧ (parseMethodDescriptor M2.1.desc).map (fun d => d.parameters.length) = some n
theorem gi_app {a b : List Cond} (ha : GoodIn m_T a) (hb : GoodIn m_T b) : GoodIn m_T (a ++ b) := fun w h => (List.mem_append.mp h).elim (ha w) (hb w)
theorem gi_4 {a b c d : Cond} (h1 : a ∈ m_T) (h2 : b ∈ m_T) (h3 : c ∈ m_T) (h4 : d ∈ m_T) : GoodIn m_T [a, b, c, d] := gi (fun w hw => by
  simp only [List.mem_cons, List.not_mem_nil, or_false] at hw
  rcases hw with rfl | rfl | rfl | rfl <;> assumption)
theorem gi_3 {a b c : Cond} (h1 : a ∈ m_T) (h2 : b ∈ m_T) (h3 : c ∈ m_T) : GoodIn m_T [a, b, c] := gi (fun w hw => by
  simp only [List.mem_cons, List.not_mem_nil, or_false] at hw
  rcases hw with rfl | rfl | rfl <;> assumption)
set_option maxRecDepth 20000 in
theorem go_V {M2 : m_M} {n i ci : Nat} {q : vw_C} (hd : decode M.2.1 pc = .ok (.invokevirtual i, 3)) (h1 : Cond.methodLink M.1.cls i M2.1 ∈ m_T) (h2 : Cond.instanceMethod M2.1 ∈ m_T) (h3 : Cond.selects M2.1.cls M2.1 M2.1 ∈ m_T) (h4 : Cond.initialized M2.1.cls ∈ m_T) (h5 : Cond.code M2.1 M2.2.1 M2.2.2.1 M2.2.2.2 ∈ m_T) (hnn : m_nn M2 n) (hml : M2.2.2.1 ≤ 21) (hc : vwCl[ci]? = some q) (hcq : q.1 = M2.1.cls) : m_go Γ M pc M2 (n + 1) (m_rc ci) := by
  intro p l e R s m args below meth c A d fr as h h1' v hlen hrc hct ad0 ad ws tys H locs ls vs rest cells slots hh hls hv hsum hc1 hc2
  obtain ⟨q0, fs, t, rfl, hat⟩ := hrc
  obtain ⟨w, vt, rfl, ⟨a, ha, rfl⟩, hv2⟩ := hv
  obtain ⟨a2, gs, g1, g2, g3⟩ := hh_obj hh hat
  cases ha.symm.trans g1
  have hl2 := ms_len hv2
  simp at hlen
  have hR1 := fr.2.2.2.2.2.2.2.2.2.2.1
  have hR2 := fr.2.2.2.2.2.2.2.2.2.2.2.1
  have hpre := call_pre fr hh (.ref a :: vt)
  have hM := hct ad ws tys H.size (.ref a :: vt) ⟨_, _, rfl, ⟨a, ha, rfl⟩, hv2⟩ hh.2.1
  exact va_runV (g := F0 m pc ls ((.ref a :: vt).reverse ++ rest)) (As := vt) (rest := rest) (C := M2.1.cls) ⟨fr.1, fr.2.1, fr.2.2.1, fr.2.2.2.1, fr.2.2.2.2.1⟩ hM (cwV n fr.2.2.2.2.1 (gi_app (gi_4 h1 h2 h3 h4) (gi (gi_w h5))) rfl rfl rfl ⟨rfl, hnn.1, hnn.2.1, hnn.2.2⟩ ⟨by show d + 7 + 1 ≤ _; omega, by show 8 + (M2.2.2.1 + 11) + 40 * (d + 7) ≤ _; omega⟩) ⟨hpre.1, by rw [← hcq]; exact va_recv hh.2.2.2.1 hh.2.2.1 hc g2, hpre.2⟩ rfl (by rw [hl2]; exact hlen) hls (by simp) (lv_room hsum) hd ⟨hc1, hc2⟩
set_option maxRecDepth 20000 in
theorem go_S {M2 : m_M} {n i : Nat} (hd : decode M.2.1 pc = .ok (.invokestatic i, 3)) (h1 : Cond.methodLink M.1.cls i M2.1 ∈ m_T) (h2 : Cond.static M2.1 ∈ m_T) (h4 : Cond.initialized M2.1.cls ∈ m_T) (h5 : Cond.code M2.1 M2.2.1 M2.2.2.1 M2.2.2.2 ∈ m_T) (hnn : m_nn M2 n) (hml : M2.2.2.1 ≤ 21) : m_go Γ M pc M2 n m_rn := by
  intro p l e R s m args below meth c A d fr as h h1' v hlen hrc hct ad0 ad ws tys H locs ls vs rest cells slots hh hls hv hsum hc1 hc2
  have hl2 := ms_len hv
  have hR1 := fr.2.2.2.2.2.2.2.2.2.2.1
  have hR2 := fr.2.2.2.2.2.2.2.2.2.2.2.1
  have hM := hct ad ws tys H.size vs hv hh.2.1
  exact va_runS (g := F0 m pc ls (vs.reverse ++ rest)) (As := vs) (rest := rest) ⟨fr.1, fr.2.1, fr.2.2.1, fr.2.2.2.1, fr.2.2.2.2.1⟩ hM (va_cwS n fr.2.2.2.2.1 (gi_app (gi_3 h1 h2 h4) (gi (gi_w h5))) rfl rfl rfl hnn ⟨by show d + 7 + 1 ≤ _; omega, by show 8 + (M2.2.2.1 + 11) + 40 * (d + 7) ≤ _; omega⟩) (call_pre fr hh vs) rfl (by rw [hl2]; exact hlen) hls rfl (lv_room hsum) hd ⟨hc1, hc2⟩
set_option maxRecDepth 20000 in
theorem go_SN {M2 : m_M} {n i : Nat} {host : String} (hd : decode M.2.1 pc = .ok (.invokestatic i, 3)) (h1 : (M.1.cls, i, M2.1, host) ∈ m_nestM) (h2 : Cond.static M2.1 ∈ m_T) (h4 : Cond.initialized M2.1.cls ∈ m_T) (h5 : Cond.code M2.1 M2.2.1 M2.2.2.1 M2.2.2.2 ∈ m_T) (hnn : m_nn M2 n) (hml : M2.2.2.1 ≤ 21) : m_go Γ M pc M2 n m_rn := by
  intro p l e R s m args below meth c A d fr as h h1' v hlen hrc hct ad0 ad ws tys H locs ls vs rest cells slots hh hls hv hsum hc1 hc2
  have hl2 := ms_len hv
  have hR1 := fr.2.2.2.2.2.2.2.2.2.2.1
  have hR2 := fr.2.2.2.2.2.2.2.2.2.2.2.1
  have hM := hct ad ws tys H.size vs hv hh.2.1
  have hE := fr.2.2.2.2.2.2.2.2.2.1
  exact va_runSN (g := F0 m pc ls (vs.reverse ++ rest)) (As := vs) (rest := rest) ⟨fr.1, fr.2.1, fr.2.2.1, fr.2.2.2.1, fr.2.2.2.2.1⟩ hM ⟨va_cnB (host := host) n fr.2.2.2.2.1 (gi (gi_w h5)) rfl rfl rfl (hE.2.2.2.2.2.1 _ h1) (fr.2.2.2.2.1 _ h4) hnn ⟨by show d + 7 + 1 ≤ _; omega, by show 8 + (M2.2.2.1 + 11) + 40 * (d + 7) ≤ _; omega⟩, fr.2.2.2.2.1 _ h2, trivial⟩ (call_pre fr hh vs) rfl (by rw [hl2]; exact hlen) hls rfl (lv_room hsum) hd ⟨hc1, hc2⟩
set_option maxRecDepth 20000 in
theorem go_I {M2 : m_M} {n i : Nat} (hd : decode M.2.1 pc = .ok (.invokespecial i, 3)) (h1 : Cond.methodLink M.1.cls i M2.1 ∈ m_T) (h2 : Cond.instanceMethod M2.1 ∈ m_T) (h4 : Cond.initialized M2.1.cls ∈ m_T) (h5 : Cond.code M2.1 M2.2.1 M2.2.2.1 M2.2.2.2 ∈ m_T) (hnm : M2.1.name = "<init>") (hrt : M2.2.2.2 = none) (hnn : m_nn M2 n) (hml : M2.2.2.1 ≤ 21) : m_go Γ M pc M2 (n + 1) m_ro1 := by
  intro p l e R s m args below meth c A d fr as h h1' v hlen hrc hct ad0 ad ws tys H locs ls vs rest cells slots hh hls hv hsum hc1 hc2
  obtain ⟨q0, t, rfl⟩ := hrc
  obtain ⟨w, vt, rfl, ⟨a, ha, rfl⟩, hv2⟩ := hv
  have hl2 := ms_len hv2
  simp at hlen
  have hR1 := fr.2.2.2.2.2.2.2.2.2.2.1
  have hR2 := fr.2.2.2.2.2.2.2.2.2.2.2.1
  have hM := hct ad ws tys H.size (.ref a :: vt) ⟨_, _, rfl, ⟨a, ha, rfl⟩, hv2⟩ hh.2.1
  have hw : m_w M2 = Cond.code M2.1 M2.2.1 M2.2.2.1 none :: m_T := by unfold m_w; rw [hrt]
  exact va_runI (g := F0 m pc ls ((.ref a :: vt).reverse ++ rest)) (As := vt) (rest := rest) ⟨fr.1, fr.2.1, fr.2.2.1, fr.2.2.2.1, fr.2.2.2.2.1⟩ hM (cwI n fr.2.2.2.2.1 (gi (gi_w h5)) hw rfl rfl (fr.2.2.2.2.1 _ h4) (fr.2.2.2.2.1 _ h1) (fr.2.2.2.2.1 _ h2) hnm hnn ⟨by show d + 7 + 1 ≤ _; omega, by show 8 + (M2.2.2.1 + 11) + 40 * (d + 7) ≤ _; omega⟩) (call_pre fr hh (.ref a :: vt)) rfl (by rw [hl2]; exact hlen) hls (by simp) (lv_room hsum) hd ⟨hc1, hc2⟩
set_option maxRecDepth 20000 in
theorem go_IN {M2 : m_M} {n i : Nat} {host : String} (hd : decode M.2.1 pc = .ok (.invokespecial i, 3)) (h1 : (M.1.cls, i, M2.1, host) ∈ m_nestM) (h2 : Cond.instanceMethod M2.1 ∈ m_T) (h4 : Cond.initialized M2.1.cls ∈ m_T) (h5 : Cond.code M2.1 M2.2.1 M2.2.2.1 M2.2.2.2 ∈ m_T) (hnm : M2.1.name = "<init>") (hrt : M2.2.2.2 = none) (hnn : m_nn M2 n) (hml : M2.2.2.1 ≤ 21) : m_go Γ M pc M2 (n + 1) m_ro1 := by
  intro p l e R s m args below meth c A d fr as h h1' v hlen hrc hct ad0 ad ws tys H locs ls vs rest cells slots hh hls hv hsum hc1 hc2
  obtain ⟨q0, t, rfl⟩ := hrc
  obtain ⟨w, vt, rfl, ⟨a, ha, rfl⟩, hv2⟩ := hv
  have hl2 := ms_len hv2
  simp at hlen
  have hR1 := fr.2.2.2.2.2.2.2.2.2.2.1
  have hR2 := fr.2.2.2.2.2.2.2.2.2.2.2.1
  have hM := hct ad ws tys H.size (.ref a :: vt) ⟨_, _, rfl, ⟨a, ha, rfl⟩, hv2⟩ hh.2.1
  have hw : m_w M2 = Cond.code M2.1 M2.2.1 M2.2.2.1 none :: m_T := by unfold m_w; rw [hrt]
  have hE := fr.2.2.2.2.2.2.2.2.2.1
  exact va_runIN (g := F0 m pc ls ((.ref a :: vt).reverse ++ rest)) (As := vt) (rest := rest) ⟨fr.1, fr.2.1, fr.2.2.1, fr.2.2.2.1, fr.2.2.2.2.1⟩ hM ⟨va_cnB (host := host) n fr.2.2.2.2.1 (gi (gi_w h5)) hw rfl rfl (hE.2.2.2.2.2.1 _ h1) (fr.2.2.2.2.1 _ h4) hnn ⟨by show d + 7 + 1 ≤ _; omega, by show 8 + (M2.2.2.1 + 11) + 40 * (d + 7) ≤ _; omega⟩, hnm, fr.2.2.2.2.1 _ h2⟩ (call_pre fr hh (.ref a :: vt)) rfl (by rw [hl2]; exact hlen) hls (by simp) (lv_room hsum) hd ⟨hc1, hc2⟩
end OK6

/-! INSTRUCTIONS: new objects and arrays, their places -/
theorem mi_hp (h : m_H) (k : Nat → Nat → List (List m_E) → m_R) : m_hp h k = k h.1 h.2.1 h.2.2 := rfl
/-- an object as it comes -/
def m_df (fs : List m_V) : List Value := fs.map (fun v => match v with | .inl n => .int (nI n) | _ => .null)
theorem ms_df {Γ : m_G} {ad : List Nat} : ∀ {fs : List m_V}, (∀ v ∈ fs, v = .inl 0 ∨ v = .inr (.inl none)) → m_rs Γ ad fs (m_df fs) := by
  intro fs
  induction fs with
  | nil => intro _; exact rfl
  | cons v fs ih =>
    intro h
    refine ⟨_, _, rfl, ?_, ih (fun x hx => h x (List.mem_cons_of_mem _ hx))⟩
    rcases h v List.mem_cons_self with rfl | rfl
    · exact rfl
    · exact rfl
section ARR
variable {p : Program} {l : Launch} {e : Env} {R : Room} {s : State} {m : MethodId} {args : Array Value} {below : List Frame} {meth : Method} {c : Code} {H : Heap} {locs : List Loc} {cells slots : Nat} {Q : State → Prop}
variable {cc : ByteArray} {pc : Nat} {ls : Array Slot} {rest : List Value} {D : va_G} {cl : List vw_C} {A : Nat → Prop} {a : Nat} {tys : List (ClassId × FieldType)} {ws : va_W} {H0 : Heap}
theorem mr_aald (hexec : p.tables.exec = Jvm.exec) (hb : c.code = cc) (hK : va_K D cl tys s) (hP : va_P D cl ws H) (q0 t0 : Nat) {cA : ClassId} {ty : FieldType} {n : Nat} {f : Nat → Option Nat} (ha : ws[q0]? = some (a, .inl (cA, n, .inr (.inr (.inr (.inr f)))))) (ht : tys[t0]? = some (cA, ty)) (hr : ty.isReference = true) {i : Int32} (hin : vp_in i n) (hdg : decode cc pc = .ok (.aaload, 1))
    (kk : W p l e R s m args below meth c H locs cells slots Q (F0 m (pc + 1) ls (va_rf (f i.toNatClampNeg) :: rest))) : W p l e R s m args below meth c H locs cells slots Q (F0 m pc ls (.int i :: .ref a :: rest)) := by
  have hlt : i.toNatClampNeg < n := Nat.not_le.mp fun q => hin (Or.inr q)
  exact W.aald (v := va_rf (f i.toNatClampNeg)) (ty := ty) hexec hb (hP q0 _ ha) ((hK.2 t0 _ ht).1 n (fun j => va_rf (f j))) hr (fun q => by cases q) (by show ¬ (i < 0 ∨ (arrV _ _ _).slots.size ≤ _); rw [arrV_size]; exact hin) (by show (arrV _ _ _).slots[_]? = _; rw [arrV_read _ _ hlt]) rfl rfl hdg kk
theorem mr_newA (hexec : p.tables.exec = Jvm.exec) (hb : c.code = cc) {own : String} {index : Nat} (hown : s.vm.findClass own = some m.cls) (hclink : (Cond.classLink own index (FieldType.array .int).toString).before args s = true) (hover : m_aoA s) (hK : va_K D cl tys s) (hP : va_P D cl ws H) (hD : va_D A ws) (hS : va_S A H0 H locs) (hA : ∀ q, H0.size ≤ q → A q)
    {n : Int32} {N' : Nat} (hn : ¬ n < 0) (hN : n.toNatClampNeg = N') (hbytes : N' * 4 ≤ 536870912) (hcells : cells + 1 ≤ R.cells) (hslots : slots + N' ≤ R.slots) (hdg : decode cc pc = .ok (.anewarray index, 3))
    (kk : ∀ (q : Nat) (cA : ClassId) (H1 : Heap), va_K D cl (tys ++ [(cA, .array .int)]) s → va_P D cl (ws ++ [(q, .inl (cA, N', .inr (.inr (.inr (.inr (fun _ => none))))))]) H1 → va_D A (ws ++ [(q, .inl (cA, N', .inr (.inr (.inr (.inr (fun _ => none))))))]) → va_S A H0 H1 locs →
      W p l e R s m args below meth c H1 locs (cells + 1) (slots + N') Q (F0 m (pc + 3) ls (.ref q :: rest))) : W p l e R s m args below meth c H locs cells slots Q (F0 m pc ls (.int n :: rest)) := by
  subst hN
  refine W.anewA (t := .int) hexec hb hown hclink hover rfl hdg rfl hn hbytes hcells hslots fun cA kA comp f1 f2 f3 f4 => ?_
  generalize hH1 : H.push ({ cls := cA, slots := Array.replicate n.toNatClampNeg .null, vm := .none } : Cell) = H1
  have e1 : H1[H.size]? = some (arrV cA n.toNatClampNeg (fun _ => .null)) := by rw [← hH1, Array.getElem?_push_size, ← arrV_new]
  have z1 : H1.size = H.size + 1 := by rw [← hH1, Array.size_push]
  have o1 : ∀ q : Nat, q < H.size → H1[q]? = H[q]? := fun q hq => by rw [← hH1, Array.getElem?_push, if_neg (Nat.ne_of_lt hq)]
  have hAr : ArrOfT s cA (.array .int) := fun N z => ⟨(fun k h => by cases h), kA, f2, comp, f3⟩
  have hk : ∀ (k : Nat) (x : Nat × va_E), ws[k]? = some x → H1[x.1]? = H[x.1]? := fun k x hx => o1 x.1 ((hP k x hx).lt)
  refine kk H.size cA H1 ⟨hK.1, fun k x hx => ?_⟩ ((hP.kept hk).app (fun k x hx => ?_)) (hD.push hP rfl (hA _ hS.1)) ⟨Nat.le_trans hS.1 (by omega), fun x h1 h2 => (o1 x (Nat.lt_of_lt_of_le h1 hS.1)).trans (hS.2.1 x h1 h2), hS.2.2⟩
  · by_cases hl : k < tys.length
    · rw [List.getElem?_append_left hl] at hx
      exact hK.2 k x hx
    · rw [List.getElem?_append_right (by omega)] at hx
      have hz : k - tys.length < 1 := (List.getElem?_eq_some_iff.mp hx).1
      rw [show k - tys.length = 0 by omega] at hx
      cases hx
      exact ⟨hAr, f1⟩
  · have hz : k < 1 := (List.getElem?_eq_some_iff.mp hx).1
    rw [show k = 0 by omega] at hx
    cases hx
    show H1[H.size]? = some (vp_cell _ _)
    rw [vp_cell_q]
    exact e1
/-- an int array into an array of them -/
theorem mr_aastA (hexec : p.tables.exec = Jvm.exec) (hb : c.code = cc) (hover : m_aoA s) (hK : va_K D cl tys s) (hP : va_P D cl ws H) (hD : va_D A ws) (hS : va_S A H0 H locs) (q0 t0 qk tk : Nat) {cA cV : ClassId} {n v : Nat} {x : vp_A} {f : Nat → Option Nat} (ha : ws[q0]? = some (a, .inl (cA, n, .inr (.inr (.inr (.inr f)))))) (ht : tys[t0]? = some (cA, .array .int)) (hv : ws[qk]? = some (v, .inl (cV, x))) (htk : tys[tk]? = some (cV, .int)) {i : Int32} (hin : vp_in i n) (hdg : decode cc pc = .ok (.aastore, 1))
    (kk : ∀ (H1 : Heap) (locs1 : List Loc), va_P D cl (ws.set q0 (a, .inl (cA, n, .inr (.inr (.inr (.inr (va_up f i.toNatClampNeg (some v)))))))) H1 → va_D A (ws.set q0 (a, .inl (cA, n, .inr (.inr (.inr (.inr (va_up f i.toNatClampNeg (some v)))))))) → va_S A H0 H1 locs1 → W p l e R s m args below meth c H1 locs1 cells slots Q (F0 m (pc + 1) ls rest)) : W p l e R s m args below meth c H locs cells slots Q (F0 m pc ls (.ref v :: .int i :: .ref a :: rest)) := by
  have hlt : i.toNatClampNeg < n := Nat.not_le.mp fun q => hin (Or.inr q)
  have h0 : ¬ i < 0 := fun q => hin (Or.inl q)
  obtain ⟨comp, c1, k1, g1, -, g3, g4, g5⟩ := arrayOverA_spec hover
  have hcA : s.vm.findClass ("[" ++ (FieldType.array .int).toString) = some cA := (hK.2 t0 _ ht).2
  cases g5.symm.trans hcA
  have hcV : s.vm.findClass ("[" ++ FieldType.int.toString) = some cV := (hK.2 tk _ htk).2
  have hcc : comp = cV := Option.some.inj (g1.symm.trans hcV)
  subst hcc
  obtain ⟨-, kV, hkV, -⟩ := (hK.2 tk _ htk).1 0 (fun _ => .null)
  have hcell := hP qk _ hv
  have hvm0 : (vp_cell comp x).vm = .none := by
    obtain ⟨n, f | f | f | f | f⟩ := x <;> rfl
  have hcl0 : (vp_cell comp x).cls = comp := by
    obtain ⟨n, f | f | f | f | f⟩ := x <;> rfl
  refine W.aast (t := .array .int) hexec hb (hP q0 _ ha) (fun q h => by cases h) (fun h => by cases h) g3 g4 rfl hkV ⟨h0, by show _ < (arrV _ _ _).slots.size; rw [arrV_size]; exact hlt⟩ hcell (fun q h => by rw [hvm0] at h; cases h) (by rw [hcl0]; exact hkV) (by rw [hcl0]; exact va_asg _ _) rfl rfl hdg fun H1 e z oq => ?_
  refine kk H1 _ (hP.set hD ha ?_ oq) (hD.set ha) (hS.put z oq (hD.2 q0 _ ha))
  show H1[a]? = some (vp_cell _ _)
  rw [e]
  rw [vp_cell_q, vp_cell_q, arrV_store]
  congr 2
  funext q
  by_cases hq : q = i.toNatClampNeg
  · subst hq
    simp [updV, va_up, va_rf]
  · simp [updV, va_up, hq]
end ARR
section OK4
variable {Γ : m_G} {tab : Nat → Option m_M} {k : Nat} {M : m_M} {pc : Nat} {K : m_X}
theorem ok_new {ci n i : Nat} {fs : List m_V} {C : String} {T : u_T} {ty : Nat → FieldType} (hd : decode M.2.1 pc = .ok (.new i, 3)) (hcl : Cond.classLink M.1.cls i C ∈ m_T) (hin : Cond.instantiable C n ∈ m_T) (hini : Cond.initialized C ∈ m_T) (hc : vwCl[ci]? = some (C, T, n)) (hws : ∀ w ∈ u_ws C T n, w ∈ m_T) (hty : ∀ k, k < n → parseFieldDescriptor (T k).2.2.1 = some (ty k)) (hfs : ∀ j, j < n → defaultValue (ty j) = vp_V (m_df fs) j) (hdef : ∀ v ∈ fs, v = .inl 0 ∨ v = .inr (.inl none)) (hK : m_ok Γ tab k M (pc + 3) K) : m_ok Γ tab k M pc (x_new ci n fs K) := by
  refine ok_gen hK ?_
  intro p l e R s m args below meth c A Q d fr go cl hck lv st h r hX
  obtain ⟨l', h1, h2⟩ := mx_hm hX
  rw [mi_f, mi_f] at h1
  refine ⟨lv, _, _, h1, Nat.le_succ _, Nat.le_add_right _ _, fun ad ws tys H locs ls vs ad0 cells slots hh hl hv hc1 hc2 kk => ?_⟩
  obtain ⟨g1, g2, g3⟩ := h2 hh.2.1.2.2.1
  have e1 : cells + (Nat.succ h.1 - h.1) = cells + 1 := by omega
  have e2 : slots + (Nat.add h.2.1 n - h.2.1) = slots + n := by show slots + (h.2.1 + n - h.2.1) = _; omega
  replace hc1 : cells + (Nat.succ h.1 - h.1) ≤ R.cells := hc1
  replace hc2 : slots + (Nat.add h.2.1 n - h.2.1) ≤ R.slots := hc2
  rw [e1] at hc1
  rw [e2] at hc2
  refine va_new (ci := ci) (fs := m_df fs) fr.1 fr.2.1 fr.2.2.2.2.1 hws ty hty fr.2.2.2.1 (fr.2.2.2.2.1 _ hcl) (fr.2.2.2.2.1 _ hin) (fr.2.2.2.2.1 _ hini) hh.2.2.2.1 hh.2.2.1 hh.2.2.2.2.1 hh.2.2.2.2.2 fr.2.2.2.2.2.2.2.2.1 hc hfs hc1 hc2 hd (fun q H1 hP1 hD1 hS1 => ?_)
  have hn := hh_new (b' := Nat.add h.2.1 n) (ts := []) hh g1 g2 g3 ⟨_, rfl, ms_df hdef⟩ hP1 (by rw [List.append_nil]; exact hh.2.2.2.1) hD1 hS1
  have := kk _ _ _ H1 locs ls (.ref q :: vs) hn (ml_mono (mp_ap _ _) hl) ⟨_, _, rfl, ⟨q, by rw [← hh.2.1.1]; simp, rfl⟩, ms_mono (mp_ap _ _) hv⟩
  replace this : W p l e R s m args below meth c H1 locs (cells + (Nat.succ h.1 - h.1)) (slots + (Nat.add h.2.1 n - h.2.1)) Q (F0 m (pc + 3) ls (.ref q :: vs)) := this
  rw [e1, e2] at this
  exact this
theorem ml_newa {z : Bool} {go : m_I} {cl : m_C} {lv st : List m_V} {h : m_H} {r : Option m_V × m_H} (hX : x_newa z K go cl lv st h = some r) : ∃ n t l', st = .inl n :: t ∧ n ≤ 1000000 ∧ K go cl lv (.inr (.inl (some h.1)) :: t) (h.1 + 1, h.2.1 + n, l') = some r ∧ (m_wf h.2.2 h.1 → m_at l' h.1 = some (.inl (z, n, 0)) ∧ (∀ p, p < h.1 → m_at l' p = m_at h.2.2 p) ∧ m_wf l' (h.1 + 1)) := by
  obtain ⟨n, t, rfl, h2⟩ := mx_pi hX
  obtain ⟨h3, h4⟩ := mx_ift h2
  obtain ⟨l', h5, h6⟩ := mx_hm h4
  rw [mi_f, mi_f] at h5
  exact ⟨n, t, l', rfl, Nat.le_of_ble_eq_true h3, h5, h6⟩
theorem ok_newa {z : Bool} {at' : ArrayType} (hd : decode M.2.1 pc = .ok (.newarray at', 2)) (hat : newarray.typeOf at' = m_bty z) (hw : Cond.arrayClass (newarray.typeOf at') ∈ m_T) (hK : m_ok Γ tab k M (pc + 2) K) : m_ok Γ tab k M pc (x_newa z K) := by
  refine ok_gen hK ?_
  intro p l e R s m args below meth c A Q d fr go cl hck lv st h r hX
  obtain ⟨n, t, l', rfl, hn, h1, h2⟩ := ml_newa hX
  refine ⟨lv, _, _, h1, Nat.le_succ _, Nat.le_add_right _ _, fun ad ws tys H locs ls vs ad0 cells slots hh hl hv hc1 hc2 kk => ?_⟩
  obtain ⟨g1, g2, g3⟩ := h2 hh.2.1.2.2.1
  obtain ⟨w, vt, rfl, hw1, hv⟩ := hv
  cases (show w = .int (nI n) from hw1)
  have e1 : cells + (h.1 + 1 - h.1) = cells + 1 := by omega
  have e2 : slots + (h.2.1 + n - h.2.1) = slots + n := by omega
  replace hc1 : cells + (h.1 + 1 - h.1) ≤ R.cells := hc1
  replace hc2 : slots + (h.2.1 + n - h.2.1) ≤ R.slots := hc2
  rw [e1] at hc1
  rw [e2] at hc2
  have hz : ∀ cA : ClassId, vp_cell cA (n, .inl (fun j => nI (m_ag 0 j))) = arrV cA n (fun _ => defaultValue (m_bty z)) := fun cA => by
    rw [vp_cell_i]
    congr 1
    funext j
    rw [ma_0]
    cases z <;> rfl
  have hb4 : n * componentBytes (m_bty z) ≤ 536870912 := by
    have : componentBytes (m_bty z) ≤ 4 := by cases z <;> decide
    calc n * componentBytes (m_bty z) ≤ 1000000 * 4 := Nat.mul_le_mul hn this
      _ ≤ 536870912 := by decide
  refine va_newa (atype := at') (a0 := (n, .inl (fun j => nI (m_ag 0 j)))) fr.1 fr.2.1 (fr.2.2.2.2.1 _ hw) hat hh.2.2.2.1 hh.2.2.1 hh.2.2.2.2.1 hh.2.2.2.2.2 fr.2.2.2.2.2.2.2.2.1 hz (nI_pos (by omega)) (nI_clamp (by omega)) hb4 hc1 hc2 hd (fun q cA H1 hK1 hP1 hD1 hS1 => ?_)
  have hn2 := hh_new (b' := h.2.1 + n) hh g1 g2 g3 ⟨cA, tys.length, rfl, by simp, by omega⟩ hP1 hK1 hD1 hS1
  have := kk _ _ _ H1 locs ls (.ref q :: vt) hn2 (ml_mono (mp_ap _ _) hl) ⟨_, _, rfl, ⟨q, by rw [← hh.2.1.1]; simp, rfl⟩, ms_mono (mp_ap _ _) hv⟩
  replace this : W p l e R s m args below meth c H1 locs (cells + (h.1 + 1 - h.1)) (slots + (h.2.1 + n - h.2.1)) Q (F0 m (pc + 2) ls (.ref q :: vt)) := this
  rw [e1, e2] at this
  exact this
theorem ml_anew {ci : Nat} {go : m_I} {cl : m_C} {lv st : List m_V} {h : m_H} {r : Option m_V × m_H} (hX : x_anew ci K go cl lv st h = some r) : ∃ n t l', st = .inl n :: t ∧ n ≤ 1000000 ∧ K go cl lv (.inr (.inl (some h.1)) :: t) (h.1 + 1, h.2.1 + n, l') = some r ∧ (m_wf h.2.2 h.1 → m_at l' h.1 = some (.inr (.inl (ci, n, m_rep n none))) ∧ (∀ p, p < h.1 → m_at l' p = m_at h.2.2 p) ∧ m_wf l' (h.1 + 1)) := by
  obtain ⟨n, t, rfl, h2⟩ := mx_pi hX
  obtain ⟨h3, h4⟩ := mx_ift h2
  obtain ⟨l', h5, h6⟩ := mx_hm h4
  rw [mi_f, mi_f] at h5
  exact ⟨n, t, l', rfl, Nat.le_of_ble_eq_true h3, h5, h6⟩
theorem ok_anew {ci i : Nat} {C : String} (hd : decode M.2.1 pc = .ok (.anewarray i, 3)) (hcl : Cond.classLink M.1.cls i C ∈ m_T) (hct : m_cty ci = .object C) (hao : ∀ (A : Nat → Prop) (s : State), m_Ev Γ A s → va_AO C s) (hK : m_ok Γ tab k M (pc + 3) K) : m_ok Γ tab k M pc (x_anew ci K) := by
  refine ok_gen hK ?_
  intro p l e R s m args below meth c A Q d fr go cl hck lv st h r hX
  obtain ⟨n, t, l', rfl, hn, h1, h2⟩ := ml_anew hX
  refine ⟨lv, _, _, h1, Nat.le_succ _, Nat.le_add_right _ _, fun ad ws tys H locs ls vs ad0 cells slots hh hl hv hc1 hc2 kk => ?_⟩
  obtain ⟨g1, g2, g3⟩ := h2 hh.2.1.2.2.1
  obtain ⟨w, vt, rfl, hw1, hv⟩ := hv
  cases (show w = .int (nI n) from hw1)
  have e1 : cells + (h.1 + 1 - h.1) = cells + 1 := by omega
  have e2 : slots + (h.2.1 + n - h.2.1) = slots + n := by omega
  replace hc1 : cells + (h.1 + 1 - h.1) ≤ R.cells := hc1
  replace hc2 : slots + (h.2.1 + n - h.2.1) ≤ R.slots := hc2
  rw [e1] at hc1
  rw [e2] at hc2
  refine va_newq (C := C) fr.1 fr.2.1 fr.2.2.2.1 (fr.2.2.2.2.1 _ hcl) (hao A s fr.2.2.2.2.2.2.2.2.2.1) hh.2.2.2.1 hh.2.2.1 hh.2.2.2.2.1 hh.2.2.2.2.2 fr.2.2.2.2.2.2.2.2.1 (nI_pos (by omega)) (nI_clamp (by omega)) (by omega) hc1 hc2 hd (fun q cA H1 hK1 hP1 hD1 hS1 => ?_)
  have hn2 := hh_new (b' := h.2.1 + n) hh g1 g2 g3 ⟨cA, tys.length, _, rfl, by rw [hct]; simp, by omega, fun j o hj => by
    rw [mi_rep] at hj
    have := (List.getElem?_replicate ▸ hj)
    split at this
    · cases this; exact rfl
    · cases this⟩ hP1 hK1 hD1 hS1
  have := kk _ _ _ H1 locs ls (.ref q :: vt) hn2 (ml_mono (mp_ap _ _) hl) ⟨_, _, rfl, ⟨q, by rw [← hh.2.1.1]; simp, rfl⟩, ms_mono (mp_ap _ _) hv⟩
  replace this : W p l e R s m args below meth c H1 locs (cells + (h.1 + 1 - h.1)) (slots + (h.2.1 + n - h.2.1)) Q (F0 m (pc + 3) ls (.ref q :: vt)) := this
  rw [e1, e2] at this
  exact this
theorem ok_anewA {ci i : Nat} (hd : decode M.2.1 pc = .ok (.anewarray i, 3)) (hcl : Cond.classLink M.1.cls i (FieldType.array .int).toString ∈ m_T) (hct : m_cty ci = .array .int) (hK : m_ok Γ tab k M (pc + 3) K) : m_ok Γ tab k M pc (x_anew ci K) := by
  refine ok_gen hK ?_
  intro p l e R s m args below meth c A Q d fr go cl hck lv st h r hX
  obtain ⟨n, t, l', rfl, hn, h1, h2⟩ := ml_anew hX
  refine ⟨lv, _, _, h1, Nat.le_succ _, Nat.le_add_right _ _, fun ad ws tys H locs ls vs ad0 cells slots hh hl hv hc1 hc2 kk => ?_⟩
  obtain ⟨g1, g2, g3⟩ := h2 hh.2.1.2.2.1
  obtain ⟨w, vt, rfl, hw1, hv⟩ := hv
  cases (show w = .int (nI n) from hw1)
  have e1 : cells + (h.1 + 1 - h.1) = cells + 1 := by omega
  have e2 : slots + (h.2.1 + n - h.2.1) = slots + n := by omega
  replace hc1 : cells + (h.1 + 1 - h.1) ≤ R.cells := hc1
  replace hc2 : slots + (h.2.1 + n - h.2.1) ≤ R.slots := hc2
  rw [e1] at hc1
  rw [e2] at hc2
  refine mr_newA fr.1 fr.2.1 fr.2.2.2.1 (fr.2.2.2.2.1 _ hcl) fr.2.2.2.2.2.2.2.2.2.1.2.2.2.2.2.2.2.2.2.1 hh.2.2.2.1 hh.2.2.1 hh.2.2.2.2.1 hh.2.2.2.2.2 fr.2.2.2.2.2.2.2.2.1 (nI_pos (by omega)) (nI_clamp (by omega)) (by omega) hc1 hc2 hd (fun q cA H1 hK1 hP1 hD1 hS1 => ?_)
  have hn2 := hh_new (b' := h.2.1 + n) hh g1 g2 g3 ⟨cA, tys.length, _, rfl, by rw [hct]; simp, by omega, fun j o hj => by
    rw [mi_rep] at hj
    have := (List.getElem?_replicate ▸ hj)
    split at this
    · cases this; exact rfl
    · cases this⟩ hP1 hK1 hD1 hS1
  have := kk _ _ _ H1 locs ls (.ref q :: vt) hn2 (ml_mono (mp_ap _ _) hl) ⟨_, _, rfl, ⟨q, by rw [← hh.2.1.1]; simp, rfl⟩, ms_mono (mp_ap _ _) hv⟩
  replace this : W p l e R s m args below meth c H1 locs (cells + (h.1 + 1 - h.1)) (slots + (h.2.1 + n - h.2.1)) Q (F0 m (pc + 3) ls (.ref q :: vt)) := this
  rw [e1, e2] at this
  exact this
end OK4

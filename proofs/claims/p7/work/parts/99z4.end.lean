/-! THE WHOLE RUN, AND THE CLAIM (written by wip/gen/genend2.py) -/
section
variable {K X : m_X} {go : m_I} {cl : m_C} {lv st : List m_V} {h : m_H} {r : m_R} {n d N ci : Nat} {cg tl : Nat → m_X} {fs : List m_V}
theorem t_new (h' : m_H) (q : Nat) (eq : h.1 = q) (e : ∀ f : m_H → m_R, m_hp h (fun a b l => m_hn l a (.inr (.inr (ci, fs))) (fun l' => m_f (Nat.succ a) (fun a' => m_f (Nat.add b n) (fun b' => f (a', b', l'))))) = f h') (hK : K go cl lv (.inr (.inl (some q)) :: st) h' = r) : x_new ci n fs K go cl lv st h = r := by
  subst eq
  exact (e (fun h' => K go cl lv (.inr (.inl (some h.1)) :: st) h')).trans hK
theorem t_lr {key : Nat} (hk : tl key = X) (hX : X (m_lr tl cg N d n) (fun key' lv' h' => m_run cg N d key' lv' [] h') lv st h = r) : m_lr tl cg N d (n + 1) key lv st h = r := by subst hk; exact hX
end
theorem lk_0 (xs : List Nat) : t_0 xs 0 = g_0_0 xs := rfl
theorem lk_18 (xs : List Nat) : t_0 xs 18 = g_0_18 xs := rfl
set_option maxRecDepth 20000 in
theorem la_start {xs : List Nat} {N n : Nat} {r : m_R} (hN : 400000 ≤ N) (h : m_lr (t_0 xs) m_cg N 1999 (n + 1) 18 [.inr (.inr (.inr 0)), .inr (.inl (some 0)), .inr (.inl (some 31)), .inl 0] [] z_h3 = r) : m_lr (t_0 xs) m_cg N 1999 (n + 1) (4096 * 0 + 0) [.inr (.inr (.inr 0)), .inr (.inr (.inl 0)), .inr (.inr (.inl 0)), .inr (.inr (.inl 0))] [] (0, 0, []) = r := by
  refine t_lr (lk_0 xs) (t_new z_h0 0 rfl (fun _ => rfl) (t_dup (fun _ => rfl) (t_rcv (fun _ => rfl) (t_cv (fun _ => rfl) rfl (rn_le z_i1 hN (Nat.le_refl _)) rfl rfl (t_as (lv' := [.inr (.inr (.inr 0)), .inr (.inl (some 0)), .inr (.inr (.inl 0)), .inr (.inr (.inl 0))]) (fun _ => rfl) (t_new z_h2 31 rfl (fun _ => rfl) (t_dup (fun _ => rfl) (t_rcv (fun _ => rfl) (t_cv (fun _ => rfl) rfl (rn_le z_i2 hN (Nat.le_refl _)) rfl rfl (t_as (lv' := [.inr (.inr (.inr 0)), .inr (.inl (some 0)), .inr (.inl (some 31)), .inr (.inr (.inl 0))]) (fun _ => rfl) ?_))))))))))
  refine t_ic ?_
  refine t_is (lv' := [.inr (.inr (.inr 0)), .inr (.inl (some 0)), .inr (.inl (some 31)), .inl 0]) (fun _ => rfl) ?_
  rw [← lk_18]
  exact h
theorem mn_small (x : Int32) : m_n x < 4294967296 := x.toBitVec.isLt
set_option maxRecDepth 20000 in
theorem la_run {L : Nat} (hL : L ≤ 3072) (xs : Nat → Int32) : ∃ (N n : Nat) (h' : m_H), m_lr (t_0 ((List.range L).map (fun j => m_n (xs j)))) m_cg N 1999 n (4096 * 0 + 0) ([.inr (.inr (.inr 0))] ++ m_un 3) [] (0, 0, []) = some (some (.inl 1), h') ∧ h'.1 ≤ 600000 ∧ h'.2.1 ≤ 7302250 := by
  have hl : ((List.range L).map (fun j => m_n (xs j))).length = L := by rw [List.length_map, List.length_range]
  have hall : ∀ a ∈ (List.range L).map (fun j => m_n (xs j)), a < 4294967296 := fun a ha => by
    obtain ⟨j, _, rfl⟩ := List.mem_map.mp ha
    exact mn_small _
  have hS0 : w_Sz 0 = 0 := by decide
  have hs1 : ((z_h3.1 : Nat) : Int) ≤ 67 + 2 * 0 := by
    show ((67 : Nat) : Int) ≤ _
    omega
  have hs2 : ((z_h3.2.1 : Nat) : Int) - 5 * w_Sz (g_L z_g) ≤ 21485 + 80 * 0 := by
    show ((21485 : Nat) : Int) - 5 * w_Sz 0 ≤ _
    omega
  obtain ⟨N0, n0, h', e, b1, b2⟩ := l_loop hall (by omega) (L + 1) z_Inv z_eq (i := 0) (by omega) (by omega) (by omega) hs1 hs2
  exact ⟨max N0 400000, n0 + 1, h', la_start (n := n0) (by omega) (e (max N0 400000) (n0 + 1) (by omega) (by omega)), b1, b2⟩
/-- YOUR PART: from the entry, for every script of at most 3072 ints, the law comes to its end with true ('hflags': the launch's flags, for a law that throws: no stack traces) -/
theorem whole_start {p : Program} {e : Env} {s : State} {m : MethodId} {below : List Frame} {meth : Method} {c : Code} (l : Launch) (hflags : l.flags = flags0) {b L : Nat} {xs : Nat → Int32} (hL : L ≤ 3072) (C0 : lw_At p s m meth c b L xs) : W p l e room_1 s m #[Value.ref b] below meth c s.heap [] 0 0 (lw_Z below #[Value.ref b] s) (entryFrame m ([Value.ref b] : List Value).toArray 4) := by
  obtain ⟨N, n, h', hr, b1, b2⟩ := la_run hL xs
  exact lw_start l C0 (Nat.lt_of_le_of_lt hL (by decide)) hr b1 b2
set_option maxHeartbeats 4000000 in
theorem lw_walk (l : Launch) (hflags : l.flags = flags0) (b : Addr) (xs : List Int32) : MetFree l x (headSpec (Jvm.Cond.code x code maxLocals ret :: tables_1) room_1) (lw_P b xs) (fun _ _ _ _ _ => True) lw_Q := by
  refine MetFree.of_bodyS (code := code) (maxLocals := maxLocals) (ret := ret) (by decide) ?_ ?_
  · intro args s m h hn
    obtain ⟨meth, c, h1, h2, h3, h4, h5, h6, -, -⟩ := Cond.code_spec hn (atoms_spec (ws := Jvm.Cond.code x code maxLocals ret :: tables_1) h _ List.mem_cons_self)
    exact ⟨meth, c, h1, h2, h3, h4, h5, h6⟩
  · intro p e s m args below meth c s₁ B hml0 hP _
    obtain ⟨rfl, hx, hbd, hgv⟩ := hP
    obtain ⟨scr, harrAt, hlist, hof, hsmall⟩ := hx
    obtain ⟨hcb, hkn, -, -⟩ := State.arrayAt?_spec harrAt
    have hown : s.vm.findClass R_law = some m.cls := findClass_of_methodNamed B.named
    have hts0 : ∀ c ∈ (Jvm.Cond.code x code maxLocals ret :: tables_1), c.before #[Value.ref b] s = true := atoms_spec (ws := Jvm.Cond.code x code maxLocals ret :: tables_1) B.pre
    have hts : ∀ w ∈ lw_tbl, w.before #[Value.ref b] s = true := k2_hts_sels lw_privs (fun w hw => hts0 w (List.mem_cons_of_mem _ hw)) lw_privs_ok
    have hml : c.maxLocals = 4 := B.maxLocals_eq (hts0 _ List.mem_cons_self)
    have X₀ : Stand p l e room_1 s m #[Value.ref b] below meth c s₁ [] 0 0 := Stand.of_body B
    have hh0 : s₁.heap = s.heap := by rw [B.state]; rfl
    have hsz : scr.slots.size = xs.length := by rw [← Array.length_toList, hlist, List.length_map]
    have hval : ∀ j : Nat, j < xs.length → scr.slots[j]? = some (.int (xs.getD j 0)) := fun j hj => by
      rw [← Array.getElem?_toList, hlist]
      simp [hj]
    have hbl : b < s.heap.size := (Array.getElem?_eq_some_iff.mp hcb).1
    have hX : va_X b xs.length (fun j => xs.getD j 0) s s.heap := ⟨scr, hcb, hof, hkn, hsz, hval⟩
    have K : W p l e room_1 s m #[Value.ref b] below meth c s₁.heap [] 0 0 (lw_Z below #[Value.ref b] s) (entryFrame m ([Value.ref b] : List Value).toArray 4) := by
      rw [hh0]
      exact whole_start l hflags hbd ⟨B.exec, B.bytes, B.returns, hml, hown, hts, hX, hbl, B.notSynchronized, hgv⟩
    obtain ⟨t, a1, o, b1, b2, b3⟩ := K s₁ rfl X₀
    exact ⟨t, o, a1, b1, b2, b3⟩
theorem lw_pre_spec {args : Array Value} {s : State} (h : (Jvm.Cond.and given_1 narrow_1).before args s = true) (hr : rest_1_c.before args s = true) : ∃ (b : Addr) (xs : List Int32), lw_P b xs args s := by
  have hs := flat_of_before _ h
  have hq := flat_of_before _ hr
  have hc : (Cond.count 1).before args s = true := hs _ (by decide +kernel)
  have harr : (Cond.arrayOf (.arg 0) .int).before args s = true := hs _ (by decide +kernel)
  have hle : (Cond.le (.length (.arg 0)) (.int 3072)).before args s = true := hs _ (by decide +kernel)
  have hlen : (Cond.isInt (.length (.arg 0))).before args s = true := hq _ (by decide +kernel)
  have hall : (Cond.all (.arg 0) (.isInt (.elem (.arg 0) (.index 0)))).before args s = true := hq _ (by decide +kernel)
  obtain ⟨b, xs, hb, hx⟩ := State.ints_of_pre rfl harr hlen hall
  have hsm : xs.length < 2 ^ 31 := hx.choose_spec.2.2.2
  have hev : (Term.length (.arg 0)).eval args s none [] s = some (.int xs.length.toInt32) := hx.length_eval hb
  have hv := Cond.le_ints hev (show (Term.int 3072).eval args s none [] s = some (.int 3072) from rfl)
  have hd : xs.length.toInt32 ≤ 3072 := by
    simpa [Cond.before, Cond.holds, hv] using hle
  have hN : xs.length ≤ 3072 := (Int32.ofNat_le_ofNat hsm (by decide)).mp (show Int32.ofNat xs.length ≤ Int32.ofNat 3072 from hd)
  exact ⟨b, xs, Cond.one_arg hc (show args[0]? = some (.ref b) from hb), hx, hN, h⟩
theorem lw_comes (l : Launch) (hflags : l.flags = flags0) : Comes l x (Jvm.Cond.code x code maxLocals ret :: tables_1) room_1 (fun tb e args s => Calls_1 tb e args s ∧ rest_1 tb e args s ∧ Pre_1 tb e args s)
    (fun _ _ args s o t => lw_Q args s o t) := by
  intro p e ha hc hk s m args below hf hfit hheap happ hpre
  obtain ⟨b, xs, hP⟩ := lw_pre_spec hpre.2.2 hpre.2.1
  obtain ⟨k, o, h1, h2, h3, hQ⟩ := lw_walk l hflags b xs p e ha hc hk s m args below hf ((Spec.applies_iff_loose hf).mp happ).1 hP trivial
  exact ⟨k, o, h1, h2, h3, hQ⟩
theorem lw_frame {s t : State} {o : Outcome} {args : Array Value} (h : Framed s o t [] 600000 7302250) :
    Framed s o t (fieldLocs frame_1_writes args s ++ arrayLocs frame_1_arrays args s ++ staticLocs frame_1_statics s) 600000 7302250 := h
theorem lw_limb (L : Cond) (hL : ∀ (args : Array Value) (s t : State), L.after args s (.returned (some (.int 1))) t = true) :
    ArmFor flags0 classFile x code maxLocals ret World_1 tables_1 room_1 Calls_1 rest_1 Pre_1
      (fun tb e a s o t => postC L tb e a s o t ∧ Framed s o t (fieldLocs frame_1_writes a s ++ arrayLocs frame_1_arrays a s ++ staticLocs frame_1_statics s) 600000 7302250) := by
  intro l hflags _ _ p e ha hc hk s m args below hf hfit hheap happ hpre
  obtain ⟨k, o, h1, h2, h3, rfl, hF⟩ := lw_comes l hflags p e ha hc hk s m args below hf hfit hheap happ hpre
  exact ⟨k, _, h1, h2, h3, hL args s _, lw_frame hF⟩
theorem i_vc : Claimed_1_1 ∧ Claimed_1_2 := ⟨lw_limb limb_1_1 (fun args s t => by simp [limb_1_1, Cond.after, Cond.holds, Cond.value]), lw_limb limb_1_2 (fun args s t => Cond.after_iff.mpr (by
  first | (rw [show limb_1_2 = Cond.eq .result (.int 1) from rfl, Cond.eq_ints (x := 1) (y := 1) rfl rfl]; simp; done) | (simp [limb_1_2, Cond.value, Term.eval]; done)))⟩


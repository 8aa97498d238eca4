theorem q_build {g : w_G} {o : w_O} {h : m_H} {P : Option m_V → m_H → Prop} (iv : w_Inv g o h) {hh : Int} {c : Int} (hh_lo : -2147483648 ≤ hh) (hh_hi : hh ≤ 2147483647) (c_lo : -2147483648 ≤ c) (c_hi : c ≤ 2147483647) (k : ∀ (rz : Int) (g2 : w_G) (o2 : w_O) (h2 : m_H), w_Inv g2 o2 h2 → w_gr g h g2 h2 → w_cB g g2 rz hh c → P (some (.inl (w_i rz))) h2) : wp 1999 364544 [.inr (.inl (some 0)), .inl (w_i hh), .inl (w_i c), .inr (.inr (.inl 0)), .inr (.inr (.inl 0))] [] h P := c_build (d := 1996) iv hh_lo hh_hi c_lo c_hi (fun x g2 o2 h2 iv2 ch oe e1 e2 b0 b1 b2 => k x g2 o2 h2 iv2 (gr_ch rfl ch e1 e2) (Or.inr ⟨b0, b1, b2.1, b2.2, ch⟩)) (fun   h2 iv2 F2 b0 => k (-2) g o h2 iv2 (gr_fr F2) (Or.inl ⟨rfl, kp_rf, fun z => by unfold w_okB at z; omega⟩))
theorem q_mBuild {g : w_G} {o : w_O} {h : m_H} {P : Option m_V → m_H → Prop} (iv : w_Inv g o h) {hh : Int} {c : Int} (hh_lo : -2147483648 ≤ hh) (hh_hi : hh ≤ 2147483647) (c_lo : -2147483648 ≤ c) (c_hi : c ≤ 2147483647) (k : ∀ (rz : Int) (g2 : w_G) (o2 : w_O) (h2 : m_H), w_Inv g2 o2 h2 → w_gr g h g2 h2 → w_mB g g2 rz hh c → P (some (.inl (w_i rz))) h2) : wp 1999 602112 [.inr (.inl (some 31)), .inl (w_i hh), .inl (w_i c), .inr (.inr (.inl 0))] [] h P := c_mBuild (d := 1998) iv hh_lo hh_hi c_lo c_hi (fun x g2 h2 iv2 ch e1 e2 b0 b1 b2 => k x g2 o h2 iv2 (gr_eq rfl ch e1 e2) (Or.inr ⟨b0, b1, b2.1, b2.2, ch⟩)) (fun   h2 iv2 F2 b0 => k (-2) g o h2 iv2 (gr_fr F2) (Or.inl ⟨rfl, kp_rf, fun z => by unfold w_okB at z; omega⟩))
theorem q_touch {g : w_G} {o : w_O} {h : m_H} {P : Option m_V → m_H → Prop} (iv : w_Inv g o h) {a : Int} {b : Int} {is_ : Int} (a_lo : -2147483648 ≤ a) (a_hi : a ≤ 2147483647) (b_lo : -2147483648 ≤ b) (b_hi : b ≤ 2147483647) (is__lo : -2147483648 ≤ is_) (is__hi : is_ ≤ 2147483647) (k : ∀ (rz : Nat) (g2 : w_G) (o2 : w_O) (h2 : m_H), w_Inv g2 o2 h2 → w_gr g h g2 h2 → w_kp g g2 → P (some (.inl rz)) h2) : wp 1999 368640 [.inr (.inl (some 0)), .inl (w_i a), .inl (w_i b), .inl (w_i is_), .inr (.inr (.inl 0))] [] h P := c_touch (d := 1997) iv a_lo a_hi b_lo b_hi is__lo is__hi (fun x g2 o2 h2 iv2 ch oe e1 e2  => k _ g2 o2 h2 iv2 (gr_ch rfl ch e1 e2) (kp_of (ch.1 0 rfl) (ch.1 1 rfl) (ch.1 3 rfl) (ch.1 6 rfl) (ch.1 7 rfl) (ch.1 9 rfl) (ch.2.1 1 rfl) (ch.2.1 2 rfl) (ch.2.1 4 rfl) (ch.2.1 5 rfl))) (fun x  h2 iv2 F2 b0 b1 => k _ g o h2 iv2 (gr_fr F2) kp_rf)
theorem q_mTouch {g : w_G} {o : w_O} {h : m_H} {P : Option m_V → m_H → Prop} (iv : w_Inv g o h) {a : Int} {b : Int} {is_ : Int} (a_lo : -2147483648 ≤ a) (a_hi : a ≤ 2147483647) (b_lo : -2147483648 ≤ b) (b_hi : b ≤ 2147483647) (is__lo : -2147483648 ≤ is_) (is__hi : is_ ≤ 2147483647) (k : ∀ (rz : Nat) (g2 : w_G) (o2 : w_O) (h2 : m_H), w_Inv g2 o2 h2 → w_gr g h g2 h2 → w_kp g g2 → P (some (.inl rz)) h2) : wp 1999 610304 [.inr (.inl (some 31)), .inl (w_i a), .inl (w_i b), .inl (w_i is_), .inr (.inr (.inl 0))] [] h P := c_mTouch (d := 1997) iv a_lo a_hi b_lo b_hi is__lo is__hi (fun x g2 h2 iv2 ch e1 e2  => k _ g2 o h2 iv2 (gr_eq rfl ch e1 e2) (kp_of (ch.1 0 rfl) (ch.1 1 rfl) (ch.1 3 rfl) (ch.1 6 rfl) (ch.1 7 rfl) (ch.1 9 rfl) (ch.2.1 1 rfl) (ch.2.1 2 rfl) (ch.2.1 4 rfl) (ch.2.1 5 rfl))) (fun x  h2 iv2 F2 b0 b1 => k _ g o h2 iv2 (gr_fr F2) kp_rf)
theorem q_set {g : w_G} {o : w_O} {h : m_H} {P : Option m_V → m_H → Prop} (iv : w_Inv g o h) {what : Int} {of : Int} {v : Int} (what_lo : -2147483648 ≤ what) (what_hi : what ≤ 2147483647) (of_lo : -2147483648 ≤ of) (of_hi : of ≤ 2147483647) (v_lo : -2147483648 ≤ v) (v_hi : v ≤ 2147483647) (k : ∀ (rz : Nat) (g2 : w_G) (o2 : w_O) (h2 : m_H), w_Inv g2 o2 h2 → w_gr g h g2 h2 → w_kp g g2 → P (some (.inl rz)) h2) : wp 1999 372736 [.inr (.inl (some 0)), .inl (w_i what), .inl (w_i of), .inl (w_i v), .inr (.inr (.inl 0))] [] h P := c_set (d := 1997) iv what_lo what_hi of_lo of_hi v_lo v_hi (fun x  h2 iv2 F2 b0 b1 => k _ g o h2 iv2 (gr_fr F2) kp_rf)
theorem q_mSet {g : w_G} {o : w_O} {h : m_H} {P : Option m_V → m_H → Prop} (iv : w_Inv g o h) {what : Int} {of : Int} {v : Int} (what_lo : -2147483648 ≤ what) (what_hi : what ≤ 2147483647) (of_lo : -2147483648 ≤ of) (of_hi : of ≤ 2147483647) (v_lo : -2147483648 ≤ v) (v_hi : v ≤ 2147483647) (k : ∀ (rz : Nat) (g2 : w_G) (o2 : w_O) (h2 : m_H), w_Inv g2 o2 h2 → w_gr g h g2 h2 → w_kp g g2 → P (some (.inl rz)) h2) : wp 1999 614400 [.inr (.inl (some 31)), .inl (w_i what), .inl (w_i of), .inl (w_i v), .inr (.inr (.inl 0))] [] h P := c_mSet (d := 1998) iv what_lo what_hi of_lo of_hi v_lo v_hi (fun x  h2 iv2 F2 b0 b1 => k _ g o h2 iv2 (gr_fr F2) kp_rf)
theorem q_told {g : w_G} {o : w_O} {h : m_H} {P : Option m_V → m_H → Prop} (iv : w_Inv g o h) {house : Int} {what : Int} (house_lo : -2147483648 ≤ house) (house_hi : house ≤ 2147483647) (what_lo : -2147483648 ≤ what) (what_hi : what ≤ 2147483647) (k : ∀ (rz : Nat) (g2 : w_G) (o2 : w_O) (h2 : m_H), w_Inv g2 o2 h2 → w_gr g h g2 h2 → w_kp g g2 → P (some (.inl rz)) h2) : wp 1999 376832 [.inr (.inl (some 0)), .inl (w_i house), .inl (w_i what)] [] h P := c_told (d := 1998) iv house_lo house_hi what_lo what_hi (fun x b0 b1 => k _ g o h iv gr_rf kp_rf)
theorem q_mTold {g : w_G} {o : w_O} {h : m_H} {P : Option m_V → m_H → Prop} (iv : w_Inv g o h) {house : Int} {what : Int} (house_lo : -2147483648 ≤ house) (house_hi : house ≤ 2147483647) (what_lo : -2147483648 ≤ what) (what_hi : what ≤ 2147483647) (k : ∀ (rz : Nat) (g2 : w_G) (o2 : w_O) (h2 : m_H), w_Inv g2 o2 h2 → w_gr g h g2 h2 → w_kp g g2 → P (some (.inl rz)) h2) : wp 1999 618496 [.inr (.inl (some 31)), .inl (w_i house), .inl (w_i what)] [] h P := c_mTold (d := 1998) iv house_lo house_hi what_lo what_hi (fun x b0 b1 => k _ g o h iv gr_rf kp_rf)
theorem q_painter {g : w_G} {o : w_O} {h : m_H} {P : Option m_V → m_H → Prop} (iv : w_Inv g o h) {kd : Int} {nu : Int} (kd_lo : -2147483648 ≤ kd) (kd_hi : kd ≤ 2147483647) (nu_lo : -2147483648 ≤ nu) (nu_hi : nu ≤ 2147483647) (k : ∀ (rz : Int) (g2 : w_G) (o2 : w_O) (h2 : m_H), w_Inv g2 o2 h2 → w_gr g h g2 h2 → w_cP g g2 rz kd nu → P (some (.inl (w_i rz))) h2) : wp 1999 380928 [.inr (.inl (some 0)), .inl (w_i kd), .inl (w_i nu)] [] h P := c_painter (d := 1995) iv kd_lo kd_hi nu_lo nu_hi (fun x g2 o2 h2 iv2 ch oe e1 e2 b0 b1 b2 b3 => k x g2 o2 h2 iv2 (gr_ch rfl ch e1 e2) (Or.inr (Or.inr ⟨b0, b1, b2, b3, ch⟩))) (fun   h2 iv2 F2 b0 => k (-2) g o h2 iv2 (gr_fr F2) (Or.inl ⟨rfl, kp_rf, fun z => by unfold w_okP at z; omega⟩)) (fun   h2 iv2 F2 b0 b1 b2 b3 b4 => k (-4) g o h2 iv2 (gr_fr F2) (Or.inr (Or.inl ⟨rfl, kp_rf, ⟨by omega, by omega, by omega, by omega⟩, by omega⟩)))
theorem q_mPainter {g : w_G} {o : w_O} {h : m_H} {P : Option m_V → m_H → Prop} (iv : w_Inv g o h) {kd : Int} {nu : Int} (kd_lo : -2147483648 ≤ kd) (kd_hi : kd ≤ 2147483647) (nu_lo : -2147483648 ≤ nu) (nu_hi : nu ≤ 2147483647) (k : ∀ (rz : Int) (g2 : w_G) (o2 : w_O) (h2 : m_H), w_Inv g2 o2 h2 → w_gr g h g2 h2 → w_mP g g2 rz kd nu → P (some (.inl (w_i rz))) h2) : wp 1999 622592 [.inr (.inl (some 31)), .inl (w_i kd), .inl (w_i nu)] [] h P := c_mPainter (d := 1998) iv kd_lo kd_hi nu_lo nu_hi (fun x g2 h2 iv2 ch e1 e2 b0 b1 b2 b3 => k x g2 o h2 iv2 (gr_eq rfl ch e1 e2) (Or.inr (Or.inr ⟨b0, b1, b2, b3, ch⟩))) (fun   h2 iv2 F2 b0 => k (-2) g o h2 iv2 (gr_fr F2) (Or.inl ⟨rfl, kp_rf, fun z => by unfold w_okP at z; omega⟩)) (fun   h2 iv2 F2 b0 b1 b2 b3 b4 => k (-4) g o h2 iv2 (gr_fr F2) (Or.inr (Or.inl ⟨rfl, kp_rf, ⟨by omega, by omega, by omega, by omega⟩, by omega⟩)))
theorem q_asksX {g : w_G} {o : w_O} {h : m_H} {P : Option m_V → m_H → Prop} (iv : w_Inv g o h) {pa_ : Int} {st : Int} {wh : Int} (pa__lo : -2147483648 ≤ pa_) (pa__hi : pa_ ≤ 2147483647) (st_lo : -2147483648 ≤ st) (st_hi : st ≤ 2147483647) (wh_lo : -2147483648 ≤ wh) (wh_hi : wh ≤ 2147483647) (k : ∀ (rz : Int) (g2 : w_G) (o2 : w_O) (h2 : m_H), w_Inv g2 o2 h2 → w_gr g h g2 h2 → w_kp g g2 → w_ak (g_PK g pa_) (g_PN g pa_) (g_H g) (g_C g) (g_np g) pa_ st wh rz → P (some (.inl (w_i rz))) h2) : wp 1999 385024 [.inr (.inl (some 0)), .inl (w_i pa_), .inl (w_i st), .inl (w_i wh), .inr (.inr (.inl 0)), .inr (.inr (.inl 0)), .inr (.inr (.inl 0)), .inr (.inr (.inl 0))] [] h P := c_asksX (d := 1995) iv pa__lo pa__hi st_lo st_hi wh_lo wh_hi (fun x b0 b1 b2 => k _ g o h iv gr_rf kp_rf b2)
theorem q_mAsksX {g : w_G} {o : w_O} {h : m_H} {P : Option m_V → m_H → Prop} (iv : w_Inv g o h) {pa : Int} {st : Int} {wh : Int} (pa_lo : -2147483648 ≤ pa) (pa_hi : pa ≤ 2147483647) (st_lo : -2147483648 ≤ st) (st_hi : st ≤ 2147483647) (wh_lo : -2147483648 ≤ wh) (wh_hi : wh ≤ 2147483647) (k : ∀ (rz : Int) (g2 : w_G) (o2 : w_O) (h2 : m_H), w_Inv g2 o2 h2 → w_gr g h g2 h2 → w_kp g g2 → w_ak (g_mPK g pa) (g_mPN g pa) (g_mH g) (g_mC g) (g_mnp g) pa st wh rz → P (some (.inl (w_i rz))) h2) : wp 1999 634880 [.inr (.inl (some 31)), .inl (w_i pa), .inl (w_i st), .inl (w_i wh), .inr (.inr (.inl 0)), .inr (.inr (.inl 0)), .inr (.inr (.inl 0))] [] h P := c_mAsksX (d := 1998) iv pa_lo pa_hi st_lo st_hi wh_lo wh_hi (fun x b0 b1 b2 => k _ g o h iv gr_rf kp_rf b2)
theorem q_feed {g : w_G} {o : w_O} {h : m_H} {P : Option m_V → m_H → Prop} (iv : w_Inv g o h) {le : Int} (le_lo : -2147483648 ≤ le) (le_hi : le ≤ 2147483647) (k : ∀ (rz : Nat) (g2 : w_G) (o2 : w_O) (h2 : m_H), w_Inv g2 o2 h2 → w_gr g h g2 h2 → w_kp g g2 → P (some (.inl rz)) h2) : wp 1999 389120 [.inr (.inl (some 0)), .inl (w_i le)] [] h P := c_feed (d := 1998) iv le_lo le_hi (fun x  h2 iv2 F2 b0 b1 => k _ g o h2 iv2 (gr_fr F2) kp_rf)
theorem q_mFeed {g : w_G} {o : w_O} {h : m_H} {P : Option m_V → m_H → Prop} (iv : w_Inv g o h) {le : Int} (le_lo : -2147483648 ≤ le) (le_hi : le ≤ 2147483647) (k : ∀ (rz : Nat) (g2 : w_G) (o2 : w_O) (h2 : m_H), w_Inv g2 o2 h2 → w_gr g h g2 h2 → w_kp g g2 → P (some (.inl rz)) h2) : wp 1999 655360 [.inr (.inl (some 31)), .inl (w_i le)] [] h P := c_mFeed (d := 1998) iv le_lo le_hi (fun x  h2 iv2 F2 b0 b1 => k _ g o h2 iv2 (gr_fr F2) kp_rf)
theorem q_text {g : w_G} {o : w_O} {h : m_H} {P : Option m_V → m_H → Prop} (iv : w_Inv g o h) (k : ∀ (rz : Nat) (g2 : w_G) (o2 : w_O) (h2 : m_H), w_Inv g2 o2 h2 → w_gr g h g2 h2 → w_kp g g2 → P (some (.inl rz)) h2) : wp 1999 393216 [.inr (.inl (some 0)), .inr (.inr (.inl 0))] [] h P := c_text (d := 1909) iv  (fun x g2 o2 h2 iv2 ch oe e1 e2  => k _ g2 o2 h2 iv2 (gr_ch rfl ch e1 e2) (kp_of (ch.1 0 rfl) (ch.1 1 rfl) (ch.1 3 rfl) (ch.1 6 rfl) (ch.1 7 rfl) (ch.1 9 rfl) (ch.2.1 1 rfl) (ch.2.1 2 rfl) (ch.2.1 4 rfl) (ch.2.1 5 rfl))) (fun x  h2 iv2 F2 b0 b1 => k _ g o h2 iv2 (gr_fr F2) kp_rf)
theorem q_mText {g : w_G} {o : w_O} {h : m_H} {P : Option m_V → m_H → Prop} (iv : w_Inv g o h) (k : ∀ (rz : Nat) (g2 : w_G) (o2 : w_O) (h2 : m_H), w_Inv g2 o2 h2 → w_gr g h g2 h2 → w_kp g g2 → P (some (.inl rz)) h2) : wp 1999 716800 [.inr (.inl (some 31)), .inr (.inr (.inl 0)), .inr (.inr (.inl 0))] [] h P := c_mText (d := 1993) iv  (fun x g2 h2 iv2 ch e1 e2  => k _ g2 o h2 iv2 (gr_eq rfl ch e1 e2) (kp_of (ch.1 0 rfl) (ch.1 1 rfl) (ch.1 3 rfl) (ch.1 6 rfl) (ch.1 7 rfl) (ch.1 9 rfl) (ch.2.1 1 rfl) (ch.2.1 2 rfl) (ch.2.1 4 rfl) (ch.2.1 5 rfl))) (fun x  h2 iv2 F2 b0 b1 => k _ g o h2 iv2 (gr_fr F2) kp_rf)
theorem q_force {g : w_G} {o : w_O} {h : m_H} {P : Option m_V → m_H → Prop} (iv : w_Inv g o h) {te : Int} (te_lo : -2147483648 ≤ te) (te_hi : te ≤ 2147483647) (k : ∀ (rz : Nat) (g2 : w_G) (o2 : w_O) (h2 : m_H), w_Inv g2 o2 h2 → w_gr g h g2 h2 → w_kp g g2 → P (some (.inl rz)) h2) : wp 1999 397312 [.inr (.inl (some 0)), .inl (w_i te), .inr (.inr (.inl 0))] [] h P := c_force (d := 1998) iv te_lo te_hi (fun x  h2 iv2 F2 b0 b1 => k _ g o h2 iv2 (gr_fr F2) kp_rf)
theorem q_mForce {g : w_G} {o : w_O} {h : m_H} {P : Option m_V → m_H → Prop} (iv : w_Inv g o h) {te : Int} (te_lo : -2147483648 ≤ te) (te_hi : te ≤ 2147483647) (k : ∀ (rz : Nat) (g2 : w_G) (o2 : w_O) (h2 : m_H), w_Inv g2 o2 h2 → w_gr g h g2 h2 → w_kp g g2 → P (some (.inl rz)) h2) : wp 1999 720896 [.inr (.inl (some 31)), .inl (w_i te), .inr (.inr (.inl 0))] [] h P := c_mForce (d := 1998) iv te_lo te_hi (fun x  h2 iv2 F2 b0 b1 => k _ g o h2 iv2 (gr_fr F2) kp_rf)
theorem q_lawful {g : w_G} {o : w_O} {h : m_H} {P : Option m_V → m_H → Prop} (iv : w_Inv g o h) (k : ∀ (rz : Nat) (g2 : w_G) (o2 : w_O) (h2 : m_H), w_Inv g2 o2 h2 → w_gr g h g2 h2 → w_kp g g2 → P (some (.inl rz)) h2) : wp 1999 401408 [.inr (.inl (some 0))] [] h P := c_lawful (d := 1997) iv  (fun x b0 b1 => k _ g o h iv gr_rf kp_rf)
theorem q_mLawful {g : w_G} {o : w_O} {h : m_H} {P : Option m_V → m_H → Prop} (iv : w_Inv g o h) (k : ∀ (rz : Nat) (g2 : w_G) (o2 : w_O) (h2 : m_H), w_Inv g2 o2 h2 → w_gr g h g2 h2 → w_kp g g2 → P (some (.inl rz)) h2) : wp 1999 774144 [.inr (.inl (some 31))] [] h P := c_mLawful (d := 1997) iv  (fun x  h2 iv2 F2 b0 b1 => k _ g o h2 iv2 (gr_fr F2) kp_rf)
theorem q_step {g : w_G} {o : w_O} {h : m_H} {P : Option m_V → m_H → Prop} (iv : w_Inv g o h) {house : Int} {colour : Int} (house_lo : -2147483648 ≤ house) (house_hi : house ≤ 2147483647) (colour_lo : -2147483648 ≤ colour) (colour_hi : colour ≤ 2147483647) (k : ∀ (rz : Nat) (g2 : w_G) (o2 : w_O) (h2 : m_H), w_Inv g2 o2 h2 → w_gr g h g2 h2 → w_kp g g2 → P (some (.inl rz)) h2) : wp 1999 405504 [.inr (.inl (some 0)), .inl (w_i house), .inl (w_i colour)] [] h P := c_step (d := 1994) iv house_lo house_hi colour_lo colour_hi (fun x  h2 iv2 F2 b0 b1 => k _ g o h2 iv2 (gr_fr F2) kp_rf)
theorem q_mStep {g : w_G} {o : w_O} {h : m_H} {P : Option m_V → m_H → Prop} (iv : w_Inv g o h) {ho : Int} {t : Int} (ho_lo : -2147483648 ≤ ho) (ho_hi : ho ≤ 2147483647) (t_lo : -2147483648 ≤ t) (t_hi : t ≤ 2147483647) (k : ∀ (rz : Nat) (g2 : w_G) (o2 : w_O) (h2 : m_H), w_Inv g2 o2 h2 → w_gr g h g2 h2 → w_kp g g2 → P (some (.inl rz)) h2) : wp 1999 786432 [.inr (.inl (some 31)), .inl (w_i ho), .inl (w_i t)] [] h P := c_mStep (d := 1993) iv ho_lo ho_hi t_lo t_hi (fun x  h2 iv2 F2 b0 b1 => k _ g o h2 iv2 (gr_fr F2) kp_rf)
theorem q_paint {g : w_G} {o : w_O} {h : m_H} {P : Option m_V → m_H → Prop} (iv : w_Inv g o h) {house : Int} {colour : Int} (house_lo : -2147483648 ≤ house) (house_hi : house ≤ 2147483647) (colour_lo : -2147483648 ≤ colour) (colour_hi : colour ≤ 2147483647) (k : ∀ (rz : Nat) (g2 : w_G) (o2 : w_O) (h2 : m_H), w_Inv g2 o2 h2 → w_gr g h g2 h2 → w_kp g g2 → P (some (.inl rz)) h2) : wp 1999 409600 [.inr (.inl (some 0)), .inl (w_i house), .inl (w_i colour), .inr (.inr (.inl 0))] [] h P := c_paint (d := 1994) iv house_lo house_hi colour_lo colour_hi (fun x  h2 iv2 F2 b0 b1 => k _ g o h2 iv2 (gr_fr F2) kp_rf)
theorem q_mPaint {g : w_G} {o : w_O} {h : m_H} {P : Option m_V → m_H → Prop} (iv : w_Inv g o h) {ho : Int} {t : Int} (ho_lo : -2147483648 ≤ ho) (ho_hi : ho ≤ 2147483647) (t_lo : -2147483648 ≤ t) (t_hi : t ≤ 2147483647) (k : ∀ (rz : Nat) (g2 : w_G) (o2 : w_O) (h2 : m_H), w_Inv g2 o2 h2 → w_gr g h g2 h2 → w_kp g g2 → P (some (.inl rz)) h2) : wp 1999 794624 [.inr (.inl (some 31)), .inl (w_i ho), .inl (w_i t)] [] h P := c_mPaint (d := 1992) iv ho_lo ho_hi t_lo t_hi (fun x  h2 iv2 F2 b0 b1 => k _ g o h2 iv2 (gr_fr F2) kp_rf)
theorem q_come {g : w_G} {o : w_O} {h : m_H} {P : Option m_V → m_H → Prop} (iv : w_Inv g o h) {what : Int} (what_lo : -2147483648 ≤ what) (what_hi : what ≤ 2147483647) (k : ∀ (rz : Nat) (g2 : w_G) (o2 : w_O) (h2 : m_H), w_Inv g2 o2 h2 → w_gr g h g2 h2 → w_kp g g2 → P (some (.inl rz)) h2) : wp 1999 413696 [.inr (.inl (some 0)), .inl (w_i what)] [] h P := c_come (d := 1993) iv what_lo what_hi (fun x g2 o2 h2 iv2 p oe gw b0 b1 => k _ g2 o2 h2 iv2 (gr_gw iv gw) (kp_pub p))
theorem q_mCome {g : w_G} {o : w_O} {h : m_H} {P : Option m_V → m_H → Prop} (iv : w_Inv g o h) {what : Int} (what_lo : -2147483648 ≤ what) (what_hi : what ≤ 2147483647) (k : ∀ (rz : Nat) (g2 : w_G) (o2 : w_O) (h2 : m_H), w_Inv g2 o2 h2 → w_gr g h g2 h2 → w_kp g g2 → P (some (.inl rz)) h2) : wp 1999 819200 [.inr (.inl (some 31)), .inl (w_i what), .inr (.inr (.inl 0))] [] h P := c_mCome (d := 1992) iv what_lo what_hi (fun x  h2 iv2 F2 b0 b1 => k _ g o h2 iv2 (gr_fr F2) kp_rf)
theorem q_shortest {g : w_G} {o : w_O} {h : m_H} {P : Option m_V → m_H → Prop} (iv : w_Inv g o h) {to : Int} (to_lo : -2147483648 ≤ to) (to_hi : to ≤ 2147483647) (k : ∀ (rz : Nat) (g2 : w_G) (o2 : w_O) (h2 : m_H), w_Inv g2 o2 h2 → w_gr g h g2 h2 → w_kp g g2 → P (some (.inl rz)) h2) : wp 1999 417792 [.inr (.inl (some 0)), .inl (w_i to)] [] h P := c_shortest (d := 1993) iv to_lo to_hi (fun x g2 o2 h2 iv2 p oe gw b0 b1 => k _ g2 o2 h2 iv2 (gr_gw iv gw) (kp_pub p))
theorem q_mShortest {g : w_G} {o : w_O} {h : m_H} {P : Option m_V → m_H → Prop} (iv : w_Inv g o h) {tn : Int} (tn_lo : -2147483648 ≤ tn) (tn_hi : tn ≤ 2147483647) (k : ∀ (rz : Nat) (g2 : w_G) (o2 : w_O) (h2 : m_H), w_Inv g2 o2 h2 → w_gr g h g2 h2 → w_kp g g2 → P (some (.inl rz)) h2) : wp 1999 823296 [.inr (.inl (some 31)), .inl (w_i tn)] [] h P := c_mShortest (d := 1992) iv tn_lo tn_hi (fun x  h2 iv2 F2 b0 b1 => k _ g o h2 iv2 (gr_fr F2) kp_rf)
theorem q_first {g : w_G} {o : w_O} {h : m_H} {P : Option m_V → m_H → Prop} (iv : w_Inv g o h) {to : Int} {i_ : Int} (to_lo : -2147483648 ≤ to) (to_hi : to ≤ 2147483647) (i__lo : -2147483648 ≤ i_) (i__hi : i_ ≤ 2147483647) (k : ∀ (rz : Nat) (g2 : w_G) (o2 : w_O) (h2 : m_H), w_Inv g2 o2 h2 → w_gr g h g2 h2 → w_kp g g2 → P (some (.inl rz)) h2) : wp 1999 421888 [.inr (.inl (some 0)), .inl (w_i to), .inl (w_i i_)] [] h P := c_first (d := 1993) iv to_lo to_hi i__lo i__hi (fun x g2 o2 h2 iv2 p oe gw b0 b1 => k _ g2 o2 h2 iv2 (gr_gw iv gw) (kp_pub p))
theorem q_mFirst {g : w_G} {o : w_O} {h : m_H} {P : Option m_V → m_H → Prop} (iv : w_Inv g o h) {tn : Int} {i_ : Int} (tn_lo : -2147483648 ≤ tn) (tn_hi : tn ≤ 2147483647) (i__lo : -2147483648 ≤ i_) (i__hi : i_ ≤ 2147483647) (k : ∀ (rz : Nat) (g2 : w_G) (o2 : w_O) (h2 : m_H), w_Inv g2 o2 h2 → w_gr g h g2 h2 → w_kp g g2 → P (some (.inl rz)) h2) : wp 1999 831488 [.inr (.inl (some 31)), .inl (w_i tn), .inl (w_i i_), .inr (.inr (.inl 0)), .inr (.inr (.inl 0)), .inr (.inr (.inl 0)), .inr (.inr (.inl 0))] [] h P := c_mFirst (d := 1993) iv tn_lo tn_hi i__lo i__hi (fun x  h2 iv2 F2 b0 b1 => k _ g o h2 iv2 (gr_fr F2) kp_rf)
theorem q_cheapest {g : w_G} {o : w_O} {h : m_H} {P : Option m_V → m_H → Prop} (iv : w_Inv g o h) {to : Int} (to_lo : -2147483648 ≤ to) (to_hi : to ≤ 2147483647) (k : ∀ (rz : Nat) (g2 : w_G) (o2 : w_O) (h2 : m_H), w_Inv g2 o2 h2 → w_gr g h g2 h2 → w_kp g g2 → P (some (.inl rz)) h2) : wp 1999 425984 [.inr (.inl (some 0)), .inl (w_i to)] [] h P := c_cheapest (d := 1993) iv to_lo to_hi (fun x g2 o2 h2 iv2 p oe gw b0 b1 => k _ g2 o2 h2 iv2 (gr_gw iv gw) (kp_pub p))
theorem q_mCheapest {g : w_G} {o : w_O} {h : m_H} {P : Option m_V → m_H → Prop} (iv : w_Inv g o h) {tn : Int} (tn_lo : -2147483648 ≤ tn) (tn_hi : tn ≤ 2147483647) (k : ∀ (rz : Nat) (g2 : w_G) (o2 : w_O) (h2 : m_H), w_Inv g2 o2 h2 → w_gr g h g2 h2 → w_kp g g2 → P (some (.inl rz)) h2) : wp 1999 839680 [.inr (.inl (some 31)), .inl (w_i tn)] [] h P := c_mCheapest (d := 1992) iv tn_lo tn_hi (fun x  h2 iv2 F2 b0 b1 => k _ g o h2 iv2 (gr_fr F2) kp_rf)
theorem q_wishes {g : w_G} {o : w_O} {h : m_H} {P : Option m_V → m_H → Prop} (iv : w_Inv g o h) {what : Int} (what_lo : -2147483648 ≤ what) (what_hi : what ≤ 2147483647) (k : ∀ (rz : Nat) (g2 : w_G) (o2 : w_O) (h2 : m_H), w_Inv g2 o2 h2 → w_gr g h g2 h2 → w_kp g g2 → P (some (.inl rz)) h2) : wp 1999 430080 [.inr (.inl (some 0)), .inl (w_i what), .inr (.inr (.inl 0))] [] h P := c_wishes (d := 1993) iv what_lo what_hi (fun x g2 o2 h2 iv2 p oe gw b0 b1 => k _ g2 o2 h2 iv2 (gr_gw iv gw) (kp_pub p))
theorem q_mWishes {g : w_G} {o : w_O} {h : m_H} {P : Option m_V → m_H → Prop} (iv : w_Inv g o h) {what : Int} (what_lo : -2147483648 ≤ what) (what_hi : what ≤ 2147483647) (k : ∀ (rz : Nat) (g2 : w_G) (o2 : w_O) (h2 : m_H), w_Inv g2 o2 h2 → w_gr g h g2 h2 → w_kp g g2 → P (some (.inl rz)) h2) : wp 1999 847872 [.inr (.inl (some 31)), .inl (w_i what), .inr (.inr (.inl 0)), .inr (.inr (.inl 0)), .inr (.inr (.inl 0))] [] h P := c_mWishes (d := 1992) iv what_lo what_hi (fun x  h2 iv2 F2 b0 b1 => k _ g o h2 iv2 (gr_fr F2) kp_rf)
theorem q_night {g : w_G} {o : w_O} {h : m_H} {P : Option m_V → m_H → Prop} (iv : w_Inv g o h) {a : Int} {b : Int} (a_lo : -2147483648 ≤ a) (a_hi : a ≤ 2147483647) (b_lo : -2147483648 ≤ b) (b_hi : b ≤ 2147483647) (k : ∀ (rz : Nat) (g2 : w_G) (o2 : w_O) (h2 : m_H), w_Inv g2 o2 h2 → w_gr g h g2 h2 → w_kp g g2 → P (some (.inl rz)) h2) : wp 1999 434176 [.inr (.inl (some 0)), .inl (w_i a), .inl (w_i b)] [] h P := c_night (d := 1994) iv a_lo a_hi b_lo b_hi (fun x g2 o2 h2 iv2 p oe gw b0 b1 => k _ g2 o2 h2 iv2 (gr_gw iv gw) (kp_pub p))
theorem q_mNight {g : w_G} {o : w_O} {h : m_H} {P : Option m_V → m_H → Prop} (iv : w_Inv g o h) {a : Int} {b : Int} (a_lo : -2147483648 ≤ a) (a_hi : a ≤ 2147483647) (b_lo : -2147483648 ≤ b) (b_hi : b ≤ 2147483647) (k : ∀ (rz : Nat) (g2 : w_G) (o2 : w_O) (h2 : m_H), w_Inv g2 o2 h2 → w_gr g h g2 h2 → w_kp g g2 → P (some (.inl rz)) h2) : wp 1999 851968 [.inr (.inl (some 31)), .inl (w_i a), .inl (w_i b), .inr (.inr (.inl 0)), .inr (.inr (.inl 0))] [] h P := c_mNight (d := 1993) iv a_lo a_hi b_lo b_hi (fun x  h2 iv2 F2 b0 b1 => k _ g o h2 iv2 (gr_fr F2) kp_rf)
theorem q_gap {g : w_G} {o : w_O} {h : m_H} {P : Option m_V → m_H → Prop} (iv : w_Inv g o h) {to : Int} (to_lo : -2147483648 ≤ to) (to_hi : to ≤ 2147483647) (k : ∀ (rz : Nat) (g2 : w_G) (o2 : w_O) (h2 : m_H), w_Inv g2 o2 h2 → w_gr g h g2 h2 → w_kp g g2 → P (some (.inl rz)) h2) : wp 1999 438272 [.inr (.inl (some 0)), .inl (w_i to)] [] h P := c_gap (d := 1998) iv to_lo to_hi (fun x b0 b1 => k _ g o h iv gr_rf kp_rf)
theorem q_mGap {g : w_G} {o : w_O} {h : m_H} {P : Option m_V → m_H → Prop} (iv : w_Inv g o h) {to : Int} (to_lo : -2147483648 ≤ to) (to_hi : to ≤ 2147483647) (k : ∀ (rz : Nat) (g2 : w_G) (o2 : w_O) (h2 : m_H), w_Inv g2 o2 h2 → w_gr g h g2 h2 → w_kp g g2 → P (some (.inl rz)) h2) : wp 1999 856064 [.inr (.inl (some 31)), .inl (w_i to), .inr (.inr (.inl 0)), .inr (.inr (.inl 0))] [] h P := c_mGap (d := 1999) iv to_lo to_hi (fun x b0 b1 => k _ g o h iv gr_rf kp_rf)
theorem q_turned {g : w_G} {o : w_O} {h : m_H} {P : Option m_V → m_H → Prop} (iv : w_Inv g o h) (k : ∀ (rz : Nat) (g2 : w_G) (o2 : w_O) (h2 : m_H), w_Inv g2 o2 h2 → w_gr g h g2 h2 → w_kp g g2 → P (some (.inl rz)) h2) : wp 1999 442368 [.inr (.inl (some 0)), .inr (.inr (.inl 0))] [] h P := c_turned (d := 1993) iv  (fun x g2 o2 h2 iv2 p oe gw b0 b1 => k _ g2 o2 h2 iv2 (gr_gw iv gw) (kp_pub p))
theorem q_mTurned {g : w_G} {o : w_O} {h : m_H} {P : Option m_V → m_H → Prop} (iv : w_Inv g o h) (k : ∀ (rz : Nat) (g2 : w_G) (o2 : w_O) (h2 : m_H), w_Inv g2 o2 h2 → w_gr g h g2 h2 → w_kp g g2 → P (some (.inl rz)) h2) : wp 1999 860160 [.inr (.inl (some 31)), .inr (.inr (.inl 0)), .inr (.inr (.inl 0))] [] h P := c_mTurned (d := 1992) iv  (fun x  h2 iv2 F2 b0 b1 => k _ g o h2 iv2 (gr_fr F2) kp_rf)
theorem q_touched {g : w_G} {o : w_O} {h : m_H} {P : Option m_V → m_H → Prop} (iv : w_Inv g o h) {to : Int} (to_lo : -2147483648 ≤ to) (to_hi : to ≤ 2147483647) (k : ∀ (rz : Nat) (g2 : w_G) (o2 : w_O) (h2 : m_H), w_Inv g2 o2 h2 → w_gr g h g2 h2 → w_kp g g2 → P (some (.inl rz)) h2) : wp 1999 446464 [.inr (.inl (some 0)), .inl (w_i to)] [] h P := c_touched (d := 1993) iv to_lo to_hi (fun x g2 o2 h2 iv2 p oe gw b0 b1 => k _ g2 o2 h2 iv2 (gr_gw iv gw) (kp_pub p))
theorem q_mTouched {g : w_G} {o : w_O} {h : m_H} {P : Option m_V → m_H → Prop} (iv : w_Inv g o h) {tn : Int} (tn_lo : -2147483648 ≤ tn) (tn_hi : tn ≤ 2147483647) (k : ∀ (rz : Nat) (g2 : w_G) (o2 : w_O) (h2 : m_H), w_Inv g2 o2 h2 → w_gr g h g2 h2 → w_kp g g2 → P (some (.inl rz)) h2) : wp 1999 864256 [.inr (.inl (some 31)), .inl (w_i tn), .inr (.inr (.inl 0)), .inr (.inr (.inl 0))] [] h P := c_mTouched (d := 1992) iv tn_lo tn_hi (fun x  h2 iv2 F2 b0 b1 => k _ g o h2 iv2 (gr_fr F2) kp_rf)
theorem q_worth {g : w_G} {o : w_O} {h : m_H} {P : Option m_V → m_H → Prop} (iv : w_Inv g o h) {what : Int} (what_lo : -2147483648 ≤ what) (what_hi : what ≤ 2147483647) (k : ∀ (rz : Nat) (g2 : w_G) (o2 : w_O) (h2 : m_H), w_Inv g2 o2 h2 → w_gr g h g2 h2 → w_kp g g2 → P (some (.inr (.inr (.inl rz)))) h2) : wp 1999 450560 [.inr (.inl (some 0)), .inl (w_i what), .inr (.inr (.inl 0))] [] h P := c_worth (d := 1993) iv what_lo what_hi (fun ll  g2 o2 h2 iv2 p oe gw  => k _ g2 o2 h2 iv2 (gr_gw iv gw) (kp_pub p))
theorem q_mWorth {g : w_G} {o : w_O} {h : m_H} {P : Option m_V → m_H → Prop} (iv : w_Inv g o h) {what : Int} (what_lo : -2147483648 ≤ what) (what_hi : what ≤ 2147483647) (k : ∀ (rz : Nat) (g2 : w_G) (o2 : w_O) (h2 : m_H), w_Inv g2 o2 h2 → w_gr g h g2 h2 → w_kp g g2 → P (some (.inr (.inr (.inl rz)))) h2) : wp 1999 872448 [.inr (.inl (some 31)), .inl (w_i what), .inr (.inr (.inl 0)), .inr (.inr (.inl 0)), .inr (.inr (.inl 0)), .inr (.inr (.inl 0))] [] h P := c_mWorth (d := 1992) iv what_lo what_hi (fun  ll h2 iv2 F2  => k _ g o h2 iv2 (gr_fr F2) kp_rf)
theorem q_judge {g : w_G} {o : w_O} {h : m_H} {P : Option m_V → m_H → Prop} (iv : w_Inv g o h) {sh : Int} {what : Int} (sh_lo : -2147483648 ≤ sh) (sh_hi : sh ≤ 2147483647) (what_lo : -2147483648 ≤ what) (what_hi : what ≤ 2147483647) (k : ∀ (rz : Nat) (g2 : w_G) (o2 : w_O) (h2 : m_H), w_Inv g2 o2 h2 → w_gr g h g2 h2 → w_kp g g2 → P (some (.inl rz)) h2) : wp 1999 454656 [.inr (.inl (some 0)), .inl (w_i sh), .inl (w_i what), .inr (.inr (.inl 0)), .inr (.inr (.inl 0)), .inr (.inr (.inl 0)), .inr (.inr (.inl 0))] [] h P := c_judge (d := 1993) iv sh_lo sh_hi what_lo what_hi (fun x  h2 iv2 F2 b0 b1 => k _ g o h2 iv2 (gr_fr F2) kp_rf)
theorem q_mJudge {g : w_G} {o : w_O} {h : m_H} {P : Option m_V → m_H → Prop} (iv : w_Inv g o h) {sh : Int} {wh : Int} (sh_lo : -2147483648 ≤ sh) (sh_hi : sh ≤ 2147483647) (wh_lo : -2147483648 ≤ wh) (wh_hi : wh ≤ 2147483647) (k : ∀ (rz : Nat) (g2 : w_G) (o2 : w_O) (h2 : m_H), w_Inv g2 o2 h2 → w_gr g h g2 h2 → w_kp g g2 → P (some (.inl rz)) h2) : wp 1999 876544 [.inr (.inl (some 31)), .inl (w_i sh), .inl (w_i wh), .inr (.inr (.inl 0)), .inr (.inr (.inl 0)), .inr (.inr (.inl 0)), .inr (.inr (.inl 0)), .inr (.inr (.inl 0)), .inr (.inr (.inl 0))] [] h P := c_mJudge (d := 1993) iv sh_lo sh_hi wh_lo wh_hi (fun x  h2 iv2 F2 b0 b1 => k _ g o h2 iv2 (gr_fr F2) kp_rf)
theorem q_drawn {g : w_G} {o : w_O} {h : m_H} {P : Option m_V → m_H → Prop} (iv : w_Inv g o h) {seed : Int} {n : Int} (seed_lo : -2147483648 ≤ seed) (seed_hi : seed ≤ 2147483647) (n_lo : -2147483648 ≤ n) (n_hi : n ≤ 2147483647) (k : ∀ (rz : Nat) (g2 : w_G) (o2 : w_O) (h2 : m_H), w_Inv g2 o2 h2 → w_gr g h g2 h2 → w_kp g g2 → P (some (.inl rz)) h2) : wp 1999 458752 [.inr (.inl (some 0)), .inl (w_i seed), .inl (w_i n), .inr (.inr (.inl 0)), .inr (.inr (.inl 0))] [] h P := c_drawn (d := 1993) iv seed_lo seed_hi n_lo n_hi (fun x  h2 iv2 F2 b0 b1 => k _ g o h2 iv2 (gr_fr F2) kp_rf)
theorem q_mDrawn {g : w_G} {o : w_O} {h : m_H} {P : Option m_V → m_H → Prop} (iv : w_Inv g o h) {sd : Int} {n : Int} (sd_lo : -2147483648 ≤ sd) (sd_hi : sd ≤ 2147483647) (n_lo : -2147483648 ≤ n) (n_hi : n ≤ 2147483647) (k : ∀ (rz : Nat) (g2 : w_G) (o2 : w_O) (h2 : m_H), w_Inv g2 o2 h2 → w_gr g h g2 h2 → w_kp g g2 → P (some (.inl rz)) h2) : wp 1999 880640 [.inr (.inl (some 31)), .inl (w_i sd), .inl (w_i n), .inr (.inr (.inl 0)), .inr (.inr (.inl 0)), .inr (.inr (.inl 0)), .inr (.inr (.inl 0)), .inr (.inr (.inl 0))] [] h P := c_mDrawn (d := 1993) iv sd_lo sd_hi n_lo n_hi (fun x  h2 iv2 F2 b0 b1 => k _ g o h2 iv2 (gr_fr F2) kp_rf)
theorem q_image {g : w_G} {o : w_O} {h : m_H} {P : Option m_V → m_H → Prop} (iv : w_Inv g o h) (k : ∀ (rz : Nat) (g2 : w_G) (o2 : w_O) (h2 : m_H), w_Inv g2 o2 h2 → w_gr g h g2 h2 → w_kp g g2 → P (some (.inl rz)) h2) : wp 1999 462848 [.inr (.inl (some 0))] [] h P := c_image (d := 1997) iv  (fun x g2 o2 h2 iv2 ch oe e1 e2  => k _ g2 o2 h2 iv2 (gr_ch rfl ch e1 e2) (kp_of (ch.1 0 rfl) (ch.1 1 rfl) (ch.1 3 rfl) (ch.1 6 rfl) (ch.1 7 rfl) (ch.1 9 rfl) (ch.2.1 1 rfl) (ch.2.1 2 rfl) (ch.2.1 4 rfl) (ch.2.1 5 rfl)))
theorem q_mImage {g : w_G} {o : w_O} {h : m_H} {P : Option m_V → m_H → Prop} (iv : w_Inv g o h) (k : ∀ (rz : Nat) (g2 : w_G) (o2 : w_O) (h2 : m_H), w_Inv g2 o2 h2 → w_gr g h g2 h2 → w_kp g g2 → P (some (.inl rz)) h2) : wp 1999 884736 [.inr (.inl (some 31)), .inr (.inr (.inl 0))] [] h P := c_mImage (d := 1998) iv  (fun x g2 h2 iv2 ch e1 e2  => k _ g2 o h2 iv2 (gr_eq rfl ch e1 e2) (kp_of (ch.1 0 rfl) (ch.1 1 rfl) (ch.1 3 rfl) (ch.1 6 rfl) (ch.1 7 rfl) (ch.1 9 rfl) (ch.2.1 1 rfl) (ch.2.1 2 rfl) (ch.2.1 4 rfl) (ch.2.1 5 rfl)))
theorem q_back {g : w_G} {o : w_O} {h : m_H} {P : Option m_V → m_H → Prop} (iv : w_Inv g o h) (k : ∀ (rz : Nat) (g2 : w_G) (o2 : w_O) (h2 : m_H), w_Inv g2 o2 h2 → w_gr g h g2 h2 → w_kp g g2 → P (some (.inl rz)) h2) : wp 1999 466944 [.inr (.inl (some 0))] [] h P := c_back (d := 1997) iv  (fun x  h2 iv2 F2 b0 b1 => k _ g o h2 iv2 (gr_fr F2) kp_rf)
theorem q_mBack {g : w_G} {o : w_O} {h : m_H} {P : Option m_V → m_H → Prop} (iv : w_Inv g o h) (k : ∀ (rz : Nat) (g2 : w_G) (o2 : w_O) (h2 : m_H), w_Inv g2 o2 h2 → w_gr g h g2 h2 → w_kp g g2 → P (some (.inl rz)) h2) : wp 1999 888832 [.inr (.inl (some 31)), .inr (.inr (.inl 0))] [] h P := c_mBack (d := 1998) iv  (fun x  h2 iv2 F2 b0 b1 => k _ g o h2 iv2 (gr_fr F2) kp_rf)
theorem q_count {g : w_G} {o : w_O} {h : m_H} {P : Option m_V → m_H → Prop} (iv : w_Inv g o h) {what : Int} (what_lo : -2147483648 ≤ what) (what_hi : what ≤ 2147483647) (k : ∀ (rz : Nat) (g2 : w_G) (o2 : w_O) (h2 : m_H), w_Inv g2 o2 h2 → w_gr g h g2 h2 → w_kp g g2 → P (some (.inl rz)) h2) : wp 1999 471040 [.inr (.inl (some 0)), .inl (w_i what)] [] h P := c_count (d := 1998) iv what_lo what_hi (fun x b0 b1 => k _ g o h iv gr_rf kp_rf)
theorem q_mCount {g : w_G} {o : w_O} {h : m_H} {P : Option m_V → m_H → Prop} (iv : w_Inv g o h) {n : Int} (n_lo : -2147483648 ≤ n) (n_hi : n ≤ 2147483647) (k : ∀ (rz : Nat) (g2 : w_G) (o2 : w_O) (h2 : m_H), w_Inv g2 o2 h2 → w_gr g h g2 h2 → w_kp g g2 → P (some (.inl rz)) h2) : wp 1999 892928 [.inr (.inl (some 31)), .inl (w_i n)] [] h P := c_mCount (d := 1998) iv n_lo n_hi (fun x b0 b1 => k _ g o h iv gr_rf kp_rf)
theorem q_sheet {g : w_G} {o : w_O} {h : m_H} {P : Option m_V → m_H → Prop} (iv : w_Inv g o h) {sh : Int} {so : Int} {n : Int} (sh_lo : -2147483648 ≤ sh) (sh_hi : sh ≤ 2147483647) (so_lo : -2147483648 ≤ so) (so_hi : so ≤ 2147483647) (n_lo : -2147483648 ≤ n) (n_hi : n ≤ 2147483647) (k : ∀ (rz : Nat) (g2 : w_G) (o2 : w_O) (h2 : m_H), w_Inv g2 o2 h2 → w_gr g h g2 h2 → w_kp g g2 → P (some (.inl rz)) h2) : wp 1999 475136 [.inr (.inl (some 0)), .inl (w_i sh), .inl (w_i so), .inl (w_i n)] [] h P := c_sheet (d := 1997) iv sh_lo sh_hi so_lo so_hi n_lo n_hi (fun g2 o2 h2 iv2 ch oe e1 e2 b0 b1 b2 => k _ g2 o2 h2 iv2 (gr_ch rfl ch e1 e2) (kp_of (ch.1 0 rfl) (ch.1 1 rfl) (ch.1 3 rfl) (ch.1 6 rfl) (ch.1 7 rfl) (ch.1 9 rfl) (ch.2.1 1 rfl) (ch.2.1 2 rfl) (ch.2.1 4 rfl) (ch.2.1 5 rfl))) (fun   h2 iv2 F2 b0 => k _ g o h2 iv2 (gr_fr F2) kp_rf) (fun   h2 iv2 F2 b0 b1 b2 b3 b4 => k _ g o h2 iv2 (gr_fr F2) kp_rf) (fun   h2 iv2 F2 b0 b1 b2 => k _ g o h2 iv2 (gr_fr F2) kp_rf)
theorem q_mSheet {g : w_G} {o : w_O} {h : m_H} {P : Option m_V → m_H → Prop} (iv : w_Inv g o h) {sh : Int} {so : Int} {n : Int} (sh_lo : -2147483648 ≤ sh) (sh_hi : sh ≤ 2147483647) (so_lo : -2147483648 ≤ so) (so_hi : so ≤ 2147483647) (n_lo : -2147483648 ≤ n) (n_hi : n ≤ 2147483647) (k : ∀ (rz : Nat) (g2 : w_G) (o2 : w_O) (h2 : m_H), w_Inv g2 o2 h2 → w_gr g h g2 h2 → w_kp g g2 → P (some (.inl rz)) h2) : wp 1999 901120 [.inr (.inl (some 31)), .inl (w_i sh), .inl (w_i so), .inl (w_i n), .inr (.inr (.inl 0))] [] h P := c_mSheet (d := 1998) iv sh_lo sh_hi so_lo so_hi n_lo n_hi (fun   h2 iv2 F2 b0 => k _ g o h2 iv2 (gr_fr F2) kp_rf) (fun   h2 iv2 F2 b0 b1 b2 b3 b4 => k _ g o h2 iv2 (gr_fr F2) kp_rf) (fun   h2 iv2 F2 b0 b1 b2 => k _ g o h2 iv2 (gr_fr F2) kp_rf)
theorem q_cell {g : w_G} {o : w_O} {h : m_H} {P : Option m_V → m_H → Prop} (iv : w_Inv g o h) {sh : Int} {n : Int} {v : Int} (sh_lo : -2147483648 ≤ sh) (sh_hi : sh ≤ 2147483647) (n_lo : -2147483648 ≤ n) (n_hi : n ≤ 2147483647) (v_lo : -2147483648 ≤ v) (v_hi : v ≤ 2147483647) (k : ∀ (rz : Nat) (g2 : w_G) (o2 : w_O) (h2 : m_H), w_Inv g2 o2 h2 → w_gr g h g2 h2 → w_kp g g2 → P (some (.inl rz)) h2) : wp 1999 479232 [.inr (.inl (some 0)), .inl (w_i sh), .inl (w_i n), .inl (w_i v), .inr (.inr (.inl 0))] [] h P := c_cell (d := 1997) iv sh_lo sh_hi n_lo n_hi v_lo v_hi (fun x  h2 iv2 F2 b0 b1 => k _ g o h2 iv2 (gr_fr F2) kp_rf)
theorem q_mCell {g : w_G} {o : w_O} {h : m_H} {P : Option m_V → m_H → Prop} (iv : w_Inv g o h) {sh : Int} {n : Int} {va : Int} (sh_lo : -2147483648 ≤ sh) (sh_hi : sh ≤ 2147483647) (n_lo : -2147483648 ≤ n) (n_hi : n ≤ 2147483647) (va_lo : -2147483648 ≤ va) (va_hi : va ≤ 2147483647) (k : ∀ (rz : Nat) (g2 : w_G) (o2 : w_O) (h2 : m_H), w_Inv g2 o2 h2 → w_gr g h g2 h2 → w_kp g g2 → P (some (.inl rz)) h2) : wp 1999 905216 [.inr (.inl (some 31)), .inl (w_i sh), .inl (w_i n), .inl (w_i va)] [] h P := c_mCell (d := 1998) iv sh_lo sh_hi n_lo n_hi va_lo va_hi (fun x  h2 iv2 F2 b0 b1 => k _ g o h2 iv2 (gr_fr F2) kp_rf)
theorem q_copy {g : w_G} {o : w_O} {h : m_H} {P : Option m_V → m_H → Prop} (iv : w_Inv g o h) {sh : Int} {n : Int} {ot : Int} {j : Int} {m : Int} (sh_lo : -2147483648 ≤ sh) (sh_hi : sh ≤ 2147483647) (n_lo : -2147483648 ≤ n) (n_hi : n ≤ 2147483647) (ot_lo : -2147483648 ≤ ot) (ot_hi : ot ≤ 2147483647) (j_lo : -2147483648 ≤ j) (j_hi : j ≤ 2147483647) (m_lo : -2147483648 ≤ m) (m_hi : m ≤ 2147483647) (k : ∀ (rz : Nat) (g2 : w_G) (o2 : w_O) (h2 : m_H), w_Inv g2 o2 h2 → w_gr g h g2 h2 → w_kp g g2 → P (some (.inl rz)) h2) : wp 1999 483328 [.inr (.inl (some 0)), .inl (w_i sh), .inl (w_i n), .inl (w_i ot), .inl (w_i j), .inl (w_i m), .inr (.inr (.inl 0)), .inr (.inr (.inl 0))] [] h P := c_copy (d := 1997) iv sh_lo sh_hi n_lo n_hi ot_lo ot_hi j_lo j_hi m_lo m_hi (fun x  h2 iv2 F2 b0 b1 => k _ g o h2 iv2 (gr_fr F2) kp_rf)
theorem q_mCopy {g : w_G} {o : w_O} {h : m_H} {P : Option m_V → m_H → Prop} (iv : w_Inv g o h) {sh : Int} {n : Int} {ot : Int} {j : Int} {m : Int} (sh_lo : -2147483648 ≤ sh) (sh_hi : sh ≤ 2147483647) (n_lo : -2147483648 ≤ n) (n_hi : n ≤ 2147483647) (ot_lo : -2147483648 ≤ ot) (ot_hi : ot ≤ 2147483647) (j_lo : -2147483648 ≤ j) (j_hi : j ≤ 2147483647) (m_lo : -2147483648 ≤ m) (m_hi : m ≤ 2147483647) (k : ∀ (rz : Nat) (g2 : w_G) (o2 : w_O) (h2 : m_H), w_Inv g2 o2 h2 → w_gr g h g2 h2 → w_kp g g2 → P (some (.inl rz)) h2) : wp 1999 913408 [.inr (.inl (some 31)), .inl (w_i sh), .inl (w_i n), .inl (w_i ot), .inl (w_i j), .inl (w_i m), .inr (.inr (.inl 0))] [] h P := c_mCopy (d := 1998) iv sh_lo sh_hi n_lo n_hi ot_lo ot_hi j_lo j_hi m_lo m_hi (fun x  h2 iv2 F2 b0 b1 => k _ g o h2 iv2 (gr_fr F2) kp_rf)
theorem q_paints {g : w_G} {o : w_O} {h : m_H} {P : Option m_V → m_H → Prop} (iv : w_Inv g o h) {sh : Int} {sort : Int} {fro : Int} {n : Int} (sh_lo : -2147483648 ≤ sh) (sh_hi : sh ≤ 2147483647) (sort_lo : -2147483648 ≤ sort) (sort_hi : sort ≤ 2147483647) (fro_lo : -2147483648 ≤ fro) (fro_hi : fro ≤ 2147483647) (n_lo : -2147483648 ≤ n) (n_hi : n ≤ 2147483647) (k : ∀ (rz : Nat) (g2 : w_G) (o2 : w_O) (h2 : m_H), w_Inv g2 o2 h2 → w_gr g h g2 h2 → w_kp g g2 → P (some (.inl rz)) h2) : wp 1999 487424 [.inr (.inl (some 0)), .inl (w_i sh), .inl (w_i sort), .inl (w_i fro), .inl (w_i n), .inr (.inr (.inl 0)), .inr (.inr (.inl 0)), .inr (.inr (.inl 0)), .inr (.inr (.inl 0))] [] h P := c_paints (d := 1993) iv sh_lo sh_hi sort_lo sort_hi fro_lo fro_hi n_lo n_hi (fun x  h2 iv2 F2 b0 b1 => k _ g o h2 iv2 (gr_fr F2) kp_rf)
theorem q_mPaints {g : w_G} {o : w_O} {h : m_H} {P : Option m_V → m_H → Prop} (iv : w_Inv g o h) {sh : Int} {so : Int} {fo : Int} {n : Int} (sh_lo : -2147483648 ≤ sh) (sh_hi : sh ≤ 2147483647) (so_lo : -2147483648 ≤ so) (so_hi : so ≤ 2147483647) (fo_lo : -2147483648 ≤ fo) (fo_hi : fo ≤ 2147483647) (n_lo : -2147483648 ≤ n) (n_hi : n ≤ 2147483647) (k : ∀ (rz : Nat) (g2 : w_G) (o2 : w_O) (h2 : m_H), w_Inv g2 o2 h2 → w_gr g h g2 h2 → w_kp g g2 → P (some (.inl rz)) h2) : wp 1999 917504 [.inr (.inl (some 31)), .inl (w_i sh), .inl (w_i so), .inl (w_i fo), .inl (w_i n), .inr (.inr (.inl 0)), .inr (.inr (.inl 0)), .inr (.inr (.inl 0)), .inr (.inr (.inl 0)), .inr (.inr (.inl 0))] [] h P := c_mPaints (d := 1992) iv sh_lo sh_hi so_lo so_hi fo_lo fo_hi n_lo n_hi (fun x  h2 iv2 F2 b0 b1 => k _ g o h2 iv2 (gr_fr F2) kp_rf)
theorem q_taken {g : w_G} {o : w_O} {h : m_H} {P : Option m_V → m_H → Prop} (iv : w_Inv g o h) {pa_ : Int} {kd : Int} (pa__lo : -2147483648 ≤ pa_) (pa__hi : pa_ ≤ 2147483647) (kd_lo : -2147483648 ≤ kd) (kd_hi : kd ≤ 2147483647) (k : ∀ (rz : Nat) (g2 : w_G) (o2 : w_O) (h2 : m_H), w_Inv g2 o2 h2 → w_gr g h g2 h2 → w_kp g g2 → P (some (.inl rz)) h2) : wp 1999 491520 [.inr (.inl (some 0)), .inl (w_i pa_), .inl (w_i kd), .inr (.inr (.inl 0))] [] h P := c_taken (d := 1997) iv pa__lo pa__hi kd_lo kd_hi (fun x b0 b1 b2 => k _ g o h iv gr_rf kp_rf)
theorem q_mTakenX {g : w_G} {o : w_O} {h : m_H} {P : Option m_V → m_H → Prop} (iv : w_Inv g o h) {pa : Int} {kd : Int} (pa_lo : -2147483648 ≤ pa) (pa_hi : pa ≤ 2147483647) (kd_lo : -2147483648 ≤ kd) (kd_hi : kd ≤ 2147483647) (k : ∀ (rz : Nat) (g2 : w_G) (o2 : w_O) (h2 : m_H), w_Inv g2 o2 h2 → w_gr g h g2 h2 → w_kp g g2 → P (some (.inl rz)) h2) : wp 1999 643072 [.inr (.inl (some 31)), .inl (w_i pa), .inl (w_i kd)] [] h P := c_mTakenX (d := 1998) iv pa_lo pa_hi kd_lo kd_hi (fun x b0 b1 b2 => k _ g o h iv gr_rf kp_rf)
theorem lc_0 {xs : List Nat} {g : w_G} {o : w_O} {h : m_H} {i : Int} (iv : w_Inv g o h) (we : w_eq g) (hall : ∀ a ∈ xs, a < 4294967296) (hn : xs.length ≤ 3072) (i0 : 0 ≤ i) (i1 : i + 6 ≤ (xs.length : Int)) (kk : ∀ (g2 : w_G) (o2 : w_O) (h2 : m_H), w_Inv g2 o2 h2 → w_eq g2 → h2.1 ≤ h.1 + 10 → (h2.2.1 : Int) - 5 * w_Sz (g_L g2) ≤ (h.2.1 : Int) - 5 * w_Sz (g_L g) + 400 → lp xs 1132 [.inr (.inr (.inr 0)), .inr (.inl (some 0)), .inr (.inl (some 31)), .inl (w_i i)] [] h2) : lp xs 176 [.inr (.inr (.inr 0)), .inr (.inl (some 0)), .inr (.inl (some 31)), .inl (w_i i)] [] h := by
  refine l_run (show t_0 xs 176 = g_0_176 xs from rfl) ?_
  unfold g_0_176
  refine l_al (fun _ => rfl) (l_als (fun _ => rfl) (l_il (fun _ => rfl) (l_icI (x := 1) rfl (l_op (c := w_i (i + 1)) (i_add i 1) (l_sld hall (by omega) (by omega) (by omega) (l_als (fun _ => rfl) (l_il (fun _ => rfl) (l_icI (x := 2) rfl (l_op (c := w_i (i + 2)) (i_add i 2) (l_sld hall (by omega) (by omega) (by omega) ?_))))))))))
  obtain ⟨_, m0, rfl⟩ := iv_0 iv
  refine l_this (fun _ => rfl) m0 ?_
  refine l_ca (fun _ => rfl) rfl (q_build iv (hh := (a_s xs (i + 1))) (c := (a_s xs (i + 2))) (as_rg xs _).1 (as_rg xs _).2 (as_rg xs _).1 (as_rg xs _).2 (fun n1 g1 o1 h1 iv1 gr1 k1 => ⟨_, rfl, ?_⟩))
  refine l_popi (l_al (fun _ => rfl) (l_als (fun _ => rfl) (l_il (fun _ => rfl) (l_icI (x := 1) rfl (l_op (c := w_i (i + 1)) (i_add i 1) (l_sld hall (by omega) (by omega) (by omega) (l_als (fun _ => rfl) (l_il (fun _ => rfl) (l_icI (x := 2) rfl (l_op (c := w_i (i + 2)) (i_add i 2) (l_sld hall (by omega) (by omega) (by omega) ?_)))))))))))
  obtain ⟨_, m31, _, _, _, _, _, _, _, _, _, _, _, _, _, _, rfl, _⟩ := iv_31 iv1
  refine l_this (fun _ => rfl) m31 ?_
  refine l_ca (fun _ => rfl) rfl (q_mBuild iv1 (hh := (a_s xs (i + 1))) (c := (a_s xs (i + 2))) (as_rg xs _).1 (as_rg xs _).2 (as_rg xs _).1 (as_rg xs _).2 (fun n2 g2 o2 h2 iv2 gr2 k2 => ⟨_, rfl, ?_⟩))
  refine l_popi (l_go ?_)
  exact kk g2 o2 h2 iv2 (eq_B we k1 k2).1 (by have := gr1.1; have := gr2.1; omega) (by have := gr1.2; have := gr2.2; omega)
theorem lc_1 {xs : List Nat} {g : w_G} {o : w_O} {h : m_H} {i : Int} (iv : w_Inv g o h) (we : w_eq g) (hall : ∀ a ∈ xs, a < 4294967296) (hn : xs.length ≤ 3072) (i0 : 0 ≤ i) (i1 : i + 6 ≤ (xs.length : Int)) (kk : ∀ (g2 : w_G) (o2 : w_O) (h2 : m_H), w_Inv g2 o2 h2 → w_eq g2 → h2.1 ≤ h.1 + 10 → (h2.2.1 : Int) - 5 * w_Sz (g_L g2) ≤ (h.2.1 : Int) - 5 * w_Sz (g_L g) + 400 → lp xs 1132 [.inr (.inr (.inr 0)), .inr (.inl (some 0)), .inr (.inl (some 31)), .inl (w_i i)] [] h2) : lp xs 209 [.inr (.inr (.inr 0)), .inr (.inl (some 0)), .inr (.inl (some 31)), .inl (w_i i)] [] h := by
  refine l_run (show t_0 xs 209 = g_0_209 xs from rfl) ?_
  unfold g_0_209
  refine l_al (fun _ => rfl) (l_als (fun _ => rfl) (l_il (fun _ => rfl) (l_icI (x := 1) rfl (l_op (c := w_i (i + 1)) (i_add i 1) (l_sld hall (by omega) (by omega) (by omega) (l_als (fun _ => rfl) (l_il (fun _ => rfl) (l_icI (x := 2) rfl (l_op (c := w_i (i + 2)) (i_add i 2) (l_sld hall (by omega) (by omega) (by omega) (l_als (fun _ => rfl) (l_il (fun _ => rfl) (l_icI (x := 3) rfl (l_op (c := w_i (i + 3)) (i_add i 3) (l_sld hall (by omega) (by omega) (by omega) ?_)))))))))))))))
  obtain ⟨_, m0, rfl⟩ := iv_0 iv
  refine l_this (fun _ => rfl) m0 ?_
  refine l_ca (fun _ => rfl) rfl (q_touch iv (a := (a_s xs (i + 1))) (b := (a_s xs (i + 2))) (is_ := (a_s xs (i + 3))) (as_rg xs _).1 (as_rg xs _).2 (as_rg xs _).1 (as_rg xs _).2 (as_rg xs _).1 (as_rg xs _).2 (fun n1 g1 o1 h1 iv1 gr1 k1 => ⟨_, rfl, ?_⟩))
  refine l_popi (l_al (fun _ => rfl) (l_als (fun _ => rfl) (l_il (fun _ => rfl) (l_icI (x := 1) rfl (l_op (c := w_i (i + 1)) (i_add i 1) (l_sld hall (by omega) (by omega) (by omega) (l_als (fun _ => rfl) (l_il (fun _ => rfl) (l_icI (x := 2) rfl (l_op (c := w_i (i + 2)) (i_add i 2) (l_sld hall (by omega) (by omega) (by omega) (l_als (fun _ => rfl) (l_il (fun _ => rfl) (l_icI (x := 3) rfl (l_op (c := w_i (i + 3)) (i_add i 3) (l_sld hall (by omega) (by omega) (by omega) ?_))))))))))))))))
  obtain ⟨_, m31, _, _, _, _, _, _, _, _, _, _, _, _, _, _, rfl, _⟩ := iv_31 iv1
  refine l_this (fun _ => rfl) m31 ?_
  refine l_ca (fun _ => rfl) rfl (q_mTouch iv1 (a := (a_s xs (i + 1))) (b := (a_s xs (i + 2))) (is_ := (a_s xs (i + 3))) (as_rg xs _).1 (as_rg xs _).2 (as_rg xs _).1 (as_rg xs _).2 (as_rg xs _).1 (as_rg xs _).2 (fun n2 g2 o2 h2 iv2 gr2 k2 => ⟨_, rfl, ?_⟩))
  refine l_popi (l_go ?_)
  exact kk g2 o2 h2 iv2 (eq_kp k2 (eq_kp k1 we)) (by have := gr1.1; have := gr2.1; omega) (by have := gr1.2; have := gr2.2; omega)
theorem lc_2 {xs : List Nat} {g : w_G} {o : w_O} {h : m_H} {i : Int} (iv : w_Inv g o h) (we : w_eq g) (hall : ∀ a ∈ xs, a < 4294967296) (hn : xs.length ≤ 3072) (i0 : 0 ≤ i) (i1 : i + 6 ≤ (xs.length : Int)) (kk : ∀ (g2 : w_G) (o2 : w_O) (h2 : m_H), w_Inv g2 o2 h2 → w_eq g2 → h2.1 ≤ h.1 + 10 → (h2.2.1 : Int) - 5 * w_Sz (g_L g2) ≤ (h.2.1 : Int) - 5 * w_Sz (g_L g) + 400 → lp xs 1132 [.inr (.inr (.inr 0)), .inr (.inl (some 0)), .inr (.inl (some 31)), .inl (w_i i)] [] h2) : lp xs 252 [.inr (.inr (.inr 0)), .inr (.inl (some 0)), .inr (.inl (some 31)), .inl (w_i i)] [] h := by
  refine l_run (show t_0 xs 252 = g_0_252 xs from rfl) ?_
  unfold g_0_252
  refine l_al (fun _ => rfl) (l_als (fun _ => rfl) (l_il (fun _ => rfl) (l_icI (x := 1) rfl (l_op (c := w_i (i + 1)) (i_add i 1) (l_sld hall (by omega) (by omega) (by omega) (l_als (fun _ => rfl) (l_il (fun _ => rfl) (l_icI (x := 2) rfl (l_op (c := w_i (i + 2)) (i_add i 2) (l_sld hall (by omega) (by omega) (by omega) (l_als (fun _ => rfl) (l_il (fun _ => rfl) (l_icI (x := 3) rfl (l_op (c := w_i (i + 3)) (i_add i 3) (l_sld hall (by omega) (by omega) (by omega) ?_)))))))))))))))
  obtain ⟨_, m0, rfl⟩ := iv_0 iv
  refine l_this (fun _ => rfl) m0 ?_
  refine l_ca (fun _ => rfl) rfl (q_set iv (what := (a_s xs (i + 1))) (of := (a_s xs (i + 2))) (v := (a_s xs (i + 3))) (as_rg xs _).1 (as_rg xs _).2 (as_rg xs _).1 (as_rg xs _).2 (as_rg xs _).1 (as_rg xs _).2 (fun n1 g1 o1 h1 iv1 gr1 k1 => ⟨_, rfl, ?_⟩))
  refine l_popi (l_al (fun _ => rfl) (l_als (fun _ => rfl) (l_il (fun _ => rfl) (l_icI (x := 1) rfl (l_op (c := w_i (i + 1)) (i_add i 1) (l_sld hall (by omega) (by omega) (by omega) (l_als (fun _ => rfl) (l_il (fun _ => rfl) (l_icI (x := 2) rfl (l_op (c := w_i (i + 2)) (i_add i 2) (l_sld hall (by omega) (by omega) (by omega) (l_als (fun _ => rfl) (l_il (fun _ => rfl) (l_icI (x := 3) rfl (l_op (c := w_i (i + 3)) (i_add i 3) (l_sld hall (by omega) (by omega) (by omega) ?_))))))))))))))))
  obtain ⟨_, m31, _, _, _, _, _, _, _, _, _, _, _, _, _, _, rfl, _⟩ := iv_31 iv1
  refine l_this (fun _ => rfl) m31 ?_
  refine l_ca (fun _ => rfl) rfl (q_mSet iv1 (what := (a_s xs (i + 1))) (of := (a_s xs (i + 2))) (v := (a_s xs (i + 3))) (as_rg xs _).1 (as_rg xs _).2 (as_rg xs _).1 (as_rg xs _).2 (as_rg xs _).1 (as_rg xs _).2 (fun n2 g2 o2 h2 iv2 gr2 k2 => ⟨_, rfl, ?_⟩))
  refine l_popi (l_go ?_)
  exact kk g2 o2 h2 iv2 (eq_kp k2 (eq_kp k1 we)) (by have := gr1.1; have := gr2.1; omega) (by have := gr1.2; have := gr2.2; omega)
theorem lc_3 {xs : List Nat} {g : w_G} {o : w_O} {h : m_H} {i : Int} (iv : w_Inv g o h) (we : w_eq g) (hall : ∀ a ∈ xs, a < 4294967296) (hn : xs.length ≤ 3072) (i0 : 0 ≤ i) (i1 : i + 6 ≤ (xs.length : Int)) (kk : ∀ (g2 : w_G) (o2 : w_O) (h2 : m_H), w_Inv g2 o2 h2 → w_eq g2 → h2.1 ≤ h.1 + 10 → (h2.2.1 : Int) - 5 * w_Sz (g_L g2) ≤ (h.2.1 : Int) - 5 * w_Sz (g_L g) + 400 → lp xs 1132 [.inr (.inr (.inr 0)), .inr (.inl (some 0)), .inr (.inl (some 31)), .inl (w_i i)] [] h2) : lp xs 295 [.inr (.inr (.inr 0)), .inr (.inl (some 0)), .inr (.inl (some 31)), .inl (w_i i)] [] h := by
  refine l_run (show t_0 xs 295 = g_0_295 xs from rfl) ?_
  unfold g_0_295
  refine l_al (fun _ => rfl) (l_als (fun _ => rfl) (l_il (fun _ => rfl) (l_icI (x := 1) rfl (l_op (c := w_i (i + 1)) (i_add i 1) (l_sld hall (by omega) (by omega) (by omega) (l_als (fun _ => rfl) (l_il (fun _ => rfl) (l_icI (x := 2) rfl (l_op (c := w_i (i + 2)) (i_add i 2) (l_sld hall (by omega) (by omega) (by omega) ?_))))))))))
  obtain ⟨_, m0, rfl⟩ := iv_0 iv
  refine l_this (fun _ => rfl) m0 ?_
  refine l_ca (fun _ => rfl) rfl (q_told iv (house := (a_s xs (i + 1))) (what := (a_s xs (i + 2))) (as_rg xs _).1 (as_rg xs _).2 (as_rg xs _).1 (as_rg xs _).2 (fun n1 g1 o1 h1 iv1 gr1 k1 => ⟨_, rfl, ?_⟩))
  refine l_popi (l_al (fun _ => rfl) (l_als (fun _ => rfl) (l_il (fun _ => rfl) (l_icI (x := 1) rfl (l_op (c := w_i (i + 1)) (i_add i 1) (l_sld hall (by omega) (by omega) (by omega) (l_als (fun _ => rfl) (l_il (fun _ => rfl) (l_icI (x := 2) rfl (l_op (c := w_i (i + 2)) (i_add i 2) (l_sld hall (by omega) (by omega) (by omega) ?_)))))))))))
  obtain ⟨_, m31, _, _, _, _, _, _, _, _, _, _, _, _, _, _, rfl, _⟩ := iv_31 iv1
  refine l_this (fun _ => rfl) m31 ?_
  refine l_ca (fun _ => rfl) rfl (q_mTold iv1 (house := (a_s xs (i + 1))) (what := (a_s xs (i + 2))) (as_rg xs _).1 (as_rg xs _).2 (as_rg xs _).1 (as_rg xs _).2 (fun n2 g2 o2 h2 iv2 gr2 k2 => ⟨_, rfl, ?_⟩))
  refine l_popi (l_go ?_)
  exact kk g2 o2 h2 iv2 (eq_kp k2 (eq_kp k1 we)) (by have := gr1.1; have := gr2.1; omega) (by have := gr1.2; have := gr2.2; omega)
theorem lc_4 {xs : List Nat} {g : w_G} {o : w_O} {h : m_H} {i : Int} (iv : w_Inv g o h) (we : w_eq g) (hall : ∀ a ∈ xs, a < 4294967296) (hn : xs.length ≤ 3072) (i0 : 0 ≤ i) (i1 : i + 6 ≤ (xs.length : Int)) (kk : ∀ (g2 : w_G) (o2 : w_O) (h2 : m_H), w_Inv g2 o2 h2 → w_eq g2 → h2.1 ≤ h.1 + 10 → (h2.2.1 : Int) - 5 * w_Sz (g_L g2) ≤ (h.2.1 : Int) - 5 * w_Sz (g_L g) + 400 → lp xs 1132 [.inr (.inr (.inr 0)), .inr (.inl (some 0)), .inr (.inl (some 31)), .inl (w_i i)] [] h2) : lp xs 328 [.inr (.inr (.inr 0)), .inr (.inl (some 0)), .inr (.inl (some 31)), .inl (w_i i)] [] h := by
  refine l_run (show t_0 xs 328 = g_0_328 xs from rfl) ?_
  unfold g_0_328
  refine l_al (fun _ => rfl) (l_als (fun _ => rfl) (l_il (fun _ => rfl) (l_icI (x := 1) rfl (l_op (c := w_i (i + 1)) (i_add i 1) (l_sld hall (by omega) (by omega) (by omega) (l_als (fun _ => rfl) (l_il (fun _ => rfl) (l_icI (x := 2) rfl (l_op (c := w_i (i + 2)) (i_add i 2) (l_sld hall (by omega) (by omega) (by omega) ?_))))))))))
  obtain ⟨_, m0, rfl⟩ := iv_0 iv
  refine l_this (fun _ => rfl) m0 ?_
  refine l_ca (fun _ => rfl) rfl (q_painter iv (kd := (a_s xs (i + 1))) (nu := (a_s xs (i + 2))) (as_rg xs _).1 (as_rg xs _).2 (as_rg xs _).1 (as_rg xs _).2 (fun n1 g1 o1 h1 iv1 gr1 k1 => ⟨_, rfl, ?_⟩))
  refine l_popi (l_al (fun _ => rfl) (l_als (fun _ => rfl) (l_il (fun _ => rfl) (l_icI (x := 1) rfl (l_op (c := w_i (i + 1)) (i_add i 1) (l_sld hall (by omega) (by omega) (by omega) (l_als (fun _ => rfl) (l_il (fun _ => rfl) (l_icI (x := 2) rfl (l_op (c := w_i (i + 2)) (i_add i 2) (l_sld hall (by omega) (by omega) (by omega) ?_)))))))))))
  obtain ⟨_, m31, _, _, _, _, _, _, _, _, _, _, _, _, _, _, rfl, _⟩ := iv_31 iv1
  refine l_this (fun _ => rfl) m31 ?_
  refine l_ca (fun _ => rfl) rfl (q_mPainter iv1 (kd := (a_s xs (i + 1))) (nu := (a_s xs (i + 2))) (as_rg xs _).1 (as_rg xs _).2 (as_rg xs _).1 (as_rg xs _).2 (fun n2 g2 o2 h2 iv2 gr2 k2 => ⟨_, rfl, ?_⟩))
  refine l_popi (l_go ?_)
  exact kk g2 o2 h2 iv2 (eq_P we k1 k2).1 (by have := gr1.1; have := gr2.1; omega) (by have := gr1.2; have := gr2.2; omega)
theorem lc_5 {xs : List Nat} {g : w_G} {o : w_O} {h : m_H} {i : Int} (iv : w_Inv g o h) (we : w_eq g) (hall : ∀ a ∈ xs, a < 4294967296) (hn : xs.length ≤ 3072) (i0 : 0 ≤ i) (i1 : i + 6 ≤ (xs.length : Int)) (kk : ∀ (g2 : w_G) (o2 : w_O) (h2 : m_H), w_Inv g2 o2 h2 → w_eq g2 → h2.1 ≤ h.1 + 10 → (h2.2.1 : Int) - 5 * w_Sz (g_L g2) ≤ (h.2.1 : Int) - 5 * w_Sz (g_L g) + 400 → lp xs 1132 [.inr (.inr (.inr 0)), .inr (.inl (some 0)), .inr (.inl (some 31)), .inl (w_i i)] [] h2) : lp xs 361 [.inr (.inr (.inr 0)), .inr (.inl (some 0)), .inr (.inl (some 31)), .inl (w_i i)] [] h := by
  refine l_run (show t_0 xs 361 = g_0_361 xs from rfl) ?_
  unfold g_0_361
  refine l_al (fun _ => rfl) (l_als (fun _ => rfl) (l_il (fun _ => rfl) (l_icI (x := 1) rfl (l_op (c := w_i (i + 1)) (i_add i 1) (l_sld hall (by omega) (by omega) (by omega) (l_als (fun _ => rfl) (l_il (fun _ => rfl) (l_icI (x := 2) rfl (l_op (c := w_i (i + 2)) (i_add i 2) (l_sld hall (by omega) (by omega) (by omega) (l_als (fun _ => rfl) (l_il (fun _ => rfl) (l_icI (x := 3) rfl (l_op (c := w_i (i + 3)) (i_add i 3) (l_sld hall (by omega) (by omega) (by omega) ?_)))))))))))))))
  obtain ⟨_, m0, rfl⟩ := iv_0 iv
  refine l_this (fun _ => rfl) m0 ?_
  refine l_ca (fun _ => rfl) rfl (q_asksX iv (pa_ := (a_s xs (i + 1))) (st := (a_s xs (i + 2))) (wh := (a_s xs (i + 3))) (as_rg xs _).1 (as_rg xs _).2 (as_rg xs _).1 (as_rg xs _).2 (as_rg xs _).1 (as_rg xs _).2 (fun n1 g1 o1 h1 iv1 gr1 k1 e1 => ⟨_, rfl, ?_⟩))
  refine l_al (fun _ => rfl) (l_als (fun _ => rfl) (l_il (fun _ => rfl) (l_icI (x := 1) rfl (l_op (c := w_i (i + 1)) (i_add i 1) (l_sld hall (by omega) (by omega) (by omega) (l_als (fun _ => rfl) (l_il (fun _ => rfl) (l_icI (x := 2) rfl (l_op (c := w_i (i + 2)) (i_add i 2) (l_sld hall (by omega) (by omega) (by omega) (l_als (fun _ => rfl) (l_il (fun _ => rfl) (l_icI (x := 3) rfl (l_op (c := w_i (i + 3)) (i_add i 3) (l_sld hall (by omega) (by omega) (by omega) ?_)))))))))))))))
  obtain ⟨_, m31, _, _, _, _, _, _, _, _, _, _, _, _, _, _, rfl, _⟩ := iv_31 iv1
  refine l_this (fun _ => rfl) m31 ?_
  refine l_ca (fun _ => rfl) rfl (q_mAsksX iv1 (pa := (a_s xs (i + 1))) (st := (a_s xs (i + 2))) (wh := (a_s xs (i + 3))) (as_rg xs _).1 (as_rg xs _).2 (as_rg xs _).1 (as_rg xs _).2 (as_rg xs _).1 (as_rg xs _).2 (fun n2 g2 o2 h2 iv2 gr2 k2 e2 => ⟨_, rfl, ?_⟩))
  refine l_beq (by have : n1 = n2 := (eq_asks we k1 k2 e1 e2); rw [this]) ?_
  exact kk g2 o2 h2 iv2 (eq_kp k2 (eq_kp k1 we)) (by have := gr1.1; have := gr2.1; omega) (by have := gr1.2; have := gr2.2; omega)
theorem lc_6 {xs : List Nat} {g : w_G} {o : w_O} {h : m_H} {i : Int} (iv : w_Inv g o h) (we : w_eq g) (hall : ∀ a ∈ xs, a < 4294967296) (hn : xs.length ≤ 3072) (i0 : 0 ≤ i) (i1 : i + 6 ≤ (xs.length : Int)) (kk : ∀ (g2 : w_G) (o2 : w_O) (h2 : m_H), w_Inv g2 o2 h2 → w_eq g2 → h2.1 ≤ h.1 + 10 → (h2.2.1 : Int) - 5 * w_Sz (g_L g2) ≤ (h.2.1 : Int) - 5 * w_Sz (g_L g) + 400 → lp xs 1132 [.inr (.inr (.inr 0)), .inr (.inl (some 0)), .inr (.inl (some 31)), .inl (w_i i)] [] h2) : lp xs 404 [.inr (.inr (.inr 0)), .inr (.inl (some 0)), .inr (.inl (some 31)), .inl (w_i i)] [] h := by
  refine l_run (show t_0 xs 404 = g_0_404 xs from rfl) ?_
  unfold g_0_404
  refine l_al (fun _ => rfl) (l_als (fun _ => rfl) (l_il (fun _ => rfl) (l_icI (x := 1) rfl (l_op (c := w_i (i + 1)) (i_add i 1) (l_sld hall (by omega) (by omega) (by omega) ?_)))))
  obtain ⟨_, m0, rfl⟩ := iv_0 iv
  refine l_this (fun _ => rfl) m0 ?_
  refine l_ca (fun _ => rfl) rfl (q_feed iv (le := (a_s xs (i + 1))) (as_rg xs _).1 (as_rg xs _).2 (fun n1 g1 o1 h1 iv1 gr1 k1 => ⟨_, rfl, ?_⟩))
  refine l_popi (l_al (fun _ => rfl) (l_als (fun _ => rfl) (l_il (fun _ => rfl) (l_icI (x := 1) rfl (l_op (c := w_i (i + 1)) (i_add i 1) (l_sld hall (by omega) (by omega) (by omega) ?_))))))
  obtain ⟨_, m31, _, _, _, _, _, _, _, _, _, _, _, _, _, _, rfl, _⟩ := iv_31 iv1
  refine l_this (fun _ => rfl) m31 ?_
  refine l_ca (fun _ => rfl) rfl (q_mFeed iv1 (le := (a_s xs (i + 1))) (as_rg xs _).1 (as_rg xs _).2 (fun n2 g2 o2 h2 iv2 gr2 k2 => ⟨_, rfl, ?_⟩))
  refine l_popi (l_go ?_)
  exact kk g2 o2 h2 iv2 (eq_kp k2 (eq_kp k1 we)) (by have := gr1.1; have := gr2.1; omega) (by have := gr1.2; have := gr2.2; omega)
theorem lc_7 {xs : List Nat} {g : w_G} {o : w_O} {h : m_H} {i : Int} (iv : w_Inv g o h) (we : w_eq g) (hall : ∀ a ∈ xs, a < 4294967296) (hn : xs.length ≤ 3072) (i0 : 0 ≤ i) (i1 : i + 6 ≤ (xs.length : Int)) (kk : ∀ (g2 : w_G) (o2 : w_O) (h2 : m_H), w_Inv g2 o2 h2 → w_eq g2 → h2.1 ≤ h.1 + 10 → (h2.2.1 : Int) - 5 * w_Sz (g_L g2) ≤ (h.2.1 : Int) - 5 * w_Sz (g_L g) + 400 → lp xs 1132 [.inr (.inr (.inr 0)), .inr (.inl (some 0)), .inr (.inl (some 31)), .inl (w_i i)] [] h2) : lp xs 427 [.inr (.inr (.inr 0)), .inr (.inl (some 0)), .inr (.inl (some 31)), .inl (w_i i)] [] h := by
  refine l_run (show t_0 xs 427 = g_0_427 xs from rfl) ?_
  unfold g_0_427
  refine l_al (fun _ => rfl) ?_
  obtain ⟨_, m0, rfl⟩ := iv_0 iv
  refine l_this (fun _ => rfl) m0 ?_
  refine l_ca (fun _ => rfl) rfl (q_text iv   (fun n1 g1 o1 h1 iv1 gr1 k1 => ⟨_, rfl, ?_⟩))
  refine l_popi (l_al (fun _ => rfl) ?_)
  obtain ⟨_, m31, _, _, _, _, _, _, _, _, _, _, _, _, _, _, rfl, _⟩ := iv_31 iv1
  refine l_this (fun _ => rfl) m31 ?_
  refine l_ca (fun _ => rfl) rfl (q_mText iv1   (fun n2 g2 o2 h2 iv2 gr2 k2 => ⟨_, rfl, ?_⟩))
  refine l_popi (l_go ?_)
  exact kk g2 o2 h2 iv2 (eq_kp k2 (eq_kp k1 we)) (by have := gr1.1; have := gr2.1; omega) (by have := gr1.2; have := gr2.2; omega)
theorem lc_8 {xs : List Nat} {g : w_G} {o : w_O} {h : m_H} {i : Int} (iv : w_Inv g o h) (we : w_eq g) (hall : ∀ a ∈ xs, a < 4294967296) (hn : xs.length ≤ 3072) (i0 : 0 ≤ i) (i1 : i + 6 ≤ (xs.length : Int)) (kk : ∀ (g2 : w_G) (o2 : w_O) (h2 : m_H), w_Inv g2 o2 h2 → w_eq g2 → h2.1 ≤ h.1 + 10 → (h2.2.1 : Int) - 5 * w_Sz (g_L g2) ≤ (h.2.1 : Int) - 5 * w_Sz (g_L g) + 400 → lp xs 1132 [.inr (.inr (.inr 0)), .inr (.inl (some 0)), .inr (.inl (some 31)), .inl (w_i i)] [] h2) : lp xs 440 [.inr (.inr (.inr 0)), .inr (.inl (some 0)), .inr (.inl (some 31)), .inl (w_i i)] [] h := by
  refine l_run (show t_0 xs 440 = g_0_440 xs from rfl) ?_
  unfold g_0_440
  refine l_al (fun _ => rfl) (l_als (fun _ => rfl) (l_il (fun _ => rfl) (l_icI (x := 1) rfl (l_op (c := w_i (i + 1)) (i_add i 1) (l_sld hall (by omega) (by omega) (by omega) ?_)))))
  obtain ⟨_, m0, rfl⟩ := iv_0 iv
  refine l_this (fun _ => rfl) m0 ?_
  refine l_ca (fun _ => rfl) rfl (q_force iv (te := (a_s xs (i + 1))) (as_rg xs _).1 (as_rg xs _).2 (fun n1 g1 o1 h1 iv1 gr1 k1 => ⟨_, rfl, ?_⟩))
  refine l_popi (l_al (fun _ => rfl) (l_als (fun _ => rfl) (l_il (fun _ => rfl) (l_icI (x := 1) rfl (l_op (c := w_i (i + 1)) (i_add i 1) (l_sld hall (by omega) (by omega) (by omega) ?_))))))
  obtain ⟨_, m31, _, _, _, _, _, _, _, _, _, _, _, _, _, _, rfl, _⟩ := iv_31 iv1
  refine l_this (fun _ => rfl) m31 ?_
  refine l_ca (fun _ => rfl) rfl (q_mForce iv1 (te := (a_s xs (i + 1))) (as_rg xs _).1 (as_rg xs _).2 (fun n2 g2 o2 h2 iv2 gr2 k2 => ⟨_, rfl, ?_⟩))
  refine l_popi (l_go ?_)
  exact kk g2 o2 h2 iv2 (eq_kp k2 (eq_kp k1 we)) (by have := gr1.1; have := gr2.1; omega) (by have := gr1.2; have := gr2.2; omega)
theorem lc_9 {xs : List Nat} {g : w_G} {o : w_O} {h : m_H} {i : Int} (iv : w_Inv g o h) (we : w_eq g) (hall : ∀ a ∈ xs, a < 4294967296) (hn : xs.length ≤ 3072) (i0 : 0 ≤ i) (i1 : i + 6 ≤ (xs.length : Int)) (kk : ∀ (g2 : w_G) (o2 : w_O) (h2 : m_H), w_Inv g2 o2 h2 → w_eq g2 → h2.1 ≤ h.1 + 10 → (h2.2.1 : Int) - 5 * w_Sz (g_L g2) ≤ (h.2.1 : Int) - 5 * w_Sz (g_L g) + 400 → lp xs 1132 [.inr (.inr (.inr 0)), .inr (.inl (some 0)), .inr (.inl (some 31)), .inl (w_i i)] [] h2) : lp xs 463 [.inr (.inr (.inr 0)), .inr (.inl (some 0)), .inr (.inl (some 31)), .inl (w_i i)] [] h := by
  refine l_run (show t_0 xs 463 = g_0_463 xs from rfl) ?_
  unfold g_0_463
  refine l_al (fun _ => rfl) ?_
  obtain ⟨_, m0, rfl⟩ := iv_0 iv
  refine l_this (fun _ => rfl) m0 ?_
  refine l_ca (fun _ => rfl) rfl (q_lawful iv   (fun n1 g1 o1 h1 iv1 gr1 k1 => ⟨_, rfl, ?_⟩))
  refine l_popi (l_al (fun _ => rfl) ?_)
  obtain ⟨_, m31, _, _, _, _, _, _, _, _, _, _, _, _, _, _, rfl, _⟩ := iv_31 iv1
  refine l_this (fun _ => rfl) m31 ?_
  refine l_ca (fun _ => rfl) rfl (q_mLawful iv1   (fun n2 g2 o2 h2 iv2 gr2 k2 => ⟨_, rfl, ?_⟩))
  refine l_popi (l_go ?_)
  exact kk g2 o2 h2 iv2 (eq_kp k2 (eq_kp k1 we)) (by have := gr1.1; have := gr2.1; omega) (by have := gr1.2; have := gr2.2; omega)
theorem lc_10 {xs : List Nat} {g : w_G} {o : w_O} {h : m_H} {i : Int} (iv : w_Inv g o h) (we : w_eq g) (hall : ∀ a ∈ xs, a < 4294967296) (hn : xs.length ≤ 3072) (i0 : 0 ≤ i) (i1 : i + 6 ≤ (xs.length : Int)) (kk : ∀ (g2 : w_G) (o2 : w_O) (h2 : m_H), w_Inv g2 o2 h2 → w_eq g2 → h2.1 ≤ h.1 + 10 → (h2.2.1 : Int) - 5 * w_Sz (g_L g2) ≤ (h.2.1 : Int) - 5 * w_Sz (g_L g) + 400 → lp xs 1132 [.inr (.inr (.inr 0)), .inr (.inl (some 0)), .inr (.inl (some 31)), .inl (w_i i)] [] h2) : lp xs 476 [.inr (.inr (.inr 0)), .inr (.inl (some 0)), .inr (.inl (some 31)), .inl (w_i i)] [] h := by
  refine l_run (show t_0 xs 476 = g_0_476 xs from rfl) ?_
  unfold g_0_476
  refine l_al (fun _ => rfl) (l_als (fun _ => rfl) (l_il (fun _ => rfl) (l_icI (x := 1) rfl (l_op (c := w_i (i + 1)) (i_add i 1) (l_sld hall (by omega) (by omega) (by omega) (l_als (fun _ => rfl) (l_il (fun _ => rfl) (l_icI (x := 2) rfl (l_op (c := w_i (i + 2)) (i_add i 2) (l_sld hall (by omega) (by omega) (by omega) ?_))))))))))
  obtain ⟨_, m0, rfl⟩ := iv_0 iv
  refine l_this (fun _ => rfl) m0 ?_
  refine l_ca (fun _ => rfl) rfl (q_step iv (house := (a_s xs (i + 1))) (colour := (a_s xs (i + 2))) (as_rg xs _).1 (as_rg xs _).2 (as_rg xs _).1 (as_rg xs _).2 (fun n1 g1 o1 h1 iv1 gr1 k1 => ⟨_, rfl, ?_⟩))
  refine l_popi (l_al (fun _ => rfl) (l_als (fun _ => rfl) (l_il (fun _ => rfl) (l_icI (x := 1) rfl (l_op (c := w_i (i + 1)) (i_add i 1) (l_sld hall (by omega) (by omega) (by omega) (l_als (fun _ => rfl) (l_il (fun _ => rfl) (l_icI (x := 2) rfl (l_op (c := w_i (i + 2)) (i_add i 2) (l_sld hall (by omega) (by omega) (by omega) ?_)))))))))))
  obtain ⟨_, m31, _, _, _, _, _, _, _, _, _, _, _, _, _, _, rfl, _⟩ := iv_31 iv1
  refine l_this (fun _ => rfl) m31 ?_
  refine l_ca (fun _ => rfl) rfl (q_mStep iv1 (ho := (a_s xs (i + 1))) (t := (a_s xs (i + 2))) (as_rg xs _).1 (as_rg xs _).2 (as_rg xs _).1 (as_rg xs _).2 (fun n2 g2 o2 h2 iv2 gr2 k2 => ⟨_, rfl, ?_⟩))
  refine l_popi (l_go ?_)
  exact kk g2 o2 h2 iv2 (eq_kp k2 (eq_kp k1 we)) (by have := gr1.1; have := gr2.1; omega) (by have := gr1.2; have := gr2.2; omega)
theorem lc_11 {xs : List Nat} {g : w_G} {o : w_O} {h : m_H} {i : Int} (iv : w_Inv g o h) (we : w_eq g) (hall : ∀ a ∈ xs, a < 4294967296) (hn : xs.length ≤ 3072) (i0 : 0 ≤ i) (i1 : i + 6 ≤ (xs.length : Int)) (kk : ∀ (g2 : w_G) (o2 : w_O) (h2 : m_H), w_Inv g2 o2 h2 → w_eq g2 → h2.1 ≤ h.1 + 10 → (h2.2.1 : Int) - 5 * w_Sz (g_L g2) ≤ (h.2.1 : Int) - 5 * w_Sz (g_L g) + 400 → lp xs 1132 [.inr (.inr (.inr 0)), .inr (.inl (some 0)), .inr (.inl (some 31)), .inl (w_i i)] [] h2) : lp xs 509 [.inr (.inr (.inr 0)), .inr (.inl (some 0)), .inr (.inl (some 31)), .inl (w_i i)] [] h := by
  refine l_run (show t_0 xs 509 = g_0_509 xs from rfl) ?_
  unfold g_0_509
  refine l_al (fun _ => rfl) (l_als (fun _ => rfl) (l_il (fun _ => rfl) (l_icI (x := 1) rfl (l_op (c := w_i (i + 1)) (i_add i 1) (l_sld hall (by omega) (by omega) (by omega) (l_als (fun _ => rfl) (l_il (fun _ => rfl) (l_icI (x := 2) rfl (l_op (c := w_i (i + 2)) (i_add i 2) (l_sld hall (by omega) (by omega) (by omega) ?_))))))))))
  obtain ⟨_, m0, rfl⟩ := iv_0 iv
  refine l_this (fun _ => rfl) m0 ?_
  refine l_ca (fun _ => rfl) rfl (q_paint iv (house := (a_s xs (i + 1))) (colour := (a_s xs (i + 2))) (as_rg xs _).1 (as_rg xs _).2 (as_rg xs _).1 (as_rg xs _).2 (fun n1 g1 o1 h1 iv1 gr1 k1 => ⟨_, rfl, ?_⟩))
  refine l_popi (l_al (fun _ => rfl) (l_als (fun _ => rfl) (l_il (fun _ => rfl) (l_icI (x := 1) rfl (l_op (c := w_i (i + 1)) (i_add i 1) (l_sld hall (by omega) (by omega) (by omega) (l_als (fun _ => rfl) (l_il (fun _ => rfl) (l_icI (x := 2) rfl (l_op (c := w_i (i + 2)) (i_add i 2) (l_sld hall (by omega) (by omega) (by omega) ?_)))))))))))
  obtain ⟨_, m31, _, _, _, _, _, _, _, _, _, _, _, _, _, _, rfl, _⟩ := iv_31 iv1
  refine l_this (fun _ => rfl) m31 ?_
  refine l_ca (fun _ => rfl) rfl (q_mPaint iv1 (ho := (a_s xs (i + 1))) (t := (a_s xs (i + 2))) (as_rg xs _).1 (as_rg xs _).2 (as_rg xs _).1 (as_rg xs _).2 (fun n2 g2 o2 h2 iv2 gr2 k2 => ⟨_, rfl, ?_⟩))
  refine l_popi (l_go ?_)
  exact kk g2 o2 h2 iv2 (eq_kp k2 (eq_kp k1 we)) (by have := gr1.1; have := gr2.1; omega) (by have := gr1.2; have := gr2.2; omega)
theorem lc_12 {xs : List Nat} {g : w_G} {o : w_O} {h : m_H} {i : Int} (iv : w_Inv g o h) (we : w_eq g) (hall : ∀ a ∈ xs, a < 4294967296) (hn : xs.length ≤ 3072) (i0 : 0 ≤ i) (i1 : i + 6 ≤ (xs.length : Int)) (kk : ∀ (g2 : w_G) (o2 : w_O) (h2 : m_H), w_Inv g2 o2 h2 → w_eq g2 → h2.1 ≤ h.1 + 10 → (h2.2.1 : Int) - 5 * w_Sz (g_L g2) ≤ (h.2.1 : Int) - 5 * w_Sz (g_L g) + 400 → lp xs 1132 [.inr (.inr (.inr 0)), .inr (.inl (some 0)), .inr (.inl (some 31)), .inl (w_i i)] [] h2) : lp xs 542 [.inr (.inr (.inr 0)), .inr (.inl (some 0)), .inr (.inl (some 31)), .inl (w_i i)] [] h := by
  refine l_run (show t_0 xs 542 = g_0_542 xs from rfl) ?_
  unfold g_0_542
  refine l_al (fun _ => rfl) (l_als (fun _ => rfl) (l_il (fun _ => rfl) (l_icI (x := 1) rfl (l_op (c := w_i (i + 1)) (i_add i 1) (l_sld hall (by omega) (by omega) (by omega) ?_)))))
  obtain ⟨_, m0, rfl⟩ := iv_0 iv
  refine l_this (fun _ => rfl) m0 ?_
  refine l_ca (fun _ => rfl) rfl (q_come iv (what := (a_s xs (i + 1))) (as_rg xs _).1 (as_rg xs _).2 (fun n1 g1 o1 h1 iv1 gr1 k1 => ⟨_, rfl, ?_⟩))
  refine l_popi (l_al (fun _ => rfl) (l_als (fun _ => rfl) (l_il (fun _ => rfl) (l_icI (x := 1) rfl (l_op (c := w_i (i + 1)) (i_add i 1) (l_sld hall (by omega) (by omega) (by omega) ?_))))))
  obtain ⟨_, m31, _, _, _, _, _, _, _, _, _, _, _, _, _, _, rfl, _⟩ := iv_31 iv1
  refine l_this (fun _ => rfl) m31 ?_
  refine l_ca (fun _ => rfl) rfl (q_mCome iv1 (what := (a_s xs (i + 1))) (as_rg xs _).1 (as_rg xs _).2 (fun n2 g2 o2 h2 iv2 gr2 k2 => ⟨_, rfl, ?_⟩))
  refine l_popi (l_go ?_)
  exact kk g2 o2 h2 iv2 (eq_kp k2 (eq_kp k1 we)) (by have := gr1.1; have := gr2.1; omega) (by have := gr1.2; have := gr2.2; omega)
theorem lc_13 {xs : List Nat} {g : w_G} {o : w_O} {h : m_H} {i : Int} (iv : w_Inv g o h) (we : w_eq g) (hall : ∀ a ∈ xs, a < 4294967296) (hn : xs.length ≤ 3072) (i0 : 0 ≤ i) (i1 : i + 6 ≤ (xs.length : Int)) (kk : ∀ (g2 : w_G) (o2 : w_O) (h2 : m_H), w_Inv g2 o2 h2 → w_eq g2 → h2.1 ≤ h.1 + 10 → (h2.2.1 : Int) - 5 * w_Sz (g_L g2) ≤ (h.2.1 : Int) - 5 * w_Sz (g_L g) + 400 → lp xs 1132 [.inr (.inr (.inr 0)), .inr (.inl (some 0)), .inr (.inl (some 31)), .inl (w_i i)] [] h2) : lp xs 565 [.inr (.inr (.inr 0)), .inr (.inl (some 0)), .inr (.inl (some 31)), .inl (w_i i)] [] h := by
  refine l_run (show t_0 xs 565 = g_0_565 xs from rfl) ?_
  unfold g_0_565
  refine l_al (fun _ => rfl) (l_als (fun _ => rfl) (l_il (fun _ => rfl) (l_icI (x := 1) rfl (l_op (c := w_i (i + 1)) (i_add i 1) (l_sld hall (by omega) (by omega) (by omega) ?_)))))
  obtain ⟨_, m0, rfl⟩ := iv_0 iv
  refine l_this (fun _ => rfl) m0 ?_
  refine l_ca (fun _ => rfl) rfl (q_shortest iv (to := (a_s xs (i + 1))) (as_rg xs _).1 (as_rg xs _).2 (fun n1 g1 o1 h1 iv1 gr1 k1 => ⟨_, rfl, ?_⟩))
  refine l_popi (l_al (fun _ => rfl) (l_als (fun _ => rfl) (l_il (fun _ => rfl) (l_icI (x := 1) rfl (l_op (c := w_i (i + 1)) (i_add i 1) (l_sld hall (by omega) (by omega) (by omega) ?_))))))
  obtain ⟨_, m31, _, _, _, _, _, _, _, _, _, _, _, _, _, _, rfl, _⟩ := iv_31 iv1
  refine l_this (fun _ => rfl) m31 ?_
  refine l_ca (fun _ => rfl) rfl (q_mShortest iv1 (tn := (a_s xs (i + 1))) (as_rg xs _).1 (as_rg xs _).2 (fun n2 g2 o2 h2 iv2 gr2 k2 => ⟨_, rfl, ?_⟩))
  refine l_popi (l_go ?_)
  exact kk g2 o2 h2 iv2 (eq_kp k2 (eq_kp k1 we)) (by have := gr1.1; have := gr2.1; omega) (by have := gr1.2; have := gr2.2; omega)
theorem lc_14 {xs : List Nat} {g : w_G} {o : w_O} {h : m_H} {i : Int} (iv : w_Inv g o h) (we : w_eq g) (hall : ∀ a ∈ xs, a < 4294967296) (hn : xs.length ≤ 3072) (i0 : 0 ≤ i) (i1 : i + 6 ≤ (xs.length : Int)) (kk : ∀ (g2 : w_G) (o2 : w_O) (h2 : m_H), w_Inv g2 o2 h2 → w_eq g2 → h2.1 ≤ h.1 + 10 → (h2.2.1 : Int) - 5 * w_Sz (g_L g2) ≤ (h.2.1 : Int) - 5 * w_Sz (g_L g) + 400 → lp xs 1132 [.inr (.inr (.inr 0)), .inr (.inl (some 0)), .inr (.inl (some 31)), .inl (w_i i)] [] h2) : lp xs 588 [.inr (.inr (.inr 0)), .inr (.inl (some 0)), .inr (.inl (some 31)), .inl (w_i i)] [] h := by
  refine l_run (show t_0 xs 588 = g_0_588 xs from rfl) ?_
  unfold g_0_588
  refine l_al (fun _ => rfl) (l_als (fun _ => rfl) (l_il (fun _ => rfl) (l_icI (x := 1) rfl (l_op (c := w_i (i + 1)) (i_add i 1) (l_sld hall (by omega) (by omega) (by omega) (l_als (fun _ => rfl) (l_il (fun _ => rfl) (l_icI (x := 2) rfl (l_op (c := w_i (i + 2)) (i_add i 2) (l_sld hall (by omega) (by omega) (by omega) ?_))))))))))
  obtain ⟨_, m0, rfl⟩ := iv_0 iv
  refine l_this (fun _ => rfl) m0 ?_
  refine l_ca (fun _ => rfl) rfl (q_first iv (to := (a_s xs (i + 1))) (i_ := (a_s xs (i + 2))) (as_rg xs _).1 (as_rg xs _).2 (as_rg xs _).1 (as_rg xs _).2 (fun n1 g1 o1 h1 iv1 gr1 k1 => ⟨_, rfl, ?_⟩))
  refine l_popi (l_al (fun _ => rfl) (l_als (fun _ => rfl) (l_il (fun _ => rfl) (l_icI (x := 1) rfl (l_op (c := w_i (i + 1)) (i_add i 1) (l_sld hall (by omega) (by omega) (by omega) (l_als (fun _ => rfl) (l_il (fun _ => rfl) (l_icI (x := 2) rfl (l_op (c := w_i (i + 2)) (i_add i 2) (l_sld hall (by omega) (by omega) (by omega) ?_)))))))))))
  obtain ⟨_, m31, _, _, _, _, _, _, _, _, _, _, _, _, _, _, rfl, _⟩ := iv_31 iv1
  refine l_this (fun _ => rfl) m31 ?_
  refine l_ca (fun _ => rfl) rfl (q_mFirst iv1 (tn := (a_s xs (i + 1))) (i_ := (a_s xs (i + 2))) (as_rg xs _).1 (as_rg xs _).2 (as_rg xs _).1 (as_rg xs _).2 (fun n2 g2 o2 h2 iv2 gr2 k2 => ⟨_, rfl, ?_⟩))
  refine l_popi (l_go ?_)
  exact kk g2 o2 h2 iv2 (eq_kp k2 (eq_kp k1 we)) (by have := gr1.1; have := gr2.1; omega) (by have := gr1.2; have := gr2.2; omega)
theorem lc_15 {xs : List Nat} {g : w_G} {o : w_O} {h : m_H} {i : Int} (iv : w_Inv g o h) (we : w_eq g) (hall : ∀ a ∈ xs, a < 4294967296) (hn : xs.length ≤ 3072) (i0 : 0 ≤ i) (i1 : i + 6 ≤ (xs.length : Int)) (kk : ∀ (g2 : w_G) (o2 : w_O) (h2 : m_H), w_Inv g2 o2 h2 → w_eq g2 → h2.1 ≤ h.1 + 10 → (h2.2.1 : Int) - 5 * w_Sz (g_L g2) ≤ (h.2.1 : Int) - 5 * w_Sz (g_L g) + 400 → lp xs 1132 [.inr (.inr (.inr 0)), .inr (.inl (some 0)), .inr (.inl (some 31)), .inl (w_i i)] [] h2) : lp xs 621 [.inr (.inr (.inr 0)), .inr (.inl (some 0)), .inr (.inl (some 31)), .inl (w_i i)] [] h := by
  refine l_run (show t_0 xs 621 = g_0_621 xs from rfl) ?_
  unfold g_0_621
  refine l_al (fun _ => rfl) (l_als (fun _ => rfl) (l_il (fun _ => rfl) (l_icI (x := 1) rfl (l_op (c := w_i (i + 1)) (i_add i 1) (l_sld hall (by omega) (by omega) (by omega) ?_)))))
  obtain ⟨_, m0, rfl⟩ := iv_0 iv
  refine l_this (fun _ => rfl) m0 ?_
  refine l_ca (fun _ => rfl) rfl (q_cheapest iv (to := (a_s xs (i + 1))) (as_rg xs _).1 (as_rg xs _).2 (fun n1 g1 o1 h1 iv1 gr1 k1 => ⟨_, rfl, ?_⟩))
  refine l_popi (l_al (fun _ => rfl) (l_als (fun _ => rfl) (l_il (fun _ => rfl) (l_icI (x := 1) rfl (l_op (c := w_i (i + 1)) (i_add i 1) (l_sld hall (by omega) (by omega) (by omega) ?_))))))
  obtain ⟨_, m31, _, _, _, _, _, _, _, _, _, _, _, _, _, _, rfl, _⟩ := iv_31 iv1
  refine l_this (fun _ => rfl) m31 ?_
  refine l_ca (fun _ => rfl) rfl (q_mCheapest iv1 (tn := (a_s xs (i + 1))) (as_rg xs _).1 (as_rg xs _).2 (fun n2 g2 o2 h2 iv2 gr2 k2 => ⟨_, rfl, ?_⟩))
  refine l_popi (l_go ?_)
  exact kk g2 o2 h2 iv2 (eq_kp k2 (eq_kp k1 we)) (by have := gr1.1; have := gr2.1; omega) (by have := gr1.2; have := gr2.2; omega)
theorem lc_16 {xs : List Nat} {g : w_G} {o : w_O} {h : m_H} {i : Int} (iv : w_Inv g o h) (we : w_eq g) (hall : ∀ a ∈ xs, a < 4294967296) (hn : xs.length ≤ 3072) (i0 : 0 ≤ i) (i1 : i + 6 ≤ (xs.length : Int)) (kk : ∀ (g2 : w_G) (o2 : w_O) (h2 : m_H), w_Inv g2 o2 h2 → w_eq g2 → h2.1 ≤ h.1 + 10 → (h2.2.1 : Int) - 5 * w_Sz (g_L g2) ≤ (h.2.1 : Int) - 5 * w_Sz (g_L g) + 400 → lp xs 1132 [.inr (.inr (.inr 0)), .inr (.inl (some 0)), .inr (.inl (some 31)), .inl (w_i i)] [] h2) : lp xs 644 [.inr (.inr (.inr 0)), .inr (.inl (some 0)), .inr (.inl (some 31)), .inl (w_i i)] [] h := by
  refine l_run (show t_0 xs 644 = g_0_644 xs from rfl) ?_
  unfold g_0_644
  refine l_al (fun _ => rfl) (l_als (fun _ => rfl) (l_il (fun _ => rfl) (l_icI (x := 1) rfl (l_op (c := w_i (i + 1)) (i_add i 1) (l_sld hall (by omega) (by omega) (by omega) ?_)))))
  obtain ⟨_, m0, rfl⟩ := iv_0 iv
  refine l_this (fun _ => rfl) m0 ?_
  refine l_ca (fun _ => rfl) rfl (q_wishes iv (what := (a_s xs (i + 1))) (as_rg xs _).1 (as_rg xs _).2 (fun n1 g1 o1 h1 iv1 gr1 k1 => ⟨_, rfl, ?_⟩))
  refine l_popi (l_al (fun _ => rfl) (l_als (fun _ => rfl) (l_il (fun _ => rfl) (l_icI (x := 1) rfl (l_op (c := w_i (i + 1)) (i_add i 1) (l_sld hall (by omega) (by omega) (by omega) ?_))))))
  obtain ⟨_, m31, _, _, _, _, _, _, _, _, _, _, _, _, _, _, rfl, _⟩ := iv_31 iv1
  refine l_this (fun _ => rfl) m31 ?_
  refine l_ca (fun _ => rfl) rfl (q_mWishes iv1 (what := (a_s xs (i + 1))) (as_rg xs _).1 (as_rg xs _).2 (fun n2 g2 o2 h2 iv2 gr2 k2 => ⟨_, rfl, ?_⟩))
  refine l_popi (l_go ?_)
  exact kk g2 o2 h2 iv2 (eq_kp k2 (eq_kp k1 we)) (by have := gr1.1; have := gr2.1; omega) (by have := gr1.2; have := gr2.2; omega)
theorem lc_17 {xs : List Nat} {g : w_G} {o : w_O} {h : m_H} {i : Int} (iv : w_Inv g o h) (we : w_eq g) (hall : ∀ a ∈ xs, a < 4294967296) (hn : xs.length ≤ 3072) (i0 : 0 ≤ i) (i1 : i + 6 ≤ (xs.length : Int)) (kk : ∀ (g2 : w_G) (o2 : w_O) (h2 : m_H), w_Inv g2 o2 h2 → w_eq g2 → h2.1 ≤ h.1 + 10 → (h2.2.1 : Int) - 5 * w_Sz (g_L g2) ≤ (h.2.1 : Int) - 5 * w_Sz (g_L g) + 400 → lp xs 1132 [.inr (.inr (.inr 0)), .inr (.inl (some 0)), .inr (.inl (some 31)), .inl (w_i i)] [] h2) : lp xs 667 [.inr (.inr (.inr 0)), .inr (.inl (some 0)), .inr (.inl (some 31)), .inl (w_i i)] [] h := by
  refine l_run (show t_0 xs 667 = g_0_667 xs from rfl) ?_
  unfold g_0_667
  refine l_al (fun _ => rfl) (l_als (fun _ => rfl) (l_il (fun _ => rfl) (l_icI (x := 1) rfl (l_op (c := w_i (i + 1)) (i_add i 1) (l_sld hall (by omega) (by omega) (by omega) (l_als (fun _ => rfl) (l_il (fun _ => rfl) (l_icI (x := 2) rfl (l_op (c := w_i (i + 2)) (i_add i 2) (l_sld hall (by omega) (by omega) (by omega) ?_))))))))))
  obtain ⟨_, m0, rfl⟩ := iv_0 iv
  refine l_this (fun _ => rfl) m0 ?_
  refine l_ca (fun _ => rfl) rfl (q_night iv (a := (a_s xs (i + 1))) (b := (a_s xs (i + 2))) (as_rg xs _).1 (as_rg xs _).2 (as_rg xs _).1 (as_rg xs _).2 (fun n1 g1 o1 h1 iv1 gr1 k1 => ⟨_, rfl, ?_⟩))
  refine l_popi (l_al (fun _ => rfl) (l_als (fun _ => rfl) (l_il (fun _ => rfl) (l_icI (x := 1) rfl (l_op (c := w_i (i + 1)) (i_add i 1) (l_sld hall (by omega) (by omega) (by omega) (l_als (fun _ => rfl) (l_il (fun _ => rfl) (l_icI (x := 2) rfl (l_op (c := w_i (i + 2)) (i_add i 2) (l_sld hall (by omega) (by omega) (by omega) ?_)))))))))))
  obtain ⟨_, m31, _, _, _, _, _, _, _, _, _, _, _, _, _, _, rfl, _⟩ := iv_31 iv1
  refine l_this (fun _ => rfl) m31 ?_
  refine l_ca (fun _ => rfl) rfl (q_mNight iv1 (a := (a_s xs (i + 1))) (b := (a_s xs (i + 2))) (as_rg xs _).1 (as_rg xs _).2 (as_rg xs _).1 (as_rg xs _).2 (fun n2 g2 o2 h2 iv2 gr2 k2 => ⟨_, rfl, ?_⟩))
  refine l_popi (l_go ?_)
  exact kk g2 o2 h2 iv2 (eq_kp k2 (eq_kp k1 we)) (by have := gr1.1; have := gr2.1; omega) (by have := gr1.2; have := gr2.2; omega)
theorem lc_18 {xs : List Nat} {g : w_G} {o : w_O} {h : m_H} {i : Int} (iv : w_Inv g o h) (we : w_eq g) (hall : ∀ a ∈ xs, a < 4294967296) (hn : xs.length ≤ 3072) (i0 : 0 ≤ i) (i1 : i + 6 ≤ (xs.length : Int)) (kk : ∀ (g2 : w_G) (o2 : w_O) (h2 : m_H), w_Inv g2 o2 h2 → w_eq g2 → h2.1 ≤ h.1 + 10 → (h2.2.1 : Int) - 5 * w_Sz (g_L g2) ≤ (h.2.1 : Int) - 5 * w_Sz (g_L g) + 400 → lp xs 1132 [.inr (.inr (.inr 0)), .inr (.inl (some 0)), .inr (.inl (some 31)), .inl (w_i i)] [] h2) : lp xs 700 [.inr (.inr (.inr 0)), .inr (.inl (some 0)), .inr (.inl (some 31)), .inl (w_i i)] [] h := by
  refine l_run (show t_0 xs 700 = g_0_700 xs from rfl) ?_
  unfold g_0_700
  refine l_al (fun _ => rfl) (l_als (fun _ => rfl) (l_il (fun _ => rfl) (l_icI (x := 1) rfl (l_op (c := w_i (i + 1)) (i_add i 1) (l_sld hall (by omega) (by omega) (by omega) ?_)))))
  obtain ⟨_, m0, rfl⟩ := iv_0 iv
  refine l_this (fun _ => rfl) m0 ?_
  refine l_ca (fun _ => rfl) rfl (q_gap iv (to := (a_s xs (i + 1))) (as_rg xs _).1 (as_rg xs _).2 (fun n1 g1 o1 h1 iv1 gr1 k1 => ⟨_, rfl, ?_⟩))
  refine l_popi (l_al (fun _ => rfl) (l_als (fun _ => rfl) (l_il (fun _ => rfl) (l_icI (x := 1) rfl (l_op (c := w_i (i + 1)) (i_add i 1) (l_sld hall (by omega) (by omega) (by omega) ?_))))))
  obtain ⟨_, m31, _, _, _, _, _, _, _, _, _, _, _, _, _, _, rfl, _⟩ := iv_31 iv1
  refine l_this (fun _ => rfl) m31 ?_
  refine l_ca (fun _ => rfl) rfl (q_mGap iv1 (to := (a_s xs (i + 1))) (as_rg xs _).1 (as_rg xs _).2 (fun n2 g2 o2 h2 iv2 gr2 k2 => ⟨_, rfl, ?_⟩))
  refine l_popi (l_go ?_)
  exact kk g2 o2 h2 iv2 (eq_kp k2 (eq_kp k1 we)) (by have := gr1.1; have := gr2.1; omega) (by have := gr1.2; have := gr2.2; omega)
theorem lc_19 {xs : List Nat} {g : w_G} {o : w_O} {h : m_H} {i : Int} (iv : w_Inv g o h) (we : w_eq g) (hall : ∀ a ∈ xs, a < 4294967296) (hn : xs.length ≤ 3072) (i0 : 0 ≤ i) (i1 : i + 6 ≤ (xs.length : Int)) (kk : ∀ (g2 : w_G) (o2 : w_O) (h2 : m_H), w_Inv g2 o2 h2 → w_eq g2 → h2.1 ≤ h.1 + 10 → (h2.2.1 : Int) - 5 * w_Sz (g_L g2) ≤ (h.2.1 : Int) - 5 * w_Sz (g_L g) + 400 → lp xs 1132 [.inr (.inr (.inr 0)), .inr (.inl (some 0)), .inr (.inl (some 31)), .inl (w_i i)] [] h2) : lp xs 723 [.inr (.inr (.inr 0)), .inr (.inl (some 0)), .inr (.inl (some 31)), .inl (w_i i)] [] h := by
  refine l_run (show t_0 xs 723 = g_0_723 xs from rfl) ?_
  unfold g_0_723
  refine l_al (fun _ => rfl) ?_
  obtain ⟨_, m0, rfl⟩ := iv_0 iv
  refine l_this (fun _ => rfl) m0 ?_
  refine l_ca (fun _ => rfl) rfl (q_turned iv   (fun n1 g1 o1 h1 iv1 gr1 k1 => ⟨_, rfl, ?_⟩))
  refine l_popi (l_al (fun _ => rfl) ?_)
  obtain ⟨_, m31, _, _, _, _, _, _, _, _, _, _, _, _, _, _, rfl, _⟩ := iv_31 iv1
  refine l_this (fun _ => rfl) m31 ?_
  refine l_ca (fun _ => rfl) rfl (q_mTurned iv1   (fun n2 g2 o2 h2 iv2 gr2 k2 => ⟨_, rfl, ?_⟩))
  refine l_popi (l_go ?_)
  exact kk g2 o2 h2 iv2 (eq_kp k2 (eq_kp k1 we)) (by have := gr1.1; have := gr2.1; omega) (by have := gr1.2; have := gr2.2; omega)
theorem lc_20 {xs : List Nat} {g : w_G} {o : w_O} {h : m_H} {i : Int} (iv : w_Inv g o h) (we : w_eq g) (hall : ∀ a ∈ xs, a < 4294967296) (hn : xs.length ≤ 3072) (i0 : 0 ≤ i) (i1 : i + 6 ≤ (xs.length : Int)) (kk : ∀ (g2 : w_G) (o2 : w_O) (h2 : m_H), w_Inv g2 o2 h2 → w_eq g2 → h2.1 ≤ h.1 + 10 → (h2.2.1 : Int) - 5 * w_Sz (g_L g2) ≤ (h.2.1 : Int) - 5 * w_Sz (g_L g) + 400 → lp xs 1132 [.inr (.inr (.inr 0)), .inr (.inl (some 0)), .inr (.inl (some 31)), .inl (w_i i)] [] h2) : lp xs 736 [.inr (.inr (.inr 0)), .inr (.inl (some 0)), .inr (.inl (some 31)), .inl (w_i i)] [] h := by
  refine l_run (show t_0 xs 736 = g_0_736 xs from rfl) ?_
  unfold g_0_736
  refine l_al (fun _ => rfl) (l_als (fun _ => rfl) (l_il (fun _ => rfl) (l_icI (x := 1) rfl (l_op (c := w_i (i + 1)) (i_add i 1) (l_sld hall (by omega) (by omega) (by omega) ?_)))))
  obtain ⟨_, m0, rfl⟩ := iv_0 iv
  refine l_this (fun _ => rfl) m0 ?_
  refine l_ca (fun _ => rfl) rfl (q_touched iv (to := (a_s xs (i + 1))) (as_rg xs _).1 (as_rg xs _).2 (fun n1 g1 o1 h1 iv1 gr1 k1 => ⟨_, rfl, ?_⟩))
  refine l_popi (l_al (fun _ => rfl) (l_als (fun _ => rfl) (l_il (fun _ => rfl) (l_icI (x := 1) rfl (l_op (c := w_i (i + 1)) (i_add i 1) (l_sld hall (by omega) (by omega) (by omega) ?_))))))
  obtain ⟨_, m31, _, _, _, _, _, _, _, _, _, _, _, _, _, _, rfl, _⟩ := iv_31 iv1
  refine l_this (fun _ => rfl) m31 ?_
  refine l_ca (fun _ => rfl) rfl (q_mTouched iv1 (tn := (a_s xs (i + 1))) (as_rg xs _).1 (as_rg xs _).2 (fun n2 g2 o2 h2 iv2 gr2 k2 => ⟨_, rfl, ?_⟩))
  refine l_popi (l_go ?_)
  exact kk g2 o2 h2 iv2 (eq_kp k2 (eq_kp k1 we)) (by have := gr1.1; have := gr2.1; omega) (by have := gr1.2; have := gr2.2; omega)
theorem lc_21 {xs : List Nat} {g : w_G} {o : w_O} {h : m_H} {i : Int} (iv : w_Inv g o h) (we : w_eq g) (hall : ∀ a ∈ xs, a < 4294967296) (hn : xs.length ≤ 3072) (i0 : 0 ≤ i) (i1 : i + 6 ≤ (xs.length : Int)) (kk : ∀ (g2 : w_G) (o2 : w_O) (h2 : m_H), w_Inv g2 o2 h2 → w_eq g2 → h2.1 ≤ h.1 + 10 → (h2.2.1 : Int) - 5 * w_Sz (g_L g2) ≤ (h.2.1 : Int) - 5 * w_Sz (g_L g) + 400 → lp xs 1132 [.inr (.inr (.inr 0)), .inr (.inl (some 0)), .inr (.inl (some 31)), .inl (w_i i)] [] h2) : lp xs 759 [.inr (.inr (.inr 0)), .inr (.inl (some 0)), .inr (.inl (some 31)), .inl (w_i i)] [] h := by
  refine l_run (show t_0 xs 759 = g_0_759 xs from rfl) ?_
  unfold g_0_759
  refine l_al (fun _ => rfl) (l_als (fun _ => rfl) (l_il (fun _ => rfl) (l_icI (x := 1) rfl (l_op (c := w_i (i + 1)) (i_add i 1) (l_sld hall (by omega) (by omega) (by omega) ?_)))))
  obtain ⟨_, m0, rfl⟩ := iv_0 iv
  refine l_this (fun _ => rfl) m0 ?_
  refine l_ca (fun _ => rfl) rfl (q_worth iv (what := (a_s xs (i + 1))) (as_rg xs _).1 (as_rg xs _).2 (fun n1 g1 o1 h1 iv1 gr1 k1 => ⟨_, rfl, ?_⟩))
  refine l_pl2 (l_al (fun _ => rfl) (l_als (fun _ => rfl) (l_il (fun _ => rfl) (l_icI (x := 1) rfl (l_op (c := w_i (i + 1)) (i_add i 1) (l_sld hall (by omega) (by omega) (by omega) ?_))))))
  obtain ⟨_, m31, _, _, _, _, _, _, _, _, _, _, _, _, _, _, rfl, _⟩ := iv_31 iv1
  refine l_this (fun _ => rfl) m31 ?_
  refine l_ca (fun _ => rfl) rfl (q_mWorth iv1 (what := (a_s xs (i + 1))) (as_rg xs _).1 (as_rg xs _).2 (fun n2 g2 o2 h2 iv2 gr2 k2 => ⟨_, rfl, ?_⟩))
  refine l_pl2 (l_go ?_)
  exact kk g2 o2 h2 iv2 (eq_kp k2 (eq_kp k1 we)) (by have := gr1.1; have := gr2.1; omega) (by have := gr1.2; have := gr2.2; omega)
theorem lc_22 {xs : List Nat} {g : w_G} {o : w_O} {h : m_H} {i : Int} (iv : w_Inv g o h) (we : w_eq g) (hall : ∀ a ∈ xs, a < 4294967296) (hn : xs.length ≤ 3072) (i0 : 0 ≤ i) (i1 : i + 6 ≤ (xs.length : Int)) (kk : ∀ (g2 : w_G) (o2 : w_O) (h2 : m_H), w_Inv g2 o2 h2 → w_eq g2 → h2.1 ≤ h.1 + 10 → (h2.2.1 : Int) - 5 * w_Sz (g_L g2) ≤ (h.2.1 : Int) - 5 * w_Sz (g_L g) + 400 → lp xs 1132 [.inr (.inr (.inr 0)), .inr (.inl (some 0)), .inr (.inl (some 31)), .inl (w_i i)] [] h2) : lp xs 782 [.inr (.inr (.inr 0)), .inr (.inl (some 0)), .inr (.inl (some 31)), .inl (w_i i)] [] h := by
  refine l_run (show t_0 xs 782 = g_0_782 xs from rfl) ?_
  unfold g_0_782
  refine l_al (fun _ => rfl) (l_als (fun _ => rfl) (l_il (fun _ => rfl) (l_icI (x := 1) rfl (l_op (c := w_i (i + 1)) (i_add i 1) (l_sld hall (by omega) (by omega) (by omega) (l_als (fun _ => rfl) (l_il (fun _ => rfl) (l_icI (x := 2) rfl (l_op (c := w_i (i + 2)) (i_add i 2) (l_sld hall (by omega) (by omega) (by omega) ?_))))))))))
  obtain ⟨_, m0, rfl⟩ := iv_0 iv
  refine l_this (fun _ => rfl) m0 ?_
  refine l_ca (fun _ => rfl) rfl (q_judge iv (sh := (a_s xs (i + 1))) (what := (a_s xs (i + 2))) (as_rg xs _).1 (as_rg xs _).2 (as_rg xs _).1 (as_rg xs _).2 (fun n1 g1 o1 h1 iv1 gr1 k1 => ⟨_, rfl, ?_⟩))
  refine l_popi (l_al (fun _ => rfl) (l_als (fun _ => rfl) (l_il (fun _ => rfl) (l_icI (x := 1) rfl (l_op (c := w_i (i + 1)) (i_add i 1) (l_sld hall (by omega) (by omega) (by omega) (l_als (fun _ => rfl) (l_il (fun _ => rfl) (l_icI (x := 2) rfl (l_op (c := w_i (i + 2)) (i_add i 2) (l_sld hall (by omega) (by omega) (by omega) ?_)))))))))))
  obtain ⟨_, m31, _, _, _, _, _, _, _, _, _, _, _, _, _, _, rfl, _⟩ := iv_31 iv1
  refine l_this (fun _ => rfl) m31 ?_
  refine l_ca (fun _ => rfl) rfl (q_mJudge iv1 (sh := (a_s xs (i + 1))) (wh := (a_s xs (i + 2))) (as_rg xs _).1 (as_rg xs _).2 (as_rg xs _).1 (as_rg xs _).2 (fun n2 g2 o2 h2 iv2 gr2 k2 => ⟨_, rfl, ?_⟩))
  refine l_popi (l_go ?_)
  exact kk g2 o2 h2 iv2 (eq_kp k2 (eq_kp k1 we)) (by have := gr1.1; have := gr2.1; omega) (by have := gr1.2; have := gr2.2; omega)
theorem lc_23 {xs : List Nat} {g : w_G} {o : w_O} {h : m_H} {i : Int} (iv : w_Inv g o h) (we : w_eq g) (hall : ∀ a ∈ xs, a < 4294967296) (hn : xs.length ≤ 3072) (i0 : 0 ≤ i) (i1 : i + 6 ≤ (xs.length : Int)) (kk : ∀ (g2 : w_G) (o2 : w_O) (h2 : m_H), w_Inv g2 o2 h2 → w_eq g2 → h2.1 ≤ h.1 + 10 → (h2.2.1 : Int) - 5 * w_Sz (g_L g2) ≤ (h.2.1 : Int) - 5 * w_Sz (g_L g) + 400 → lp xs 1132 [.inr (.inr (.inr 0)), .inr (.inl (some 0)), .inr (.inl (some 31)), .inl (w_i i)] [] h2) : lp xs 815 [.inr (.inr (.inr 0)), .inr (.inl (some 0)), .inr (.inl (some 31)), .inl (w_i i)] [] h := by
  refine l_run (show t_0 xs 815 = g_0_815 xs from rfl) ?_
  unfold g_0_815
  refine l_al (fun _ => rfl) (l_als (fun _ => rfl) (l_il (fun _ => rfl) (l_icI (x := 1) rfl (l_op (c := w_i (i + 1)) (i_add i 1) (l_sld hall (by omega) (by omega) (by omega) (l_als (fun _ => rfl) (l_il (fun _ => rfl) (l_icI (x := 2) rfl (l_op (c := w_i (i + 2)) (i_add i 2) (l_sld hall (by omega) (by omega) (by omega) ?_))))))))))
  obtain ⟨_, m0, rfl⟩ := iv_0 iv
  refine l_this (fun _ => rfl) m0 ?_
  refine l_ca (fun _ => rfl) rfl (q_drawn iv (seed := (a_s xs (i + 1))) (n := (a_s xs (i + 2))) (as_rg xs _).1 (as_rg xs _).2 (as_rg xs _).1 (as_rg xs _).2 (fun n1 g1 o1 h1 iv1 gr1 k1 => ⟨_, rfl, ?_⟩))
  refine l_popi (l_al (fun _ => rfl) (l_als (fun _ => rfl) (l_il (fun _ => rfl) (l_icI (x := 1) rfl (l_op (c := w_i (i + 1)) (i_add i 1) (l_sld hall (by omega) (by omega) (by omega) (l_als (fun _ => rfl) (l_il (fun _ => rfl) (l_icI (x := 2) rfl (l_op (c := w_i (i + 2)) (i_add i 2) (l_sld hall (by omega) (by omega) (by omega) ?_)))))))))))
  obtain ⟨_, m31, _, _, _, _, _, _, _, _, _, _, _, _, _, _, rfl, _⟩ := iv_31 iv1
  refine l_this (fun _ => rfl) m31 ?_
  refine l_ca (fun _ => rfl) rfl (q_mDrawn iv1 (sd := (a_s xs (i + 1))) (n := (a_s xs (i + 2))) (as_rg xs _).1 (as_rg xs _).2 (as_rg xs _).1 (as_rg xs _).2 (fun n2 g2 o2 h2 iv2 gr2 k2 => ⟨_, rfl, ?_⟩))
  refine l_popi (l_go ?_)
  exact kk g2 o2 h2 iv2 (eq_kp k2 (eq_kp k1 we)) (by have := gr1.1; have := gr2.1; omega) (by have := gr1.2; have := gr2.2; omega)
theorem lc_24 {xs : List Nat} {g : w_G} {o : w_O} {h : m_H} {i : Int} (iv : w_Inv g o h) (we : w_eq g) (hall : ∀ a ∈ xs, a < 4294967296) (hn : xs.length ≤ 3072) (i0 : 0 ≤ i) (i1 : i + 6 ≤ (xs.length : Int)) (kk : ∀ (g2 : w_G) (o2 : w_O) (h2 : m_H), w_Inv g2 o2 h2 → w_eq g2 → h2.1 ≤ h.1 + 10 → (h2.2.1 : Int) - 5 * w_Sz (g_L g2) ≤ (h.2.1 : Int) - 5 * w_Sz (g_L g) + 400 → lp xs 1132 [.inr (.inr (.inr 0)), .inr (.inl (some 0)), .inr (.inl (some 31)), .inl (w_i i)] [] h2) : lp xs 848 [.inr (.inr (.inr 0)), .inr (.inl (some 0)), .inr (.inl (some 31)), .inl (w_i i)] [] h := by
  refine l_run (show t_0 xs 848 = g_0_848 xs from rfl) ?_
  unfold g_0_848
  refine l_al (fun _ => rfl) ?_
  obtain ⟨_, m0, rfl⟩ := iv_0 iv
  refine l_this (fun _ => rfl) m0 ?_
  refine l_ca (fun _ => rfl) rfl (q_image iv   (fun n1 g1 o1 h1 iv1 gr1 k1 => ⟨_, rfl, ?_⟩))
  refine l_popi (l_al (fun _ => rfl) ?_)
  obtain ⟨_, m31, _, _, _, _, _, _, _, _, _, _, _, _, _, _, rfl, _⟩ := iv_31 iv1
  refine l_this (fun _ => rfl) m31 ?_
  refine l_ca (fun _ => rfl) rfl (q_mImage iv1   (fun n2 g2 o2 h2 iv2 gr2 k2 => ⟨_, rfl, ?_⟩))
  refine l_popi (l_go ?_)
  exact kk g2 o2 h2 iv2 (eq_kp k2 (eq_kp k1 we)) (by have := gr1.1; have := gr2.1; omega) (by have := gr1.2; have := gr2.2; omega)
theorem lc_25 {xs : List Nat} {g : w_G} {o : w_O} {h : m_H} {i : Int} (iv : w_Inv g o h) (we : w_eq g) (hall : ∀ a ∈ xs, a < 4294967296) (hn : xs.length ≤ 3072) (i0 : 0 ≤ i) (i1 : i + 6 ≤ (xs.length : Int)) (kk : ∀ (g2 : w_G) (o2 : w_O) (h2 : m_H), w_Inv g2 o2 h2 → w_eq g2 → h2.1 ≤ h.1 + 10 → (h2.2.1 : Int) - 5 * w_Sz (g_L g2) ≤ (h.2.1 : Int) - 5 * w_Sz (g_L g) + 400 → lp xs 1132 [.inr (.inr (.inr 0)), .inr (.inl (some 0)), .inr (.inl (some 31)), .inl (w_i i)] [] h2) : lp xs 861 [.inr (.inr (.inr 0)), .inr (.inl (some 0)), .inr (.inl (some 31)), .inl (w_i i)] [] h := by
  refine l_run (show t_0 xs 861 = g_0_861 xs from rfl) ?_
  unfold g_0_861
  refine l_al (fun _ => rfl) ?_
  obtain ⟨_, m0, rfl⟩ := iv_0 iv
  refine l_this (fun _ => rfl) m0 ?_
  refine l_ca (fun _ => rfl) rfl (q_back iv   (fun n1 g1 o1 h1 iv1 gr1 k1 => ⟨_, rfl, ?_⟩))
  refine l_popi (l_al (fun _ => rfl) ?_)
  obtain ⟨_, m31, _, _, _, _, _, _, _, _, _, _, _, _, _, _, rfl, _⟩ := iv_31 iv1
  refine l_this (fun _ => rfl) m31 ?_
  refine l_ca (fun _ => rfl) rfl (q_mBack iv1   (fun n2 g2 o2 h2 iv2 gr2 k2 => ⟨_, rfl, ?_⟩))
  refine l_popi (l_go ?_)
  exact kk g2 o2 h2 iv2 (eq_kp k2 (eq_kp k1 we)) (by have := gr1.1; have := gr2.1; omega) (by have := gr1.2; have := gr2.2; omega)
theorem lc_26 {xs : List Nat} {g : w_G} {o : w_O} {h : m_H} {i : Int} (iv : w_Inv g o h) (we : w_eq g) (hall : ∀ a ∈ xs, a < 4294967296) (hn : xs.length ≤ 3072) (i0 : 0 ≤ i) (i1 : i + 6 ≤ (xs.length : Int)) (kk : ∀ (g2 : w_G) (o2 : w_O) (h2 : m_H), w_Inv g2 o2 h2 → w_eq g2 → h2.1 ≤ h.1 + 10 → (h2.2.1 : Int) - 5 * w_Sz (g_L g2) ≤ (h.2.1 : Int) - 5 * w_Sz (g_L g) + 400 → lp xs 1132 [.inr (.inr (.inr 0)), .inr (.inl (some 0)), .inr (.inl (some 31)), .inl (w_i i)] [] h2) : lp xs 874 [.inr (.inr (.inr 0)), .inr (.inl (some 0)), .inr (.inl (some 31)), .inl (w_i i)] [] h := by
  refine l_run (show t_0 xs 874 = g_0_874 xs from rfl) ?_
  unfold g_0_874
  refine l_al (fun _ => rfl) (l_als (fun _ => rfl) (l_il (fun _ => rfl) (l_icI (x := 1) rfl (l_op (c := w_i (i + 1)) (i_add i 1) (l_sld hall (by omega) (by omega) (by omega) ?_)))))
  obtain ⟨_, m0, rfl⟩ := iv_0 iv
  refine l_this (fun _ => rfl) m0 ?_
  refine l_ca (fun _ => rfl) rfl (q_count iv (what := (a_s xs (i + 1))) (as_rg xs _).1 (as_rg xs _).2 (fun n1 g1 o1 h1 iv1 gr1 k1 => ⟨_, rfl, ?_⟩))
  refine l_popi (l_al (fun _ => rfl) (l_als (fun _ => rfl) (l_il (fun _ => rfl) (l_icI (x := 1) rfl (l_op (c := w_i (i + 1)) (i_add i 1) (l_sld hall (by omega) (by omega) (by omega) ?_))))))
  obtain ⟨_, m31, _, _, _, _, _, _, _, _, _, _, _, _, _, _, rfl, _⟩ := iv_31 iv1
  refine l_this (fun _ => rfl) m31 ?_
  refine l_ca (fun _ => rfl) rfl (q_mCount iv1 (n := (a_s xs (i + 1))) (as_rg xs _).1 (as_rg xs _).2 (fun n2 g2 o2 h2 iv2 gr2 k2 => ⟨_, rfl, ?_⟩))
  refine l_popi (l_go ?_)
  exact kk g2 o2 h2 iv2 (eq_kp k2 (eq_kp k1 we)) (by have := gr1.1; have := gr2.1; omega) (by have := gr1.2; have := gr2.2; omega)
theorem lc_27 {xs : List Nat} {g : w_G} {o : w_O} {h : m_H} {i : Int} (iv : w_Inv g o h) (we : w_eq g) (hall : ∀ a ∈ xs, a < 4294967296) (hn : xs.length ≤ 3072) (i0 : 0 ≤ i) (i1 : i + 6 ≤ (xs.length : Int)) (kk : ∀ (g2 : w_G) (o2 : w_O) (h2 : m_H), w_Inv g2 o2 h2 → w_eq g2 → h2.1 ≤ h.1 + 10 → (h2.2.1 : Int) - 5 * w_Sz (g_L g2) ≤ (h.2.1 : Int) - 5 * w_Sz (g_L g) + 400 → lp xs 1132 [.inr (.inr (.inr 0)), .inr (.inl (some 0)), .inr (.inl (some 31)), .inl (w_i i)] [] h2) : lp xs 897 [.inr (.inr (.inr 0)), .inr (.inl (some 0)), .inr (.inl (some 31)), .inl (w_i i)] [] h := by
  refine l_run (show t_0 xs 897 = g_0_897 xs from rfl) ?_
  unfold g_0_897
  refine l_al (fun _ => rfl) (l_als (fun _ => rfl) (l_il (fun _ => rfl) (l_icI (x := 1) rfl (l_op (c := w_i (i + 1)) (i_add i 1) (l_sld hall (by omega) (by omega) (by omega) (l_als (fun _ => rfl) (l_il (fun _ => rfl) (l_icI (x := 2) rfl (l_op (c := w_i (i + 2)) (i_add i 2) (l_sld hall (by omega) (by omega) (by omega) (l_als (fun _ => rfl) (l_il (fun _ => rfl) (l_icI (x := 3) rfl (l_op (c := w_i (i + 3)) (i_add i 3) (l_sld hall (by omega) (by omega) (by omega) ?_)))))))))))))))
  obtain ⟨_, m0, rfl⟩ := iv_0 iv
  refine l_this (fun _ => rfl) m0 ?_
  refine l_ca (fun _ => rfl) rfl (q_sheet iv (sh := (a_s xs (i + 1))) (so := (a_s xs (i + 2))) (n := (a_s xs (i + 3))) (as_rg xs _).1 (as_rg xs _).2 (as_rg xs _).1 (as_rg xs _).2 (as_rg xs _).1 (as_rg xs _).2 (fun n1 g1 o1 h1 iv1 gr1 k1 => ⟨_, rfl, ?_⟩))
  refine l_popi (l_al (fun _ => rfl) (l_als (fun _ => rfl) (l_il (fun _ => rfl) (l_icI (x := 1) rfl (l_op (c := w_i (i + 1)) (i_add i 1) (l_sld hall (by omega) (by omega) (by omega) (l_als (fun _ => rfl) (l_il (fun _ => rfl) (l_icI (x := 2) rfl (l_op (c := w_i (i + 2)) (i_add i 2) (l_sld hall (by omega) (by omega) (by omega) (l_als (fun _ => rfl) (l_il (fun _ => rfl) (l_icI (x := 3) rfl (l_op (c := w_i (i + 3)) (i_add i 3) (l_sld hall (by omega) (by omega) (by omega) ?_))))))))))))))))
  obtain ⟨_, m31, _, _, _, _, _, _, _, _, _, _, _, _, _, _, rfl, _⟩ := iv_31 iv1
  refine l_this (fun _ => rfl) m31 ?_
  refine l_ca (fun _ => rfl) rfl (q_mSheet iv1 (sh := (a_s xs (i + 1))) (so := (a_s xs (i + 2))) (n := (a_s xs (i + 3))) (as_rg xs _).1 (as_rg xs _).2 (as_rg xs _).1 (as_rg xs _).2 (as_rg xs _).1 (as_rg xs _).2 (fun n2 g2 o2 h2 iv2 gr2 k2 => ⟨_, rfl, ?_⟩))
  refine l_popi (l_go ?_)
  exact kk g2 o2 h2 iv2 (eq_kp k2 (eq_kp k1 we)) (by have := gr1.1; have := gr2.1; omega) (by have := gr1.2; have := gr2.2; omega)
theorem lc_28 {xs : List Nat} {g : w_G} {o : w_O} {h : m_H} {i : Int} (iv : w_Inv g o h) (we : w_eq g) (hall : ∀ a ∈ xs, a < 4294967296) (hn : xs.length ≤ 3072) (i0 : 0 ≤ i) (i1 : i + 6 ≤ (xs.length : Int)) (kk : ∀ (g2 : w_G) (o2 : w_O) (h2 : m_H), w_Inv g2 o2 h2 → w_eq g2 → h2.1 ≤ h.1 + 10 → (h2.2.1 : Int) - 5 * w_Sz (g_L g2) ≤ (h.2.1 : Int) - 5 * w_Sz (g_L g) + 400 → lp xs 1132 [.inr (.inr (.inr 0)), .inr (.inl (some 0)), .inr (.inl (some 31)), .inl (w_i i)] [] h2) : lp xs 940 [.inr (.inr (.inr 0)), .inr (.inl (some 0)), .inr (.inl (some 31)), .inl (w_i i)] [] h := by
  refine l_run (show t_0 xs 940 = g_0_940 xs from rfl) ?_
  unfold g_0_940
  refine l_al (fun _ => rfl) (l_als (fun _ => rfl) (l_il (fun _ => rfl) (l_icI (x := 1) rfl (l_op (c := w_i (i + 1)) (i_add i 1) (l_sld hall (by omega) (by omega) (by omega) (l_als (fun _ => rfl) (l_il (fun _ => rfl) (l_icI (x := 2) rfl (l_op (c := w_i (i + 2)) (i_add i 2) (l_sld hall (by omega) (by omega) (by omega) (l_als (fun _ => rfl) (l_il (fun _ => rfl) (l_icI (x := 3) rfl (l_op (c := w_i (i + 3)) (i_add i 3) (l_sld hall (by omega) (by omega) (by omega) ?_)))))))))))))))
  obtain ⟨_, m0, rfl⟩ := iv_0 iv
  refine l_this (fun _ => rfl) m0 ?_
  refine l_ca (fun _ => rfl) rfl (q_cell iv (sh := (a_s xs (i + 1))) (n := (a_s xs (i + 2))) (v := (a_s xs (i + 3))) (as_rg xs _).1 (as_rg xs _).2 (as_rg xs _).1 (as_rg xs _).2 (as_rg xs _).1 (as_rg xs _).2 (fun n1 g1 o1 h1 iv1 gr1 k1 => ⟨_, rfl, ?_⟩))
  refine l_popi (l_al (fun _ => rfl) (l_als (fun _ => rfl) (l_il (fun _ => rfl) (l_icI (x := 1) rfl (l_op (c := w_i (i + 1)) (i_add i 1) (l_sld hall (by omega) (by omega) (by omega) (l_als (fun _ => rfl) (l_il (fun _ => rfl) (l_icI (x := 2) rfl (l_op (c := w_i (i + 2)) (i_add i 2) (l_sld hall (by omega) (by omega) (by omega) (l_als (fun _ => rfl) (l_il (fun _ => rfl) (l_icI (x := 3) rfl (l_op (c := w_i (i + 3)) (i_add i 3) (l_sld hall (by omega) (by omega) (by omega) ?_))))))))))))))))
  obtain ⟨_, m31, _, _, _, _, _, _, _, _, _, _, _, _, _, _, rfl, _⟩ := iv_31 iv1
  refine l_this (fun _ => rfl) m31 ?_
  refine l_ca (fun _ => rfl) rfl (q_mCell iv1 (sh := (a_s xs (i + 1))) (n := (a_s xs (i + 2))) (va := (a_s xs (i + 3))) (as_rg xs _).1 (as_rg xs _).2 (as_rg xs _).1 (as_rg xs _).2 (as_rg xs _).1 (as_rg xs _).2 (fun n2 g2 o2 h2 iv2 gr2 k2 => ⟨_, rfl, ?_⟩))
  refine l_popi (l_go ?_)
  exact kk g2 o2 h2 iv2 (eq_kp k2 (eq_kp k1 we)) (by have := gr1.1; have := gr2.1; omega) (by have := gr1.2; have := gr2.2; omega)
theorem lc_29 {xs : List Nat} {g : w_G} {o : w_O} {h : m_H} {i : Int} (iv : w_Inv g o h) (we : w_eq g) (hall : ∀ a ∈ xs, a < 4294967296) (hn : xs.length ≤ 3072) (i0 : 0 ≤ i) (i1 : i + 6 ≤ (xs.length : Int)) (kk : ∀ (g2 : w_G) (o2 : w_O) (h2 : m_H), w_Inv g2 o2 h2 → w_eq g2 → h2.1 ≤ h.1 + 10 → (h2.2.1 : Int) - 5 * w_Sz (g_L g2) ≤ (h.2.1 : Int) - 5 * w_Sz (g_L g) + 400 → lp xs 1132 [.inr (.inr (.inr 0)), .inr (.inl (some 0)), .inr (.inl (some 31)), .inl (w_i i)] [] h2) : lp xs 983 [.inr (.inr (.inr 0)), .inr (.inl (some 0)), .inr (.inl (some 31)), .inl (w_i i)] [] h := by
  refine l_run (show t_0 xs 983 = g_0_983 xs from rfl) ?_
  unfold g_0_983
  refine l_al (fun _ => rfl) (l_als (fun _ => rfl) (l_il (fun _ => rfl) (l_icI (x := 1) rfl (l_op (c := w_i (i + 1)) (i_add i 1) (l_sld hall (by omega) (by omega) (by omega) (l_als (fun _ => rfl) (l_il (fun _ => rfl) (l_icI (x := 2) rfl (l_op (c := w_i (i + 2)) (i_add i 2) (l_sld hall (by omega) (by omega) (by omega) (l_als (fun _ => rfl) (l_il (fun _ => rfl) (l_icI (x := 3) rfl (l_op (c := w_i (i + 3)) (i_add i 3) (l_sld hall (by omega) (by omega) (by omega) (l_als (fun _ => rfl) (l_il (fun _ => rfl) (l_icI (x := 4) rfl (l_op (c := w_i (i + 4)) (i_add i 4) (l_sld hall (by omega) (by omega) (by omega) (l_als (fun _ => rfl) (l_il (fun _ => rfl) (l_icI (x := 5) rfl (l_op (c := w_i (i + 5)) (i_add i 5) (l_sld hall (by omega) (by omega) (by omega) ?_)))))))))))))))))))))))))
  obtain ⟨_, m0, rfl⟩ := iv_0 iv
  refine l_this (fun _ => rfl) m0 ?_
  refine l_ca (fun _ => rfl) rfl (q_copy iv (sh := (a_s xs (i + 1))) (n := (a_s xs (i + 2))) (ot := (a_s xs (i + 3))) (j := (a_s xs (i + 4))) (m := (a_s xs (i + 5))) (as_rg xs _).1 (as_rg xs _).2 (as_rg xs _).1 (as_rg xs _).2 (as_rg xs _).1 (as_rg xs _).2 (as_rg xs _).1 (as_rg xs _).2 (as_rg xs _).1 (as_rg xs _).2 (fun n1 g1 o1 h1 iv1 gr1 k1 => ⟨_, rfl, ?_⟩))
  refine l_popi (l_al (fun _ => rfl) (l_als (fun _ => rfl) (l_il (fun _ => rfl) (l_icI (x := 1) rfl (l_op (c := w_i (i + 1)) (i_add i 1) (l_sld hall (by omega) (by omega) (by omega) (l_als (fun _ => rfl) (l_il (fun _ => rfl) (l_icI (x := 2) rfl (l_op (c := w_i (i + 2)) (i_add i 2) (l_sld hall (by omega) (by omega) (by omega) (l_als (fun _ => rfl) ?_))))))))))))
  unfold g_0_1025
  refine l_il (fun _ => rfl) (l_icI (x := 3) rfl (l_op (c := w_i (i + 3)) (i_add i 3) (l_sld hall (by omega) (by omega) (by omega) (l_als (fun _ => rfl) (l_il (fun _ => rfl) (l_icI (x := 4) rfl (l_op (c := w_i (i + 4)) (i_add i 4) (l_sld hall (by omega) (by omega) (by omega) (l_als (fun _ => rfl) (l_il (fun _ => rfl) (l_icI (x := 5) rfl (l_op (c := w_i (i + 5)) (i_add i 5) (l_sld hall (by omega) (by omega) (by omega) ?_)))))))))))))
  obtain ⟨_, m31, _, _, _, _, _, _, _, _, _, _, _, _, _, _, rfl, _⟩ := iv_31 iv1
  refine l_this (fun _ => rfl) m31 ?_
  refine l_ca (fun _ => rfl) rfl (q_mCopy iv1 (sh := (a_s xs (i + 1))) (n := (a_s xs (i + 2))) (ot := (a_s xs (i + 3))) (j := (a_s xs (i + 4))) (m := (a_s xs (i + 5))) (as_rg xs _).1 (as_rg xs _).2 (as_rg xs _).1 (as_rg xs _).2 (as_rg xs _).1 (as_rg xs _).2 (as_rg xs _).1 (as_rg xs _).2 (as_rg xs _).1 (as_rg xs _).2 (fun n2 g2 o2 h2 iv2 gr2 k2 => ⟨_, rfl, ?_⟩))
  refine l_popi (l_go ?_)
  exact kk g2 o2 h2 iv2 (eq_kp k2 (eq_kp k1 we)) (by have := gr1.1; have := gr2.1; omega) (by have := gr1.2; have := gr2.2; omega)
theorem lc_30 {xs : List Nat} {g : w_G} {o : w_O} {h : m_H} {i : Int} (iv : w_Inv g o h) (we : w_eq g) (hall : ∀ a ∈ xs, a < 4294967296) (hn : xs.length ≤ 3072) (i0 : 0 ≤ i) (i1 : i + 6 ≤ (xs.length : Int)) (kk : ∀ (g2 : w_G) (o2 : w_O) (h2 : m_H), w_Inv g2 o2 h2 → w_eq g2 → h2.1 ≤ h.1 + 10 → (h2.2.1 : Int) - 5 * w_Sz (g_L g2) ≤ (h.2.1 : Int) - 5 * w_Sz (g_L g) + 400 → lp xs 1132 [.inr (.inr (.inr 0)), .inr (.inl (some 0)), .inr (.inl (some 31)), .inl (w_i i)] [] h2) : lp xs 1046 [.inr (.inr (.inr 0)), .inr (.inl (some 0)), .inr (.inl (some 31)), .inl (w_i i)] [] h := by
  refine l_run (show t_0 xs 1046 = g_0_1046 xs from rfl) ?_
  unfold g_0_1046
  refine l_al (fun _ => rfl) (l_als (fun _ => rfl) (l_il (fun _ => rfl) (l_icI (x := 1) rfl (l_op (c := w_i (i + 1)) (i_add i 1) (l_sld hall (by omega) (by omega) (by omega) (l_als (fun _ => rfl) (l_il (fun _ => rfl) (l_icI (x := 2) rfl (l_op (c := w_i (i + 2)) (i_add i 2) (l_sld hall (by omega) (by omega) (by omega) (l_als (fun _ => rfl) (l_il (fun _ => rfl) (l_icI (x := 3) rfl (l_op (c := w_i (i + 3)) (i_add i 3) (l_sld hall (by omega) (by omega) (by omega) (l_als (fun _ => rfl) (l_il (fun _ => rfl) (l_icI (x := 4) rfl (l_op (c := w_i (i + 4)) (i_add i 4) (l_sld hall (by omega) (by omega) (by omega) ?_))))))))))))))))))))
  obtain ⟨_, m0, rfl⟩ := iv_0 iv
  refine l_this (fun _ => rfl) m0 ?_
  refine l_ca (fun _ => rfl) rfl (q_paints iv (sh := (a_s xs (i + 1))) (sort := (a_s xs (i + 2))) (fro := (a_s xs (i + 3))) (n := (a_s xs (i + 4))) (as_rg xs _).1 (as_rg xs _).2 (as_rg xs _).1 (as_rg xs _).2 (as_rg xs _).1 (as_rg xs _).2 (as_rg xs _).1 (as_rg xs _).2 (fun n1 g1 o1 h1 iv1 gr1 k1 => ⟨_, rfl, ?_⟩))
  refine l_popi (l_al (fun _ => rfl) (l_als (fun _ => rfl) (l_il (fun _ => rfl) (l_icI (x := 1) rfl (l_op (c := w_i (i + 1)) (i_add i 1) (l_sld hall (by omega) (by omega) (by omega) (l_als (fun _ => rfl) (l_il (fun _ => rfl) (l_icI (x := 2) rfl (l_op (c := w_i (i + 2)) (i_add i 2) (l_sld hall (by omega) (by omega) (by omega) (l_als (fun _ => rfl) (l_il (fun _ => rfl) (l_icI (x := 3) rfl (l_op (c := w_i (i + 3)) (i_add i 3) (l_sld hall (by omega) (by omega) (by omega) (l_als (fun _ => rfl) ?_)))))))))))))))))
  unfold g_0_1088
  refine l_il (fun _ => rfl) (l_icI (x := 4) rfl (l_op (c := w_i (i + 4)) (i_add i 4) (l_sld hall (by omega) (by omega) (by omega) ?_)))
  obtain ⟨_, m31, _, _, _, _, _, _, _, _, _, _, _, _, _, _, rfl, _⟩ := iv_31 iv1
  refine l_this (fun _ => rfl) m31 ?_
  refine l_ca (fun _ => rfl) rfl (q_mPaints iv1 (sh := (a_s xs (i + 1))) (so := (a_s xs (i + 2))) (fo := (a_s xs (i + 3))) (n := (a_s xs (i + 4))) (as_rg xs _).1 (as_rg xs _).2 (as_rg xs _).1 (as_rg xs _).2 (as_rg xs _).1 (as_rg xs _).2 (as_rg xs _).1 (as_rg xs _).2 (fun n2 g2 o2 h2 iv2 gr2 k2 => ⟨_, rfl, ?_⟩))
  refine l_popi (l_go ?_)
  exact kk g2 o2 h2 iv2 (eq_kp k2 (eq_kp k1 we)) (by have := gr1.1; have := gr2.1; omega) (by have := gr1.2; have := gr2.2; omega)
theorem lc_31 {xs : List Nat} {g : w_G} {o : w_O} {h : m_H} {i : Int} (iv : w_Inv g o h) (we : w_eq g) (hall : ∀ a ∈ xs, a < 4294967296) (hn : xs.length ≤ 3072) (i0 : 0 ≤ i) (i1 : i + 6 ≤ (xs.length : Int)) (kk : ∀ (g2 : w_G) (o2 : w_O) (h2 : m_H), w_Inv g2 o2 h2 → w_eq g2 → h2.1 ≤ h.1 + 10 → (h2.2.1 : Int) - 5 * w_Sz (g_L g2) ≤ (h.2.1 : Int) - 5 * w_Sz (g_L g) + 400 → lp xs 1132 [.inr (.inr (.inr 0)), .inr (.inl (some 0)), .inr (.inl (some 31)), .inl (w_i i)] [] h2) : lp xs 1099 [.inr (.inr (.inr 0)), .inr (.inl (some 0)), .inr (.inl (some 31)), .inl (w_i i)] [] h := by
  refine l_run (show t_0 xs 1099 = g_0_1099 xs from rfl) ?_
  unfold g_0_1099
  refine l_al (fun _ => rfl) (l_als (fun _ => rfl) (l_il (fun _ => rfl) (l_icI (x := 1) rfl (l_op (c := w_i (i + 1)) (i_add i 1) (l_sld hall (by omega) (by omega) (by omega) (l_als (fun _ => rfl) (l_il (fun _ => rfl) (l_icI (x := 2) rfl (l_op (c := w_i (i + 2)) (i_add i 2) (l_sld hall (by omega) (by omega) (by omega) ?_))))))))))
  obtain ⟨_, m0, rfl⟩ := iv_0 iv
  refine l_this (fun _ => rfl) m0 ?_
  refine l_ca (fun _ => rfl) rfl (q_taken iv (pa_ := (a_s xs (i + 1))) (kd := (a_s xs (i + 2))) (as_rg xs _).1 (as_rg xs _).2 (as_rg xs _).1 (as_rg xs _).2 (fun n1 g1 o1 h1 iv1 gr1 k1 => ⟨_, rfl, ?_⟩))
  refine l_popi (l_al (fun _ => rfl) (l_als (fun _ => rfl) (l_il (fun _ => rfl) (l_icI (x := 1) rfl (l_op (c := w_i (i + 1)) (i_add i 1) (l_sld hall (by omega) (by omega) (by omega) (l_als (fun _ => rfl) (l_il (fun _ => rfl) (l_icI (x := 2) rfl (l_op (c := w_i (i + 2)) (i_add i 2) (l_sld hall (by omega) (by omega) (by omega) ?_)))))))))))
  obtain ⟨_, m31, _, _, _, _, _, _, _, _, _, _, _, _, _, _, rfl, _⟩ := iv_31 iv1
  refine l_this (fun _ => rfl) m31 ?_
  refine l_ca (fun _ => rfl) rfl (q_mTakenX iv1 (pa := (a_s xs (i + 1))) (kd := (a_s xs (i + 2))) (as_rg xs _).1 (as_rg xs _).2 (as_rg xs _).1 (as_rg xs _).2 (fun n2 g2 o2 h2 iv2 gr2 k2 => ⟨_, rfl, ?_⟩))
  refine l_popi (l_go ?_)
  exact kk g2 o2 h2 iv2 (eq_kp k2 (eq_kp k1 we)) (by have := gr1.1; have := gr2.1; omega) (by have := gr1.2; have := gr2.2; omega)
theorem and_31 (a : Nat) : m_and a 31 < 32 := Nat.lt_of_le_of_lt (Nat.mod_le _ _) (Nat.lt_succ_of_le (Nat.and_le_right (n := a) (m := 31)))
set_option maxRecDepth 20000 in
theorem l_loop {xs : List Nat} (hall : ∀ a ∈ xs, a < 4294967296) (hn : xs.length ≤ 3072) : ∀ (k : Nat) {g : w_G} {o : w_O} {h : m_H} {i : Int}, w_Inv g o h → w_eq g → 0 ≤ i → i ≤ (xs.length : Int) → (xs.length : Int) - i < (k : Int) → (h.1 : Int) ≤ 67 + 2 * i → (h.2.1 : Int) - 5 * w_Sz (g_L g) ≤ 21485 + 80 * i → lp xs 18 [.inr (.inr (.inr 0)), .inr (.inl (some 0)), .inr (.inl (some 31)), .inl (w_i i)] [] h := by
  intro k
  induction k with
  | zero => intro g o h i iv we a1 a2 a3 a4 a5; exact absurd a3 (by omega)
  | succ k ih =>
    intro g o h i iv we a1 a2 a3 a4 a5
    have hL := iv_wo iv
    have hS := S_top (L := g_L g) (by omega)
    refine l_run (show t_0 xs 18 = g_0_18 xs from rfl) ?_
    unfold g_0_18
    refine l_il (fun _ => rfl) (l_als (fun _ => rfl) (l_sln (by omega) (l_icI (x := 6) rfl (l_op (c := w_i ((xs.length : Int) - 6)) (i_sub _ _) (l_bgt (by omega) (by omega) (by omega) (by omega) (fun hg => ?_) (fun hg => ?_))))))
    · refine l_run (show t_0 xs 1138 = g_0_1138 xs from rfl) ?_
      exact l_ret (by omega) (by omega)
    · refine l_als (fun _ => rfl) (l_il (fun _ => rfl) (l_sld hall (by omega) (by omega) (by omega) ?_))
      refine l_ic (l_op (c := m_and (w_i (a_s xs i)) 31) rfl ?_)
      have hb := and_31 (w_i (a_s xs i))
      generalize m_and (w_i (a_s xs i)) 31 = t at hb ⊢
      have kk : ∀ (g2 : w_G) (o2 : w_O) (h2 : m_H), w_Inv g2 o2 h2 → w_eq g2 → h2.1 ≤ h.1 + 10 → (h2.2.1 : Int) - 5 * w_Sz (g_L g2) ≤ (h.2.1 : Int) - 5 * w_Sz (g_L g) + 400 → lp xs 1132 [.inr (.inr (.inr 0)), .inr (.inl (some 0)), .inr (.inl (some 31)), .inl (w_i i)] [] h2 := fun g2 o2 h2 iv2 we2 b1 b2 => by
        refine l_run (show t_0 xs 1132 = g_0_1132 xs from rfl) ?_
        unfold g_0_1132
        refine l_inc (c := w_i (i + 6)) (fun _ => rfl) (i_addL (y := 6) rfl i) (fun _ => rfl) (l_go ?_)
        exact ih iv2 we2 (by omega) (by omega) (by omega) (by omega) (by omega)
      match t, hb with
      | 0, _ => exact l_tsw (t := 176) (fun _ => rfl) (lc_0 iv we hall hn a1 (by omega) kk)
      | 1, _ => exact l_tsw (t := 209) (fun _ => rfl) (lc_1 iv we hall hn a1 (by omega) kk)
      | 2, _ => exact l_tsw (t := 252) (fun _ => rfl) (lc_2 iv we hall hn a1 (by omega) kk)
      | 3, _ => exact l_tsw (t := 295) (fun _ => rfl) (lc_3 iv we hall hn a1 (by omega) kk)
      | 4, _ => exact l_tsw (t := 328) (fun _ => rfl) (lc_4 iv we hall hn a1 (by omega) kk)
      | 5, _ => exact l_tsw (t := 361) (fun _ => rfl) (lc_5 iv we hall hn a1 (by omega) kk)
      | 6, _ => exact l_tsw (t := 404) (fun _ => rfl) (lc_6 iv we hall hn a1 (by omega) kk)
      | 7, _ => exact l_tsw (t := 427) (fun _ => rfl) (lc_7 iv we hall hn a1 (by omega) kk)
      | 8, _ => exact l_tsw (t := 440) (fun _ => rfl) (lc_8 iv we hall hn a1 (by omega) kk)
      | 9, _ => exact l_tsw (t := 463) (fun _ => rfl) (lc_9 iv we hall hn a1 (by omega) kk)
      | 10, _ => exact l_tsw (t := 476) (fun _ => rfl) (lc_10 iv we hall hn a1 (by omega) kk)
      | 11, _ => exact l_tsw (t := 509) (fun _ => rfl) (lc_11 iv we hall hn a1 (by omega) kk)
      | 12, _ => exact l_tsw (t := 542) (fun _ => rfl) (lc_12 iv we hall hn a1 (by omega) kk)
      | 13, _ => exact l_tsw (t := 565) (fun _ => rfl) (lc_13 iv we hall hn a1 (by omega) kk)
      | 14, _ => exact l_tsw (t := 588) (fun _ => rfl) (lc_14 iv we hall hn a1 (by omega) kk)
      | 15, _ => exact l_tsw (t := 621) (fun _ => rfl) (lc_15 iv we hall hn a1 (by omega) kk)
      | 16, _ => exact l_tsw (t := 644) (fun _ => rfl) (lc_16 iv we hall hn a1 (by omega) kk)
      | 17, _ => exact l_tsw (t := 667) (fun _ => rfl) (lc_17 iv we hall hn a1 (by omega) kk)
      | 18, _ => exact l_tsw (t := 700) (fun _ => rfl) (lc_18 iv we hall hn a1 (by omega) kk)
      | 19, _ => exact l_tsw (t := 723) (fun _ => rfl) (lc_19 iv we hall hn a1 (by omega) kk)
      | 20, _ => exact l_tsw (t := 736) (fun _ => rfl) (lc_20 iv we hall hn a1 (by omega) kk)
      | 21, _ => exact l_tsw (t := 759) (fun _ => rfl) (lc_21 iv we hall hn a1 (by omega) kk)
      | 22, _ => exact l_tsw (t := 782) (fun _ => rfl) (lc_22 iv we hall hn a1 (by omega) kk)
      | 23, _ => exact l_tsw (t := 815) (fun _ => rfl) (lc_23 iv we hall hn a1 (by omega) kk)
      | 24, _ => exact l_tsw (t := 848) (fun _ => rfl) (lc_24 iv we hall hn a1 (by omega) kk)
      | 25, _ => exact l_tsw (t := 861) (fun _ => rfl) (lc_25 iv we hall hn a1 (by omega) kk)
      | 26, _ => exact l_tsw (t := 874) (fun _ => rfl) (lc_26 iv we hall hn a1 (by omega) kk)
      | 27, _ => exact l_tsw (t := 897) (fun _ => rfl) (lc_27 iv we hall hn a1 (by omega) kk)
      | 28, _ => exact l_tsw (t := 940) (fun _ => rfl) (lc_28 iv we hall hn a1 (by omega) kk)
      | 29, _ => exact l_tsw (t := 983) (fun _ => rfl) (lc_29 iv we hall hn a1 (by omega) kk)
      | 30, _ => exact l_tsw (t := 1046) (fun _ => rfl) (lc_30 iv we hall hn a1 (by omega) kk)
      | 31, _ => exact l_tsw (t := 1099) (fun _ => rfl) (lc_31 iv we hall hn a1 (by omega) kk)
      | t + 32, hb => exact absurd hb (by omega)

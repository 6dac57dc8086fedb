/-! THE CLASS: WHAT ELSE IS MADE; BITS AND BOTH SIDES -/
section CM2
variable {X : KX} {h : AH} {s : MST}
theorem kput_none {h : AH} {a b : Nat} {e : kE} (hq : kput h a e b = none) : b ≠ a ∧ h b = none := by
  by_cases hb : b = a
  · rw [hb, kput_eq] at hq
    exact absurd hq (by simp)
  · exact ⟨hb, (kput_ne hb).symm.trans hq⟩
set_option maxRecDepth 4000 in
theorem f_odInit {a : Nat} (ha : h a = some (kO 2 [.null])) : Fn X 1 1 26 yX2_init cX2_init 1 none [.ref a] h (fun rv hv => rv = none ∧ ∃ q : Nat, h q = none ∧ hv = kput (kput h q (kL 26 (fun _ => 0))) a (kO 2 [.ref q])) := by
  refine fn_of (by decide) (Nat.le_of_ble_eq_true rfl) (fun M hM => ?_)
  refine a_aload_n (pc := 0) dX2_init_0 rfl rfl ?_
  refine a_objInit (pc := 1) ko_X2_3 ko_im ko_co dX2_init_1 (by rw [hM.1]; simp only [rmd]; omega) (by rw [hM.1]; simp [rmd, Value.category] <;> omega) ?_
  refine a_aload_n (pc := 4) dX2_init_4 rfl rfl ?_
  refine a_bipush (pc := 5) dX2_init_5 ib_26 ?_
  refine a_newL (pc := 7) ka_long dX2_init_7 rfl (by omega) (by rw [hM.1]; simp only [rmd]; omega) (by rw [hM.1]; simp only [rmd]; omega) (fun q hq => ?_)
  have n_q : q ≠ a := Ne.symm (kne ha hq)
  refine a_putfieldF (pc := 9) kf_X2_9 rfl dX2_init_9 ((kput_ne (Ne.symm n_q)).trans ha) (rfl) (by rfl) (Nat.le_of_ble_eq_true rfl) ?_
  refine a_hp (show _ = kput (kput h q (kL 26 (fun _ => 0))) a (kO 2 [.ref q]) from rfl) ?_
  refine a_ret_v (pc := 12) hM rfl dX2_init_12 (by omega) (by omega) ?_
  exact ⟨rfl, q, hq, rfl⟩

set_option maxRecDepth 4000 in
theorem f_tpInit {a : Nat} (ha : h a = some (kO 8 [.null, .int 0])) : Fn X 1 1 160 yX8_init cX8_init 1 none [.ref a] h (fun rv hv => rv = none ∧ ∃ q : Nat, h q = none ∧ hv = kput (kput h q (kI 160 (fun _ => 0))) a (kO 8 [.ref q, .int 0])) := by
  refine fn_of (by decide) (Nat.le_of_ble_eq_true rfl) (fun M hM => ?_)
  refine a_aload_n (pc := 0) dX8_init_0 rfl rfl ?_
  refine a_objInit (pc := 1) ko_X8_3 ko_im ko_co dX8_init_1 (by rw [hM.1]; simp only [rmd]; omega) (by rw [hM.1]; simp [rmd, Value.category] <;> omega) ?_
  refine a_aload_n (pc := 4) dX8_init_4 rfl rfl ?_
  refine a_sipush (pc := 5) dX8_init_5 is_160 ?_
  refine a_newI (pc := 8) ka_int dX8_init_8 rfl (by omega) (by rw [hM.1]; simp only [rmd]; omega) (by rw [hM.1]; simp only [rmd]; omega) (fun q hq => ?_)
  have n_q : q ≠ a := Ne.symm (kne ha hq)
  refine a_putfieldF (pc := 10) kf_X8_9 rfl dX8_init_10 ((kput_ne (Ne.symm n_q)).trans ha) (rfl) (by rfl) (Nat.le_of_ble_eq_true rfl) ?_
  refine a_hp (show _ = kput (kput h q (kI 160 (fun _ => 0))) a (kO 8 [.ref q, .int 0]) from rfl) ?_
  refine a_ret_v (pc := 13) hM rfl dX8_init_13 (by omega) (by omega) ?_
  exact ⟨rfl, q, hq, rfl⟩

set_option maxRecDepth 4000 in
theorem f_tkInit {a : Nat} (ha : h a = some (kO 10 [.null, .null, .null, .int 0])) : Fn X 1 3 (161 + 161 + 161) yX10_init cX10_init 1 none [.ref a] h (fun rv hv => rv = none ∧ ∃ q1 q2 q3 : Nat, h q1 = none ∧ (kput h q1 (kI 161 (fun _ => 0))) q2 = none ∧ (kput (kput h q1 (kI 161 (fun _ => 0))) q2 (kI 161 (fun _ => 0))) q3 = none ∧ hv = kput (kput (kput (kput h q1 (kI 161 (fun _ => 0))) q2 (kI 161 (fun _ => 0))) q3 (kI 161 (fun _ => 0))) a (kO 10 [.ref q1, .ref q2, .ref q3, .int 0])) := by
  refine fn_of (by decide) (Nat.le_of_ble_eq_true rfl) (fun M hM => ?_)
  refine a_aload_n (pc := 0) dX10_init_0 rfl rfl ?_
  refine a_objInit (pc := 1) ko_X10_3 ko_im ko_co dX10_init_1 (by rw [hM.1]; simp only [rmd]; omega) (by rw [hM.1]; simp [rmd, Value.category] <;> omega) ?_
  refine a_aload_n (pc := 4) dX10_init_4 rfl rfl ?_
  refine a_sipush (pc := 5) dX10_init_5 is_161 ?_
  refine a_newI (pc := 8) ka_int dX10_init_8 rfl (by omega) (by rw [hM.1]; simp only [rmd]; omega) (by rw [hM.1]; simp only [rmd]; omega) (fun q1 hq1 => ?_)
  have n_q1 : q1 ≠ a := Ne.symm (kne ha hq1)
  refine a_putfieldF (pc := 10) kf_X10_9 rfl dX10_init_10 ((kput_ne (Ne.symm n_q1)).trans ha) (rfl) (by rfl) (Nat.le_of_ble_eq_true rfl) ?_
  refine a_hp (show _ = kput (kput h q1 (kI 161 (fun _ => 0))) a (kO 10 [.ref q1, .null, .null, .int 0]) from rfl) ?_
  refine a_aload_n (pc := 13) dX10_init_13 rfl rfl ?_
  refine a_sipush (pc := 14) dX10_init_14 is_161 ?_
  refine a_newI (pc := 17) ka_int dX10_init_17 rfl (by omega) (by rw [hM.1]; simp only [rmd]; omega) (by rw [hM.1]; simp only [rmd]; omega) (fun q2 hq2 => ?_)
  have n_q2 : q2 ≠ a := (kput_none hq2).1
  refine a_putfieldF (pc := 19) kf_X10_15 rfl dX10_init_19 ((kput_ne (Ne.symm n_q2)).trans kput_eq) (rfl) (by rfl) (Nat.le_of_ble_eq_true rfl) ?_
  refine a_hp (show _ = kput (kput (kput h q1 (kI 161 (fun _ => 0))) q2 (kI 161 (fun _ => 0))) a (kO 10 [.ref q1, .ref q2, .null, .int 0]) from kput_fin2 n_q2) ?_
  refine a_aload_n (pc := 22) dX10_init_22 rfl rfl ?_
  refine a_sipush (pc := 23) dX10_init_23 is_161 ?_
  refine a_newI (pc := 26) ka_int dX10_init_26 rfl (by omega) (by rw [hM.1]; simp only [rmd]; omega) (by rw [hM.1]; simp only [rmd]; omega) (fun q3 hq3 => ?_)
  have n_q3 : q3 ≠ a := (kput_none hq3).1
  refine a_putfieldF (pc := 28) kf_X10_18 rfl dX10_init_28 ((kput_ne (Ne.symm n_q3)).trans kput_eq) (rfl) (by rfl) (Nat.le_of_ble_eq_true rfl) ?_
  refine a_hp (show _ = kput (kput (kput (kput h q1 (kI 161 (fun _ => 0))) q2 (kI 161 (fun _ => 0))) q3 (kI 161 (fun _ => 0))) a (kO 10 [.ref q1, .ref q2, .ref q3, .int 0]) from kput_fin2 n_q3) ?_
  refine a_ret_v (pc := 31) hM rfl dX10_init_31 (by omega) (by omega) ?_
  exact ⟨rfl, q1, q2, q3, hq1, (kput_none hq2).2, (kput_none hq3).2, rfl⟩

set_option maxRecDepth 4000 in
theorem f_teInit {a c e n : Nat} {f : Nat → Int32} (ha : h a = some (kO 9 [.null, .null, .null])) (hc : h c = some (kI n f)) (hn : n ≤ 1000) (hca : c ≠ a) : Fn X 1 1 n yX9_init cX9_init 3 none [.ref a, .ref c, .ref e] h (fun rv hv => rv = none ∧ ∃ q : Nat, h q = none ∧ q ≠ a ∧ hv = kput (kput h q (kI n (fun _ => 0))) a (kO 9 [.ref c, .ref e, .ref q])) := by
  refine fn_of (by decide) (Nat.le_of_ble_eq_true rfl) (fun M hM => ?_)
  refine a_aload_n (pc := 0) dX9_init_0 rfl rfl ?_
  refine a_objInit (pc := 1) ko_X9_1 ko_im ko_co dX9_init_1 (by rw [hM.1]; simp only [rmd]; omega) (by rw [hM.1]; simp [rmd, Value.category] <;> omega) ?_
  refine a_aload_n (pc := 4) dX9_init_4 rfl rfl ?_
  refine a_aload_n (pc := 5) dX9_init_5 rfl rfl ?_
  refine a_putfieldF (pc := 6) kf_X9_7 rfl dX9_init_6 (ha) (rfl) (by rfl) (Nat.le_of_ble_eq_true rfl) ?_
  refine a_hp (show _ = kput h a (kO 9 [.ref c, .null, .null]) from rfl) ?_
  refine a_aload_n (pc := 9) dX9_init_9 rfl rfl ?_
  refine a_aload_n (pc := 10) dX9_init_10 rfl rfl ?_
  refine a_putfieldF (pc := 11) kf_X9_13 rfl dX9_init_11 (kput_eq) (rfl) (by rfl) (Nat.le_of_ble_eq_true rfl) ?_
  refine a_hp (show _ = kput h a (kO 9 [.ref c, .ref e, .null]) from kput_put) ?_
  refine a_aload_n (pc := 14) dX9_init_14 rfl rfl ?_
  refine a_aload_n (pc := 15) dX9_init_15 rfl rfl ?_
  refine a_alen (pc := 16) (t := 0) rfl dX9_init_16 ((kput_ne hca).trans hc) rfl ?_
  refine a_newI (pc := 17) ka_int dX9_init_17 rfl (by omega) (by rw [hM.1]; simp only [rmd]; omega) (by rw [hM.1]; simp only [rmd]; omega) (fun q hq => ?_)
  have n_q : q ≠ a := (kput_none hq).1
  refine a_putfieldF (pc := 19) kf_X9_16 rfl dX9_init_19 ((kput_ne (Ne.symm n_q)).trans kput_eq) (rfl) (by rfl) (Nat.le_of_ble_eq_true rfl) ?_
  refine a_hp (show _ = kput (kput h q (kI n (fun _ => 0))) a (kO 9 [.ref c, .ref e, .ref q]) from kput_fin2 n_q) ?_
  refine a_ret_v (pc := 22) hM rfl dX9_init_22 (by omega) (by omega) ?_
  exact ⟨rfl, q, (kput_none hq).2, n_q, rfl⟩

set_option maxRecDepth 4000 in
theorem f_rdInit {a : Nat} (ha : h a = some (kO 4 [.null, .null, .null, .int 0, .int 0, .int 0, .int 0])) : Fn X 2 6 (4 + 161 + 161 + 161 + 160 + 3) yX4_init cX4_init 1 none [.ref a] h (fun rv hv => rv = none ∧ ∃ t k1 k2 k3 c e : Nat, h k1 = none ∧ (kput h k1 (kI 161 (fun _ => 0))) k2 = none ∧ (kput (kput h k1 (kI 161 (fun _ => 0))) k2 (kI 161 (fun _ => 0))) k3 = none ∧ (kput (kput (kput h k1 (kI 161 (fun _ => 0))) k2 (kI 161 (fun _ => 0))) k3 (kI 161 (fun _ => 0))) t = none ∧ (kput (kput (kput (kput h k1 (kI 161 (fun _ => 0))) k2 (kI 161 (fun _ => 0))) k3 (kI 161 (fun _ => 0))) t (kO 10 [.ref k1, .ref k2, .ref k3, .int 0])) c = none ∧ (kput (kput (kput (kput (kput h k1 (kI 161 (fun _ => 0))) k2 (kI 161 (fun _ => 0))) k3 (kI 161 (fun _ => 0))) t (kO 10 [.ref k1, .ref k2, .ref k3, .int 0])) c (kI 160 (fun _ => 0))) e = none ∧ hv = kput (kput (kput (kput (kput (kput (kput h k1 (kI 161 (fun _ => 0))) k2 (kI 161 (fun _ => 0))) k3 (kI 161 (fun _ => 0))) t (kO 10 [.ref k1, .ref k2, .ref k3, .int 0])) c (kI 160 (fun _ => 0))) e (kI 3 (fun _ => 0))) a (kO 4 [.ref t, .ref c, .ref e, .int 0, .int 0, .int 0, .int 0])) := by
  refine fn_of (by decide) (Nat.le_of_ble_eq_true rfl) (fun M hM => ?_)
  refine a_aload_n (pc := 0) dX4_init_0 rfl rfl ?_
  refine a_objInit (pc := 1) ko_X4_3 ko_im ko_co dX4_init_1 (by rw [hM.1]; simp only [rmd]; omega) (by rw [hM.1]; simp [rmd, Value.category] <;> omega) ?_
  refine a_aload_n (pc := 4) dX4_init_4 rfl rfl ?_
  refine a_new (pc := 5) kn_X4_9 dX4_init_5 (by rw [hM.1]; simp only [rmd]; omega) (by rw [hM.1]; simp only [rmd]; omega) (fun t ht => ?_)
  have n_t : t ≠ a := Ne.symm (kne ha ht)
  refine a_dup (pc := 8) dX4_init_8 rfl ?_
  refine a_callI (pc := 9) km_X4_11 dX4_init_9 (f_tkInit kput_eq) rfl rfl (rok_of hM (by decide) (by decide) (by omega) (by omega)) (Nat.le_of_ble_eq_true rfl) (fun r9 h9 hp9 => ?_)
  obtain ⟨rfl, k1, k2, k3, hk1, hk2, hk3, rfl⟩ := hp9
  have m1 := kput_none hk1
  have m2 := kput_none hk2
  have m22 := kput_none m2.2
  have m3 := kput_none hk3
  have m32 := kput_none m3.2
  have m33 := kput_none m32.2
  have a1 : a ≠ k1 := kne ha m1.2
  have a2 : a ≠ k2 := kne ha m22.2
  have a3 : a ≠ k3 := kne ha m33.2
  refine a_hp (show _ = (kput (kput (kput (kput h k1 (kI 161 (fun _ => 0))) k2 (kI 161 (fun _ => 0))) k3 (kI 161 (fun _ => 0))) t (kO 10 [.ref k1, .ref k2, .ref k3, .int 0])) by rw [kput_comm (h := h) (a := t) (b := k1) (Ne.symm m1.1), kput_comm (a := t) (b := k2) (Ne.symm m22.1), kput_comm (a := t) (b := k3) (Ne.symm m33.1), kput_put]) ?_
  refine a_putfieldF (pc := 12) kf_X4_12 rfl dX4_init_12 ((kput_ne (Ne.symm n_t)).trans ((kput_ne a3).trans ((kput_ne a2).trans ((kput_ne a1).trans ha)))) (rfl) (by rfl) (Nat.le_of_ble_eq_true rfl) ?_
  refine a_hp (show _ = kput (kput (kput (kput (kput h k1 (kI 161 (fun _ => 0))) k2 (kI 161 (fun _ => 0))) k3 (kI 161 (fun _ => 0))) t (kO 10 [.ref k1, .ref k2, .ref k3, .int 0])) a (kO 4 [.ref t, .null, .null, .int 0, .int 0, .int 0, .int 0]) from rfl) ?_
  refine a_aload_n (pc := 15) dX4_init_15 rfl rfl ?_
  refine a_sipush (pc := 16) dX4_init_16 is_160 ?_
  refine a_newI (pc := 19) ka_int dX4_init_19 rfl (by omega) (by rw [hM.1]; simp only [rmd]; omega) (by rw [hM.1]; simp only [rmd]; omega) (fun c hc => ?_)
  have mc := kput_none hc
  refine a_putfieldF (pc := 21) kf_X4_18 rfl dX4_init_21 ((kput_ne (Ne.symm mc.1)).trans kput_eq) (rfl) (by rfl) (Nat.le_of_ble_eq_true rfl) ?_
  refine a_hp (show _ = kput (kput (kput (kput (kput (kput h k1 (kI 161 (fun _ => 0))) k2 (kI 161 (fun _ => 0))) k3 (kI 161 (fun _ => 0))) t (kO 10 [.ref k1, .ref k2, .ref k3, .int 0])) c (kI 160 (fun _ => 0))) a (kO 4 [.ref t, .ref c, .null, .int 0, .int 0, .int 0, .int 0]) from kput_fin2 mc.1) ?_
  refine a_aload_n (pc := 24) dX4_init_24 rfl rfl ?_
  refine a_iconst (pc := 25) dX4_init_25 ic_3 ?_
  refine a_newI (pc := 26) ka_int dX4_init_26 rfl (by omega) (by rw [hM.1]; simp only [rmd]; omega) (by rw [hM.1]; simp only [rmd]; omega) (fun e he => ?_)
  have me := kput_none he
  refine a_putfieldF (pc := 28) kf_X4_24 rfl dX4_init_28 ((kput_ne (Ne.symm me.1)).trans kput_eq) (rfl) (by rfl) (Nat.le_of_ble_eq_true rfl) ?_
  refine a_hp (show _ = kput (kput (kput (kput (kput (kput (kput h k1 (kI 161 (fun _ => 0))) k2 (kI 161 (fun _ => 0))) k3 (kI 161 (fun _ => 0))) t (kO 10 [.ref k1, .ref k2, .ref k3, .int 0])) c (kI 160 (fun _ => 0))) e (kI 3 (fun _ => 0))) a (kO 4 [.ref t, .ref c, .ref e, .int 0, .int 0, .int 0, .int 0]) from kput_fin2 me.1) ?_
  have p2 : (kput h k1 (kI 161 (fun _ => 0))) k2 = none := (kput_ne m2.1).trans m22.2
  have p3 : (kput (kput h k1 (kI 161 (fun _ => 0))) k2 (kI 161 (fun _ => 0))) k3 = none := (kput_ne m3.1).trans ((kput_ne m32.1).trans m33.2)
  have pt : (kput (kput (kput h k1 (kI 161 (fun _ => 0))) k2 (kI 161 (fun _ => 0))) k3 (kI 161 (fun _ => 0))) t = none := (kput_ne (Ne.symm m33.1)).trans ((kput_ne (Ne.symm m22.1)).trans ((kput_ne (Ne.symm m1.1)).trans ht))
  have he2 : (kput (kput (kput (kput (kput h k1 (kI 161 (fun _ => 0))) k2 (kI 161 (fun _ => 0))) k3 (kI 161 (fun _ => 0))) t (kO 10 [.ref k1, .ref k2, .ref k3, .int 0])) c (kI 160 (fun _ => 0))) e = none := me.2
  refine a_ret_v (pc := 31) hM rfl dX4_init_31 (by omega) (by omega) ?_
  exact ⟨rfl, t, k1, k2, k3, c, e, m1.2, p2, p3, pt, mc.2, he2, rfl⟩

set_option maxRecDepth 4000 in
theorem f_textRead {r t cd en L : Nat} {k tk ft : Int32} {fc fe : Nat → Int32} (hr : h r = some (kO 4 [.ref t, .ref cd, .ref en, .int (nI L), .int k, .int tk, .int ft])) (hcd : h cd = some (kI 160 fc)) (hen : h en = some (kI 3 fe)) (hL : L ≤ 160) : Fn X 2 4 (3 + L + 3 + L) yX4_textRead cX4_textRead 1 (some (.object "FiveCards$Text")) [.ref r] h (fun rv hv => ∃ x c e q : Nat, h x = none ∧ h c = none ∧ c ≠ x ∧ h e = none ∧ e ≠ x ∧ e ≠ c ∧ h q = none ∧ q ≠ x ∧ q ≠ c ∧ q ≠ e ∧ rv = some (.ref x) ∧ hv = kput (kput (kput (kput h c (kI L (if L = 160 then fc else va_cpy fc (fun _ => 0) 0 0 (min 160 L)))) e (kI 3 fe)) q (kI L (fun _ => 0))) x (kO 9 [.ref c, .ref e, .ref q])) := by
  refine fn_of (by decide) (Nat.le_of_ble_eq_true rfl) (fun M hM => ?_)
  refine a_new (pc := 0) kn_X4_22 dX4_textRead_0 (by rw [hM.1]; simp only [rmd]; omega) (by rw [hM.1]; simp only [rmd]; omega) (fun x hx => ?_)
  have n_r : r ≠ x := kne hr hx
  have n_cd : cd ≠ x := kne hcd hx
  have n_en : en ≠ x := kne hen hx
  refine a_dup (pc := 3) dX4_textRead_3 rfl ?_
  refine a_aload_n (pc := 4) dX4_textRead_4 rfl rfl ?_
  refine a_getfield (pc := 5) kg_X4_18 dX4_textRead_5 ((kput_ne n_r).trans hr) rfl ?_
  refine a_aload_n (pc := 8) dX4_textRead_8 rfl rfl ?_
  refine a_getfield (pc := 9) kg_X4_31 dX4_textRead_9 ((kput_ne n_r).trans hr) rfl ?_
  refine a_topi ((show nI L = nI L from rfl)) ?_
  refine a_callS (pc := 12) km_X4_55 dX4_textRead_12 (f_copyI ((kput_ne n_cd).trans hcd) (by decide) (by omega)) rfl rfl (rok_of hM (by decide) (by decide) (by omega) (by omega)) (Nat.le_of_ble_eq_true rfl) (fun r12 h12 hp12 => ?_)
  obtain ⟨c, hc, rfl, rfl⟩ := hp12
  have mc := kput_none hc
  have r_c : r ≠ c := kne hr mc.2
  have en_c : en ≠ c := kne hen mc.2
  refine a_aload_n (pc := 15) dX4_textRead_15 rfl rfl ?_
  refine a_getfield (pc := 16) kg_X4_24 dX4_textRead_16 ((kput_ne r_c).trans ((kput_ne n_r).trans hr)) rfl ?_
  refine a_cloneI (pc := 19) kcl_X4_61 dX4_textRead_19 ((kput_ne en_c).trans ((kput_ne n_en).trans hen)) (by rw [hM.1]; simp only [rmd]; omega) (by rw [hM.1]; simp [rmd, Value.category] <;> omega) (by rw [hM.1]; simp only [rmd]; omega) (by rw [hM.1]; simp only [rmd]; omega) (fun e he => ?_)
  have me := kput_none he
  have me2 := kput_none me.2
  refine a_castA (pc := 22) kl_X4_62 (t := 0) rfl (by decide) kput_eq dX4_textRead_22 ?_
  refine a_callI (pc := 25) km_X4_66 dX4_textRead_25 (f_teInit ((kput_ne (Ne.symm me2.1)).trans ((kput_ne (Ne.symm mc.1)).trans kput_eq)) ((kput_ne (Ne.symm me.1)).trans kput_eq) (by omega) mc.1) rfl rfl (rok_of hM (by decide) (by decide) (by omega) (by omega)) (Nat.le_of_ble_eq_true rfl) (fun r25 h25 hp25 => ?_)
  obtain ⟨rfl, q, hq, hqx, rfl⟩ := hp25
  have mq := kput_none hq
  have mq2 := kput_none mq.2
  have mq3 := kput_none mq2.2
  refine a_ret_a (pc := 28) hM rfl (Or.inl ⟨_, rfl⟩) (Or.inr ⟨_, rfl⟩) dX4_textRead_28 (by omega) (by omega) ?_
  exact ⟨x, c, e, q, hx, mc.2, mc.1, me2.2, me2.1, me.1, mq3.2, mq3.1, mq2.1, mq.1, rfl, by rw [kput_comm (h := h) (a := x) (b := c) (Ne.symm mc.1), kput_comm (a := x) (b := e) (Ne.symm me2.1), kput_comm (a := x) (b := q) (Ne.symm mq3.1), kput_put]⟩

set_option maxRecDepth 4000 in
theorem f_cbit (b : Bool) : Fn X 0 0 0 yX9_bit cX9_bit 1 (some .int) [.int (bI b)] h (fun rv hv => rv = some (.int (bI b)) ∧ hv = h) := by
  refine fn_of (by decide) (Nat.le_of_ble_eq_true rfl) (fun M hM => ?_)
  refine a_iload_n (pc := 0) dX9_bit_0 rfl rfl ?_
  refine a_if_eqB (pc := 1) (tgt := 8) dX9_bit_1 (by decide) (fun c1 => ?_) (fun c1 => ?_)
  · have hb : b = false := c1
    refine a_iconst (pc := 8) dX9_bit_8 ic_0 ?_
    refine a_ret_i (pc := 9) hM rfl (rfl) dX9_bit_9 (by omega) (by omega) ?_
    exact ⟨by rw [hb]; rfl, rfl⟩
  · have hb : b = true := by first | exact c1 | simpa using c1
    refine a_iconst (pc := 4) dX9_bit_4 ic_1 ?_
    refine a_goto (pc := 5) (tgt := 9) dX9_bit_5 (by decide) ?_
    refine a_ret_i (pc := 9) hM rfl (rfl) dX9_bit_9 (by omega) (by omega) ?_
    exact ⟨by rw [hb]; rfl, rfl⟩

end CM2

/-! SHEETS, LEAKS, SCREENS, FRACTIONS OF THE CLASS -/
section CSM
variable {X : KX} {h : AH}
set_option maxRecDepth 4000 in
theorem f_shInit {a : Nat} (ha : h a = some (kO 7 [.null, .int 0, .int 0])) : Fn X 1 1 40 yX7_init cX7_init 1 none [.ref a] h (fun rv hv => rv = none ∧ ∃ q, h q = none ∧ hv = kput (kput h q (kI 40 (fun _ => 0))) a (kO 7 [.ref q, .int (-1), .int 0])) := by
  refine fn_of (by decide) (Nat.le_of_ble_eq_true rfl) (fun M hM => ?_)
  refine a_aload_n (pc := 0) dX7_init_0 rfl rfl ?_
  refine a_objInit (pc := 1) ko_X7_1 ko_im ko_co dX7_init_1 (by rw [hM.1]; simp only [rmd]; omega) (by rw [hM.1]; simp [rmd, Value.category] <;> omega) ?_
  refine a_aload_n (pc := 4) dX7_init_4 rfl rfl ?_
  refine a_bipush (pc := 5) dX7_init_5 ib_40 ?_
  refine a_newI (pc := 7) ka_int dX7_init_7 rfl (by omega) (by rw [hM.1]; simp only [rmd]; omega) (by rw [hM.1]; simp only [rmd]; omega) (fun q hq => ?_)
  refine a_putfieldF (pc := 9) kf_X7_9 rfl dX7_init_9 ((kput_ne (kne ha hq)).trans ha) (rfl) (by rfl) (Nat.le_of_ble_eq_true rfl) ?_
  refine a_aload_n (pc := 12) dX7_init_12 rfl rfl ?_
  refine a_iconst (pc := 13) dX7_init_13 ic_m1 ?_
  refine a_putfield (pc := 14) kf_X7_13 dX7_init_14 (kput_eq) (rfl) (by rfl) (Nat.le_of_ble_eq_true rfl) ?_
  refine a_hp kput_put ?_
  refine a_ret_v (pc := 17) hM rfl dX7_init_17 (by omega) (by omega) ?_
  exact ⟨rfl, q, hq, rfl⟩

set_option maxRecDepth 4000 in
theorem f_isMiss {a ia : Nat} {so sz : Int32} {it : Nat → Int32} (ha : h a = some (kO 7 [.ref ia, .int so, .int sz])) : Fn X 0 0 0 yX7_isMissing cX7_isMissing 1 (some .boolean) [.ref a] h (fun rv hv => rv = some (.int (bI (decide (so = -1)))) ∧ hv = h) := by
  refine fn_of (by decide) (Nat.le_of_ble_eq_true rfl) (fun M hM => ?_)
  refine a_aload_n (pc := 0) dX7_isMissing_0 rfl rfl ?_
  refine a_getfield (pc := 1) kg_X7_13 dX7_isMissing_1 (ha) rfl ?_
  refine a_iconst (pc := 4) dX7_isMissing_4 ic_m1 ?_
  refine a_icmp_ne (pc := 5) (tgt := 12) dX7_isMissing_5 (by decide) (fun c5 => ?_) (fun c5 => ?_)
  · have e : decide (so = -1) = false := decide_eq_false c5
    refine a_iconst (pc := 12) dX7_isMissing_12 ic_0 ?_
    refine a_ret_i (pc := 13) hM rfl (by decide +kernel) dX7_isMissing_13 (by omega) (by omega) ?_
    exact ⟨by rw [e]; rfl, rfl⟩
  · have e : decide (so = -1) = true := decide_eq_true c5
    refine a_iconst (pc := 8) dX7_isMissing_8 ic_1 ?_
    refine a_goto (pc := 9) (tgt := 13) dX7_isMissing_9 (by decide) ?_
    refine a_ret_i (pc := 13) hM rfl (by decide +kernel) dX7_isMissing_13 (by omega) (by omega) ?_
    exact ⟨by rw [e]; rfl, rfl⟩

set_option maxRecDepth 4000 in
theorem f_become {a ia : Nat} {so sz : Int32} {it : Nat → Int32} (ha : h a = some (kO 7 [.ref ia, .int so, .int sz])) (hi : h ia = some (kI 40 it)) (s2 z2 : Int32) : Fn X 1 0 0 yX7_become cX7_become 3 none [.ref a, .int s2, .int z2] h (fun rv hv => rv = none ∧ hv = kput (kput h a (kO 7 [.ref ia, .int s2, .int z2])) ia (kI 40 (fillO (fun _ => nI 0) it 0 40))) := by
  refine fn_of (by decide) (Nat.le_of_ble_eq_true rfl) (fun M hM => ?_)
  refine a_aload_n (pc := 0) dX7_become_0 rfl rfl ?_
  refine a_iload_n (pc := 1) dX7_become_1 rfl rfl ?_
  refine a_putfield (pc := 2) kf_X7_13 dX7_become_2 (ha) (rfl) (by rfl) (Nat.le_of_ble_eq_true rfl) ?_
  refine a_aload_n (pc := 5) dX7_become_5 rfl rfl ?_
  refine a_iload_n (pc := 6) dX7_become_6 rfl rfl ?_
  refine a_putfield (pc := 7) kf_X7_17 dX7_become_7 (kput_eq) (rfl) (by rfl) (Nat.le_of_ble_eq_true rfl) ?_
  refine a_hp (show _ = kput h a (kO 7 [.ref ia, .int s2, .int z2]) from kput_put) ?_
  refine a_aload_n (pc := 10) dX7_become_10 rfl rfl ?_
  refine a_getfield (pc := 11) kg_X7_9 dX7_become_11 (kput_eq) rfl ?_
  refine a_iconst (pc := 14) dX7_become_14 ic_0 ?_
  refine a_callS (pc := 15) km_X7_20 dX7_become_15 (f_fillI (h := kput h a (kO 7 [.ref ia, .int s2, .int z2])) ((kput_ne (Ne.symm (oi_ne ha hi))).trans hi) (by decide) (nI 0)) rfl rfl (rok_of hM (by decide) (by decide) (by omega) (by omega)) (Nat.le_of_ble_eq_true rfl) (fun r15 h15 hp15 => ?_)
  obtain ⟨rfl, rfl⟩ := hp15
  refine a_ret_v (pc := 18) hM rfl dX7_become_18 (by omega) (by omega) ?_
  exact ⟨rfl, rfl⟩

def hdP (z f n : Int32) : Bool := !decide (f < 0) && (!decide (n < 0) && (decide (n ≤ z) && decide (f ≤ z - n)))
set_option maxRecDepth 4000 in
theorem f_holds {a ia : Nat} {so sz : Int32} {it : Nat → Int32} (ha : h a = some (kO 7 [.ref ia, .int so, .int sz])) (f n : Int32) : Fn X 0 0 0 yX7_holds cX7_holds 3 (some .boolean) [.ref a, .int f, .int n] h (fun rv hv => rv = some (.int (bI (hdP sz f n))) ∧ hv = h) := by
  refine fn_of (by decide) (Nat.le_of_ble_eq_true rfl) (fun M hM => ?_)
  refine a_iload_n (pc := 0) dX7_holds_0 rfl rfl ?_
  refine a_if_lt (pc := 1) (tgt := 30) dX7_holds_1 (by decide) (fun c1 => ?_) (fun c1 => ?_)
  · have e : hdP sz f n = false := by rw [hdP, decide_eq_true c1]; rfl
    refine a_iconst (pc := 30) dX7_holds_30 ic_0 ?_
    refine a_ret_i (pc := 31) hM rfl (by decide +kernel) dX7_holds_31 (by omega) (by omega) ?_
    exact ⟨by rw [e]; rfl, rfl⟩
  · refine a_iload_n (pc := 4) dX7_holds_4 rfl rfl ?_
    refine a_if_lt (pc := 5) (tgt := 30) dX7_holds_5 (by decide) (fun c5 => ?_) (fun c5 => ?_)
    · have e : hdP sz f n = false := by rw [hdP, decide_eq_true c5]; simp
      refine a_iconst (pc := 30) dX7_holds_30 ic_0 ?_
      refine a_ret_i (pc := 31) hM rfl (by decide +kernel) dX7_holds_31 (by omega) (by omega) ?_
      exact ⟨by rw [e]; rfl, rfl⟩
    · refine a_iload_n (pc := 8) dX7_holds_8 rfl rfl ?_
      refine a_aload_n (pc := 9) dX7_holds_9 rfl rfl ?_
      refine a_getfield (pc := 10) kg_X7_17 dX7_holds_10 (ha) rfl ?_
      refine a_icmp_gt (pc := 13) (tgt := 30) dX7_holds_13 (by decide) (fun c13 => ?_) (fun c13 => ?_)
      · have e : hdP sz f n = false := by rw [hdP, decide_eq_false (Int32.not_le.mpr c13)]; simp
        refine a_iconst (pc := 30) dX7_holds_30 ic_0 ?_
        refine a_ret_i (pc := 31) hM rfl (by decide +kernel) dX7_holds_31 (by omega) (by omega) ?_
        exact ⟨by rw [e]; rfl, rfl⟩
      · refine a_iload_n (pc := 16) dX7_holds_16 rfl rfl ?_
        refine a_aload_n (pc := 17) dX7_holds_17 rfl rfl ?_
        refine a_getfield (pc := 18) kg_X7_17 dX7_holds_18 (ha) rfl ?_
        refine a_iload_n (pc := 21) dX7_holds_21 rfl rfl ?_
        refine a_isub (pc := 22) dX7_holds_22 ?_
        refine a_icmp_gt (pc := 23) (tgt := 30) dX7_holds_23 (by decide) (fun c23 => ?_) (fun c23 => ?_)
        · have e : hdP sz f n = false := by rw [hdP, decide_eq_false (Int32.not_le.mpr c23)]; simp
          refine a_iconst (pc := 30) dX7_holds_30 ic_0 ?_
          refine a_ret_i (pc := 31) hM rfl (by decide +kernel) dX7_holds_31 (by omega) (by omega) ?_
          exact ⟨by rw [e]; rfl, rfl⟩
        · have e : hdP sz f n = true := by rw [hdP, decide_eq_false c1, decide_eq_false c5, decide_eq_true (Int32.not_lt.mp c13), decide_eq_true (Int32.not_lt.mp c23)]; rfl
          refine a_iconst (pc := 26) dX7_holds_26 ic_1 ?_
          refine a_goto (pc := 27) (tgt := 31) dX7_holds_27 (by decide) ?_
          refine a_ret_i (pc := 31) hM rfl (by decide +kernel) dX7_holds_31 (by omega) (by omega) ?_
          exact ⟨by rw [e]; rfl, rfl⟩

set_option maxRecDepth 4000 in
theorem f_cwrite {a ia : Nat} {so sz : Int32} {it : Nat → Int32} (ha : h a = some (kO 7 [.ref ia, .int so, .int sz])) (hi2 : h ia = some (kI 40 it)) {i : Nat} (hi : i < 40) (v : Int32) : Fn X 0 0 0 yX7_write cX7_write 3 none [.ref a, .int (nI i), .int v] h (fun rv hv => rv = none ∧ hv = kput h ia (kI 40 (upd it i (cellV so v)))) := by
  refine fn_of (by decide) (Nat.le_of_ble_eq_true rfl) (fun M hM => ?_)
  refine a_aload_n (pc := 0) dX7_write_0 rfl rfl ?_
  refine a_getfield (pc := 1) kg_X7_13 dX7_write_1 (ha) rfl ?_
  by_cases h0 : so = nI 0
  · refine a_look (pc := 4) (off := 28) (tgt := 32) dX7_write_4 (by decide) (by rw [h0]; decide) (by decide) ?_
    refine a_aload_n (pc := 32) dX7_write_32 rfl rfl ?_
    refine a_getfield (pc := 33) kg_X7_9 dX7_write_33 (ha) rfl ?_
    refine a_iload_n (pc := 36) dX7_write_36 rfl rfl ?_
    refine a_iload_n (pc := 37) dX7_write_37 rfl rfl ?_
    refine a_i2b (pc := 38) dX7_write_38 ?_
    refine a_topi (show _ = cellV so v from (if_pos h0).symm) ?_
    refine a_iastore (pc := 39) dX7_write_39 (hi2) (i) (rfl) (by omega) (by omega) ?_
    refine a_goto (pc := 40) (tgt := 61) dX7_write_40 (by decide) ?_
    refine a_ret_v (pc := 61) hM rfl dX7_write_61 (by omega) (by omega) ?_
    exact ⟨rfl, rfl⟩
  · by_cases h1 : so = nI 1
    · refine a_look (pc := 4) (off := 39) (tgt := 43) dX7_write_4 (by decide) (by rw [h1]; decide) (by decide) ?_
      refine a_aload_n (pc := 43) dX7_write_43 rfl rfl ?_
      refine a_getfield (pc := 44) kg_X7_9 dX7_write_44 (ha) rfl ?_
      refine a_iload_n (pc := 47) dX7_write_47 rfl rfl ?_
      refine a_iload_n (pc := 48) dX7_write_48 rfl rfl ?_
      refine a_i2s (pc := 49) dX7_write_49 ?_
      refine a_topi (show _ = cellV so v from ((if_neg h0).trans (if_pos h1)).symm) ?_
      refine a_iastore (pc := 50) dX7_write_50 (hi2) (i) (rfl) (by omega) (by omega) ?_
      refine a_goto (pc := 51) (tgt := 61) dX7_write_51 (by decide) ?_
      refine a_ret_v (pc := 61) hM rfl dX7_write_61 (by omega) (by omega) ?_
      exact ⟨rfl, rfl⟩
    · refine a_look (pc := 4) (off := 50) (tgt := 54) dX7_write_4 (by decide) (by rw [lv_osw h0 (by decide), lv_osw h1 (by decide)]; rfl) (by decide) ?_
      refine a_aload_n (pc := 54) dX7_write_54 rfl rfl ?_
      refine a_getfield (pc := 55) kg_X7_9 dX7_write_55 (ha) rfl ?_
      refine a_iload_n (pc := 58) dX7_write_58 rfl rfl ?_
      refine a_iload_n (pc := 59) dX7_write_59 rfl rfl ?_
      refine a_topi (show _ = cellV so v from ((if_neg h0).trans (if_neg h1)).symm) ?_
      refine a_iastore (pc := 60) dX7_write_60 (hi2) (i) (rfl) (by omega) (by omega) ?_
      refine a_ret_v (pc := 61) hM rfl dX7_write_61 (by omega) (by omega) ?_
      exact ⟨rfl, rfl⟩

set_option maxRecDepth 4000 in
theorem f_scInit {a : Nat} (ha : h a = some (kO 6 [.int 0, .int 0])) (x y : Int32) : Fn X 1 0 0 yX6_init cX6_init 3 none [.ref a, .int x, .int y] h (fun rv hv => rv = none ∧ hv = kput h a (kO 6 [.int x, .int y])) := by
  refine fn_of (by decide) (Nat.le_of_ble_eq_true rfl) (fun M hM => ?_)
  refine a_aload_n (pc := 0) dX6_init_0 rfl rfl ?_
  refine a_objInit (pc := 1) ko_X6_1 ko_im ko_co dX6_init_1 (by rw [hM.1]; simp only [rmd]; omega) (by rw [hM.1]; simp [rmd, Value.category] <;> omega) ?_
  refine a_aload_n (pc := 4) dX6_init_4 rfl rfl ?_
  refine a_iload_n (pc := 5) dX6_init_5 rfl rfl ?_
  refine a_putfieldF (pc := 6) kf_X6_7 rfl dX6_init_6 (ha) (rfl) (by rfl) (Nat.le_of_ble_eq_true rfl) ?_
  refine a_aload_n (pc := 9) dX6_init_9 rfl rfl ?_
  refine a_iload_n (pc := 10) dX6_init_10 rfl rfl ?_
  refine a_putfieldF (pc := 11) kf_X6_13 rfl dX6_init_11 (kput_eq) (rfl) (by rfl) (Nat.le_of_ble_eq_true rfl) ?_
  refine a_hp kput_put ?_
  refine a_ret_v (pc := 14) hM rfl dX6_init_14 (by omega) (by omega) ?_
  exact ⟨rfl, rfl⟩

set_option maxRecDepth 4000 in
theorem f_leInit {a : Nat} (ha : h a = some (kO 1 [.int 0, .int 0, .int 0, .int 0, .int 0])) (x y z : Int32) : Fn X 1 0 0 yX1_init cX1_init 4 none [.ref a, .int x, .int y, .int z] h (fun rv hv => rv = none ∧ hv = kput h a (kO 1 [.int x, .int y, .int z, .int 0, .int 0])) := by
  refine fn_of (by decide) (Nat.le_of_ble_eq_true rfl) (fun M hM => ?_)
  refine a_aload_n (pc := 0) dX1_init_0 rfl rfl ?_
  refine a_objInit (pc := 1) ko_X1_3 ko_im ko_co dX1_init_1 (by rw [hM.1]; simp only [rmd]; omega) (by rw [hM.1]; simp [rmd, Value.category] <;> omega) ?_
  refine a_aload_n (pc := 4) dX1_init_4 rfl rfl ?_
  refine a_iload_n (pc := 5) dX1_init_5 rfl rfl ?_
  refine a_putfieldF (pc := 6) kf_X1_9 rfl dX1_init_6 (ha) (rfl) (by rfl) (Nat.le_of_ble_eq_true rfl) ?_
  refine a_aload_n (pc := 9) dX1_init_9 rfl rfl ?_
  refine a_iload_n (pc := 10) dX1_init_10 rfl rfl ?_
  refine a_putfieldF (pc := 11) kf_X1_15 rfl dX1_init_11 (kput_eq) (rfl) (by rfl) (Nat.le_of_ble_eq_true rfl) ?_
  refine a_hp kput_put ?_
  refine a_aload_n (pc := 14) dX1_init_14 rfl rfl ?_
  refine a_iload_n (pc := 15) dX1_init_15 rfl rfl ?_
  refine a_putfieldF (pc := 16) kf_X1_18 rfl dX1_init_16 (kput_eq) (rfl) (by rfl) (Nat.le_of_ble_eq_true rfl) ?_
  refine a_hp kput_put ?_
  refine a_ret_v (pc := 19) hM rfl dX1_init_19 (by omega) (by omega) ?_
  exact ⟨rfl, rfl⟩

set_option maxRecDepth 4000 in
theorem f_weight {a : Nat} {kd : Nat} {nm sg sh ws : Int32} (ha : h a = some (kO 1 [.int (nI kd), .int nm, .int sg, .int sh, .int ws])) (hk : kd < 6) : Fn X 0 0 0 yX1_weight cX1_weight 1 (some .int) [.ref a] h (fun rv hv => rv = some (.int (k_weights kd)) ∧ hv = h) := by
  refine fn_of (by decide) (Nat.le_of_ble_eq_true rfl) (fun M hM => ?_)
  refine a_gets (pc := 0) (fun _ _ q => q.2.2.1) ks_X1_25 dX1_weight_0 ?_
  refine a_aload_n (pc := 3) dX1_weight_3 rfl rfl ?_
  refine a_getfield (pc := 4) kg_X1_9 dX1_weight_4 (ha) rfl ?_
  refine a_tiload (pc := 7) (fun _ _ q => q.2.2.2.1) dX1_weight_7 kd rfl hk (by omega) ?_
  refine a_ret_i (pc := 8) hM rfl (rfl) dX1_weight_8 (by omega) (by omega) ?_
  exact ⟨rfl, rfl⟩

set_option maxRecDepth 4000 in
theorem f_isUnder {a : Nat} {kd : Nat} {nm sg sh ws : Int32} (ha : h a = some (kO 1 [.int (nI kd), .int nm, .int sg, .int sh, .int ws])) (hk : kd < 6) {o : Nat} (ho : o < 6) : Fn X 0 0 0 yX1_isUnder cX1_isUnder 4 (some .boolean) [.ref a, .int (nI o)] h (fun rv hv => rv = some (.int (bI (undB kd o))) ∧ hv = h) := by
  refine fn_of (by decide) (Nat.le_of_ble_eq_true rfl) (fun M hM => ?_)
  rcases (by omega : kd = 0 ∨ kd = 1 ∨ kd = 2 ∨ kd = 3 ∨ kd = 4 ∨ kd = 5) with rfl | rfl | rfl | rfl | rfl | rfl
  · skip
    refine a_aload_n (pc := 0) dX1_isUnder_0 rfl rfl ?_
    refine a_getfield (pc := 1) kg_X1_9 dX1_isUnder_1 (ha) rfl ?_
    refine a_istore_n (pc := 4) dX1_isUnder_4 rfl (by decide) rfl ?_
    refine a_iconst (pc := 5) dX1_isUnder_5 ic_0 ?_
    refine a_istore_n (pc := 6) dX1_isUnder_6 rfl (by decide) rfl ?_
    refine a_iload_n (pc := 7) dX1_isUnder_7 rfl rfl ?_
    refine a_bipush (pc := 8) dX1_isUnder_8 ib_6 ?_
    refine a_icmp_ge_f (pc := 10) (tgt := 37) dX1_isUnder_10 (by decide) (by decide) ?_
    refine a_iload_n (pc := 13) dX1_isUnder_13 rfl rfl ?_
    refine a_iconst (pc := 14) dX1_isUnder_14 ic_m1 ?_
    refine a_icmp_eq_f (pc := 15) (tgt := 37) dX1_isUnder_15 (by decide) (by decide) ?_
    refine a_iload_n (pc := 18) dX1_isUnder_18 rfl rfl ?_
    refine a_iload_n (pc := 19) dX1_isUnder_19 rfl rfl ?_
    refine a_icmp_ne (pc := 20) (tgt := 25) dX1_isUnder_20 (by decide) (fun c0 => ?_) (fun c0 => ?_)
    · refine a_gets (pc := 25) (fun _ _ q => q.1) ks_X1_21 dX1_isUnder_25 ?_
      refine a_iload_n (pc := 28) dX1_isUnder_28 rfl rfl ?_
      refine a_tiload (pc := 29) (fun _ _ q => q.2.1) dX1_isUnder_29 0 (by decide) (by decide) (by decide) ?_
      refine a_istore_n (pc := 30) dX1_isUnder_30 rfl (by decide) rfl ?_
      refine a_iinc (pc := 31) dX1_isUnder_31 rfl rfl (by decide) rfl ?_
      refine a_goto (pc := 34) (tgt := 7) dX1_isUnder_34 (by decide) ?_
      refine a_iload_n (pc := 7) dX1_isUnder_7 rfl rfl ?_
      refine a_bipush (pc := 8) dX1_isUnder_8 ib_6 ?_
      refine a_icmp_ge_f (pc := 10) (tgt := 37) dX1_isUnder_10 (by decide) (by decide) ?_
      refine a_iload_n (pc := 13) dX1_isUnder_13 rfl rfl ?_
      refine a_iconst (pc := 14) dX1_isUnder_14 ic_m1 ?_
      refine a_icmp_eq_t (pc := 15) (tgt := 37) dX1_isUnder_15 (by decide) (by decide) ?_
      refine a_iconst (pc := 37) dX1_isUnder_37 ic_0 ?_
      refine a_ret_i (pc := 38) hM rfl (by decide +kernel) dX1_isUnder_38 (by omega) (by omega) ?_
      exact ⟨by rw [show undB 0 o = false from (by rcases (by omega : o = 0 ∨ o = 1 ∨ o = 2 ∨ o = 3 ∨ o = 4 ∨ o = 5) with rfl | rfl | rfl | rfl | rfl | rfl <;> first | rfl | exact absurd rfl c0)]; rfl, rfl⟩
    · refine a_iconst (pc := 23) dX1_isUnder_23 ic_1 ?_
      refine a_ret_i (pc := 24) hM rfl (by decide +kernel) dX1_isUnder_24 (by omega) (by omega) ?_
      exact ⟨by rw [show undB 0 o = true from (by obtain rfl : 0 = o := Nat.eq_of_beq_eq_true (by rcases (by omega : o = 0 ∨ o = 1 ∨ o = 2 ∨ o = 3 ∨ o = 4 ∨ o = 5) with rfl | rfl | rfl | rfl | rfl | rfl <;> first | rfl | exact absurd c0 (by decide)); rfl)]; rfl, rfl⟩
  · skip
    refine a_aload_n (pc := 0) dX1_isUnder_0 rfl rfl ?_
    refine a_getfield (pc := 1) kg_X1_9 dX1_isUnder_1 (ha) rfl ?_
    refine a_istore_n (pc := 4) dX1_isUnder_4 rfl (by decide) rfl ?_
    refine a_iconst (pc := 5) dX1_isUnder_5 ic_0 ?_
    refine a_istore_n (pc := 6) dX1_isUnder_6 rfl (by decide) rfl ?_
    refine a_iload_n (pc := 7) dX1_isUnder_7 rfl rfl ?_
    refine a_bipush (pc := 8) dX1_isUnder_8 ib_6 ?_
    refine a_icmp_ge_f (pc := 10) (tgt := 37) dX1_isUnder_10 (by decide) (by decide) ?_
    refine a_iload_n (pc := 13) dX1_isUnder_13 rfl rfl ?_
    refine a_iconst (pc := 14) dX1_isUnder_14 ic_m1 ?_
    refine a_icmp_eq_f (pc := 15) (tgt := 37) dX1_isUnder_15 (by decide) (by decide) ?_
    refine a_iload_n (pc := 18) dX1_isUnder_18 rfl rfl ?_
    refine a_iload_n (pc := 19) dX1_isUnder_19 rfl rfl ?_
    refine a_icmp_ne (pc := 20) (tgt := 25) dX1_isUnder_20 (by decide) (fun c0 => ?_) (fun c0 => ?_)
    · refine a_gets (pc := 25) (fun _ _ q => q.1) ks_X1_21 dX1_isUnder_25 ?_
      refine a_iload_n (pc := 28) dX1_isUnder_28 rfl rfl ?_
      refine a_tiload (pc := 29) (fun _ _ q => q.2.1) dX1_isUnder_29 1 (by decide) (by decide) (by decide) ?_
      refine a_istore_n (pc := 30) dX1_isUnder_30 rfl (by decide) rfl ?_
      refine a_iinc (pc := 31) dX1_isUnder_31 rfl rfl (by decide) rfl ?_
      refine a_goto (pc := 34) (tgt := 7) dX1_isUnder_34 (by decide) ?_
      refine a_iload_n (pc := 7) dX1_isUnder_7 rfl rfl ?_
      refine a_bipush (pc := 8) dX1_isUnder_8 ib_6 ?_
      refine a_icmp_ge_f (pc := 10) (tgt := 37) dX1_isUnder_10 (by decide) (by decide) ?_
      refine a_iload_n (pc := 13) dX1_isUnder_13 rfl rfl ?_
      refine a_iconst (pc := 14) dX1_isUnder_14 ic_m1 ?_
      refine a_icmp_eq_f (pc := 15) (tgt := 37) dX1_isUnder_15 (by decide) (by decide) ?_
      refine a_iload_n (pc := 18) dX1_isUnder_18 rfl rfl ?_
      refine a_iload_n (pc := 19) dX1_isUnder_19 rfl rfl ?_
      refine a_icmp_ne (pc := 20) (tgt := 25) dX1_isUnder_20 (by decide) (fun c1 => ?_) (fun c1 => ?_)
      · refine a_gets (pc := 25) (fun _ _ q => q.1) ks_X1_21 dX1_isUnder_25 ?_
        refine a_iload_n (pc := 28) dX1_isUnder_28 rfl rfl ?_
        refine a_tiload (pc := 29) (fun _ _ q => q.2.1) dX1_isUnder_29 0 (by decide) (by decide) (by decide) ?_
        refine a_istore_n (pc := 30) dX1_isUnder_30 rfl (by decide) rfl ?_
        refine a_iinc (pc := 31) dX1_isUnder_31 rfl rfl (by decide) rfl ?_
        refine a_goto (pc := 34) (tgt := 7) dX1_isUnder_34 (by decide) ?_
        refine a_iload_n (pc := 7) dX1_isUnder_7 rfl rfl ?_
        refine a_bipush (pc := 8) dX1_isUnder_8 ib_6 ?_
        refine a_icmp_ge_f (pc := 10) (tgt := 37) dX1_isUnder_10 (by decide) (by decide) ?_
        refine a_iload_n (pc := 13) dX1_isUnder_13 rfl rfl ?_
        refine a_iconst (pc := 14) dX1_isUnder_14 ic_m1 ?_
        refine a_icmp_eq_t (pc := 15) (tgt := 37) dX1_isUnder_15 (by decide) (by decide) ?_
        refine a_iconst (pc := 37) dX1_isUnder_37 ic_0 ?_
        refine a_ret_i (pc := 38) hM rfl (by decide +kernel) dX1_isUnder_38 (by omega) (by omega) ?_
        exact ⟨by rw [show undB 1 o = false from (by rcases (by omega : o = 0 ∨ o = 1 ∨ o = 2 ∨ o = 3 ∨ o = 4 ∨ o = 5) with rfl | rfl | rfl | rfl | rfl | rfl <;> first | rfl | exact absurd rfl c0 | exact absurd rfl c1)]; rfl, rfl⟩
      · refine a_iconst (pc := 23) dX1_isUnder_23 ic_1 ?_
        refine a_ret_i (pc := 24) hM rfl (by decide +kernel) dX1_isUnder_24 (by omega) (by omega) ?_
        exact ⟨by rw [show undB 1 o = true from (by obtain rfl : 0 = o := Nat.eq_of_beq_eq_true (by rcases (by omega : o = 0 ∨ o = 1 ∨ o = 2 ∨ o = 3 ∨ o = 4 ∨ o = 5) with rfl | rfl | rfl | rfl | rfl | rfl <;> first | rfl | exact absurd c1 (by decide)); rfl)]; rfl, rfl⟩
    · refine a_iconst (pc := 23) dX1_isUnder_23 ic_1 ?_
      refine a_ret_i (pc := 24) hM rfl (by decide +kernel) dX1_isUnder_24 (by omega) (by omega) ?_
      exact ⟨by rw [show undB 1 o = true from (by obtain rfl : 1 = o := Nat.eq_of_beq_eq_true (by rcases (by omega : o = 0 ∨ o = 1 ∨ o = 2 ∨ o = 3 ∨ o = 4 ∨ o = 5) with rfl | rfl | rfl | rfl | rfl | rfl <;> first | rfl | exact absurd c0 (by decide)); rfl)]; rfl, rfl⟩
  · skip
    refine a_aload_n (pc := 0) dX1_isUnder_0 rfl rfl ?_
    refine a_getfield (pc := 1) kg_X1_9 dX1_isUnder_1 (ha) rfl ?_
    refine a_istore_n (pc := 4) dX1_isUnder_4 rfl (by decide) rfl ?_
    refine a_iconst (pc := 5) dX1_isUnder_5 ic_0 ?_
    refine a_istore_n (pc := 6) dX1_isUnder_6 rfl (by decide) rfl ?_
    refine a_iload_n (pc := 7) dX1_isUnder_7 rfl rfl ?_
    refine a_bipush (pc := 8) dX1_isUnder_8 ib_6 ?_
    refine a_icmp_ge_f (pc := 10) (tgt := 37) dX1_isUnder_10 (by decide) (by decide) ?_
    refine a_iload_n (pc := 13) dX1_isUnder_13 rfl rfl ?_
    refine a_iconst (pc := 14) dX1_isUnder_14 ic_m1 ?_
    refine a_icmp_eq_f (pc := 15) (tgt := 37) dX1_isUnder_15 (by decide) (by decide) ?_
    refine a_iload_n (pc := 18) dX1_isUnder_18 rfl rfl ?_
    refine a_iload_n (pc := 19) dX1_isUnder_19 rfl rfl ?_
    refine a_icmp_ne (pc := 20) (tgt := 25) dX1_isUnder_20 (by decide) (fun c0 => ?_) (fun c0 => ?_)
    · refine a_gets (pc := 25) (fun _ _ q => q.1) ks_X1_21 dX1_isUnder_25 ?_
      refine a_iload_n (pc := 28) dX1_isUnder_28 rfl rfl ?_
      refine a_tiload (pc := 29) (fun _ _ q => q.2.1) dX1_isUnder_29 2 (by decide) (by decide) (by decide) ?_
      refine a_istore_n (pc := 30) dX1_isUnder_30 rfl (by decide) rfl ?_
      refine a_iinc (pc := 31) dX1_isUnder_31 rfl rfl (by decide) rfl ?_
      refine a_goto (pc := 34) (tgt := 7) dX1_isUnder_34 (by decide) ?_
      refine a_iload_n (pc := 7) dX1_isUnder_7 rfl rfl ?_
      refine a_bipush (pc := 8) dX1_isUnder_8 ib_6 ?_
      refine a_icmp_ge_f (pc := 10) (tgt := 37) dX1_isUnder_10 (by decide) (by decide) ?_
      refine a_iload_n (pc := 13) dX1_isUnder_13 rfl rfl ?_
      refine a_iconst (pc := 14) dX1_isUnder_14 ic_m1 ?_
      refine a_icmp_eq_f (pc := 15) (tgt := 37) dX1_isUnder_15 (by decide) (by decide) ?_
      refine a_iload_n (pc := 18) dX1_isUnder_18 rfl rfl ?_
      refine a_iload_n (pc := 19) dX1_isUnder_19 rfl rfl ?_
      refine a_icmp_ne (pc := 20) (tgt := 25) dX1_isUnder_20 (by decide) (fun c1 => ?_) (fun c1 => ?_)
      · refine a_gets (pc := 25) (fun _ _ q => q.1) ks_X1_21 dX1_isUnder_25 ?_
        refine a_iload_n (pc := 28) dX1_isUnder_28 rfl rfl ?_
        refine a_tiload (pc := 29) (fun _ _ q => q.2.1) dX1_isUnder_29 0 (by decide) (by decide) (by decide) ?_
        refine a_istore_n (pc := 30) dX1_isUnder_30 rfl (by decide) rfl ?_
        refine a_iinc (pc := 31) dX1_isUnder_31 rfl rfl (by decide) rfl ?_
        refine a_goto (pc := 34) (tgt := 7) dX1_isUnder_34 (by decide) ?_
        refine a_iload_n (pc := 7) dX1_isUnder_7 rfl rfl ?_
        refine a_bipush (pc := 8) dX1_isUnder_8 ib_6 ?_
        refine a_icmp_ge_f (pc := 10) (tgt := 37) dX1_isUnder_10 (by decide) (by decide) ?_
        refine a_iload_n (pc := 13) dX1_isUnder_13 rfl rfl ?_
        refine a_iconst (pc := 14) dX1_isUnder_14 ic_m1 ?_
        refine a_icmp_eq_t (pc := 15) (tgt := 37) dX1_isUnder_15 (by decide) (by decide) ?_
        refine a_iconst (pc := 37) dX1_isUnder_37 ic_0 ?_
        refine a_ret_i (pc := 38) hM rfl (by decide +kernel) dX1_isUnder_38 (by omega) (by omega) ?_
        exact ⟨by rw [show undB 2 o = false from (by rcases (by omega : o = 0 ∨ o = 1 ∨ o = 2 ∨ o = 3 ∨ o = 4 ∨ o = 5) with rfl | rfl | rfl | rfl | rfl | rfl <;> first | rfl | exact absurd rfl c0 | exact absurd rfl c1)]; rfl, rfl⟩
      · refine a_iconst (pc := 23) dX1_isUnder_23 ic_1 ?_
        refine a_ret_i (pc := 24) hM rfl (by decide +kernel) dX1_isUnder_24 (by omega) (by omega) ?_
        exact ⟨by rw [show undB 2 o = true from (by obtain rfl : 0 = o := Nat.eq_of_beq_eq_true (by rcases (by omega : o = 0 ∨ o = 1 ∨ o = 2 ∨ o = 3 ∨ o = 4 ∨ o = 5) with rfl | rfl | rfl | rfl | rfl | rfl <;> first | rfl | exact absurd c1 (by decide)); rfl)]; rfl, rfl⟩
    · refine a_iconst (pc := 23) dX1_isUnder_23 ic_1 ?_
      refine a_ret_i (pc := 24) hM rfl (by decide +kernel) dX1_isUnder_24 (by omega) (by omega) ?_
      exact ⟨by rw [show undB 2 o = true from (by obtain rfl : 2 = o := Nat.eq_of_beq_eq_true (by rcases (by omega : o = 0 ∨ o = 1 ∨ o = 2 ∨ o = 3 ∨ o = 4 ∨ o = 5) with rfl | rfl | rfl | rfl | rfl | rfl <;> first | rfl | exact absurd c0 (by decide)); rfl)]; rfl, rfl⟩
  · skip
    refine a_aload_n (pc := 0) dX1_isUnder_0 rfl rfl ?_
    refine a_getfield (pc := 1) kg_X1_9 dX1_isUnder_1 (ha) rfl ?_
    refine a_istore_n (pc := 4) dX1_isUnder_4 rfl (by decide) rfl ?_
    refine a_iconst (pc := 5) dX1_isUnder_5 ic_0 ?_
    refine a_istore_n (pc := 6) dX1_isUnder_6 rfl (by decide) rfl ?_
    refine a_iload_n (pc := 7) dX1_isUnder_7 rfl rfl ?_
    refine a_bipush (pc := 8) dX1_isUnder_8 ib_6 ?_
    refine a_icmp_ge_f (pc := 10) (tgt := 37) dX1_isUnder_10 (by decide) (by decide) ?_
    refine a_iload_n (pc := 13) dX1_isUnder_13 rfl rfl ?_
    refine a_iconst (pc := 14) dX1_isUnder_14 ic_m1 ?_
    refine a_icmp_eq_f (pc := 15) (tgt := 37) dX1_isUnder_15 (by decide) (by decide) ?_
    refine a_iload_n (pc := 18) dX1_isUnder_18 rfl rfl ?_
    refine a_iload_n (pc := 19) dX1_isUnder_19 rfl rfl ?_
    refine a_icmp_ne (pc := 20) (tgt := 25) dX1_isUnder_20 (by decide) (fun c0 => ?_) (fun c0 => ?_)
    · refine a_gets (pc := 25) (fun _ _ q => q.1) ks_X1_21 dX1_isUnder_25 ?_
      refine a_iload_n (pc := 28) dX1_isUnder_28 rfl rfl ?_
      refine a_tiload (pc := 29) (fun _ _ q => q.2.1) dX1_isUnder_29 3 (by decide) (by decide) (by decide) ?_
      refine a_istore_n (pc := 30) dX1_isUnder_30 rfl (by decide) rfl ?_
      refine a_iinc (pc := 31) dX1_isUnder_31 rfl rfl (by decide) rfl ?_
      refine a_goto (pc := 34) (tgt := 7) dX1_isUnder_34 (by decide) ?_
      refine a_iload_n (pc := 7) dX1_isUnder_7 rfl rfl ?_
      refine a_bipush (pc := 8) dX1_isUnder_8 ib_6 ?_
      refine a_icmp_ge_f (pc := 10) (tgt := 37) dX1_isUnder_10 (by decide) (by decide) ?_
      refine a_iload_n (pc := 13) dX1_isUnder_13 rfl rfl ?_
      refine a_iconst (pc := 14) dX1_isUnder_14 ic_m1 ?_
      refine a_icmp_eq_f (pc := 15) (tgt := 37) dX1_isUnder_15 (by decide) (by decide) ?_
      refine a_iload_n (pc := 18) dX1_isUnder_18 rfl rfl ?_
      refine a_iload_n (pc := 19) dX1_isUnder_19 rfl rfl ?_
      refine a_icmp_ne (pc := 20) (tgt := 25) dX1_isUnder_20 (by decide) (fun c1 => ?_) (fun c1 => ?_)
      · refine a_gets (pc := 25) (fun _ _ q => q.1) ks_X1_21 dX1_isUnder_25 ?_
        refine a_iload_n (pc := 28) dX1_isUnder_28 rfl rfl ?_
        refine a_tiload (pc := 29) (fun _ _ q => q.2.1) dX1_isUnder_29 0 (by decide) (by decide) (by decide) ?_
        refine a_istore_n (pc := 30) dX1_isUnder_30 rfl (by decide) rfl ?_
        refine a_iinc (pc := 31) dX1_isUnder_31 rfl rfl (by decide) rfl ?_
        refine a_goto (pc := 34) (tgt := 7) dX1_isUnder_34 (by decide) ?_
        refine a_iload_n (pc := 7) dX1_isUnder_7 rfl rfl ?_
        refine a_bipush (pc := 8) dX1_isUnder_8 ib_6 ?_
        refine a_icmp_ge_f (pc := 10) (tgt := 37) dX1_isUnder_10 (by decide) (by decide) ?_
        refine a_iload_n (pc := 13) dX1_isUnder_13 rfl rfl ?_
        refine a_iconst (pc := 14) dX1_isUnder_14 ic_m1 ?_
        refine a_icmp_eq_t (pc := 15) (tgt := 37) dX1_isUnder_15 (by decide) (by decide) ?_
        refine a_iconst (pc := 37) dX1_isUnder_37 ic_0 ?_
        refine a_ret_i (pc := 38) hM rfl (by decide +kernel) dX1_isUnder_38 (by omega) (by omega) ?_
        exact ⟨by rw [show undB 3 o = false from (by rcases (by omega : o = 0 ∨ o = 1 ∨ o = 2 ∨ o = 3 ∨ o = 4 ∨ o = 5) with rfl | rfl | rfl | rfl | rfl | rfl <;> first | rfl | exact absurd rfl c0 | exact absurd rfl c1)]; rfl, rfl⟩
      · refine a_iconst (pc := 23) dX1_isUnder_23 ic_1 ?_
        refine a_ret_i (pc := 24) hM rfl (by decide +kernel) dX1_isUnder_24 (by omega) (by omega) ?_
        exact ⟨by rw [show undB 3 o = true from (by obtain rfl : 0 = o := Nat.eq_of_beq_eq_true (by rcases (by omega : o = 0 ∨ o = 1 ∨ o = 2 ∨ o = 3 ∨ o = 4 ∨ o = 5) with rfl | rfl | rfl | rfl | rfl | rfl <;> first | rfl | exact absurd c1 (by decide)); rfl)]; rfl, rfl⟩
    · refine a_iconst (pc := 23) dX1_isUnder_23 ic_1 ?_
      refine a_ret_i (pc := 24) hM rfl (by decide +kernel) dX1_isUnder_24 (by omega) (by omega) ?_
      exact ⟨by rw [show undB 3 o = true from (by obtain rfl : 3 = o := Nat.eq_of_beq_eq_true (by rcases (by omega : o = 0 ∨ o = 1 ∨ o = 2 ∨ o = 3 ∨ o = 4 ∨ o = 5) with rfl | rfl | rfl | rfl | rfl | rfl <;> first | rfl | exact absurd c0 (by decide)); rfl)]; rfl, rfl⟩
  · skip
    refine a_aload_n (pc := 0) dX1_isUnder_0 rfl rfl ?_
    refine a_getfield (pc := 1) kg_X1_9 dX1_isUnder_1 (ha) rfl ?_
    refine a_istore_n (pc := 4) dX1_isUnder_4 rfl (by decide) rfl ?_
    refine a_iconst (pc := 5) dX1_isUnder_5 ic_0 ?_
    refine a_istore_n (pc := 6) dX1_isUnder_6 rfl (by decide) rfl ?_
    refine a_iload_n (pc := 7) dX1_isUnder_7 rfl rfl ?_
    refine a_bipush (pc := 8) dX1_isUnder_8 ib_6 ?_
    refine a_icmp_ge_f (pc := 10) (tgt := 37) dX1_isUnder_10 (by decide) (by decide) ?_
    refine a_iload_n (pc := 13) dX1_isUnder_13 rfl rfl ?_
    refine a_iconst (pc := 14) dX1_isUnder_14 ic_m1 ?_
    refine a_icmp_eq_f (pc := 15) (tgt := 37) dX1_isUnder_15 (by decide) (by decide) ?_
    refine a_iload_n (pc := 18) dX1_isUnder_18 rfl rfl ?_
    refine a_iload_n (pc := 19) dX1_isUnder_19 rfl rfl ?_
    refine a_icmp_ne (pc := 20) (tgt := 25) dX1_isUnder_20 (by decide) (fun c0 => ?_) (fun c0 => ?_)
    · refine a_gets (pc := 25) (fun _ _ q => q.1) ks_X1_21 dX1_isUnder_25 ?_
      refine a_iload_n (pc := 28) dX1_isUnder_28 rfl rfl ?_
      refine a_tiload (pc := 29) (fun _ _ q => q.2.1) dX1_isUnder_29 4 (by decide) (by decide) (by decide) ?_
      refine a_istore_n (pc := 30) dX1_isUnder_30 rfl (by decide) rfl ?_
      refine a_iinc (pc := 31) dX1_isUnder_31 rfl rfl (by decide) rfl ?_
      refine a_goto (pc := 34) (tgt := 7) dX1_isUnder_34 (by decide) ?_
      refine a_iload_n (pc := 7) dX1_isUnder_7 rfl rfl ?_
      refine a_bipush (pc := 8) dX1_isUnder_8 ib_6 ?_
      refine a_icmp_ge_f (pc := 10) (tgt := 37) dX1_isUnder_10 (by decide) (by decide) ?_
      refine a_iload_n (pc := 13) dX1_isUnder_13 rfl rfl ?_
      refine a_iconst (pc := 14) dX1_isUnder_14 ic_m1 ?_
      refine a_icmp_eq_f (pc := 15) (tgt := 37) dX1_isUnder_15 (by decide) (by decide) ?_
      refine a_iload_n (pc := 18) dX1_isUnder_18 rfl rfl ?_
      refine a_iload_n (pc := 19) dX1_isUnder_19 rfl rfl ?_
      refine a_icmp_ne (pc := 20) (tgt := 25) dX1_isUnder_20 (by decide) (fun c1 => ?_) (fun c1 => ?_)
      · refine a_gets (pc := 25) (fun _ _ q => q.1) ks_X1_21 dX1_isUnder_25 ?_
        refine a_iload_n (pc := 28) dX1_isUnder_28 rfl rfl ?_
        refine a_tiload (pc := 29) (fun _ _ q => q.2.1) dX1_isUnder_29 2 (by decide) (by decide) (by decide) ?_
        refine a_istore_n (pc := 30) dX1_isUnder_30 rfl (by decide) rfl ?_
        refine a_iinc (pc := 31) dX1_isUnder_31 rfl rfl (by decide) rfl ?_
        refine a_goto (pc := 34) (tgt := 7) dX1_isUnder_34 (by decide) ?_
        refine a_iload_n (pc := 7) dX1_isUnder_7 rfl rfl ?_
        refine a_bipush (pc := 8) dX1_isUnder_8 ib_6 ?_
        refine a_icmp_ge_f (pc := 10) (tgt := 37) dX1_isUnder_10 (by decide) (by decide) ?_
        refine a_iload_n (pc := 13) dX1_isUnder_13 rfl rfl ?_
        refine a_iconst (pc := 14) dX1_isUnder_14 ic_m1 ?_
        refine a_icmp_eq_f (pc := 15) (tgt := 37) dX1_isUnder_15 (by decide) (by decide) ?_
        refine a_iload_n (pc := 18) dX1_isUnder_18 rfl rfl ?_
        refine a_iload_n (pc := 19) dX1_isUnder_19 rfl rfl ?_
        refine a_icmp_ne (pc := 20) (tgt := 25) dX1_isUnder_20 (by decide) (fun c2 => ?_) (fun c2 => ?_)
        · refine a_gets (pc := 25) (fun _ _ q => q.1) ks_X1_21 dX1_isUnder_25 ?_
          refine a_iload_n (pc := 28) dX1_isUnder_28 rfl rfl ?_
          refine a_tiload (pc := 29) (fun _ _ q => q.2.1) dX1_isUnder_29 0 (by decide) (by decide) (by decide) ?_
          refine a_istore_n (pc := 30) dX1_isUnder_30 rfl (by decide) rfl ?_
          refine a_iinc (pc := 31) dX1_isUnder_31 rfl rfl (by decide) rfl ?_
          refine a_goto (pc := 34) (tgt := 7) dX1_isUnder_34 (by decide) ?_
          refine a_iload_n (pc := 7) dX1_isUnder_7 rfl rfl ?_
          refine a_bipush (pc := 8) dX1_isUnder_8 ib_6 ?_
          refine a_icmp_ge_f (pc := 10) (tgt := 37) dX1_isUnder_10 (by decide) (by decide) ?_
          refine a_iload_n (pc := 13) dX1_isUnder_13 rfl rfl ?_
          refine a_iconst (pc := 14) dX1_isUnder_14 ic_m1 ?_
          refine a_icmp_eq_t (pc := 15) (tgt := 37) dX1_isUnder_15 (by decide) (by decide) ?_
          refine a_iconst (pc := 37) dX1_isUnder_37 ic_0 ?_
          refine a_ret_i (pc := 38) hM rfl (by decide +kernel) dX1_isUnder_38 (by omega) (by omega) ?_
          exact ⟨by rw [show undB 4 o = false from (by rcases (by omega : o = 0 ∨ o = 1 ∨ o = 2 ∨ o = 3 ∨ o = 4 ∨ o = 5) with rfl | rfl | rfl | rfl | rfl | rfl <;> first | rfl | exact absurd rfl c0 | exact absurd rfl c1 | exact absurd rfl c2)]; rfl, rfl⟩
        · refine a_iconst (pc := 23) dX1_isUnder_23 ic_1 ?_
          refine a_ret_i (pc := 24) hM rfl (by decide +kernel) dX1_isUnder_24 (by omega) (by omega) ?_
          exact ⟨by rw [show undB 4 o = true from (by obtain rfl : 0 = o := Nat.eq_of_beq_eq_true (by rcases (by omega : o = 0 ∨ o = 1 ∨ o = 2 ∨ o = 3 ∨ o = 4 ∨ o = 5) with rfl | rfl | rfl | rfl | rfl | rfl <;> first | rfl | exact absurd c2 (by decide)); rfl)]; rfl, rfl⟩
      · refine a_iconst (pc := 23) dX1_isUnder_23 ic_1 ?_
        refine a_ret_i (pc := 24) hM rfl (by decide +kernel) dX1_isUnder_24 (by omega) (by omega) ?_
        exact ⟨by rw [show undB 4 o = true from (by obtain rfl : 2 = o := Nat.eq_of_beq_eq_true (by rcases (by omega : o = 0 ∨ o = 1 ∨ o = 2 ∨ o = 3 ∨ o = 4 ∨ o = 5) with rfl | rfl | rfl | rfl | rfl | rfl <;> first | rfl | exact absurd c1 (by decide)); rfl)]; rfl, rfl⟩
    · refine a_iconst (pc := 23) dX1_isUnder_23 ic_1 ?_
      refine a_ret_i (pc := 24) hM rfl (by decide +kernel) dX1_isUnder_24 (by omega) (by omega) ?_
      exact ⟨by rw [show undB 4 o = true from (by obtain rfl : 4 = o := Nat.eq_of_beq_eq_true (by rcases (by omega : o = 0 ∨ o = 1 ∨ o = 2 ∨ o = 3 ∨ o = 4 ∨ o = 5) with rfl | rfl | rfl | rfl | rfl | rfl <;> first | rfl | exact absurd c0 (by decide)); rfl)]; rfl, rfl⟩
  · skip
    refine a_aload_n (pc := 0) dX1_isUnder_0 rfl rfl ?_
    refine a_getfield (pc := 1) kg_X1_9 dX1_isUnder_1 (ha) rfl ?_
    refine a_istore_n (pc := 4) dX1_isUnder_4 rfl (by decide) rfl ?_
    refine a_iconst (pc := 5) dX1_isUnder_5 ic_0 ?_
    refine a_istore_n (pc := 6) dX1_isUnder_6 rfl (by decide) rfl ?_
    refine a_iload_n (pc := 7) dX1_isUnder_7 rfl rfl ?_
    refine a_bipush (pc := 8) dX1_isUnder_8 ib_6 ?_
    refine a_icmp_ge_f (pc := 10) (tgt := 37) dX1_isUnder_10 (by decide) (by decide) ?_
    refine a_iload_n (pc := 13) dX1_isUnder_13 rfl rfl ?_
    refine a_iconst (pc := 14) dX1_isUnder_14 ic_m1 ?_
    refine a_icmp_eq_f (pc := 15) (tgt := 37) dX1_isUnder_15 (by decide) (by decide) ?_
    refine a_iload_n (pc := 18) dX1_isUnder_18 rfl rfl ?_
    refine a_iload_n (pc := 19) dX1_isUnder_19 rfl rfl ?_
    refine a_icmp_ne (pc := 20) (tgt := 25) dX1_isUnder_20 (by decide) (fun c0 => ?_) (fun c0 => ?_)
    · refine a_gets (pc := 25) (fun _ _ q => q.1) ks_X1_21 dX1_isUnder_25 ?_
      refine a_iload_n (pc := 28) dX1_isUnder_28 rfl rfl ?_
      refine a_tiload (pc := 29) (fun _ _ q => q.2.1) dX1_isUnder_29 5 (by decide) (by decide) (by decide) ?_
      refine a_istore_n (pc := 30) dX1_isUnder_30 rfl (by decide) rfl ?_
      refine a_iinc (pc := 31) dX1_isUnder_31 rfl rfl (by decide) rfl ?_
      refine a_goto (pc := 34) (tgt := 7) dX1_isUnder_34 (by decide) ?_
      refine a_iload_n (pc := 7) dX1_isUnder_7 rfl rfl ?_
      refine a_bipush (pc := 8) dX1_isUnder_8 ib_6 ?_
      refine a_icmp_ge_f (pc := 10) (tgt := 37) dX1_isUnder_10 (by decide) (by decide) ?_
      refine a_iload_n (pc := 13) dX1_isUnder_13 rfl rfl ?_
      refine a_iconst (pc := 14) dX1_isUnder_14 ic_m1 ?_
      refine a_icmp_eq_f (pc := 15) (tgt := 37) dX1_isUnder_15 (by decide) (by decide) ?_
      refine a_iload_n (pc := 18) dX1_isUnder_18 rfl rfl ?_
      refine a_iload_n (pc := 19) dX1_isUnder_19 rfl rfl ?_
      refine a_icmp_ne (pc := 20) (tgt := 25) dX1_isUnder_20 (by decide) (fun c1 => ?_) (fun c1 => ?_)
      · refine a_gets (pc := 25) (fun _ _ q => q.1) ks_X1_21 dX1_isUnder_25 ?_
        refine a_iload_n (pc := 28) dX1_isUnder_28 rfl rfl ?_
        refine a_tiload (pc := 29) (fun _ _ q => q.2.1) dX1_isUnder_29 4 (by decide) (by decide) (by decide) ?_
        refine a_istore_n (pc := 30) dX1_isUnder_30 rfl (by decide) rfl ?_
        refine a_iinc (pc := 31) dX1_isUnder_31 rfl rfl (by decide) rfl ?_
        refine a_goto (pc := 34) (tgt := 7) dX1_isUnder_34 (by decide) ?_
        refine a_iload_n (pc := 7) dX1_isUnder_7 rfl rfl ?_
        refine a_bipush (pc := 8) dX1_isUnder_8 ib_6 ?_
        refine a_icmp_ge_f (pc := 10) (tgt := 37) dX1_isUnder_10 (by decide) (by decide) ?_
        refine a_iload_n (pc := 13) dX1_isUnder_13 rfl rfl ?_
        refine a_iconst (pc := 14) dX1_isUnder_14 ic_m1 ?_
        refine a_icmp_eq_f (pc := 15) (tgt := 37) dX1_isUnder_15 (by decide) (by decide) ?_
        refine a_iload_n (pc := 18) dX1_isUnder_18 rfl rfl ?_
        refine a_iload_n (pc := 19) dX1_isUnder_19 rfl rfl ?_
        refine a_icmp_ne (pc := 20) (tgt := 25) dX1_isUnder_20 (by decide) (fun c2 => ?_) (fun c2 => ?_)
        · refine a_gets (pc := 25) (fun _ _ q => q.1) ks_X1_21 dX1_isUnder_25 ?_
          refine a_iload_n (pc := 28) dX1_isUnder_28 rfl rfl ?_
          refine a_tiload (pc := 29) (fun _ _ q => q.2.1) dX1_isUnder_29 2 (by decide) (by decide) (by decide) ?_
          refine a_istore_n (pc := 30) dX1_isUnder_30 rfl (by decide) rfl ?_
          refine a_iinc (pc := 31) dX1_isUnder_31 rfl rfl (by decide) rfl ?_
          refine a_goto (pc := 34) (tgt := 7) dX1_isUnder_34 (by decide) ?_
          refine a_iload_n (pc := 7) dX1_isUnder_7 rfl rfl ?_
          refine a_bipush (pc := 8) dX1_isUnder_8 ib_6 ?_
          refine a_icmp_ge_f (pc := 10) (tgt := 37) dX1_isUnder_10 (by decide) (by decide) ?_
          refine a_iload_n (pc := 13) dX1_isUnder_13 rfl rfl ?_
          refine a_iconst (pc := 14) dX1_isUnder_14 ic_m1 ?_
          refine a_icmp_eq_f (pc := 15) (tgt := 37) dX1_isUnder_15 (by decide) (by decide) ?_
          refine a_iload_n (pc := 18) dX1_isUnder_18 rfl rfl ?_
          refine a_iload_n (pc := 19) dX1_isUnder_19 rfl rfl ?_
          refine a_icmp_ne (pc := 20) (tgt := 25) dX1_isUnder_20 (by decide) (fun c3 => ?_) (fun c3 => ?_)
          · refine a_gets (pc := 25) (fun _ _ q => q.1) ks_X1_21 dX1_isUnder_25 ?_
            refine a_iload_n (pc := 28) dX1_isUnder_28 rfl rfl ?_
            refine a_tiload (pc := 29) (fun _ _ q => q.2.1) dX1_isUnder_29 0 (by decide) (by decide) (by decide) ?_
            refine a_istore_n (pc := 30) dX1_isUnder_30 rfl (by decide) rfl ?_
            refine a_iinc (pc := 31) dX1_isUnder_31 rfl rfl (by decide) rfl ?_
            refine a_goto (pc := 34) (tgt := 7) dX1_isUnder_34 (by decide) ?_
            refine a_iload_n (pc := 7) dX1_isUnder_7 rfl rfl ?_
            refine a_bipush (pc := 8) dX1_isUnder_8 ib_6 ?_
            refine a_icmp_ge_f (pc := 10) (tgt := 37) dX1_isUnder_10 (by decide) (by decide) ?_
            refine a_iload_n (pc := 13) dX1_isUnder_13 rfl rfl ?_
            refine a_iconst (pc := 14) dX1_isUnder_14 ic_m1 ?_
            refine a_icmp_eq_t (pc := 15) (tgt := 37) dX1_isUnder_15 (by decide) (by decide) ?_
            refine a_iconst (pc := 37) dX1_isUnder_37 ic_0 ?_
            refine a_ret_i (pc := 38) hM rfl (by decide +kernel) dX1_isUnder_38 (by omega) (by omega) ?_
            exact ⟨by rw [show undB 5 o = false from (by rcases (by omega : o = 0 ∨ o = 1 ∨ o = 2 ∨ o = 3 ∨ o = 4 ∨ o = 5) with rfl | rfl | rfl | rfl | rfl | rfl <;> first | rfl | exact absurd rfl c0 | exact absurd rfl c1 | exact absurd rfl c2 | exact absurd rfl c3)]; rfl, rfl⟩
          · refine a_iconst (pc := 23) dX1_isUnder_23 ic_1 ?_
            refine a_ret_i (pc := 24) hM rfl (by decide +kernel) dX1_isUnder_24 (by omega) (by omega) ?_
            exact ⟨by rw [show undB 5 o = true from (by obtain rfl : 0 = o := Nat.eq_of_beq_eq_true (by rcases (by omega : o = 0 ∨ o = 1 ∨ o = 2 ∨ o = 3 ∨ o = 4 ∨ o = 5) with rfl | rfl | rfl | rfl | rfl | rfl <;> first | rfl | exact absurd c3 (by decide)); rfl)]; rfl, rfl⟩
        · refine a_iconst (pc := 23) dX1_isUnder_23 ic_1 ?_
          refine a_ret_i (pc := 24) hM rfl (by decide +kernel) dX1_isUnder_24 (by omega) (by omega) ?_
          exact ⟨by rw [show undB 5 o = true from (by obtain rfl : 2 = o := Nat.eq_of_beq_eq_true (by rcases (by omega : o = 0 ∨ o = 1 ∨ o = 2 ∨ o = 3 ∨ o = 4 ∨ o = 5) with rfl | rfl | rfl | rfl | rfl | rfl <;> first | rfl | exact absurd c2 (by decide)); rfl)]; rfl, rfl⟩
      · refine a_iconst (pc := 23) dX1_isUnder_23 ic_1 ?_
        refine a_ret_i (pc := 24) hM rfl (by decide +kernel) dX1_isUnder_24 (by omega) (by omega) ?_
        exact ⟨by rw [show undB 5 o = true from (by obtain rfl : 4 = o := Nat.eq_of_beq_eq_true (by rcases (by omega : o = 0 ∨ o = 1 ∨ o = 2 ∨ o = 3 ∨ o = 4 ∨ o = 5) with rfl | rfl | rfl | rfl | rfl | rfl <;> first | rfl | exact absurd c1 (by decide)); rfl)]; rfl, rfl⟩
    · refine a_iconst (pc := 23) dX1_isUnder_23 ic_1 ?_
      refine a_ret_i (pc := 24) hM rfl (by decide +kernel) dX1_isUnder_24 (by omega) (by omega) ?_
      exact ⟨by rw [show undB 5 o = true from (by obtain rfl : 5 = o := Nat.eq_of_beq_eq_true (by rcases (by omega : o = 0 ∨ o = 1 ∨ o = 2 ∨ o = 3 ∨ o = 4 ∨ o = 5) with rfl | rfl | rfl | rfl | rfl | rfl <;> first | rfl | exact absurd c0 (by decide)); rfl)]; rfl, rfl⟩


set_option maxRecDepth 4000 in
theorem f_openH {a : Nat} {kd : Nat} {nm sg sh ws : Int32} (ha : h a = some (kO 1 [.int (nI kd), .int nm, .int sg, .int sh, .int ws])) (hk : kd < 6) {pn gu dy sl pt ks kp : Int32} {ru pk cd gs sp lf kc kg n : Nat} {f g : Nat → Int32} (hru : h ru = some (rO pn gu dy sl pt ks kp pk cd gs sp lf kc kg)) (hc : h cd = some (kI n f)) (hg : h gs = some (kI n g)) (hn : n ≤ 25) {pa : Nat} {pc : Int32} {pf : Nat → Int32} (hp : h pk = some (kO 3 [.ref pa, .int pc])) (hpa : h pa = some (kI 5 pf)) {sn : Nat} (hsg : sg = nI sn) (hsn : sn < 5) : Fn X 1 0 0 yX1_openHits cX1_openHits 3 (some .int) [.ref a, .ref ru] h (fun rv hv => rv = some (.int (givesV kd nm (if pf sn < nm then pf sn else nm) (cntN (fun i => decide (f (i + 1) = f (i + 1 - 1))) (n - 1)))) ∧ hv = h) := by
  refine fn_of (by decide) (Nat.le_of_ble_eq_true rfl) (fun M hM => ?_)
  refine a_aload_n (pc := 0) dX1_openHits_0 rfl rfl ?_
  refine a_getfield (pc := 1) kg_X1_15 dX1_openHits_1 (ha) rfl ?_
  refine a_aload_n (pc := 4) dX1_openHits_4 rfl rfl ?_
  refine a_getfield (pc := 5) kg_X1_47 dX1_openHits_5 (hru) rfl ?_
  refine a_getfield (pc := 8) kg_X1_51 dX1_openHits_8 (hp) rfl ?_
  refine a_aload_n (pc := 11) dX1_openHits_11 rfl rfl ?_
  refine a_getfield (pc := 12) kg_X1_18 dX1_openHits_12 (ha) rfl ?_
  refine a_topi (hsg) ?_
  refine a_iaload (pc := 15) dX1_openHits_15 (hpa) (sn) (rfl) (by omega) (by omega) ?_
  refine a_mmin (pc := 16) km_X1_41 dX1_openHits_16 (by rw [hM.1]; simp only [rmd]; omega) (by rw [hM.1]; simp [rmd, Value.category] <;> omega) (by rw [hM.1]; simp only [rmd]; omega) (by rw [hM.1]; simp only [rmd]; omega) ?_
  refine a_istore_n (pc := 19) dX1_openHits_19 rfl (by decide) rfl ?_
  refine a_aload_n (pc := 20) dX1_openHits_20 rfl rfl ?_
  refine a_getfield (pc := 21) kg_X1_9 dX1_openHits_21 (ha) rfl ?_
  have hal := cntN_le (fun i => decide (f (i + 1) = f (i + 1 - 1))) (n - 1)
  rcases (by omega : kd = 0 ∨ kd = 1 ∨ kd = 2 ∨ kd = 3 ∨ kd = 4 ∨ kd = 5) with rfl | rfl | rfl | rfl | rfl | rfl
  · refine a_tabOut (pc := 24) (tgt := 91) dX1_openHits_24 (by decide) (by decide) ?_
    refine a_aload_n (pc := 91) dX1_openHits_91 rfl rfl ?_
    refine a_getfield (pc := 92) kg_X1_15 dX1_openHits_92 (ha) rfl ?_
    refine a_ret_i (pc := 95) hM rfl (rfl) dX1_openHits_95 (by omega) (by omega) ?_
    exact ⟨rfl, rfl⟩
  · refine a_tabIn (pc := 24) (off := 36) (tgt := 60) dX1_openHits_24 (by decide) (by decide) rfl (by decide) ?_
    refine a_iconst (pc := 60) dX1_openHits_60 ic_2 ?_
    refine a_aload_n (pc := 61) dX1_openHits_61 rfl rfl ?_
    refine a_getfield (pc := 62) kg_X1_15 dX1_openHits_62 (ha) rfl ?_
    refine a_imul (pc := 65) dX1_openHits_65 ?_
    refine a_ret_i (pc := 66) hM rfl (rfl) dX1_openHits_66 (by omega) (by omega) ?_
    exact ⟨rfl, rfl⟩
  · refine a_tabIn (pc := 24) (off := 43) (tgt := 67) dX1_openHits_24 (by decide) (by decide) rfl (by decide) ?_
    refine a_iload_n (pc := 67) dX1_openHits_67 rfl rfl ?_
    refine a_ret_i (pc := 68) hM rfl (rfl) dX1_openHits_68 (by omega) (by omega) ?_
    exact ⟨rfl, rfl⟩
  · refine a_tabIn (pc := 24) (off := 45) (tgt := 69) dX1_openHits_24 (by decide) (by decide) rfl (by decide) ?_
    refine a_aload_n (pc := 69) dX1_openHits_69 rfl rfl ?_
    refine a_getfield (pc := 70) kg_X1_15 dX1_openHits_70 (ha) rfl ?_
    refine a_aload_n (pc := 73) dX1_openHits_73 rfl rfl ?_
    refine a_callV (pc := 74) km_X1_56 dX1_openHits_74 (f_calike hru hc hg hn) rfl rfl (krecv_of (by rfl) hru) (rok_of hM (by decide) (by decide) (by omega) (by omega)) (Nat.le_of_ble_eq_true rfl) (fun r74 h74 hp74 => ?_)
    obtain ⟨rfl, rfl⟩ := hp74
    refine a_iconst (pc := 77) dX1_openHits_77 ic_5 ?_
    refine a_idivN (pc := 78) dX1_openHits_78 (by omega) (by omega) (by omega) ?_
    refine a_iadd (pc := 79) dX1_openHits_79 ?_
    refine a_ret_i (pc := 80) hM rfl (rfl) dX1_openHits_80 (by omega) (by omega) ?_
    exact ⟨rfl, rfl⟩
  · refine a_tabIn (pc := 24) (off := 57) (tgt := 81) dX1_openHits_24 (by decide) (by decide) rfl (by decide) ?_
    refine a_iload_n (pc := 81) dX1_openHits_81 rfl rfl ?_
    refine a_iconst (pc := 82) dX1_openHits_82 ic_1 ?_
    refine a_iadd (pc := 83) dX1_openHits_83 ?_
    refine a_ret_i (pc := 84) hM rfl (rfl) dX1_openHits_84 (by omega) (by omega) ?_
    exact ⟨rfl, rfl⟩
  · refine a_tabIn (pc := 24) (off := 61) (tgt := 85) dX1_openHits_24 (by decide) (by decide) rfl (by decide) ?_
    refine a_iconst (pc := 85) dX1_openHits_85 ic_2 ?_
    refine a_iload_n (pc := 86) dX1_openHits_86 rfl rfl ?_
    refine a_iconst (pc := 87) dX1_openHits_87 ic_1 ?_
    refine a_iadd (pc := 88) dX1_openHits_88 ?_
    refine a_imul (pc := 89) dX1_openHits_89 ?_
    refine a_ret_i (pc := 90) hM rfl (rfl) dX1_openHits_90 (by omega) (by omega) ?_
    exact ⟨rfl, rfl⟩

set_option maxRecDepth 4000 in
theorem f_mostH {a : Nat} {kd : Nat} {nm sg ws : Int32} {sh : Bool} (ha : h a = some (kO 1 [.int (nI kd), .int nm, .int sg, .int (bI sh), .int ws])) (hk : kd < 6) {pn gu dy sl pt ks kp : Int32} {ru pk cd gs sp lf kc kg n : Nat} {f g : Nat → Int32} (hru : h ru = some (rO pn gu dy sl pt ks kp pk cd gs sp lf kc kg)) (hc : h cd = some (kI n f)) (hg : h gs = some (kI n g)) (hn : n ≤ 25) {pa : Nat} {pc : Int32} {pf : Nat → Int32} (hp : h pk = some (kO 3 [.ref pa, .int pc])) (hpa : h pa = some (kI 5 pf)) {sn : Nat} (hsg : sg = nI sn) (hsn : sn < 5) : Fn X 2 0 0 yX1_mostHits cX1_mostHits 2 (some .int) [.ref a, .ref ru] h (fun rv hv => rv = some (.int (if sh = true then nI 0 else (if nI n < givesV kd nm (if pf sn < nm then pf sn else nm) (cntN (fun i => decide (f (i + 1) = f (i + 1 - 1))) (n - 1)) then nI n else givesV kd nm (if pf sn < nm then pf sn else nm) (cntN (fun i => decide (f (i + 1) = f (i + 1 - 1))) (n - 1))))) ∧ hv = h) := by
  refine fn_of (by decide) (Nat.le_of_ble_eq_true rfl) (fun M hM => ?_)
  refine a_aload_n (pc := 0) dX1_mostHits_0 rfl rfl ?_
  refine a_getfield (pc := 1) kg_X1_28 dX1_mostHits_1 (ha) rfl ?_
  refine a_if_eqB (pc := 4) (tgt := 11) dX1_mostHits_4 (by decide) (fun c4 => ?_) (fun c4 => ?_)
  · refine a_aload_n (pc := 11) dX1_mostHits_11 rfl rfl ?_
    refine a_aload_n (pc := 12) dX1_mostHits_12 rfl rfl ?_
    refine a_callV (pc := 13) km_X1_32 dX1_mostHits_13 (f_openH ha hk hru hc hg hn hp hpa hsg hsn) rfl rfl (krecv_of (by rfl) ha) (rok_of hM (by decide) (by decide) (by omega) (by omega)) (Nat.le_of_ble_eq_true rfl) (fun r13 h13 hp13 => ?_)
    obtain ⟨rfl, rfl⟩ := hp13
    refine a_aload_n (pc := 16) dX1_mostHits_16 rfl rfl ?_
    refine a_getfield (pc := 17) kg_X1_36 dX1_mostHits_17 (hru) rfl ?_
    refine a_alen (pc := 20) (t := 0) rfl dX1_mostHits_20 (hc) rfl ?_
    refine a_mmin (pc := 21) km_X1_41 dX1_mostHits_21 (by rw [hM.1]; simp only [rmd]; omega) (by rw [hM.1]; simp [rmd, Value.category] <;> omega) (by rw [hM.1]; simp only [rmd]; omega) (by rw [hM.1]; simp only [rmd]; omega) ?_
    refine a_ret_i (pc := 24) hM rfl (rfl) dX1_mostHits_24 (by omega) (by omega) ?_
    exact ⟨by first | ((rw [if_pos (show sh = true from c4)]) <;> rfl) | ((rw [if_neg (show ¬ sh = true by rw [c4]; decide)]) <;> rfl), rfl⟩
  · refine a_iconst (pc := 7) dX1_mostHits_7 ic_0 ?_
    refine a_goto (pc := 8) (tgt := 24) dX1_mostHits_8 (by decide) ?_
    refine a_ret_i (pc := 24) hM rfl (rfl) dX1_mostHits_24 (by omega) (by omega) ?_
    exact ⟨by first | ((rw [if_pos (show sh = true from c4)]) <;> rfl) | ((rw [if_neg (show ¬ sh = true by rw [c4]; decide)]) <;> rfl), rfl⟩

set_option maxRecDepth 4000 in
theorem f_frInit {a : Nat} (ha : h a = some (kO 0 [.long 0, .long 0])) : Fn X 1 0 0 yX0_init cX0_init 1 none [.ref a] h (fun rv hv => rv = none ∧ hv = kput h a (kO 0 [.long (lN 0), .long (lN 1)])) := by
  refine fn_of (by decide) (Nat.le_of_ble_eq_true rfl) (fun M hM => ?_)
  refine a_aload_n (pc := 0) dX0_init_0 rfl rfl ?_
  refine a_objInit (pc := 1) ko_X0_1 ko_im ko_co dX0_init_1 (by rw [hM.1]; simp only [rmd]; omega) (by rw [hM.1]; simp [rmd, Value.category] <;> omega) ?_
  refine a_aload_n (pc := 4) dX0_init_4 rfl rfl ?_
  refine a_lconst (pc := 5) (v := lN 0) dX0_init_5 rfl ?_
  refine a_putfield (pc := 6) kf_X0_7 dX0_init_6 (ha) (rfl) (by rfl) (Nat.le_of_ble_eq_true rfl) ?_
  refine a_aload_n (pc := 9) dX0_init_9 rfl rfl ?_
  refine a_lconst (pc := 10) (v := lN 1) dX0_init_10 rfl ?_
  refine a_putfield (pc := 11) kf_X0_13 dX0_init_11 (kput_eq) (rfl) (by rfl) (Nat.le_of_ble_eq_true rfl) ?_
  refine a_hp kput_put ?_
  refine a_ret_v (pc := 14) hM rfl dX0_init_14 (by omega) (by omega) ?_
  exact ⟨rfl, rfl⟩

set_option maxRecDepth 4000 in
theorem f_gd {a b : Nat} (ha : a < 2 ^ 62) (hb : b < 2 ^ 62) : Fn X 0 0 0 yX0_greatestDivisor cX0_greatestDivisor 11 (some .long) [.long (lN a), .long (lN b)] h (fun rv hv => rv = some (.long (lN (Nat.gcd a b))) ∧ hv = h) := by
  refine fn_of (by decide) (Nat.le_of_ble_eq_true rfl) (fun M hM => ?_)
  have done : ∀ (g k : Nat), k < 1000 → Nat.gcd a b = g → AJ X M yX0_greatestDivisor cX0_greatestDivisor 11 (some .long) 9 [(4, .long (lN g)), (6, .long (lN 0)), (8, .int (nI k))] [] h 0 0 := by
    intro g k hk hr
    refine a_iload (pc := 9) dX0_greatestDivisor_9 rfl ?_
    refine a_sipush (pc := 11) dX0_greatestDivisor_11 is_1000 ?_
    refine a_icmp_geN (pc := 14) (tgt := 45) dX0_greatestDivisor_14 (by decide) (by omega) (by omega) (fun c14 => ?_) (fun c14 => ?_)
    · exact absurd c14 (by omega)
    · refine a_lload (pc := 17) dX0_greatestDivisor_17 rfl ?_
      refine a_lconst (pc := 19) (v := lN 0) dX0_greatestDivisor_19 rfl ?_
      refine a_lif_eq (pc := 20) (tgt := 45) dX0_greatestDivisor_20 dX0_greatestDivisor_21 (by decide) (fun c21 => ?_) (fun c21 => ?_)
      · refine a_lload (pc := 45) dX0_greatestDivisor_45 rfl ?_
        refine a_ret_l (pc := 47) hM rfl dX0_greatestDivisor_47 (by omega) (by omega) ?_
        exact ⟨by rw [hr], rfl⟩
      · exact absurd rfl c21
  have one : ∀ (g l k : Nat), k < 1000 → 0 < l → g < 2 ^ 62 → l < 2 ^ 62 → AJ X M yX0_greatestDivisor cX0_greatestDivisor 11 (some .long) 9 [(4, .long (lN l)), (6, .long (lN (g % l))), (8, .int (nI (k + 1)))] [] h 0 0 → AJ X M yX0_greatestDivisor cX0_greatestDivisor 11 (some .long) 9 [(4, .long (lN g)), (6, .long (lN l)), (8, .int (nI k))] [] h 0 0 := by
    intro g l k hk hl hg2 hl2 kont
    refine a_iload (pc := 9) dX0_greatestDivisor_9 rfl ?_
    refine a_sipush (pc := 11) dX0_greatestDivisor_11 is_1000 ?_
    refine a_icmp_geN (pc := 14) (tgt := 45) dX0_greatestDivisor_14 (by decide) (by omega) (by omega) (fun c14 => ?_) (fun c14 => ?_)
    · exact absurd c14 (by omega)
    · refine a_lload (pc := 17) dX0_greatestDivisor_17 rfl ?_
      refine a_lconst (pc := 19) (v := lN 0) dX0_greatestDivisor_19 rfl ?_
      refine a_lif_eq (pc := 20) (tgt := 45) dX0_greatestDivisor_20 dX0_greatestDivisor_21 (by decide) (fun c21 => ?_) (fun c21 => ?_)
      · exact absurd ((pk_lEQ (by omega) (by omega)).mp c21) (by omega)
      · refine a_lload (pc := 24) dX0_greatestDivisor_24 rfl ?_
        refine a_lload (pc := 26) dX0_greatestDivisor_26 rfl ?_
        refine a_lremN (pc := 28) dX0_greatestDivisor_28 (by omega) (by omega) (by omega) ?_
        refine a_lstore (pc := 29) dX0_greatestDivisor_29 (by decide) rfl ?_
        refine a_lload (pc := 31) dX0_greatestDivisor_31 rfl ?_
        refine a_lstore (pc := 33) dX0_greatestDivisor_33 (by decide) rfl ?_
        refine a_lload (pc := 35) dX0_greatestDivisor_35 rfl ?_
        refine a_lstore (pc := 37) dX0_greatestDivisor_37 (by decide) rfl ?_
        refine a_iincN (pc := 39) (n := 1) dX0_greatestDivisor_39 (by decide) rfl (by decide) rfl ?_
        refine a_goto (pc := 42) (tgt := 9) dX0_greatestDivisor_42 (by decide) ?_
        exact a_locR kont ⟨rfl, rfl, rfl, trivial⟩
  have lp : ∀ (m g l k : Nat), l < 2 ^ m → g < 2 ^ 62 → l < 2 ^ 62 → k + 2 * m < 1000 → Nat.gcd a b = Nat.gcd g l → AJ X M yX0_greatestDivisor cX0_greatestDivisor 11 (some .long) 9 [(4, .long (lN g)), (6, .long (lN l)), (8, .int (nI k))] [] h 0 0 := by
    intro m
    induction m with
    | zero =>
      intro g l k hl hg2 hl2 hk he
      have e : l = 0 := by omega
      subst e
      exact done g k (by omega) (by rw [he, Nat.gcd_zero_right])
    | succ m ih =>
      intro g l k hl hg2 hl2 hk he
      rcases Nat.eq_zero_or_pos l with e | hl0
      · subst e
        exact done g k (by omega) (by rw [he, Nat.gcd_zero_right])
      · have h1 : g % l < l := Nat.mod_lt _ hl0
        have e1 : Nat.gcd a b = Nat.gcd l (g % l) := by rw [he, Nat.gcd_comm g l, Nat.gcd_rec l g, Nat.gcd_comm]
        refine one g l k (by omega) hl0 hg2 hl2 ?_
        rcases Nat.eq_zero_or_pos (g % l) with e | hq
        · rw [e]
          rw [e, Nat.gcd_zero_right] at e1
          exact done l (k + 1) (by omega) e1
        · have h2 : l % (g % l) < g % l := Nat.mod_lt _ hq
          have e2 : Nat.gcd a b = Nat.gcd (g % l) (l % (g % l)) := by rw [e1, Nat.gcd_comm l (g % l), Nat.gcd_rec (g % l) l, Nat.gcd_comm]
          refine one l (g % l) (k + 1) (by omega) hq hl2 (by omega) ?_
          refine ih (g % l) (l % (g % l)) (k + 1 + 1) ?_ (by omega) (by omega) (by omega) e2
          have h3 : l % (g % l) + (g % l) ≤ l := by
            have hd := Nat.div_add_mod l (g % l)
            have hp : 1 ≤ l / (g % l) := Nat.div_pos (by omega) hq
            have := Nat.mul_le_mul_left (g % l) hp
            omega
          rw [Nat.pow_succ] at hl
          omega
  refine a_lload_n (pc := 0) dX0_greatestDivisor_0 rfl rfl ?_
  refine a_lstore (pc := 1) dX0_greatestDivisor_1 (by decide) rfl ?_
  refine a_lload_n (pc := 3) dX0_greatestDivisor_3 rfl rfl ?_
  refine a_lstore (pc := 4) dX0_greatestDivisor_4 (by decide) rfl ?_
  refine a_iconst (pc := 6) dX0_greatestDivisor_6 ic_0 ?_
  refine a_istore (pc := 7) dX0_greatestDivisor_7 (by decide) rfl ?_
  exact a_locR (lp 62 b a 0 ha hb ha (by decide) (Nat.gcd_comm a b)) ⟨rfl, rfl, rfl, trivial⟩

theorem absL_Z {a : Int} (h : a.natAbs < 2 ^ 62) : absL (lZ a) = lN a.natAbs := by
  unfold absL
  by_cases c : a < 0
  · rw [if_pos (show lZ a < 0 from (lZ_lt h).mpr c), lZ_abs c]
  · rw [if_neg (show ¬ lZ a < 0 from fun z => c ((lZ_lt h).mp z)), lZ_pos (by omega)]
theorem lN_lt0 {n : Nat} (h : n < 2 ^ 62) : lN 0 < lN n ↔ 0 < n := by
  rw [fa_lt64, ← lZ_N, ← lZ_N, lZ_toInt (by decide), lZ_toInt (by rw [Int.natAbs_natCast]; exact h)]
  omega
set_option maxRecDepth 4000 in
theorem f_frAdd {c : Nat} {A x : Int} {B b : Nat} {a : Nat} (ha : h a = some (kO 0 [.long (lZ A), .long (lN B)])) (hF : FrOk c A B) (hc : c ≤ 1000) (hb : 0 < b) (hb2 : b < 26) (hx : x.natAbs ≤ 25 * b) : Fn X 1 0 0 yX0_add cX0_add 11 none [.ref a, .long (lZ x), .long (lN b)] h (fun rv hv => rv = none ∧ hv = kput h a (kO 0 [.long (lZ (frA A B x b)), .long (lN (frB A B x b))])) := by
  obtain ⟨hx1, hx2, hx3, hx4⟩ := fr_small hF hc hb hb2 hx
  have hgp : 0 < Nat.gcd (frX A B x b).natAbs (B * b) := frG_pos hF.1 hb
  have hx3 : Nat.gcd (frX A B x b).natAbs (B * b) < 2 ^ 62 := hx3
  refine fn_of (by decide) (Nat.le_of_ble_eq_true rfl) (fun M hM => ?_)
  refine a_lload_n (pc := 0) dX0_add_0 rfl rfl ?_
  refine a_lconst (pc := 1) (v := lN 0) dX0_add_1 rfl ?_
  refine a_lif_gt (pc := 2) (tgt := 7) dX0_add_2 dX0_add_3 (by decide) (fun c3 => ?_) (fun c3 => ?_)
  · refine a_aload_n (pc := 7) dX0_add_7 rfl rfl ?_
    refine a_getfield (pc := 8) kg_X0_7 dX0_add_8 (ha) rfl ?_
    refine a_topl ((show lZ A = lZ A from rfl)) ?_
    refine a_lload_n (pc := 11) dX0_add_11 rfl rfl ?_
    refine a_lmul (pc := 12) dX0_add_12 ?_
    refine a_lload_n (pc := 13) dX0_add_13 rfl rfl ?_
    refine a_aload_n (pc := 14) dX0_add_14 rfl rfl ?_
    refine a_getfield (pc := 15) kg_X0_13 dX0_add_15 (ha) rfl ?_
    refine a_topl ((show lN B = lN B from rfl)) ?_
    refine a_lmul (pc := 18) dX0_add_18 ?_
    refine a_ladd (pc := 19) dX0_add_19 ?_
    refine a_topl (show _ = lZ (frX A B x b) by rw [frX, ← lZ_N b, ← lZ_N B, lZ_mul, lZ_mul, lZ_add]) ?_
    refine a_lstore (pc := 20) dX0_add_20 (by decide) rfl ?_
    refine a_aload_n (pc := 22) dX0_add_22 rfl rfl ?_
    refine a_getfield (pc := 23) kg_X0_13 dX0_add_23 (ha) rfl ?_
    refine a_topl ((show lN B = lN B from rfl)) ?_
    refine a_lload_n (pc := 26) dX0_add_26 rfl rfl ?_
    refine a_lmulN (pc := 27) dX0_add_27 ?_
    refine a_lstore (pc := 28) dX0_add_28 (by decide) rfl ?_
    refine a_lload (pc := 30) dX0_add_30 rfl ?_
    refine a_mabs (pc := 32) km_X0_16 dX0_add_32 (by rw [hM.1]; simp only [rmd]; omega) (by rw [hM.1]; simp [rmd, Value.category] <;> omega) (by rw [hM.1]; simp only [rmd]; omega) (by rw [hM.1]; simp only [rmd]; omega) ?_
    refine a_topl (absL_Z hx1) ?_
    refine a_lload (pc := 35) dX0_add_35 rfl ?_
    refine a_callS (pc := 37) km_X0_22 dX0_add_37 (f_gd hx1 hx2) rfl rfl (rok_of hM (by decide) (by decide) (by omega) (by omega)) (Nat.le_of_ble_eq_true rfl) (fun r37 h37 hp37 => ?_)
    obtain ⟨rfl, rfl⟩ := hp37
    refine a_lstore (pc := 40) dX0_add_40 (by decide) rfl ?_
    refine a_lload (pc := 42) dX0_add_42 rfl ?_
    refine a_lconst (pc := 44) (v := lN 0) dX0_add_44 rfl ?_
    refine a_lif_le (pc := 45) (tgt := 67) dX0_add_45 dX0_add_46 (by decide) (fun c46 => ?_) (fun c46 => ?_)
    · exact absurd ((lN_lt0 hx3).mpr hgp) (by first | exact Int64.not_lt.mpr c46 | exact c46)
    · refine a_aload_n (pc := 49) dX0_add_49 rfl rfl ?_
      refine a_lload (pc := 50) dX0_add_50 rfl ?_
      refine a_lload (pc := 52) dX0_add_52 rfl ?_
      refine a_ldiv (pc := 54) dX0_add_54 (lN_ne0 hgp (by omega)) ?_
      refine a_topl (lZ_div hx1 hx3) ?_
      refine a_putfield (pc := 55) kf_X0_7 dX0_add_55 (ha) (rfl) (by rfl) (Nat.le_of_ble_eq_true rfl) ?_
      refine a_aload_n (pc := 58) dX0_add_58 rfl rfl ?_
      refine a_lload (pc := 59) dX0_add_59 rfl ?_
      refine a_lload (pc := 61) dX0_add_61 rfl ?_
      refine a_ldivN (pc := 63) dX0_add_63 (by omega) (by omega) (by omega) ?_
      refine a_putfield (pc := 64) kf_X0_13 dX0_add_64 (kput_eq) (rfl) (by rfl) (Nat.le_of_ble_eq_true rfl) ?_
      refine a_hp kput_put ?_
      refine a_ret_v (pc := 67) hM rfl dX0_add_67 (by omega) (by omega) ?_
      exact ⟨rfl, rfl⟩
  · exact absurd ((lN_lt0 (by omega)).mpr hb) (by first | exact Int64.not_lt.mpr c3 | exact c3)

end CSM

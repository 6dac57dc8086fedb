/-! THE CLASS READS: its leaves; tokens tested -/
section CRD
variable {X : KX} {h : AH}
/-- the reader at r: its tokens at t, its codes at cd -/
def RH (h : AH) (r t cd en L k : Nat) (tk ft : Int32) (fc : Nat → Int32) : AH := kput (kput h cd (kI 160 fc)) r (kO 4 [.ref t, .ref cd, .ref en, .int (nI L), .int (nI k), .int tk, .int ft])
def RF (h : AH) (r t kk pp nn cd c : Nat) (fk fp fn : Nat → Int32) : Prop := h t = some (kO 10 [.ref kk, .ref pp, .ref nn, .int (nI c)]) ∧ h kk = some (kI 161 fk) ∧ h pp = some (kI 161 fp) ∧ h nn = some (kI 161 fn) ∧ c ≤ 161 ∧ r ≠ cd ∧ t ≠ r ∧ t ≠ cd ∧ kk ≠ r ∧ kk ≠ cd ∧ pp ≠ r ∧ pp ≠ cd ∧ nn ≠ r ∧ nn ≠ cd
section
variable {r t kk pp nn cd en c L k : Nat} {fk fp fn fc g : Nat → Int32} {tk ft : Int32}
theorem RH_r : RH h r t cd en L k tk ft fc r = some (kO 4 [.ref t, .ref cd, .ref en, .int (nI L), .int (nI k), .int tk, .int ft]) := kput_eq
theorem RH_c (d : RF h r t kk pp nn cd c fk fp fn) : RH h r t cd en L k tk ft fc cd = some (kI 160 fc) := (kput_ne (Ne.symm d.2.2.2.2.2.1)).trans kput_eq
theorem RH_t (d : RF h r t kk pp nn cd c fk fp fn) : RH h r t cd en L k tk ft fc t = some (kO 10 [.ref kk, .ref pp, .ref nn, .int (nI c)]) := (kput_ne d.2.2.2.2.2.2.1).trans ((kput_ne d.2.2.2.2.2.2.2.1).trans d.1)
theorem RH_k (d : RF h r t kk pp nn cd c fk fp fn) : RH h r t cd en L k tk ft fc kk = some (kI 161 fk) := (kput_ne d.2.2.2.2.2.2.2.2.1).trans ((kput_ne d.2.2.2.2.2.2.2.2.2.1).trans d.2.1)
theorem RH_p (d : RF h r t kk pp nn cd c fk fp fn) : RH h r t cd en L k tk ft fc pp = some (kI 161 fp) := (kput_ne d.2.2.2.2.2.2.2.2.2.2.1).trans ((kput_ne d.2.2.2.2.2.2.2.2.2.2.2.1).trans d.2.2.1)
theorem RH_n (d : RF h r t kk pp nn cd c fk fp fn) : RH h r t cd en L k tk ft fc nn = some (kI 161 fn) := (kput_ne d.2.2.2.2.2.2.2.2.2.2.2.2.1).trans ((kput_ne d.2.2.2.2.2.2.2.2.2.2.2.2.2).trans d.2.2.2.1)
theorem RH_s {L' k' : Nat} {tk' ft' : Int32} : kput (RH h r t cd en L k tk ft fc) r (kO 4 [.ref t, .ref cd, .ref en, .int (nI L'), .int (nI k'), .int tk', .int ft']) = RH h r t cd en L' k' tk' ft' fc := kput_put
theorem RH_sc (d : RF h r t kk pp nn cd c fk fp fn) : kput (RH h r t cd en L k tk ft fc) cd (kI 160 g) = RH h r t cd en L k tk ft g := by
  unfold RH
  rw [kput_comm (a := r) (b := cd) d.2.2.2.2.2.1, kput_put]
end
theorem RF.c161 {r t kk pp nn cd c : Nat} {fk fp fn : Nat → Int32} (d : RF h r t kk pp nn cd c fk fp fn) : c ≤ 161 := d.2.2.2.2.1
def stK (c k : Nat) : Nat := if k + 1 < c then k + 1 else k
set_option maxRecDepth 4000 in
theorem f_step {r t kk pp nn cd en c L k : Nat} {fk fp fn fc : Nat → Int32} {tk ft : Int32} (d : RF h r t kk pp nn cd c fk fp fn) (hk : k < c) : Fn X 0 0 0 yX4_step cX4_step 1 none [.ref r] (RH h r t cd en L k tk ft fc) (fun rv hv => rv = none ∧ hv = (RH h r t cd en L (stK c k) (fk (stK c k)) ft fc)) := by
  have hc161 := d.c161
  refine fn_of (by decide) (Nat.le_of_ble_eq_true rfl) (fun M hM => ?_)
  refine a_aload_n (pc := 0) dX4_step_0 rfl rfl ?_
  refine a_getfield (pc := 1) kg_X4_38 dX4_step_1 (RH_r) rfl ?_
  refine a_topi ((show nI k = nI k from rfl)) ?_
  refine a_iconst (pc := 4) dX4_step_4 ic_1 ?_
  refine a_iaddN (pc := 5) dX4_step_5 ?_
  refine a_aload_n (pc := 6) dX4_step_6 rfl rfl ?_
  refine a_getfield (pc := 7) kg_X4_12 dX4_step_7 (RH_r) rfl ?_
  refine a_getfield (pc := 10) kg_X4_75 dX4_step_10 (RH_t d) rfl ?_
  refine a_topi ((show nI c = nI c from rfl)) ?_
  refine a_icmp_geN (pc := 13) (tgt := 26) dX4_step_13 (by decide) (by omega) (by omega) (fun c13 => ?_) (fun c13 => ?_)
  · have hk2 : stK c k = k := if_neg (by omega)
    refine a_aload_n (pc := 26) dX4_step_26 rfl rfl ?_
    refine a_aload_n (pc := 27) dX4_step_27 rfl rfl ?_
    refine a_getfield (pc := 28) kg_X4_12 dX4_step_28 (RH_r) rfl ?_
    refine a_getfield (pc := 31) kg_X4_41 dX4_step_31 (RH_t d) rfl ?_
    refine a_aload_n (pc := 34) dX4_step_34 rfl rfl ?_
    refine a_getfield (pc := 35) kg_X4_38 dX4_step_35 (RH_r) rfl ?_
    refine a_iaload (pc := 38) dX4_step_38 (RH_k d) (stK c k) (by rw [hk2]) (by rw [hk2]; omega) (by rw [hk2]; omega) ?_
    refine a_putfield (pc := 39) kf_X4_44 dX4_step_39 (RH_r) (rfl) (by rfl) (Nat.le_of_ble_eq_true rfl) ?_
    refine a_hp RH_s ?_
    refine a_ret_v (pc := 42) hM rfl dX4_step_42 (by omega) (by omega) ?_
    exact ⟨rfl, by rw [hk2]⟩
  · have hk2 : stK c k = k + 1 := if_pos (by omega)
    refine a_aload_n (pc := 16) dX4_step_16 rfl rfl ?_
    refine a_dup (pc := 17) dX4_step_17 rfl ?_
    refine a_getfield (pc := 18) kg_X4_38 dX4_step_18 (RH_r) rfl ?_
    refine a_topi ((show nI k = nI k from rfl)) ?_
    refine a_iconst (pc := 21) dX4_step_21 ic_1 ?_
    refine a_iaddN (pc := 22) dX4_step_22 ?_
    refine a_putfield (pc := 23) kf_X4_38 dX4_step_23 (RH_r) (rfl) (by rfl) (Nat.le_of_ble_eq_true rfl) ?_
    refine a_hp RH_s ?_
    refine a_aload_n (pc := 26) dX4_step_26 rfl rfl ?_
    refine a_aload_n (pc := 27) dX4_step_27 rfl rfl ?_
    refine a_getfield (pc := 28) kg_X4_12 dX4_step_28 (RH_r) rfl ?_
    refine a_getfield (pc := 31) kg_X4_41 dX4_step_31 (RH_t d) rfl ?_
    refine a_aload_n (pc := 34) dX4_step_34 rfl rfl ?_
    refine a_getfield (pc := 35) kg_X4_38 dX4_step_35 (RH_r) rfl ?_
    refine a_iaload (pc := 38) dX4_step_38 (RH_k d) (stK c k) (by rw [hk2]) (by rw [hk2]; omega) (by rw [hk2]; omega) ?_
    refine a_putfield (pc := 39) kf_X4_44 dX4_step_39 (RH_r) (rfl) (by rfl) (Nat.le_of_ble_eq_true rfl) ?_
    refine a_hp RH_s ?_
    refine a_ret_v (pc := 42) hM rfl dX4_step_42 (by omega) (by omega) ?_
    exact ⟨rfl, by rw [hk2]⟩

def rfF (fp : Nat → Int32) (k : Nat) (ft : Int32) : Int32 := if ft = -1 then fp k else ft
set_option maxRecDepth 4000 in
theorem f_refuse {r t kk pp nn cd en c L k : Nat} {fk fp fn fc : Nat → Int32} {tk ft : Int32} (d : RF h r t kk pp nn cd c fk fp fn) (hk : k < c) : Fn X 0 0 0 yX4_refuse cX4_refuse 1 none [.ref r] (RH h r t cd en L k tk ft fc) (fun rv hv => rv = none ∧ hv = (RH h r t cd en L k (-2) (rfF fp k ft) fc)) := by
  have hc161 := d.c161
  refine fn_of (by decide) (Nat.le_of_ble_eq_true rfl) (fun M hM => ?_)
  refine a_aload_n (pc := 0) dX4_refuse_0 rfl rfl ?_
  refine a_getfield (pc := 1) kg_X4_35 dX4_refuse_1 (RH_r) rfl ?_
  refine a_iconst (pc := 4) dX4_refuse_4 ic_m1 ?_
  refine a_icmp_ne (pc := 5) (tgt := 24) dX4_refuse_5 (by decide) (fun c5 => ?_) (fun c5 => ?_)
  · have hf : rfF fp k ft = ft := if_neg c5
    refine a_aload_n (pc := 24) dX4_refuse_24 rfl rfl ?_
    refine a_bipush (pc := 25) dX4_refuse_25 ib_m2 ?_
    refine a_putfield (pc := 27) kf_X4_44 dX4_refuse_27 (RH_r) (rfl) (by rfl) (Nat.le_of_ble_eq_true rfl) ?_
    refine a_hp RH_s ?_
    refine a_ret_v (pc := 30) hM rfl dX4_refuse_30 (by omega) (by omega) ?_
    exact ⟨rfl, by rw [hf]⟩
  · have hf : rfF fp k ft = fp k := if_pos c5
    refine a_aload_n (pc := 8) dX4_refuse_8 rfl rfl ?_
    refine a_aload_n (pc := 9) dX4_refuse_9 rfl rfl ?_
    refine a_getfield (pc := 10) kg_X4_12 dX4_refuse_10 (RH_r) rfl ?_
    refine a_getfield (pc := 13) kg_X4_78 dX4_refuse_13 (RH_t d) rfl ?_
    refine a_aload_n (pc := 16) dX4_refuse_16 rfl rfl ?_
    refine a_getfield (pc := 17) kg_X4_38 dX4_refuse_17 (RH_r) rfl ?_
    refine a_topi ((show nI k = nI k from rfl)) ?_
    refine a_iaload (pc := 20) dX4_refuse_20 (RH_p d) (k) (rfl) (by omega) (by omega) ?_
    refine a_putfield (pc := 21) kf_X4_35 dX4_refuse_21 (RH_r) (rfl) (by rfl) (Nat.le_of_ble_eq_true rfl) ?_
    refine a_hp RH_s ?_
    refine a_aload_n (pc := 24) dX4_refuse_24 rfl rfl ?_
    refine a_bipush (pc := 25) dX4_refuse_25 ib_m2 ?_
    refine a_putfield (pc := 27) kf_X4_44 dX4_refuse_27 (RH_r) (rfl) (by rfl) (Nat.le_of_ble_eq_true rfl) ?_
    refine a_hp RH_s ?_
    refine a_ret_v (pc := 30) hM rfl dX4_refuse_30 (by omega) (by omega) ?_
    exact ⟨rfl, by rw [hf]⟩

def puL (L : Nat) : Nat := if L < 160 then L + 1 else L
def puF (L : Nat) (fc : Nat → Int32) (v : Int32) : Nat → Int32 := if L < 160 then upd fc L v else fc
set_option maxRecDepth 4000 in
theorem f_put {r t kk pp nn cd en c L k : Nat} {fk fp fn fc : Nat → Int32} {tk ft : Int32} (d : RF h r t kk pp nn cd c fk fp fn) (hL : L ≤ 160) (v : Int32) : Fn X 0 0 0 yX4_put cX4_put 2 none [.ref r, .int v] (RH h r t cd en L k tk ft fc) (fun rv hv => rv = none ∧ hv = (RH h r t cd en (puL L) k tk ft (puF L fc v))) := by
  refine fn_of (by decide) (Nat.le_of_ble_eq_true rfl) (fun M hM => ?_)
  refine a_aload_n (pc := 0) dX4_put_0 rfl rfl ?_
  refine a_getfield (pc := 1) kg_X4_31 dX4_put_1 (RH_r) rfl ?_
  refine a_topi ((show nI L = nI L from rfl)) ?_
  refine a_aload_n (pc := 4) dX4_put_4 rfl rfl ?_
  refine a_getfield (pc := 5) kg_X4_18 dX4_put_5 (RH_r) rfl ?_
  refine a_alen (pc := 8) (t := 0) rfl dX4_put_8 (RH_c d) rfl ?_
  refine a_icmp_geN (pc := 9) (tgt := 32) dX4_put_9 (by decide) (by omega) (by omega) (fun c9 => ?_) (fun c9 => ?_)
  · have e1 : puL L = L := if_neg (by omega)
    have e2 : puF L fc v = fc := if_neg (by omega)
    refine a_ret_v (pc := 32) hM rfl dX4_put_32 (by omega) (by omega) ?_
    exact ⟨rfl, by rw [e1, e2]⟩
  · have e1 : puL L = L + 1 := if_pos (by omega)
    have e2 : puF L fc v = upd fc L v := if_pos (by omega)
    refine a_aload_n (pc := 12) dX4_put_12 rfl rfl ?_
    refine a_getfield (pc := 13) kg_X4_18 dX4_put_13 (RH_r) rfl ?_
    refine a_aload_n (pc := 16) dX4_put_16 rfl rfl ?_
    refine a_getfield (pc := 17) kg_X4_31 dX4_put_17 (RH_r) rfl ?_
    refine a_topi ((show nI L = nI L from rfl)) ?_
    refine a_iload_n (pc := 20) dX4_put_20 rfl rfl ?_
    refine a_iastore (pc := 21) dX4_put_21 (RH_c d) (L) (rfl) (by omega) (by omega) ?_
    refine a_hp (RH_sc d) ?_
    refine a_aload_n (pc := 22) dX4_put_22 rfl rfl ?_
    refine a_dup (pc := 23) dX4_put_23 rfl ?_
    refine a_getfield (pc := 24) kg_X4_31 dX4_put_24 (RH_r) rfl ?_
    refine a_topi ((show nI L = nI L from rfl)) ?_
    refine a_iconst (pc := 27) dX4_put_27 ic_1 ?_
    refine a_iaddN (pc := 28) dX4_put_28 ?_
    refine a_putfield (pc := 29) kf_X4_31 dX4_put_29 (RH_r) (rfl) (by rfl) (Nat.le_of_ble_eq_true rfl) ?_
    refine a_hp RH_s ?_
    refine a_ret_v (pc := 32) hM rfl dX4_put_32 (by omega) (by omega) ?_
    exact ⟨rfl, by rw [e1, e2]⟩

def exR (c k : Nat) (fk fp : Nat → Int32) (tk ft x : Int32) : Nat × Int32 × Int32 := if tk = x then (stK c k, fk (stK c k), ft) else (k, -2, rfF fp k ft)
set_option maxRecDepth 4000 in
theorem f_expect {r t kk pp nn cd en c L k : Nat} {fk fp fn fc : Nat → Int32} {tk ft : Int32} (d : RF h r t kk pp nn cd c fk fp fn) (hk : k < c) (x : Int32) : Fn X 1 0 0 yX4_expect cX4_expect 2 none [.ref r, .int x] (RH h r t cd en L k tk ft fc) (fun rv hv => rv = none ∧ hv = (RH h r t cd en L (exR c k fk fp tk ft x).1 (exR c k fk fp tk ft x).2.1 (exR c k fk fp tk ft x).2.2 fc)) := by
  refine fn_of (by decide) (Nat.le_of_ble_eq_true rfl) (fun M hM => ?_)
  refine a_aload_n (pc := 0) dX4_expect_0 rfl rfl ?_
  refine a_getfield (pc := 1) kg_X4_44 dX4_expect_1 (RH_r) rfl ?_
  refine a_iload_n (pc := 4) dX4_expect_4 rfl rfl ?_
  refine a_icmp_ne (pc := 5) (tgt := 15) dX4_expect_5 (by decide) (fun c5 => ?_) (fun c5 => ?_)
  · have e : (if tk = x then (stK c k, fk (stK c k), ft) else (k, (-2 : Int32), rfF fp k ft)) = (k, (-2 : Int32), rfF fp k ft) := if_neg c5
    refine a_aload_n (pc := 15) dX4_expect_15 rfl rfl ?_
    refine a_callV (pc := 16) km_X4_72 dX4_expect_16 (f_refuse d hk) rfl rfl (krecv_of (by rfl) RH_r) (rok_of hM (by decide) (by decide) (by omega) (by omega)) (Nat.le_of_ble_eq_true rfl) (fun r16 h16 hp16 => ?_)
    obtain ⟨rfl, rfl⟩ := hp16
    refine a_ret_v (pc := 19) hM rfl dX4_expect_19 (by omega) (by omega) ?_
    exact ⟨rfl, by unfold exR; rw [e]⟩
  · have e : (if tk = x then (stK c k, fk (stK c k), ft) else (k, (-2 : Int32), rfF fp k ft)) = (stK c k, fk (stK c k), ft) := if_pos c5
    refine a_aload_n (pc := 8) dX4_expect_8 rfl rfl ?_
    refine a_callV (pc := 9) km_X4_69 dX4_expect_9 (f_step d hk) rfl rfl (krecv_of (by rfl) RH_r) (rok_of hM (by decide) (by decide) (by omega) (by omega)) (Nat.le_of_ble_eq_true rfl) (fun r9 h9 hp9 => ?_)
    obtain ⟨rfl, rfl⟩ := hp9
    refine a_goto (pc := 12) (tgt := 19) dX4_expect_12 (by decide) ?_
    refine a_ret_v (pc := 19) hM rfl dX4_expect_19 (by omega) (by omega) ?_
    exact ⟨rfl, by unfold exR; rw [e]⟩

def lvI (x : Int32) : Int32 := if x = nI 9 then nI 0 else if x = nI 10 then nI 1 else if x = nI 60 ∨ x = nI 61 then nI 2 else if x = nI 43 ∨ x = nI 45 then nI 3 else if x = nI 42 then nI 4 else -1
set_option maxRecDepth 4000 in
theorem f_levelOf (x : Int32) : Fn X 0 0 0 yX4_levelOf cX4_levelOf 1 (some .int) [.int x] h (fun rv hv => rv = some (.int (lvI x)) ∧ hv = h) := by
  refine fn_of (by decide) (Nat.le_of_ble_eq_true rfl) (fun M hM => ?_)
  refine a_iload_n (pc := 0) dX4_levelOf_0 rfl rfl ?_
  by_cases h9 : x = nI 9
  · subst h9
    refine a_look (pc := 1) (off := 67) (tgt := 68) dX4_levelOf_1 (by decide) (by decide) (by decide) ?_
    refine a_iconst (pc := 68) dX4_levelOf_68 ic_0 ?_
    refine a_ret_i (pc := 69) hM rfl (rfl) dX4_levelOf_69 (by omega) (by omega) ?_
    exact ⟨by decide +kernel, rfl⟩
  · skip
    by_cases h10 : x = nI 10
    · subst h10
      refine a_look (pc := 1) (off := 69) (tgt := 70) dX4_levelOf_1 (by decide) (by decide) (by decide) ?_
      refine a_iconst (pc := 70) dX4_levelOf_70 ic_1 ?_
      refine a_ret_i (pc := 71) hM rfl (rfl) dX4_levelOf_71 (by omega) (by omega) ?_
      exact ⟨by decide +kernel, rfl⟩
    · skip
      by_cases h42 : x = nI 42
      · subst h42
        refine a_look (pc := 1) (off := 75) (tgt := 76) dX4_levelOf_1 (by decide) (by decide) (by decide) ?_
        refine a_iconst (pc := 76) dX4_levelOf_76 ic_4 ?_
        refine a_ret_i (pc := 77) hM rfl (rfl) dX4_levelOf_77 (by omega) (by omega) ?_
        exact ⟨by decide +kernel, rfl⟩
      · skip
        by_cases h43 : x = nI 43
        · subst h43
          refine a_look (pc := 1) (off := 73) (tgt := 74) dX4_levelOf_1 (by decide) (by decide) (by decide) ?_
          refine a_iconst (pc := 74) dX4_levelOf_74 ic_3 ?_
          refine a_ret_i (pc := 75) hM rfl (rfl) dX4_levelOf_75 (by omega) (by omega) ?_
          exact ⟨by decide +kernel, rfl⟩
        · skip
          by_cases h45 : x = nI 45
          · subst h45
            refine a_look (pc := 1) (off := 73) (tgt := 74) dX4_levelOf_1 (by decide) (by decide) (by decide) ?_
            refine a_iconst (pc := 74) dX4_levelOf_74 ic_3 ?_
            refine a_ret_i (pc := 75) hM rfl (rfl) dX4_levelOf_75 (by omega) (by omega) ?_
            exact ⟨by decide +kernel, rfl⟩
          · skip
            by_cases h60 : x = nI 60
            · subst h60
              refine a_look (pc := 1) (off := 71) (tgt := 72) dX4_levelOf_1 (by decide) (by decide) (by decide) ?_
              refine a_iconst (pc := 72) dX4_levelOf_72 ic_2 ?_
              refine a_ret_i (pc := 73) hM rfl (rfl) dX4_levelOf_73 (by omega) (by omega) ?_
              exact ⟨by decide +kernel, rfl⟩
            · skip
              by_cases h61 : x = nI 61
              · subst h61
                refine a_look (pc := 1) (off := 71) (tgt := 72) dX4_levelOf_1 (by decide) (by decide) (by decide) ?_
                refine a_iconst (pc := 72) dX4_levelOf_72 ic_2 ?_
                refine a_ret_i (pc := 73) hM rfl (rfl) dX4_levelOf_73 (by omega) (by omega) ?_
                exact ⟨by decide +kernel, rfl⟩
              · skip
                refine a_look (pc := 1) (off := 77) (tgt := 78) dX4_levelOf_1 (by decide) (by rw [lv_osw h9 (by decide)]; rw [lv_osw h10 (by decide)]; rw [lv_osw h42 (by decide)]; rw [lv_osw h43 (by decide)]; rw [lv_osw h45 (by decide)]; rw [lv_osw h60 (by decide)]; rw [lv_osw h61 (by decide)]; rfl) (by decide) ?_
                refine a_iconst (pc := 78) dX4_levelOf_78 ic_m1 ?_
                refine a_ret_i (pc := 79) hM rfl (rfl) dX4_levelOf_79 (by omega) (by omega) ?_
                exact ⟨by rw [lvI, if_neg h9, if_neg h10, if_neg (fun q => q.elim h60 h61), if_neg (fun q => q.elim h43 h45), if_neg h42], rfl⟩

/-- a token of the tape's -/
def wtP (p : PS) : Prop := pTk p ≤ 4 ∧ (pTk p = 3 → ∃ x, isP x = true ∧ pW p = x.toInt64)
theorem wt_next {b : Nat → Int32} {Z : Nat} (p : PS) : wtP (nextF b Z p) := by
  unfold nextF
  generalize skF b (Z - pHr p) (pHr p) = n
  unfold tokF
  split
  · exact ⟨Nat.zero_le _, fun z => absurd z (show (0 : Nat) ≠ 3 by decide)⟩
  · split
    · exact ⟨show (1 : Nat) ≤ 4 by decide, fun z => absurd z (show (1 : Nat) ≠ 3 by decide)⟩
    · split
      · refine ⟨by show (if _ then 4 else 2) ≤ 4; split <;> decide, fun z => ?_⟩
        have z : (if 4 < (diF b (Z - n) n (lN 0) 0).2.2 then 4 else 2) = 3 := z
        split at z <;> omega
      · split
        · rename_i h
          exact ⟨show (3 : Nat) ≤ 4 by decide, fun _ => ⟨b n, h, rfl⟩⟩
        · exact ⟨show (4 : Nat) ≤ 4 by decide, fun z => absurd z (show (4 : Nat) ≠ 3 by decide)⟩
/-- the token as the class has it -/
def tkOf (p : PS) : Int32 := if pBad p = true then -2 else kdOf p
theorem kdW_r (x : Int64) : kdW x = -2 ∨ ∃ w, w < 12 ∧ kdW x = nI w := by
  by_cases h0 : x = lN 164584
  · exact Or.inr ⟨0, by decide, by rw [kdW, if_pos h0]⟩
  by_cases h1 : x = lN 13703
  · exact Or.inr ⟨1, by decide, by rw [kdW, if_neg h0, if_pos h1]⟩
  by_cases h2 : x = lN 1065
  · exact Or.inr ⟨2, by decide, by rw [kdW, if_neg h0, if_neg h1, if_pos h2]⟩
  by_cases h3 : x = lN 6476752
  · exact Or.inr ⟨3, by decide, by rw [kdW, if_neg h0, if_neg h1, if_neg h2, if_pos h3]⟩
  by_cases h4 : x = lN 2968
  · exact Or.inr ⟨4, by decide, by rw [kdW, if_neg h0, if_neg h1, if_neg h2, if_neg h3, if_pos h4]⟩
  by_cases h5 : x = lN 279875
  · exact Or.inr ⟨5, by decide, by rw [kdW, if_neg h0, if_neg h1, if_neg h2, if_neg h3, if_neg h4, if_pos h5]⟩
  by_cases h6 : x = lN 388978
  · exact Or.inr ⟨6, by decide, by rw [kdW, if_neg h0, if_neg h1, if_neg h2, if_neg h3, if_neg h4, if_neg h5, if_pos h6]⟩
  by_cases h7 : x = lN 220309
  · exact Or.inr ⟨7, by decide, by rw [kdW, if_neg h0, if_neg h1, if_neg h2, if_neg h3, if_neg h4, if_neg h5, if_neg h6, if_pos h7]⟩
  by_cases h8 : x = lN 13903
  · exact Or.inr ⟨8, by decide, by rw [kdW, if_neg h0, if_neg h1, if_neg h2, if_neg h3, if_neg h4, if_neg h5, if_neg h6, if_neg h7, if_pos h8]⟩
  by_cases h9 : x = lN 423
  · exact Or.inr ⟨9, by decide, by rw [kdW, if_neg h0, if_neg h1, if_neg h2, if_neg h3, if_neg h4, if_neg h5, if_neg h6, if_neg h7, if_neg h8, if_pos h9]⟩
  by_cases h10 : x = lN 1111
  · exact Or.inr ⟨10, by decide, by rw [kdW, if_neg h0, if_neg h1, if_neg h2, if_neg h3, if_neg h4, if_neg h5, if_neg h6, if_neg h7, if_neg h8, if_neg h9, if_pos h10]⟩
  by_cases h11 : x = lN 10631
  · exact Or.inr ⟨11, by decide, by rw [kdW, if_neg h0, if_neg h1, if_neg h2, if_neg h3, if_neg h4, if_neg h5, if_neg h6, if_neg h7, if_neg h8, if_neg h9, if_neg h10, if_pos h11]⟩
  exact Or.inl (by rw [kdW, if_neg h0, if_neg h1, if_neg h2, if_neg h3, if_neg h4, if_neg h5, if_neg h6, if_neg h7, if_neg h8, if_neg h9, if_neg h10, if_neg h11])
theorem nI_ne {a b : Nat} (ha : a < 2147483648) (hb : b < 2147483648) (h : a ≠ b) : nI a ≠ nI b := fun e => by
  have h1 : (nI a).toInt = (nI b).toInt := by rw [e]
  rw [nI_toInt ha, nI_toInt hb] at h1
  omega
theorem nI_nm {a : Nat} (ha : a < 2147483648) {m : Int32} (hm : m.toInt < 0) : nI a ≠ m := fun e => by
  have h1 : (nI a).toInt = m.toInt := by rw [e]
  rw [nI_toInt ha] at h1
  omega
theorem isP_v {x : Int32} (h : isP x = true) : ∃ c, 40 ≤ c ∧ c ≤ 61 ∧ x = nI c := by
  obtain ⟨c, h1, h2, h3⟩ := inR_of (isP_in h) (by decide)
  exact ⟨c, h1, h2, h3⟩
theorem tk_S {p : PS} (hw : wtP p) {c : Nat} (hc : 40 ≤ c ∧ c ≤ 61) : (tkOf p = nI c ↔ isS p c = true) := by
  unfold tkOf isS kdOf
  cases hb : pBad p with
  | true =>
    rw [if_pos rfl]
    exact ⟨fun e => absurd e.symm (nI_nm (by omega) (by decide)), fun e => by simp at e⟩
  | false =>
    rw [if_neg (by decide)]
    simp only [Bool.not_false, Bool.true_and, Bool.and_eq_true, decide_eq_true_eq]
    have h4 := hw.1
    rcases (by omega : pTk p = 0 ∨ pTk p = 1 ∨ pTk p = 2 ∨ pTk p = 3 ∨ pTk p = 4) with k | k | k | k | k
    · rw [if_pos k]
      exact ⟨fun e => absurd e.symm (nI_nm (by omega) (by decide)), fun e => by omega⟩
    · rw [if_neg (by omega), if_pos k]
      refine ⟨fun e => ?_, fun e => by omega⟩
      rcases kdW_r (pW p) with q | ⟨w, q1, q2⟩
      · rw [q] at e; exact absurd e.symm (nI_nm (by omega) (by decide))
      · rw [q2] at e; exact absurd e (nI_ne (by omega) (by omega) (by omega))
    · rw [if_neg (by omega), if_neg (by omega), if_pos k]
      exact ⟨fun e => absurd e (nI_ne (by omega) (by omega) (by omega)), fun e => by omega⟩
    · rw [if_neg (by omega), if_neg (by omega), if_neg (by omega), if_pos k]
      obtain ⟨x, hx, e⟩ := hw.2 k
      obtain ⟨j, j1, j2, rfl⟩ := isP_v hx
      rw [e, Int32.toInt32_toInt64, nI_l (by omega)]
      exact ⟨fun q => ⟨k, by
        by_cases z : j = c
        · rw [z]
        · exact absurd q (nI_ne (by omega) (by omega) z)⟩, fun q => by rw [lN_inj (by omega) (by omega) q.2]⟩
    · rw [if_neg (by omega), if_neg (by omega), if_neg (by omega), if_neg (by omega)]
      exact ⟨fun e => absurd e.symm (nI_nm (by omega) (by decide)), fun e => by omega⟩
def wV (w : Nat) : Nat := vaL (rlN (gwN (w + 1)) (sL (w + 1)))
theorem kdW_is : ∀ w, w < 12 → kdW (lN (wV w)) = nI w := by decide +kernel
theorem kdW_iff {x : Int64} {w : Nat} (hw : w < 12) : kdW x = nI w ↔ x = lN (wV w) := by
  constructor
  · intro e
    have v : ∀ v, v < 12 → kdW (lN (wV v)) = nI w → lN (wV v) = lN (wV w) := fun v hv q => by
      rw [kdW_is v hv] at q
      by_cases z : v = w
      · rw [z]
      · exact absurd q (nI_ne (by omega) (by omega) z)
    by_cases h : ∃ v, v < 12 ∧ x = lN (wV v)
    · obtain ⟨u, hu, rfl⟩ := h
      exact v u hu e
    · exfalso
      have hn : ∀ v, v < 12 → ¬ x = lN (wV v) := fun v hv q => h ⟨v, hv, q⟩
      have e2 : kdW x = -2 := by
        unfold kdW
        rw [if_neg (show ¬ x = lN 164584 from hn 0 (by decide)), if_neg (show ¬ x = lN 13703 from hn 1 (by decide)), if_neg (show ¬ x = lN 1065 from hn 2 (by decide)), if_neg (show ¬ x = lN 6476752 from hn 3 (by decide)), if_neg (show ¬ x = lN 2968 from hn 4 (by decide)), if_neg (show ¬ x = lN 279875 from hn 5 (by decide)), if_neg (show ¬ x = lN 388978 from hn 6 (by decide)), if_neg (show ¬ x = lN 220309 from hn 7 (by decide)), if_neg (show ¬ x = lN 13903 from hn 8 (by decide)), if_neg (show ¬ x = lN 423 from hn 9 (by decide)), if_neg (show ¬ x = lN 1111 from hn 10 (by decide)), if_neg (show ¬ x = lN 10631 from hn 11 (by decide))]
      rw [e2] at e
      exact absurd e.symm (nI_nm (by omega) (by decide))
  · intro e
    rw [e, kdW_is w hw]
theorem tk_W {p : PS} (hw : wtP p) {w : Nat} (hw12 : w < 12) : (tkOf p = nI w ↔ isW p (lN (wV w)) = true) := by
  unfold tkOf isW kdOf
  cases hb : pBad p with
  | true =>
    rw [if_pos rfl]
    exact ⟨fun e => absurd e.symm (nI_nm (by omega) (by decide)), fun e => by simp at e⟩
  | false =>
    rw [if_neg (by decide)]
    simp only [Bool.not_false, Bool.true_and, Bool.and_eq_true, decide_eq_true_eq]
    have h4 := hw.1
    rcases (by omega : pTk p = 0 ∨ pTk p = 1 ∨ pTk p = 2 ∨ pTk p = 3 ∨ pTk p = 4) with k | k | k | k | k
    · rw [if_pos k]
      exact ⟨fun e => absurd e.symm (nI_nm (by omega) (by decide)), fun e => by omega⟩
    · rw [if_neg (by omega), if_pos k]
      exact ⟨fun e => ⟨k, (kdW_iff hw12).mp e⟩, fun e => (kdW_iff hw12).mpr e.2⟩
    · rw [if_neg (by omega), if_neg (by omega), if_pos k]
      exact ⟨fun e => absurd e (nI_ne (by omega) (by omega) (by omega)), fun e => by omega⟩
    · rw [if_neg (by omega), if_neg (by omega), if_neg (by omega), if_pos k]
      obtain ⟨x, hx, e⟩ := hw.2 k
      obtain ⟨j, j1, j2, rfl⟩ := isP_v hx
      rw [e, Int32.toInt32_toInt64]
      exact ⟨fun q => absurd q (nI_ne (by omega) (by omega) (by omega)), fun q => by omega⟩
    · rw [if_neg (by omega), if_neg (by omega), if_neg (by omega), if_neg (by omega)]
      exact ⟨fun e => absurd e.symm (nI_nm (by omega) (by decide)), fun e => by omega⟩
theorem tk_N {p : PS} (hw : wtP p) : (tkOf p = nI 12 ↔ pBad p = false ∧ pTk p = 2) := by
  unfold tkOf kdOf
  cases hb : pBad p with
  | true =>
    rw [if_pos rfl]
    exact ⟨fun e => absurd e.symm (nI_nm (by omega) (by decide)), fun e => by simp at e⟩
  | false =>
    rw [if_neg (by decide)]
    have h4 := hw.1
    rcases (by omega : pTk p = 0 ∨ pTk p = 1 ∨ pTk p = 2 ∨ pTk p = 3 ∨ pTk p = 4) with k | k | k | k | k
    · rw [if_pos k]
      exact ⟨fun e => absurd e.symm (nI_nm (by omega) (by decide)), fun e => by omega⟩
    · rw [if_neg (by omega), if_pos k]
      refine ⟨fun e => ?_, fun e => by omega⟩
      rcases kdW_r (pW p) with q | ⟨w, q1, q2⟩
      · rw [q] at e; exact absurd e.symm (nI_nm (by omega) (by decide))
      · rw [q2] at e; exact absurd e (nI_ne (by omega) (by omega) (by omega))
    · rw [if_neg (by omega), if_neg (by omega), if_pos k]
      exact ⟨fun e => ⟨rfl, k⟩, fun e => rfl⟩
    · rw [if_neg (by omega), if_neg (by omega), if_neg (by omega), if_pos k]
      obtain ⟨x, hx, e⟩ := hw.2 k
      obtain ⟨j, j1, j2, rfl⟩ := isP_v hx
      rw [e, Int32.toInt32_toInt64]
      exact ⟨fun q => absurd q (nI_ne (by omega) (by omega) (by omega)), fun q => by omega⟩
    · rw [if_neg (by omega), if_neg (by omega), if_neg (by omega), if_neg (by omega)]
      exact ⟨fun e => absurd e.symm (nI_nm (by omega) (by decide)), fun e => by omega⟩
theorem tk_E {p : PS} (hw : wtP p) : (tkOf p = -1 ↔ pBad p = false ∧ pTk p = 0) := by
  unfold tkOf kdOf
  cases hb : pBad p with
  | true =>
    rw [if_pos rfl]
    exact ⟨fun e => absurd e (by decide), fun e => by simp at e⟩
  | false =>
    rw [if_neg (by decide)]
    have h4 := hw.1
    rcases (by omega : pTk p = 0 ∨ pTk p = 1 ∨ pTk p = 2 ∨ pTk p = 3 ∨ pTk p = 4) with k | k | k | k | k
    · rw [if_pos k]
      exact ⟨fun e => ⟨rfl, k⟩, fun e => rfl⟩
    · rw [if_neg (by omega), if_pos k]
      refine ⟨fun e => ?_, fun e => by omega⟩
      rcases kdW_r (pW p) with q | ⟨w, q1, q2⟩
      · rw [q] at e; exact absurd e (by decide)
      · rw [q2] at e; exact absurd e (nI_nm (by omega) (by decide))
    · rw [if_neg (by omega), if_neg (by omega), if_pos k]
      exact ⟨fun e => absurd e (nI_nm (by omega) (by decide)), fun e => by omega⟩
    · rw [if_neg (by omega), if_neg (by omega), if_neg (by omega), if_pos k]
      obtain ⟨x, hx, e⟩ := hw.2 k
      obtain ⟨j, j1, j2, rfl⟩ := isP_v hx
      rw [e, Int32.toInt32_toInt64]
      exact ⟨fun q => absurd q (nI_nm (by omega) (by decide)), fun q => by omega⟩
    · rw [if_neg (by omega), if_neg (by omega), if_neg (by omega), if_neg (by omega)]
      exact ⟨fun e => absurd e (by decide), fun e => by omega⟩
end CRD

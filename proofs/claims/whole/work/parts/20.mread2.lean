/-! THE READER: opens, names -/
section MQ1
variable {X : KX} {m : Nat → Nat} {s : MST} {h0 : AH}
def opensF (b : Nat → Int32) (Z : Nat) (p : PS) : PS := if pOp p = 5 then failP p else nextF b Z (uOp p (pOp p + 1))
def nameF (p : PS) : Nat := if isW p (lN 164584) = true then 41 else if isW p (lN 13703) = true then 42 else if isW p (lN 1065) = true then 43 else if isW p (lN 6476752) = true then 44 else if isW p (lN 2968) = true then 45 else if isW p (lN 279875) = true then 46 else 0
set_option maxRecDepth 4000 in
theorem f_opens (hm : MI m) (p : PS) {F Z : Nat} (h32 : s.1 32 = nI F) (h33 : s.1 33 = nI Z) (hF : F ≤ 800) (hZ : Z ≤ 160) (hh : pHr p ≤ Z) (ho : pOp p ≤ 5) : Fn X 2 0 0 yX12_opens cX12_opens 1 (some .boolean) [.ref (m 65)] (mh m (pst s p) h0) (fun rv hv => rv = some (.int (bI (decide (pOp p ≠ 5)))) ∧ hv = mh m (pst s (opensF (byP s F Z) Z p)) h0) := by
  refine fn_of (by decide) (Nat.le_of_ble_eq_true rfl) (fun M hM => ?_)
  refine a_aload_n (pc := 0) dX12_opens_0 rfl rfl ?_
  refine a_getfield (pc := 1) kg_X12_285 dX12_opens_1 (m_obj hm) rfl ?_
  refine a_topi ((show _ = nI (pOp p) from rfl)) ?_
  refine a_iconst (pc := 4) dX12_opens_4 ic_5 ?_
  refine a_icmp_neN (pc := 5) (tgt := 14) dX12_opens_5 (by decide) (by omega) (by omega) (fun c5 => ?_) (fun c5 => ?_)
  · refine a_aload_n (pc := 14) dX12_opens_14 rfl rfl ?_
    refine a_dup (pc := 15) dX12_opens_15 rfl ?_
    refine a_getfield (pc := 16) kg_X12_285 dX12_opens_16 (m_obj hm) rfl ?_
    refine a_topi ((show _ = nI (pOp p) from rfl)) ?_
    refine a_iconst (pc := 19) dX12_opens_19 ic_1 ?_
    refine a_iaddN (pc := 20) dX12_opens_20 ?_
    refine a_putfield (pc := 21) kf_X12_285 dX12_opens_21 (m_obj hm) (rfl) (by rfl) (Nat.le_of_ble_eq_true rfl) ?_
    refine a_hp (m_p38 hm) ?_
    refine a_hp (show _ = mh m (pst s (uOp p (pOp p + 1))) h0 from congrArg (fun t => mh m t h0) (pst_38 (v := pOp p + 1))) ?_
    refine a_aload_n (pc := 24) dX12_opens_24 rfl rfl ?_
    refine a_callV (pc := 25) km_X12_291 dX12_opens_25 (f_next hm (uOp p (pOp p + 1)) h32 h33 hF hZ hh) rfl rfl (krecv_of (ci := 12) rfl (m_obj hm)) (rok_of hM (by decide) (by decide) (by omega) (by omega)) (Nat.le_of_ble_eq_true rfl) (fun r25 h25 hp25 => ?_)
    obtain ⟨rfl, rfl⟩ := hp25
    refine a_iconst (pc := 28) dX12_opens_28 ic_1 ?_
    refine a_ret_i (pc := 29) hM rfl (by decide +kernel) dX12_opens_29 (by omega) (by omega) ?_
    exact ⟨by rw [decide_eq_true c5]; rfl, by rw [opensF, if_neg c5]⟩
  · refine a_aload_n (pc := 8) dX12_opens_8 rfl rfl ?_
    refine a_callV (pc := 9) km_X12_288 dX12_opens_9 (f_fail hm p) rfl rfl (krecv_of (ci := 12) rfl (m_obj hm)) (rok_of hM (by decide) (by decide) (by omega) (by omega)) (Nat.le_of_ble_eq_true rfl) (fun r9 h9 hp9 => ?_)
    obtain ⟨rfl, rfl⟩ := hp9
    refine a_iconst (pc := 12) dX12_opens_12 ic_0 ?_
    refine a_ret_i (pc := 13) hM rfl (by decide +kernel) dX12_opens_13 (by omega) (by omega) ?_
    exact ⟨by rw [decide_eq_false (fun z => z c5)]; rfl, by rw [opensF, if_pos c5]⟩

set_option maxRecDepth 4000 in
theorem f_name (hm : MI m) (p : PS) (hk : pTk p ≤ 4) : Fn X 1 0 0 yX12_name cX12_name 1 (some .int) [.ref (m 65)] (mh m (pst s p) h0) (fun rv hv => rv = some (.int (if nameF p = 0 then nI 0 else s.1 (nameF p))) ∧ hv = mh m (pst s (if nameF p = 0 then failP p else p)) h0) := by
  refine fn_of (by decide) (Nat.le_of_ble_eq_true rfl) (fun M hM => ?_)
  refine a_aload_n (pc := 0) dX12_name_0 rfl rfl ?_
  refine a_ldc2 (pc := 1) kc_X12_294 dX12_name_1 ?_
  refine a_topl (z := lN 164584) rfl ?_
  refine a_callV (pc := 4) km_X12_296 dX12_name_4 (f_isWord hm p hk (lN 164584)) rfl rfl (krecv_of (ci := 12) rfl (m_obj hm)) (rok_of hM (by decide) (by decide) (by omega) (by omega)) (Nat.le_of_ble_eq_true rfl) (fun r4 h4 hp4 => ?_)
  obtain ⟨rfl, rfl⟩ := hp4
  refine a_if_eqB (pc := 7) (tgt := 15) dX12_name_7 (by decide) (fun c7 => ?_) (fun c7 => ?_)
  · refine a_aload_n (pc := 15) dX12_name_15 rfl rfl ?_
    refine a_ldc2 (pc := 16) kc_X12_303 dX12_name_16 ?_
    refine a_topl (z := lN 13703) rfl ?_
    refine a_callV (pc := 19) km_X12_296 dX12_name_19 (f_isWord hm p hk (lN 13703)) rfl rfl (krecv_of (ci := 12) rfl (m_obj hm)) (rok_of hM (by decide) (by decide) (by omega) (by omega)) (Nat.le_of_ble_eq_true rfl) (fun r19 h19 hp19 => ?_)
    obtain ⟨rfl, rfl⟩ := hp19
    refine a_if_eqB (pc := 22) (tgt := 30) dX12_name_22 (by decide) (fun c22 => ?_) (fun c22 => ?_)
    · refine a_aload_n (pc := 30) dX12_name_30 rfl rfl ?_
      refine a_ldc2 (pc := 31) kc_X12_308 dX12_name_31 ?_
      refine a_topl (z := lN 1065) rfl ?_
      refine a_callV (pc := 34) km_X12_296 dX12_name_34 (f_isWord hm p hk (lN 1065)) rfl rfl (krecv_of (ci := 12) rfl (m_obj hm)) (rok_of hM (by decide) (by decide) (by omega) (by omega)) (Nat.le_of_ble_eq_true rfl) (fun r34 h34 hp34 => ?_)
      obtain ⟨rfl, rfl⟩ := hp34
      refine a_if_eqB (pc := 37) (tgt := 45) dX12_name_37 (by decide) (fun c37 => ?_) (fun c37 => ?_)
      · refine a_aload_n (pc := 45) dX12_name_45 rfl rfl ?_
        refine a_ldc2 (pc := 46) kc_X12_313 dX12_name_46 ?_
        refine a_topl (z := lN 6476752) rfl ?_
        refine a_callV (pc := 49) km_X12_296 dX12_name_49 (f_isWord hm p hk (lN 6476752)) rfl rfl (krecv_of (ci := 12) rfl (m_obj hm)) (rok_of hM (by decide) (by decide) (by omega) (by omega)) (Nat.le_of_ble_eq_true rfl) (fun r49 h49 hp49 => ?_)
        obtain ⟨rfl, rfl⟩ := hp49
        refine a_if_eqB (pc := 52) (tgt := 60) dX12_name_52 (by decide) (fun c52 => ?_) (fun c52 => ?_)
        · refine a_aload_n (pc := 60) dX12_name_60 rfl rfl ?_
          refine a_ldc2 (pc := 61) kc_X12_318 dX12_name_61 ?_
          refine a_topl (z := lN 2968) rfl ?_
          refine a_callV (pc := 64) km_X12_296 dX12_name_64 (f_isWord hm p hk (lN 2968)) rfl rfl (krecv_of (ci := 12) rfl (m_obj hm)) (rok_of hM (by decide) (by decide) (by omega) (by omega)) (Nat.le_of_ble_eq_true rfl) (fun r64 h64 hp64 => ?_)
          obtain ⟨rfl, rfl⟩ := hp64
          refine a_if_eqB (pc := 67) (tgt := 75) dX12_name_67 (by decide) (fun c67 => ?_) (fun c67 => ?_)
          · refine a_aload_n (pc := 75) dX12_name_75 rfl rfl ?_
            refine a_ldc2 (pc := 76) kc_X12_323 dX12_name_76 ?_
            refine a_topl (z := lN 279875) rfl ?_
            refine a_callV (pc := 79) km_X12_296 dX12_name_79 (f_isWord hm p hk (lN 279875)) rfl rfl (krecv_of (ci := 12) rfl (m_obj hm)) (rok_of hM (by decide) (by decide) (by omega) (by omega)) (Nat.le_of_ble_eq_true rfl) (fun r79 h79 hp79 => ?_)
            obtain ⟨rfl, rfl⟩ := hp79
            refine a_if_eqB (pc := 82) (tgt := 90) dX12_name_82 (by decide) (fun c82 => ?_) (fun c82 => ?_)
            · have e : nameF p = 0 := by unfold nameF; rw [if_neg (by rw [c7]; decide), if_neg (by rw [c22]; decide), if_neg (by rw [c37]; decide), if_neg (by rw [c52]; decide), if_neg (by rw [c67]; decide), if_neg (by rw [c82]; decide)]
              refine a_aload_n (pc := 90) dX12_name_90 rfl rfl ?_
              refine a_callV (pc := 91) km_X12_288 dX12_name_91 (f_fail hm p) rfl rfl (krecv_of (ci := 12) rfl (m_obj hm)) (rok_of hM (by decide) (by decide) (by omega) (by omega)) (Nat.le_of_ble_eq_true rfl) (fun r91 h91 hp91 => ?_)
              obtain ⟨rfl, rfl⟩ := hp91
              refine a_iconst (pc := 94) dX12_name_94 ic_0 ?_
              refine a_ret_i (pc := 95) hM rfl (rfl) dX12_name_95 (by omega) (by omega) ?_
              exact ⟨by rw [e]; rfl, by rw [e]; rfl⟩
            · have e : nameF p = 46 := by unfold nameF; rw [if_neg (by rw [c7]; decide), if_neg (by rw [c22]; decide), if_neg (by rw [c37]; decide), if_neg (by rw [c52]; decide), if_neg (by rw [c67]; decide), if_pos c82]
              refine a_aload_n (pc := 85) dX12_name_85 rfl rfl ?_
              refine a_getfield (pc := 86) kg_X12_325 dX12_name_86 (m_obj hm) rfl ?_
              refine a_ret_i (pc := 89) hM rfl (rfl) dX12_name_89 (by omega) (by omega) ?_
              exact ⟨by rw [e]; rfl, by rw [e]; rfl⟩
          · have e : nameF p = 45 := by unfold nameF; rw [if_neg (by rw [c7]; decide), if_neg (by rw [c22]; decide), if_neg (by rw [c37]; decide), if_neg (by rw [c52]; decide), if_pos c67]
            refine a_aload_n (pc := 70) dX12_name_70 rfl rfl ?_
            refine a_getfield (pc := 71) kg_X12_320 dX12_name_71 (m_obj hm) rfl ?_
            refine a_ret_i (pc := 74) hM rfl (rfl) dX12_name_74 (by omega) (by omega) ?_
            exact ⟨by rw [e]; rfl, by rw [e]; rfl⟩
        · have e : nameF p = 44 := by unfold nameF; rw [if_neg (by rw [c7]; decide), if_neg (by rw [c22]; decide), if_neg (by rw [c37]; decide), if_pos c52]
          refine a_aload_n (pc := 55) dX12_name_55 rfl rfl ?_
          refine a_getfield (pc := 56) kg_X12_315 dX12_name_56 (m_obj hm) rfl ?_
          refine a_ret_i (pc := 59) hM rfl (rfl) dX12_name_59 (by omega) (by omega) ?_
          exact ⟨by rw [e]; rfl, by rw [e]; rfl⟩
      · have e : nameF p = 43 := by unfold nameF; rw [if_neg (by rw [c7]; decide), if_neg (by rw [c22]; decide), if_pos c37]
        refine a_aload_n (pc := 40) dX12_name_40 rfl rfl ?_
        refine a_getfield (pc := 41) kg_X12_310 dX12_name_41 (m_obj hm) rfl ?_
        refine a_ret_i (pc := 44) hM rfl (rfl) dX12_name_44 (by omega) (by omega) ?_
        exact ⟨by rw [e]; rfl, by rw [e]; rfl⟩
    · have e : nameF p = 42 := by unfold nameF; rw [if_neg (by rw [c7]; decide), if_pos c22]
      refine a_aload_n (pc := 25) dX12_name_25 rfl rfl ?_
      refine a_getfield (pc := 26) kg_X12_305 dX12_name_26 (m_obj hm) rfl ?_
      refine a_ret_i (pc := 29) hM rfl (rfl) dX12_name_29 (by omega) (by omega) ?_
      exact ⟨by rw [e]; rfl, by rw [e]; rfl⟩
  · have e : nameF p = 41 := by unfold nameF; rw [if_pos c7]
    refine a_aload_n (pc := 10) dX12_name_10 rfl rfl ?_
    refine a_getfield (pc := 11) kg_X12_300 dX12_name_11 (m_obj hm) rfl ?_
    refine a_ret_i (pc := 14) hM rfl (rfl) dX12_name_14 (by omega) (by omega) ?_
    exact ⟨by rw [e]; rfl, by rw [e]; rfl⟩

end MQ1

/-! RUNS OF THE CLASS: changing them -/
section CRM
variable {X : KX} {h : AH}
set_option maxRecDepth 4000 in
theorem f_cmix {r n sd : Nat} {f0 : Nat → Int32} (hr : h r = some (kI n f0)) (hn1 : 1 ≤ n) (hn : n ≤ 25) (hsd : sd ≤ 1000000) : Fn X 0 0 0 yX5_mix cX5_mix 7 none [.ref r, .int (nI sd)] h (fun rv hv => rv = none ∧ hv = (kput h r (kI n (mixO 0 f0 (n - 1) (sd + 1))))) := by
  refine fn_of (by decide) (Nat.le_of_ble_eq_true rfl) (fun M hM => ?_)
  have lp : ∀ (i : Nat) (f : Nat → Int32) (lot : Nat), i < n → lot < 2147483648 → mixO 0 f0 (n - 1) (sd + 1) = mixO 0 f i lot → AJ X M yX5_mix cX5_mix 7 none 11 [(0, .ref r), (2, .long (lN lot)), (4, .int (nI i))] [] (kput h r (kI n f)) 0 0 := by
    intro i
    induction i with
    | zero =>
      intro f lot hi hlot hs
      refine a_iload (pc := 11) dX5_mix_11 rfl ?_
      refine a_if_leN (pc := 13) (tgt := 62) dX5_mix_13 (by decide) (by omega) (fun c13 => ?_) (fun c13 => ?_)
      · refine a_ret_v (pc := 62) hM rfl dX5_mix_62 (by omega) (by omega) ?_
        exact ⟨rfl, by rw [hs, mixO_0]⟩
      · exact absurd c13 (by omega)
    | succ i ih =>
      intro f lot hi hlot hs
      refine a_iload (pc := 11) dX5_mix_11 rfl ?_
      refine a_if_leN (pc := 13) (tgt := 62) dX5_mix_13 (by decide) (by omega) (fun c13 => ?_) (fun c13 => ?_)
      · exact absurd c13 (by omega)
      · have hl2 : lot * 48271 % 2147483647 < 2147483647 := Nat.mod_lt _ (by omega)
        have ho : lot * 48271 % 2147483647 % (i + 1 + 1) < i + 1 + 1 := Nat.mod_lt _ (by omega)
        refine a_lload_n (pc := 16) dX5_mix_16 rfl rfl ?_
        refine a_ldc2 (pc := 17) kc_X5_91 dX5_mix_17 ?_
        refine a_topl (z := lN 48271) rfl ?_
        refine a_lmulN (pc := 20) dX5_mix_20 ?_
        refine a_ldc2 (pc := 21) kc_X5_93 dX5_mix_21 ?_
        refine a_topl (z := lN 2147483647) rfl ?_
        refine a_lremN (pc := 24) dX5_mix_24 (by omega) (by omega) (by omega) ?_
        refine a_lstore_n (pc := 25) dX5_mix_25 rfl (by decide) rfl ?_
        refine a_lload_n (pc := 26) dX5_mix_26 rfl rfl ?_
        refine a_iload (pc := 27) dX5_mix_27 rfl ?_
        refine a_iconst (pc := 29) dX5_mix_29 ic_1 ?_
        refine a_iaddN (pc := 30) dX5_mix_30 ?_
        refine a_i2lN (pc := 31) dX5_mix_31 (by omega) ?_
        refine a_lremN (pc := 32) dX5_mix_32 (by omega) (by omega) (by omega) ?_
        refine a_l2iN (pc := 33) dX5_mix_33 ?_
        refine a_istore (pc := 34) dX5_mix_34 (by decide) rfl ?_
        refine a_aload_n (pc := 36) dX5_mix_36 rfl rfl ?_
        refine a_iload (pc := 37) dX5_mix_37 rfl ?_
        refine a_iaload (pc := 39) dX5_mix_39 (kput_eq) (0 + (i + 1)) (by rw [Nat.zero_add]) (by omega) (by omega) ?_
        refine a_istore (pc := 40) dX5_mix_40 (by decide) rfl ?_
        refine a_aload_n (pc := 42) dX5_mix_42 rfl rfl ?_
        refine a_iload (pc := 43) dX5_mix_43 rfl ?_
        refine a_aload_n (pc := 45) dX5_mix_45 rfl rfl ?_
        refine a_iload (pc := 46) dX5_mix_46 rfl ?_
        refine a_iaload (pc := 48) dX5_mix_48 (kput_eq) (0 + lot * 48271 % 2147483647 % (i + 1 + 1)) (by rw [Nat.zero_add]) (by omega) (by omega) ?_
        refine a_iastore (pc := 49) dX5_mix_49 (kput_eq) (0 + (i + 1)) (by rw [Nat.zero_add]) (by omega) (by omega) ?_
        refine a_hp kput_put ?_
        refine a_aload_n (pc := 50) dX5_mix_50 rfl rfl ?_
        refine a_iload (pc := 51) dX5_mix_51 rfl ?_
        refine a_iload (pc := 53) dX5_mix_53 rfl ?_
        refine a_iastore (pc := 55) dX5_mix_55 (kput_eq) (0 + lot * 48271 % 2147483647 % (i + 1 + 1)) (by rw [Nat.zero_add]) (by omega) (by omega) ?_
        refine a_hp kput_put ?_
        refine a_iinc (pc := 56) dX5_mix_56 rfl (pk_m1 _) (by decide) rfl ?_
        refine a_goto (pc := 59) (tgt := 11) dX5_mix_59 (by decide) ?_
        exact a_locR (ih (upd (upd f (0 + (i + 1)) (f (0 + lot * 48271 % 2147483647 % (i + 1 + 1)))) (0 + lot * 48271 % 2147483647 % (i + 1 + 1)) (f (0 + (i + 1)))) (lot * 48271 % 2147483647) (by omega) (by omega) (hs.trans mixO_s)) ⟨rfl, rfl, rfl, trivial⟩
  refine a_iload_n (pc := 0) dX5_mix_0 rfl rfl ?_
  refine a_iconst (pc := 1) dX5_mix_1 ic_1 ?_
  refine a_iaddN (pc := 2) dX5_mix_2 ?_
  refine a_i2lN (pc := 3) dX5_mix_3 (by omega) ?_
  refine a_lstore_n (pc := 4) dX5_mix_4 rfl (by decide) rfl ?_
  refine a_aload_n (pc := 5) dX5_mix_5 rfl rfl ?_
  refine a_alen (pc := 6) (t := 0) rfl dX5_mix_6 (hr) rfl ?_
  refine a_iconst (pc := 7) dX5_mix_7 ic_1 ?_
  refine a_isubN (pc := 8) dX5_mix_8 (by omega) ?_
  refine a_istore (pc := 9) dX5_mix_9 (by decide) rfl ?_
  refine a_hp (kput_self hr).symm ?_
  exact a_locR (lp (n - 1) f0 (sd + 1) (by omega) (by omega) rfl) ⟨rfl, rfl, rfl, trivial⟩

set_option maxRecDepth 4000 in
theorem f_hitsIf {pn gu dy sl pt ks kp : Int32} {a pk cd gs sp lf kc kg n : Nat} {f g : Nat → Int32} (ha : h a = some (rO pn gu dy sl pt ks kp pk cd gs sp lf kc kg)) (hc : h cd = some (kI n f)) (hg : h gs = some (kI n g)) (hn : n ≤ 25) {s0 : Nat → Int32} {sd : Nat} (hs : h sp = some (kI n s0)) (hcs2 : cd ≠ sp) (hgs2 : gs ≠ sp) (hn1 : 1 ≤ n) (hsd : sd ≤ 1000000) : Fn X 1 0 0 yX5_hitsIfShuffled cX5_hitsIfShuffled 2 (some .int) [.ref a, .int (nI sd)] h (fun rv hv => rv = some (.int (nI (cntN (fun i => decide (mixO 0 (va_cpy f s0 0 0 n) (n - 1) (sd + 1) i = g i)) n))) ∧ hv = (kput h sp (kI n (mixO 0 (va_cpy f s0 0 0 n) (n - 1) (sd + 1))))) := by
  have has : a ≠ sp := oi_ne ha hs
  refine fn_of (by decide) (Nat.le_of_ble_eq_true rfl) (fun M hM => ?_)
  refine a_aload_n (pc := 0) dX5_hitsIfShuffled_0 rfl rfl ?_
  refine a_getfield (pc := 1) kg_X5_34 dX5_hitsIfShuffled_1 (ha) rfl ?_
  refine a_iconst (pc := 4) dX5_hitsIfShuffled_4 ic_0 ?_
  refine a_aload_n (pc := 5) dX5_hitsIfShuffled_5 rfl rfl ?_
  refine a_getfield (pc := 6) kg_X5_39 dX5_hitsIfShuffled_6 (ha) rfl ?_
  refine a_iconst (pc := 9) dX5_hitsIfShuffled_9 ic_0 ?_
  refine a_aload_n (pc := 10) dX5_hitsIfShuffled_10 rfl rfl ?_
  refine a_getfield (pc := 11) kg_X5_34 dX5_hitsIfShuffled_11 (ha) rfl ?_
  refine a_alen (pc := 14) (t := 0) rfl dX5_hitsIfShuffled_14 (hc) rfl ?_
  refine a_copyI (pc := 15) kcp_X5_55 dX5_hitsIfShuffled_15 (hc) (hs) rfl rfl rfl (by omega) (by omega) (by omega) (by omega)  (by rw [hM.1]; simp only [rmd]; omega) (by rw [hM.1]; simp [rmd, Value.category] <;> omega) ?_
  refine a_aload_n (pc := 18) dX5_hitsIfShuffled_18 rfl rfl ?_
  refine a_getfield (pc := 19) kg_X5_39 dX5_hitsIfShuffled_19 ((kput_ne has).trans ha) rfl ?_
  refine a_iload_n (pc := 22) dX5_hitsIfShuffled_22 rfl rfl ?_
  refine a_callS (pc := 23) km_X5_87 dX5_hitsIfShuffled_23 (f_cmix (h := (kput h sp (kI n (va_cpy f s0 0 0 n)))) (n := n) (sd := sd) kput_eq hn1 hn hsd) rfl rfl (rok_of hM (by decide) (by decide) (by omega) (by omega)) (Nat.le_of_ble_eq_true rfl) (fun r23 h23 hp23 => ?_)
  obtain ⟨rfl, rfl⟩ := hp23
  refine a_hp kput_put ?_
  refine a_aload_n (pc := 26) dX5_hitsIfShuffled_26 rfl rfl ?_
  refine a_aload_n (pc := 27) dX5_hitsIfShuffled_27 rfl rfl ?_
  refine a_getfield (pc := 28) kg_X5_39 dX5_hitsIfShuffled_28 ((kput_ne has).trans ha) rfl ?_
  refine a_callV (pc := 31) km_X5_51 dX5_hitsIfShuffled_31 (f_hitsAm (h := (kput h sp (kI n (mixO 0 (va_cpy f s0 0 0 n) (n - 1) (sd + 1))))) (cd := cd) ((kput_ne has).trans ha) kput_eq ((kput_ne hgs2).trans hg) hn) rfl rfl (krecv_of (by rfl) ((kput_ne has).trans ha)) (rok_of hM (by decide) (by decide) (by omega) (by omega)) (Nat.le_of_ble_eq_true rfl) (fun r31 h31 hp31 => ?_)
  obtain ⟨rfl, rfl⟩ := hp31
  refine a_ret_i (pc := 34) hM rfl (rfl) dX5_hitsIfShuffled_34 (by omega) (by omega) ?_
  exact ⟨rfl, rfl⟩

set_option maxRecDepth 4000 in
theorem f_ccut {pn gu dy sl pt ks kp : Int32} {a pk cd gs sp lf kc kg n : Nat} {f g : Nat → Int32} (ha : h a = some (rO pn gu dy sl pt ks kp pk cd gs sp lf kc kg)) (hc : h cd = some (kI n f)) (hg : h gs = some (kI n g)) (hn : n ≤ 25) {s0 : Nat → Int32} {k : Nat} (hs : h sp = some (kI n s0)) (hcs2 : cd ≠ sp) (hk : k ≤ n) : Fn X 1 0 0 yX5_cutAt cX5_cutAt 3 none [.ref a, .int (nI k)] h (fun rv hv => rv = none ∧ hv = kput (kput h sp (kI n (va_cpy f s0 0 0 n))) cd (kI n (va_cpy (va_cpy f s0 0 0 n) (va_cpy (va_cpy f s0 0 0 n) f k 0 (n - k)) 0 (n - k) k))) := by
  have has : a ≠ sp := oi_ne ha hs
  have hac : a ≠ cd := oi_ne ha hc
  refine fn_of (by decide) (Nat.le_of_ble_eq_true rfl) (fun M hM => ?_)
  refine a_aload_n (pc := 0) dX5_cutAt_0 rfl rfl ?_
  refine a_getfield (pc := 1) kg_X5_34 dX5_cutAt_1 (ha) rfl ?_
  refine a_alen (pc := 4) (t := 0) rfl dX5_cutAt_4 (hc) rfl ?_
  refine a_iload_n (pc := 5) dX5_cutAt_5 rfl rfl ?_
  refine a_isubN (pc := 6) dX5_cutAt_6 (by omega) ?_
  refine a_istore_n (pc := 7) dX5_cutAt_7 rfl (by decide) rfl ?_
  refine a_aload_n (pc := 8) dX5_cutAt_8 rfl rfl ?_
  refine a_getfield (pc := 9) kg_X5_34 dX5_cutAt_9 (ha) rfl ?_
  refine a_iconst (pc := 12) dX5_cutAt_12 ic_0 ?_
  refine a_aload_n (pc := 13) dX5_cutAt_13 rfl rfl ?_
  refine a_getfield (pc := 14) kg_X5_39 dX5_cutAt_14 (ha) rfl ?_
  refine a_iconst (pc := 17) dX5_cutAt_17 ic_0 ?_
  refine a_aload_n (pc := 18) dX5_cutAt_18 rfl rfl ?_
  refine a_getfield (pc := 19) kg_X5_34 dX5_cutAt_19 (ha) rfl ?_
  refine a_alen (pc := 22) (t := 0) rfl dX5_cutAt_22 (hc) rfl ?_
  refine a_copyI (pc := 23) kcp_X5_55 dX5_cutAt_23 (hc) (hs) rfl rfl rfl (by omega) (by omega) (by omega) (by omega)  (by rw [hM.1]; simp only [rmd]; omega) (by rw [hM.1]; simp [rmd, Value.category] <;> omega) ?_
  refine a_aload_n (pc := 26) dX5_cutAt_26 rfl rfl ?_
  refine a_getfield (pc := 27) kg_X5_39 dX5_cutAt_27 ((kput_ne has).trans ha) rfl ?_
  refine a_iload_n (pc := 30) dX5_cutAt_30 rfl rfl ?_
  refine a_aload_n (pc := 31) dX5_cutAt_31 rfl rfl ?_
  refine a_getfield (pc := 32) kg_X5_34 dX5_cutAt_32 ((kput_ne has).trans ha) rfl ?_
  refine a_iconst (pc := 35) dX5_cutAt_35 ic_0 ?_
  refine a_iload_n (pc := 36) dX5_cutAt_36 rfl rfl ?_
  refine a_copyI (pc := 37) kcp_X5_55 dX5_cutAt_37 (kput_eq) ((kput_ne hcs2).trans hc) rfl rfl rfl (by omega) (by omega) (by omega) (by omega)  (by rw [hM.1]; simp only [rmd]; omega) (by rw [hM.1]; simp [rmd, Value.category] <;> omega) ?_
  refine a_aload_n (pc := 40) dX5_cutAt_40 rfl rfl ?_
  refine a_getfield (pc := 41) kg_X5_39 dX5_cutAt_41 ((kput_ne hac).trans ((kput_ne has).trans ha)) rfl ?_
  refine a_iconst (pc := 44) dX5_cutAt_44 ic_0 ?_
  refine a_aload_n (pc := 45) dX5_cutAt_45 rfl rfl ?_
  refine a_getfield (pc := 46) kg_X5_34 dX5_cutAt_46 ((kput_ne hac).trans ((kput_ne has).trans ha)) rfl ?_
  refine a_iload_n (pc := 49) dX5_cutAt_49 rfl rfl ?_
  refine a_iload_n (pc := 50) dX5_cutAt_50 rfl rfl ?_
  refine a_copyI (pc := 51) kcp_X5_55 dX5_cutAt_51 ((kput_ne (Ne.symm hcs2)).trans kput_eq) (kput_eq) rfl rfl rfl (by omega) (by omega) (by omega) (by omega)  (by rw [hM.1]; simp only [rmd]; omega) (by rw [hM.1]; simp [rmd, Value.category] <;> omega) ?_
  refine a_hp kput_put ?_
  refine a_ret_v (pc := 54) hM rfl dX5_cutAt_54 (by omega) (by omega) ?_
  exact ⟨rfl, rfl⟩

set_option maxRecDepth 4000 in
theorem f_cslip {pn gu dy sl pt ks kp : Int32} {a pk cd gs sp lf kc kg n : Nat} {f g : Nat → Int32} (ha : h a = some (rO pn gu dy sl pt ks kp pk cd gs sp lf kc kg)) (hc : h cd = some (kI n f)) (hg : h gs = some (kI n g)) (hn : n ≤ 25) {i : Nat} (hi : i < n) (x : Int32) : Fn X 0 0 0 yX5_writeAnew cX5_writeAnew 4 (some .int) [.ref a, .int (nI i), .int x] h (fun rv hv => rv = some (.int (g i)) ∧ hv = kput (kput h a (rO pn gu dy (sl + nI 1) (pt + (if x = f i then nI 1 else nI 0) - (if g i = f i then nI 1 else nI 0)) ks kp pk cd gs sp lf kc kg)) gs (kI n (upd g i x))) := by
  have hac : a ≠ cd := oi_ne ha hc
  have hag : a ≠ gs := oi_ne ha hg
  refine fn_of (by decide) (Nat.le_of_ble_eq_true rfl) (fun M hM => ?_)
  refine a_aload_n (pc := 0) dX5_writeAnew_0 rfl rfl ?_
  refine a_getfield (pc := 1) kg_X5_36 dX5_writeAnew_1 (ha) rfl ?_
  refine a_iload_n (pc := 4) dX5_writeAnew_4 rfl rfl ?_
  refine a_iaload (pc := 5) dX5_writeAnew_5 (hg) (i) (rfl) (by omega) (by omega) ?_
  refine a_istore_n (pc := 6) dX5_writeAnew_6 rfl (by decide) rfl ?_
  refine a_aload_n (pc := 7) dX5_writeAnew_7 rfl rfl ?_
  refine a_dup (pc := 8) dX5_writeAnew_8 rfl ?_
  refine a_getfield (pc := 9) kg_X5_81 dX5_writeAnew_9 (ha) rfl ?_
  refine a_iconst (pc := 12) dX5_writeAnew_12 ic_1 ?_
  refine a_iadd (pc := 13) dX5_writeAnew_13 ?_
  refine a_putfield (pc := 14) kf_X5_81 dX5_writeAnew_14 (ha) (rfl) (by rfl) (Nat.le_of_ble_eq_true rfl) ?_
  refine a_hp (show _ = kput h a (rO pn gu dy (sl + nI 1) pt ks kp pk cd gs sp lf kc kg) from rfl) ?_
  refine a_aload_n (pc := 17) dX5_writeAnew_17 rfl rfl ?_
  refine a_dup (pc := 18) dX5_writeAnew_18 rfl ?_
  refine a_getfield (pc := 19) kg_X5_84 dX5_writeAnew_19 (kput_eq) rfl ?_
  refine a_iload_n (pc := 22) dX5_writeAnew_22 rfl rfl ?_
  refine a_aload_n (pc := 23) dX5_writeAnew_23 rfl rfl ?_
  refine a_getfield (pc := 24) kg_X5_34 dX5_writeAnew_24 (kput_eq) rfl ?_
  refine a_iload_n (pc := 27) dX5_writeAnew_27 rfl rfl ?_
  refine a_iaload (pc := 28) dX5_writeAnew_28 ((kput_ne (Ne.symm hac)).trans hc) (i) (rfl) (by omega) (by omega) ?_
  refine a_icmp_ne (pc := 29) (tgt := 36) dX5_writeAnew_29 (by decide) (fun c29 => ?_) (fun c29 => ?_)
  · have e1 : (nI 0) = (if x = f i then nI 1 else nI 0) := (if_neg c29).symm
    refine a_iconst (pc := 36) dX5_writeAnew_36 ic_0 ?_
    refine a_topi e1 ?_
    refine a_iadd (pc := 37) dX5_writeAnew_37 ?_
    refine a_putfield (pc := 38) kf_X5_84 dX5_writeAnew_38 (kput_eq) (rfl) (by rfl) (Nat.le_of_ble_eq_true rfl) ?_
    refine a_hp (show _ = kput h a (rO pn gu dy (sl + nI 1) (pt + (if x = f i then nI 1 else nI 0)) ks kp pk cd gs sp lf kc kg) from kput_put) ?_
    refine a_aload_n (pc := 41) dX5_writeAnew_41 rfl rfl ?_
    refine a_dup (pc := 42) dX5_writeAnew_42 rfl ?_
    refine a_getfield (pc := 43) kg_X5_84 dX5_writeAnew_43 (kput_eq) rfl ?_
    refine a_iload_n (pc := 46) dX5_writeAnew_46 rfl rfl ?_
    refine a_aload_n (pc := 47) dX5_writeAnew_47 rfl rfl ?_
    refine a_getfield (pc := 48) kg_X5_34 dX5_writeAnew_48 (kput_eq) rfl ?_
    refine a_iload_n (pc := 51) dX5_writeAnew_51 rfl rfl ?_
    refine a_iaload (pc := 52) dX5_writeAnew_52 ((kput_ne (Ne.symm hac)).trans hc) (i) (rfl) (by omega) (by omega) ?_
    refine a_icmp_ne (pc := 53) (tgt := 60) dX5_writeAnew_53 (by decide) (fun c53 => ?_) (fun c53 => ?_)
    · have e2 : (nI 0) = (if g i = f i then nI 1 else nI 0) := (if_neg c53).symm
      refine a_iconst (pc := 60) dX5_writeAnew_60 ic_0 ?_
      refine a_topi e2 ?_
      refine a_isub (pc := 61) dX5_writeAnew_61 ?_
      refine a_putfield (pc := 62) kf_X5_84 dX5_writeAnew_62 (kput_eq) (rfl) (by rfl) (Nat.le_of_ble_eq_true rfl) ?_
      refine a_hp (show _ = kput h a (rO pn gu dy (sl + nI 1) (pt + (if x = f i then nI 1 else nI 0) - (if g i = f i then nI 1 else nI 0)) ks kp pk cd gs sp lf kc kg) from kput_put) ?_
      refine a_aload_n (pc := 65) dX5_writeAnew_65 rfl rfl ?_
      refine a_getfield (pc := 66) kg_X5_36 dX5_writeAnew_66 (kput_eq) rfl ?_
      refine a_iload_n (pc := 69) dX5_writeAnew_69 rfl rfl ?_
      refine a_iload_n (pc := 70) dX5_writeAnew_70 rfl rfl ?_
      refine a_iastore (pc := 71) dX5_writeAnew_71 ((kput_ne (Ne.symm hag)).trans hg) (i) (rfl) (by omega) (by omega) ?_
      refine a_iload_n (pc := 72) dX5_writeAnew_72 rfl rfl ?_
      refine a_ret_i (pc := 73) hM rfl (rfl) dX5_writeAnew_73 (by omega) (by omega) ?_
      exact ⟨rfl, rfl⟩
    · have e2 : (nI 1) = (if g i = f i then nI 1 else nI 0) := (if_pos c53).symm
      refine a_iconst (pc := 56) dX5_writeAnew_56 ic_1 ?_
      refine a_goto (pc := 57) (tgt := 61) dX5_writeAnew_57 (by decide) ?_
      refine a_topi e2 ?_
      refine a_isub (pc := 61) dX5_writeAnew_61 ?_
      refine a_putfield (pc := 62) kf_X5_84 dX5_writeAnew_62 (kput_eq) (rfl) (by rfl) (Nat.le_of_ble_eq_true rfl) ?_
      refine a_hp (show _ = kput h a (rO pn gu dy (sl + nI 1) (pt + (if x = f i then nI 1 else nI 0) - (if g i = f i then nI 1 else nI 0)) ks kp pk cd gs sp lf kc kg) from kput_put) ?_
      refine a_aload_n (pc := 65) dX5_writeAnew_65 rfl rfl ?_
      refine a_getfield (pc := 66) kg_X5_36 dX5_writeAnew_66 (kput_eq) rfl ?_
      refine a_iload_n (pc := 69) dX5_writeAnew_69 rfl rfl ?_
      refine a_iload_n (pc := 70) dX5_writeAnew_70 rfl rfl ?_
      refine a_iastore (pc := 71) dX5_writeAnew_71 ((kput_ne (Ne.symm hag)).trans hg) (i) (rfl) (by omega) (by omega) ?_
      refine a_iload_n (pc := 72) dX5_writeAnew_72 rfl rfl ?_
      refine a_ret_i (pc := 73) hM rfl (rfl) dX5_writeAnew_73 (by omega) (by omega) ?_
      exact ⟨rfl, rfl⟩
  · have e1 : (nI 1) = (if x = f i then nI 1 else nI 0) := (if_pos c29).symm
    refine a_iconst (pc := 32) dX5_writeAnew_32 ic_1 ?_
    refine a_goto (pc := 33) (tgt := 37) dX5_writeAnew_33 (by decide) ?_
    refine a_topi e1 ?_
    refine a_iadd (pc := 37) dX5_writeAnew_37 ?_
    refine a_putfield (pc := 38) kf_X5_84 dX5_writeAnew_38 (kput_eq) (rfl) (by rfl) (Nat.le_of_ble_eq_true rfl) ?_
    refine a_hp (show _ = kput h a (rO pn gu dy (sl + nI 1) (pt + (if x = f i then nI 1 else nI 0)) ks kp pk cd gs sp lf kc kg) from kput_put) ?_
    refine a_aload_n (pc := 41) dX5_writeAnew_41 rfl rfl ?_
    refine a_dup (pc := 42) dX5_writeAnew_42 rfl ?_
    refine a_getfield (pc := 43) kg_X5_84 dX5_writeAnew_43 (kput_eq) rfl ?_
    refine a_iload_n (pc := 46) dX5_writeAnew_46 rfl rfl ?_
    refine a_aload_n (pc := 47) dX5_writeAnew_47 rfl rfl ?_
    refine a_getfield (pc := 48) kg_X5_34 dX5_writeAnew_48 (kput_eq) rfl ?_
    refine a_iload_n (pc := 51) dX5_writeAnew_51 rfl rfl ?_
    refine a_iaload (pc := 52) dX5_writeAnew_52 ((kput_ne (Ne.symm hac)).trans hc) (i) (rfl) (by omega) (by omega) ?_
    refine a_icmp_ne (pc := 53) (tgt := 60) dX5_writeAnew_53 (by decide) (fun c53 => ?_) (fun c53 => ?_)
    · have e2 : (nI 0) = (if g i = f i then nI 1 else nI 0) := (if_neg c53).symm
      refine a_iconst (pc := 60) dX5_writeAnew_60 ic_0 ?_
      refine a_topi e2 ?_
      refine a_isub (pc := 61) dX5_writeAnew_61 ?_
      refine a_putfield (pc := 62) kf_X5_84 dX5_writeAnew_62 (kput_eq) (rfl) (by rfl) (Nat.le_of_ble_eq_true rfl) ?_
      refine a_hp (show _ = kput h a (rO pn gu dy (sl + nI 1) (pt + (if x = f i then nI 1 else nI 0) - (if g i = f i then nI 1 else nI 0)) ks kp pk cd gs sp lf kc kg) from kput_put) ?_
      refine a_aload_n (pc := 65) dX5_writeAnew_65 rfl rfl ?_
      refine a_getfield (pc := 66) kg_X5_36 dX5_writeAnew_66 (kput_eq) rfl ?_
      refine a_iload_n (pc := 69) dX5_writeAnew_69 rfl rfl ?_
      refine a_iload_n (pc := 70) dX5_writeAnew_70 rfl rfl ?_
      refine a_iastore (pc := 71) dX5_writeAnew_71 ((kput_ne (Ne.symm hag)).trans hg) (i) (rfl) (by omega) (by omega) ?_
      refine a_iload_n (pc := 72) dX5_writeAnew_72 rfl rfl ?_
      refine a_ret_i (pc := 73) hM rfl (rfl) dX5_writeAnew_73 (by omega) (by omega) ?_
      exact ⟨rfl, rfl⟩
    · have e2 : (nI 1) = (if g i = f i then nI 1 else nI 0) := (if_pos c53).symm
      refine a_iconst (pc := 56) dX5_writeAnew_56 ic_1 ?_
      refine a_goto (pc := 57) (tgt := 61) dX5_writeAnew_57 (by decide) ?_
      refine a_topi e2 ?_
      refine a_isub (pc := 61) dX5_writeAnew_61 ?_
      refine a_putfield (pc := 62) kf_X5_84 dX5_writeAnew_62 (kput_eq) (rfl) (by rfl) (Nat.le_of_ble_eq_true rfl) ?_
      refine a_hp (show _ = kput h a (rO pn gu dy (sl + nI 1) (pt + (if x = f i then nI 1 else nI 0) - (if g i = f i then nI 1 else nI 0)) ks kp pk cd gs sp lf kc kg) from kput_put) ?_
      refine a_aload_n (pc := 65) dX5_writeAnew_65 rfl rfl ?_
      refine a_getfield (pc := 66) kg_X5_36 dX5_writeAnew_66 (kput_eq) rfl ?_
      refine a_iload_n (pc := 69) dX5_writeAnew_69 rfl rfl ?_
      refine a_iload_n (pc := 70) dX5_writeAnew_70 rfl rfl ?_
      refine a_iastore (pc := 71) dX5_writeAnew_71 ((kput_ne (Ne.symm hag)).trans hg) (i) (rfl) (by omega) (by omega) ?_
      refine a_iload_n (pc := 72) dX5_writeAnew_72 rfl rfl ?_
      refine a_ret_i (pc := 73) hM rfl (rfl) dX5_writeAnew_73 (by omega) (by omega) ?_
      exact ⟨rfl, rfl⟩

def tkC (z n fr : Nat) (it : Nat → Int32) (k : Nat) : Bool := decide (k < z) && decide (fr + k < n) && inN (it k) 5
set_option maxRecDepth 4000 in
theorem f_take {pn gu dy sl pt ks kp : Int32} {a pk cd gs sp lf kc kg n : Nat} {f g : Nat → Int32} (ha : h a = some (rO pn gu dy sl pt ks kp pk cd gs sp lf kc kg)) (hc : h cd = some (kI n f)) (hg : h gs = some (kI n g)) (hn : n ≤ 25) {sh ia z fr : Nat} {so : Int32} {it : Nat → Int32} (hsh : h sh = some (kO 7 [.ref ia, .int so, .int (nI z)])) (hit : h ia = some (kI 40 it)) (hz : z ≤ 40) (hig : ia ≠ gs) (hfr : fr ≤ 25) : Fn X 1 0 0 yX5_takeGuesses cX5_takeGuesses 5 (some .int) [.ref a, .ref sh, .int (nI fr)] h (fun rv hv => rv = some (.int (nI (gLen (tkC z n fr it) 41 0))) ∧ hv = (kput h gs (kI n (fillO it g fr (gLen (tkC z n fr it) 41 0))))) := by
  have hag : a ≠ gs := oi_ne ha hg
  have hsg : sh ≠ gs := oi_ne hsh hg
  refine fn_of (by decide) (Nat.le_of_ble_eq_true rfl) (fun M hM => ?_)
  have lp : ∀ (d k : Nat), 41 - k = d → k ≤ 41 → (gLen (tkC z n fr it) 41 0 = gLen (tkC z n fr it) (41 - k) k) → (k ≤ z) → AJ X M yX5_takeGuesses cX5_takeGuesses 5 (some .int) 5 [(0, .ref a), (1, .ref sh), (2, .int (nI fr)), (3, .int (nI k)), (4, .int (nI k))] [] (kput h gs (kI n (fillO it g fr k))) 0 0 := by
    intro d
    induction d with
    | zero =>
      intro k hd hle hs hkz
      refine a_iload (pc := 5) dX5_takeGuesses_5 rfl ?_
      refine a_aload_n (pc := 7) dX5_takeGuesses_7 rfl rfl ?_
      refine a_getfield (pc := 8) kg_X5_69 dX5_takeGuesses_8 ((kput_ne hsg).trans hsh) rfl ?_
      refine a_topi ((show nI z = nI z from rfl)) ?_
      refine a_icmp_geN (pc := 11) (tgt := 68) dX5_takeGuesses_11 (by decide) (by omega) (by omega) (fun c11 => ?_) (fun c11 => ?_)
      · exact absurd hkz (by omega)
      · exact absurd c11 (by omega)
    | succ d ih =>
      intro k hd hle hs hkz
      refine a_iload (pc := 5) dX5_takeGuesses_5 rfl ?_
      refine a_aload_n (pc := 7) dX5_takeGuesses_7 rfl rfl ?_
      refine a_getfield (pc := 8) kg_X5_69 dX5_takeGuesses_8 ((kput_ne hsg).trans hsh) rfl ?_
      refine a_topi ((show nI z = nI z from rfl)) ?_
      refine a_icmp_geN (pc := 11) (tgt := 68) dX5_takeGuesses_11 (by decide) (by omega) (by omega) (fun c11 => ?_) (fun c11 => ?_)
      · have hp : (tkC z n fr it) k = false := by unfold tkC; rw [decide_eq_false (by omega)]; rfl
        have e : gLen (tkC z n fr it) 41 0 = k := by rw [hs, show 41 - k = d + 1 by omega, gLen, if_neg (by rw [hp]; decide)]
        refine a_iload_n (pc := 68) dX5_takeGuesses_68 rfl rfl ?_
        refine a_ret_i (pc := 69) hM rfl (rfl) dX5_takeGuesses_69 (by omega) (by omega) ?_
        exact ⟨by rw [e], by rw [e]⟩
      · refine a_iload_n (pc := 14) dX5_takeGuesses_14 rfl rfl ?_
        refine a_iload (pc := 15) dX5_takeGuesses_15 rfl ?_
        refine a_iaddN (pc := 17) dX5_takeGuesses_17 ?_
        refine a_aload_n (pc := 18) dX5_takeGuesses_18 rfl rfl ?_
        refine a_getfield (pc := 19) kg_X5_36 dX5_takeGuesses_19 ((kput_ne hag).trans ha) rfl ?_
        refine a_alen (pc := 22) (t := 0) rfl dX5_takeGuesses_22 (kput_eq) rfl ?_
        refine a_icmp_geN (pc := 23) (tgt := 68) dX5_takeGuesses_23 (by decide) (by omega) (by omega) (fun c23 => ?_) (fun c23 => ?_)
        · have hp : (tkC z n fr it) k = false := by unfold tkC; rw [decide_eq_true (by omega), decide_eq_false (by omega)]; rfl
          have e : gLen (tkC z n fr it) 41 0 = k := by rw [hs, show 41 - k = d + 1 by omega, gLen, if_neg (by rw [hp]; decide)]
          refine a_iload_n (pc := 68) dX5_takeGuesses_68 rfl rfl ?_
          refine a_ret_i (pc := 69) hM rfl (rfl) dX5_takeGuesses_69 (by omega) (by omega) ?_
          exact ⟨by rw [e], by rw [e]⟩
        · refine a_aload_n (pc := 26) dX5_takeGuesses_26 rfl rfl ?_
          refine a_getfield (pc := 27) kg_X5_74 dX5_takeGuesses_27 ((kput_ne hsg).trans hsh) rfl ?_
          refine a_iload (pc := 30) dX5_takeGuesses_30 rfl ?_
          refine a_iaload (pc := 32) dX5_takeGuesses_32 ((kput_ne hig).trans hit) (k) (rfl) (by omega) (by omega) ?_
          refine a_iconst (pc := 33) dX5_takeGuesses_33 ic_5 ?_
          refine a_callS (pc := 34) km_X5_77 dX5_takeGuesses_34 (f_among (it k) (n := 5) (by decide)) rfl rfl (rok_of hM (by decide) (by decide) (by omega) (by omega)) (Nat.le_of_ble_eq_true rfl) (fun r34 h34 hp34 => ?_)
          obtain ⟨rfl, rfl⟩ := hp34
          refine a_if_neB (pc := 37) (tgt := 43) dX5_takeGuesses_37 (by decide) (fun c37 => ?_) (fun c37 => ?_)
          · have hp : (tkC z n fr it) k = true := by unfold tkC; rw [decide_eq_true (by omega), decide_eq_true (by omega), c37]; rfl
            have hs2 : gLen (tkC z n fr it) 41 0 = gLen (tkC z n fr it) (41 - (k + 1)) (k + 1) := by rw [hs, show 41 - k = d + 1 by omega, gLen, if_pos hp, show 41 - (k + 1) = d by omega]
            refine a_aload_n (pc := 43) dX5_takeGuesses_43 rfl rfl ?_
            refine a_getfield (pc := 44) kg_X5_36 dX5_takeGuesses_44 ((kput_ne hag).trans ha) rfl ?_
            refine a_iload_n (pc := 47) dX5_takeGuesses_47 rfl rfl ?_
            refine a_iload (pc := 48) dX5_takeGuesses_48 rfl ?_
            refine a_iaddN (pc := 50) dX5_takeGuesses_50 ?_
            refine a_aload_n (pc := 51) dX5_takeGuesses_51 rfl rfl ?_
            refine a_getfield (pc := 52) kg_X5_74 dX5_takeGuesses_52 ((kput_ne hsg).trans hsh) rfl ?_
            refine a_iload (pc := 55) dX5_takeGuesses_55 rfl ?_
            refine a_iaload (pc := 57) dX5_takeGuesses_57 ((kput_ne hig).trans hit) (k) (rfl) (by omega) (by omega) ?_
            refine a_iastore (pc := 58) dX5_takeGuesses_58 (kput_eq) (fr + k) (rfl) (by omega) (by omega) ?_
            refine a_hp (show _ = (kput h gs (kI n (fillO it g fr (k + 1)))) by rw [kput_put, fillO_s (f := it)]) ?_
            refine a_iincN (pc := 59) (n := 1) dX5_takeGuesses_59 (by decide) rfl (by decide) rfl ?_
            refine a_iincN (pc := 62) (n := 1) dX5_takeGuesses_62 (by decide) rfl (by decide) rfl ?_
            refine a_goto (pc := 65) (tgt := 5) dX5_takeGuesses_65 (by decide) ?_
            exact a_locR (ih (k + 1) (by omega) (by omega) hs2 (by omega)) ⟨rfl, rfl, rfl, rfl, rfl, trivial⟩
          · have hp : (tkC z n fr it) k = false := by unfold tkC; rw [c37, Bool.and_false]
            have e : gLen (tkC z n fr it) 41 0 = k := by rw [hs, show 41 - k = d + 1 by omega, gLen, if_neg (by rw [hp]; decide)]
            refine a_goto (pc := 40) (tgt := 68) dX5_takeGuesses_40 (by decide) ?_
            refine a_iload_n (pc := 68) dX5_takeGuesses_68 rfl rfl ?_
            refine a_ret_i (pc := 69) hM rfl (rfl) dX5_takeGuesses_69 (by omega) (by omega) ?_
            exact ⟨by rw [e], by rw [e]⟩
  refine a_iconst (pc := 0) dX5_takeGuesses_0 ic_0 ?_
  refine a_istore_n (pc := 1) dX5_takeGuesses_1 rfl (by decide) rfl ?_
  refine a_iconst (pc := 2) dX5_takeGuesses_2 ic_0 ?_
  refine a_istore (pc := 3) dX5_takeGuesses_3 (by decide) rfl ?_
  refine a_hp (show h = (kput h gs (kI n (fillO it g fr 0))) by rw [fillO_0, kput_self hg]) ?_
  exact a_locR (lp _ 0 rfl (Nat.zero_le _) rfl (Nat.zero_le _)) ⟨rfl, rfl, rfl, rfl, rfl, trivial⟩

set_option maxRecDepth 4000 in
theorem f_keep {pn gu dy sl pt ks kp : Int32} {a pk cd gs sp lf kc kg n : Nat} {f g : Nat → Int32} (ha : h a = some (rO pn gu dy sl pt ks kp pk cd gs sp lf kc kg)) (hc : h cd = some (kI n f)) (hg : h gs = some (kI n g)) (hn : n ≤ 25) {f2 g2 : Nat → Int32} (hf2 : h kc = some (kI n f2)) (hg2 : h kg = some (kI n g2)) (ne1 : gs ≠ kc) (ne2 : kg ≠ kc) : Fn X 1 0 0 yX5_keep cX5_keep 1 none [.ref a] h (fun rv hv => rv = none ∧ hv = kput (kput (kput h kc (kI n (va_cpy f f2 0 0 n))) kg (kI n (va_cpy g g2 0 0 n))) a (rO pn gu dy sl pt sl pt pk cd gs sp lf kc kg)) := by
  have ha3 : a ≠ kc := oi_ne ha hf2
  have ha4 : a ≠ kg := oi_ne ha hg2
  refine fn_of (by decide) (Nat.le_of_ble_eq_true rfl) (fun M hM => ?_)
  refine a_aload_n (pc := 0) dX5_keep_0 rfl rfl ?_
  refine a_getfield (pc := 1) kg_X5_34 dX5_keep_1 (ha) rfl ?_
  refine a_iconst (pc := 4) dX5_keep_4 ic_0 ?_
  refine a_aload_n (pc := 5) dX5_keep_5 rfl rfl ?_
  refine a_getfield (pc := 6) kg_X5_42 dX5_keep_6 (ha) rfl ?_
  refine a_iconst (pc := 9) dX5_keep_9 ic_0 ?_
  refine a_aload_n (pc := 10) dX5_keep_10 rfl rfl ?_
  refine a_getfield (pc := 11) kg_X5_34 dX5_keep_11 (ha) rfl ?_
  refine a_alen (pc := 14) (t := 0) rfl dX5_keep_14 (hc) rfl ?_
  refine a_copyI (pc := 15) kcp_X5_55 dX5_keep_15 (hc) (hf2) rfl rfl rfl (by omega) (by omega) (by omega) (by omega)  (by rw [hM.1]; simp only [rmd]; omega) (by rw [hM.1]; simp [rmd, Value.category] <;> omega) ?_
  refine a_aload_n (pc := 18) dX5_keep_18 rfl rfl ?_
  refine a_getfield (pc := 19) kg_X5_36 dX5_keep_19 ((kput_ne ha3).trans ha) rfl ?_
  refine a_iconst (pc := 22) dX5_keep_22 ic_0 ?_
  refine a_aload_n (pc := 23) dX5_keep_23 rfl rfl ?_
  refine a_getfield (pc := 24) kg_X5_45 dX5_keep_24 ((kput_ne ha3).trans ha) rfl ?_
  refine a_iconst (pc := 27) dX5_keep_27 ic_0 ?_
  refine a_aload_n (pc := 28) dX5_keep_28 rfl rfl ?_
  refine a_getfield (pc := 29) kg_X5_36 dX5_keep_29 ((kput_ne ha3).trans ha) rfl ?_
  refine a_alen (pc := 32) (t := 0) rfl dX5_keep_32 ((kput_ne ne1).trans hg) rfl ?_
  refine a_copyI (pc := 33) kcp_X5_55 dX5_keep_33 ((kput_ne ne1).trans hg) ((kput_ne ne2).trans hg2) rfl rfl rfl (by omega) (by omega) (by omega) (by omega)  (by rw [hM.1]; simp only [rmd]; omega) (by rw [hM.1]; simp [rmd, Value.category] <;> omega) ?_
  refine a_aload_n (pc := 36) dX5_keep_36 rfl rfl ?_
  refine a_aload_n (pc := 37) dX5_keep_37 rfl rfl ?_
  refine a_getfield (pc := 38) kg_X5_81 dX5_keep_38 ((kput_ne ha4).trans (((kput_ne ha3).trans ha))) rfl ?_
  refine a_putfield (pc := 41) kf_X5_95 dX5_keep_41 ((kput_ne ha4).trans (((kput_ne ha3).trans ha))) (rfl) (by rfl) (Nat.le_of_ble_eq_true rfl) ?_
  refine a_hp (show _ = kput (kput (kput h kc (kI n (va_cpy f f2 0 0 n))) kg (kI n (va_cpy g g2 0 0 n))) a (rO pn gu dy sl pt sl kp pk cd gs sp lf kc kg) from rfl) ?_
  refine a_aload_n (pc := 44) dX5_keep_44 rfl rfl ?_
  refine a_aload_n (pc := 45) dX5_keep_45 rfl rfl ?_
  refine a_getfield (pc := 46) kg_X5_84 dX5_keep_46 (kput_eq) rfl ?_
  refine a_putfield (pc := 49) kf_X5_98 dX5_keep_49 (kput_eq) (rfl) (by rfl) (Nat.le_of_ble_eq_true rfl) ?_
  refine a_hp (show _ = kput (kput (kput h kc (kI n (va_cpy f f2 0 0 n))) kg (kI n (va_cpy g g2 0 0 n))) a (rO pn gu dy sl pt sl pt pk cd gs sp lf kc kg) from kput_put) ?_
  refine a_ret_v (pc := 52) hM rfl dX5_keep_52 (by omega) (by omega) ?_
  exact ⟨rfl, rfl⟩

set_option maxRecDepth 4000 in
theorem f_lay {pn gu dy sl pt ks kp : Int32} {a pk cd gs sp lf kc kg n : Nat} {f g : Nat → Int32} (ha : h a = some (rO pn gu dy sl pt ks kp pk cd gs sp lf kc kg)) (hc : h cd = some (kI n f)) (hg : h gs = some (kI n g)) (hn : n ≤ 25) {f2 g2 : Nat → Int32} (hf2 : h kc = some (kI n f2)) (hg2 : h kg = some (kI n g2)) (ne1 : gs ≠ cd) (ne2 : kg ≠ cd) : Fn X 1 0 0 yX5_layBack cX5_layBack 1 none [.ref a] h (fun rv hv => rv = none ∧ hv = kput (kput (kput h cd (kI n (va_cpy f2 f 0 0 n))) gs (kI n (va_cpy g2 g 0 0 n))) a (rO pn gu dy ks kp ks kp pk cd gs sp lf kc kg)) := by
  have ha3 : a ≠ cd := oi_ne ha hc
  have ha4 : a ≠ gs := oi_ne ha hg
  refine fn_of (by decide) (Nat.le_of_ble_eq_true rfl) (fun M hM => ?_)
  refine a_aload_n (pc := 0) dX5_layBack_0 rfl rfl ?_
  refine a_getfield (pc := 1) kg_X5_42 dX5_layBack_1 (ha) rfl ?_
  refine a_iconst (pc := 4) dX5_layBack_4 ic_0 ?_
  refine a_aload_n (pc := 5) dX5_layBack_5 rfl rfl ?_
  refine a_getfield (pc := 6) kg_X5_34 dX5_layBack_6 (ha) rfl ?_
  refine a_iconst (pc := 9) dX5_layBack_9 ic_0 ?_
  refine a_aload_n (pc := 10) dX5_layBack_10 rfl rfl ?_
  refine a_getfield (pc := 11) kg_X5_34 dX5_layBack_11 (ha) rfl ?_
  refine a_alen (pc := 14) (t := 0) rfl dX5_layBack_14 (hc) rfl ?_
  refine a_copyI (pc := 15) kcp_X5_55 dX5_layBack_15 (hf2) (hc) rfl rfl rfl (by omega) (by omega) (by omega) (by omega)  (by rw [hM.1]; simp only [rmd]; omega) (by rw [hM.1]; simp [rmd, Value.category] <;> omega) ?_
  refine a_aload_n (pc := 18) dX5_layBack_18 rfl rfl ?_
  refine a_getfield (pc := 19) kg_X5_45 dX5_layBack_19 ((kput_ne ha3).trans ha) rfl ?_
  refine a_iconst (pc := 22) dX5_layBack_22 ic_0 ?_
  refine a_aload_n (pc := 23) dX5_layBack_23 rfl rfl ?_
  refine a_getfield (pc := 24) kg_X5_36 dX5_layBack_24 ((kput_ne ha3).trans ha) rfl ?_
  refine a_iconst (pc := 27) dX5_layBack_27 ic_0 ?_
  refine a_aload_n (pc := 28) dX5_layBack_28 rfl rfl ?_
  refine a_getfield (pc := 29) kg_X5_36 dX5_layBack_29 ((kput_ne ha3).trans ha) rfl ?_
  refine a_alen (pc := 32) (t := 0) rfl dX5_layBack_32 ((kput_ne ne1).trans hg) rfl ?_
  refine a_copyI (pc := 33) kcp_X5_55 dX5_layBack_33 ((kput_ne ne2).trans hg2) ((kput_ne ne1).trans hg) rfl rfl rfl (by omega) (by omega) (by omega) (by omega)  (by rw [hM.1]; simp only [rmd]; omega) (by rw [hM.1]; simp [rmd, Value.category] <;> omega) ?_
  refine a_aload_n (pc := 36) dX5_layBack_36 rfl rfl ?_
  refine a_aload_n (pc := 37) dX5_layBack_37 rfl rfl ?_
  refine a_getfield (pc := 38) kg_X5_95 dX5_layBack_38 ((kput_ne ha4).trans (((kput_ne ha3).trans ha))) rfl ?_
  refine a_putfield (pc := 41) kf_X5_81 dX5_layBack_41 ((kput_ne ha4).trans (((kput_ne ha3).trans ha))) (rfl) (by rfl) (Nat.le_of_ble_eq_true rfl) ?_
  refine a_hp (show _ = kput (kput (kput h cd (kI n (va_cpy f2 f 0 0 n))) gs (kI n (va_cpy g2 g 0 0 n))) a (rO pn gu dy ks pt ks kp pk cd gs sp lf kc kg) from rfl) ?_
  refine a_aload_n (pc := 44) dX5_layBack_44 rfl rfl ?_
  refine a_aload_n (pc := 45) dX5_layBack_45 rfl rfl ?_
  refine a_getfield (pc := 46) kg_X5_98 dX5_layBack_46 (kput_eq) rfl ?_
  refine a_putfield (pc := 49) kf_X5_84 dX5_layBack_49 (kput_eq) (rfl) (by rfl) (Nat.le_of_ble_eq_true rfl) ?_
  refine a_hp (show _ = kput (kput (kput h cd (kI n (va_cpy f2 f 0 0 n))) gs (kI n (va_cpy g2 g 0 0 n))) a (rO pn gu dy ks kp ks kp pk cd gs sp lf kc kg) from kput_put) ?_
  refine a_ret_v (pc := 52) hM rfl dX5_layBack_52 (by omega) (by omega) ?_
  exact ⟨rfl, rfl⟩

end CRM

/-! RUNS OF THE CLASS: reading them -/
section CRN
variable {X : KX} {h : AH}
/-- the run at a -/
def rO (pn gu dy sl pt ks kp : Int32) (pk cd gs sp lf kc kg : Nat) : kE := (kO 5 [.int pn, .ref pk, .int gu, .int dy, .ref cd, .ref gs, .int sl, .int pt, .ref sp, .ref lf, .ref kc, .ref kg, .int ks, .int kp])
def ofD (gu dy g a b : Int32) : Bool := decide (gu = g) && !decide (dy < a) && decide (dy < b)
set_option maxRecDepth 4000 in
theorem f_isOf {pn gu dy sl pt ks kp : Int32} {a pk cd gs sp lf kc kg n : Nat} {f g : Nat → Int32} (ha : h a = some (rO pn gu dy sl pt ks kp pk cd gs sp lf kc kg)) (hc : h cd = some (kI n f)) (hg : h gs = some (kI n g)) (hn : n ≤ 25) (q b c : Int32) : Fn X 0 0 0 yX5_isOf cX5_isOf 4 (some .boolean) [.ref a, .int q, .int b, .int c] h (fun rv hv => rv = some (.int (bI (ofD gu dy q b c))) ∧ hv = h) := by
  refine fn_of (by decide) (Nat.le_of_ble_eq_true rfl) (fun M hM => ?_)
  refine a_aload_n (pc := 0) dX5_isOf_0 rfl rfl ?_
  refine a_getfield (pc := 1) kg_X5_23 dX5_isOf_1 (ha) rfl ?_
  refine a_iload_n (pc := 4) dX5_isOf_4 rfl rfl ?_
  refine a_icmp_ne (pc := 5) (tgt := 28) dX5_isOf_5 (by decide) (fun c5 => ?_) (fun c5 => ?_)
  · have e : ofD gu dy q b c = false := by rw [ofD, decide_eq_false c5]; rfl
    refine a_iconst (pc := 28) dX5_isOf_28 ic_0 ?_
    refine a_ret_i (pc := 29) hM rfl (by decide +kernel) dX5_isOf_29 (by omega) (by omega) ?_
    exact ⟨by rw [e]; rfl, rfl⟩
  · refine a_iload_n (pc := 8) dX5_isOf_8 rfl rfl ?_
    refine a_aload_n (pc := 9) dX5_isOf_9 rfl rfl ?_
    refine a_getfield (pc := 10) kg_X5_26 dX5_isOf_10 (ha) rfl ?_
    refine a_icmp_gt (pc := 13) (tgt := 28) dX5_isOf_13 (by decide) (fun c13 => ?_) (fun c13 => ?_)
    · have e : ofD gu dy q b c = false := by rw [ofD, decide_eq_true (Int32.not_le.mp (by first | exact c13 | exact Int32.not_le.mpr c13))]; simp
      refine a_iconst (pc := 28) dX5_isOf_28 ic_0 ?_
      refine a_ret_i (pc := 29) hM rfl (by decide +kernel) dX5_isOf_29 (by omega) (by omega) ?_
      exact ⟨by rw [e]; rfl, rfl⟩
    · refine a_aload_n (pc := 16) dX5_isOf_16 rfl rfl ?_
      refine a_getfield (pc := 17) kg_X5_26 dX5_isOf_17 (ha) rfl ?_
      refine a_iload_n (pc := 20) dX5_isOf_20 rfl rfl ?_
      refine a_icmp_ge (pc := 21) (tgt := 28) dX5_isOf_21 (by decide) (fun c21 => ?_) (fun c21 => ?_)
      · have e : ofD gu dy q b c = false := by rw [ofD, decide_eq_false (Int32.not_lt.mpr c21), Bool.and_false]
        refine a_iconst (pc := 28) dX5_isOf_28 ic_0 ?_
        refine a_ret_i (pc := 29) hM rfl (by decide +kernel) dX5_isOf_29 (by omega) (by omega) ?_
        exact ⟨by rw [e]; rfl, rfl⟩
      · have e : ofD gu dy q b c = true := by rw [ofD, decide_eq_true c5, decide_eq_false (Int32.not_lt.mpr (Int32.not_lt.mp c13)), decide_eq_true (Int32.not_le.mp c21)]; rfl
        refine a_iconst (pc := 24) dX5_isOf_24 ic_1 ?_
        refine a_goto (pc := 25) (tgt := 29) dX5_isOf_25 (by decide) ?_
        refine a_ret_i (pc := 29) hM rfl (by decide +kernel) dX5_isOf_29 (by omega) (by omega) ?_
        exact ⟨by rw [e]; rfl, rfl⟩

set_option maxRecDepth 4000 in
theorem f_hitsAm {pn gu dy sl pt ks kp : Int32} {a pk cd gs sp lf kc kg n : Nat} {f g : Nat → Int32} (ha : h a = some (rO pn gu dy sl pt ks kp pk cd gs sp lf kc kg)) {r : Nat} (hr : h r = some (kI n f)) (hg : h gs = some (kI n g)) (hn : n ≤ 25) : Fn X 0 0 0 yX5_hitsAmong cX5_hitsAmong 4 (some .int) [.ref a, .ref r] h (fun rv hv => rv = some (.int (nI (cntN (fun i => decide (f i = g i)) n))) ∧ hv = h) := by
  refine fn_of (by decide) (Nat.le_of_ble_eq_true rfl) (fun M hM => ?_)
  have lp : ∀ (d i : Nat), n - i = d → i ≤ n → AJ X M yX5_hitsAmong cX5_hitsAmong 4 (some .int) 4 [(0, .ref a), (1, .ref r), (2, .int (nI (cntN (fun i => decide (f i = g i)) i))), (3, .int (nI i))] [] h 0 0 := by
    intro d
    induction d with
    | zero =>
      intro i hd hle
      refine a_iload_n (pc := 4) dX5_hitsAmong_4 rfl rfl ?_
      refine a_aload_n (pc := 5) dX5_hitsAmong_5 rfl rfl ?_
      refine a_alen (pc := 6) (t := 0) rfl dX5_hitsAmong_6 (hr) rfl ?_
      refine a_icmp_geN (pc := 7) (tgt := 45) dX5_hitsAmong_7 (by decide) (by omega) (by omega) (fun c7 => ?_) (fun c7 => ?_)
      · have hi : i = n := by omega
        subst hi
        refine a_iload_n (pc := 45) dX5_hitsAmong_45 rfl rfl ?_
        refine a_ret_i (pc := 46) hM rfl (rfl) dX5_hitsAmong_46 (by omega) (by omega) ?_
        exact ⟨rfl, rfl⟩
      · exact absurd c7 (by omega)
    | succ d ih =>
      intro i hd hle
      have hci := cntN_le (fun i => decide (f i = g i)) i
      refine a_iload_n (pc := 4) dX5_hitsAmong_4 rfl rfl ?_
      refine a_aload_n (pc := 5) dX5_hitsAmong_5 rfl rfl ?_
      refine a_alen (pc := 6) (t := 0) rfl dX5_hitsAmong_6 (hr) rfl ?_
      refine a_icmp_geN (pc := 7) (tgt := 45) dX5_hitsAmong_7 (by decide) (by omega) (by omega) (fun c7 => ?_) (fun c7 => ?_)
      · exact absurd c7 (by omega)
      · refine a_iload_n (pc := 10) dX5_hitsAmong_10 rfl rfl ?_
        refine a_aload_n (pc := 11) dX5_hitsAmong_11 rfl rfl ?_
        refine a_getfield (pc := 12) kg_X5_36 dX5_hitsAmong_12 (ha) rfl ?_
        refine a_alen (pc := 15) (t := 0) rfl dX5_hitsAmong_15 (hg) rfl ?_
        refine a_icmp_geN (pc := 16) (tgt := 45) dX5_hitsAmong_16 (by decide) (by omega) (by omega) (fun c16 => ?_) (fun c16 => ?_)
        · exact absurd c16 (by omega)
        · refine a_iload_n (pc := 19) dX5_hitsAmong_19 rfl rfl ?_
          refine a_aload_n (pc := 20) dX5_hitsAmong_20 rfl rfl ?_
          refine a_getfield (pc := 21) kg_X5_36 dX5_hitsAmong_21 (ha) rfl ?_
          refine a_iload_n (pc := 24) dX5_hitsAmong_24 rfl rfl ?_
          refine a_iaload (pc := 25) dX5_hitsAmong_25 (hg) (i) (rfl) (by omega) (by omega) ?_
          refine a_aload_n (pc := 26) dX5_hitsAmong_26 rfl rfl ?_
          refine a_iload_n (pc := 27) dX5_hitsAmong_27 rfl rfl ?_
          refine a_iaload (pc := 28) dX5_hitsAmong_28 (hr) (i) (rfl) (by omega) (by omega) ?_
          refine a_icmp_ne (pc := 29) (tgt := 36) dX5_hitsAmong_29 (by decide) (fun c29 => ?_) (fun c29 => ?_)
          · have e : cntN (fun i => decide (f i = g i)) (i + 1) = cntN (fun i => decide (f i = g i)) i := cntN_f (decide_eq_false (fun z => c29 z.symm))
            refine a_iconst (pc := 36) dX5_hitsAmong_36 ic_0 ?_
            refine a_iaddN (pc := 37) dX5_hitsAmong_37 ?_
            refine a_istore_n (pc := 38) dX5_hitsAmong_38 rfl (by decide) rfl ?_
            refine a_iincN (pc := 39) (n := 1) dX5_hitsAmong_39 (by decide) rfl (by decide) rfl ?_
            refine a_goto (pc := 42) (tgt := 4) dX5_hitsAmong_42 (by decide) ?_
            exact a_locR (ih (i + 1) (by omega) (by omega)) (by rw [e]; exact ⟨rfl, rfl, rfl, rfl, trivial⟩)
          · have e : cntN (fun i => decide (f i = g i)) (i + 1) = cntN (fun i => decide (f i = g i)) i + 1 := cntN_t (decide_eq_true c29.symm)
            refine a_iconst (pc := 32) dX5_hitsAmong_32 ic_1 ?_
            refine a_goto (pc := 33) (tgt := 37) dX5_hitsAmong_33 (by decide) ?_
            refine a_iaddN (pc := 37) dX5_hitsAmong_37 ?_
            refine a_istore_n (pc := 38) dX5_hitsAmong_38 rfl (by decide) rfl ?_
            refine a_iincN (pc := 39) (n := 1) dX5_hitsAmong_39 (by decide) rfl (by decide) rfl ?_
            refine a_goto (pc := 42) (tgt := 4) dX5_hitsAmong_42 (by decide) ?_
            exact a_locR (ih (i + 1) (by omega) (by omega)) (by rw [e]; exact ⟨rfl, rfl, rfl, rfl, trivial⟩)
  refine a_iconst (pc := 0) dX5_hitsAmong_0 ic_0 ?_
  refine a_istore_n (pc := 1) dX5_hitsAmong_1 rfl (by decide) rfl ?_
  refine a_iconst (pc := 2) dX5_hitsAmong_2 ic_0 ?_
  refine a_istore_n (pc := 3) dX5_hitsAmong_3 rfl (by decide) rfl ?_
  exact a_locR (lp _ 0 rfl (Nat.zero_le _)) ⟨rfl, rfl, rfl, rfl, trivial⟩

set_option maxRecDepth 4000 in
theorem f_chits {pn gu dy sl pt ks kp : Int32} {a pk cd gs sp lf kc kg n : Nat} {f g : Nat → Int32} (ha : h a = some (rO pn gu dy sl pt ks kp pk cd gs sp lf kc kg)) (hc : h cd = some (kI n f)) (hg : h gs = some (kI n g)) (hn : n ≤ 25) : Fn X 1 0 0 yX5_hits cX5_hits 1 (some .int) [.ref a] h (fun rv hv => rv = some (.int (nI (cntN (fun i => decide (f i = g i)) n))) ∧ hv = h) := by
  refine fn_of (by decide) (Nat.le_of_ble_eq_true rfl) (fun M hM => ?_)
  refine a_aload_n (pc := 0) dX5_hits_0 rfl rfl ?_
  refine a_aload_n (pc := 1) dX5_hits_1 rfl rfl ?_
  refine a_getfield (pc := 2) kg_X5_34 dX5_hits_2 (ha) rfl ?_
  refine a_callV (pc := 5) km_X5_51 dX5_hits_5 (f_hitsAm ha hc hg hn) rfl rfl (krecv_of (by rfl) ha) (rok_of hM (by decide) (by decide) (by omega) (by omega)) (Nat.le_of_ble_eq_true rfl) (fun r5 h5 hp5 => ?_)
  obtain ⟨rfl, rfl⟩ := hp5
  refine a_ret_i (pc := 8) hM rfl (rfl) dX5_hits_8 (by omega) (by omega) ?_
  exact ⟨rfl, rfl⟩

set_option maxRecDepth 4000 in
theorem f_cnext {pn gu dy sl pt ks kp : Int32} {a pk cd gs sp lf kc kg n : Nat} {f g : Nat → Int32} (ha : h a = some (rO pn gu dy sl pt ks kp pk cd gs sp lf kc kg)) (hc : h cd = some (kI n f)) (hg : h gs = some (kI n g)) (hn : n ≤ 25) : Fn X 0 0 0 yX5_nextHits cX5_nextHits 3 (some .int) [.ref a] h (fun rv hv => rv = some (.int (nI (cntN (fun i => decide (g i = f (i + 1))) (n - 1)))) ∧ hv = h) := by
  refine fn_of (by decide) (Nat.le_of_ble_eq_true rfl) (fun M hM => ?_)
  have lp : ∀ (d i : Nat), (n - 1) - i = d → i ≤ (n - 1) → AJ X M yX5_nextHits cX5_nextHits 3 (some .int) 4 [(0, .ref a), (1, .int (nI (cntN (fun i => decide (g i = f (i + 1))) i))), (2, .int (nI i))] [] h 0 0 := by
    intro d
    induction d with
    | zero =>
      intro i hd hle
      refine a_iload_n (pc := 4) dX5_nextHits_4 rfl rfl ?_
      refine a_iconst (pc := 5) dX5_nextHits_5 ic_1 ?_
      refine a_iaddN (pc := 6) dX5_nextHits_6 ?_
      refine a_aload_n (pc := 7) dX5_nextHits_7 rfl rfl ?_
      refine a_getfield (pc := 8) kg_X5_34 dX5_nextHits_8 (ha) rfl ?_
      refine a_alen (pc := 11) (t := 0) rfl dX5_nextHits_11 (hc) rfl ?_
      refine a_icmp_geN (pc := 12) (tgt := 46) dX5_nextHits_12 (by decide) (by omega) (by omega) (fun c12 => ?_) (fun c12 => ?_)
      · have hi : i = n - 1 := by omega
        subst hi
        refine a_iload_n (pc := 46) dX5_nextHits_46 rfl rfl ?_
        refine a_ret_i (pc := 47) hM rfl (rfl) dX5_nextHits_47 (by omega) (by omega) ?_
        exact ⟨rfl, rfl⟩
      · exact absurd c12 (by omega)
    | succ d ih =>
      intro i hd hle
      have hci := cntN_le (fun i => decide (g i = f (i + 1))) i
      refine a_iload_n (pc := 4) dX5_nextHits_4 rfl rfl ?_
      refine a_iconst (pc := 5) dX5_nextHits_5 ic_1 ?_
      refine a_iaddN (pc := 6) dX5_nextHits_6 ?_
      refine a_aload_n (pc := 7) dX5_nextHits_7 rfl rfl ?_
      refine a_getfield (pc := 8) kg_X5_34 dX5_nextHits_8 (ha) rfl ?_
      refine a_alen (pc := 11) (t := 0) rfl dX5_nextHits_11 (hc) rfl ?_
      refine a_icmp_geN (pc := 12) (tgt := 46) dX5_nextHits_12 (by decide) (by omega) (by omega) (fun c12 => ?_) (fun c12 => ?_)
      · exact absurd c12 (by omega)
      · refine a_iload_n (pc := 15) dX5_nextHits_15 rfl rfl ?_
        refine a_aload_n (pc := 16) dX5_nextHits_16 rfl rfl ?_
        refine a_getfield (pc := 17) kg_X5_36 dX5_nextHits_17 (ha) rfl ?_
        refine a_iload_n (pc := 20) dX5_nextHits_20 rfl rfl ?_
        refine a_iaload (pc := 21) dX5_nextHits_21 (hg) (i) (rfl) (by omega) (by omega) ?_
        refine a_aload_n (pc := 22) dX5_nextHits_22 rfl rfl ?_
        refine a_getfield (pc := 23) kg_X5_34 dX5_nextHits_23 (ha) rfl ?_
        refine a_iload_n (pc := 26) dX5_nextHits_26 rfl rfl ?_
        refine a_iconst (pc := 27) dX5_nextHits_27 ic_1 ?_
        refine a_iaddN (pc := 28) dX5_nextHits_28 ?_
        refine a_iaload (pc := 29) dX5_nextHits_29 (hc) (i + 1) (rfl) (by omega) (by omega) ?_
        refine a_icmp_ne (pc := 30) (tgt := 37) dX5_nextHits_30 (by decide) (fun c30 => ?_) (fun c30 => ?_)
        · have e : cntN (fun i => decide (g i = f (i + 1))) (i + 1) = cntN (fun i => decide (g i = f (i + 1))) i := cntN_f (decide_eq_false c30)
          refine a_iconst (pc := 37) dX5_nextHits_37 ic_0 ?_
          refine a_iaddN (pc := 38) dX5_nextHits_38 ?_
          refine a_istore_n (pc := 39) dX5_nextHits_39 rfl (by decide) rfl ?_
          refine a_iincN (pc := 40) (n := 1) dX5_nextHits_40 (by decide) rfl (by decide) rfl ?_
          refine a_goto (pc := 43) (tgt := 4) dX5_nextHits_43 (by decide) ?_
          exact a_locR (ih (i + 1) (by omega) (by omega)) (by rw [e]; exact ⟨rfl, rfl, rfl, trivial⟩)
        · have e : cntN (fun i => decide (g i = f (i + 1))) (i + 1) = cntN (fun i => decide (g i = f (i + 1))) i + 1 := cntN_t (decide_eq_true c30)
          refine a_iconst (pc := 33) dX5_nextHits_33 ic_1 ?_
          refine a_goto (pc := 34) (tgt := 38) dX5_nextHits_34 (by decide) ?_
          refine a_iaddN (pc := 38) dX5_nextHits_38 ?_
          refine a_istore_n (pc := 39) dX5_nextHits_39 rfl (by decide) rfl ?_
          refine a_iincN (pc := 40) (n := 1) dX5_nextHits_40 (by decide) rfl (by decide) rfl ?_
          refine a_goto (pc := 43) (tgt := 4) dX5_nextHits_43 (by decide) ?_
          exact a_locR (ih (i + 1) (by omega) (by omega)) (by rw [e]; exact ⟨rfl, rfl, rfl, trivial⟩)
  refine a_iconst (pc := 0) dX5_nextHits_0 ic_0 ?_
  refine a_istore_n (pc := 1) dX5_nextHits_1 rfl (by decide) rfl ?_
  refine a_iconst (pc := 2) dX5_nextHits_2 ic_0 ?_
  refine a_istore_n (pc := 3) dX5_nextHits_3 rfl (by decide) rfl ?_
  exact a_locR (lp _ 0 rfl (Nat.zero_le _)) ⟨rfl, rfl, rfl, trivial⟩

set_option maxRecDepth 4000 in
theorem f_calike {pn gu dy sl pt ks kp : Int32} {a pk cd gs sp lf kc kg n : Nat} {f g : Nat → Int32} (ha : h a = some (rO pn gu dy sl pt ks kp pk cd gs sp lf kc kg)) (hc : h cd = some (kI n f)) (hg : h gs = some (kI n g)) (hn : n ≤ 25) : Fn X 0 0 0 yX5_alike cX5_alike 3 (some .int) [.ref a] h (fun rv hv => rv = some (.int (nI (cntN (fun i => decide (f (i + 1) = f (i + 1 - 1))) (n - 1)))) ∧ hv = h) := by
  refine fn_of (by decide) (Nat.le_of_ble_eq_true rfl) (fun M hM => ?_)
  have lp : ∀ (d i : Nat), (n - 1) - i = d → i ≤ (n - 1) → AJ X M yX5_alike cX5_alike 3 (some .int) 4 [(0, .ref a), (1, .int (nI (cntN (fun i => decide (f (i + 1) = f (i + 1 - 1))) i))), (2, .int (nI (i + 1)))] [] h 0 0 := by
    intro d
    induction d with
    | zero =>
      intro i hd hle
      refine a_iload_n (pc := 4) dX5_alike_4 rfl rfl ?_
      refine a_aload_n (pc := 5) dX5_alike_5 rfl rfl ?_
      refine a_getfield (pc := 6) kg_X5_34 dX5_alike_6 (ha) rfl ?_
      refine a_alen (pc := 9) (t := 0) rfl dX5_alike_9 (hc) rfl ?_
      refine a_icmp_geN (pc := 10) (tgt := 44) dX5_alike_10 (by decide) (by omega) (by omega) (fun c10 => ?_) (fun c10 => ?_)
      · have hi : i = n - 1 := by omega
        subst hi
        refine a_iload_n (pc := 44) dX5_alike_44 rfl rfl ?_
        refine a_ret_i (pc := 45) hM rfl (rfl) dX5_alike_45 (by omega) (by omega) ?_
        exact ⟨rfl, rfl⟩
      · exact absurd c10 (by omega)
    | succ d ih =>
      intro i hd hle
      have hci := cntN_le (fun i => decide (f (i + 1) = f (i + 1 - 1))) i
      refine a_iload_n (pc := 4) dX5_alike_4 rfl rfl ?_
      refine a_aload_n (pc := 5) dX5_alike_5 rfl rfl ?_
      refine a_getfield (pc := 6) kg_X5_34 dX5_alike_6 (ha) rfl ?_
      refine a_alen (pc := 9) (t := 0) rfl dX5_alike_9 (hc) rfl ?_
      refine a_icmp_geN (pc := 10) (tgt := 44) dX5_alike_10 (by decide) (by omega) (by omega) (fun c10 => ?_) (fun c10 => ?_)
      · exact absurd c10 (by omega)
      · refine a_iload_n (pc := 13) dX5_alike_13 rfl rfl ?_
        refine a_aload_n (pc := 14) dX5_alike_14 rfl rfl ?_
        refine a_getfield (pc := 15) kg_X5_34 dX5_alike_15 (ha) rfl ?_
        refine a_iload_n (pc := 18) dX5_alike_18 rfl rfl ?_
        refine a_iaload (pc := 19) dX5_alike_19 (hc) (i + 1) (rfl) (by omega) (by omega) ?_
        refine a_aload_n (pc := 20) dX5_alike_20 rfl rfl ?_
        refine a_getfield (pc := 21) kg_X5_34 dX5_alike_21 (ha) rfl ?_
        refine a_iload_n (pc := 24) dX5_alike_24 rfl rfl ?_
        refine a_iconst (pc := 25) dX5_alike_25 ic_1 ?_
        refine a_isubN (pc := 26) dX5_alike_26 (by omega) ?_
        refine a_iaload (pc := 27) dX5_alike_27 (hc) (i + 1 - 1) (rfl) (by omega) (by omega) ?_
        refine a_icmp_ne (pc := 28) (tgt := 35) dX5_alike_28 (by decide) (fun c28 => ?_) (fun c28 => ?_)
        · have e : cntN (fun i => decide (f (i + 1) = f (i + 1 - 1))) (i + 1) = cntN (fun i => decide (f (i + 1) = f (i + 1 - 1))) i := cntN_f (decide_eq_false c28)
          refine a_iconst (pc := 35) dX5_alike_35 ic_0 ?_
          refine a_iaddN (pc := 36) dX5_alike_36 ?_
          refine a_istore_n (pc := 37) dX5_alike_37 rfl (by decide) rfl ?_
          refine a_iincN (pc := 38) (n := 1) dX5_alike_38 (by decide) rfl (by decide) rfl ?_
          refine a_goto (pc := 41) (tgt := 4) dX5_alike_41 (by decide) ?_
          exact a_locR (ih (i + 1) (by omega) (by omega)) (by rw [e]; exact ⟨rfl, rfl, rfl, trivial⟩)
        · have e : cntN (fun i => decide (f (i + 1) = f (i + 1 - 1))) (i + 1) = cntN (fun i => decide (f (i + 1) = f (i + 1 - 1))) i + 1 := cntN_t (decide_eq_true c28)
          refine a_iconst (pc := 31) dX5_alike_31 ic_1 ?_
          refine a_goto (pc := 32) (tgt := 36) dX5_alike_32 (by decide) ?_
          refine a_iaddN (pc := 36) dX5_alike_36 ?_
          refine a_istore_n (pc := 37) dX5_alike_37 rfl (by decide) rfl ?_
          refine a_iincN (pc := 38) (n := 1) dX5_alike_38 (by decide) rfl (by decide) rfl ?_
          refine a_goto (pc := 41) (tgt := 4) dX5_alike_41 (by decide) ?_
          exact a_locR (ih (i + 1) (by omega) (by omega)) (by rw [e]; exact ⟨rfl, rfl, rfl, trivial⟩)
  refine a_iconst (pc := 0) dX5_alike_0 ic_0 ?_
  refine a_istore_n (pc := 1) dX5_alike_1 rfl (by decide) rfl ?_
  refine a_iconst (pc := 2) dX5_alike_2 ic_1 ?_
  refine a_istore_n (pc := 3) dX5_alike_3 rfl (by decide) rfl ?_
  exact a_locR (lp _ 0 rfl (Nat.zero_le _)) ⟨rfl, rfl, rfl, trivial⟩

set_option maxRecDepth 4000 in
theorem f_guessesOf {pn gu dy sl pt ks kp : Int32} {a pk cd gs sp lf kc kg n : Nat} {f g : Nat → Int32} (ha : h a = some (rO pn gu dy sl pt ks kp pk cd gs sp lf kc kg)) (hc : h cd = some (kI n f)) (hg : h gs = some (kI n g)) (hn : n ≤ 25) (x : Int32) : Fn X 0 0 0 yX5_guessesOf cX5_guessesOf 4 (some .int) [.ref a, .int x] h (fun rv hv => rv = some (.int (nI (cntN (fun i => decide (g i = x)) n))) ∧ hv = h) := by
  refine fn_of (by decide) (Nat.le_of_ble_eq_true rfl) (fun M hM => ?_)
  have lp : ∀ (d i : Nat), n - i = d → i ≤ n → AJ X M yX5_guessesOf cX5_guessesOf 4 (some .int) 4 [(0, .ref a), (1, .int x), (2, .int (nI (cntN (fun i => decide (g i = x)) i))), (3, .int (nI i))] [] h 0 0 := by
    intro d
    induction d with
    | zero =>
      intro i hd hle
      refine a_iload_n (pc := 4) dX5_guessesOf_4 rfl rfl ?_
      refine a_aload_n (pc := 5) dX5_guessesOf_5 rfl rfl ?_
      refine a_getfield (pc := 6) kg_X5_36 dX5_guessesOf_6 (ha) rfl ?_
      refine a_alen (pc := 9) (t := 0) rfl dX5_guessesOf_9 (hg) rfl ?_
      refine a_icmp_geN (pc := 10) (tgt := 37) dX5_guessesOf_10 (by decide) (by omega) (by omega) (fun c10 => ?_) (fun c10 => ?_)
      · have hi : i = n := by omega
        subst hi
        refine a_iload_n (pc := 37) dX5_guessesOf_37 rfl rfl ?_
        refine a_ret_i (pc := 38) hM rfl (rfl) dX5_guessesOf_38 (by omega) (by omega) ?_
        exact ⟨rfl, rfl⟩
      · exact absurd c10 (by omega)
    | succ d ih =>
      intro i hd hle
      have hci := cntN_le (fun i => decide (g i = x)) i
      refine a_iload_n (pc := 4) dX5_guessesOf_4 rfl rfl ?_
      refine a_aload_n (pc := 5) dX5_guessesOf_5 rfl rfl ?_
      refine a_getfield (pc := 6) kg_X5_36 dX5_guessesOf_6 (ha) rfl ?_
      refine a_alen (pc := 9) (t := 0) rfl dX5_guessesOf_9 (hg) rfl ?_
      refine a_icmp_geN (pc := 10) (tgt := 37) dX5_guessesOf_10 (by decide) (by omega) (by omega) (fun c10 => ?_) (fun c10 => ?_)
      · exact absurd c10 (by omega)
      · refine a_iload_n (pc := 13) dX5_guessesOf_13 rfl rfl ?_
        refine a_aload_n (pc := 14) dX5_guessesOf_14 rfl rfl ?_
        refine a_getfield (pc := 15) kg_X5_36 dX5_guessesOf_15 (ha) rfl ?_
        refine a_iload_n (pc := 18) dX5_guessesOf_18 rfl rfl ?_
        refine a_iaload (pc := 19) dX5_guessesOf_19 (hg) (i) (rfl) (by omega) (by omega) ?_
        refine a_iload_n (pc := 20) dX5_guessesOf_20 rfl rfl ?_
        refine a_icmp_ne (pc := 21) (tgt := 28) dX5_guessesOf_21 (by decide) (fun c21 => ?_) (fun c21 => ?_)
        · have e : cntN (fun i => decide (g i = x)) (i + 1) = cntN (fun i => decide (g i = x)) i := cntN_f (decide_eq_false c21)
          refine a_iconst (pc := 28) dX5_guessesOf_28 ic_0 ?_
          refine a_iaddN (pc := 29) dX5_guessesOf_29 ?_
          refine a_istore_n (pc := 30) dX5_guessesOf_30 rfl (by decide) rfl ?_
          refine a_iincN (pc := 31) (n := 1) dX5_guessesOf_31 (by decide) rfl (by decide) rfl ?_
          refine a_goto (pc := 34) (tgt := 4) dX5_guessesOf_34 (by decide) ?_
          exact a_locR (ih (i + 1) (by omega) (by omega)) (by rw [e]; exact ⟨rfl, rfl, rfl, rfl, trivial⟩)
        · have e : cntN (fun i => decide (g i = x)) (i + 1) = cntN (fun i => decide (g i = x)) i + 1 := cntN_t (decide_eq_true c21)
          refine a_iconst (pc := 24) dX5_guessesOf_24 ic_1 ?_
          refine a_goto (pc := 25) (tgt := 29) dX5_guessesOf_25 (by decide) ?_
          refine a_iaddN (pc := 29) dX5_guessesOf_29 ?_
          refine a_istore_n (pc := 30) dX5_guessesOf_30 rfl (by decide) rfl ?_
          refine a_iincN (pc := 31) (n := 1) dX5_guessesOf_31 (by decide) rfl (by decide) rfl ?_
          refine a_goto (pc := 34) (tgt := 4) dX5_guessesOf_34 (by decide) ?_
          exact a_locR (ih (i + 1) (by omega) (by omega)) (by rw [e]; exact ⟨rfl, rfl, rfl, rfl, trivial⟩)
  refine a_iconst (pc := 0) dX5_guessesOf_0 ic_0 ?_
  refine a_istore_n (pc := 1) dX5_guessesOf_1 rfl (by decide) rfl ?_
  refine a_iconst (pc := 2) dX5_guessesOf_2 ic_0 ?_
  refine a_istore_n (pc := 3) dX5_guessesOf_3 rfl (by decide) rfl ?_
  exact a_locR (lp _ 0 rfl (Nat.zero_le _)) ⟨rfl, rfl, rfl, rfl, trivial⟩

def exA (pf g : Nat → Int32) (n : Nat) : Nat → Nat := sumN (fun j => (pf j).toNatClampNeg * cntN (fun i => decide (g i = nI j)) n)
theorem exA_le {pf g : Nat → Int32} {n : Nat} (hpf : ∀ j, j < 5 → okV (pf j) 10) {j : Nat} (hj : j ≤ 5) : exA pf g n j ≤ 10 * n * j := by
  induction j with
  | zero => exact Nat.le_refl 0
  | succ j ih =>
    have h1 := ih (by omega)
    have h2 : (pf j).toNatClampNeg * cntN (fun i => decide (g i = nI j)) n ≤ 10 * n := Nat.mul_le_mul (Nat.le_of_lt (hpf j (by omega)).2) (cntN_le _ _)
    show exA pf g n j + _ ≤ 10 * n * (j + 1)
    rw [Nat.mul_succ]
    exact Nat.add_le_add h1 h2
set_option maxRecDepth 4000 in
theorem f_expAb {pn gu dy sl pt ks kp : Int32} {a pk cd gs sp lf kc kg n : Nat} {f g : Nat → Int32} (ha : h a = some (rO pn gu dy sl pt ks kp pk cd gs sp lf kc kg)) (hc : h cd = some (kI n f)) (hg : h gs = some (kI n g)) (hn : n ≤ 25) {pa : Nat} {pc : Int32} {pf : Nat → Int32} (hp : h pk = some (kO 3 [.ref pa, .int pc])) (hpa : h pa = some (kI 5 pf)) (hpf : ∀ j, j < 5 → okV (pf j) 10) : Fn X 1 0 0 yX5_expectedAbove cX5_expectedAbove 3 (some .int) [.ref a] h (fun rv hv => rv = some (.int (nI (exA pf g n 5))) ∧ hv = h) := by
  refine fn_of (by decide) (Nat.le_of_ble_eq_true rfl) (fun M hM => ?_)
  have lp : ∀ (d i : Nat), 5 - i = d → i ≤ 5 → AJ X M yX5_expectedAbove cX5_expectedAbove 3 (some .int) 4 [(0, .ref a), (1, .int (nI (exA pf g n i))), (2, .int (nI i))] [] h 0 0 := by
    intro d
    induction d with
    | zero =>
      intro i hd hle
      refine a_iload_n (pc := 4) dX5_expectedAbove_4 rfl rfl ?_
      refine a_iconst (pc := 5) dX5_expectedAbove_5 ic_5 ?_
      refine a_icmp_geN (pc := 6) (tgt := 33) dX5_expectedAbove_6 (by decide) (by omega) (by omega) (fun c6 => ?_) (fun c6 => ?_)
      · have hi : i = 5 := by omega
        subst hi
        refine a_iload_n (pc := 33) dX5_expectedAbove_33 rfl rfl ?_
        refine a_ret_i (pc := 34) hM rfl (rfl) dX5_expectedAbove_34 (by omega) (by omega) ?_
        exact ⟨rfl, rfl⟩
      · exact absurd c6 (by omega)
    | succ d ih =>
      intro i hd hle
      refine a_iload_n (pc := 4) dX5_expectedAbove_4 rfl rfl ?_
      refine a_iconst (pc := 5) dX5_expectedAbove_5 ic_5 ?_
      refine a_icmp_geN (pc := 6) (tgt := 33) dX5_expectedAbove_6 (by decide) (by omega) (by omega) (fun c6 => ?_) (fun c6 => ?_)
      · exact absurd c6 (by omega)
      · refine a_iload_n (pc := 9) dX5_expectedAbove_9 rfl rfl ?_
        refine a_aload_n (pc := 10) dX5_expectedAbove_10 rfl rfl ?_
        refine a_getfield (pc := 11) kg_X5_19 dX5_expectedAbove_11 (ha) rfl ?_
        refine a_getfield (pc := 14) kg_X5_48 dX5_expectedAbove_14 (hp) rfl ?_
        refine a_iload_n (pc := 17) dX5_expectedAbove_17 rfl rfl ?_
        refine a_iaload (pc := 18) dX5_expectedAbove_18 (hpa) (i) (rfl) (by omega) (by omega) ?_
        refine a_topi ((hpf i (by omega)).1) ?_
        refine a_aload_n (pc := 19) dX5_expectedAbove_19 rfl rfl ?_
        refine a_iload_n (pc := 20) dX5_expectedAbove_20 rfl rfl ?_
        refine a_callV (pc := 21) km_X5_65 dX5_expectedAbove_21 (f_guessesOf ha hc hg hn (nI i)) rfl rfl (krecv_of (by rfl) ha) (rok_of hM (by decide) (by decide) (by omega) (by omega)) (Nat.le_of_ble_eq_true rfl) (fun r21 h21 hp21 => ?_)
        obtain ⟨rfl, rfl⟩ := hp21
        refine a_imulN (pc := 24) dX5_expectedAbove_24 ?_
        refine a_iaddN (pc := 25) dX5_expectedAbove_25 ?_
        refine a_istore_n (pc := 26) dX5_expectedAbove_26 rfl (by decide) rfl ?_
        refine a_iincN (pc := 27) (n := 1) dX5_expectedAbove_27 (by decide) rfl (by decide) rfl ?_
        refine a_goto (pc := 30) (tgt := 4) dX5_expectedAbove_30 (by decide) ?_
        exact a_locR (ih (i + 1) (by omega) (by omega)) ⟨rfl, rfl, rfl, trivial⟩
  refine a_iconst (pc := 0) dX5_expectedAbove_0 ic_0 ?_
  refine a_istore_n (pc := 1) dX5_expectedAbove_1 rfl (by decide) rfl ?_
  refine a_iconst (pc := 2) dX5_expectedAbove_2 ic_0 ?_
  refine a_istore_n (pc := 3) dX5_expectedAbove_3 rfl (by decide) rfl ?_
  exact a_locR (lp _ 0 rfl (Nat.zero_le _)) ⟨rfl, rfl, rfl, trivial⟩

set_option maxRecDepth 4000 in
theorem f_mostLeft {pn gu dy sl pt ks kp : Int32} {a pk cd gs sp lf kc kg n : Nat} {f g : Nat → Int32} (ha : h a = some (rO pn gu dy sl pt ks kp pk cd gs sp lf kc kg)) (hc : h cd = some (kI n f)) (hg : h gs = some (kI n g)) (hn : n ≤ 25) {l : Nat → Int32} (hl : h lf = some (kI 5 l)) : Fn X 0 0 0 yX5_mostLeft cX5_mostLeft 3 (some .int) [.ref a] h (fun rv hv => rv = some (.int (nI (mostL l 4))) ∧ hv = h) := by
  refine fn_of (by decide) (Nat.le_of_ble_eq_true rfl) (fun M hM => ?_)
  have lp : ∀ (d i : Nat), 4 - i = d → i ≤ 4 → AJ X M yX5_mostLeft cX5_mostLeft 3 (some .int) 4 [(0, .ref a), (1, .int (nI (mostL l i))), (2, .int (nI (i + 1)))] [] h 0 0 := by
    intro d
    induction d with
    | zero =>
      intro i hd hle
      have hml := mostL_le l i
      refine a_iload_n (pc := 4) dX5_mostLeft_4 rfl rfl ?_
      refine a_iconst (pc := 5) dX5_mostLeft_5 ic_5 ?_
      refine a_icmp_geN (pc := 6) (tgt := 32) dX5_mostLeft_6 (by decide) (by omega) (by omega) (fun c6 => ?_) (fun c6 => ?_)
      · have hi : i = 4 := by omega
        subst hi
        refine a_iload_n (pc := 32) dX5_mostLeft_32 rfl rfl ?_
        refine a_ret_i (pc := 33) hM rfl (rfl) dX5_mostLeft_33 (by omega) (by omega) ?_
        exact ⟨rfl, rfl⟩
      · exact absurd c6 (by omega)
    | succ d ih =>
      intro i hd hle
      have hml := mostL_le l i
      refine a_iload_n (pc := 4) dX5_mostLeft_4 rfl rfl ?_
      refine a_iconst (pc := 5) dX5_mostLeft_5 ic_5 ?_
      refine a_icmp_geN (pc := 6) (tgt := 32) dX5_mostLeft_6 (by decide) (by omega) (by omega) (fun c6 => ?_) (fun c6 => ?_)
      · exact absurd c6 (by omega)
      · refine a_aload_n (pc := 9) dX5_mostLeft_9 rfl rfl ?_
        refine a_getfield (pc := 10) kg_X5_9 dX5_mostLeft_10 (ha) rfl ?_
        refine a_iload_n (pc := 13) dX5_mostLeft_13 rfl rfl ?_
        refine a_iaload (pc := 14) dX5_mostLeft_14 (hl) (i + 1) (rfl) (by omega) (by omega) ?_
        refine a_aload_n (pc := 15) dX5_mostLeft_15 rfl rfl ?_
        refine a_getfield (pc := 16) kg_X5_9 dX5_mostLeft_16 (ha) rfl ?_
        refine a_iload_n (pc := 19) dX5_mostLeft_19 rfl rfl ?_
        refine a_iaload (pc := 20) dX5_mostLeft_20 (hl) (mostL l i) (rfl) (by omega) (by omega) ?_
        refine a_icmp_le (pc := 21) (tgt := 26) dX5_mostLeft_21 (by decide) (fun c21 => ?_) (fun c21 => ?_)
        · have e : mostL l (i + 1) = mostL l i := by rw [mostL]; exact if_pos c21
          refine a_iincN (pc := 26) (n := 1) dX5_mostLeft_26 (by decide) rfl (by decide) rfl ?_
          refine a_goto (pc := 29) (tgt := 4) dX5_mostLeft_29 (by decide) ?_
          exact a_locR (ih (i + 1) (by omega) (by omega)) (by rw [e]; exact ⟨rfl, rfl, rfl, trivial⟩)
        · have e : mostL l (i + 1) = i + 1 := by rw [mostL]; exact if_neg c21
          refine a_iload_n (pc := 24) dX5_mostLeft_24 rfl rfl ?_
          refine a_istore_n (pc := 25) dX5_mostLeft_25 rfl (by decide) rfl ?_
          refine a_iincN (pc := 26) (n := 1) dX5_mostLeft_26 (by decide) rfl (by decide) rfl ?_
          refine a_goto (pc := 29) (tgt := 4) dX5_mostLeft_29 (by decide) ?_
          exact a_locR (ih (i + 1) (by omega) (by omega)) (by rw [e]; exact ⟨rfl, rfl, rfl, trivial⟩)
  refine a_iconst (pc := 0) dX5_mostLeft_0 ic_0 ?_
  refine a_istore_n (pc := 1) dX5_mostLeft_1 rfl (by decide) rfl ?_
  refine a_iconst (pc := 2) dX5_mostLeft_2 ic_1 ?_
  refine a_istore_n (pc := 3) dX5_mostLeft_3 rfl (by decide) rfl ?_
  exact a_locR (lp _ 0 rfl (Nat.zero_le _)) ⟨rfl, rfl, rfl, trivial⟩

set_option maxRecDepth 4000 in
theorem f_byLeftC {pn gu dy sl pt ks kp : Int32} {a pk cd gs sp lf kc kg n : Nat} {f g : Nat → Int32} (ha : h a = some (rO pn gu dy sl pt ks kp pk cd gs sp lf kc kg)) (hc : h cd = some (kI n f)) (hg : h gs = some (kI n g)) (hn : n ≤ 25) {pa : Nat} {pc : Int32} {pf : Nat → Int32} (hp : h pk = some (kO 3 [.ref pa, .int pc])) (hpa : h pa = some (kI 5 pf)) (hpf : ∀ j, j < 5 → okV (pf j) 10) {l0 : Nat → Int32} (hl : h lf = some (kI 5 l0)) (hok : ∀ i, i < n → okV (f i) 5) (hcl : cd ≠ lf) (hgl : gs ≠ lf) : Fn X 1 0 0 yX5_hitsByLeft cX5_hitsByLeft 3 (some .int) [.ref a] h (fun rv hv => rv = some (.int (nI (byL (va_cpy pf l0 0 0 5) (fun i => (f i).toNatClampNeg) n).2)) ∧ hv = (kput h lf (kI 5 (byL (va_cpy pf l0 0 0 5) (fun i => (f i).toNatClampNeg) n).1))) := by
  have hal : a ≠ lf := oi_ne ha hl
  refine fn_of (by decide) (Nat.le_of_ble_eq_true rfl) (fun M hM => ?_)
  have lp : ∀ (d i : Nat), n - i = d → i ≤ n → AJ X M yX5_hitsByLeft cX5_hitsByLeft 3 (some .int) 21 [(0, .ref a), (1, .int (nI (byL (va_cpy pf l0 0 0 5) (fun i => (f i).toNatClampNeg) i).2)), (2, .int (nI i))] [] (kput h lf (kI 5 (byL (va_cpy pf l0 0 0 5) (fun i => (f i).toNatClampNeg) i).1)) 0 0 := by
    intro d
    induction d with
    | zero =>
      intro i hd hle
      refine a_iload_n (pc := 21) dX5_hitsByLeft_21 rfl rfl ?_
      refine a_aload_n (pc := 22) dX5_hitsByLeft_22 rfl rfl ?_
      refine a_getfield (pc := 23) kg_X5_34 dX5_hitsByLeft_23 ((kput_ne hal).trans ha) rfl ?_
      refine a_alen (pc := 26) (t := 0) rfl dX5_hitsByLeft_26 ((kput_ne hcl).trans hc) rfl ?_
      refine a_icmp_geN (pc := 27) (tgt := 72) dX5_hitsByLeft_27 (by decide) (by omega) (by omega) (fun c27 => ?_) (fun c27 => ?_)
      · have hi : i = n := by omega
        subst hi
        refine a_iload_n (pc := 72) dX5_hitsByLeft_72 rfl rfl ?_
        refine a_ret_i (pc := 73) hM rfl (rfl) dX5_hitsByLeft_73 (by omega) (by omega) ?_
        exact ⟨rfl, rfl⟩
      · exact absurd c27 (by omega)
    | succ d ih =>
      intro i hd hle
      have hbl := byL_le (va_cpy pf l0 0 0 5) (fun i => (f i).toNatClampNeg) i
      have hokf := (hok i (by omega)).2
      have hml := mostL_le (byL (va_cpy pf l0 0 0 5) (fun i => (f i).toNatClampNeg) i).1 4
      refine a_iload_n (pc := 21) dX5_hitsByLeft_21 rfl rfl ?_
      refine a_aload_n (pc := 22) dX5_hitsByLeft_22 rfl rfl ?_
      refine a_getfield (pc := 23) kg_X5_34 dX5_hitsByLeft_23 ((kput_ne hal).trans ha) rfl ?_
      refine a_alen (pc := 26) (t := 0) rfl dX5_hitsByLeft_26 ((kput_ne hcl).trans hc) rfl ?_
      refine a_icmp_geN (pc := 27) (tgt := 72) dX5_hitsByLeft_27 (by decide) (by omega) (by omega) (fun c27 => ?_) (fun c27 => ?_)
      · exact absurd c27 (by omega)
      · refine a_iload_n (pc := 30) dX5_hitsByLeft_30 rfl rfl ?_
        refine a_aload_n (pc := 31) dX5_hitsByLeft_31 rfl rfl ?_
        refine a_getfield (pc := 32) kg_X5_34 dX5_hitsByLeft_32 ((kput_ne hal).trans ha) rfl ?_
        refine a_iload_n (pc := 35) dX5_hitsByLeft_35 rfl rfl ?_
        refine a_iaload (pc := 36) dX5_hitsByLeft_36 ((kput_ne hcl).trans hc) (i) (rfl) (by omega) (by omega) ?_
        refine a_topi ((hok i (by omega)).1) ?_
        refine a_aload_n (pc := 37) dX5_hitsByLeft_37 rfl rfl ?_
        refine a_callV (pc := 38) km_X5_61 dX5_hitsByLeft_38 (f_mostLeft (h := (kput h lf (kI 5 (byL (va_cpy pf l0 0 0 5) (fun i => (f i).toNatClampNeg) i).1))) ((kput_ne hal).trans ha) ((kput_ne hcl).trans hc) ((kput_ne hgl).trans hg) hn kput_eq) rfl rfl (krecv_of (by rfl) ((kput_ne hal).trans ha)) (rok_of hM (by decide) (by decide) (by omega) (by omega)) (Nat.le_of_ble_eq_true rfl) (fun r38 h38 hp38 => ?_)
        obtain ⟨rfl, rfl⟩ := hp38
        refine a_icmp_neN (pc := 41) (tgt := 48) dX5_hitsByLeft_41 (by decide) (by omega) (by omega) (fun c41 => ?_) (fun c41 => ?_)
        · have e : (byL (va_cpy pf l0 0 0 5) (fun i => (f i).toNatClampNeg) (i + 1)).2 = (byL (va_cpy pf l0 0 0 5) (fun i => (f i).toNatClampNeg) i).2 := by show _ + (if _ then 1 else 0) = _; rw [if_neg c41]; rfl
          refine a_iconst (pc := 48) dX5_hitsByLeft_48 ic_0 ?_
          refine a_iaddN (pc := 49) dX5_hitsByLeft_49 ?_
          refine a_istore_n (pc := 50) dX5_hitsByLeft_50 rfl (by decide) rfl ?_
          refine a_aload_n (pc := 51) dX5_hitsByLeft_51 rfl rfl ?_
          refine a_getfield (pc := 52) kg_X5_9 dX5_hitsByLeft_52 ((kput_ne hal).trans ha) rfl ?_
          refine a_aload_n (pc := 55) dX5_hitsByLeft_55 rfl rfl ?_
          refine a_getfield (pc := 56) kg_X5_34 dX5_hitsByLeft_56 ((kput_ne hal).trans ha) rfl ?_
          refine a_iload_n (pc := 59) dX5_hitsByLeft_59 rfl rfl ?_
          refine a_iaload (pc := 60) dX5_hitsByLeft_60 ((kput_ne hcl).trans hc) (i) (rfl) (by omega) (by omega) ?_
          refine a_topi ((hok i (by omega)).1) ?_
          refine a_dup2 (pc := 61) dX5_hitsByLeft_61 rfl rfl ?_
          refine a_iaload (pc := 62) dX5_hitsByLeft_62 (kput_eq) ((f i).toNatClampNeg) (rfl) (by omega) (by omega) ?_
          refine a_iconst (pc := 63) dX5_hitsByLeft_63 ic_1 ?_
          refine a_isub (pc := 64) dX5_hitsByLeft_64 ?_
          refine a_iastore (pc := 65) dX5_hitsByLeft_65 (kput_eq) ((f i).toNatClampNeg) (rfl) (by omega) (by omega) ?_
          refine a_hp (show _ = (kput h lf (kI 5 (byL (va_cpy pf l0 0 0 5) (fun i => (f i).toNatClampNeg) (i + 1)).1)) from kput_put) ?_
          refine a_iincN (pc := 66) (n := 1) dX5_hitsByLeft_66 (by decide) rfl (by decide) rfl ?_
          refine a_goto (pc := 69) (tgt := 21) dX5_hitsByLeft_69 (by decide) ?_
          exact a_locR (ih (i + 1) (by omega) (by omega)) (by rw [e]; exact ⟨rfl, rfl, rfl, trivial⟩)
        · have e : (byL (va_cpy pf l0 0 0 5) (fun i => (f i).toNatClampNeg) (i + 1)).2 = (byL (va_cpy pf l0 0 0 5) (fun i => (f i).toNatClampNeg) i).2 + 1 := by show _ + (if _ then 1 else 0) = _; rw [if_pos c41]
          refine a_iconst (pc := 44) dX5_hitsByLeft_44 ic_1 ?_
          refine a_goto (pc := 45) (tgt := 49) dX5_hitsByLeft_45 (by decide) ?_
          refine a_iaddN (pc := 49) dX5_hitsByLeft_49 ?_
          refine a_istore_n (pc := 50) dX5_hitsByLeft_50 rfl (by decide) rfl ?_
          refine a_aload_n (pc := 51) dX5_hitsByLeft_51 rfl rfl ?_
          refine a_getfield (pc := 52) kg_X5_9 dX5_hitsByLeft_52 ((kput_ne hal).trans ha) rfl ?_
          refine a_aload_n (pc := 55) dX5_hitsByLeft_55 rfl rfl ?_
          refine a_getfield (pc := 56) kg_X5_34 dX5_hitsByLeft_56 ((kput_ne hal).trans ha) rfl ?_
          refine a_iload_n (pc := 59) dX5_hitsByLeft_59 rfl rfl ?_
          refine a_iaload (pc := 60) dX5_hitsByLeft_60 ((kput_ne hcl).trans hc) (i) (rfl) (by omega) (by omega) ?_
          refine a_topi ((hok i (by omega)).1) ?_
          refine a_dup2 (pc := 61) dX5_hitsByLeft_61 rfl rfl ?_
          refine a_iaload (pc := 62) dX5_hitsByLeft_62 (kput_eq) ((f i).toNatClampNeg) (rfl) (by omega) (by omega) ?_
          refine a_iconst (pc := 63) dX5_hitsByLeft_63 ic_1 ?_
          refine a_isub (pc := 64) dX5_hitsByLeft_64 ?_
          refine a_iastore (pc := 65) dX5_hitsByLeft_65 (kput_eq) ((f i).toNatClampNeg) (rfl) (by omega) (by omega) ?_
          refine a_hp (show _ = (kput h lf (kI 5 (byL (va_cpy pf l0 0 0 5) (fun i => (f i).toNatClampNeg) (i + 1)).1)) from kput_put) ?_
          refine a_iincN (pc := 66) (n := 1) dX5_hitsByLeft_66 (by decide) rfl (by decide) rfl ?_
          refine a_goto (pc := 69) (tgt := 21) dX5_hitsByLeft_69 (by decide) ?_
          exact a_locR (ih (i + 1) (by omega) (by omega)) (by rw [e]; exact ⟨rfl, rfl, rfl, trivial⟩)
  refine a_aload_n (pc := 0) dX5_hitsByLeft_0 rfl rfl ?_
  refine a_getfield (pc := 1) kg_X5_19 dX5_hitsByLeft_1 (ha) rfl ?_
  refine a_getfield (pc := 4) kg_X5_48 dX5_hitsByLeft_4 (hp) rfl ?_
  refine a_iconst (pc := 7) dX5_hitsByLeft_7 ic_0 ?_
  refine a_aload_n (pc := 8) dX5_hitsByLeft_8 rfl rfl ?_
  refine a_getfield (pc := 9) kg_X5_9 dX5_hitsByLeft_9 (ha) rfl ?_
  refine a_iconst (pc := 12) dX5_hitsByLeft_12 ic_0 ?_
  refine a_iconst (pc := 13) dX5_hitsByLeft_13 ic_5 ?_
  refine a_copyI (pc := 14) kcp_X5_55 dX5_hitsByLeft_14 (hpa) (hl) rfl rfl rfl (by omega) (by omega) (by omega) (by omega)  (by rw [hM.1]; simp only [rmd]; omega) (by rw [hM.1]; simp [rmd, Value.category] <;> omega) ?_
  refine a_iconst (pc := 17) dX5_hitsByLeft_17 ic_0 ?_
  refine a_istore_n (pc := 18) dX5_hitsByLeft_18 rfl (by decide) rfl ?_
  refine a_iconst (pc := 19) dX5_hitsByLeft_19 ic_0 ?_
  refine a_istore_n (pc := 20) dX5_hitsByLeft_20 rfl (by decide) rfl ?_
  exact a_locR (lp _ 0 rfl (Nat.zero_le _)) ⟨rfl, rfl, rfl, trivial⟩

end CRN

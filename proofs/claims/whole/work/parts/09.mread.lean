/-! THE REFERENCE, what it reads -/
section ML2
variable {X : KX} {m : Nat → Nat} {s : MST} {h0 : AH}
def nextP (s : MST) (r n : Nat) : Nat := cntN (fun i => decide (s.2.1 15 (25 * r + i) = s.2.1 14 (25 * r + i + 1))) (n - 1)
def alikeP (s : MST) (r n : Nat) : Nat := cntN (fun i => decide (s.2.1 14 (25 * r + (i + 1)) = s.2.1 14 (25 * r + (i + 1) - 1))) (n - 1)
set_option maxRecDepth 4000 in
theorem f_nextOf (hm : MI m) {r n : Nat} (hr : r < 16) (hz : Rz s r n) : Fn X 1 0 0 yX12_nextOf cX12_nextOf 4 (some .int) [.ref (m 65), .int (nI r)] (mh m s h0) (fun rv hv => rv = some (.int (nI (nextP s r n))) ∧ hv = mh m s h0) := by
  refine fn_of (by decide) (Nat.le_of_ble_eq_true rfl) (fun M hM => ?_)
  have hle : n ≤ 25 := hz.choose_spec.2.2.2
  have loop : ∀ j k : Nat, (n - 1) - k = j → k ≤ (n - 1) → ∀ c : Nat, c = cntN (fun i => decide (s.2.1 15 (25 * r + i) = s.2.1 14 (25 * r + i + 1))) k → AJ X M yX12_nextOf cX12_nextOf 4 (some .int) 4 [(0, .ref (m 65)), (1, .int (nI r)), (2, .int (nI c)), (3, .int (nI (k)))] [] (mh m s h0) 0 0 := by
    intro j
    induction j with
    | zero =>
      intro k hk hkl c hc
      have hcl : c ≤ k := by rw [hc]; exact cntN_le _ _
      refine a_iload_n (pc := 4) dX12_nextOf_4 rfl rfl ?_
      refine a_iconst (pc := 5) dX12_nextOf_5 ic_1 ?_
      refine a_iaddN (pc := 6) dX12_nextOf_6 ?_
      refine a_aload_n (pc := 7) dX12_nextOf_7 rfl rfl ?_
      refine a_iload_n (pc := 8) dX12_nextOf_8 rfl rfl ?_
      refine a_callV (pc := 9) km_X12_161 dX12_nextOf_9 (f_sizeOf hm hr hz) rfl rfl (krecv_of (ci := 12) rfl (m_obj hm)) (rok_of hM (by decide) (by decide) (by omega) (by omega)) (Nat.le_of_ble_eq_true rfl) (fun r9 h9 hp9 => ?_)
      obtain ⟨rfl, rfl⟩ := hp9
      refine a_icmp_geN (pc := 12) (tgt := 56) dX12_nextOf_12 (by decide) (by omega) (by omega) (fun c12 => ?_) (fun c12 => ?_)
      · have hkn : k = (n - 1) := by omega
        refine a_iload_n (pc := 56) dX12_nextOf_56 rfl rfl ?_
        refine a_ret_i (pc := 57) hM rfl (rfl) dX12_nextOf_57 (by omega) (by omega) ?_
        exact ⟨by rw [hc, hkn]; rfl, rfl⟩
      · exact absurd c12 (by omega)
    | succ j ih =>
      intro k hk hkl c hc
      have hcl : c ≤ k := by rw [hc]; exact cntN_le _ _
      refine a_iload_n (pc := 4) dX12_nextOf_4 rfl rfl ?_
      refine a_iconst (pc := 5) dX12_nextOf_5 ic_1 ?_
      refine a_iaddN (pc := 6) dX12_nextOf_6 ?_
      refine a_aload_n (pc := 7) dX12_nextOf_7 rfl rfl ?_
      refine a_iload_n (pc := 8) dX12_nextOf_8 rfl rfl ?_
      refine a_callV (pc := 9) km_X12_161 dX12_nextOf_9 (f_sizeOf hm hr hz) rfl rfl (krecv_of (ci := 12) rfl (m_obj hm)) (rok_of hM (by decide) (by decide) (by omega) (by omega)) (Nat.le_of_ble_eq_true rfl) (fun r9 h9 hp9 => ?_)
      obtain ⟨rfl, rfl⟩ := hp9
      refine a_icmp_geN (pc := 12) (tgt := 56) dX12_nextOf_12 (by decide) (by omega) (by omega) (fun c12 => ?_) (fun c12 => ?_)
      · exact absurd c12 (by omega)
      · refine a_iload_n (pc := 15) dX12_nextOf_15 rfl rfl ?_
        refine a_aload_n (pc := 16) dX12_nextOf_16 rfl rfl ?_
        refine a_getfield (pc := 17) kg_X12_45 dX12_nextOf_17 (m_obj hm) rfl ?_
        refine a_bipush (pc := 20) dX12_nextOf_20 ib_25 ?_
        refine a_iload_n (pc := 22) dX12_nextOf_22 rfl rfl ?_
        refine a_imulN (pc := 23) dX12_nextOf_23 ?_
        refine a_iload_n (pc := 24) dX12_nextOf_24 rfl rfl ?_
        refine a_iaddN (pc := 25) dX12_nextOf_25 ?_
        refine a_iaload (pc := 26) dX12_nextOf_26 (m_a15 hm) (_) (rfl) (by omega) (by omega) ?_
        refine a_aload_n (pc := 27) dX12_nextOf_27 rfl rfl ?_
        refine a_getfield (pc := 28) kg_X12_42 dX12_nextOf_28 (m_obj hm) rfl ?_
        refine a_bipush (pc := 31) dX12_nextOf_31 ib_25 ?_
        refine a_iload_n (pc := 33) dX12_nextOf_33 rfl rfl ?_
        refine a_imulN (pc := 34) dX12_nextOf_34 ?_
        refine a_iload_n (pc := 35) dX12_nextOf_35 rfl rfl ?_
        refine a_iaddN (pc := 36) dX12_nextOf_36 ?_
        refine a_iconst (pc := 37) dX12_nextOf_37 ic_1 ?_
        refine a_iaddN (pc := 38) dX12_nextOf_38 ?_
        refine a_iaload (pc := 39) dX12_nextOf_39 (m_a14 hm) (_) (rfl) (by omega) (by omega) ?_
        refine a_icmp_ne (pc := 40) (tgt := 47) dX12_nextOf_40 (by decide) (fun c40 => ?_) (fun c40 => ?_)
        · have hc1 : c + 0 = cntN (fun i => decide (s.2.1 15 (25 * r + i) = s.2.1 14 (25 * r + i + 1))) (k + 1) := by rw [hc]; exact (cntN_f (decide_eq_false c40)).symm
          refine a_iconst (pc := 47) dX12_nextOf_47 ic_0 ?_
          refine a_iaddN (pc := 48) dX12_nextOf_48 ?_
          refine a_istore_n (pc := 49) dX12_nextOf_49 rfl (by decide) rfl ?_
          refine a_iincN (pc := 50) (n := 1) dX12_nextOf_50 (by decide) rfl (by decide) rfl ?_
          refine a_goto (pc := 53) (tgt := 4) dX12_nextOf_53 (by decide) ?_
          exact a_locR (ih (k + 1) (by omega) (by omega) _ hc1) ⟨rfl, rfl, rfl, rfl, trivial⟩
        · have hc1 : c + 1 = cntN (fun i => decide (s.2.1 15 (25 * r + i) = s.2.1 14 (25 * r + i + 1))) (k + 1) := by rw [hc]; exact (cntN_t (decide_eq_true c40)).symm
          refine a_iconst (pc := 43) dX12_nextOf_43 ic_1 ?_
          refine a_goto (pc := 44) (tgt := 48) dX12_nextOf_44 (by decide) ?_
          refine a_iaddN (pc := 48) dX12_nextOf_48 ?_
          refine a_istore_n (pc := 49) dX12_nextOf_49 rfl (by decide) rfl ?_
          refine a_iincN (pc := 50) (n := 1) dX12_nextOf_50 (by decide) rfl (by decide) rfl ?_
          refine a_goto (pc := 53) (tgt := 4) dX12_nextOf_53 (by decide) ?_
          exact a_locR (ih (k + 1) (by omega) (by omega) _ hc1) ⟨rfl, rfl, rfl, rfl, trivial⟩
  refine a_iconst (pc := 0) dX12_nextOf_0 ic_0 ?_
  refine a_istore_n (pc := 1) dX12_nextOf_1 rfl (by decide) rfl ?_
  refine a_iconst (pc := 2) dX12_nextOf_2 ic_0 ?_
  refine a_istore_n (pc := 3) dX12_nextOf_3 rfl (by decide) rfl ?_
  exact a_locR (loop _ 0 rfl (Nat.zero_le _) 0 rfl) ⟨rfl, rfl, rfl, rfl, trivial⟩

set_option maxRecDepth 4000 in
theorem f_alikeOf (hm : MI m) {r n : Nat} (hr : r < 16) (hz : Rz s r n) : Fn X 1 0 0 yX12_alikeOf cX12_alikeOf 4 (some .int) [.ref (m 65), .int (nI r)] (mh m s h0) (fun rv hv => rv = some (.int (nI (alikeP s r n))) ∧ hv = mh m s h0) := by
  refine fn_of (by decide) (Nat.le_of_ble_eq_true rfl) (fun M hM => ?_)
  have hle : n ≤ 25 := hz.choose_spec.2.2.2
  have loop : ∀ j k : Nat, (n - 1) - k = j → k ≤ (n - 1) → ∀ c : Nat, c = cntN (fun i => decide (s.2.1 14 (25 * r + (i + 1)) = s.2.1 14 (25 * r + (i + 1) - 1))) k → AJ X M yX12_alikeOf cX12_alikeOf 4 (some .int) 4 [(0, .ref (m 65)), (1, .int (nI r)), (2, .int (nI c)), (3, .int (nI (k + 1)))] [] (mh m s h0) 0 0 := by
    intro j
    induction j with
    | zero =>
      intro k hk hkl c hc
      have hcl : c ≤ k := by rw [hc]; exact cntN_le _ _
      refine a_iload_n (pc := 4) dX12_alikeOf_4 rfl rfl ?_
      refine a_aload_n (pc := 5) dX12_alikeOf_5 rfl rfl ?_
      refine a_iload_n (pc := 6) dX12_alikeOf_6 rfl rfl ?_
      refine a_callV (pc := 7) km_X12_161 dX12_alikeOf_7 (f_sizeOf hm hr hz) rfl rfl (krecv_of (ci := 12) rfl (m_obj hm)) (rok_of hM (by decide) (by decide) (by omega) (by omega)) (Nat.le_of_ble_eq_true rfl) (fun r7 h7 hp7 => ?_)
      obtain ⟨rfl, rfl⟩ := hp7
      refine a_icmp_geN (pc := 10) (tgt := 54) dX12_alikeOf_10 (by decide) (by omega) (by omega) (fun c10 => ?_) (fun c10 => ?_)
      · have hkn : k = (n - 1) := by omega
        refine a_iload_n (pc := 54) dX12_alikeOf_54 rfl rfl ?_
        refine a_ret_i (pc := 55) hM rfl (rfl) dX12_alikeOf_55 (by omega) (by omega) ?_
        exact ⟨by rw [hc, hkn]; rfl, rfl⟩
      · exact absurd c10 (by omega)
    | succ j ih =>
      intro k hk hkl c hc
      have hcl : c ≤ k := by rw [hc]; exact cntN_le _ _
      refine a_iload_n (pc := 4) dX12_alikeOf_4 rfl rfl ?_
      refine a_aload_n (pc := 5) dX12_alikeOf_5 rfl rfl ?_
      refine a_iload_n (pc := 6) dX12_alikeOf_6 rfl rfl ?_
      refine a_callV (pc := 7) km_X12_161 dX12_alikeOf_7 (f_sizeOf hm hr hz) rfl rfl (krecv_of (ci := 12) rfl (m_obj hm)) (rok_of hM (by decide) (by decide) (by omega) (by omega)) (Nat.le_of_ble_eq_true rfl) (fun r7 h7 hp7 => ?_)
      obtain ⟨rfl, rfl⟩ := hp7
      refine a_icmp_geN (pc := 10) (tgt := 54) dX12_alikeOf_10 (by decide) (by omega) (by omega) (fun c10 => ?_) (fun c10 => ?_)
      · exact absurd c10 (by omega)
      · refine a_iload_n (pc := 13) dX12_alikeOf_13 rfl rfl ?_
        refine a_aload_n (pc := 14) dX12_alikeOf_14 rfl rfl ?_
        refine a_getfield (pc := 15) kg_X12_42 dX12_alikeOf_15 (m_obj hm) rfl ?_
        refine a_bipush (pc := 18) dX12_alikeOf_18 ib_25 ?_
        refine a_iload_n (pc := 20) dX12_alikeOf_20 rfl rfl ?_
        refine a_imulN (pc := 21) dX12_alikeOf_21 ?_
        refine a_iload_n (pc := 22) dX12_alikeOf_22 rfl rfl ?_
        refine a_iaddN (pc := 23) dX12_alikeOf_23 ?_
        refine a_iaload (pc := 24) dX12_alikeOf_24 (m_a14 hm) (_) (rfl) (by omega) (by omega) ?_
        refine a_aload_n (pc := 25) dX12_alikeOf_25 rfl rfl ?_
        refine a_getfield (pc := 26) kg_X12_42 dX12_alikeOf_26 (m_obj hm) rfl ?_
        refine a_bipush (pc := 29) dX12_alikeOf_29 ib_25 ?_
        refine a_iload_n (pc := 31) dX12_alikeOf_31 rfl rfl ?_
        refine a_imulN (pc := 32) dX12_alikeOf_32 ?_
        refine a_iload_n (pc := 33) dX12_alikeOf_33 rfl rfl ?_
        refine a_iaddN (pc := 34) dX12_alikeOf_34 ?_
        refine a_iconst (pc := 35) dX12_alikeOf_35 ic_1 ?_
        refine a_isubN (pc := 36) dX12_alikeOf_36 (by omega) ?_
        refine a_iaload (pc := 37) dX12_alikeOf_37 (m_a14 hm) (_) (rfl) (by omega) (by omega) ?_
        refine a_icmp_ne (pc := 38) (tgt := 45) dX12_alikeOf_38 (by decide) (fun c38 => ?_) (fun c38 => ?_)
        · have hc1 : c + 0 = cntN (fun i => decide (s.2.1 14 (25 * r + (i + 1)) = s.2.1 14 (25 * r + (i + 1) - 1))) (k + 1) := by rw [hc]; exact (cntN_f (decide_eq_false c38)).symm
          refine a_iconst (pc := 45) dX12_alikeOf_45 ic_0 ?_
          refine a_iaddN (pc := 46) dX12_alikeOf_46 ?_
          refine a_istore_n (pc := 47) dX12_alikeOf_47 rfl (by decide) rfl ?_
          refine a_iincN (pc := 48) (n := 1) dX12_alikeOf_48 (by decide) rfl (by decide) rfl ?_
          refine a_goto (pc := 51) (tgt := 4) dX12_alikeOf_51 (by decide) ?_
          exact a_locR (ih (k + 1) (by omega) (by omega) _ hc1) ⟨rfl, rfl, rfl, rfl, trivial⟩
        · have hc1 : c + 1 = cntN (fun i => decide (s.2.1 14 (25 * r + (i + 1)) = s.2.1 14 (25 * r + (i + 1) - 1))) (k + 1) := by rw [hc]; exact (cntN_t (decide_eq_true c38)).symm
          refine a_iconst (pc := 41) dX12_alikeOf_41 ic_1 ?_
          refine a_goto (pc := 42) (tgt := 46) dX12_alikeOf_42 (by decide) ?_
          refine a_iaddN (pc := 46) dX12_alikeOf_46 ?_
          refine a_istore_n (pc := 47) dX12_alikeOf_47 rfl (by decide) rfl ?_
          refine a_iincN (pc := 48) (n := 1) dX12_alikeOf_48 (by decide) rfl (by decide) rfl ?_
          refine a_goto (pc := 51) (tgt := 4) dX12_alikeOf_51 (by decide) ?_
          exact a_locR (ih (k + 1) (by omega) (by omega) _ hc1) ⟨rfl, rfl, rfl, rfl, trivial⟩
  refine a_iconst (pc := 0) dX12_alikeOf_0 ic_0 ?_
  refine a_istore_n (pc := 1) dX12_alikeOf_1 rfl (by decide) rfl ?_
  refine a_iconst (pc := 2) dX12_alikeOf_2 ic_1 ?_
  refine a_istore_n (pc := 3) dX12_alikeOf_3 rfl (by decide) rfl ?_
  exact a_locR (loop _ 0 rfl (Nat.zero_le _) 0 rfl) ⟨rfl, rfl, rfl, rfl, trivial⟩

set_option maxRecDepth 4000 in
theorem f_isLeak (hm : MI m) {n : Nat} (hn : s.1 28 = nI n) (hb : n ≤ 1000) (x : Int32) : Fn X 1 0 0 yX12_isLeak cX12_isLeak 2 (some .boolean) [.ref (m 65), .int x] (mh m s h0) (fun rv hv => rv = some (.int (bI (inN x n))) ∧ hv = mh m s h0) := by
  refine fn_of (by decide) (Nat.le_of_ble_eq_true rfl) (fun M hM => ?_)
  refine a_iload_n (pc := 0) dX12_isLeak_0 rfl rfl ?_
  refine a_i2l (pc := 1) dX12_isLeak_1 ?_
  refine a_lconst (pc := 2) (v := lN 0) dX12_isLeak_2 rfl ?_
  refine a_aload_n (pc := 3) dX12_isLeak_3 rfl rfl ?_
  refine a_getfield (pc := 4) kg_X12_213 dX12_isLeak_4 (m_obj hm) rfl ?_
  refine a_topi (hn) ?_
  refine a_iconst (pc := 7) dX12_isLeak_7 ic_1 ?_
  refine a_isub (pc := 8) dX12_isLeak_8 ?_
  refine a_i2l (pc := 9) dX12_isLeak_9 ?_
  refine a_callS (pc := 10) km_X12_142 dX12_isLeak_10 (f_in _ _ _) rfl rfl (rok_of hM (by decide) (by decide) (by omega) (by omega)) (Nat.le_of_ble_eq_true rfl) (fun r10 h10 hp10 => ?_)
  obtain ⟨rfl, rfl⟩ := hp10
  refine a_topi (congrArg bI (in_rng (x := x) (n := n) (by omega))) ?_
  refine a_ret_i (pc := 13) hM rfl (bI_nar _) dX12_isLeak_13 (by omega) (by omega) ?_
  exact ⟨rfl, rfl⟩

set_option maxRecDepth 4000 in
theorem f_isGuesser {h : AH} (x : Int32) : Fn X 1 0 0 yX12_isGuesser cX12_isGuesser 1 (some .boolean) [.int x] h (fun rv hv => rv = some (.int (bI (inN x 8))) ∧ hv = h) := by
  refine fn_of (by decide) (Nat.le_of_ble_eq_true rfl) (fun M hM => ?_)
  refine a_iload_n (pc := 0) dX12_isGuesser_0 rfl rfl ?_
  refine a_i2l (pc := 1) dX12_isGuesser_1 ?_
  refine a_lconst (pc := 2) (v := lN 0) dX12_isGuesser_2 rfl ?_
  refine a_ldc2 (pc := 3) kc_X12_153 dX12_isGuesser_3 ?_
  refine a_callS (pc := 6) km_X12_142 dX12_isGuesser_6 (f_in _ _ _) rfl rfl (rok_of hM (by decide) (by decide) (by omega) (by omega)) (Nat.le_of_ble_eq_true rfl) (fun r6 h6 hp6 => ?_)
  obtain ⟨rfl, rfl⟩ := hp6
  refine a_topi (congrArg bI (in_rng2 (x := x) (n := 8) (k := 7) rfl (by decide))) ?_
  refine a_ret_i (pc := 9) hM rfl (bI_nar _) dX12_isGuesser_9 (by omega) (by omega) ?_
  exact ⟨rfl, rfl⟩

set_option maxRecDepth 4000 in
theorem f_isSheet {h : AH} (x : Int32) : Fn X 1 0 0 yX12_isSheet cX12_isSheet 1 (some .boolean) [.int x] h (fun rv hv => rv = some (.int (bI (inN x 4))) ∧ hv = h) := by
  refine fn_of (by decide) (Nat.le_of_ble_eq_true rfl) (fun M hM => ?_)
  refine a_iload_n (pc := 0) dX12_isSheet_0 rfl rfl ?_
  refine a_i2l (pc := 1) dX12_isSheet_1 ?_
  refine a_lconst (pc := 2) (v := lN 0) dX12_isSheet_2 rfl ?_
  refine a_ldc2 (pc := 3) kc_X12_430 dX12_isSheet_3 ?_
  refine a_callS (pc := 6) km_X12_142 dX12_isSheet_6 (f_in _ _ _) rfl rfl (rok_of hM (by decide) (by decide) (by omega) (by omega)) (Nat.le_of_ble_eq_true rfl) (fun r6 h6 hp6 => ?_)
  obtain ⟨rfl, rfl⟩ := hp6
  refine a_topi (congrArg bI (in_rng2 (x := x) (n := 4) (k := 3) rfl (by decide))) ?_
  refine a_ret_i (pc := 9) hM rfl (bI_nar _) dX12_isSheet_9 (by omega) (by omega) ?_
  exact ⟨rfl, rfl⟩

def cntsP (x : Int32) : Int32 := if x = nI 1 ∨ x = nI 4 then nI 2 else if x = nI 3 ∨ x = nI 5 then nI 4 else nI 1
set_option maxRecDepth 4000 in
theorem f_countsOf (hm : MI m) {k : Nat} (hk : k < 10) : Fn X 0 0 0 yX12_countsOf cX12_countsOf 2 (some .int) [.ref (m 65), .int (nI k)] (mh m s h0) (fun rv hv => rv = some (.int (cntsP (s.2.1 24 k))) ∧ hv = mh m s h0) := by
  refine fn_of (by decide) (Nat.le_of_ble_eq_true rfl) (fun M hM => ?_)
  refine a_aload_n (pc := 0) dX12_countsOf_0 rfl rfl ?_
  refine a_getfield (pc := 1) kg_X12_69 dX12_countsOf_1 (m_obj hm) rfl ?_
  refine a_iload_n (pc := 4) dX12_countsOf_4 rfl rfl ?_
  refine a_iaload (pc := 5) dX12_countsOf_5 (m_a24 hm) (_) (rfl) (by omega) (by omega) ?_
  refine a_iconst (pc := 6) dX12_countsOf_6 ic_1 ?_
  refine a_icmp_eq (pc := 7) (tgt := 20) dX12_countsOf_7 (by decide) (fun c7 => ?_) (fun c7 => ?_)
  · refine a_iconst (pc := 20) dX12_countsOf_20 ic_2 ?_
    refine a_goto (pc := 21) (tgt := 49) dX12_countsOf_21 (by decide) ?_
    refine a_ret_i (pc := 49) hM rfl (rfl) dX12_countsOf_49 (by omega) (by omega) ?_
    exact ⟨by unfold cntsP; repeat (first | rw [if_pos (by first | assumption | exact Or.inl (by assumption) | exact Or.inr (by assumption) | exact ⟨by assumption, by assumption⟩)] | rw [if_neg (by first | assumption | (intro z; rcases z with z | z <;> exact absurd z (by assumption)) | (intro z; exact absurd z.1 (by assumption)) | (intro z; exact absurd z.2 (by assumption)))]), rfl⟩
  · refine a_aload_n (pc := 10) dX12_countsOf_10 rfl rfl ?_
    refine a_getfield (pc := 11) kg_X12_69 dX12_countsOf_11 (m_obj hm) rfl ?_
    refine a_iload_n (pc := 14) dX12_countsOf_14 rfl rfl ?_
    refine a_iaload (pc := 15) dX12_countsOf_15 (m_a24 hm) (_) (rfl) (by omega) (by omega) ?_
    refine a_iconst (pc := 16) dX12_countsOf_16 ic_4 ?_
    refine a_icmp_ne (pc := 17) (tgt := 24) dX12_countsOf_17 (by decide) (fun c17 => ?_) (fun c17 => ?_)
    · refine a_aload_n (pc := 24) dX12_countsOf_24 rfl rfl ?_
      refine a_getfield (pc := 25) kg_X12_69 dX12_countsOf_25 (m_obj hm) rfl ?_
      refine a_iload_n (pc := 28) dX12_countsOf_28 rfl rfl ?_
      refine a_iaload (pc := 29) dX12_countsOf_29 (m_a24 hm) (_) (rfl) (by omega) (by omega) ?_
      refine a_iconst (pc := 30) dX12_countsOf_30 ic_3 ?_
      refine a_icmp_eq (pc := 31) (tgt := 44) dX12_countsOf_31 (by decide) (fun c31 => ?_) (fun c31 => ?_)
      · refine a_iconst (pc := 44) dX12_countsOf_44 ic_4 ?_
        refine a_goto (pc := 45) (tgt := 49) dX12_countsOf_45 (by decide) ?_
        refine a_ret_i (pc := 49) hM rfl (rfl) dX12_countsOf_49 (by omega) (by omega) ?_
        exact ⟨by unfold cntsP; repeat (first | rw [if_pos (by first | assumption | exact Or.inl (by assumption) | exact Or.inr (by assumption) | exact ⟨by assumption, by assumption⟩)] | rw [if_neg (by first | assumption | (intro z; rcases z with z | z <;> exact absurd z (by assumption)) | (intro z; exact absurd z.1 (by assumption)) | (intro z; exact absurd z.2 (by assumption)))]), rfl⟩
      · refine a_aload_n (pc := 34) dX12_countsOf_34 rfl rfl ?_
        refine a_getfield (pc := 35) kg_X12_69 dX12_countsOf_35 (m_obj hm) rfl ?_
        refine a_iload_n (pc := 38) dX12_countsOf_38 rfl rfl ?_
        refine a_iaload (pc := 39) dX12_countsOf_39 (m_a24 hm) (_) (rfl) (by omega) (by omega) ?_
        refine a_iconst (pc := 40) dX12_countsOf_40 ic_5 ?_
        refine a_icmp_ne (pc := 41) (tgt := 48) dX12_countsOf_41 (by decide) (fun c41 => ?_) (fun c41 => ?_)
        · refine a_iconst (pc := 48) dX12_countsOf_48 ic_1 ?_
          refine a_ret_i (pc := 49) hM rfl (rfl) dX12_countsOf_49 (by omega) (by omega) ?_
          exact ⟨by unfold cntsP; repeat (first | rw [if_pos (by first | assumption | exact Or.inl (by assumption) | exact Or.inr (by assumption) | exact ⟨by assumption, by assumption⟩)] | rw [if_neg (by first | assumption | (intro z; rcases z with z | z <;> exact absurd z (by assumption)) | (intro z; exact absurd z.1 (by assumption)) | (intro z; exact absurd z.2 (by assumption)))]), rfl⟩
        · refine a_iconst (pc := 44) dX12_countsOf_44 ic_4 ?_
          refine a_goto (pc := 45) (tgt := 49) dX12_countsOf_45 (by decide) ?_
          refine a_ret_i (pc := 49) hM rfl (rfl) dX12_countsOf_49 (by omega) (by omega) ?_
          exact ⟨by unfold cntsP; repeat (first | rw [if_pos (by first | assumption | exact Or.inl (by assumption) | exact Or.inr (by assumption) | exact ⟨by assumption, by assumption⟩)] | rw [if_neg (by first | assumption | (intro z; rcases z with z | z <;> exact absurd z (by assumption)) | (intro z; exact absurd z.1 (by assumption)) | (intro z; exact absurd z.2 (by assumption)))]), rfl⟩
    · refine a_iconst (pc := 20) dX12_countsOf_20 ic_2 ?_
      refine a_goto (pc := 21) (tgt := 49) dX12_countsOf_21 (by decide) ?_
      refine a_ret_i (pc := 49) hM rfl (rfl) dX12_countsOf_49 (by omega) (by omega) ?_
      exact ⟨by unfold cntsP; repeat (first | rw [if_pos (by first | assumption | exact Or.inl (by assumption) | exact Or.inr (by assumption) | exact ⟨by assumption, by assumption⟩)] | rw [if_neg (by first | assumption | (intro z; rcases z with z | z <;> exact absurd z (by assumption)) | (intro z; exact absurd z.1 (by assumption)) | (intro z; exact absurd z.2 (by assumption)))]), rfl⟩

def kindsP (s : MST) (x : Int32) : Nat → Int32
  | 0 => nI 0
  | k + 1 => kindsP s x k ||| (if x >>> (nI k &&& 31) &&& nI 1 = nI 1 then s.2.1 30 k else nI 0)
set_option maxRecDepth 4000 in
theorem f_kindsBy (hm : MI m) {n : Nat} (hn : s.1 31 = nI n) (hb : n ≤ 6) (x : Int32) : Fn X 0 0 0 yX12_kindsBy cX12_kindsBy 4 (some .int) [.ref (m 65), .int x] (mh m s h0) (fun rv hv => rv = some (.int (kindsP s x n)) ∧ hv = mh m s h0) := by
  refine fn_of (by decide) (Nat.le_of_ble_eq_true rfl) (fun M hM => ?_)
  have loop : ∀ j k : Nat, n - k = j → k ≤ n → ∀ c : Int32, c = kindsP s x k → AJ X M yX12_kindsBy cX12_kindsBy 4 (some .int) 4 [(0, .ref (m 65)), (1, .int x), (2, .int c), (3, .int (nI k))] [] (mh m s h0) 0 0 := by
    intro j
    induction j with
    | zero =>
      intro k hk hkl c hc
      refine a_iload_n (pc := 4) dX12_kindsBy_4 rfl rfl ?_
      refine a_aload_n (pc := 5) dX12_kindsBy_5 rfl rfl ?_
      refine a_getfield (pc := 6) kg_X12_231 dX12_kindsBy_6 (m_obj hm) rfl ?_
      refine a_topi (hn) ?_
      refine a_icmp_geN (pc := 9) (tgt := 40) dX12_kindsBy_9 (by decide) (by omega) (by omega) (fun c9 => ?_) (fun c9 => ?_)
      · have hkn : k = n := by omega
        subst hkn
        refine a_iload_n (pc := 40) dX12_kindsBy_40 rfl rfl ?_
        refine a_ret_i (pc := 41) hM rfl (rfl) dX12_kindsBy_41 (by omega) (by omega) ?_
        exact ⟨by rw [hc], rfl⟩
      · exact absurd c9 (by omega)
    | succ j ih =>
      intro k hk hkl c hc
      refine a_iload_n (pc := 4) dX12_kindsBy_4 rfl rfl ?_
      refine a_aload_n (pc := 5) dX12_kindsBy_5 rfl rfl ?_
      refine a_getfield (pc := 6) kg_X12_231 dX12_kindsBy_6 (m_obj hm) rfl ?_
      refine a_topi (hn) ?_
      refine a_icmp_geN (pc := 9) (tgt := 40) dX12_kindsBy_9 (by decide) (by omega) (by omega) (fun c9 => ?_) (fun c9 => ?_)
      · exact absurd c9 (by omega)
      · refine a_iload_n (pc := 12) dX12_kindsBy_12 rfl rfl ?_
        refine a_iload_n (pc := 13) dX12_kindsBy_13 rfl rfl ?_
        refine a_iload_n (pc := 14) dX12_kindsBy_14 rfl rfl ?_
        refine a_ishr (pc := 15) dX12_kindsBy_15 ?_
        refine a_iconst (pc := 16) dX12_kindsBy_16 ic_1 ?_
        refine a_iand (pc := 17) dX12_kindsBy_17 ?_
        refine a_iconst (pc := 18) dX12_kindsBy_18 ic_1 ?_
        refine a_icmp_ne (pc := 19) (tgt := 31) dX12_kindsBy_19 (by decide) (fun c19 => ?_) (fun c19 => ?_)
        · have hc1 : c ||| nI 0 = kindsP s x (k + 1) := by rw [hc, kindsP, if_neg c19]
          refine a_iconst (pc := 31) dX12_kindsBy_31 ic_0 ?_
          refine a_ior (pc := 32) dX12_kindsBy_32 ?_
          refine a_istore_n (pc := 33) dX12_kindsBy_33 rfl (by decide) rfl ?_
          refine a_iincN (pc := 34) (n := 1) dX12_kindsBy_34 (by decide) rfl (by decide) rfl ?_
          refine a_goto (pc := 37) (tgt := 4) dX12_kindsBy_37 (by decide) ?_
          exact a_locR (ih (k + 1) (by omega) (by omega) _ hc1) ⟨rfl, rfl, rfl, rfl, trivial⟩
        · have hc1 : c ||| s.2.1 30 k = kindsP s x (k + 1) := by rw [hc, kindsP, if_pos c19]
          refine a_aload_n (pc := 22) dX12_kindsBy_22 rfl rfl ?_
          refine a_getfield (pc := 23) kg_X12_84 dX12_kindsBy_23 (m_obj hm) rfl ?_
          refine a_iload_n (pc := 26) dX12_kindsBy_26 rfl rfl ?_
          refine a_iaload (pc := 27) dX12_kindsBy_27 (m_a30 hm) (_) (rfl) (by omega) (by omega) ?_
          refine a_goto (pc := 28) (tgt := 32) dX12_kindsBy_28 (by decide) ?_
          refine a_ior (pc := 32) dX12_kindsBy_32 ?_
          refine a_istore_n (pc := 33) dX12_kindsBy_33 rfl (by decide) rfl ?_
          refine a_iincN (pc := 34) (n := 1) dX12_kindsBy_34 (by decide) rfl (by decide) rfl ?_
          refine a_goto (pc := 37) (tgt := 4) dX12_kindsBy_37 (by decide) ?_
          exact a_locR (ih (k + 1) (by omega) (by omega) _ hc1) ⟨rfl, rfl, rfl, rfl, trivial⟩
  refine a_iconst (pc := 0) dX12_kindsBy_0 ic_0 ?_
  refine a_istore_n (pc := 1) dX12_kindsBy_1 rfl (by decide) rfl ?_
  refine a_iconst (pc := 2) dX12_kindsBy_2 ic_0 ?_
  refine a_istore_n (pc := 3) dX12_kindsBy_3 rfl (by decide) rfl ?_
  exact a_locR (loop _ 0 rfl (Nat.zero_le _) (nI 0) rfl) ⟨rfl, rfl, rfl, rfl, trivial⟩

def overP (x : Int32) : Int32 := if x = 0 then -1 else if x = nI 4 then nI 2 else if x = nI 5 then nI 4 else nI 0
set_option maxRecDepth 4000 in
theorem f_over {h : AH} (x : Int32) : Fn X 0 0 0 yX12_over cX12_over 1 (some .int) [.int x] h (fun rv hv => rv = some (.int (overP x)) ∧ hv = h) := by
  refine fn_of (by decide) (Nat.le_of_ble_eq_true rfl) (fun M hM => ?_)
  refine a_iload_n (pc := 0) dX12_over_0 rfl rfl ?_
  refine a_if_ne (pc := 1) (tgt := 8) dX12_over_1 (by decide) (fun c1 => ?_) (fun c1 => ?_)
  · refine a_iload_n (pc := 8) dX12_over_8 rfl rfl ?_
    refine a_iconst (pc := 9) dX12_over_9 ic_4 ?_
    refine a_icmp_ne (pc := 10) (tgt := 17) dX12_over_10 (by decide) (fun c10 => ?_) (fun c10 => ?_)
    · refine a_iload_n (pc := 17) dX12_over_17 rfl rfl ?_
      refine a_iconst (pc := 18) dX12_over_18 ic_5 ?_
      refine a_icmp_ne (pc := 19) (tgt := 26) dX12_over_19 (by decide) (fun c19 => ?_) (fun c19 => ?_)
      · refine a_iconst (pc := 26) dX12_over_26 ic_0 ?_
        refine a_ret_i (pc := 27) hM rfl (rfl) dX12_over_27 (by omega) (by omega) ?_
        exact ⟨by unfold overP; repeat (first | rw [if_pos (by first | assumption | exact Or.inl (by assumption) | exact Or.inr (by assumption) | exact ⟨by assumption, by assumption⟩)] | rw [if_neg (by first | assumption | (intro z; rcases z with z | z <;> exact absurd z (by assumption)) | (intro z; exact absurd z.1 (by assumption)) | (intro z; exact absurd z.2 (by assumption)))]), rfl⟩
      · refine a_iconst (pc := 22) dX12_over_22 ic_4 ?_
        refine a_goto (pc := 23) (tgt := 27) dX12_over_23 (by decide) ?_
        refine a_ret_i (pc := 27) hM rfl (rfl) dX12_over_27 (by omega) (by omega) ?_
        exact ⟨by unfold overP; repeat (first | rw [if_pos (by first | assumption | exact Or.inl (by assumption) | exact Or.inr (by assumption) | exact ⟨by assumption, by assumption⟩)] | rw [if_neg (by first | assumption | (intro z; rcases z with z | z <;> exact absurd z (by assumption)) | (intro z; exact absurd z.1 (by assumption)) | (intro z; exact absurd z.2 (by assumption)))]), rfl⟩
    · refine a_iconst (pc := 13) dX12_over_13 ic_2 ?_
      refine a_goto (pc := 14) (tgt := 27) dX12_over_14 (by decide) ?_
      refine a_ret_i (pc := 27) hM rfl (rfl) dX12_over_27 (by omega) (by omega) ?_
      exact ⟨by unfold overP; repeat (first | rw [if_pos (by first | assumption | exact Or.inl (by assumption) | exact Or.inr (by assumption) | exact ⟨by assumption, by assumption⟩)] | rw [if_neg (by first | assumption | (intro z; rcases z with z | z <;> exact absurd z (by assumption)) | (intro z; exact absurd z.1 (by assumption)) | (intro z; exact absurd z.2 (by assumption)))]), rfl⟩
  · refine a_iconst (pc := 4) dX12_over_4 ic_m1 ?_
    refine a_goto (pc := 5) (tgt := 27) dX12_over_5 (by decide) ?_
    refine a_ret_i (pc := 27) hM rfl (rfl) dX12_over_27 (by omega) (by omega) ?_
    exact ⟨by unfold overP; repeat (first | rw [if_pos (by first | assumption | exact Or.inl (by assumption) | exact Or.inr (by assumption) | exact ⟨by assumption, by assumption⟩)] | rw [if_neg (by first | assumption | (intro z; rcases z with z | z <;> exact absurd z (by assumption)) | (intro z; exact absurd z.1 (by assumption)) | (intro z; exact absurd z.2 (by assumption)))]), rfl⟩

end ML2

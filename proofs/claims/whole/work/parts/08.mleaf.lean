/-! THE REFERENCE, leaves -/
abbrev vI (s : MST) (k : Nat) : Nat := (s.1 k).toNatClampNeg
abbrev vA (s : MST) (a i : Nat) : Nat := (s.2.1 a i).toNatClampNeg
/-- a number below n -/
def okV (x : Int32) (n : Nat) : Prop := x = nI x.toNatClampNeg ∧ x.toNatClampNeg < n
theorem okV_of {j n : Nat} (hj : j < n) (hb : j < 2147483648) : okV (nI j) n := by
  unfold okV
  rw [nI_clamp hb]
  exact ⟨rfl, hj⟩
/-- run r has n cards -/
def Rz (s : MST) (r n : Nat) : Prop := ∃ p : Nat, p < 4 ∧ s.2.1 11 r = nI p ∧ s.2.1 9 p = nI n ∧ n ≤ 25
def cntN (p : Nat → Bool) : Nat → Nat
  | 0 => 0
  | n + 1 => cntN p n + (if p n = true then 1 else 0)
theorem cntN_le (p : Nat → Bool) (n : Nat) : cntN p n ≤ n := by
  induction n with
  | zero => exact Nat.le_refl 0
  | succ n ih =>
    unfold cntN
    split <;> omega
theorem cntN_t {p : Nat → Bool} {n : Nat} (h : p n = true) : cntN p (n + 1) = cntN p n + 1 := by rw [cntN, if_pos h]
theorem cntN_f {p : Nat → Bool} {n : Nat} (h : p n = false) : cntN p (n + 1) = cntN p n := by rw [cntN, if_neg (by rw [h]; decide)]; rfl
theorem bI_vp (b : Bool) : vp_nar .boolean (bI b) = bI b := by cases b <;> decide +kernel
theorem a_locR {X : KX} {M : MX} {y : MethodName} {cc : ByteArray} {nL : Nat} {rt : Option FieldType} {pc : Nat} {L L1 : List (Nat × Value)} {st : List Value} {h : AH} {uc us : Nat} (k : AJ X M y cc nL rt pc L1 st h uc us) (hs : subL L1 L) : AJ X M y cc nL rt pc L st h uc us := a_loc hs k
section ML
variable {X : KX} {m : Nat → Nat} {s : MST} {h0 : AH}
set_option maxRecDepth 4000 in
theorem f_in {h : AH} (a b c : Int64) : Fn X 0 0 0 yX12_in cX12_in 6 (some .boolean) [.long a, .long b, .long c] h (fun r h' => r = some (.int (bI (decide (b ≤ a ∧ a ≤ c)))) ∧ h' = h) := by
  refine fn_of (by decide) (Nat.le_of_ble_eq_true rfl) (fun M hM => ?_)
  refine a_lload_n (pc := 0) dX12_in_0 rfl rfl ?_
  refine a_lload_n (pc := 1) dX12_in_1 rfl rfl ?_
  refine a_lif_lt (pc := 2) (tgt := 17) dX12_in_2 dX12_in_3 (by decide) (fun c3 => ?_) (fun c3 => ?_)
  · refine a_iconst (pc := 17) dX12_in_17 ic_0 ?_
    refine a_ret_i (pc := 18) hM rfl (by decide +kernel) dX12_in_18 (by omega) (by omega) ?_
    exact ⟨by first | (rw [decide_eq_true (by first | assumption | (constructor <;> assumption))]; rfl) | (rw [decide_eq_false (by first | assumption | (intro z; first | exact absurd z.1 (Int64.not_le.mpr (by assumption)) | exact absurd z.2 (Int64.not_le.mpr (by assumption))))]; rfl), rfl⟩
  · refine a_lload_n (pc := 6) dX12_in_6 rfl rfl ?_
    refine a_lload (pc := 7) dX12_in_7 rfl ?_
    refine a_lif_gt (pc := 9) (tgt := 17) dX12_in_9 dX12_in_10 (by decide) (fun c10 => ?_) (fun c10 => ?_)
    · refine a_iconst (pc := 17) dX12_in_17 ic_0 ?_
      refine a_ret_i (pc := 18) hM rfl (by decide +kernel) dX12_in_18 (by omega) (by omega) ?_
      exact ⟨by first | (rw [decide_eq_true (by first | assumption | (constructor <;> assumption))]; rfl) | (rw [decide_eq_false (by first | assumption | (intro z; first | exact absurd z.1 (Int64.not_le.mpr (by assumption)) | exact absurd z.2 (Int64.not_le.mpr (by assumption))))]; rfl), rfl⟩
    · refine a_iconst (pc := 13) dX12_in_13 ic_1 ?_
      refine a_goto (pc := 14) (tgt := 18) dX12_in_14 (by decide) ?_
      refine a_ret_i (pc := 18) hM rfl (by decide +kernel) dX12_in_18 (by omega) (by omega) ?_
      exact ⟨by first | (rw [decide_eq_true (by first | assumption | (constructor <;> assumption))]; rfl) | (rw [decide_eq_false (by first | assumption | (intro z; first | exact absurd z.1 (Int64.not_le.mpr (by assumption)) | exact absurd z.2 (Int64.not_le.mpr (by assumption))))]; rfl), rfl⟩

theorem in_rng {x : Int32} {n : Nat} (hn : n < 2147483648) : (decide (lN 0 ≤ x.toInt64 ∧ x.toInt64 ≤ (nI n - nI 1).toInt64)) = inN x n := by
  rw [inN, Bool.eq_iff_iff]
  simp only [decide_eq_true_eq, Bool.and_eq_true]
  rw [show lN 0 = (0 : Int32).toInt64 by decide, fa_wide_le, fa_wide_le, Int32.le_iff_toInt_le, Int32.le_iff_toInt_le]
  have h1 : (nI n - nI 1).toInt = (n : Int) - 1 := by
    rcases Nat.eq_zero_or_pos n with rfl | h
    · decide
    · rw [pk_sub h, nI_toInt (by omega)]
      omega
  rw [h1, Int32.toInt_zero]
  constructor
  · intro q; exact ⟨q.1, by omega⟩
  · intro q; exact ⟨q.1, by omega⟩
theorem in_rng2 {x : Int32} {n k : Nat} (hk : k + 1 = n) (hn : n < 2147483648) : (decide (lN 0 ≤ x.toInt64 ∧ x.toInt64 ≤ lN k)) = inN x n := by
  rw [← in_rng hn, ← hk, pk_sub (by omega), Nat.add_sub_cancel, nI_l (by omega)]
set_option maxRecDepth 4000 in
theorem f_isRun (hm : MI m) {n : Nat} (hn : s.1 18 = nI n) (hb : n ≤ 1000) (x : Int32) : Fn X 1 0 0 yX12_isRun cX12_isRun 2 (some .boolean) [.ref (m 65), .int x] (mh m s h0) (fun rv hv => rv = some (.int (bI (inN x n))) ∧ hv = mh m s h0) := by
  refine fn_of (by decide) (Nat.le_of_ble_eq_true rfl) (fun M hM => ?_)
  refine a_iload_n (pc := 0) dX12_isRun_0 rfl rfl ?_
  refine a_i2l (pc := 1) dX12_isRun_1 ?_
  refine a_lconst (pc := 2) (v := lN 0) dX12_isRun_2 rfl ?_
  refine a_aload_n (pc := 3) dX12_isRun_3 rfl rfl ?_
  refine a_getfield (pc := 4) kg_X12_139 dX12_isRun_4 (m_obj hm) rfl ?_
  refine a_topi (hn) ?_
  refine a_iconst (pc := 7) dX12_isRun_7 ic_1 ?_
  refine a_isub (pc := 8) dX12_isRun_8 ?_
  refine a_i2l (pc := 9) dX12_isRun_9 ?_
  refine a_callS (pc := 10) km_X12_142 dX12_isRun_10 (f_in _ _ _) rfl rfl (rok_of hM (by decide) (by decide) (by omega) (by omega)) (Nat.le_of_ble_eq_true rfl) (fun r10 h10 hp10 => ?_)
  obtain ⟨rfl, rfl⟩ := hp10
  refine a_topi (congrArg bI (in_rng (x := x) (n := n) (by omega))) ?_
  refine a_ret_i (pc := 13) hM rfl (bI_nar _) dX12_isRun_13 (by omega) (by omega) ?_
  exact ⟨rfl, rfl⟩

set_option maxRecDepth 4000 in
theorem f_isSignOf {h : AH} (x : Int32) : Fn X 1 0 0 yX12_isSignOf cX12_isSignOf 1 (some .boolean) [.int x] h (fun r h' => r = some (.int (bI (inN x 5))) ∧ h' = h) := by
  refine fn_of (by decide) (Nat.le_of_ble_eq_true rfl) (fun M hM => ?_)
  refine a_iload_n (pc := 0) dX12_isSignOf_0 rfl rfl ?_
  refine a_i2l (pc := 1) dX12_isSignOf_1 ?_
  refine a_lconst (pc := 2) (v := lN 0) dX12_isSignOf_2 rfl ?_
  refine a_ldc2 (pc := 3) kc_X12_146 dX12_isSignOf_3 ?_
  refine a_topl (z := lN 4) rfl ?_
  refine a_callS (pc := 6) km_X12_142 dX12_isSignOf_6 (f_in _ _ _) rfl rfl (rok_of hM (by decide) (by decide) (by omega) (by omega)) (Nat.le_of_ble_eq_true rfl) (fun r6 h6 hp6 => ?_)
  obtain ⟨rfl, rfl⟩ := hp6
  refine a_topi (congrArg bI (in_rng2 (x := x) (n := 5) (k := 4) rfl (by decide))) ?_
  refine a_ret_i (pc := 9) hM rfl (bI_nar _) dX12_isSignOf_9 (by omega) (by omega) ?_
  exact ⟨rfl, rfl⟩

set_option maxRecDepth 4000 in
theorem f_sizeOf (hm : MI m) {r n : Nat} (hr : r < 16) (hz : Rz s r n) : Fn X 0 0 0 yX12_sizeOf cX12_sizeOf 2 (some .int) [.ref (m 65), .int (nI r)] (mh m s h0) (fun rv hv => rv = some (.int (nI n)) ∧ hv = mh m s h0) := by
  obtain ⟨p, hp, hz1, hz2, hz3⟩ := id hz
  refine fn_of (by decide) (Nat.le_of_ble_eq_true rfl) (fun M hM => ?_)
  refine a_aload_n (pc := 0) dX12_sizeOf_0 rfl rfl ?_
  refine a_getfield (pc := 1) kg_X12_30 dX12_sizeOf_1 (m_obj hm) rfl ?_
  refine a_aload_n (pc := 4) dX12_sizeOf_4 rfl rfl ?_
  refine a_getfield (pc := 5) kg_X12_33 dX12_sizeOf_5 (m_obj hm) rfl ?_
  refine a_iload_n (pc := 8) dX12_sizeOf_8 rfl rfl ?_
  refine a_iaload (pc := 9) dX12_sizeOf_9 (m_a11 hm) (_) (rfl) (by omega) (by omega) ?_
  refine a_topi (hz1) ?_
  refine a_iaload (pc := 10) dX12_sizeOf_10 (m_a9 hm) (_) (rfl) (by omega) (by omega) ?_
  refine a_topi (hz2) ?_
  refine a_ret_i (pc := 11) hM rfl (rfl) dX12_sizeOf_11 (by omega) (by omega) ?_
  exact ⟨rfl, rfl⟩

set_option maxRecDepth 4000 in
theorem f_isHit (hm : MI m) {r i : Nat} (hr : r < 16) (hi : i < 25) : Fn X 0 0 0 yX12_isHit cX12_isHit 3 (some .boolean) [.ref (m 65), .int (nI r), .int (nI i)] (mh m s h0) (fun rv hv => rv = some (.int (bI (decide (s.2.1 14 (25 * r + i) = s.2.1 15 (25 * r + i))))) ∧ hv = mh m s h0) := by
  refine fn_of (by decide) (Nat.le_of_ble_eq_true rfl) (fun M hM => ?_)
  refine a_aload_n (pc := 0) dX12_isHit_0 rfl rfl ?_
  refine a_getfield (pc := 1) kg_X12_42 dX12_isHit_1 (m_obj hm) rfl ?_
  refine a_bipush (pc := 4) dX12_isHit_4 ib_25 ?_
  refine a_iload_n (pc := 6) dX12_isHit_6 rfl rfl ?_
  refine a_imulN (pc := 7) dX12_isHit_7 ?_
  refine a_iload_n (pc := 8) dX12_isHit_8 rfl rfl ?_
  refine a_iaddN (pc := 9) dX12_isHit_9 ?_
  refine a_iaload (pc := 10) dX12_isHit_10 (m_a14 hm) (_) (rfl) (by omega) (by omega) ?_
  refine a_aload_n (pc := 11) dX12_isHit_11 rfl rfl ?_
  refine a_getfield (pc := 12) kg_X12_45 dX12_isHit_12 (m_obj hm) rfl ?_
  refine a_bipush (pc := 15) dX12_isHit_15 ib_25 ?_
  refine a_iload_n (pc := 17) dX12_isHit_17 rfl rfl ?_
  refine a_imulN (pc := 18) dX12_isHit_18 ?_
  refine a_iload_n (pc := 19) dX12_isHit_19 rfl rfl ?_
  refine a_iaddN (pc := 20) dX12_isHit_20 ?_
  refine a_iaload (pc := 21) dX12_isHit_21 (m_a15 hm) (_) (rfl) (by omega) (by omega) ?_
  refine a_icmp_ne (pc := 22) (tgt := 29) dX12_isHit_22 (by decide) (fun c22 => ?_) (fun c22 => ?_)
  · refine a_iconst (pc := 29) dX12_isHit_29 ic_0 ?_
    refine a_ret_i (pc := 30) hM rfl (by decide +kernel) dX12_isHit_30 (by omega) (by omega) ?_
    exact ⟨by first | (rw [decide_eq_true (by first | assumption | (constructor <;> assumption))]; rfl) | (rw [decide_eq_false (by first | assumption | (intro z; first | exact absurd z.1 (Int64.not_le.mpr (by assumption)) | exact absurd z.2 (Int64.not_le.mpr (by assumption))))]; rfl), rfl⟩
  · refine a_iconst (pc := 25) dX12_isHit_25 ic_1 ?_
    refine a_goto (pc := 26) (tgt := 30) dX12_isHit_26 (by decide) ?_
    refine a_ret_i (pc := 30) hM rfl (by decide +kernel) dX12_isHit_30 (by omega) (by omega) ?_
    exact ⟨by first | (rw [decide_eq_true (by first | assumption | (constructor <;> assumption))]; rfl) | (rw [decide_eq_false (by first | assumption | (intro z; first | exact absurd z.1 (Int64.not_le.mpr (by assumption)) | exact absurd z.2 (Int64.not_le.mpr (by assumption))))]; rfl), rfl⟩

def hitsP (s : MST) (r n : Nat) : Nat := cntN (fun i => decide (s.2.1 14 (25 * r + i) = s.2.1 15 (25 * r + i))) n
set_option maxRecDepth 4000 in
theorem f_hitsOf (hm : MI m) {r n : Nat} (hr : r < 16) (hz : Rz s r n) : Fn X 1 0 0 yX12_hitsOf cX12_hitsOf 4 (some .int) [.ref (m 65), .int (nI r)] (mh m s h0) (fun rv hv => rv = some (.int (nI (hitsP s r n))) ∧ hv = mh m s h0) := by
  refine fn_of (by decide) (Nat.le_of_ble_eq_true rfl) (fun M hM => ?_)
  have hle : n ≤ 25 := hz.choose_spec.2.2.2
  have loop : ∀ j k : Nat, k + j = n → ∀ c : Nat, c = hitsP s r k → AJ X M yX12_hitsOf cX12_hitsOf 4 (some .int) 4 [(0, .ref (m 65)), (1, .int (nI r)), (2, .int (nI c)), (3, .int (nI k))] [] (mh m s h0) 0 0 := by
    intro j
    induction j with
    | zero =>
      intro k hk c hc
      have hcl : c ≤ k := by rw [hc]; exact cntN_le _ _
      refine a_iload_n (pc := 4) dX12_hitsOf_4 rfl rfl ?_
      refine a_aload_n (pc := 5) dX12_hitsOf_5 rfl rfl ?_
      refine a_iload_n (pc := 6) dX12_hitsOf_6 rfl rfl ?_
      refine a_callV (pc := 7) km_X12_161 dX12_hitsOf_7 (f_sizeOf hm hr hz) rfl rfl (krecv_of (ci := 12) rfl (m_obj hm)) (rok_of hM (by decide) (by decide) (by omega) (by omega)) (Nat.le_of_ble_eq_true rfl) (fun r7 h7 hp7 => ?_)
      obtain ⟨rfl, rfl⟩ := hp7
      refine a_icmp_geN (pc := 10) (tgt := 36) dX12_hitsOf_10 (by decide) (by omega) (by omega) (fun c10 => ?_) (fun c10 => ?_)
      · have hkn : k = n := by omega
        subst hkn
        refine a_iload_n (pc := 36) dX12_hitsOf_36 rfl rfl ?_
        refine a_ret_i (pc := 37) hM rfl (rfl) dX12_hitsOf_37 (by omega) (by omega) ?_
        exact ⟨by rw [hc], rfl⟩
      · exact absurd c10 (by omega)
    | succ j ih =>
      intro k hk c hc
      have hcl : c ≤ k := by rw [hc]; exact cntN_le _ _
      refine a_iload_n (pc := 4) dX12_hitsOf_4 rfl rfl ?_
      refine a_aload_n (pc := 5) dX12_hitsOf_5 rfl rfl ?_
      refine a_iload_n (pc := 6) dX12_hitsOf_6 rfl rfl ?_
      refine a_callV (pc := 7) km_X12_161 dX12_hitsOf_7 (f_sizeOf hm hr hz) rfl rfl (krecv_of (ci := 12) rfl (m_obj hm)) (rok_of hM (by decide) (by decide) (by omega) (by omega)) (Nat.le_of_ble_eq_true rfl) (fun r7 h7 hp7 => ?_)
      obtain ⟨rfl, rfl⟩ := hp7
      refine a_icmp_geN (pc := 10) (tgt := 36) dX12_hitsOf_10 (by decide) (by omega) (by omega) (fun c10 => ?_) (fun c10 => ?_)
      · exact absurd c10 (by omega)
      · refine a_iload_n (pc := 13) dX12_hitsOf_13 rfl rfl ?_
        refine a_aload_n (pc := 14) dX12_hitsOf_14 rfl rfl ?_
        refine a_iload_n (pc := 15) dX12_hitsOf_15 rfl rfl ?_
        refine a_iload_n (pc := 16) dX12_hitsOf_16 rfl rfl ?_
        refine a_callV (pc := 17) km_X12_171 dX12_hitsOf_17 (f_isHit hm hr (by omega)) rfl rfl (krecv_of (ci := 12) rfl (m_obj hm)) (rok_of hM (by decide) (by decide) (by omega) (by omega)) (Nat.le_of_ble_eq_true rfl) (fun r17 h17 hp17 => ?_)
        obtain ⟨rfl, rfl⟩ := hp17
        refine a_if_eqB (pc := 20) (tgt := 27) dX12_hitsOf_20 (by decide) (fun c20 => ?_) (fun c20 => ?_)
        · have hc1 : c + 0 = hitsP s r (k + 1) := by rw [hc]; exact (cntN_f c20).symm
          refine a_iconst (pc := 27) dX12_hitsOf_27 ic_0 ?_
          refine a_iaddN (pc := 28) dX12_hitsOf_28 ?_
          refine a_istore_n (pc := 29) dX12_hitsOf_29 rfl (by decide) rfl ?_
          refine a_iincN (pc := 30) (n := 1) dX12_hitsOf_30 (by decide) rfl (by decide) rfl ?_
          refine a_goto (pc := 33) (tgt := 4) dX12_hitsOf_33 (by decide) ?_
          exact a_locR (ih (k + 1) (by omega) _ (hc1)) ⟨rfl, rfl, rfl, rfl, trivial⟩
        · have hc1 : c + 1 = hitsP s r (k + 1) := by rw [hc]; exact (cntN_t c20).symm
          refine a_iconst (pc := 23) dX12_hitsOf_23 ic_1 ?_
          refine a_goto (pc := 24) (tgt := 28) dX12_hitsOf_24 (by decide) ?_
          refine a_iaddN (pc := 28) dX12_hitsOf_28 ?_
          refine a_istore_n (pc := 29) dX12_hitsOf_29 rfl (by decide) rfl ?_
          refine a_iincN (pc := 30) (n := 1) dX12_hitsOf_30 (by decide) rfl (by decide) rfl ?_
          refine a_goto (pc := 33) (tgt := 4) dX12_hitsOf_33 (by decide) ?_
          exact a_locR (ih (k + 1) (by omega) _ (hc1)) ⟨rfl, rfl, rfl, rfl, trivial⟩
  refine a_iconst (pc := 0) dX12_hitsOf_0 ic_0 ?_
  refine a_istore_n (pc := 1) dX12_hitsOf_1 rfl (by decide) rfl ?_
  refine a_iconst (pc := 2) dX12_hitsOf_2 ic_0 ?_
  refine a_istore_n (pc := 3) dX12_hitsOf_3 rfl (by decide) rfl ?_
  exact a_locR (loop n 0 (by omega) 0 rfl) ⟨rfl, rfl, rfl, rfl, trivial⟩

end ML

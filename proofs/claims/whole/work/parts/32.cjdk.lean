/-! THE MACHINE's OWN METHODS that the class calls -/
theorem kf_Jxc12de_7 : LkF RJxc12de 7 13 0 (.int) false := ⟨RJx4a65c, TJx4a65c, 3, tyJx4a65c, "java/util/AbstractList", rfl, bw_Jx4a65c, tyJx4a65c_ok, nmJx4a65c, by decide, big_of 50 (by decide +kernel) rfl, Or.inl rfl, rfl, rfl, fun h => absurd h (by decide)⟩
section JD
variable {X : KX} {h : AH}
theorem cI_lt {a b : Nat} (ha : a < 2147483648) (hb : b < 2147483648) : nI a < nI b ↔ a < b := by
  rw [Int32.lt_iff_toInt_lt, nI_toInt ha, nI_toInt hb]
  omega
theorem nI_min {a b : Nat} (ha : a < 2147483648) (hb : b < 2147483648) : (if nI b < nI a then nI b else nI a) = nI (min a b) := by
  by_cases c : b < a
  · rw [if_pos ((cI_lt hb ha).mpr c), Nat.min_eq_right (by omega)]
  · rw [if_neg (fun z => c ((cI_lt hb ha).mp z)), Nat.min_eq_left (by omega)]
theorem nI_max {a b : Nat} (ha : a < 2147483648) (hb : b < 2147483648) : (if nI a < nI b then nI b else nI a) = nI (max a b) := by
  by_cases c : a < b
  · rw [if_pos ((cI_lt ha hb).mpr c), Nat.max_eq_right (by omega)]
  · rw [if_neg (fun z => c ((cI_lt ha hb).mp z)), Nat.max_eq_left (by omega)]
theorem nI_nn {n : Nat} (hn : n < 2147483648) : (0 : Int32) ≤ nI n := Int32.not_lt.mp (nI_pos hn)
set_option maxRecDepth 4000 in
theorem f_ckI {i n : Nat} (hi : i < n) (hn : n < 2147483648)  : Fn X 0 0 0 yJ3_checkIndex_8e157 cJ3_checkIndex_8e157 3 (some .int) [.int (nI i), .int (nI n), .null] h (fun rv hv => rv = some (.int (nI i)) ∧ hv = h) := by
  refine fn_of (by decide) (Nat.le_of_ble_eq_true rfl) (fun M hM => ?_)
  refine a_iload_n (pc := 0) dJ3_checkIndex_8e157_0 rfl rfl ?_
  refine a_if_ltN (pc := 1) (tgt := 9) dJ3_checkIndex_8e157_1 (by decide) (by omega) (fun c1 => ?_) (fun c1 => ?_)
  · exact c1.elim
  · refine a_iload_n (pc := 4) dJ3_checkIndex_8e157_4 rfl rfl ?_
    refine a_iload_n (pc := 5) dJ3_checkIndex_8e157_5 rfl rfl ?_
    refine a_icmp_ltN (pc := 6) (tgt := 16) dJ3_checkIndex_8e157_6 (by decide) (by omega) (by omega) (fun c6 => ?_) (fun c6 => ?_)
    · refine a_iload_n (pc := 16) dJ3_checkIndex_8e157_16 rfl rfl ?_
      refine a_ret_i (pc := 17) hM rfl (rfl) dJ3_checkIndex_8e157_17 (by omega) (by omega) ?_
      exact ⟨rfl, rfl⟩
    · exact absurd c6 (by omega)

set_option maxRecDepth 4000 in
theorem f_ckR {i n : Nat} (hi : i < n) (hn : n < 2147483648) {v : Nat} : Fn X 0 0 0 yJ3_checkIndex_8e157 cJ3_checkIndex_8e157 3 (some .int) [.int (nI i), .int (nI n), .ref v] h (fun rv hv => rv = some (.int (nI i)) ∧ hv = h) := by
  refine fn_of (by decide) (Nat.le_of_ble_eq_true rfl) (fun M hM => ?_)
  refine a_iload_n (pc := 0) dJ3_checkIndex_8e157_0 rfl rfl ?_
  refine a_if_ltN (pc := 1) (tgt := 9) dJ3_checkIndex_8e157_1 (by decide) (by omega) (fun c1 => ?_) (fun c1 => ?_)
  · exact c1.elim
  · refine a_iload_n (pc := 4) dJ3_checkIndex_8e157_4 rfl rfl ?_
    refine a_iload_n (pc := 5) dJ3_checkIndex_8e157_5 rfl rfl ?_
    refine a_icmp_ltN (pc := 6) (tgt := 16) dJ3_checkIndex_8e157_6 (by decide) (by omega) (by omega) (fun c6 => ?_) (fun c6 => ?_)
    · refine a_iload_n (pc := 16) dJ3_checkIndex_8e157_16 rfl rfl ?_
      refine a_ret_i (pc := 17) hM rfl (rfl) dJ3_checkIndex_8e157_17 (by omega) (by omega) ?_
      exact ⟨rfl, rfl⟩
    · exact absurd c6 (by omega)

set_option maxRecDepth 4000 in
theorem f_ckO {i n : Nat} (hi : i < n) (hn : n < 2147483648) : Fn X 1 0 0 yJ15_checkIndex_7cf53 cJ15_checkIndex_7cf53 2 (some .int) [.int (nI i), .int (nI n)] h (fun rv hv => rv = some (.int (nI i)) ∧ hv = h) := by
  refine fn_of (by decide) (Nat.le_of_ble_eq_true rfl) (fun M hM => ?_)
  refine a_iload_n (pc := 0) dJ15_checkIndex_7cf53_0 rfl rfl ?_
  refine a_iload_n (pc := 1) dJ15_checkIndex_7cf53_1 rfl rfl ?_
  refine a_null (pc := 2) dJ15_checkIndex_7cf53_2 ?_
  refine a_callS (pc := 3) km_J15_105 dJ15_checkIndex_7cf53_3 (f_ckI hi hn) rfl rfl (rok_of hM (by decide) (by decide) (by omega) (by omega)) (Nat.le_of_ble_eq_true rfl) (fun r3 h3 hp3 => ?_)
  obtain ⟨rfl, rfl⟩ := hp3
  refine a_ret_i (pc := 6) hM rfl (rfl) dJ15_checkIndex_7cf53_6 (by omega) (by omega) ?_
  exact ⟨rfl, rfl⟩

set_option maxRecDepth 4000 in
theorem f_size {a : Nat} {md v : Int32} {e : Value} (ha : h a = some (kO 13 [.int md, e, .int v])) : Fn X 0 0 0 yJx4a65c_size_8abf5 cJx4a65c_size_8abf5 1 (some .int) [.ref a] h (fun rv hv => rv = some (.int v) ∧ hv = h) := by
  refine fn_of (by decide) (Nat.le_of_ble_eq_true rfl) (fun M hM => ?_)
  refine a_aload_n (pc := 0) dJx4a65c_size_8abf5_0 rfl rfl ?_
  refine a_getfield (pc := 1) kg_Jx4a65c_48 dJx4a65c_size_8abf5_1 (ha) rfl ?_
  refine a_ret_i (pc := 4) hM rfl (rfl) dJx4a65c_size_8abf5_4 (by omega) (by omega) ?_
  exact ⟨rfl, rfl⟩

set_option maxRecDepth 4000 in
theorem f_elem {a e n cap : Nat} {md : Int32} {F : Nat → Option Nat} (ha : h a = some (kO 13 [.int md, .ref e, .int (nI n)])) (he : h e = some (kQ 2 cap F)) (hn : n ≤ cap) (hcap : cap ≤ 1000) {i v : Nat} (hi : i < n) (hv : F i = some v) : Fn X 0 0 0 yJx4a65c_elementData_915e3 cJx4a65c_elementData_915e3 2 (some (.object "java/lang/Object")) [.ref a, .int (nI i)] h (fun rv hv => rv = some (.ref v) ∧ hv = h) := by
  refine fn_of (by decide) (Nat.le_of_ble_eq_true rfl) (fun M hM => ?_)
  refine a_aload_n (pc := 0) dJx4a65c_elementData_915e3_0 rfl rfl ?_
  refine a_getfield (pc := 1) kg_Jx4a65c_9 dJx4a65c_elementData_915e3_1 (ha) rfl ?_
  refine a_iload_n (pc := 4) dJx4a65c_elementData_915e3_4 rfl rfl ?_
  refine a_aaload (pc := 5) rfl dJx4a65c_elementData_915e3_5 (he) (i) (rfl) (by omega) (by omega) ?_
  refine a_topv (show va_rf (F i) = .ref v by rw [hv]; rfl) ?_
  refine a_ret_a (pc := 6) hM rfl (Or.inl ⟨_, rfl⟩) (Or.inr ⟨_, rfl⟩) dJx4a65c_elementData_915e3_6 (by omega) (by omega) ?_
  exact ⟨rfl, rfl⟩

set_option maxRecDepth 4000 in
theorem f_get {a e n cap : Nat} {md : Int32} {F : Nat → Option Nat} (ha : h a = some (kO 13 [.int md, .ref e, .int (nI n)])) (he : h e = some (kQ 2 cap F)) (hn : n ≤ cap) (hcap : cap ≤ 1000) {i v : Nat} (hi : i < n) (hv : F i = some v) : Fn X 2 0 0 yJx4a65c_get_915e3 cJx4a65c_get_915e3 2 (some (.object "java/lang/Object")) [.ref a, .int (nI i)] h (fun rv hv => rv = some (.ref v) ∧ hv = h) := by
  refine fn_of (by decide) (Nat.le_of_ble_eq_true rfl) (fun M hM => ?_)
  refine a_iload_n (pc := 0) dJx4a65c_get_915e3_0 rfl rfl ?_
  refine a_aload_n (pc := 1) dJx4a65c_get_915e3_1 rfl rfl ?_
  refine a_getfield (pc := 2) kg_Jx4a65c_48 dJx4a65c_get_915e3_2 (ha) rfl ?_
  refine a_topi ((show nI n = nI n from rfl)) ?_
  refine a_callS (pc := 5) km_Jx4a65c_118 dJx4a65c_get_915e3_5 (f_ckO hi (by omega)) rfl rfl (rok_of hM (by decide) (by decide) (by omega) (by omega)) (Nat.le_of_ble_eq_true rfl) (fun r5 h5 hp5 => ?_)
  obtain ⟨rfl, rfl⟩ := hp5
  refine a_pop (pc := 8) dJx4a65c_get_915e3_8 rfl ?_
  refine a_aload_n (pc := 9) dJx4a65c_get_915e3_9 rfl rfl ?_
  refine a_iload_n (pc := 10) dJx4a65c_get_915e3_10 rfl rfl ?_
  refine a_callV (pc := 11) km_Jx4a65c_123 dJx4a65c_get_915e3_11 (f_elem ha he hn hcap hi hv) rfl rfl (krecv_of (by rfl) ha) (rok_of hM (by decide) (by decide) (by omega) (by omega)) (Nat.le_of_ble_eq_true rfl) (fun r11 h11 hp11 => ?_)
  obtain ⟨rfl, rfl⟩ := hp11
  refine a_ret_a (pc := 14) hM rfl (Or.inl ⟨_, rfl⟩) (Or.inr ⟨_, rfl⟩) dJx4a65c_get_915e3_14 (by omega) (by omega) ?_
  exact ⟨rfl, rfl⟩

set_option maxRecDepth 4000 in
theorem f_fillI {a n : Nat} {f : Nat → Int32} (ha : h a = some (kI n f)) (hn : n ≤ 1000) (v : Int32) : Fn X 0 0 0 yJ7_fill_53178 cJ7_fill_53178 4 none [.ref a, .int v] h (fun rv hv => rv = none ∧ hv = (kput h a (kI n (fillO (fun _ => v) f 0 (n))))) := by
  refine fn_of (by decide) (Nat.le_of_ble_eq_true rfl) (fun M hM => ?_)
  have loop : ∀ j i : Nat, n - i = j → i ≤ n → AJ X M yJ7_fill_53178 cJ7_fill_53178 4 none 5 [(0, .ref a), (1, .int v), (2, .int (nI i)), (3, .int (nI n))] [] (kput h a (kI n (fillO (fun _ => v) f 0 (i)))) 0 0 := by
    intro j
    induction j with
    | zero =>
      intro i hj hin
      refine a_iload_n (pc := 5) dJ7_fill_53178_5 rfl rfl ?_
      refine a_iload_n (pc := 6) dJ7_fill_53178_6 rfl rfl ?_
      refine a_icmp_geN (pc := 7) (tgt := 20) dJ7_fill_53178_7 (by decide) (by omega) (by omega) (fun c7 => ?_) (fun c7 => ?_)
      · have hin : i = n := by omega
        subst hin
        refine a_ret_v (pc := 20) hM rfl dJ7_fill_53178_20 (by omega) (by omega) ?_
        exact ⟨rfl, rfl⟩
      · exact absurd c7 (by omega)
    | succ j ih =>
      intro i hj hin
      refine a_iload_n (pc := 5) dJ7_fill_53178_5 rfl rfl ?_
      refine a_iload_n (pc := 6) dJ7_fill_53178_6 rfl rfl ?_
      refine a_icmp_geN (pc := 7) (tgt := 20) dJ7_fill_53178_7 (by decide) (by omega) (by omega) (fun c7 => ?_) (fun c7 => ?_)
      · exact absurd c7 (by omega)
      · refine a_aload_n (pc := 10) dJ7_fill_53178_10 rfl rfl ?_
        refine a_iload_n (pc := 11) dJ7_fill_53178_11 rfl rfl ?_
        refine a_iload_n (pc := 12) dJ7_fill_53178_12 rfl rfl ?_
        refine a_iastore (pc := 13) dJ7_fill_53178_13 (kput_eq) (0 + i) (by rw [Nat.zero_add]) (by omega) (by omega) ?_
        refine a_hp (show _ = (kput h a (kI n (fillO (fun _ => v) f 0 (i + 1)))) by rw [kput_put, fillO_s (f := fun _ => v)]) ?_
        refine a_iincN (pc := 14) (n := 1) dJ7_fill_53178_14 (by decide) rfl (by decide) rfl ?_
        refine a_goto (pc := 17) (tgt := 5) dJ7_fill_53178_17 (by decide) ?_
        exact a_locR (ih (i + 1) (by omega) (by omega)) ⟨rfl, rfl, rfl, rfl, trivial⟩
  refine a_iconst (pc := 0) dJ7_fill_53178_0 ic_0 ?_
  refine a_istore_n (pc := 1) dJ7_fill_53178_1 rfl (by decide) rfl ?_
  refine a_aload_n (pc := 2) dJ7_fill_53178_2 rfl rfl ?_
  refine a_alen (pc := 3) (t := 0) rfl dJ7_fill_53178_3 (ha) rfl ?_
  refine a_istore_n (pc := 4) dJ7_fill_53178_4 rfl (by decide) rfl ?_
  refine a_hp (show h = (kput h a (kI n (fillO (fun _ => v) f 0 (0)))) by rw [fillO_0, kput_self ha]) ?_
  exact a_locR (loop _ 0 rfl (Nat.zero_le _)) ⟨rfl, rfl, rfl, rfl, trivial⟩

theorem fillO_sL {f g : Nat → Int64} {off i : Nat} : vp_updL (fillO f g off i) (off + i) (f i) = fillO f g off (i + 1) := by
  funext j
  unfold vp_updL fillO
  by_cases e : j = off + i
  · rw [if_pos e, if_pos (by omega), e, Nat.add_sub_cancel_left]
  · rw [if_neg e]
    by_cases c : off ≤ j ∧ j < off + i
    · rw [if_pos c, if_pos (by omega)]
    · rw [if_neg c, if_neg (by omega)]
set_option maxRecDepth 4000 in
theorem f_fillL {a n : Nat} {f : Nat → Int64} (ha : h a = some (kL n f)) (hn : n ≤ 1000) (v : Int64) : Fn X 0 0 0 yJ7_fill_d0a16 cJ7_fill_d0a16 5 none [.ref a, .long v] h (fun rv hv => rv = none ∧ hv = (kput h a (kL n (fillO (fun _ => v) f 0 (n))))) := by
  refine fn_of (by decide) (Nat.le_of_ble_eq_true rfl) (fun M hM => ?_)
  have loop : ∀ j i : Nat, n - i = j → i ≤ n → AJ X M yJ7_fill_d0a16 cJ7_fill_d0a16 5 none 6 [(0, .ref a), (1, .long v), (3, .int (nI i)), (4, .int (nI n))] [] (kput h a (kL n (fillO (fun _ => v) f 0 (i)))) 0 0 := by
    intro j
    induction j with
    | zero =>
      intro i hj hin
      refine a_iload_n (pc := 6) dJ7_fill_d0a16_6 rfl rfl ?_
      refine a_iload (pc := 7) dJ7_fill_d0a16_7 rfl ?_
      refine a_icmp_geN (pc := 9) (tgt := 22) dJ7_fill_d0a16_9 (by decide) (by omega) (by omega) (fun c9 => ?_) (fun c9 => ?_)
      · have hin : i = n := by omega
        subst hin
        refine a_ret_v (pc := 22) hM rfl dJ7_fill_d0a16_22 (by omega) (by omega) ?_
        exact ⟨rfl, rfl⟩
      · exact absurd c9 (by omega)
    | succ j ih =>
      intro i hj hin
      refine a_iload_n (pc := 6) dJ7_fill_d0a16_6 rfl rfl ?_
      refine a_iload (pc := 7) dJ7_fill_d0a16_7 rfl ?_
      refine a_icmp_geN (pc := 9) (tgt := 22) dJ7_fill_d0a16_9 (by decide) (by omega) (by omega) (fun c9 => ?_) (fun c9 => ?_)
      · exact absurd c9 (by omega)
      · refine a_aload_n (pc := 12) dJ7_fill_d0a16_12 rfl rfl ?_
        refine a_iload_n (pc := 13) dJ7_fill_d0a16_13 rfl rfl ?_
        refine a_lload_n (pc := 14) dJ7_fill_d0a16_14 rfl rfl ?_
        refine a_lastore (pc := 15) dJ7_fill_d0a16_15 (kput_eq) (0 + i) (by rw [Nat.zero_add]) (by omega) (by omega) ?_
        refine a_hp (show _ = (kput h a (kL n (fillO (fun _ => v) f 0 (i + 1)))) by rw [kput_put, fillO_sL (f := fun _ => v)]) ?_
        refine a_iincN (pc := 16) (n := 1) dJ7_fill_d0a16_16 (by decide) rfl (by decide) rfl ?_
        refine a_goto (pc := 19) (tgt := 6) dJ7_fill_d0a16_19 (by decide) ?_
        exact a_locR (ih (i + 1) (by omega) (by omega)) ⟨rfl, rfl, rfl, rfl, trivial⟩
  refine a_iconst (pc := 0) dJ7_fill_d0a16_0 ic_0 ?_
  refine a_istore_n (pc := 1) dJ7_fill_d0a16_1 rfl (by decide) rfl ?_
  refine a_aload_n (pc := 2) dJ7_fill_d0a16_2 rfl rfl ?_
  refine a_alen (pc := 3) (t := 1) rfl dJ7_fill_d0a16_3 (ha) rfl ?_
  refine a_istore (pc := 4) dJ7_fill_d0a16_4 (by decide) rfl ?_
  refine a_hp (show h = (kput h a (kL n (fillO (fun _ => v) f 0 (0)))) by rw [fillO_0, kput_self ha]) ?_
  exact a_locR (loop _ 0 rfl (Nat.zero_le _)) ⟨rfl, rfl, rfl, rfl, trivial⟩

set_option maxRecDepth 4000 in
theorem f_copyI {a n c : Nat} {f : Nat → Int32} (ha : h a = some (kI n f)) (hn : n ≤ 1000) (hc : c ≤ 1000) : Fn X 1 1 c yJ7_copyOf_59c91 cJ7_copyOf_59c91 3 (some (.array .int)) [.ref a, .int (nI c)] h (fun rv hv => ∃ q, h q = none ∧ rv = some (.ref q) ∧ hv = kput h q (kI c (if c = n then f else va_cpy f (fun _ => 0) 0 0 (min n c)))) := by
  refine fn_of (by decide) (Nat.le_of_ble_eq_true rfl) (fun M hM => ?_)
  refine a_iload_n (pc := 0) dJ7_copyOf_59c91_0 rfl rfl ?_
  refine a_aload_n (pc := 1) dJ7_copyOf_59c91_1 rfl rfl ?_
  refine a_alen (pc := 2) (t := 0) rfl dJ7_copyOf_59c91_2 (ha) rfl ?_
  refine a_icmp_neN (pc := 3) (tgt := 14) dJ7_copyOf_59c91_3 (by decide) (by omega) (by omega) (fun c3 => ?_) (fun c3 => ?_)
  · refine a_iload_n (pc := 14) dJ7_copyOf_59c91_14 rfl rfl ?_
    refine a_newI (pc := 15) ka_int dJ7_copyOf_59c91_15 rfl (by omega) (by rw [hM.1]; simp only [rmd]; omega) (by rw [hM.1]; simp only [rmd]; omega) (fun q hq => ?_)
    refine a_astore_n (pc := 17) dJ7_copyOf_59c91_17 rfl (by decide) rfl ?_
    refine a_aload_n (pc := 18) dJ7_copyOf_59c91_18 rfl rfl ?_
    refine a_iconst (pc := 19) dJ7_copyOf_59c91_19 ic_0 ?_
    refine a_aload_n (pc := 20) dJ7_copyOf_59c91_20 rfl rfl ?_
    refine a_iconst (pc := 21) dJ7_copyOf_59c91_21 ic_0 ?_
    refine a_aload_n (pc := 22) dJ7_copyOf_59c91_22 rfl rfl ?_
    refine a_alen (pc := 23) (t := 0) rfl dJ7_copyOf_59c91_23 ((kput_ne (fun z => by rw [z, hq] at ha; exact absurd ha (by simp))).trans ha) rfl ?_
    refine a_iload_n (pc := 24) dJ7_copyOf_59c91_24 rfl rfl ?_
    refine a_mmin (pc := 25) km_J7_304 dJ7_copyOf_59c91_25 (by rw [hM.1]; simp only [rmd]; omega) (by rw [hM.1]; simp [rmd, Value.category] <;> omega) (by rw [hM.1]; simp only [rmd]; omega) (by rw [hM.1]; simp only [rmd]; omega) ?_
    refine a_topi (nI_min (by omega) (by omega)) ?_
    refine a_copyI (pc := 28) kcp_J7_150 dJ7_copyOf_59c91_28 ((kput_ne (fun z => by rw [z, hq] at ha; exact absurd ha (by simp))).trans ha) (kput_eq) rfl rfl rfl (by omega) (by omega) (by omega) (by omega)  (by rw [hM.1]; simp only [rmd]; omega) (by rw [hM.1]; simp [rmd, Value.category] <;> omega) ?_
    refine a_aload_n (pc := 31) dJ7_copyOf_59c91_31 rfl rfl ?_
    refine a_ret_a (pc := 32) hM rfl (Or.inr ⟨_, rfl⟩) (Or.inr ⟨_, rfl⟩) dJ7_copyOf_59c91_32 (by omega) (by omega) ?_
    exact ⟨q, hq, rfl, by rw [kput_put, if_neg (fun z => c3 z)]⟩
  · refine a_aload_n (pc := 6) dJ7_copyOf_59c91_6 rfl rfl ?_
    subst c3
    refine a_cloneI (pc := 7) kcl_J7_316 dJ7_copyOf_59c91_7 ha (by rw [hM.1]; simp only [rmd]; omega) (by rw [hM.1]; simp [rmd, Value.category]) (by rw [hM.1]; simp only [rmd]; omega) (by rw [hM.1]; simp only [rmd]; omega) (fun q hq => ?_)
    refine a_castA (pc := 10) kl_J7_317 (t := 0) rfl (by decide) kput_eq dJ7_copyOf_59c91_10 ?_
    refine a_ret_a (pc := 13) hM rfl (Or.inr ⟨_, rfl⟩) (Or.inr ⟨_, rfl⟩) dJ7_copyOf_59c91_13 (by omega) (by omega) ?_
    exact ⟨q, hq, rfl, by rw [if_pos rfl]⟩

set_option maxRecDepth 4000 in
theorem f_copyQ3 {a n c : Nat} {F : Nat → Option Nat} (ha : h a = some (kQ 2 n F)) (hn : n ≤ 1000) (hc : c ≤ 1000) (hel : ∀ i, i < n → ∀ v, F i = some v → ∃ ci r vs, kcl[ci]? = some r ∧ h v = some (.inr (ci, vs))) : Fn X 1 1 c yJ7_copyOf_6403c cJ7_copyOf_6403c 4 (some (.array (.object "java/lang/Object"))) [.ref a, .int (nI c), .ref (X.2.2.2.1 3)] h (fun rv hv => ∃ q, h q = none ∧ rv = some (.ref q) ∧ hv = kput h q (kQ 2 c (va_cpy F (fun _ => none) 0 0 (min n c)))) := by
  refine fn_of (by decide) (Nat.le_of_ble_eq_true rfl) (fun M hM => ?_)
  refine a_aload_n (pc := 0) dJ7_copyOf_6403c_0 rfl rfl ?_
  refine a_ldcM (pc := 1) kl_J7_110 dJ7_copyOf_6403c_1 ?_
  refine a_acmp_ne (pc := 3) (tgt := 13) dJ7_copyOf_6403c_3 (by decide) (fun c3 => ?_) (fun c3 => ?_)
  · exact absurd rfl c3
  · refine a_iload_n (pc := 6) dJ7_copyOf_6403c_6 rfl rfl ?_
    refine a_newQ (pc := 7) (t := 2) rfl (Or.inr rfl) kl_J7_2 dJ7_copyOf_6403c_7 rfl (by omega) (by rw [hM.1]; simp only [rmd]; omega) (by rw [hM.1]; simp only [rmd]; omega) (fun q hq => ?_)
    refine a_goto (pc := 10) (tgt := 24) dJ7_copyOf_6403c_10 (by decide) ?_
    refine a_astore_n (pc := 24) dJ7_copyOf_6403c_24 rfl (by decide) rfl ?_
    refine a_aload_n (pc := 25) dJ7_copyOf_6403c_25 rfl rfl ?_
    refine a_iconst (pc := 26) dJ7_copyOf_6403c_26 ic_0 ?_
    refine a_aload_n (pc := 27) dJ7_copyOf_6403c_27 rfl rfl ?_
    refine a_iconst (pc := 28) dJ7_copyOf_6403c_28 ic_0 ?_
    refine a_aload_n (pc := 29) dJ7_copyOf_6403c_29 rfl rfl ?_
    refine a_alen (pc := 30) (t := 2) rfl dJ7_copyOf_6403c_30 ((kput_ne (fun z => by rw [z, hq] at ha; exact absurd ha (by simp))).trans ha) rfl ?_
    refine a_iload_n (pc := 31) dJ7_copyOf_6403c_31 rfl rfl ?_
    refine a_mmin (pc := 32) km_J7_304 dJ7_copyOf_6403c_32 (by rw [hM.1]; simp only [rmd]; omega) (by rw [hM.1]; simp [rmd, Value.category] <;> omega) (by rw [hM.1]; simp only [rmd]; omega) (by rw [hM.1]; simp only [rmd]; omega) ?_
    refine a_topi (nI_min (by omega) (by omega)) ?_
    refine a_copyQ (pc := 35) kcp_J7_150 dJ7_copyOf_6403c_35 ((kput_ne (fun z => by rw [z, hq] at ha; exact absurd ha (by simp))).trans ha) (kput_eq) rfl rfl rfl (by omega) (by omega) (by omega) (by omega) (fun i hi v hv => by rw [Nat.zero_add] at hv; obtain ⟨ci, r, vs, e1, e2⟩ := hel i (by omega) v hv; exact ⟨ci, r, vs, e1, (kput_ne (fun z => by rw [z, hq] at e2; exact absurd e2 (by simp))).trans e2⟩) (by rw [hM.1]; simp only [rmd]; omega) (by rw [hM.1]; simp [rmd, Value.category] <;> omega) ?_
    refine a_aload_n (pc := 38) dJ7_copyOf_6403c_38 rfl rfl ?_
    refine a_ret_a (pc := 39) hM rfl (Or.inr ⟨_, rfl⟩) (Or.inr ⟨_, rfl⟩) dJ7_copyOf_6403c_39 (by omega) (by omega) ?_
    exact ⟨q, hq, rfl, by rw [kput_put]⟩

set_option maxRecDepth 4000 in
theorem f_copyQ {a n c : Nat} {F : Nat → Option Nat} (ha : h a = some (kQ 2 n F)) (hn : n ≤ 1000) (hc : c ≤ 1000) (hel : ∀ i, i < n → ∀ v, F i = some v → ∃ ci r vs, kcl[ci]? = some r ∧ h v = some (.inr (ci, vs))) : Fn X 2 1 c yJ7_copyOf_1904c cJ7_copyOf_1904c 2 (some (.array (.object "java/lang/Object"))) [.ref a, .int (nI c)] h (fun rv hv => ∃ q, h q = none ∧ rv = some (.ref q) ∧ hv = kput h q (kQ 2 c (va_cpy F (fun _ => none) 0 0 (min n c)))) := by
  refine fn_of (by decide) (Nat.le_of_ble_eq_true rfl) (fun M hM => ?_)
  refine a_aload_n (pc := 0) dJ7_copyOf_1904c_0 rfl rfl ?_
  refine a_iload_n (pc := 1) dJ7_copyOf_1904c_1 rfl rfl ?_
  refine a_aload_n (pc := 2) dJ7_copyOf_1904c_2 rfl rfl ?_
  refine a_getC (pc := 3) rfl dJ7_copyOf_1904c_3 ha (by rw [hM.1]; simp only [rmd]; omega) (by rw [hM.1]; simp [rmd, Value.category]) ?_
  refine a_callS (pc := 6) km_J7_300 dJ7_copyOf_1904c_6 (f_copyQ3 ha hn hc hel) rfl rfl (rok_of hM (by decide) (by decide) (by omega) (by omega)) (Nat.le_of_ble_eq_true rfl) (fun r6 h6 hp6 => ?_)
  obtain ⟨q, hq, rfl, rfl⟩ := hp6
  refine a_ret_a (pc := 9) hM rfl (Or.inr ⟨_, rfl⟩) (Or.inr ⟨_, rfl⟩) dJ7_copyOf_1904c_9 (by omega) (by omega) ?_
  exact ⟨q, hq, rfl, rfl⟩

set_option maxRecDepth 4000 in
theorem f_newLen {a b c : Nat} (ha : 1 ≤ a) (ha2 : a ≤ 1000) (hb : b ≤ 1000) (hc : c ≤ 1000) : Fn X 1 0 0 yJ8_newLength_cabcc cJ8_newLength_cabcc 4 (some .int) [.int (nI a), .int (nI b), .int (nI c)] h (fun rv hv => rv = some (.int (nI (a + max b c))) ∧ hv = h) := by
  refine fn_of (by decide) (Nat.le_of_ble_eq_true rfl) (fun M hM => ?_)
  refine a_iload_n (pc := 0) dJ8_newLength_cabcc_0 rfl rfl ?_
  refine a_iload_n (pc := 1) dJ8_newLength_cabcc_1 rfl rfl ?_
  refine a_iload_n (pc := 2) dJ8_newLength_cabcc_2 rfl rfl ?_
  refine a_mmax (pc := 3) km_J8_194 dJ8_newLength_cabcc_3 (by rw [hM.1]; simp only [rmd]; omega) (by rw [hM.1]; simp [rmd, Value.category] <;> omega) (by rw [hM.1]; simp only [rmd]; omega) (by rw [hM.1]; simp only [rmd]; omega) ?_
  refine a_topi (nI_max (by omega) (by omega)) ?_
  refine a_iaddN (pc := 6) dJ8_newLength_cabcc_6 ?_
  refine a_istore_n (pc := 7) dJ8_newLength_cabcc_7 rfl (by decide) rfl ?_
  refine a_iconst (pc := 8) dJ8_newLength_cabcc_8 ic_0 ?_
  refine a_iload_n (pc := 9) dJ8_newLength_cabcc_9 rfl rfl ?_
  refine a_icmp_geN (pc := 10) (tgt := 21) dJ8_newLength_cabcc_10 (by decide) (by omega) (by omega) (fun c10 => ?_) (fun c10 => ?_)
  · exact absurd c10 (by omega)
  · refine a_iload_n (pc := 13) dJ8_newLength_cabcc_13 rfl rfl ?_
    refine a_ldc (pc := 14) kc_J8_200 dJ8_newLength_cabcc_14 ?_
    refine a_topi (show (2147483639 : Int32) = nI 2147483639 from rfl) ?_
    refine a_icmp_gtN (pc := 16) (tgt := 21) dJ8_newLength_cabcc_16 (by decide) (by omega) (by omega) (fun c16 => ?_) (fun c16 => ?_)
    · exact absurd c16 (by omega)
    · refine a_iload_n (pc := 19) dJ8_newLength_cabcc_19 rfl rfl ?_
      refine a_ret_i (pc := 20) hM rfl (rfl) dJ8_newLength_cabcc_20 (by omega) (by omega) ?_
      exact ⟨rfl, rfl⟩

end JD

/-! TEXTS OF THE MACHINE, THE TAPE -/
section CT
variable {X : KX} {h : AH}
abbrev sK (X : KX) (i : Nat) : Nat := X.2.2.2.1 (10 + i)
abbrev sV (X : KX) (i : Nat) : Nat := X.2.2.2.1 (30 + i)
def sL (i : Nat) : Nat := k_len.getD i 0
def sB (i j : Nat) : Int32 := (k_byt.getD i []).getD j 0
theorem s_coder {i : Nat} (hi : i < 13) : ∀ A U, EFX X A U → va_OF "java/lang/String" "coder" "B" (.int 0) (sK X i) A U U.heap := fun _ _ q => (q.2.2.2.2.2.2.2.2.1.1 i hi).2.1
theorem s_value {i : Nat} (hi : i < 13) : ∀ A U, EFX X A U → va_OF "java/lang/String" "value" "[B" (.ref (sV X i)) (sK X i) A U U.heap := fun _ _ q => (q.2.2.2.2.2.2.2.2.1.1 i hi).2.2.1
theorem s_tab {i : Nat} (hi : i < 13) : ∀ A U, EFX X A U → va_T .byte (sV X i) (sL i) (fun j => .int (sB i j)) A U U.heap := fun _ _ q => (q.2.2.2.2.2.2.2.2.1.1 i hi).2.2.2
theorem s_len : ∀ i, i < 13 → sL i < 60 := by decide
theorem s_low : ∀ i, i < 13 → ∀ j, j < sL i → ∃ c : Fin 128, sB i j = nI c.val := by decide +kernel
theorem shr0 {n : Nat} (h : n < 100) : nI n >>> (0 &&& 31) = nI n := by
  have e : ∀ n, n < 100 → nI n >>> (0 &&& 31) = nI n := by decide +kernel
  exact e n h
theorem msk : ∀ c : Fin 128, ((nI c.val &&& nI 255).toUInt32 % 65536).toInt32 = nI c.val := by decide +kernel
theorem nar_c : ∀ c : Fin 128, narrow .char (.int (nI c.val)) = .int (nI c.val) := by decide +kernel
set_option maxRecDepth 4000 in
theorem f_coder {i : Nat} (hi : i < 13) : Fn X 0 0 0 yJ0_coder_7d493 cJ0_coder_7d493 1 (some .byte) [.ref (sK X i)] h (fun rv hv => rv = some (.int 0) ∧ hv = h) := by
  refine fn_of (by decide) (Nat.le_of_ble_eq_true rfl) (fun M hM => ?_)
  refine a_gets (pc := 0) (fun _ _ q => q.2.2.2.2.2.2.1) ks_J0_38 dJ0_coder_7d493_0 ?_
  refine a_if_eq (pc := 3) (tgt := 13) dJ0_coder_7d493_3 (by decide) (fun c3 => ?_) (fun c3 => ?_)
  · exact absurd c3 (by decide)
  · refine a_aload_n (pc := 6) dJ0_coder_7d493_6 rfl rfl ?_
    refine a_getS (pc := 7) (s_coder hi) ks_J0_15 dJ0_coder_7d493_7 ?_
    refine a_goto (pc := 10) (tgt := 14) dJ0_coder_7d493_10 (by decide) ?_
    refine a_ret_i (pc := 14) hM rfl (by decide +kernel) dJ0_coder_7d493_14 (by omega) (by omega) ?_
    exact ⟨rfl, rfl⟩

set_option maxRecDepth 4000 in
theorem f_slen {i : Nat} (hi : i < 13) : Fn X 1 0 0 yJ0_length_8abf5 cJ0_length_8abf5 1 (some .int) [.ref (sK X i)] h (fun rv hv => rv = some (.int (nI (sL i))) ∧ hv = h) := by
  refine fn_of (by decide) (Nat.le_of_ble_eq_true rfl) (fun M hM => ?_)
  refine a_aload_n (pc := 0) dJ0_length_8abf5_0 rfl rfl ?_
  refine a_getS (pc := 1) (s_value hi) ks_J0_9 dJ0_length_8abf5_1 ?_
  refine a_tlen (pc := 4) (s_tab hi) dJ0_length_8abf5_4 ?_
  refine a_aload_n (pc := 5) dJ0_length_8abf5_5 rfl rfl ?_
  refine a_callV (pc := 6) km_J0_335 dJ0_length_8abf5_6 (f_coder hi) rfl rfl (krecv_str hi) (rok_of hM (by decide) (by decide) (by omega) (by omega)) (Nat.le_of_ble_eq_true rfl) (fun r6 h6 hp6 => ?_)
  obtain ⟨rfl, rfl⟩ := hp6
  refine a_ishr (pc := 9) dJ0_length_8abf5_9 ?_
  refine a_topi (shr0 (by have := s_len i hi; omega)) ?_
  refine a_ret_i (pc := 10) hM rfl (rfl) dJ0_length_8abf5_10 (by omega) (by omega) ?_
  exact ⟨rfl, rfl⟩

set_option maxRecDepth 4000 in
theorem f_latin {i : Nat} (hi : i < 13) : Fn X 0 0 0 yJ0_isLatin1_aae02 cJ0_isLatin1_aae02 1 (some .boolean) [.ref (sK X i)] h (fun rv hv => rv = some (.int (bI true)) ∧ hv = h) := by
  refine fn_of (by decide) (Nat.le_of_ble_eq_true rfl) (fun M hM => ?_)
  refine a_gets (pc := 0) (fun _ _ q => q.2.2.2.2.2.2.1) ks_J0_38 dJ0_isLatin1_aae02_0 ?_
  refine a_if_eq (pc := 3) (tgt := 17) dJ0_isLatin1_aae02_3 (by decide) (fun c3 => ?_) (fun c3 => ?_)
  · exact absurd c3 (by decide)
  · refine a_aload_n (pc := 6) dJ0_isLatin1_aae02_6 rfl rfl ?_
    refine a_getS (pc := 7) (s_coder hi) ks_J0_15 dJ0_isLatin1_aae02_7 ?_
    refine a_if_ne (pc := 10) (tgt := 17) dJ0_isLatin1_aae02_10 (by decide) (fun c10 => ?_) (fun c10 => ?_)
    · exact absurd rfl c10
    · refine a_iconst (pc := 13) dJ0_isLatin1_aae02_13 ic_1 ?_
      refine a_goto (pc := 14) (tgt := 18) dJ0_isLatin1_aae02_14 (by decide) ?_
      refine a_ret_i (pc := 18) hM rfl (by decide +kernel) dJ0_isLatin1_aae02_18 (by omega) (by omega) ?_
      exact ⟨rfl, rfl⟩

set_option maxRecDepth 4000 in
theorem f_ckS0 (hX : X.2.2.2.2 = .null) {i n : Nat} (hi : i < n) (hn : n < 2147483648) : Fn X 1 0 0 yJ0_checkIndex_df160 cJ0_checkIndex_df160 2 none [.int (nI i), .int (nI n)] h (fun rv hv => rv = none ∧ hv = h) := by
  refine fn_of (by decide) (Nat.le_of_ble_eq_true rfl) (fun M hM => ?_)
  refine a_iload_n (pc := 0) dJ0_checkIndex_df160_0 rfl rfl ?_
  refine a_iload_n (pc := 1) dJ0_checkIndex_df160_1 rfl rfl ?_
  refine a_gets (pc := 2) (v := .null) (fun _ _ q => hX ▸ q.2.2.2.2.2.2.2.1) ks_J0_1053 dJ0_checkIndex_df160_2 ?_
  refine a_callS (pc := 5) km_J0_1059 dJ0_checkIndex_df160_5 (f_ckI hi hn) rfl rfl (rok_of hM (by decide) (by decide) (by omega) (by omega)) (Nat.le_of_ble_eq_true rfl) (fun r5 h5 hp5 => ?_)
  obtain ⟨rfl, rfl⟩ := hp5
  refine a_pop (pc := 8) dJ0_checkIndex_df160_8 rfl ?_
  refine a_ret_v (pc := 9) hM rfl dJ0_checkIndex_df160_9 (by omega) (by omega) ?_
  exact ⟨rfl, rfl⟩

set_option maxRecDepth 4000 in
theorem f_ckS1 {t : Nat} (hX : X.2.2.2.2 = .ref t) {i n : Nat} (hi : i < n) (hn : n < 2147483648) : Fn X 1 0 0 yJ0_checkIndex_df160 cJ0_checkIndex_df160 2 none [.int (nI i), .int (nI n)] h (fun rv hv => rv = none ∧ hv = h) := by
  refine fn_of (by decide) (Nat.le_of_ble_eq_true rfl) (fun M hM => ?_)
  refine a_iload_n (pc := 0) dJ0_checkIndex_df160_0 rfl rfl ?_
  refine a_iload_n (pc := 1) dJ0_checkIndex_df160_1 rfl rfl ?_
  refine a_gets (pc := 2) (v := (.ref t)) (fun _ _ q => hX ▸ q.2.2.2.2.2.2.2.1) ks_J0_1053 dJ0_checkIndex_df160_2 ?_
  refine a_callS (pc := 5) km_J0_1059 dJ0_checkIndex_df160_5 (f_ckR hi hn) rfl rfl (rok_of hM (by decide) (by decide) (by omega) (by omega)) (Nat.le_of_ble_eq_true rfl) (fun r5 h5 hp5 => ?_)
  obtain ⟨rfl, rfl⟩ := hp5
  refine a_pop (pc := 8) dJ0_checkIndex_df160_8 rfl ?_
  refine a_ret_v (pc := 9) hM rfl dJ0_checkIndex_df160_9 (by omega) (by omega) ?_
  exact ⟨rfl, rfl⟩

theorem a_fmt {M : MX} {y : MethodName} {cc : ByteArray} {nL : Nat} {rt : Option FieldType} {pc : Nat} {L : List (Nat × Value)} {st : List Value} {uc us : Nat} (k0 : X.2.2.2.2 = .null → AJ X M y cc nL rt pc L st h uc us) (k1 : ∀ t, X.2.2.2.2 = .ref t → AJ X M y cc nL rt pc L st h uc us) : AJ X M y cc nL rt pc L st h uc us := fun ok H locs ls hR hS hL => by
  rcases ok.2.2.2.2.2.2.2.2.2.1.2.2.2.2.2.2.2.2.2.2.2.2.2.2.2.2.2 with e | ⟨t, e⟩
  · exact k0 e ok H locs ls hR hS hL
  · exact k1 t e ok H locs ls hR hS hL
set_option maxRecDepth 4000 in
theorem f_char1 {i j : Nat} (hi : i < 13) (hj : j < sL i) : Fn X 2 0 0 yJ1_charAt_3b067 cJ1_charAt_3b067 2 (some .char) [.ref (sV X i), .int (nI j)] h (fun rv hv => rv = some (.int (sB i j)) ∧ hv = h) := by
  refine fn_of (by decide) (Nat.le_of_ble_eq_true rfl) (fun M hM => ?_)
  obtain ⟨c, hc⟩ := s_low i hi j hj
  refine a_fmt (fun hX => ?_) (fun t hX => ?_)
  · skip
    refine a_iload_n (pc := 0) dJ1_charAt_3b067_0 rfl rfl ?_
    refine a_aload_n (pc := 1) dJ1_charAt_3b067_1 rfl rfl ?_
    refine a_tlen (pc := 2) (s_tab hi) dJ1_charAt_3b067_2 ?_
    refine a_callS (pc := 3) km_J1_9 dJ1_charAt_3b067_3 (f_ckS0 hX hj (by have := s_len i hi; omega)) rfl rfl (rok_of hM (by decide) (by decide) (by omega) (by omega)) (Nat.le_of_ble_eq_true rfl) (fun r3 h3 hp3 => ?_)
    obtain ⟨rfl, rfl⟩ := hp3
    refine a_aload_n (pc := 6) dJ1_charAt_3b067_6 rfl rfl ?_
    refine a_iload_n (pc := 7) dJ1_charAt_3b067_7 rfl rfl ?_
    refine a_tbload (pc := 8) (s_tab hi) dJ1_charAt_3b067_8 j rfl hj (by have := s_len i hi; omega) ?_
    refine a_sipush (pc := 9) dJ1_charAt_3b067_9 is_255 ?_
    refine a_iand (pc := 12) dJ1_charAt_3b067_12 ?_
    refine a_i2c (pc := 13) dJ1_charAt_3b067_13 ?_
    refine a_topi (show _ = sB i j by rw [hc]; exact msk c) ?_
    refine a_ret_i (pc := 14) hM rfl (by rw [hc]; exact nar_c c) dJ1_charAt_3b067_14 (by omega) (by omega) ?_
    exact ⟨rfl, rfl⟩
  · skip
    refine a_iload_n (pc := 0) dJ1_charAt_3b067_0 rfl rfl ?_
    refine a_aload_n (pc := 1) dJ1_charAt_3b067_1 rfl rfl ?_
    refine a_tlen (pc := 2) (s_tab hi) dJ1_charAt_3b067_2 ?_
    refine a_callS (pc := 3) km_J1_9 dJ1_charAt_3b067_3 (f_ckS1 hX hj (by have := s_len i hi; omega)) rfl rfl (rok_of hM (by decide) (by decide) (by omega) (by omega)) (Nat.le_of_ble_eq_true rfl) (fun r3 h3 hp3 => ?_)
    obtain ⟨rfl, rfl⟩ := hp3
    refine a_aload_n (pc := 6) dJ1_charAt_3b067_6 rfl rfl ?_
    refine a_iload_n (pc := 7) dJ1_charAt_3b067_7 rfl rfl ?_
    refine a_tbload (pc := 8) (s_tab hi) dJ1_charAt_3b067_8 j rfl hj (by have := s_len i hi; omega) ?_
    refine a_sipush (pc := 9) dJ1_charAt_3b067_9 is_255 ?_
    refine a_iand (pc := 12) dJ1_charAt_3b067_12 ?_
    refine a_i2c (pc := 13) dJ1_charAt_3b067_13 ?_
    refine a_topi (show _ = sB i j by rw [hc]; exact msk c) ?_
    refine a_ret_i (pc := 14) hM rfl (by rw [hc]; exact nar_c c) dJ1_charAt_3b067_14 (by omega) (by omega) ?_
    exact ⟨rfl, rfl⟩

set_option maxRecDepth 4000 in
theorem f_charAt {i j : Nat} (hi : i < 13) (hj : j < sL i) : Fn X 3 0 0 yJ0_charAt_5068e cJ0_charAt_5068e 2 (some .char) [.ref (sK X i), .int (nI j)] h (fun rv hv => rv = some (.int (sB i j)) ∧ hv = h) := by
  obtain ⟨c, hc⟩ := s_low i hi j hj
  refine fn_of (by decide) (Nat.le_of_ble_eq_true rfl) (fun M hM => ?_)
  refine a_aload_n (pc := 0) dJ0_charAt_5068e_0 rfl rfl ?_
  refine a_callV (pc := 1) km_J0_492 dJ0_charAt_5068e_1 (f_latin hi) rfl rfl (krecv_str hi) (rok_of hM (by decide) (by decide) (by omega) (by omega)) (Nat.le_of_ble_eq_true rfl) (fun r1 h1 hp1 => ?_)
  obtain ⟨rfl, rfl⟩ := hp1
  refine a_if_eqB (pc := 4) (tgt := 16) dJ0_charAt_5068e_4 (by decide) (fun c4 => ?_) (fun c4 => ?_)
  · exact absurd c4 (by decide)
  · refine a_aload_n (pc := 7) dJ0_charAt_5068e_7 rfl rfl ?_
    refine a_getS (pc := 8) (s_value hi) ks_J0_9 dJ0_charAt_5068e_8 ?_
    refine a_iload_n (pc := 11) dJ0_charAt_5068e_11 rfl rfl ?_
    refine a_callS (pc := 12) km_J0_495 dJ0_charAt_5068e_12 (f_char1 hi hj) rfl rfl (rok_of hM (by decide) (by decide) (by omega) (by omega)) (Nat.le_of_ble_eq_true rfl) (fun r12 h12 hp12 => ?_)
    obtain ⟨rfl, rfl⟩ := hp12
    refine a_ret_i (pc := 15) hM rfl (by rw [hc]; exact nar_c c) dJ0_charAt_5068e_15 (by omega) (by omega) ?_
    exact ⟨rfl, rfl⟩

/-- the tape at a: its array bt, z bytes -/
def TP (h : AH) (a bt z : Nat) (f : Nat → Int32) : Prop := h a = some (kO 8 [.ref bt, .int (nI z)]) ∧ h bt = some (kI 160 f) ∧ z ≤ 160
def tB (f : Nat → Int32) (z : Nat) (i : Nat) : Int32 := if i < z then f i else -1
def enF (lo hi : Nat) (b : Nat → Int32) : Nat → Nat → Nat
  | 0, n => n
  | f + 1, n => if inR (b n) lo hi = true then enF lo hi b f (n + 1) else n
theorem leF_fst (b : Nat → Int32) (f n : Nat) (w : Int64) (c : Nat) : (leF b f n w c).1 = enF 97 122 b f n := by
  induction f generalizing n w c with
  | zero => rfl
  | succ f ih =>
    unfold leF enF
    split
    · exact ih _ _ _
    · rfl
theorem diF_fst (b : Nat → Int32) (f n : Nat) (w : Int64) (c : Nat) : (diF b f n w c).1 = enF 48 57 b f n := by
  induction f generalizing n w c with
  | zero => rfl
  | succ f ih =>
    unfold diF enF
    split
    · exact ih _ _ _
    · rfl
theorem enF_ge (lo hi : Nat) (b : Nat → Int32) (f n : Nat) : n ≤ enF lo hi b f n := by
  induction f generalizing n with
  | zero => exact Nat.le_refl _
  | succ f ih =>
    unfold enF
    split
    · exact Nat.le_trans (Nat.le_succ n) (ih (n + 1))
    · exact Nat.le_refl _
theorem enF_le (lo hi : Nat) (b : Nat → Int32) (f n : Nat) : enF lo hi b f n ≤ n + f := by
  induction f generalizing n with
  | zero => exact Nat.le_refl _
  | succ f ih =>
    unfold enF
    split
    · have := ih (n + 1)
      omega
    · omega
theorem inR_iff {x : Int32} {lo hi : Nat} (h1 : lo < 1000) (h2 : hi < 1000) : inR x lo hi = true ↔ nI lo ≤ x ∧ x ≤ nI hi := by
  simp only [inR, Bool.and_eq_true, decide_eq_true_eq]
  rw [Int32.le_iff_toInt_le, Int32.le_iff_toInt_le, nI_toInt (by omega), nI_toInt (by omega)]
set_option maxRecDepth 4000 in
theorem f_isL (x : Int32) : Fn X 0 0 0 yX8_isLetter cX8_isLetter 1 (some .boolean) [.int x] h (fun rv hv => rv = some (.int (bI (inR x 97 122))) ∧ hv = h) := by
  refine fn_of (by decide) (Nat.le_of_ble_eq_true rfl) (fun M hM => ?_)
  refine a_bipush (pc := 0) dX8_isLetter_0 ib_97 ?_
  refine a_iload_n (pc := 2) dX8_isLetter_2 rfl rfl ?_
  refine a_icmp_gt (pc := 3) (tgt := 16) dX8_isLetter_3 (by decide) (fun c3 => ?_) (fun c3 => ?_)
  · have e : inR x 97 122 = false := Bool.eq_false_iff.mpr (fun z => absurd ((inR_iff (by decide) (by decide)).mp z).1 (Int32.not_le.mpr c3))
    refine a_iconst (pc := 16) dX8_isLetter_16 ic_0 ?_
    refine a_ret_i (pc := 17) hM rfl (by decide +kernel) dX8_isLetter_17 (by omega) (by omega) ?_
    exact ⟨by rw [e]; rfl, rfl⟩
  · refine a_iload_n (pc := 6) dX8_isLetter_6 rfl rfl ?_
    refine a_bipush (pc := 7) dX8_isLetter_7 ib_122 ?_
    refine a_icmp_gt (pc := 9) (tgt := 16) dX8_isLetter_9 (by decide) (fun c9 => ?_) (fun c9 => ?_)
    · have e : inR x 97 122 = false := Bool.eq_false_iff.mpr (fun z => absurd ((inR_iff (by decide) (by decide)).mp z).2 (Int32.not_le.mpr c9))
      refine a_iconst (pc := 16) dX8_isLetter_16 ic_0 ?_
      refine a_ret_i (pc := 17) hM rfl (by decide +kernel) dX8_isLetter_17 (by omega) (by omega) ?_
      exact ⟨by rw [e]; rfl, rfl⟩
    · have e : inR x 97 122 = true := (inR_iff (by decide) (by decide)).mpr ⟨Int32.not_lt.mp c3, Int32.not_lt.mp c9⟩
      refine a_iconst (pc := 12) dX8_isLetter_12 ic_1 ?_
      refine a_goto (pc := 13) (tgt := 17) dX8_isLetter_13 (by decide) ?_
      refine a_ret_i (pc := 17) hM rfl (by decide +kernel) dX8_isLetter_17 (by omega) (by omega) ?_
      exact ⟨by rw [e]; rfl, rfl⟩

set_option maxRecDepth 4000 in
theorem f_isD (x : Int32) : Fn X 0 0 0 yX8_isDigit cX8_isDigit 1 (some .boolean) [.int x] h (fun rv hv => rv = some (.int (bI (inR x 48 57))) ∧ hv = h) := by
  refine fn_of (by decide) (Nat.le_of_ble_eq_true rfl) (fun M hM => ?_)
  refine a_bipush (pc := 0) dX8_isDigit_0 ib_48 ?_
  refine a_iload_n (pc := 2) dX8_isDigit_2 rfl rfl ?_
  refine a_icmp_gt (pc := 3) (tgt := 16) dX8_isDigit_3 (by decide) (fun c3 => ?_) (fun c3 => ?_)
  · have e : inR x 48 57 = false := Bool.eq_false_iff.mpr (fun z => absurd ((inR_iff (by decide) (by decide)).mp z).1 (Int32.not_le.mpr c3))
    refine a_iconst (pc := 16) dX8_isDigit_16 ic_0 ?_
    refine a_ret_i (pc := 17) hM rfl (by decide +kernel) dX8_isDigit_17 (by omega) (by omega) ?_
    exact ⟨by rw [e]; rfl, rfl⟩
  · refine a_iload_n (pc := 6) dX8_isDigit_6 rfl rfl ?_
    refine a_bipush (pc := 7) dX8_isDigit_7 ib_57 ?_
    refine a_icmp_gt (pc := 9) (tgt := 16) dX8_isDigit_9 (by decide) (fun c9 => ?_) (fun c9 => ?_)
    · have e : inR x 48 57 = false := Bool.eq_false_iff.mpr (fun z => absurd ((inR_iff (by decide) (by decide)).mp z).2 (Int32.not_le.mpr c9))
      refine a_iconst (pc := 16) dX8_isDigit_16 ic_0 ?_
      refine a_ret_i (pc := 17) hM rfl (by decide +kernel) dX8_isDigit_17 (by omega) (by omega) ?_
      exact ⟨by rw [e]; rfl, rfl⟩
    · have e : inR x 48 57 = true := (inR_iff (by decide) (by decide)).mpr ⟨Int32.not_lt.mp c3, Int32.not_lt.mp c9⟩
      refine a_iconst (pc := 12) dX8_isDigit_12 ic_1 ?_
      refine a_goto (pc := 13) (tgt := 17) dX8_isDigit_13 (by decide) ?_
      refine a_ret_i (pc := 17) hM rfl (by decide +kernel) dX8_isDigit_17 (by omega) (by omega) ?_
      exact ⟨by rw [e]; rfl, rfl⟩

set_option maxRecDepth 4000 in
theorem f_isB (x : Int32) : Fn X 0 0 0 yX8_isBlank cX8_isBlank 1 (some .boolean) [.int x] h (fun rv hv => rv = some (.int (bI (decide (x = nI 32 ∨ x = nI 10)))) ∧ hv = h) := by
  refine fn_of (by decide) (Nat.le_of_ble_eq_true rfl) (fun M hM => ?_)
  refine a_iload_n (pc := 0) dX8_isBlank_0 rfl rfl ?_
  refine a_bipush (pc := 1) dX8_isBlank_1 ib_32 ?_
  refine a_icmp_eq (pc := 3) (tgt := 12) dX8_isBlank_3 (by decide) (fun c3 => ?_) (fun c3 => ?_)
  · have e : decide (x = nI 32 ∨ x = nI 10) = true := decide_eq_true (Or.inl c3)
    refine a_iconst (pc := 12) dX8_isBlank_12 ic_1 ?_
    refine a_goto (pc := 13) (tgt := 17) dX8_isBlank_13 (by decide) ?_
    refine a_ret_i (pc := 17) hM rfl (by decide +kernel) dX8_isBlank_17 (by omega) (by omega) ?_
    exact ⟨by rw [e]; rfl, rfl⟩
  · refine a_iload_n (pc := 6) dX8_isBlank_6 rfl rfl ?_
    refine a_bipush (pc := 7) dX8_isBlank_7 ib_10 ?_
    refine a_icmp_ne (pc := 9) (tgt := 16) dX8_isBlank_9 (by decide) (fun c9 => ?_) (fun c9 => ?_)
    · have e : decide (x = nI 32 ∨ x = nI 10) = false := decide_eq_false (fun z => z.elim c3 c9)
      refine a_iconst (pc := 16) dX8_isBlank_16 ic_0 ?_
      refine a_ret_i (pc := 17) hM rfl (by decide +kernel) dX8_isBlank_17 (by omega) (by omega) ?_
      exact ⟨by rw [e]; rfl, rfl⟩
    · have e : decide (x = nI 32 ∨ x = nI 10) = true := decide_eq_true (Or.inr c9)
      refine a_iconst (pc := 12) dX8_isBlank_12 ic_1 ?_
      refine a_goto (pc := 13) (tgt := 17) dX8_isBlank_13 (by decide) ?_
      refine a_ret_i (pc := 17) hM rfl (by decide +kernel) dX8_isBlank_17 (by omega) (by omega) ?_
      exact ⟨by rw [e]; rfl, rfl⟩

set_option maxRecDepth 4000 in
theorem f_tadd {a bt z : Nat} {f : Nat → Int32} (hT : TP h a bt z f) (v : Int32) (hz2 : z < 160) : Fn X 0 0 0 yX8_add cX8_add 2 none [.ref a, .int v] h (fun rv hv => rv = none ∧ hv = kput (kput h bt (kI 160 (upd f z v))) a (kO 8 [.ref bt, .int (nI (z + 1))])) := by
  obtain ⟨ha, hb, hz⟩ := hT
  have hab : a ≠ bt := fun e => by rw [e, hb] at ha; exact absurd (Option.some.inj ha) (by simp)
  refine fn_of (by decide) (Nat.le_of_ble_eq_true rfl) (fun M hM => ?_)
  refine a_aload_n (pc := 0) dX8_add_0 rfl rfl ?_
  refine a_getfield (pc := 1) kg_X8_15 dX8_add_1 (ha) rfl ?_
  refine a_topi ((show nI z = nI z from rfl)) ?_
  refine a_aload_n (pc := 4) dX8_add_4 rfl rfl ?_
  refine a_getfield (pc := 5) kg_X8_9 dX8_add_5 (ha) rfl ?_
  refine a_alen (pc := 8) (t := 0) rfl dX8_add_8 (hb) rfl ?_
  refine a_icmp_geN (pc := 9) (tgt := 32) dX8_add_9 (by decide) (by omega) (by omega) (fun c9 => ?_) (fun c9 => ?_)
  · exact absurd c9 (by omega)
  · refine a_aload_n (pc := 12) dX8_add_12 rfl rfl ?_
    refine a_getfield (pc := 13) kg_X8_9 dX8_add_13 (ha) rfl ?_
    refine a_aload_n (pc := 16) dX8_add_16 rfl rfl ?_
    refine a_getfield (pc := 17) kg_X8_15 dX8_add_17 (ha) rfl ?_
    refine a_topi ((show nI z = nI z from rfl)) ?_
    refine a_iload_n (pc := 20) dX8_add_20 rfl rfl ?_
    refine a_iastore (pc := 21) dX8_add_21 (hb) (z) (rfl) (by omega) (by omega) ?_
    refine a_aload_n (pc := 22) dX8_add_22 rfl rfl ?_
    refine a_dup (pc := 23) dX8_add_23 rfl ?_
    refine a_getfield (pc := 24) kg_X8_15 dX8_add_24 ((kput_ne hab).trans ha) rfl ?_
    refine a_topi ((show nI z = nI z from rfl)) ?_
    refine a_iconst (pc := 27) dX8_add_27 ic_1 ?_
    refine a_iaddN (pc := 28) dX8_add_28 ?_
    refine a_putfield (pc := 29) kf_X8_15 dX8_add_29 ((kput_ne hab).trans ha) (rfl) (by rfl) (Nat.le_of_ble_eq_true rfl) ?_
    refine a_ret_v (pc := 32) hM rfl dX8_add_32 (by omega) (by omega) ?_
    exact ⟨rfl, rfl⟩

def endB (b : Nat → Int32) (z n : Nat) : Nat := if n < enF 97 122 b (z - n) n then enF 97 122 b (z - n) n else if n < enF 48 57 b (z - n) n then enF 48 57 b (z - n) n else n + 1
theorem tB_in {f : Nat → Int32} {z i : Nat} (h : i < z) : tB f z i = f i := if_pos h
theorem tB_out {f : Nat → Int32} {z i : Nat} (h : z ≤ i) : tB f z i = -1 := if_neg (by omega)
set_option maxRecDepth 4000 in
theorem f_endFrom {a bt z : Nat} {f : Nat → Int32} (hT : TP h a bt z f) {n : Nat} (hn : n ≤ z) : Fn X 1 0 0 yX8_endFrom cX8_endFrom 3 (some .int) [.ref a, .int (nI n)] h (fun rv hv => rv = some (.int (nI (endB (tB f z) z n))) ∧ hv = h) := by
  refine fn_of (by decide) (Nat.le_of_ble_eq_true rfl) (fun M hM => ?_)
  obtain ⟨ha, hb, hz⟩ := hT
  have dig : ∀ (d e : Nat), z - e = d → e ≤ z → (¬ n < enF 97 122 (tB f z) (z - n) n) → (enF 48 57 (tB f z) (z - n) n = enF 48 57 (tB f z) (z - e) e) → (n ≤ e) → AJ X M yX8_endFrom cX8_endFrom 3 (some .int) 35 [(0, .ref a), (1, .int (nI n)), (2, .int (nI e))] [] h 0 0 := by
    intro d
    induction d with
    | zero =>
      intro e hd hle hN1 hs hne
      refine a_iload_n (pc := 35) dX8_endFrom_35 rfl rfl ?_
      refine a_aload_n (pc := 36) dX8_endFrom_36 rfl rfl ?_
      refine a_getfield (pc := 37) kg_X8_15 dX8_endFrom_37 (ha) rfl ?_
      refine a_topi ((show nI z = nI z from rfl)) ?_
      refine a_icmp_geN (pc := 40) (tgt := 61) dX8_endFrom_40 (by decide) (by omega) (by omega) (fun c40 => ?_) (fun c40 => ?_)
      · have hez : e = z := by omega
        subst hez
        have hE : enF 48 57 (tB f e) (e - n) n = e := by rw [hs, Nat.sub_self]; rfl
        refine a_iload_n (pc := 61) dX8_endFrom_61 rfl rfl ?_
        refine a_iload_n (pc := 62) dX8_endFrom_62 rfl rfl ?_
        refine a_icmp_leN (pc := 63) (tgt := 70) dX8_endFrom_63 (by decide) (by omega) (by omega) (fun c63 => ?_) (fun c63 => ?_)
        · have hr : endB (tB f e) e n = n + 1 := by unfold endB; rw [if_neg hN1, hE, if_neg (by omega)]
          refine a_iload_n (pc := 70) dX8_endFrom_70 rfl rfl ?_
          refine a_iconst (pc := 71) dX8_endFrom_71 ic_1 ?_
          refine a_iaddN (pc := 72) dX8_endFrom_72 ?_
          refine a_ret_i (pc := 73) hM rfl (rfl) dX8_endFrom_73 (by omega) (by omega) ?_
          exact ⟨by rw [hr], rfl⟩
        · have hr : endB (tB f e) e n = e := by unfold endB; rw [if_neg hN1, hE, if_pos (by omega)]
          refine a_iload_n (pc := 66) dX8_endFrom_66 rfl rfl ?_
          refine a_goto (pc := 67) (tgt := 73) dX8_endFrom_67 (by decide) ?_
          refine a_ret_i (pc := 73) hM rfl (rfl) dX8_endFrom_73 (by omega) (by omega) ?_
          exact ⟨by rw [hr], rfl⟩
      · exact absurd c40 (by omega)
    | succ d ih =>
      intro e hd hle hN1 hs hne
      refine a_iload_n (pc := 35) dX8_endFrom_35 rfl rfl ?_
      refine a_aload_n (pc := 36) dX8_endFrom_36 rfl rfl ?_
      refine a_getfield (pc := 37) kg_X8_15 dX8_endFrom_37 (ha) rfl ?_
      refine a_topi ((show nI z = nI z from rfl)) ?_
      refine a_icmp_geN (pc := 40) (tgt := 61) dX8_endFrom_40 (by decide) (by omega) (by omega) (fun c40 => ?_) (fun c40 => ?_)
      · exact absurd c40 (by omega)
      · refine a_aload_n (pc := 43) dX8_endFrom_43 rfl rfl ?_
        refine a_getfield (pc := 44) kg_X8_9 dX8_endFrom_44 (ha) rfl ?_
        refine a_iload_n (pc := 47) dX8_endFrom_47 rfl rfl ?_
        refine a_iaload (pc := 48) dX8_endFrom_48 (hb) (e) (rfl) (by omega) (by omega) ?_
        refine a_callS (pc := 49) km_X8_23 dX8_endFrom_49 (f_isD (f e)) rfl rfl (rok_of hM (by decide) (by decide) (by omega) (by omega)) (Nat.le_of_ble_eq_true rfl) (fun r49 h49 hp49 => ?_)
        obtain ⟨rfl, rfl⟩ := hp49
        refine a_if_eqB (pc := 52) (tgt := 61) dX8_endFrom_52 (by decide) (fun c52 => ?_) (fun c52 => ?_)
        · have hE : enF 48 57 (tB f z) (z - n) n = e := by rw [hs, show z - e = d + 1 by omega, enF, tB_in (by omega), if_neg (by rw [c52]; decide)]
          refine a_iload_n (pc := 61) dX8_endFrom_61 rfl rfl ?_
          refine a_iload_n (pc := 62) dX8_endFrom_62 rfl rfl ?_
          refine a_icmp_leN (pc := 63) (tgt := 70) dX8_endFrom_63 (by decide) (by omega) (by omega) (fun c63 => ?_) (fun c63 => ?_)
          · have hr : endB (tB f z) z n = n + 1 := by unfold endB; rw [if_neg hN1, hE, if_neg (by omega)]
            refine a_iload_n (pc := 70) dX8_endFrom_70 rfl rfl ?_
            refine a_iconst (pc := 71) dX8_endFrom_71 ic_1 ?_
            refine a_iaddN (pc := 72) dX8_endFrom_72 ?_
            refine a_ret_i (pc := 73) hM rfl (rfl) dX8_endFrom_73 (by omega) (by omega) ?_
            exact ⟨by rw [hr], rfl⟩
          · have hr : endB (tB f z) z n = e := by unfold endB; rw [if_neg hN1, hE, if_pos (by omega)]
            refine a_iload_n (pc := 66) dX8_endFrom_66 rfl rfl ?_
            refine a_goto (pc := 67) (tgt := 73) dX8_endFrom_67 (by decide) ?_
            refine a_ret_i (pc := 73) hM rfl (rfl) dX8_endFrom_73 (by omega) (by omega) ?_
            exact ⟨by rw [hr], rfl⟩
        · have hE : enF 48 57 (tB f z) (z - n) n = enF 48 57 (tB f z) (z - (e + 1)) (e + 1) := by rw [hs, show z - e = d + 1 by omega, enF, tB_in (by omega), if_pos c52, show z - (e + 1) = d by omega]
          refine a_iincN (pc := 55) (n := 1) dX8_endFrom_55 (by decide) rfl (by decide) rfl ?_
          refine a_goto (pc := 58) (tgt := 35) dX8_endFrom_58 (by decide) ?_
          exact a_locR (ih (e + 1) (by omega) (by omega) hN1 hE (by omega)) ⟨rfl, rfl, rfl, trivial⟩
  have lets : ∀ (d e : Nat), z - e = d → e ≤ z → (enF 97 122 (tB f z) (z - n) n = enF 97 122 (tB f z) (z - e) e) → (n ≤ e) → AJ X M yX8_endFrom cX8_endFrom 3 (some .int) 2 [(0, .ref a), (1, .int (nI n)), (2, .int (nI e))] [] h 0 0 := by
    intro d
    induction d with
    | zero =>
      intro e hd hle hs hne
      refine a_iload_n (pc := 2) dX8_endFrom_2 rfl rfl ?_
      refine a_aload_n (pc := 3) dX8_endFrom_3 rfl rfl ?_
      refine a_getfield (pc := 4) kg_X8_15 dX8_endFrom_4 (ha) rfl ?_
      refine a_topi ((show nI z = nI z from rfl)) ?_
      refine a_icmp_geN (pc := 7) (tgt := 28) dX8_endFrom_7 (by decide) (by omega) (by omega) (fun c7 => ?_) (fun c7 => ?_)
      · have hez : e = z := by omega
        subst hez
        have hE : enF 97 122 (tB f e) (e - n) n = e := by rw [hs, Nat.sub_self]; rfl
        refine a_iload_n (pc := 28) dX8_endFrom_28 rfl rfl ?_
        refine a_iload_n (pc := 29) dX8_endFrom_29 rfl rfl ?_
        refine a_icmp_leN (pc := 30) (tgt := 35) dX8_endFrom_30 (by decide) (by omega) (by omega) (fun c30 => ?_) (fun c30 => ?_)
        · have hN1 : ¬ n < enF 97 122 (tB f e) (e - n) n := by rw [hE]; omega
          have hen : e = n := by omega
          exact a_locR (dig _ n rfl (by omega) hN1 rfl (Nat.le_refl _)) (by rw [hen]; exact ⟨rfl, rfl, rfl, trivial⟩)
        · have hr : endB (tB f e) e n = e := by unfold endB; rw [hE, if_pos (by omega)]
          refine a_iload_n (pc := 33) dX8_endFrom_33 rfl rfl ?_
          refine a_ret_i (pc := 34) hM rfl (rfl) dX8_endFrom_34 (by omega) (by omega) ?_
          exact ⟨by rw [hr], rfl⟩
      · exact absurd c7 (by omega)
    | succ d ih =>
      intro e hd hle hs hne
      refine a_iload_n (pc := 2) dX8_endFrom_2 rfl rfl ?_
      refine a_aload_n (pc := 3) dX8_endFrom_3 rfl rfl ?_
      refine a_getfield (pc := 4) kg_X8_15 dX8_endFrom_4 (ha) rfl ?_
      refine a_topi ((show nI z = nI z from rfl)) ?_
      refine a_icmp_geN (pc := 7) (tgt := 28) dX8_endFrom_7 (by decide) (by omega) (by omega) (fun c7 => ?_) (fun c7 => ?_)
      · exact absurd c7 (by omega)
      · refine a_aload_n (pc := 10) dX8_endFrom_10 rfl rfl ?_
        refine a_getfield (pc := 11) kg_X8_9 dX8_endFrom_11 (ha) rfl ?_
        refine a_iload_n (pc := 14) dX8_endFrom_14 rfl rfl ?_
        refine a_iaload (pc := 15) dX8_endFrom_15 (hb) (e) (rfl) (by omega) (by omega) ?_
        refine a_callS (pc := 16) km_X8_19 dX8_endFrom_16 (f_isL (f e)) rfl rfl (rok_of hM (by decide) (by decide) (by omega) (by omega)) (Nat.le_of_ble_eq_true rfl) (fun r16 h16 hp16 => ?_)
        obtain ⟨rfl, rfl⟩ := hp16
        refine a_if_eqB (pc := 19) (tgt := 28) dX8_endFrom_19 (by decide) (fun c19 => ?_) (fun c19 => ?_)
        · have hE : enF 97 122 (tB f z) (z - n) n = e := by rw [hs, show z - e = d + 1 by omega, enF, tB_in (by omega), if_neg (by rw [c19]; decide)]
          refine a_iload_n (pc := 28) dX8_endFrom_28 rfl rfl ?_
          refine a_iload_n (pc := 29) dX8_endFrom_29 rfl rfl ?_
          refine a_icmp_leN (pc := 30) (tgt := 35) dX8_endFrom_30 (by decide) (by omega) (by omega) (fun c30 => ?_) (fun c30 => ?_)
          · have hN1 : ¬ n < enF 97 122 (tB f z) (z - n) n := by rw [hE]; omega
            have hen : e = n := by omega
            exact a_locR (dig _ n rfl (by omega) hN1 rfl (Nat.le_refl _)) (by rw [hen]; exact ⟨rfl, rfl, rfl, trivial⟩)
          · have hr : endB (tB f z) z n = e := by unfold endB; rw [hE, if_pos (by omega)]
            refine a_iload_n (pc := 33) dX8_endFrom_33 rfl rfl ?_
            refine a_ret_i (pc := 34) hM rfl (rfl) dX8_endFrom_34 (by omega) (by omega) ?_
            exact ⟨by rw [hr], rfl⟩
        · have hE : enF 97 122 (tB f z) (z - n) n = enF 97 122 (tB f z) (z - (e + 1)) (e + 1) := by rw [hs, show z - e = d + 1 by omega, enF, tB_in (by omega), if_pos c19, show z - (e + 1) = d by omega]
          refine a_iincN (pc := 22) (n := 1) dX8_endFrom_22 (by decide) rfl (by decide) rfl ?_
          refine a_goto (pc := 25) (tgt := 2) dX8_endFrom_25 (by decide) ?_
          exact a_locR (ih (e + 1) (by omega) (by omega) hE (by omega)) ⟨rfl, rfl, rfl, trivial⟩
  refine a_iload_n (pc := 0) dX8_endFrom_0 rfl rfl ?_
  refine a_istore_n (pc := 1) dX8_endFrom_1 rfl (by decide) rfl ?_
  exact a_locR (lets _ n rfl (by omega) rfl (Nat.le_refl _)) ⟨rfl, rfl, rfl, trivial⟩

def numI (b : Nat → Int32) (n : Nat) : Nat → Int32
  | 0 => 0
  | k + 1 => numI b n k * nI 10 + b (n + k) - nI 48
set_option maxRecDepth 4000 in
theorem f_numIn {a bt z : Nat} {f : Nat → Int32} (hT : TP h a bt z f) {n e : Nat} (hn : n ≤ e) (he : e ≤ z) : Fn X 0 0 0 yX8_numberIn cX8_numberIn 5 (some .int) [.ref a, .int (nI n), .int (nI e)] h (fun rv hv => rv = some (.int (numI f n (e - n))) ∧ hv = h) := by
  refine fn_of (by decide) (Nat.le_of_ble_eq_true rfl) (fun M hM => ?_)
  obtain ⟨ha, hb, hz⟩ := hT
  have lp : ∀ (d k : Nat), (e - n) - k = d → k ≤ (e - n) → AJ X M yX8_numberIn cX8_numberIn 5 (some .int) 5 [(0, .ref a), (1, .int (nI n)), (2, .int (nI e)), (3, .int (numI f n k)), (4, .int (nI (n + k)))] [] h 0 0 := by
    intro d
    induction d with
    | zero =>
      intro k hd hle
      refine a_iload (pc := 5) dX8_numberIn_5 rfl ?_
      refine a_iload_n (pc := 7) dX8_numberIn_7 rfl rfl ?_
      refine a_icmp_geN (pc := 8) (tgt := 42) dX8_numberIn_8 (by decide) (by omega) (by omega) (fun c8 => ?_) (fun c8 => ?_)
      · have hk : k = e - n := by omega
        subst hk
        refine a_iload_n (pc := 42) dX8_numberIn_42 rfl rfl ?_
        refine a_ret_i (pc := 43) hM rfl (rfl) dX8_numberIn_43 (by omega) (by omega) ?_
        exact ⟨rfl, rfl⟩
      · exact absurd c8 (by omega)
    | succ d ih =>
      intro k hd hle
      refine a_iload (pc := 5) dX8_numberIn_5 rfl ?_
      refine a_iload_n (pc := 7) dX8_numberIn_7 rfl rfl ?_
      refine a_icmp_geN (pc := 8) (tgt := 42) dX8_numberIn_8 (by decide) (by omega) (by omega) (fun c8 => ?_) (fun c8 => ?_)
      · exact absurd c8 (by omega)
      · refine a_iload (pc := 11) dX8_numberIn_11 rfl ?_
        refine a_aload_n (pc := 13) dX8_numberIn_13 rfl rfl ?_
        refine a_getfield (pc := 14) kg_X8_15 dX8_numberIn_14 (ha) rfl ?_
        refine a_topi ((show nI z = nI z from rfl)) ?_
        refine a_icmp_geN (pc := 17) (tgt := 42) dX8_numberIn_17 (by decide) (by omega) (by omega) (fun c17 => ?_) (fun c17 => ?_)
        · exact absurd c17 (by omega)
        · refine a_iload_n (pc := 20) dX8_numberIn_20 rfl rfl ?_
          refine a_bipush (pc := 21) dX8_numberIn_21 ib_10 ?_
          refine a_imul (pc := 23) dX8_numberIn_23 ?_
          refine a_aload_n (pc := 24) dX8_numberIn_24 rfl rfl ?_
          refine a_getfield (pc := 25) kg_X8_9 dX8_numberIn_25 (ha) rfl ?_
          refine a_iload (pc := 28) dX8_numberIn_28 rfl ?_
          refine a_iaload (pc := 30) dX8_numberIn_30 (hb) (n + k) (rfl) (by omega) (by omega) ?_
          refine a_iadd (pc := 31) dX8_numberIn_31 ?_
          refine a_bipush (pc := 32) dX8_numberIn_32 ib_48 ?_
          refine a_isub (pc := 34) dX8_numberIn_34 ?_
          refine a_istore_n (pc := 35) dX8_numberIn_35 rfl (by decide) rfl ?_
          refine a_iincN (pc := 36) (n := 1) dX8_numberIn_36 (by decide) rfl (by decide) rfl ?_
          refine a_goto (pc := 39) (tgt := 5) dX8_numberIn_39 (by decide) ?_
          exact a_locR (ih (k + 1) (by omega) (by omega)) ⟨rfl, rfl, rfl, rfl, rfl, trivial⟩
  refine a_iconst (pc := 0) dX8_numberIn_0 ic_0 ?_
  refine a_istore_n (pc := 1) dX8_numberIn_1 rfl (by decide) rfl ?_
  refine a_iload_n (pc := 2) dX8_numberIn_2 rfl rfl ?_
  refine a_istore (pc := 3) dX8_numberIn_3 (by decide) rfl ?_
  exact a_locR (lp _ 0 rfl (Nat.zero_le _)) ⟨rfl, rfl, rfl, rfl, rfl, trivial⟩

def stP (f : Nat → Int32) (z i n e : Nat) : Bool := decide (sL i = e - n ∧ e ≤ z ∧ ∀ k, k < sL i → f (n + k) = sB i k)
set_option maxRecDepth 4000 in
theorem f_stands {a bt z : Nat} {f : Nat → Int32} (hT : TP h a bt z f) {i n e : Nat} (hi : i < 13) (hn : n ≤ e) (he : e ≤ 1000) : Fn X 4 0 0 yX8_stands cX8_stands 5 (some .boolean) [.ref a, .ref (sK X i), .int (nI n), .int (nI e)] h (fun rv hv => rv = some (.int (bI (stP f z i n e))) ∧ hv = h) := by
  refine fn_of (by decide) (Nat.le_of_ble_eq_true rfl) (fun M hM => ?_)
  obtain ⟨ha, hb, hz⟩ := hT
  have hsl := s_len i hi
  have lp : ∀ (d k : Nat), (sL i) - k = d → k ≤ (sL i) → (sL i = e - n) → (e ≤ z) → (∀ j, j < k → f (n + j) = sB i j) → AJ X M yX8_stands cX8_stands 5 (some .boolean) 23 [(0, .ref a), (1, .ref (sK X i)), (2, .int (nI n)), (3, .int (nI e)), (4, .int (nI k))] [] h 0 0 := by
    intro d
    induction d with
    | zero =>
      intro k hd hle hle1 hle2 hall
      refine a_iload (pc := 23) dX8_stands_23 rfl ?_
      refine a_aload_n (pc := 25) dX8_stands_25 rfl rfl ?_
      refine a_callV (pc := 26) km_X8_26 dX8_stands_26 (f_slen hi) rfl rfl (krecv_str hi) (rok_of hM (by decide) (by decide) (by omega) (by omega)) (Nat.le_of_ble_eq_true rfl) (fun r26 h26 hp26 => ?_)
      obtain ⟨rfl, rfl⟩ := hp26
      refine a_icmp_geN (pc := 29) (tgt := 58) dX8_stands_29 (by decide) (by omega) (by omega) (fun c29 => ?_) (fun c29 => ?_)
      · have hk : k = sL i := by omega
        subst hk
        refine a_iconst (pc := 58) dX8_stands_58 ic_1 ?_
        refine a_ret_i (pc := 59) hM rfl (by decide +kernel) dX8_stands_59 (by omega) (by omega) ?_
        exact ⟨by rw [stP, decide_eq_true ⟨hle1, hle2, hall⟩]; rfl, rfl⟩
      · exact absurd c29 (by omega)
    | succ d ih =>
      intro k hd hle hle1 hle2 hall
      refine a_iload (pc := 23) dX8_stands_23 rfl ?_
      refine a_aload_n (pc := 25) dX8_stands_25 rfl rfl ?_
      refine a_callV (pc := 26) km_X8_26 dX8_stands_26 (f_slen hi) rfl rfl (krecv_str hi) (rok_of hM (by decide) (by decide) (by omega) (by omega)) (Nat.le_of_ble_eq_true rfl) (fun r26 h26 hp26 => ?_)
      obtain ⟨rfl, rfl⟩ := hp26
      refine a_icmp_geN (pc := 29) (tgt := 58) dX8_stands_29 (by decide) (by omega) (by omega) (fun c29 => ?_) (fun c29 => ?_)
      · exact absurd c29 (by omega)
      · refine a_aload_n (pc := 32) dX8_stands_32 rfl rfl ?_
        refine a_getfield (pc := 33) kg_X8_9 dX8_stands_33 (ha) rfl ?_
        refine a_iload_n (pc := 36) dX8_stands_36 rfl rfl ?_
        refine a_iload (pc := 37) dX8_stands_37 rfl ?_
        refine a_iaddN (pc := 39) dX8_stands_39 ?_
        refine a_iaload (pc := 40) dX8_stands_40 (hb) (n + k) (rfl) (by omega) (by omega) ?_
        refine a_aload_n (pc := 41) dX8_stands_41 rfl rfl ?_
        refine a_iload (pc := 42) dX8_stands_42 rfl ?_
        refine a_callV (pc := 44) km_X8_32 dX8_stands_44 (f_charAt hi (by omega)) rfl rfl (krecv_str hi) (rok_of hM (by decide) (by decide) (by omega) (by omega)) (Nat.le_of_ble_eq_true rfl) (fun r44 h44 hp44 => ?_)
        obtain ⟨rfl, rfl⟩ := hp44
        refine a_icmp_eq (pc := 47) (tgt := 52) dX8_stands_47 (by decide) (fun c47 => ?_) (fun c47 => ?_)
        · refine a_iincN (pc := 52) (n := 1) dX8_stands_52 (by decide) rfl (by decide) rfl ?_
          refine a_goto (pc := 55) (tgt := 23) dX8_stands_55 (by decide) ?_
          exact a_locR (ih (k + 1) (by omega) (by omega) hle1 hle2 (fun j hj => by rcases Nat.lt_or_ge j k with q | q; exact hall j q; rw [show j = k by omega]; exact c47)) ⟨rfl, rfl, rfl, rfl, rfl, trivial⟩
        · refine a_iconst (pc := 50) dX8_stands_50 ic_0 ?_
          refine a_ret_i (pc := 51) hM rfl (by decide +kernel) dX8_stands_51 (by omega) (by omega) ?_
          exact ⟨by rw [stP, decide_eq_false (fun q => c47 (q.2.2 k (by omega)))]; rfl, rfl⟩
  refine a_aload_n (pc := 0) dX8_stands_0 rfl rfl ?_
  refine a_callV (pc := 1) km_X8_26 dX8_stands_1 (f_slen hi) rfl rfl (krecv_str hi) (rok_of hM (by decide) (by decide) (by omega) (by omega)) (Nat.le_of_ble_eq_true rfl) (fun r1 h1 hp1 => ?_)
  obtain ⟨rfl, rfl⟩ := hp1
  refine a_iload_n (pc := 4) dX8_stands_4 rfl rfl ?_
  refine a_iload_n (pc := 5) dX8_stands_5 rfl rfl ?_
  refine a_isubN (pc := 6) dX8_stands_6 (by omega) ?_
  refine a_icmp_neN (pc := 7) (tgt := 18) dX8_stands_7 (by decide) (by omega) (by omega) (fun c7 => ?_) (fun c7 => ?_)
  · have hne : ¬ sL i = e - n := c7
    refine a_iconst (pc := 18) dX8_stands_18 ic_0 ?_
    refine a_ret_i (pc := 19) hM rfl (by decide +kernel) dX8_stands_19 (by omega) (by omega) ?_
    exact ⟨by rw [stP, decide_eq_false (fun q => by first | exact hne q.1 | exact hne q.2.1)]; rfl, rfl⟩
  · refine a_iload_n (pc := 10) dX8_stands_10 rfl rfl ?_
    refine a_aload_n (pc := 11) dX8_stands_11 rfl rfl ?_
    refine a_getfield (pc := 12) kg_X8_15 dX8_stands_12 (ha) rfl ?_
    refine a_topi ((show nI z = nI z from rfl)) ?_
    refine a_icmp_leN (pc := 15) (tgt := 20) dX8_stands_15 (by decide) (by omega) (by omega) (fun c15 => ?_) (fun c15 => ?_)
    · refine a_iconst (pc := 20) dX8_stands_20 ic_0 ?_
      refine a_istore (pc := 21) dX8_stands_21 (by decide) rfl ?_
      exact a_locR (lp _ 0 rfl (Nat.zero_le _) c7 c15 (fun j hj => absurd hj (Nat.not_lt_zero _))) ⟨rfl, rfl, rfl, rfl, rfl, trivial⟩
    · have hne : ¬ e ≤ z := by omega
      refine a_iconst (pc := 18) dX8_stands_18 ic_0 ?_
      refine a_ret_i (pc := 19) hM rfl (by decide +kernel) dX8_stands_19 (by omega) (by omega) ?_
      exact ⟨by rw [stP, decide_eq_false (fun q => by first | exact hne q.1 | exact hne q.2.1)]; rfl, rfl⟩

end CT

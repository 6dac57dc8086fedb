/-! THE CLASS: WHAT A TEXT COMES TO -/
section CTX
variable {X : KX} {h : AH} {s : MST}
theorem f_cbitN {n : Nat} (hn : n ≤ 1) : Fn X 0 0 0 yX9_bit cX9_bit 1 (some .int) [.int (nI n)] h (fun rv hv => rv = some (.int (nI n)) ∧ hv = h) := by
  have h2 : n = 0 ∨ n = 1 := by omega
  rcases h2 with rfl | rfl
  · exact f_cbit false
  · exact f_cbit true
theorem nI_inj {a b : Nat} (ha : a < 2147483648) (hb : b < 2147483648) (h : nI a = nI b) : a = b := by
  have h2 := congrArg Int32.toNatClampNeg h
  rwa [nI_clamp ha, nI_clamp hb] at h2
section EVX
variable {ab : Nat → Int32} {c : Cd} {x y : Int32} {st : List Int32}
theorem evC_0 (h : c.1 = 0) : evC ab st c = c.2 :: st := by unfold evC; rw [if_pos h]
theorem evC_1 (h : c.1 = 1) : evC ab st c = ab c.2.toNatClampNeg :: st := by unfold evC; rw [if_neg (by omega), if_pos h]
theorem evC_e (h : 2 ≤ c.1) : evC ab [] c = [] := by unfold evC; rw [if_neg (by omega), if_neg (by omega)]
theorem evC_2 (h : c.1 = 2) : evC ab (x :: st) c = (-x) :: st := by unfold evC; rw [if_neg (by omega), if_neg (by omega)]; show (if c.1 = 2 then (-x) :: st else _) = _; rw [if_pos h]
theorem evC_8 (h : c.1 = 8) : evC ab (x :: st) c = (if x = 0 then nI 1 else nI 0) :: st := by unfold evC; rw [if_neg (by omega), if_neg (by omega)]; show (if c.1 = 2 then (-x) :: st else if c.1 = 8 then (if x = 0 then nI 1 else nI 0) :: st else _) = _; rw [if_neg (by omega), if_pos h]
theorem evC_s (h : 2 ≤ c.1) (h2 : c.1 ≠ 2) (h8 : c.1 ≠ 8) : evC ab [x] c = [x] := by unfold evC; rw [if_neg (by omega), if_neg (by omega)]; show (if c.1 = 2 then [-x] else if c.1 = 8 then [(if x = 0 then nI 1 else nI 0)] else [x]) = _; rw [if_neg h2, if_neg h8]
theorem evC_b (h : 2 ≤ c.1) (h2 : c.1 ≠ 2) (h8 : c.1 ≠ 8) : evC ab (x :: y :: st) c = binO c.1 y x :: st := by unfold evC; rw [if_neg (by omega), if_neg (by omega)]; show (if c.1 = 2 then (-x) :: y :: st else if c.1 = 8 then (if x = 0 then nI 1 else nI 0) :: y :: st else binO c.1 y x :: st) = _; rw [if_neg h2, if_neg h8]
end EVX
/-- tokens of the operations -/
def tkN (k : Nat) : Nat := if k = 2 then 13 else if k = 3 then 42 else if k = 4 then 43 else if k = 5 then 45 else if k = 6 then 60 else if k = 7 then 61 else if k = 8 then 11 else if k = 9 then 10 else 9
theorem xor_m {x : Int32} : (x ^^^ (-1)) ^^^ (-1) = x := by rw [Int32.xor_assoc, Int32.xor_self]; exact Int32.xor_zero
theorem xor_neg {n : Nat} (hn : n < 10000) : nI n ^^^ (-1) < 0 := by
  rw [Int32.xor_neg_one, Int32.lt_iff_toInt_lt, Int32.toInt_not, nI_toInt (by omega)]
  have : Int.bmod (-(n : Int) - 1) (2 ^ 32) = -(n : Int) - 1 := by
    rw [Int.bmod_eq_of_le] <;> omega
  rw [this]
  show -(n : Int) - 1 < 0
  omega
theorem enc_tok {c : Cd} (hc : okC c) : (c.1 = 0 ∧ encC c = c.2 ∧ encC c ^^^ (-1) < 0) ∨ (c.1 = 1 ∧ ∃ w, w < 6 ∧ c.2 = nI (41 + w) ∧ encC c ^^^ (-1) = nI w) ∨ (2 ≤ c.1 ∧ c.1 ≤ 10 ∧ encC c ^^^ (-1) = nI (tkN c.1)) := by
  obtain ⟨k, v⟩ := c
  rcases hc with ⟨h0, n, hn, hv⟩ | ⟨h1, k2, hk1, hk2, hv⟩ | ⟨h2, h3, hv⟩
  · have h0 : k = 0 := h0
    have hv : v = nI n := hv
    subst h0; subst hv
    exact Or.inl ⟨rfl, rfl, xor_neg hn⟩
  · have h1 : k = 1 := h1
    have hv : v = nI k2 := hv
    subst h1; subst hv
    refine Or.inr (Or.inl ⟨rfl, k2 - 41, by omega, by show nI k2 = _; congr 1; omega, ?_⟩)
    show ((nI k2 - nI 41) ^^^ (-1)) ^^^ (-1) = _
    rw [xor_m, pk_sub (by omega)]
  · refine Or.inr (Or.inr ⟨h2, h3, ?_⟩)
    have h2 : 2 ≤ k := h2
    have h3 : k ≤ 10 := h3
    have hk : k = 2 ∨ k = 3 ∨ k = 4 ∨ k = 5 ∨ k = 6 ∨ k = 7 ∨ k = 8 ∨ k = 9 ∨ k = 10 := by omega
    rcases hk with rfl | rfl | rfl | rfl | rfl | rfl | rfl | rfl | rfl
    all_goals first | (show (_ ^^^ (-1)) ^^^ (-1) = _; rw [xor_m]; rfl) | (show (-14 : Int32) ^^^ (-1) = nI 13; decide +kernel) | (show (-12 : Int32) ^^^ (-1) = nI 11; decide +kernel)
/-- the first cells of the array are the stack, the last one on top -/
def stkR (S : Nat → Int32) : List Int32 → Prop
  | [] => True
  | x :: st => S st.length = x ∧ stkR S st
theorem stkR_u {S : Nat → Int32} {v : Int32} : ∀ {st : List Int32} {j : Nat}, st.length ≤ j → stkR S st → stkR (upd S j v) st
  | [], _, _, _ => trivial
  | x :: st, j, hj, hs => by
    have hj : st.length + 1 ≤ j := hj
    exact ⟨(if_neg (by omega)).trans hs.1, stkR_u (by omega) hs.2⟩
theorem stkR_p {S : Nat → Int32} {v : Int32} {st : List Int32} {j : Nat} (hj : j = st.length) (hs : stkR S st) : stkR (upd S j v) (v :: st) := ⟨if_pos hj.symm, stkR_u (by omega) hs⟩
set_option maxRecDepth 4000 in
theorem f_joined {k : Nat} (hk : k = 3 ∨ k = 4 ∨ k = 5 ∨ k = 6 ∨ k = 7 ∨ k = 9 ∨ k = 10) (x y : Int32) : Fn X 1 0 0 yX9_joined cX9_joined 3 (some .int) [.int (nI (tkN k)), .int x, .int y] h (fun rv hv => rv = some (.int (binO k x y)) ∧ hv = h) := by
  refine fn_of (by decide) (Nat.le_of_ble_eq_true rfl) (fun M hM => ?_)
  rcases hk with rfl | rfl | rfl | rfl | rfl | rfl | rfl
  · refine a_iload_n (pc := 0) dX9_joined_0 rfl rfl ?_
    refine a_look (pc := 1) (off := 129) (tgt := 130) dX9_joined_1 (by decide) (by decide) (by decide) ?_
    refine a_iload_n (pc := 130) dX9_joined_130 rfl rfl ?_
    refine a_iload_n (pc := 131) dX9_joined_131 rfl rfl ?_
    refine a_imul (pc := 132) dX9_joined_132 ?_
    refine a_ret_i (pc := 133) hM rfl (rfl) dX9_joined_133 (by omega) (by omega) ?_
    exact ⟨rfl, rfl⟩
  · refine a_iload_n (pc := 0) dX9_joined_0 rfl rfl ?_
    refine a_look (pc := 1) (off := 121) (tgt := 122) dX9_joined_1 (by decide) (by decide) (by decide) ?_
    refine a_iload_n (pc := 122) dX9_joined_122 rfl rfl ?_
    refine a_iload_n (pc := 123) dX9_joined_123 rfl rfl ?_
    refine a_iadd (pc := 124) dX9_joined_124 ?_
    refine a_ret_i (pc := 125) hM rfl (rfl) dX9_joined_125 (by omega) (by omega) ?_
    exact ⟨rfl, rfl⟩
  · refine a_iload_n (pc := 0) dX9_joined_0 rfl rfl ?_
    refine a_look (pc := 1) (off := 125) (tgt := 126) dX9_joined_1 (by decide) (by decide) (by decide) ?_
    refine a_iload_n (pc := 126) dX9_joined_126 rfl rfl ?_
    refine a_iload_n (pc := 127) dX9_joined_127 rfl rfl ?_
    refine a_isub (pc := 128) dX9_joined_128 ?_
    refine a_ret_i (pc := 129) hM rfl (rfl) dX9_joined_129 (by omega) (by omega) ?_
    exact ⟨rfl, rfl⟩
  · refine a_iload_n (pc := 0) dX9_joined_0 rfl rfl ?_
    refine a_look (pc := 1) (off := 93) (tgt := 94) dX9_joined_1 (by decide) (by decide) (by decide) ?_
    refine a_iload_n (pc := 94) dX9_joined_94 rfl rfl ?_
    refine a_iload_n (pc := 95) dX9_joined_95 rfl rfl ?_
    refine a_icmp_ge (pc := 96) (tgt := 103) dX9_joined_96 (by decide) (fun c96 => ?_) (fun c96 => ?_)
    · refine a_iconst (pc := 103) dX9_joined_103 ic_0 ?_
      refine a_callS (pc := 104) km_X9_21 dX9_joined_104 (f_cbitN (by decide)) rfl rfl (rok_of hM (by decide) (by decide) (by omega) (by omega)) (Nat.le_of_ble_eq_true rfl) (fun r104 h104 hp104 => ?_)
      obtain ⟨rfl, rfl⟩ := hp104
      refine a_ret_i (pc := 107) hM rfl (rfl) dX9_joined_107 (by omega) (by omega) ?_
      exact ⟨congrArg (fun t => some (Value.int t)) (show _ = fLt x y by unfold fLt; first | rw [if_pos (by first | assumption | exact Int32.not_le.mp (by assumption) | exact Or.inl (by assumption) | exact Or.inr (by assumption) | exact ⟨by assumption, by assumption⟩)] | rw [if_neg (by first | (intro z; rcases z with z | z <;> exact absurd z (by assumption)) | (intro z; exact absurd z.1 (by assumption)) | (intro z; exact absurd z.2 (by assumption)) | (intro z; exact absurd z (by first | assumption | exact Int32.not_lt.mpr (by assumption) | exact Int32.not_le.mpr (by assumption))))]), rfl⟩
    · refine a_iconst (pc := 99) dX9_joined_99 ic_1 ?_
      refine a_goto (pc := 100) (tgt := 104) dX9_joined_100 (by decide) ?_
      refine a_callS (pc := 104) km_X9_21 dX9_joined_104 (f_cbitN (by decide)) rfl rfl (rok_of hM (by decide) (by decide) (by omega) (by omega)) (Nat.le_of_ble_eq_true rfl) (fun r104 h104 hp104 => ?_)
      obtain ⟨rfl, rfl⟩ := hp104
      refine a_ret_i (pc := 107) hM rfl (rfl) dX9_joined_107 (by omega) (by omega) ?_
      exact ⟨congrArg (fun t => some (Value.int t)) (show _ = fLt x y by unfold fLt; first | rw [if_pos (by first | assumption | exact Int32.not_le.mp (by assumption) | exact Or.inl (by assumption) | exact Or.inr (by assumption) | exact ⟨by assumption, by assumption⟩)] | rw [if_neg (by first | (intro z; rcases z with z | z <;> exact absurd z (by assumption)) | (intro z; exact absurd z.1 (by assumption)) | (intro z; exact absurd z.2 (by assumption)) | (intro z; exact absurd z (by first | assumption | exact Int32.not_lt.mpr (by assumption) | exact Int32.not_le.mpr (by assumption))))]), rfl⟩
  · refine a_iload_n (pc := 0) dX9_joined_0 rfl rfl ?_
    refine a_look (pc := 1) (off := 107) (tgt := 108) dX9_joined_1 (by decide) (by decide) (by decide) ?_
    refine a_iload_n (pc := 108) dX9_joined_108 rfl rfl ?_
    refine a_iload_n (pc := 109) dX9_joined_109 rfl rfl ?_
    refine a_icmp_ne (pc := 110) (tgt := 117) dX9_joined_110 (by decide) (fun c110 => ?_) (fun c110 => ?_)
    · refine a_iconst (pc := 117) dX9_joined_117 ic_0 ?_
      refine a_callS (pc := 118) km_X9_21 dX9_joined_118 (f_cbitN (by decide)) rfl rfl (rok_of hM (by decide) (by decide) (by omega) (by omega)) (Nat.le_of_ble_eq_true rfl) (fun r118 h118 hp118 => ?_)
      obtain ⟨rfl, rfl⟩ := hp118
      refine a_ret_i (pc := 121) hM rfl (rfl) dX9_joined_121 (by omega) (by omega) ?_
      exact ⟨congrArg (fun t => some (Value.int t)) (show _ = fEq x y by unfold fEq; first | rw [if_pos (by first | assumption | exact Int32.not_le.mp (by assumption) | exact Or.inl (by assumption) | exact Or.inr (by assumption) | exact ⟨by assumption, by assumption⟩)] | rw [if_neg (by first | (intro z; rcases z with z | z <;> exact absurd z (by assumption)) | (intro z; exact absurd z.1 (by assumption)) | (intro z; exact absurd z.2 (by assumption)) | (intro z; exact absurd z (by first | assumption | exact Int32.not_lt.mpr (by assumption) | exact Int32.not_le.mpr (by assumption))))]), rfl⟩
    · refine a_iconst (pc := 113) dX9_joined_113 ic_1 ?_
      refine a_goto (pc := 114) (tgt := 118) dX9_joined_114 (by decide) ?_
      refine a_callS (pc := 118) km_X9_21 dX9_joined_118 (f_cbitN (by decide)) rfl rfl (rok_of hM (by decide) (by decide) (by omega) (by omega)) (Nat.le_of_ble_eq_true rfl) (fun r118 h118 hp118 => ?_)
      obtain ⟨rfl, rfl⟩ := hp118
      refine a_ret_i (pc := 121) hM rfl (rfl) dX9_joined_121 (by omega) (by omega) ?_
      exact ⟨congrArg (fun t => some (Value.int t)) (show _ = fEq x y by unfold fEq; first | rw [if_pos (by first | assumption | exact Int32.not_le.mp (by assumption) | exact Or.inl (by assumption) | exact Or.inr (by assumption) | exact ⟨by assumption, by assumption⟩)] | rw [if_neg (by first | (intro z; rcases z with z | z <;> exact absurd z (by assumption)) | (intro z; exact absurd z.1 (by assumption)) | (intro z; exact absurd z.2 (by assumption)) | (intro z; exact absurd z (by first | assumption | exact Int32.not_lt.mpr (by assumption) | exact Int32.not_le.mpr (by assumption))))]), rfl⟩
  · refine a_iload_n (pc := 0) dX9_joined_0 rfl rfl ?_
    refine a_look (pc := 1) (off := 76) (tgt := 77) dX9_joined_1 (by decide) (by decide) (by decide) ?_
    refine a_iload_n (pc := 77) dX9_joined_77 rfl rfl ?_
    refine a_if_eq (pc := 78) (tgt := 89) dX9_joined_78 (by decide) (fun c78 => ?_) (fun c78 => ?_)
    · refine a_iconst (pc := 89) dX9_joined_89 ic_0 ?_
      refine a_callS (pc := 90) km_X9_21 dX9_joined_90 (f_cbitN (by decide)) rfl rfl (rok_of hM (by decide) (by decide) (by omega) (by omega)) (Nat.le_of_ble_eq_true rfl) (fun r90 h90 hp90 => ?_)
      obtain ⟨rfl, rfl⟩ := hp90
      refine a_ret_i (pc := 93) hM rfl (rfl) dX9_joined_93 (by omega) (by omega) ?_
      exact ⟨congrArg (fun t => some (Value.int t)) (show _ = fAnd x y by unfold fAnd; first | rw [if_pos (by first | assumption | exact Int32.not_le.mp (by assumption) | exact Or.inl (by assumption) | exact Or.inr (by assumption) | exact ⟨by assumption, by assumption⟩)] | rw [if_neg (by first | (intro z; rcases z with z | z <;> exact absurd z (by assumption)) | (intro z; exact absurd z.1 (by assumption)) | (intro z; exact absurd z.2 (by assumption)) | (intro z; exact absurd z (by first | assumption | exact Int32.not_lt.mpr (by assumption) | exact Int32.not_le.mpr (by assumption))))]), rfl⟩
    · refine a_iload_n (pc := 81) dX9_joined_81 rfl rfl ?_
      refine a_if_eq (pc := 82) (tgt := 89) dX9_joined_82 (by decide) (fun c82 => ?_) (fun c82 => ?_)
      · refine a_iconst (pc := 89) dX9_joined_89 ic_0 ?_
        refine a_callS (pc := 90) km_X9_21 dX9_joined_90 (f_cbitN (by decide)) rfl rfl (rok_of hM (by decide) (by decide) (by omega) (by omega)) (Nat.le_of_ble_eq_true rfl) (fun r90 h90 hp90 => ?_)
        obtain ⟨rfl, rfl⟩ := hp90
        refine a_ret_i (pc := 93) hM rfl (rfl) dX9_joined_93 (by omega) (by omega) ?_
        exact ⟨congrArg (fun t => some (Value.int t)) (show _ = fAnd x y by unfold fAnd; first | rw [if_pos (by first | assumption | exact Int32.not_le.mp (by assumption) | exact Or.inl (by assumption) | exact Or.inr (by assumption) | exact ⟨by assumption, by assumption⟩)] | rw [if_neg (by first | (intro z; rcases z with z | z <;> exact absurd z (by assumption)) | (intro z; exact absurd z.1 (by assumption)) | (intro z; exact absurd z.2 (by assumption)) | (intro z; exact absurd z (by first | assumption | exact Int32.not_lt.mpr (by assumption) | exact Int32.not_le.mpr (by assumption))))]), rfl⟩
      · refine a_iconst (pc := 85) dX9_joined_85 ic_1 ?_
        refine a_goto (pc := 86) (tgt := 90) dX9_joined_86 (by decide) ?_
        refine a_callS (pc := 90) km_X9_21 dX9_joined_90 (f_cbitN (by decide)) rfl rfl (rok_of hM (by decide) (by decide) (by omega) (by omega)) (Nat.le_of_ble_eq_true rfl) (fun r90 h90 hp90 => ?_)
        obtain ⟨rfl, rfl⟩ := hp90
        refine a_ret_i (pc := 93) hM rfl (rfl) dX9_joined_93 (by omega) (by omega) ?_
        exact ⟨congrArg (fun t => some (Value.int t)) (show _ = fAnd x y by unfold fAnd; first | rw [if_pos (by first | assumption | exact Int32.not_le.mp (by assumption) | exact Or.inl (by assumption) | exact Or.inr (by assumption) | exact ⟨by assumption, by assumption⟩)] | rw [if_neg (by first | (intro z; rcases z with z | z <;> exact absurd z (by assumption)) | (intro z; exact absurd z.1 (by assumption)) | (intro z; exact absurd z.2 (by assumption)) | (intro z; exact absurd z (by first | assumption | exact Int32.not_lt.mpr (by assumption) | exact Int32.not_le.mpr (by assumption))))]), rfl⟩
  · refine a_iload_n (pc := 0) dX9_joined_0 rfl rfl ?_
    refine a_look (pc := 1) (off := 59) (tgt := 60) dX9_joined_1 (by decide) (by decide) (by decide) ?_
    refine a_iload_n (pc := 60) dX9_joined_60 rfl rfl ?_
    refine a_if_ne (pc := 61) (tgt := 68) dX9_joined_61 (by decide) (fun c61 => ?_) (fun c61 => ?_)
    · refine a_iconst (pc := 68) dX9_joined_68 ic_1 ?_
      refine a_goto (pc := 69) (tgt := 73) dX9_joined_69 (by decide) ?_
      refine a_callS (pc := 73) km_X9_21 dX9_joined_73 (f_cbitN (by decide)) rfl rfl (rok_of hM (by decide) (by decide) (by omega) (by omega)) (Nat.le_of_ble_eq_true rfl) (fun r73 h73 hp73 => ?_)
      obtain ⟨rfl, rfl⟩ := hp73
      refine a_ret_i (pc := 76) hM rfl (rfl) dX9_joined_76 (by omega) (by omega) ?_
      exact ⟨congrArg (fun t => some (Value.int t)) (show _ = fOr x y by unfold fOr; first | rw [if_pos (by first | assumption | exact Int32.not_le.mp (by assumption) | exact Or.inl (by assumption) | exact Or.inr (by assumption) | exact ⟨by assumption, by assumption⟩)] | rw [if_neg (by first | (intro z; rcases z with z | z <;> exact absurd z (by assumption)) | (intro z; exact absurd z.1 (by assumption)) | (intro z; exact absurd z.2 (by assumption)) | (intro z; exact absurd z (by first | assumption | exact Int32.not_lt.mpr (by assumption) | exact Int32.not_le.mpr (by assumption))))]), rfl⟩
    · refine a_iload_n (pc := 64) dX9_joined_64 rfl rfl ?_
      refine a_if_eq (pc := 65) (tgt := 72) dX9_joined_65 (by decide) (fun c65 => ?_) (fun c65 => ?_)
      · refine a_iconst (pc := 72) dX9_joined_72 ic_0 ?_
        refine a_callS (pc := 73) km_X9_21 dX9_joined_73 (f_cbitN (by decide)) rfl rfl (rok_of hM (by decide) (by decide) (by omega) (by omega)) (Nat.le_of_ble_eq_true rfl) (fun r73 h73 hp73 => ?_)
        obtain ⟨rfl, rfl⟩ := hp73
        refine a_ret_i (pc := 76) hM rfl (rfl) dX9_joined_76 (by omega) (by omega) ?_
        exact ⟨congrArg (fun t => some (Value.int t)) (show _ = fOr x y by unfold fOr; first | rw [if_pos (by first | assumption | exact Int32.not_le.mp (by assumption) | exact Or.inl (by assumption) | exact Or.inr (by assumption) | exact ⟨by assumption, by assumption⟩)] | rw [if_neg (by first | (intro z; rcases z with z | z <;> exact absurd z (by assumption)) | (intro z; exact absurd z.1 (by assumption)) | (intro z; exact absurd z.2 (by assumption)) | (intro z; exact absurd z (by first | assumption | exact Int32.not_lt.mpr (by assumption) | exact Int32.not_le.mpr (by assumption))))]), rfl⟩
      · refine a_iconst (pc := 68) dX9_joined_68 ic_1 ?_
        refine a_goto (pc := 69) (tgt := 73) dX9_joined_69 (by decide) ?_
        refine a_callS (pc := 73) km_X9_21 dX9_joined_73 (f_cbitN (by decide)) rfl rfl (rok_of hM (by decide) (by decide) (by omega) (by omega)) (Nat.le_of_ble_eq_true rfl) (fun r73 h73 hp73 => ?_)
        obtain ⟨rfl, rfl⟩ := hp73
        refine a_ret_i (pc := 76) hM rfl (rfl) dX9_joined_76 (by omega) (by omega) ?_
        exact ⟨congrArg (fun t => some (Value.int t)) (show _ = fOr x y by unfold fOr; first | rw [if_pos (by first | assumption | exact Int32.not_le.mp (by assumption) | exact Or.inl (by assumption) | exact Or.inr (by assumption) | exact ⟨by assumption, by assumption⟩)] | rw [if_neg (by first | (intro z; rcases z with z | z <;> exact absurd z (by assumption)) | (intro z; exact absurd z.1 (by assumption)) | (intro z; exact absurd z.2 (by assumption)) | (intro z; exact absurd z (by first | assumption | exact Int32.not_lt.mpr (by assumption) | exact Int32.not_le.mpr (by assumption))))]), rfl⟩


theorem tkN_le (k : Nat) : tkN k ≤ 61 := by unfold tkN; split <;> (try omega); split <;> (try omega); split <;> (try omega); split <;> (try omega); split <;> (try omega); split <;> (try omega); split <;> (try omega); split <;> omega
theorem tkN_ge (k : Nat) : 9 ≤ tkN k := by unfold tkN; split <;> (try omega); split <;> (try omega); split <;> (try omega); split <;> (try omega); split <;> (try omega); split <;> (try omega); split <;> (try omega); split <;> omega
theorem tkN_11 {k : Nat} (h : tkN k = 11) : k = 8 := by
  unfold tkN at h
  by_cases e : k = 8
  · exact e
  · rw [if_neg e] at h
    exfalso
    revert h
    split <;> (try omega); split <;> (try omega); split <;> (try omega); split <;> (try omega); split <;> (try omega); split <;> (try omega); split <;> omega
theorem tkN_13 {k : Nat} (h : tkN k = 13) : k = 2 := by
  unfold tkN at h
  by_cases e : k = 2
  · exact e
  · rw [if_neg e] at h
    exfalso
    revert h
    split <;> (try omega); split <;> (try omega); split <;> (try omega); split <;> (try omega); split <;> (try omega); split <;> (try omega); split <;> omega
set_option maxRecDepth 4000 in
theorem f_value {x a c e q n w lo : Nat} {f g nf S0 ab : Nat → Int32} {l : List Cd} {Vf : Vl} (hx : h x = some (kO 9 [.ref c, .ref e, .ref q])) (hc : h c = some (kI n f)) (he : h e = some (kI 3 g)) (hq : h q = some (kI n S0)) (ha : h a = some (kI 6 nf)) (hcq : c ≠ q) (heq : e ≠ q) (haq : a ≠ q) (hw : w < 3) (hz : w = 0 → lo = 0) (hlo : ¬ w = 0 → g (w - 1) = nI lo) (hgw : g w = nI (lo + l.length)) (hln : lo + l.length ≤ n) (hn : n ≤ 160) (hcod : cod f lo l) (hwf : wfE (l, Vf)) (hab : ∀ w6, w6 < 6 → nf w6 = ab (41 + w6)) : Fn X 2 0 0 yX9_value cX9_value 6 (some .int) [.ref x, .int (nI w), .ref a] h (fun rv hv => rv = some (.int (Vf ab)) ∧ ∃ S : Nat → Int32, hv = kput h q (kI n S)) := by
  have hxq : x ≠ q := oi_ne hx hq
  obtain ⟨V, hV⟩ : ∃ V, V = Vf ab := ⟨_, rfl⟩
  rw [← hV]
  refine fn_of (by decide) (Nat.le_of_ble_eq_true rfl) (fun M hM => ?_)
  have loop : ∀ (l2 : List Cd) (i : Nat) (st : List Int32) (S : Nat → Int32), i + l2.length = lo + l.length → cod f i l2 → (∀ c, c ∈ l2 → okC c) → stkR S st → st.length + lo ≤ i → evs ab l2 st = [V] → AJ X M yX9_value cX9_value 6 (some .int) 20 [(0, .ref x), (1, .int (nI w)), (2, .ref a), (3, .int (nI st.length)), (4, .int (nI i))] [] (kput h q (kI n S)) 0 0 := by
    intro l2
    induction l2 with
    | nil =>
      intro i st S hi hcd hok hst hle hev
      have hst2 : st = [V] := hev
      subst hst2
      have hi : i = lo + l.length := hi
      have hS : S 0 = V := hst.1
      refine a_iload (pc := 20) dX9_value_20 rfl ?_
      refine a_aload_n (pc := 22) dX9_value_22 rfl rfl ?_
      refine a_getfield (pc := 23) kg_X9_13 dX9_value_23 (((kput_ne hxq).trans hx)) rfl ?_
      refine a_iload_n (pc := 26) dX9_value_26 rfl rfl ?_
      refine a_iaload (pc := 27) dX9_value_27 (((kput_ne heq).trans he)) (w) (rfl) (by omega) (by omega) ?_
      refine a_topi (hgw) ?_
      refine a_icmp_geN (pc := 28) (tgt := 211) dX9_value_28 (by decide) (by omega) (by omega) (fun c28 => ?_) (fun c28 => ?_)
      · refine a_iload_n (pc := 211) dX9_value_211 rfl rfl ?_
        refine a_if_leN (pc := 212) (tgt := 224) dX9_value_212 (by decide) (by omega) (fun c212 => ?_) (fun c212 => ?_)
        · exact absurd c212 (by simp)
        · refine a_aload_n (pc := 215) dX9_value_215 rfl rfl ?_
          refine a_getfield (pc := 216) kg_X9_16 dX9_value_216 (((kput_ne hxq).trans hx)) rfl ?_
          refine a_iconst (pc := 219) dX9_value_219 ic_0 ?_
          refine a_iaload (pc := 220) dX9_value_220 (kput_eq) (0) (rfl) (by omega) (by omega) ?_
          refine a_goto (pc := 221) (tgt := 225) dX9_value_221 (by decide) ?_
          refine a_ret_i (pc := 225) hM rfl (rfl) dX9_value_225 (by omega) (by omega) ?_
          exact ⟨congrArg (fun t => some (Value.int t)) hS, S, rfl⟩
      · exact absurd c28 (by omega)
    | cons c l2 ih =>
      intro i st S hi hcd hok hst hle hev
      have hi2 : i + (l2.length + 1) = lo + l.length := hi
      have hfc : f i = encC c := by have := hcd 0 c rfl; rwa [Nat.add_zero] at this
      have hcd2 : cod f (i + 1) l2 := fun j d hd => by have := hcd (j + 1) d hd; rwa [show i + (j + 1) = i + 1 + j by omega] at this
      have hok2 : ∀ d, d ∈ l2 → okC d := fun d hd => hok d (List.mem_cons_of_mem _ hd)
      refine a_iload (pc := 20) dX9_value_20 rfl ?_
      refine a_aload_n (pc := 22) dX9_value_22 rfl rfl ?_
      refine a_getfield (pc := 23) kg_X9_13 dX9_value_23 (((kput_ne hxq).trans hx)) rfl ?_
      refine a_iload_n (pc := 26) dX9_value_26 rfl rfl ?_
      refine a_iaload (pc := 27) dX9_value_27 (((kput_ne heq).trans he)) (w) (rfl) (by omega) (by omega) ?_
      refine a_topi (hgw) ?_
      refine a_icmp_geN (pc := 28) (tgt := 211) dX9_value_28 (by decide) (by omega) (by omega) (fun c28 => ?_) (fun c28 => ?_)
      · exact absurd c28 (by omega)
      · refine a_iload_n (pc := 31) dX9_value_31 rfl rfl ?_
        refine a_aload_n (pc := 32) dX9_value_32 rfl rfl ?_
        refine a_getfield (pc := 33) kg_X9_16 dX9_value_33 (((kput_ne hxq).trans hx)) rfl ?_
        refine a_alen (pc := 36) (t := 0) rfl dX9_value_36 (kput_eq) rfl ?_
        refine a_icmp_geN (pc := 37) (tgt := 211) dX9_value_37 (by decide) (by omega) (by omega) (fun c37 => ?_) (fun c37 => ?_)
        · exact absurd c37 (by omega)
        · refine a_aload_n (pc := 40) dX9_value_40 rfl rfl ?_
          refine a_getfield (pc := 41) kg_X9_7 dX9_value_41 (((kput_ne hxq).trans hx)) rfl ?_
          refine a_iload (pc := 44) dX9_value_44 rfl ?_
          refine a_iaload (pc := 46) dX9_value_46 (((kput_ne hcq).trans hc)) (i) (rfl) (by omega) (by omega) ?_
          refine a_iconst (pc := 47) dX9_value_47 ic_m1 ?_
          refine a_ixor (pc := 48) dX9_value_48 ?_
          refine a_istore (pc := 49) dX9_value_49 (by decide) rfl ?_
          rcases enc_tok (hok c (List.mem_cons_self ..)) with ⟨k0, e1, e2⟩ | ⟨k1, w6, hw6, e1, e2⟩ | ⟨k2, k3, e2⟩
          · refine a_iload (pc := 51) dX9_value_51 rfl ?_
            refine a_if_ge_f (pc := 53) (tgt := 75) dX9_value_53 (by decide) (Int32.not_le.mpr (by rw [hfc]; exact e2)) ?_
            refine a_aload_n (pc := 56) dX9_value_56 rfl rfl ?_
            refine a_getfield (pc := 57) kg_X9_16 dX9_value_57 (((kput_ne hxq).trans hx)) rfl ?_
            refine a_iload_n (pc := 60) dX9_value_60 rfl rfl ?_
            refine a_aload_n (pc := 61) dX9_value_61 rfl rfl ?_
            refine a_getfield (pc := 62) kg_X9_7 dX9_value_62 (((kput_ne hxq).trans hx)) rfl ?_
            refine a_iload (pc := 65) dX9_value_65 rfl ?_
            refine a_iaload (pc := 67) dX9_value_67 (((kput_ne hcq).trans hc)) (i) (rfl) (by omega) (by omega) ?_
            refine a_iastore (pc := 68) dX9_value_68 (kput_eq) (st.length) (rfl) (by omega) (by omega) ?_
            refine a_hp kput_put ?_
            refine a_iincN (pc := 69) (n := 1) dX9_value_69 (by decide) rfl (by decide) rfl ?_
            refine a_goto (pc := 72) (tgt := 205) dX9_value_72 (by decide) ?_
            refine a_iincN (pc := 205) (n := 1) dX9_value_205 (by decide) rfl (by decide) rfl ?_
            refine a_goto (pc := 208) (tgt := 20) dX9_value_208 (by decide) ?_
            have hev2 : evs ab l2 (c.2 :: st) = [V] := by rw [← hev]; show evs ab l2 (c.2 :: st) = evs ab l2 (evC ab st c); rw [evC_0 k0]
            exact a_locR (ih (i + 1) (c.2 :: st) (upd S st.length (f i)) (by omega) hcd2 hok2 (⟨(if_pos rfl).trans (hfc.trans e1), stkR_u (Nat.le_refl _) hst⟩) (by show st.length + 1 + lo ≤ i + 1; omega) hev2) ⟨rfl, rfl, rfl, rfl, rfl, trivial⟩
          · refine a_iload (pc := 51) dX9_value_51 rfl ?_
            refine a_if_ge_t (pc := 53) (tgt := 75) dX9_value_53 (by decide) (by rw [hfc, e2]; exact nI_nn (by omega)) ?_
            refine a_iload (pc := 75) dX9_value_75 rfl ?_
            refine a_aload_n (pc := 77) dX9_value_77 rfl rfl ?_
            refine a_alen (pc := 78) (t := 0) rfl dX9_value_78 (((kput_ne haq).trans ha)) rfl ?_
            refine a_icmp_ge_f (pc := 79) (tgt := 98) dX9_value_79 (by decide) (by rw [hfc, e2]; exact Int32.not_le.mpr ((cI_lt (by omega) (by omega)).mpr hw6)) ?_
            refine a_aload_n (pc := 82) dX9_value_82 rfl rfl ?_
            refine a_getfield (pc := 83) kg_X9_16 dX9_value_83 (((kput_ne hxq).trans hx)) rfl ?_
            refine a_iload_n (pc := 86) dX9_value_86 rfl rfl ?_
            refine a_aload_n (pc := 87) dX9_value_87 rfl rfl ?_
            refine a_iload (pc := 88) dX9_value_88 rfl ?_
            refine a_iaload (pc := 90) dX9_value_90 (((kput_ne haq).trans ha)) (w6) (by rw [hfc, e2]) (by omega) (by omega) ?_
            refine a_iastore (pc := 91) dX9_value_91 (kput_eq) (st.length) (rfl) (by omega) (by omega) ?_
            refine a_hp kput_put ?_
            refine a_iincN (pc := 92) (n := 1) dX9_value_92 (by decide) rfl (by decide) rfl ?_
            refine a_goto (pc := 95) (tgt := 205) dX9_value_95 (by decide) ?_
            refine a_iincN (pc := 205) (n := 1) dX9_value_205 (by decide) rfl (by decide) rfl ?_
            refine a_goto (pc := 208) (tgt := 20) dX9_value_208 (by decide) ?_
            have hev2 : evs ab l2 (ab (41 + w6) :: st) = [V] := by rw [← hev]; show evs ab l2 (ab (41 + w6) :: st) = evs ab l2 (evC ab st c); rw [evC_1 k1, e1, nI_clamp (by omega)]
            exact a_locR (ih (i + 1) (ab (41 + w6) :: st) (upd S st.length (nf w6)) (by omega) hcd2 hok2 (⟨(if_pos rfl).trans (hab w6 hw6), stkR_u (Nat.le_refl _) hst⟩) (by show st.length + 1 + lo ≤ i + 1; omega) hev2) ⟨rfl, rfl, rfl, rfl, rfl, trivial⟩
          · have tk_b : tkN c.1 < 2147483648 := Nat.lt_of_le_of_lt (tkN_le c.1) (by decide)
            have tk_6 := tkN_ge c.1
            by_cases k8 : c.1 = 8
            · cases st with
              | nil =>
                refine a_iload (pc := 51) dX9_value_51 rfl ?_
                refine a_if_ge_t (pc := 53) (tgt := 75) dX9_value_53 (by decide) (by rw [hfc, e2]; exact nI_nn tk_b) ?_
                refine a_iload (pc := 75) dX9_value_75 rfl ?_
                refine a_aload_n (pc := 77) dX9_value_77 rfl rfl ?_
                refine a_alen (pc := 78) (t := 0) rfl dX9_value_78 (((kput_ne haq).trans ha)) rfl ?_
                refine a_icmp_ge_t (pc := 79) (tgt := 98) dX9_value_79 (by decide) (by rw [hfc, e2]; exact Int32.not_lt.mp (fun z => absurd ((cI_lt tk_b (show 6 < 2147483648 by decide)).mp z) (by omega))) ?_
                refine a_iload (pc := 98) dX9_value_98 rfl ?_
                refine a_bipush (pc := 100) dX9_value_100 ib_11 ?_
                refine a_icmp_ne_f (pc := 102) (tgt := 139) dX9_value_102 (by decide) (by rw [hfc, e2, k8]; rfl) ?_
                refine a_iload_n (pc := 105) dX9_value_105 rfl rfl ?_
                refine a_if_leN (pc := 106) (tgt := 139) dX9_value_106 (by decide) (by omega) (fun c106 => ?_) (fun c106 => ?_)
                · refine a_iload (pc := 139) dX9_value_139 rfl ?_
                  refine a_bipush (pc := 141) dX9_value_141 ib_13 ?_
                  refine a_icmp_ne_t (pc := 143) (tgt := 170) dX9_value_143 (by decide) (by rw [hfc, e2, k8]; decide) ?_
                  refine a_iload_n (pc := 170) dX9_value_170 rfl rfl ?_
                  refine a_iconst (pc := 171) dX9_value_171 ic_1 ?_
                  refine a_icmp_leN (pc := 172) (tgt := 205) dX9_value_172 (by decide) (by omega) (by omega) (fun c172 => ?_) (fun c172 => ?_)
                  · refine a_iincN (pc := 205) (n := 1) dX9_value_205 (by decide) rfl (by decide) rfl ?_
                    refine a_goto (pc := 208) (tgt := 20) dX9_value_208 (by decide) ?_
                    have hev2 : evs ab l2 ([]) = [V] := by rw [← hev]; show evs ab l2 ([]) = evs ab l2 (evC ab [] c); rw [evC_e k2]
                    exact a_locR (ih (i + 1) ([]) (S) (by omega) hcd2 hok2 (hst) (by show _ ≤ i + 1; simp only [List.length_nil, List.length_cons] at hle ⊢; omega) hev2) ⟨rfl, rfl, rfl, rfl, rfl, trivial⟩
                  · exact absurd c172 (by simp)
                · exact absurd c106 (by simp)
              | cons x0 st =>
                have hln2 : (x0 :: st).length = st.length + 1 := rfl
                refine a_iload (pc := 51) dX9_value_51 rfl ?_
                refine a_if_ge_t (pc := 53) (tgt := 75) dX9_value_53 (by decide) (by rw [hfc, e2]; exact nI_nn tk_b) ?_
                refine a_iload (pc := 75) dX9_value_75 rfl ?_
                refine a_aload_n (pc := 77) dX9_value_77 rfl rfl ?_
                refine a_alen (pc := 78) (t := 0) rfl dX9_value_78 (((kput_ne haq).trans ha)) rfl ?_
                refine a_icmp_ge_t (pc := 79) (tgt := 98) dX9_value_79 (by decide) (by rw [hfc, e2]; exact Int32.not_lt.mp (fun z => absurd ((cI_lt tk_b (show 6 < 2147483648 by decide)).mp z) (by omega))) ?_
                refine a_iload (pc := 98) dX9_value_98 rfl ?_
                refine a_bipush (pc := 100) dX9_value_100 ib_11 ?_
                refine a_icmp_ne_f (pc := 102) (tgt := 139) dX9_value_102 (by decide) (by rw [hfc, e2, k8]; rfl) ?_
                refine a_iload_n (pc := 105) dX9_value_105 rfl rfl ?_
                refine a_if_leN (pc := 106) (tgt := 139) dX9_value_106 (by decide) (by omega) (fun c106 => ?_) (fun c106 => ?_)
                · exact absurd c106 (by simp)
                · refine a_aload_n (pc := 109) dX9_value_109 rfl rfl ?_
                  refine a_getfield (pc := 110) kg_X9_16 dX9_value_110 (((kput_ne hxq).trans hx)) rfl ?_
                  refine a_iload_n (pc := 113) dX9_value_113 rfl rfl ?_
                  refine a_iconst (pc := 114) dX9_value_114 ic_1 ?_
                  refine a_isubN (pc := 115) dX9_value_115 (by omega) ?_
                  refine a_aload_n (pc := 116) dX9_value_116 rfl rfl ?_
                  refine a_getfield (pc := 117) kg_X9_16 dX9_value_117 (((kput_ne hxq).trans hx)) rfl ?_
                  refine a_iload_n (pc := 120) dX9_value_120 rfl rfl ?_
                  refine a_iconst (pc := 121) dX9_value_121 ic_1 ?_
                  refine a_isubN (pc := 122) dX9_value_122 (by omega) ?_
                  refine a_iaload (pc := 123) dX9_value_123 (kput_eq) (st.length) (by first | rfl | (rw [pk_sub (by omega)]; rfl)) (by omega) (by omega) ?_
                  refine a_if_ne (pc := 124) (tgt := 131) dX9_value_124 (by decide) (fun c124 => ?_) (fun c124 => ?_)
                  · refine a_iconst (pc := 131) dX9_value_131 ic_0 ?_
                    refine a_callS (pc := 132) km_X9_21 dX9_value_132 (f_cbitN (by decide)) rfl rfl (rok_of hM (by decide) (by decide) (by omega) (by omega)) (Nat.le_of_ble_eq_true rfl) (fun r132 h132 hp132 => ?_)
                    obtain ⟨rfl, rfl⟩ := hp132
                    refine a_iastore (pc := 135) dX9_value_135 (kput_eq) (st.length) (by first | rfl | (rw [pk_sub (by omega)]; rfl)) (by omega) (by omega) ?_
                    refine a_hp kput_put ?_
                    refine a_goto (pc := 136) (tgt := 205) dX9_value_136 (by decide) ?_
                    refine a_iincN (pc := 205) (n := 1) dX9_value_205 (by decide) rfl (by decide) rfl ?_
                    refine a_goto (pc := 208) (tgt := 20) dX9_value_208 (by decide) ?_
                    have hev2 : evs ab l2 ((if x0 = 0 then nI 1 else nI 0) :: st) = [V] := by rw [← hev]; show evs ab l2 ((if x0 = 0 then nI 1 else nI 0) :: st) = evs ab l2 (evC ab (x0 :: st) c); rw [evC_8 k8]
                    exact a_locR (ih (i + 1) ((if x0 = 0 then nI 1 else nI 0) :: st) (upd S st.length (nI 0)) (by omega) hcd2 hok2 (⟨(if_pos rfl).trans (by rw [hst.1] at c124; rw [if_neg c124]), stkR_u (Nat.le_refl _) hst.2⟩) (by show st.length + 1 + lo ≤ i + 1; have hle : st.length + 1 + lo ≤ i := hle; omega) hev2) ⟨rfl, rfl, rfl, rfl, rfl, trivial⟩
                  · refine a_iconst (pc := 127) dX9_value_127 ic_1 ?_
                    refine a_goto (pc := 128) (tgt := 132) dX9_value_128 (by decide) ?_
                    refine a_callS (pc := 132) km_X9_21 dX9_value_132 (f_cbitN (by decide)) rfl rfl (rok_of hM (by decide) (by decide) (by omega) (by omega)) (Nat.le_of_ble_eq_true rfl) (fun r132 h132 hp132 => ?_)
                    obtain ⟨rfl, rfl⟩ := hp132
                    refine a_iastore (pc := 135) dX9_value_135 (kput_eq) (st.length) (by first | rfl | (rw [pk_sub (by omega)]; rfl)) (by omega) (by omega) ?_
                    refine a_hp kput_put ?_
                    refine a_goto (pc := 136) (tgt := 205) dX9_value_136 (by decide) ?_
                    refine a_iincN (pc := 205) (n := 1) dX9_value_205 (by decide) rfl (by decide) rfl ?_
                    refine a_goto (pc := 208) (tgt := 20) dX9_value_208 (by decide) ?_
                    have hev2 : evs ab l2 ((if x0 = 0 then nI 1 else nI 0) :: st) = [V] := by rw [← hev]; show evs ab l2 ((if x0 = 0 then nI 1 else nI 0) :: st) = evs ab l2 (evC ab (x0 :: st) c); rw [evC_8 k8]
                    exact a_locR (ih (i + 1) ((if x0 = 0 then nI 1 else nI 0) :: st) (upd S st.length (nI 1)) (by omega) hcd2 hok2 (⟨(if_pos rfl).trans (by rw [hst.1] at c124; rw [if_pos c124]), stkR_u (Nat.le_refl _) hst.2⟩) (by show st.length + 1 + lo ≤ i + 1; have hle : st.length + 1 + lo ≤ i := hle; omega) hev2) ⟨rfl, rfl, rfl, rfl, rfl, trivial⟩
            · by_cases k2n : c.1 = 2
              · have k8 := k2n
                cases st with
                | nil =>
                  refine a_iload (pc := 51) dX9_value_51 rfl ?_
                  refine a_if_ge_t (pc := 53) (tgt := 75) dX9_value_53 (by decide) (by rw [hfc, e2]; exact nI_nn tk_b) ?_
                  refine a_iload (pc := 75) dX9_value_75 rfl ?_
                  refine a_aload_n (pc := 77) dX9_value_77 rfl rfl ?_
                  refine a_alen (pc := 78) (t := 0) rfl dX9_value_78 (((kput_ne haq).trans ha)) rfl ?_
                  refine a_icmp_ge_t (pc := 79) (tgt := 98) dX9_value_79 (by decide) (by rw [hfc, e2]; exact Int32.not_lt.mp (fun z => absurd ((cI_lt tk_b (show 6 < 2147483648 by decide)).mp z) (by omega))) ?_
                  refine a_iload (pc := 98) dX9_value_98 rfl ?_
                  refine a_bipush (pc := 100) dX9_value_100 ib_11 ?_
                  refine a_icmp_ne_t (pc := 102) (tgt := 139) dX9_value_102 (by decide) (by rw [hfc, e2, k8]; decide) ?_
                  refine a_iload (pc := 139) dX9_value_139 rfl ?_
                  refine a_bipush (pc := 141) dX9_value_141 ib_13 ?_
                  refine a_icmp_ne_f (pc := 143) (tgt := 170) dX9_value_143 (by decide) (by rw [hfc, e2, k8]; rfl) ?_
                  refine a_iload_n (pc := 146) dX9_value_146 rfl rfl ?_
                  refine a_if_leN (pc := 147) (tgt := 170) dX9_value_147 (by decide) (by omega) (fun c147 => ?_) (fun c147 => ?_)
                  · refine a_iload_n (pc := 170) dX9_value_170 rfl rfl ?_
                    refine a_iconst (pc := 171) dX9_value_171 ic_1 ?_
                    refine a_icmp_leN (pc := 172) (tgt := 205) dX9_value_172 (by decide) (by omega) (by omega) (fun c172 => ?_) (fun c172 => ?_)
                    · refine a_iincN (pc := 205) (n := 1) dX9_value_205 (by decide) rfl (by decide) rfl ?_
                      refine a_goto (pc := 208) (tgt := 20) dX9_value_208 (by decide) ?_
                      have hev2 : evs ab l2 ([]) = [V] := by rw [← hev]; show evs ab l2 ([]) = evs ab l2 (evC ab [] c); rw [evC_e k2]
                      exact a_locR (ih (i + 1) ([]) (S) (by omega) hcd2 hok2 (hst) (by show _ ≤ i + 1; simp only [List.length_nil, List.length_cons] at hle ⊢; omega) hev2) ⟨rfl, rfl, rfl, rfl, rfl, trivial⟩
                    · exact absurd c172 (by simp)
                  · exact absurd c147 (by simp)
                | cons x0 st =>
                  have hln2 : (x0 :: st).length = st.length + 1 := rfl
                  refine a_iload (pc := 51) dX9_value_51 rfl ?_
                  refine a_if_ge_t (pc := 53) (tgt := 75) dX9_value_53 (by decide) (by rw [hfc, e2]; exact nI_nn tk_b) ?_
                  refine a_iload (pc := 75) dX9_value_75 rfl ?_
                  refine a_aload_n (pc := 77) dX9_value_77 rfl rfl ?_
                  refine a_alen (pc := 78) (t := 0) rfl dX9_value_78 (((kput_ne haq).trans ha)) rfl ?_
                  refine a_icmp_ge_t (pc := 79) (tgt := 98) dX9_value_79 (by decide) (by rw [hfc, e2]; exact Int32.not_lt.mp (fun z => absurd ((cI_lt tk_b (show 6 < 2147483648 by decide)).mp z) (by omega))) ?_
                  refine a_iload (pc := 98) dX9_value_98 rfl ?_
                  refine a_bipush (pc := 100) dX9_value_100 ib_11 ?_
                  refine a_icmp_ne_t (pc := 102) (tgt := 139) dX9_value_102 (by decide) (by rw [hfc, e2, k8]; decide) ?_
                  refine a_iload (pc := 139) dX9_value_139 rfl ?_
                  refine a_bipush (pc := 141) dX9_value_141 ib_13 ?_
                  refine a_icmp_ne_f (pc := 143) (tgt := 170) dX9_value_143 (by decide) (by rw [hfc, e2, k8]; rfl) ?_
                  refine a_iload_n (pc := 146) dX9_value_146 rfl rfl ?_
                  refine a_if_leN (pc := 147) (tgt := 170) dX9_value_147 (by decide) (by omega) (fun c147 => ?_) (fun c147 => ?_)
                  · exact absurd c147 (by simp)
                  · refine a_aload_n (pc := 150) dX9_value_150 rfl rfl ?_
                    refine a_getfield (pc := 151) kg_X9_16 dX9_value_151 (((kput_ne hxq).trans hx)) rfl ?_
                    refine a_iload_n (pc := 154) dX9_value_154 rfl rfl ?_
                    refine a_iconst (pc := 155) dX9_value_155 ic_1 ?_
                    refine a_isubN (pc := 156) dX9_value_156 (by omega) ?_
                    refine a_aload_n (pc := 157) dX9_value_157 rfl rfl ?_
                    refine a_getfield (pc := 158) kg_X9_16 dX9_value_158 (((kput_ne hxq).trans hx)) rfl ?_
                    refine a_iload_n (pc := 161) dX9_value_161 rfl rfl ?_
                    refine a_iconst (pc := 162) dX9_value_162 ic_1 ?_
                    refine a_isubN (pc := 163) dX9_value_163 (by omega) ?_
                    refine a_iaload (pc := 164) dX9_value_164 (kput_eq) (st.length) (by first | rfl | (rw [pk_sub (by omega)]; rfl)) (by omega) (by omega) ?_
                    refine a_ineg (pc := 165) dX9_value_165 ?_
                    refine a_iastore (pc := 166) dX9_value_166 (kput_eq) (st.length) (by first | rfl | (rw [pk_sub (by omega)]; rfl)) (by omega) (by omega) ?_
                    refine a_hp kput_put ?_
                    refine a_goto (pc := 167) (tgt := 205) dX9_value_167 (by decide) ?_
                    refine a_iincN (pc := 205) (n := 1) dX9_value_205 (by decide) rfl (by decide) rfl ?_
                    refine a_goto (pc := 208) (tgt := 20) dX9_value_208 (by decide) ?_
                    have hev2 : evs ab l2 (-x0 :: st) = [V] := by rw [← hev]; show evs ab l2 (-x0 :: st) = evs ab l2 (evC ab (x0 :: st) c); rw [evC_2 k8]
                    exact a_locR (ih (i + 1) (-x0 :: st) (upd S st.length (-S st.length)) (by omega) hcd2 hok2 (⟨(if_pos rfl).trans (by rw [hst.1]), stkR_u (Nat.le_refl _) hst.2⟩) (by show st.length + 1 + lo ≤ i + 1; have hle : st.length + 1 + lo ≤ i := hle; omega) hev2) ⟨rfl, rfl, rfl, rfl, rfl, trivial⟩
              · have hbk : c.1 = 3 ∨ c.1 = 4 ∨ c.1 = 5 ∨ c.1 = 6 ∨ c.1 = 7 ∨ c.1 = 9 ∨ c.1 = 10 := by omega
                match st, hst, hle, hev with
                | [], hst, hle, hev =>
                  refine a_iload (pc := 51) dX9_value_51 rfl ?_
                  refine a_if_ge_t (pc := 53) (tgt := 75) dX9_value_53 (by decide) (by rw [hfc, e2]; exact nI_nn tk_b) ?_
                  refine a_iload (pc := 75) dX9_value_75 rfl ?_
                  refine a_aload_n (pc := 77) dX9_value_77 rfl rfl ?_
                  refine a_alen (pc := 78) (t := 0) rfl dX9_value_78 (((kput_ne haq).trans ha)) rfl ?_
                  refine a_icmp_ge_t (pc := 79) (tgt := 98) dX9_value_79 (by decide) (by rw [hfc, e2]; exact Int32.not_lt.mp (fun z => absurd ((cI_lt tk_b (show 6 < 2147483648 by decide)).mp z) (by omega))) ?_
                  refine a_iload (pc := 98) dX9_value_98 rfl ?_
                  refine a_bipush (pc := 100) dX9_value_100 ib_11 ?_
                  refine a_icmp_ne_t (pc := 102) (tgt := 139) dX9_value_102 (by decide) (by rw [hfc, e2]; exact fun z => k8 ((tkN_11 (nI_inj tk_b (by decide) z)))) ?_
                  refine a_iload (pc := 139) dX9_value_139 rfl ?_
                  refine a_bipush (pc := 141) dX9_value_141 ib_13 ?_
                  refine a_icmp_ne_t (pc := 143) (tgt := 170) dX9_value_143 (by decide) (by rw [hfc, e2]; exact fun z => k2n ((tkN_13 (nI_inj tk_b (by decide) z)))) ?_
                  refine a_iload_n (pc := 170) dX9_value_170 rfl rfl ?_
                  refine a_iconst (pc := 171) dX9_value_171 ic_1 ?_
                  refine a_icmp_leN (pc := 172) (tgt := 205) dX9_value_172 (by decide) (by omega) (by omega) (fun c172 => ?_) (fun c172 => ?_)
                  · refine a_iincN (pc := 205) (n := 1) dX9_value_205 (by decide) rfl (by decide) rfl ?_
                    refine a_goto (pc := 208) (tgt := 20) dX9_value_208 (by decide) ?_
                    have hev2 : evs ab l2 ([]) = [V] := by rw [← hev]; show evs ab l2 ([]) = evs ab l2 (evC ab [] c); rw [evC_e k2]
                    exact a_locR (ih (i + 1) ([]) (S) (by omega) hcd2 hok2 (hst) (by show _ ≤ i + 1; simp only [List.length_nil, List.length_cons] at hle ⊢; omega) hev2) ⟨rfl, rfl, rfl, rfl, rfl, trivial⟩
                  · exact absurd c172 (by simp)
                | [x0], hst, hle, hev =>
                  have hln2 : [x0].length = 1 := rfl
                  refine a_iload (pc := 51) dX9_value_51 rfl ?_
                  refine a_if_ge_t (pc := 53) (tgt := 75) dX9_value_53 (by decide) (by rw [hfc, e2]; exact nI_nn tk_b) ?_
                  refine a_iload (pc := 75) dX9_value_75 rfl ?_
                  refine a_aload_n (pc := 77) dX9_value_77 rfl rfl ?_
                  refine a_alen (pc := 78) (t := 0) rfl dX9_value_78 (((kput_ne haq).trans ha)) rfl ?_
                  refine a_icmp_ge_t (pc := 79) (tgt := 98) dX9_value_79 (by decide) (by rw [hfc, e2]; exact Int32.not_lt.mp (fun z => absurd ((cI_lt tk_b (show 6 < 2147483648 by decide)).mp z) (by omega))) ?_
                  refine a_iload (pc := 98) dX9_value_98 rfl ?_
                  refine a_bipush (pc := 100) dX9_value_100 ib_11 ?_
                  refine a_icmp_ne_t (pc := 102) (tgt := 139) dX9_value_102 (by decide) (by rw [hfc, e2]; exact fun z => k8 ((tkN_11 (nI_inj tk_b (by decide) z)))) ?_
                  refine a_iload (pc := 139) dX9_value_139 rfl ?_
                  refine a_bipush (pc := 141) dX9_value_141 ib_13 ?_
                  refine a_icmp_ne_t (pc := 143) (tgt := 170) dX9_value_143 (by decide) (by rw [hfc, e2]; exact fun z => k2n ((tkN_13 (nI_inj tk_b (by decide) z)))) ?_
                  refine a_iload_n (pc := 170) dX9_value_170 rfl rfl ?_
                  refine a_iconst (pc := 171) dX9_value_171 ic_1 ?_
                  refine a_icmp_leN (pc := 172) (tgt := 205) dX9_value_172 (by decide) (by omega) (by omega) (fun c172 => ?_) (fun c172 => ?_)
                  · refine a_iincN (pc := 205) (n := 1) dX9_value_205 (by decide) rfl (by decide) rfl ?_
                    refine a_goto (pc := 208) (tgt := 20) dX9_value_208 (by decide) ?_
                    have hev2 : evs ab l2 ([x0]) = [V] := by rw [← hev]; show evs ab l2 ([x0]) = evs ab l2 (evC ab [x0] c); rw [evC_s k2 k2n k8]
                    exact a_locR (ih (i + 1) ([x0]) (S) (by omega) hcd2 hok2 (hst) (by show _ ≤ i + 1; simp only [List.length_nil, List.length_cons] at hle ⊢; omega) hev2) ⟨rfl, rfl, rfl, rfl, rfl, trivial⟩
                  · exact absurd c172 (by simp)
                | x0 :: y0 :: st, hst, hle, hev =>
                  have hln2 : (x0 :: y0 :: st).length = st.length + 1 + 1 := rfl
                  have hln3 : (y0 :: st).length = st.length + 1 := rfl
                  refine a_iload (pc := 51) dX9_value_51 rfl ?_
                  refine a_if_ge_t (pc := 53) (tgt := 75) dX9_value_53 (by decide) (by rw [hfc, e2]; exact nI_nn tk_b) ?_
                  refine a_iload (pc := 75) dX9_value_75 rfl ?_
                  refine a_aload_n (pc := 77) dX9_value_77 rfl rfl ?_
                  refine a_alen (pc := 78) (t := 0) rfl dX9_value_78 (((kput_ne haq).trans ha)) rfl ?_
                  refine a_icmp_ge_t (pc := 79) (tgt := 98) dX9_value_79 (by decide) (by rw [hfc, e2]; exact Int32.not_lt.mp (fun z => absurd ((cI_lt tk_b (show 6 < 2147483648 by decide)).mp z) (by omega))) ?_
                  refine a_iload (pc := 98) dX9_value_98 rfl ?_
                  refine a_bipush (pc := 100) dX9_value_100 ib_11 ?_
                  refine a_icmp_ne_t (pc := 102) (tgt := 139) dX9_value_102 (by decide) (by rw [hfc, e2]; exact fun z => k8 ((tkN_11 (nI_inj tk_b (by decide) z)))) ?_
                  refine a_iload (pc := 139) dX9_value_139 rfl ?_
                  refine a_bipush (pc := 141) dX9_value_141 ib_13 ?_
                  refine a_icmp_ne_t (pc := 143) (tgt := 170) dX9_value_143 (by decide) (by rw [hfc, e2]; exact fun z => k2n ((tkN_13 (nI_inj tk_b (by decide) z)))) ?_
                  refine a_iload_n (pc := 170) dX9_value_170 rfl rfl ?_
                  refine a_iconst (pc := 171) dX9_value_171 ic_1 ?_
                  refine a_icmp_leN (pc := 172) (tgt := 205) dX9_value_172 (by decide) (by omega) (by omega) (fun c172 => ?_) (fun c172 => ?_)
                  · exact absurd c172 (by simp)
                  · refine a_iinc (pc := 175) dX9_value_175 rfl (pk_m1 _) (by decide) rfl ?_
                    refine a_aload_n (pc := 178) dX9_value_178 rfl rfl ?_
                    refine a_getfield (pc := 179) kg_X9_16 dX9_value_179 (((kput_ne hxq).trans hx)) rfl ?_
                    refine a_iload_n (pc := 182) dX9_value_182 rfl rfl ?_
                    refine a_iconst (pc := 183) dX9_value_183 ic_1 ?_
                    refine a_isubN (pc := 184) dX9_value_184 (by omega) ?_
                    refine a_iload (pc := 185) dX9_value_185 rfl ?_
                    refine a_aload_n (pc := 187) dX9_value_187 rfl rfl ?_
                    refine a_getfield (pc := 188) kg_X9_16 dX9_value_188 (((kput_ne hxq).trans hx)) rfl ?_
                    refine a_iload_n (pc := 191) dX9_value_191 rfl rfl ?_
                    refine a_iconst (pc := 192) dX9_value_192 ic_1 ?_
                    refine a_isubN (pc := 193) dX9_value_193 (by omega) ?_
                    refine a_iaload (pc := 194) dX9_value_194 (kput_eq) (st.length) (by first | rfl | (rw [pk_sub (by omega)]; rfl)) (by omega) (by omega) ?_
                    refine a_aload_n (pc := 195) dX9_value_195 rfl rfl ?_
                    refine a_getfield (pc := 196) kg_X9_16 dX9_value_196 (((kput_ne hxq).trans hx)) rfl ?_
                    refine a_iload_n (pc := 199) dX9_value_199 rfl rfl ?_
                    refine a_iaload (pc := 200) dX9_value_200 (kput_eq) (st.length + 1) (rfl) (by omega) (by omega) ?_
                    refine a_topi (show _ = x0 from hst.1) ?_
                    refine a_2nd (show _ = y0 from hst.2.1) ?_
                    refine a_st (show _ = .int x0 :: .int y0 :: .int (nI (tkN c.1)) :: .int (nI st.length) :: .ref q :: [] by rw [hfc, e2]; rfl) ?_
                    refine a_callS (pc := 201) km_X9_27 dX9_value_201 (f_joined hbk y0 x0) rfl rfl (rok_of hM (by decide) (by decide) (by omega) (by omega)) (Nat.le_of_ble_eq_true rfl) (fun r201 h201 hp201 => ?_)
                    obtain ⟨rfl, rfl⟩ := hp201
                    refine a_iastore (pc := 204) dX9_value_204 (kput_eq) (st.length) (by first | rfl | (rw [pk_sub (by omega)]; rfl)) (by omega) (by omega) ?_
                    refine a_hp kput_put ?_
                    refine a_iincN (pc := 205) (n := 1) dX9_value_205 (by decide) rfl (by decide) rfl ?_
                    refine a_goto (pc := 208) (tgt := 20) dX9_value_208 (by decide) ?_
                    have hev2 : evs ab l2 (binO c.1 y0 x0 :: st) = [V] := by rw [← hev]; show evs ab l2 (binO c.1 y0 x0 :: st) = evs ab l2 (evC ab (x0 :: y0 :: st) c); rw [evC_b k2 k2n k8]
                    exact a_locR (ih (i + 1) (binO c.1 y0 x0 :: st) (upd S st.length (binO c.1 y0 x0)) (by omega) hcd2 hok2 (stkR_p rfl hst.2.2) (by show st.length + 1 + lo ≤ i + 1; have hle : st.length + 2 + lo ≤ i := hle; omega) hev2) ⟨rfl, rfl, rfl, rfl, rfl, trivial⟩
  by_cases hw0 : w = 0
  · have hl0 : lo = 0 := hz hw0
    subst hl0
    refine a_iconst (pc := 0) dX9_value_0 ic_0 ?_
    refine a_istore_n (pc := 1) dX9_value_1 rfl (by decide) rfl ?_
    refine a_iload_n (pc := 2) dX9_value_2 rfl rfl ?_
    refine a_if_neN (pc := 3) (tgt := 10) dX9_value_3 (by decide) (by omega) (fun c3 => ?_) (fun c3 => ?_)
    · exact absurd c3 (by omega)
    · refine a_iconst (pc := 6) dX9_value_6 ic_0 ?_
      refine a_goto (pc := 7) (tgt := 18) dX9_value_7 (by decide) ?_
      refine a_istore (pc := 18) dX9_value_18 (by decide) rfl ?_
      exact a_hp (kput_self hq).symm (a_locR (loop l 0 [] S0 rfl hcod (fun c hc => hwf.2 c hc) trivial (by show 0 + 0 ≤ 0; omega) ((hwf.1 ab []).trans (by rw [hV]))) ⟨rfl, rfl, rfl, rfl, rfl, trivial⟩)
  · skip
    refine a_iconst (pc := 0) dX9_value_0 ic_0 ?_
    refine a_istore_n (pc := 1) dX9_value_1 rfl (by decide) rfl ?_
    refine a_iload_n (pc := 2) dX9_value_2 rfl rfl ?_
    refine a_if_neN (pc := 3) (tgt := 10) dX9_value_3 (by decide) (by omega) (fun c3 => ?_) (fun c3 => ?_)
    · refine a_aload_n (pc := 10) dX9_value_10 rfl rfl ?_
      refine a_getfield (pc := 11) kg_X9_13 dX9_value_11 (hx) rfl ?_
      refine a_iload_n (pc := 14) dX9_value_14 rfl rfl ?_
      refine a_iconst (pc := 15) dX9_value_15 ic_1 ?_
      refine a_isubN (pc := 16) dX9_value_16 (by omega) ?_
      refine a_iaload (pc := 17) dX9_value_17 (he) (w - 1) (rfl) (by omega) (by omega) ?_
      refine a_topi (hlo (by omega)) ?_
      refine a_istore (pc := 18) dX9_value_18 (by decide) rfl ?_
      exact a_hp (kput_self hq).symm (a_locR (loop l lo [] S0 rfl hcod (fun c hc => hwf.2 c hc) trivial (by show 0 + lo ≤ lo; omega) ((hwf.1 ab []).trans (by rw [hV]))) ⟨rfl, rfl, rfl, rfl, rfl, trivial⟩)
    · exact absurd c3 (by omega)

end CTX

/-! THE REFERENCE: copies, runs -/
section MP8
variable {X : KX} {m : Nat → Nat} {s : MST} {h0 : AH}
theorem copy_of {z : Nat} {n i : Int32} (hz : z ≤ 40) (h1 : ¬ n < 0) (h2 : ¬ i < 0) (h3 : ¬ nI z - n < i) : ∃ b d, n = nI b ∧ i = nI d ∧ d + b ≤ z := by
  have e0 : (0 : Int32).toInt = 0 := by decide
  have g1 : 0 ≤ n.toInt := by
    rw [Int32.lt_iff_toInt_lt, e0] at h1
    omega
  have g2 : 0 ≤ i.toInt := by
    rw [Int32.lt_iff_toInt_lt, e0] at h2
    omega
  have l1 := Int32.toInt_lt n
  have l2 := Int32.toInt_lt i
  have e : (nI z - n).toInt = z - n.toInt := by
    rw [Int32.toInt_sub, nI_toInt (by omega)]
    exact Int.bmod_eq_of_le (by omega) (by omega)
  rw [Int32.lt_iff_toInt_lt, e] at h3
  refine ⟨n.toInt.toNat, i.toInt.toNat, ?_, ?_, by omega⟩
  · apply Int32.toInt_inj.mp
    rw [nI_toInt (by omega)]
    omega
  · apply Int32.toInt_inj.mp
    rw [nI_toInt (by omega)]
    omega
/-- filled from its end on -/
def bacO {α : Type} (f g : Nat → α) (off n i : Nat) : Nat → α := fun j => if off + (n - i) ≤ j ∧ j < off + n then f (j - off) else g j
theorem bacO_0 {α : Type} {f g : Nat → α} {off n : Nat} : bacO f g off n 0 = g := by
  funext j
  exact if_neg (by omega)
theorem bacO_n {α : Type} {f g : Nat → α} {off n : Nat} : bacO f g off n n = fillO f g off n := by
  funext j
  unfold bacO fillO
  rw [Nat.sub_self, Nat.add_zero]
theorem bacO_s {f g : Nat → Int32} {off n i : Nat} (hi : i < n) : upd (bacO f g off n i) (off + (n - 1 - i)) (f (n - 1 - i)) = bacO f g off n (i + 1) := by
  funext j
  by_cases h : j = off + (n - 1 - i)
  · subst h
    rw [pk_us]
    exact ((if_pos ⟨by omega, by omega⟩).trans (by rw [Nat.add_sub_cancel_left])).symm
  · rw [pk_un h]
    unfold bacO
    by_cases h2 : off + (n - i) ≤ j ∧ j < off + n
    · rw [if_pos h2, if_pos ⟨by omega, h2.2⟩]
    · rw [if_neg h2, if_neg (by omega)]
theorem bacO_out {α : Type} {f g : Nat → α} {off n i j : Nat} (h : j < off + (n - i) ∨ off + n ≤ j) : bacO f g off n i j = g j := if_neg (by omega)
def R_copy (s : MST) (x i y j n : Int32) : Int32 × MST := if (inN x 4 && inN y 4) = true then
    (if s.2.1 61 x.toNatClampNeg = 0 ∨ s.2.1 61 y.toNatClampNeg = 0 then (-11, s)
     else if s.2.1 62 x.toNatClampNeg = s.2.1 62 y.toNatClampNeg then
       (if n < 0 ∨ i < 0 ∨ j < 0 ∨ s.2.1 63 x.toNatClampNeg - n < i ∨ s.2.1 63 y.toNatClampNeg - n < j then (-12, s)
        else (n, sa s 64 (fillO (fun k => s.2.1 64 (40 * x.toNatClampNeg + i.toNatClampNeg + k)) (s.2.1 64) (40 * y.toNatClampNeg + j.toNatClampNeg) n.toNatClampNeg)))
     else (-13, s)) else (-2, s)
set_option maxRecDepth 4000 in
theorem f_copy (hm : MI m) (hV : MV s) (x i y j n : Int32) : Fn X 2 0 0 yX12_copy cX12_copy 9 (some .int) [.ref (m 65), .int x, .int i, .int y, .int j, .int n] (mh m s h0) (fun rv hv => rv = some (.int (R_copy s x i y j n).1) ∧ ∃ s' : MST, hv = mh m s' h0 ∧ SP s' (R_copy s x i y j n).2) := by
  refine fn_of (by decide) (Nat.le_of_ble_eq_true rfl) (fun M hM => ?_)
  refine a_iload_n (pc := 0) dX12_copy_0 rfl rfl ?_
  refine a_callS (pc := 1) km_X12_165 dX12_copy_1 (f_isSheet _) rfl rfl (rok_of hM (by decide) (by decide) (by omega) (by omega)) (Nat.le_of_ble_eq_true rfl) (fun r1 h1 hp1 => ?_)
  obtain ⟨rfl, rfl⟩ := hp1
  refine a_if_eqB (pc := 4) (tgt := 14) dX12_copy_4 (by decide) (fun c4 => ?_) (fun c4 => ?_)
  · refine a_bipush (pc := 14) dX12_copy_14 ib_m2 ?_
    refine a_ret_i (pc := 16) hM rfl (rfl) dX12_copy_16 (by omega) (by omega) ?_
    exact ⟨by rw [R_copy, if_neg (by simp [c4])], _, rfl, by rw [R_copy, if_neg (by simp [c4])]; exact SP.rfl⟩
  · obtain ⟨a, ha, rfl⟩ := inN_of c4 (by omega)
    have ea : (nI a).toNatClampNeg = a := nI_clamp (by omega)
    refine a_iload_n (pc := 7) dX12_copy_7 rfl rfl ?_
    refine a_callS (pc := 8) km_X12_165 dX12_copy_8 (f_isSheet _) rfl rfl (rok_of hM (by decide) (by decide) (by omega) (by omega)) (Nat.le_of_ble_eq_true rfl) (fun r8 h8 hp8 => ?_)
    obtain ⟨rfl, rfl⟩ := hp8
    refine a_if_neB (pc := 11) (tgt := 17) dX12_copy_11 (by decide) (fun c11 => ?_) (fun c11 => ?_)
    · obtain ⟨c, hc, rfl⟩ := inN_of c11 (by omega)
      have ec : (nI c).toNatClampNeg = c := nI_clamp (by omega)
      have hcc : (inN (nI a) 4 && inN (nI c) 4) = true := by rw [c4, c11]; rfl
      refine a_aload_n (pc := 17) dX12_copy_17 rfl rfl ?_
      refine a_getfield (pc := 18) kg_X12_105 dX12_copy_18 (m_obj hm) rfl ?_
      refine a_iload_n (pc := 21) dX12_copy_21 rfl rfl ?_
      refine a_baload (pc := 22) dX12_copy_22 (m_a61 hm) (_) (rfl) (by omega) (by omega) ?_
      refine a_if_eq (pc := 23) (tgt := 35) dX12_copy_23 (by decide) (fun c23 => ?_) (fun c23 => ?_)
      · refine a_bipush (pc := 35) dX12_copy_35 ib_m11 ?_
        refine a_ret_i (pc := 37) hM rfl (rfl) dX12_copy_37 (by omega) (by omega) ?_
        exact ⟨by rw [R_copy, if_pos hcc, ea, ec, if_pos (by simp [c4, c11, c23])], _, rfl, by rw [R_copy, if_pos hcc, ea, ec, if_pos (by simp [c4, c11, c23])]; exact SP.rfl⟩
      · refine a_aload_n (pc := 26) dX12_copy_26 rfl rfl ?_
        refine a_getfield (pc := 27) kg_X12_105 dX12_copy_27 (m_obj hm) rfl ?_
        refine a_iload_n (pc := 30) dX12_copy_30 rfl rfl ?_
        refine a_baload (pc := 31) dX12_copy_31 (m_a61 hm) (_) (rfl) (by omega) (by omega) ?_
        refine a_if_ne (pc := 32) (tgt := 38) dX12_copy_32 (by decide) (fun c32 => ?_) (fun c32 => ?_)
        · have hth0 : ¬ (s.2.1 61 a = 0 ∨ s.2.1 61 c = 0) := fun z => z.elim c23 c32
          have hth : ¬ (s.2.1 61 (nI a).toNatClampNeg = 0 ∨ s.2.1 61 (nI c).toNatClampNeg = 0) := by rw [ea, ec]; exact hth0
          obtain ⟨-, -, ha3, ha4⟩ := MV_there hV ha c23
          obtain ⟨-, -, hc3, hc4⟩ := MV_there hV hc c32
          refine a_aload_n (pc := 38) dX12_copy_38 rfl rfl ?_
          refine a_getfield (pc := 39) kg_X12_109 dX12_copy_39 (m_obj hm) rfl ?_
          refine a_iload_n (pc := 42) dX12_copy_42 rfl rfl ?_
          refine a_iaload (pc := 43) dX12_copy_43 (m_a62 hm) (_) (rfl) (by omega) (by omega) ?_
          refine a_aload_n (pc := 44) dX12_copy_44 rfl rfl ?_
          refine a_getfield (pc := 45) kg_X12_109 dX12_copy_45 (m_obj hm) rfl ?_
          refine a_iload_n (pc := 48) dX12_copy_48 rfl rfl ?_
          refine a_iaload (pc := 49) dX12_copy_49 (m_a62 hm) (_) (rfl) (by omega) (by omega) ?_
          refine a_icmp_eq (pc := 50) (tgt := 56) dX12_copy_50 (by decide) (fun c50 => ?_) (fun c50 => ?_)
          · have hso : s.2.1 62 (nI a).toNatClampNeg = s.2.1 62 (nI c).toNatClampNeg := by rw [ea, ec]; exact c50
            refine a_iload (pc := 56) dX12_copy_56 rfl ?_
            refine a_if_lt (pc := 58) (tgt := 97) dX12_copy_58 (by decide) (fun c58 => ?_) (fun c58 => ?_)
            · refine a_bipush (pc := 97) dX12_copy_97 ib_m12 ?_
              refine a_ret_i (pc := 99) hM rfl (rfl) dX12_copy_99 (by omega) (by omega) ?_
              exact ⟨by rw [R_copy, if_pos hcc, if_neg hth, if_pos hso, ea, ec, ha3, hc3, if_pos (Or.inl c58)], _, rfl, by rw [R_copy, if_pos hcc, if_neg hth, if_pos hso, ea, ec, ha3, hc3, if_pos (Or.inl c58)]; exact SP.rfl⟩
            · refine a_iload_n (pc := 61) dX12_copy_61 rfl rfl ?_
              refine a_if_lt (pc := 62) (tgt := 97) dX12_copy_62 (by decide) (fun c62 => ?_) (fun c62 => ?_)
              · refine a_bipush (pc := 97) dX12_copy_97 ib_m12 ?_
                refine a_ret_i (pc := 99) hM rfl (rfl) dX12_copy_99 (by omega) (by omega) ?_
                exact ⟨by rw [R_copy, if_pos hcc, if_neg hth, if_pos hso, ea, ec, ha3, hc3, if_pos (Or.inr (Or.inl c62))], _, rfl, by rw [R_copy, if_pos hcc, if_neg hth, if_pos hso, ea, ec, ha3, hc3, if_pos (Or.inr (Or.inl c62))]; exact SP.rfl⟩
              · refine a_iload (pc := 65) dX12_copy_65 rfl ?_
                refine a_if_lt (pc := 67) (tgt := 97) dX12_copy_67 (by decide) (fun c67 => ?_) (fun c67 => ?_)
                · refine a_bipush (pc := 97) dX12_copy_97 ib_m12 ?_
                  refine a_ret_i (pc := 99) hM rfl (rfl) dX12_copy_99 (by omega) (by omega) ?_
                  exact ⟨by rw [R_copy, if_pos hcc, if_neg hth, if_pos hso, ea, ec, ha3, hc3, if_pos (Or.inr (Or.inr (Or.inl c67)))], _, rfl, by rw [R_copy, if_pos hcc, if_neg hth, if_pos hso, ea, ec, ha3, hc3, if_pos (Or.inr (Or.inr (Or.inl c67)))]; exact SP.rfl⟩
                · refine a_iload_n (pc := 70) dX12_copy_70 rfl rfl ?_
                  refine a_aload_n (pc := 71) dX12_copy_71 rfl rfl ?_
                  refine a_getfield (pc := 72) kg_X12_112 dX12_copy_72 (m_obj hm) rfl ?_
                  refine a_iload_n (pc := 75) dX12_copy_75 rfl rfl ?_
                  refine a_iaload (pc := 76) dX12_copy_76 (m_a63 hm) (_) (rfl) (by omega) (by omega) ?_
                  refine a_topi (ha3) ?_
                  refine a_iload (pc := 77) dX12_copy_77 rfl ?_
                  refine a_isub (pc := 79) dX12_copy_79 ?_
                  refine a_icmp_gt (pc := 80) (tgt := 97) dX12_copy_80 (by decide) (fun c80 => ?_) (fun c80 => ?_)
                  · refine a_bipush (pc := 97) dX12_copy_97 ib_m12 ?_
                    refine a_ret_i (pc := 99) hM rfl (rfl) dX12_copy_99 (by omega) (by omega) ?_
                    exact ⟨by rw [R_copy, if_pos hcc, if_neg hth, if_pos hso, ea, ec, ha3, hc3, if_pos (Or.inr (Or.inr (Or.inr (Or.inl c80))))], _, rfl, by rw [R_copy, if_pos hcc, if_neg hth, if_pos hso, ea, ec, ha3, hc3, if_pos (Or.inr (Or.inr (Or.inr (Or.inl c80))))]; exact SP.rfl⟩
                  · refine a_iload (pc := 83) dX12_copy_83 rfl ?_
                    refine a_aload_n (pc := 85) dX12_copy_85 rfl rfl ?_
                    refine a_getfield (pc := 86) kg_X12_112 dX12_copy_86 (m_obj hm) rfl ?_
                    refine a_iload_n (pc := 89) dX12_copy_89 rfl rfl ?_
                    refine a_iaload (pc := 90) dX12_copy_90 (m_a63 hm) (_) (rfl) (by omega) (by omega) ?_
                    refine a_topi (hc3) ?_
                    refine a_iload (pc := 91) dX12_copy_91 rfl ?_
                    refine a_isub (pc := 93) dX12_copy_93 ?_
                    refine a_icmp_le (pc := 94) (tgt := 100) dX12_copy_94 (by decide) (fun c94 => ?_) (fun c94 => ?_)
                    · have hok : ¬ (n < 0 ∨ i < 0 ∨ j < 0 ∨ s.2.1 63 (nI a).toNatClampNeg - n < i ∨ s.2.1 63 (nI c).toNatClampNeg - n < j) := by
                        rw [ea, ec, ha3, hc3]
                        exact fun z => z.elim c58 fun z => z.elim c62 fun z => z.elim c67 fun z => z.elim c80 fun z => absurd c94 (Int32.not_le.mpr z)
                      obtain ⟨n0, b, hn0, hb0, hbn⟩ := copy_of ha4 c58 c62 c80
                      subst hn0
                      subst hb0
                      obtain ⟨n, d, hn1, hd0, hdn⟩ := copy_of hc4 c58 c67 (fun z => absurd c94 (Int32.not_le.mpr z))
                      have hnn : n = n0 := by
                        have e := congrArg Int32.toNatClampNeg hn1
                        rw [nI_clamp (by omega), nI_clamp (by omega)] at e
                        exact e.symm
                      subst hnn
                      subst hd0
                      have eb : (nI b).toNatClampNeg = b := nI_clamp (by omega)
                      have ed : (nI d).toNatClampNeg = d := nI_clamp (by omega)
                      have en : (nI n).toNatClampNeg = n := nI_clamp (by omega)
                      refine a_iload_n (pc := 100) dX12_copy_100 rfl rfl ?_
                      refine a_iload_n (pc := 101) dX12_copy_101 rfl rfl ?_
                      refine a_icmp_neN (pc := 102) (tgt := 115) dX12_copy_102 (by decide) (by omega) (by omega) (fun c102 => ?_) (fun c102 => ?_)
                      · refine a_iconst (pc := 115) dX12_copy_115 ic_0 ?_
                        refine a_istore (pc := 116) dX12_copy_116 (by decide) rfl ?_
                        refine a_iconst (pc := 118) dX12_copy_118 ic_0 ?_
                        refine a_istore (pc := 119) dX12_copy_119 (by decide) rfl ?_
                        have hfw : a = c → d ≤ b := fun z => absurd z c102
                        have loop : ∀ j k : Nat, n - k = j → k ≤ n →  AJ X M yX12_copy cX12_copy 9 (some .int) 121 [(0, .ref (m 65)), (1, .int (nI a)), (2, .int (nI b)), (3, .int (nI c)), (4, .int (nI d)), (5, .int (nI n)), (6, .int (nI 0)), (7, .int (nI k))] [] (mh m (sa s 64 (fillO (fun t => s.2.1 64 (40 * a + b + t)) (s.2.1 64) (40 * c + d) k)) h0) 0 0 := by
                          intro j
                          induction j with
                          | zero =>
                            intro k hjk hkN
                            refine a_iload (pc := 121) dX12_copy_121 rfl ?_
                            refine a_iload (pc := 123) dX12_copy_123 rfl ?_
                            refine a_icmp_geN (pc := 125) (tgt := 182) dX12_copy_125 (by decide) (by omega) (by omega) (fun c125 => ?_) (fun c125 => ?_)
                            · have hkn : k = n := by omega
                              subst hkn
                              refine a_iload (pc := 182) dX12_copy_182 rfl ?_
                              refine a_ret_i (pc := 184) hM rfl (rfl) dX12_copy_184 (by omega) (by omega) ?_
                              exact ⟨by rw [R_copy, if_pos hcc, if_neg hth, if_pos hso, if_neg hok], _, rfl, by rw [R_copy, if_pos hcc, if_neg hth, if_pos hso, if_neg hok, ea, eb, ec, ed, en]; exact SP.rfl⟩
                            · exact absurd c125 (by omega)
                          | succ j ih =>
                            intro k hjk hkN
                            refine a_iload (pc := 121) dX12_copy_121 rfl ?_
                            refine a_iload (pc := 123) dX12_copy_123 rfl ?_
                            refine a_icmp_geN (pc := 125) (tgt := 182) dX12_copy_125 (by decide) (by omega) (by omega) (fun c125 => ?_) (fun c125 => ?_)
                            · exact absurd c125 (by omega)
                            · refine a_iload (pc := 128) dX12_copy_128 rfl ?_
                              refine a_if_eqN (pc := 130) (tgt := 143) dX12_copy_130 (by decide) (by omega) (fun c130 => ?_) (fun c130 => ?_)
                              · refine a_iload (pc := 143) dX12_copy_143 rfl ?_
                                refine a_istore (pc := 145) dX12_copy_145 (by decide) rfl ?_
                                refine a_aload_n (pc := 147) dX12_copy_147 rfl rfl ?_
                                refine a_getfield (pc := 148) kg_X12_115 dX12_copy_148 (m_obj hm) rfl ?_
                                refine a_bipush (pc := 151) dX12_copy_151 ib_40 ?_
                                refine a_iload_n (pc := 153) dX12_copy_153 rfl rfl ?_
                                refine a_imulN (pc := 154) dX12_copy_154 ?_
                                refine a_iload (pc := 155) dX12_copy_155 rfl ?_
                                refine a_iaddN (pc := 157) dX12_copy_157 ?_
                                refine a_iload (pc := 158) dX12_copy_158 rfl ?_
                                refine a_iaddN (pc := 160) dX12_copy_160 ?_
                                refine a_aload_n (pc := 161) dX12_copy_161 rfl rfl ?_
                                refine a_getfield (pc := 162) kg_X12_115 dX12_copy_162 (m_obj hm) rfl ?_
                                refine a_bipush (pc := 165) dX12_copy_165 ib_40 ?_
                                refine a_iload_n (pc := 167) dX12_copy_167 rfl rfl ?_
                                refine a_imulN (pc := 168) dX12_copy_168 ?_
                                refine a_iload_n (pc := 169) dX12_copy_169 rfl rfl ?_
                                refine a_iaddN (pc := 170) dX12_copy_170 ?_
                                refine a_iload (pc := 171) dX12_copy_171 rfl ?_
                                refine a_iaddN (pc := 173) dX12_copy_173 ?_
                                refine a_iaload (pc := 174) dX12_copy_174 (m_a64 hm) (_) (rfl) (by omega) (by omega) ?_
                                refine a_topi (show _ = (fun t => s.2.1 64 (40 * a + b + t)) k from (show fillO (fun t => s.2.1 64 (40 * a + b + t)) (s.2.1 64) (40 * c + d) k (40 * a + b + k) = s.2.1 64 (40 * a + b + k) from fillO_out (by omega))) ?_
                                refine a_iastore (pc := 175) dX12_copy_175 (m_a64 hm) (_) (rfl) (by omega) (by omega) ?_
                                refine a_hp (m_p64 hm) ?_
                                refine a_hp (show _ = mh m (sa s 64 (fillO (fun t => s.2.1 64 (40 * a + b + t)) (s.2.1 64) (40 * c + d) (k + 1))) h0 from congrArg (fun t => mh m t h0) (sa_sa.trans (congrArg (sa s 64) (fillO_s (f := fun t => s.2.1 64 (40 * a + b + t)))))) ?_
                                refine a_iincN (pc := 176) (n := 1) dX12_copy_176 (by decide) rfl (by decide) rfl ?_
                                refine a_goto (pc := 179) (tgt := 121) dX12_copy_179 (by decide) ?_
                                exact a_locR (ih (k + 1) (by omega) (by omega)) ⟨rfl, rfl, rfl, rfl, rfl, rfl, rfl, rfl, trivial⟩
                              · exact absurd c130 (Nat.lt_irrefl 0)
                        refine a_hp (show _ = mh m (sa s 64 (fillO (fun t => s.2.1 64 (40 * a + b + t)) (s.2.1 64) (40 * c + d) 0)) h0 by rw [fillO_0, sa_id]) ?_
                        exact a_locR (loop _ 0 rfl (Nat.zero_le _)) ⟨rfl, rfl, rfl, rfl, rfl, rfl, rfl, rfl, trivial⟩
                      · refine a_iload_n (pc := 105) dX12_copy_105 rfl rfl ?_
                        refine a_iload (pc := 106) dX12_copy_106 rfl ?_
                        refine a_icmp_geN (pc := 108) (tgt := 115) dX12_copy_108 (by decide) (by omega) (by omega) (fun c108 => ?_) (fun c108 => ?_)
                        · refine a_iconst (pc := 115) dX12_copy_115 ic_0 ?_
                          refine a_istore (pc := 116) dX12_copy_116 (by decide) rfl ?_
                          refine a_iconst (pc := 118) dX12_copy_118 ic_0 ?_
                          refine a_istore (pc := 119) dX12_copy_119 (by decide) rfl ?_
                          have hfw : a = c → d ≤ b := fun _ => c108
                          have loop : ∀ j k : Nat, n - k = j → k ≤ n →  AJ X M yX12_copy cX12_copy 9 (some .int) 121 [(0, .ref (m 65)), (1, .int (nI a)), (2, .int (nI b)), (3, .int (nI c)), (4, .int (nI d)), (5, .int (nI n)), (6, .int (nI 0)), (7, .int (nI k))] [] (mh m (sa s 64 (fillO (fun t => s.2.1 64 (40 * a + b + t)) (s.2.1 64) (40 * c + d) k)) h0) 0 0 := by
                            intro j
                            induction j with
                            | zero =>
                              intro k hjk hkN
                              refine a_iload (pc := 121) dX12_copy_121 rfl ?_
                              refine a_iload (pc := 123) dX12_copy_123 rfl ?_
                              refine a_icmp_geN (pc := 125) (tgt := 182) dX12_copy_125 (by decide) (by omega) (by omega) (fun c125 => ?_) (fun c125 => ?_)
                              · have hkn : k = n := by omega
                                subst hkn
                                refine a_iload (pc := 182) dX12_copy_182 rfl ?_
                                refine a_ret_i (pc := 184) hM rfl (rfl) dX12_copy_184 (by omega) (by omega) ?_
                                exact ⟨by rw [R_copy, if_pos hcc, if_neg hth, if_pos hso, if_neg hok], _, rfl, by rw [R_copy, if_pos hcc, if_neg hth, if_pos hso, if_neg hok, ea, eb, ec, ed, en]; exact SP.rfl⟩
                              · exact absurd c125 (by omega)
                            | succ j ih =>
                              intro k hjk hkN
                              refine a_iload (pc := 121) dX12_copy_121 rfl ?_
                              refine a_iload (pc := 123) dX12_copy_123 rfl ?_
                              refine a_icmp_geN (pc := 125) (tgt := 182) dX12_copy_125 (by decide) (by omega) (by omega) (fun c125 => ?_) (fun c125 => ?_)
                              · exact absurd c125 (by omega)
                              · refine a_iload (pc := 128) dX12_copy_128 rfl ?_
                                refine a_if_eqN (pc := 130) (tgt := 143) dX12_copy_130 (by decide) (by omega) (fun c130 => ?_) (fun c130 => ?_)
                                · refine a_iload (pc := 143) dX12_copy_143 rfl ?_
                                  refine a_istore (pc := 145) dX12_copy_145 (by decide) rfl ?_
                                  refine a_aload_n (pc := 147) dX12_copy_147 rfl rfl ?_
                                  refine a_getfield (pc := 148) kg_X12_115 dX12_copy_148 (m_obj hm) rfl ?_
                                  refine a_bipush (pc := 151) dX12_copy_151 ib_40 ?_
                                  refine a_iload_n (pc := 153) dX12_copy_153 rfl rfl ?_
                                  refine a_imulN (pc := 154) dX12_copy_154 ?_
                                  refine a_iload (pc := 155) dX12_copy_155 rfl ?_
                                  refine a_iaddN (pc := 157) dX12_copy_157 ?_
                                  refine a_iload (pc := 158) dX12_copy_158 rfl ?_
                                  refine a_iaddN (pc := 160) dX12_copy_160 ?_
                                  refine a_aload_n (pc := 161) dX12_copy_161 rfl rfl ?_
                                  refine a_getfield (pc := 162) kg_X12_115 dX12_copy_162 (m_obj hm) rfl ?_
                                  refine a_bipush (pc := 165) dX12_copy_165 ib_40 ?_
                                  refine a_iload_n (pc := 167) dX12_copy_167 rfl rfl ?_
                                  refine a_imulN (pc := 168) dX12_copy_168 ?_
                                  refine a_iload_n (pc := 169) dX12_copy_169 rfl rfl ?_
                                  refine a_iaddN (pc := 170) dX12_copy_170 ?_
                                  refine a_iload (pc := 171) dX12_copy_171 rfl ?_
                                  refine a_iaddN (pc := 173) dX12_copy_173 ?_
                                  refine a_iaload (pc := 174) dX12_copy_174 (m_a64 hm) (_) (rfl) (by omega) (by omega) ?_
                                  refine a_topi (show _ = (fun t => s.2.1 64 (40 * a + b + t)) k from (show fillO (fun t => s.2.1 64 (40 * a + b + t)) (s.2.1 64) (40 * c + d) k (40 * a + b + k) = s.2.1 64 (40 * a + b + k) from fillO_out (by omega))) ?_
                                  refine a_iastore (pc := 175) dX12_copy_175 (m_a64 hm) (_) (rfl) (by omega) (by omega) ?_
                                  refine a_hp (m_p64 hm) ?_
                                  refine a_hp (show _ = mh m (sa s 64 (fillO (fun t => s.2.1 64 (40 * a + b + t)) (s.2.1 64) (40 * c + d) (k + 1))) h0 from congrArg (fun t => mh m t h0) (sa_sa.trans (congrArg (sa s 64) (fillO_s (f := fun t => s.2.1 64 (40 * a + b + t)))))) ?_
                                  refine a_iincN (pc := 176) (n := 1) dX12_copy_176 (by decide) rfl (by decide) rfl ?_
                                  refine a_goto (pc := 179) (tgt := 121) dX12_copy_179 (by decide) ?_
                                  exact a_locR (ih (k + 1) (by omega) (by omega)) ⟨rfl, rfl, rfl, rfl, rfl, rfl, rfl, rfl, trivial⟩
                                · exact absurd c130 (Nat.lt_irrefl 0)
                          refine a_hp (show _ = mh m (sa s 64 (fillO (fun t => s.2.1 64 (40 * a + b + t)) (s.2.1 64) (40 * c + d) 0)) h0 by rw [fillO_0, sa_id]) ?_
                          exact a_locR (loop _ 0 rfl (Nat.zero_le _)) ⟨rfl, rfl, rfl, rfl, rfl, rfl, rfl, rfl, trivial⟩
                        · refine a_iconst (pc := 111) dX12_copy_111 ic_1 ?_
                          refine a_goto (pc := 112) (tgt := 116) dX12_copy_112 (by decide) ?_
                          refine a_istore (pc := 116) dX12_copy_116 (by decide) rfl ?_
                          refine a_iconst (pc := 118) dX12_copy_118 ic_0 ?_
                          refine a_istore (pc := 119) dX12_copy_119 (by decide) rfl ?_
                          have loop : ∀ j k : Nat, n - k = j → k ≤ n →  AJ X M yX12_copy cX12_copy 9 (some .int) 121 [(0, .ref (m 65)), (1, .int (nI a)), (2, .int (nI b)), (3, .int (nI c)), (4, .int (nI d)), (5, .int (nI n)), (6, .int (nI 1)), (7, .int (nI k))] [] (mh m (sa s 64 (bacO (fun t => s.2.1 64 (40 * a + b + t)) (s.2.1 64) (40 * c + d) n k)) h0) 0 0 := by
                            intro j
                            induction j with
                            | zero =>
                              intro k hjk hkN
                              refine a_iload (pc := 121) dX12_copy_121 rfl ?_
                              refine a_iload (pc := 123) dX12_copy_123 rfl ?_
                              refine a_icmp_geN (pc := 125) (tgt := 182) dX12_copy_125 (by decide) (by omega) (by omega) (fun c125 => ?_) (fun c125 => ?_)
                              · have hkn : k = n := by omega
                                subst hkn
                                refine a_hp (congrArg (fun g => mh m (sa s 64 g) h0) bacO_n) ?_
                                refine a_iload (pc := 182) dX12_copy_182 rfl ?_
                                refine a_ret_i (pc := 184) hM rfl (rfl) dX12_copy_184 (by omega) (by omega) ?_
                                exact ⟨by rw [R_copy, if_pos hcc, if_neg hth, if_pos hso, if_neg hok], _, rfl, by rw [R_copy, if_pos hcc, if_neg hth, if_pos hso, if_neg hok, ea, eb, ec, ed, en]; exact SP.rfl⟩
                              · exact absurd c125 (by omega)
                            | succ j ih =>
                              intro k hjk hkN
                              refine a_iload (pc := 121) dX12_copy_121 rfl ?_
                              refine a_iload (pc := 123) dX12_copy_123 rfl ?_
                              refine a_icmp_geN (pc := 125) (tgt := 182) dX12_copy_125 (by decide) (by omega) (by omega) (fun c125 => ?_) (fun c125 => ?_)
                              · exact absurd c125 (by omega)
                              · refine a_iload (pc := 128) dX12_copy_128 rfl ?_
                                refine a_if_eqN (pc := 130) (tgt := 143) dX12_copy_130 (by decide) (by omega) (fun c130 => ?_) (fun c130 => ?_)
                                · exact absurd c130 (by decide)
                                · refine a_iload (pc := 133) dX12_copy_133 rfl ?_
                                  refine a_iconst (pc := 135) dX12_copy_135 ic_1 ?_
                                  refine a_isubN (pc := 136) dX12_copy_136 (by omega) ?_
                                  refine a_iload (pc := 137) dX12_copy_137 rfl ?_
                                  refine a_isubN (pc := 139) dX12_copy_139 (by omega) ?_
                                  refine a_goto (pc := 140) (tgt := 145) dX12_copy_140 (by decide) ?_
                                  refine a_istore (pc := 145) dX12_copy_145 (by decide) rfl ?_
                                  refine a_aload_n (pc := 147) dX12_copy_147 rfl rfl ?_
                                  refine a_getfield (pc := 148) kg_X12_115 dX12_copy_148 (m_obj hm) rfl ?_
                                  refine a_bipush (pc := 151) dX12_copy_151 ib_40 ?_
                                  refine a_iload_n (pc := 153) dX12_copy_153 rfl rfl ?_
                                  refine a_imulN (pc := 154) dX12_copy_154 ?_
                                  refine a_iload (pc := 155) dX12_copy_155 rfl ?_
                                  refine a_iaddN (pc := 157) dX12_copy_157 ?_
                                  refine a_iload (pc := 158) dX12_copy_158 rfl ?_
                                  refine a_iaddN (pc := 160) dX12_copy_160 ?_
                                  refine a_aload_n (pc := 161) dX12_copy_161 rfl rfl ?_
                                  refine a_getfield (pc := 162) kg_X12_115 dX12_copy_162 (m_obj hm) rfl ?_
                                  refine a_bipush (pc := 165) dX12_copy_165 ib_40 ?_
                                  refine a_iload_n (pc := 167) dX12_copy_167 rfl rfl ?_
                                  refine a_imulN (pc := 168) dX12_copy_168 ?_
                                  refine a_iload_n (pc := 169) dX12_copy_169 rfl rfl ?_
                                  refine a_iaddN (pc := 170) dX12_copy_170 ?_
                                  refine a_iload (pc := 171) dX12_copy_171 rfl ?_
                                  refine a_iaddN (pc := 173) dX12_copy_173 ?_
                                  refine a_iaload (pc := 174) dX12_copy_174 (m_a64 hm) (_) (rfl) (by omega) (by omega) ?_
                                  refine a_topi (show _ = (fun t => s.2.1 64 (40 * a + b + t)) (n - 1 - k) from (show bacO (fun t => s.2.1 64 (40 * a + b + t)) (s.2.1 64) (40 * c + d) n k (40 * a + b + (n - 1 - k)) = s.2.1 64 (40 * a + b + (n - 1 - k)) from bacO_out (by omega))) ?_
                                  refine a_iastore (pc := 175) dX12_copy_175 (m_a64 hm) (_) (rfl) (by omega) (by omega) ?_
                                  refine a_hp (m_p64 hm) ?_
                                  refine a_hp (show _ = mh m (sa s 64 (bacO (fun t => s.2.1 64 (40 * a + b + t)) (s.2.1 64) (40 * c + d) n (k + 1))) h0 from congrArg (fun t => mh m t h0) (sa_sa.trans (congrArg (sa s 64) (bacO_s (f := fun t => s.2.1 64 (40 * a + b + t)) (by omega))))) ?_
                                  refine a_iincN (pc := 176) (n := 1) dX12_copy_176 (by decide) rfl (by decide) rfl ?_
                                  refine a_goto (pc := 179) (tgt := 121) dX12_copy_179 (by decide) ?_
                                  exact a_locR (ih (k + 1) (by omega) (by omega)) ⟨rfl, rfl, rfl, rfl, rfl, rfl, rfl, rfl, trivial⟩
                          refine a_hp (show _ = mh m (sa s 64 (bacO (fun t => s.2.1 64 (40 * a + b + t)) (s.2.1 64) (40 * c + d) n 0)) h0 by rw [bacO_0, sa_id]) ?_
                          exact a_locR (loop _ 0 rfl (Nat.zero_le _)) ⟨rfl, rfl, rfl, rfl, rfl, rfl, rfl, rfl, trivial⟩
                    · refine a_bipush (pc := 97) dX12_copy_97 ib_m12 ?_
                      refine a_ret_i (pc := 99) hM rfl (rfl) dX12_copy_99 (by omega) (by omega) ?_
                      exact ⟨by rw [R_copy, if_pos hcc, if_neg hth, if_pos hso, ea, ec, ha3, hc3, if_pos (Or.inr (Or.inr (Or.inr (Or.inr (Int32.not_le.mp c94)))))], _, rfl, by rw [R_copy, if_pos hcc, if_neg hth, if_pos hso, ea, ec, ha3, hc3, if_pos (Or.inr (Or.inr (Or.inr (Or.inr (Int32.not_le.mp c94)))))]; exact SP.rfl⟩
          · refine a_bipush (pc := 53) dX12_copy_53 ib_m13 ?_
            refine a_ret_i (pc := 55) hM rfl (rfl) dX12_copy_55 (by omega) (by omega) ?_
            exact ⟨by rw [R_copy, if_pos hcc, if_neg hth, ea, ec, if_neg c50], _, rfl, by rw [R_copy, if_pos hcc, if_neg hth, ea, ec, if_neg c50]; exact SP.rfl⟩
        · refine a_bipush (pc := 35) dX12_copy_35 ib_m11 ?_
          refine a_ret_i (pc := 37) hM rfl (rfl) dX12_copy_37 (by omega) (by omega) ?_
          exact ⟨by rw [R_copy, if_pos hcc, ea, ec, if_pos (by simp [c4, c11, c23, c32])], _, rfl, by rw [R_copy, if_pos hcc, ea, ec, if_pos (by simp [c4, c11, c23, c32])]; exact SP.rfl⟩
    · refine a_bipush (pc := 14) dX12_copy_14 ib_m2 ?_
      refine a_ret_i (pc := 16) hM rfl (rfl) dX12_copy_16 (by omega) (by omega) ?_
      exact ⟨by rw [R_copy, if_neg (by simp [c4, c11])], _, rfl, by rw [R_copy, if_neg (by simp [c4, c11])]; exact SP.rfl⟩

def cumP (s : MST) (p : Nat) : Nat → Nat := sumN (fun j => vA s 8 (5 * p + j))
theorem cumP_s (s : MST) (p g : Nat) : cumP s p (g + 1) = cumP s p g + vA s 8 (5 * p + g) := rfl
def sgP (s : MST) (p i : Nat) : Nat := if i < cumP s p 1 then 0 else if i < cumP s p 2 then 1 else if i < cumP s p 3 then 2 else if i < cumP s p 4 then 3 else 4
theorem cumP_5 {s : MST} {p : Nat} (h : vA s 8 (5 * p) + vA s 8 (5 * p + 1) + vA s 8 (5 * p + 2) + vA s 8 (5 * p + 3) + vA s 8 (5 * p + 4) = vA s 9 p) : cumP s p 5 = vA s 9 p := by
  rw [← h, cumP_s, cumP_s, cumP_s, cumP_s, cumP_s, show cumP s p 0 = 0 from rfl, Nat.zero_add, Nat.add_zero]
theorem cumP_le (s : MST) (p : Nat) {g : Nat} (hg : g < 5) : cumP s p g + vA s 8 (5 * p + g) ≤ cumP s p 5 := by
  have e1 : cumP s p 1 = cumP s p 0 + vA s 8 (5 * p + 0) := rfl
  have e2 : cumP s p 2 = cumP s p 1 + vA s 8 (5 * p + 1) := rfl
  have e3 : cumP s p 3 = cumP s p 2 + vA s 8 (5 * p + 2) := rfl
  have e4 : cumP s p 4 = cumP s p 3 + vA s 8 (5 * p + 3) := rfl
  have e5 : cumP s p 5 = cumP s p 4 + vA s 8 (5 * p + 4) := rfl
  rcases (by omega : g = 0 ∨ g = 1 ∨ g = 2 ∨ g = 3 ∨ g = 4) with h | h | h | h | h <;> subst h <;> omega
theorem sgP_at (s : MST) (p : Nat) {g t : Nat} (hg : g < 5) (ht : t < vA s 8 (5 * p + g)) : sgP s p (cumP s p g + t) = g := by
  have e0 : cumP s p 0 = 0 := rfl
  have e1 : cumP s p 1 = cumP s p 0 + vA s 8 (5 * p + 0) := rfl
  have e2 : cumP s p 2 = cumP s p 1 + vA s 8 (5 * p + 1) := rfl
  have e3 : cumP s p 3 = cumP s p 2 + vA s 8 (5 * p + 2) := rfl
  have e4 : cumP s p 4 = cumP s p 3 + vA s 8 (5 * p + 3) := rfl
  have e5 : cumP s p 5 = cumP s p 4 + vA s 8 (5 * p + 4) := rfl
  unfold sgP
  rcases (by omega : g = 0 ∨ g = 1 ∨ g = 2 ∨ g = 3 ∨ g = 4) with h | h | h | h | h <;> subst h <;> (repeat' split) <;> omega
def N_run (s : MST) (p : Nat) (g d : Int32) : MST := si (sa (sa (sa (sa (sa (sa (sa s 11 (upd (s.2.1 11) (vI s 18) (nI p))) 12 (upd (s.2.1 12) (vI s 18) g)) 13 (upd (s.2.1 13) (vI s 18) d)) 16 (upd (s.2.1 16) (vI s 18) (nI 0))) 17 (upd (s.2.1 17) (vI s 18) (nI 0))) 14 (fillO (fun i => nI (sgP s p i)) (s.2.1 14) (25 * vI s 18) (vA s 9 p))) 15 (fillO (fun _ => nI 0) (s.2.1 15) (25 * vI s 18) (vA s 9 p))) 18 (nI (vI s 18 + 1))
def R_run (s : MST) (x g d : Int32) : Int32 × MST := if (inN x (vI s 10) && inN g 8 && inN d 100) = true then (if vI s 18 = 16 then (-4, s) else (nI (vI s 18), N_run s x.toNatClampNeg g d)) else (-2, s)
set_option maxRecDepth 4000 in
theorem f_run (hm : MI m) (hV : MV s) (x g d : Int32) : Fn X 1 0 0 yX12_run cX12_run 7 (some .int) [.ref (m 65), .int x, .int g, .int d] (mh m s h0) (fun rv hv => rv = some (.int (R_run s x g d).1) ∧ ∃ s' : MST, hv = mh m s' h0 ∧ SP s' (R_run s x g d).2) := by
  obtain ⟨⟨hn18, hb18⟩, hl18⟩ := id hV.2.1
  obtain ⟨⟨hn10, hb10⟩, -⟩ := id hV.1
  refine fn_of (by decide) (Nat.le_of_ble_eq_true rfl) (fun M hM => ?_)
  refine a_iload_n (pc := 0) dX12_run_0 rfl rfl ?_
  refine a_i2l (pc := 1) dX12_run_1 ?_
  refine a_lconst (pc := 2) (v := lN 0) dX12_run_2 rfl ?_
  refine a_aload_n (pc := 3) dX12_run_3 rfl rfl ?_
  refine a_getfield (pc := 4) kg_X12_150 dX12_run_4 (m_obj hm) rfl ?_
  refine a_topi (hn10) ?_
  refine a_iconst (pc := 7) dX12_run_7 ic_1 ?_
  refine a_isub (pc := 8) dX12_run_8 ?_
  refine a_i2l (pc := 9) dX12_run_9 ?_
  refine a_callS (pc := 10) km_X12_142 dX12_run_10 (f_in _ _ _) rfl rfl (rok_of hM (by decide) (by decide) (by omega) (by omega)) (Nat.le_of_ble_eq_true rfl) (fun r10 h10 hp10 => ?_)
  obtain ⟨rfl, rfl⟩ := hp10
  refine a_topi (congrArg bI (in_rng (x := x) (n := vI s 10) (by omega))) ?_
  refine a_if_eqB (pc := 13) (tgt := 40) dX12_run_13 (by decide) (fun c13 => ?_) (fun c13 => ?_)
  · refine a_bipush (pc := 40) dX12_run_40 ib_m2 ?_
    refine a_ret_i (pc := 42) hM rfl (rfl) dX12_run_42 (by omega) (by omega) ?_
    exact ⟨by first | simp only [R_run, c13, Bool.and_self, Bool.and_true, Bool.true_and, Bool.and_false, Bool.false_and, Bool.false_eq_true, Nat.add_sub_cancel, reduceIte], _, rfl, by first | (simp only [R_run, c13, Bool.and_self, Bool.and_true, Bool.true_and, Bool.and_false, Bool.false_and, Bool.false_eq_true, Nat.add_sub_cancel, reduceIte]; exact SP.rfl)⟩
  · refine a_iload_n (pc := 16) dX12_run_16 rfl rfl ?_
    refine a_i2l (pc := 17) dX12_run_17 ?_
    refine a_lconst (pc := 18) (v := lN 0) dX12_run_18 rfl ?_
    refine a_ldc2 (pc := 19) kc_X12_153 dX12_run_19 ?_
    refine a_topl (z := lN 7) rfl ?_
    refine a_callS (pc := 22) km_X12_142 dX12_run_22 (f_in _ _ _) rfl rfl (rok_of hM (by decide) (by decide) (by omega) (by omega)) (Nat.le_of_ble_eq_true rfl) (fun r22 h22 hp22 => ?_)
    obtain ⟨rfl, rfl⟩ := hp22
    refine a_topi (congrArg bI (in_rng2 (x := g) (n := 8) (k := 7) (by omega) (by omega))) ?_
    refine a_if_eqB (pc := 25) (tgt := 40) dX12_run_25 (by decide) (fun c25 => ?_) (fun c25 => ?_)
    · refine a_bipush (pc := 40) dX12_run_40 ib_m2 ?_
      refine a_ret_i (pc := 42) hM rfl (rfl) dX12_run_42 (by omega) (by omega) ?_
      exact ⟨by first | simp only [R_run, c13, c25, Bool.and_self, Bool.and_true, Bool.true_and, Bool.and_false, Bool.false_and, Bool.false_eq_true, Nat.add_sub_cancel, reduceIte], _, rfl, by first | (simp only [R_run, c13, c25, Bool.and_self, Bool.and_true, Bool.true_and, Bool.and_false, Bool.false_and, Bool.false_eq_true, Nat.add_sub_cancel, reduceIte]; exact SP.rfl)⟩
    · refine a_iload_n (pc := 28) dX12_run_28 rfl rfl ?_
      refine a_i2l (pc := 29) dX12_run_29 ?_
      refine a_lconst (pc := 30) (v := lN 0) dX12_run_30 rfl ?_
      refine a_ldc2 (pc := 31) kc_X12_155 dX12_run_31 ?_
      refine a_topl (z := lN 99) rfl ?_
      refine a_callS (pc := 34) km_X12_142 dX12_run_34 (f_in _ _ _) rfl rfl (rok_of hM (by decide) (by decide) (by omega) (by omega)) (Nat.le_of_ble_eq_true rfl) (fun r34 h34 hp34 => ?_)
      obtain ⟨rfl, rfl⟩ := hp34
      refine a_topi (congrArg bI (in_rng2 (x := d) (n := 100) (k := 99) (by omega) (by omega))) ?_
      refine a_if_neB (pc := 37) (tgt := 43) dX12_run_37 (by decide) (fun c37 => ?_) (fun c37 => ?_)
      · obtain ⟨p, hp, rfl⟩ := inN_of c13 (by omega)
        have ep : (nI p).toNatClampNeg = p := nI_clamp (by omega)
        have hcc : (inN (nI p) (vI s 10) && inN g 8 && inN d 100) = true := by rw [c13, c25, c37]; rfl
        obtain ⟨hp9, hp1, hpo, hps⟩ := hV.1.2 p hp
        have hp92 : vA s 9 p < 26 := hp9.2
        have h5 := cumP_5 hps
        refine a_aload_n (pc := 43) dX12_run_43 rfl rfl ?_
        refine a_getfield (pc := 44) kg_X12_139 dX12_run_44 (m_obj hm) rfl ?_
        refine a_topi (hn18) ?_
        refine a_bipush (pc := 47) dX12_run_47 ib_16 ?_
        refine a_icmp_neN (pc := 49) (tgt := 55) dX12_run_49 (by decide) (by omega) (by omega) (fun c49 => ?_) (fun c49 => ?_)
        · refine a_aload_n (pc := 55) dX12_run_55 rfl rfl ?_
          refine a_getfield (pc := 56) kg_X12_33 dX12_run_56 (m_obj hm) rfl ?_
          refine a_aload_n (pc := 59) dX12_run_59 rfl rfl ?_
          refine a_getfield (pc := 60) kg_X12_139 dX12_run_60 (m_obj hm) rfl ?_
          refine a_topi (hn18) ?_
          refine a_iload_n (pc := 63) dX12_run_63 rfl rfl ?_
          refine a_iastore (pc := 64) dX12_run_64 (m_a11 hm) (_) (rfl) (by omega) (by omega) ?_
          refine a_hp (m_p11 hm) ?_
          refine a_aload_n (pc := 65) dX12_run_65 rfl rfl ?_
          refine a_getfield (pc := 66) kg_X12_36 dX12_run_66 (m_obj hm) rfl ?_
          refine a_aload_n (pc := 69) dX12_run_69 rfl rfl ?_
          refine a_getfield (pc := 70) kg_X12_139 dX12_run_70 (m_obj hm) rfl ?_
          refine a_topi (hn18) ?_
          refine a_iload_n (pc := 73) dX12_run_73 rfl rfl ?_
          refine a_iastore (pc := 74) dX12_run_74 (m_a12 hm) (_) (rfl) (by omega) (by omega) ?_
          refine a_hp (m_p12 hm) ?_
          refine a_aload_n (pc := 75) dX12_run_75 rfl rfl ?_
          refine a_getfield (pc := 76) kg_X12_39 dX12_run_76 (m_obj hm) rfl ?_
          refine a_aload_n (pc := 79) dX12_run_79 rfl rfl ?_
          refine a_getfield (pc := 80) kg_X12_139 dX12_run_80 (m_obj hm) rfl ?_
          refine a_topi (hn18) ?_
          refine a_iload_n (pc := 83) dX12_run_83 rfl rfl ?_
          refine a_iastore (pc := 84) dX12_run_84 (m_a13 hm) (_) (rfl) (by omega) (by omega) ?_
          refine a_hp (m_p13 hm) ?_
          refine a_aload_n (pc := 85) dX12_run_85 rfl rfl ?_
          refine a_getfield (pc := 86) kg_X12_48 dX12_run_86 (m_obj hm) rfl ?_
          refine a_aload_n (pc := 89) dX12_run_89 rfl rfl ?_
          refine a_getfield (pc := 90) kg_X12_139 dX12_run_90 (m_obj hm) rfl ?_
          refine a_topi (hn18) ?_
          refine a_iconst (pc := 93) dX12_run_93 ic_0 ?_
          refine a_iastore (pc := 94) dX12_run_94 (m_a16 hm) (_) (rfl) (by omega) (by omega) ?_
          refine a_hp (m_p16 hm) ?_
          refine a_aload_n (pc := 95) dX12_run_95 rfl rfl ?_
          refine a_getfield (pc := 96) kg_X12_51 dX12_run_96 (m_obj hm) rfl ?_
          refine a_aload_n (pc := 99) dX12_run_99 rfl rfl ?_
          refine a_getfield (pc := 100) kg_X12_139 dX12_run_100 (m_obj hm) rfl ?_
          refine a_topi (hn18) ?_
          refine a_iconst (pc := 103) dX12_run_103 ic_0 ?_
          refine a_iastore (pc := 104) dX12_run_104 (m_a17 hm) (_) (rfl) (by omega) (by omega) ?_
          refine a_hp (m_p17 hm) ?_
          refine a_bipush (pc := 105) dX12_run_105 ib_25 ?_
          refine a_aload_n (pc := 107) dX12_run_107 rfl rfl ?_
          refine a_getfield (pc := 108) kg_X12_139 dX12_run_108 (m_obj hm) rfl ?_
          refine a_topi (hn18) ?_
          refine a_imulN (pc := 111) dX12_run_111 ?_
          refine a_istore (pc := 112) dX12_run_112 (by decide) rfl ?_
          refine a_iconst (pc := 114) dX12_run_114 ic_0 ?_
          refine a_istore (pc := 115) dX12_run_115 (by decide) rfl ?_
          have outer : ∀ j q : Nat, 5 - q = j → q ≤ 5 →  AJ X M yX12_run cX12_run 7 (some .int) 117 [(0, .ref (m 65)), (1, .int (nI p)), (4, .int (nI (25 * vI s 18 + cumP s p q))), (5, .int (nI q))] [] (mh m (sa (sa (sa (sa (sa (sa (sa s 11 (upd (s.2.1 11) (vI s 18) (nI p))) 12 (upd (s.2.1 12) (vI s 18) g)) 13 (upd (s.2.1 13) (vI s 18) d)) 16 (upd (s.2.1 16) (vI s 18) (nI 0))) 17 (upd (s.2.1 17) (vI s 18) (nI 0))) 14 (fillO (fun i => nI (sgP s p i)) (s.2.1 14) (25 * vI s 18) (cumP s p q))) 15 (fillO (fun _ => nI 0) (s.2.1 15) (25 * vI s 18) (cumP s p q))) h0) 0 0 := by
            intro j
            induction j with
            | zero =>
              intro q hjk hkN
              refine a_iload (pc := 117) dX12_run_117 rfl ?_
              refine a_iconst (pc := 119) dX12_run_119 ic_5 ?_
              refine a_icmp_geN (pc := 120) (tgt := 174) dX12_run_120 (by decide) (by omega) (by omega) (fun c120 => ?_) (fun c120 => ?_)
              · have hq5 : q = 5 := by omega
                subst hq5
                rw [cumP_5 hps]
                refine a_aload_n (pc := 174) dX12_run_174 rfl rfl ?_
                refine a_dup (pc := 175) dX12_run_175 rfl ?_
                refine a_getfield (pc := 176) kg_X12_139 dX12_run_176 (m_obj hm) rfl ?_
                refine a_topi (hn18) ?_
                refine a_iconst (pc := 179) dX12_run_179 ic_1 ?_
                refine a_iaddN (pc := 180) dX12_run_180 ?_
                refine a_putfield (pc := 181) kf_X12_139 dX12_run_181 (m_obj hm) (rfl) (by rfl) (Nat.le_of_ble_eq_true rfl) ?_
                refine a_hp (m_p18 hm) ?_
                refine a_aload_n (pc := 184) dX12_run_184 rfl rfl ?_
                refine a_getfield (pc := 185) kg_X12_139 dX12_run_185 (m_obj hm) rfl ?_
                refine a_topi ((show _ = nI (vI s 18 + 1) from rfl)) ?_
                refine a_iconst (pc := 188) dX12_run_188 ic_1 ?_
                refine a_isubN (pc := 189) dX12_run_189 (by omega) ?_
                refine a_ret_i (pc := 190) hM rfl (rfl) dX12_run_190 (by omega) (by omega) ?_
                exact ⟨by rw [R_run, if_pos hcc, if_neg c49, Nat.add_sub_cancel], _, rfl, by rw [R_run, if_pos hcc, if_neg c49, ep]; exact SP.rfl⟩
              · exact absurd c120 (by omega)
            | succ j ih =>
              intro q hjk hkN
              refine a_iload (pc := 117) dX12_run_117 rfl ?_
              refine a_iconst (pc := 119) dX12_run_119 ic_5 ?_
              refine a_icmp_geN (pc := 120) (tgt := 174) dX12_run_120 (by decide) (by omega) (by omega) (fun c120 => ?_) (fun c120 => ?_)
              · exact absurd c120 (by omega)
              · have hpk := hpo q (by omega)
                have hpk2 : vA s 8 (5 * p + q) < 10 := hpk.2
                have hcl := cumP_le s p (g := q) (by omega)
                refine a_iconst (pc := 123) dX12_run_123 ic_0 ?_
                refine a_istore (pc := 124) dX12_run_124 (by decide) rfl ?_
                have inner : ∀ j2 t : Nat, vA s 8 (5 * p + q) - t = j2 → t ≤ vA s 8 (5 * p + q) →  AJ X M yX12_run cX12_run 7 (some .int) 126 [(0, .ref (m 65)), (1, .int (nI p)), (4, .int (nI (25 * vI s 18 + (cumP s p q + t)))), (5, .int (nI q)), (6, .int (nI t))] [] (mh m (sa (sa (sa (sa (sa (sa (sa s 11 (upd (s.2.1 11) (vI s 18) (nI p))) 12 (upd (s.2.1 12) (vI s 18) g)) 13 (upd (s.2.1 13) (vI s 18) d)) 16 (upd (s.2.1 16) (vI s 18) (nI 0))) 17 (upd (s.2.1 17) (vI s 18) (nI 0))) 14 (fillO (fun i => nI (sgP s p i)) (s.2.1 14) (25 * vI s 18) (cumP s p q + t))) 15 (fillO (fun _ => nI 0) (s.2.1 15) (25 * vI s 18) (cumP s p q + t))) h0) 0 0 := by
                  intro j2
                  induction j2 with
                  | zero =>
                    intro t hjk hkN
                    refine a_iload (pc := 126) dX12_run_126 rfl ?_
                    refine a_aload_n (pc := 128) dX12_run_128 rfl rfl ?_
                    refine a_getfield (pc := 129) kg_X12_27 dX12_run_129 (m_obj hm) rfl ?_
                    refine a_iconst (pc := 132) dX12_run_132 ic_5 ?_
                    refine a_iload_n (pc := 133) dX12_run_133 rfl rfl ?_
                    refine a_imulN (pc := 134) dX12_run_134 ?_
                    refine a_iload (pc := 135) dX12_run_135 rfl ?_
                    refine a_iaddN (pc := 137) dX12_run_137 ?_
                    refine a_iaload (pc := 138) dX12_run_138 (m_a8 hm) (_) (rfl) (by omega) (by omega) ?_
                    refine a_topi ((show _ = nI (vA s 8 (5 * p + q)) from hpk.1)) ?_
                    refine a_icmp_geN (pc := 139) (tgt := 168) dX12_run_139 (by decide) (by omega) (by omega) (fun c139 => ?_) (fun c139 => ?_)
                    · have htn : t = vA s 8 (5 * p + q) := by omega
                      subst htn
                      refine a_iincN (pc := 168) (n := 1) dX12_run_168 (by decide) rfl (by decide) rfl ?_
                      refine a_goto (pc := 171) (tgt := 117) dX12_run_171 (by decide) ?_
                      exact a_locR (ih (q + 1) (by omega) (by omega)) ⟨rfl, rfl, rfl, rfl, trivial⟩
                    · exact absurd c139 (by omega)
                  | succ j2 inih =>
                    intro t hjk hkN
                    refine a_iload (pc := 126) dX12_run_126 rfl ?_
                    refine a_aload_n (pc := 128) dX12_run_128 rfl rfl ?_
                    refine a_getfield (pc := 129) kg_X12_27 dX12_run_129 (m_obj hm) rfl ?_
                    refine a_iconst (pc := 132) dX12_run_132 ic_5 ?_
                    refine a_iload_n (pc := 133) dX12_run_133 rfl rfl ?_
                    refine a_imulN (pc := 134) dX12_run_134 ?_
                    refine a_iload (pc := 135) dX12_run_135 rfl ?_
                    refine a_iaddN (pc := 137) dX12_run_137 ?_
                    refine a_iaload (pc := 138) dX12_run_138 (m_a8 hm) (_) (rfl) (by omega) (by omega) ?_
                    refine a_topi ((show _ = nI (vA s 8 (5 * p + q)) from hpk.1)) ?_
                    refine a_icmp_geN (pc := 139) (tgt := 168) dX12_run_139 (by decide) (by omega) (by omega) (fun c139 => ?_) (fun c139 => ?_)
                    · exact absurd c139 (by omega)
                    · refine a_aload_n (pc := 142) dX12_run_142 rfl rfl ?_
                      refine a_getfield (pc := 143) kg_X12_42 dX12_run_143 (m_obj hm) rfl ?_
                      refine a_iload (pc := 146) dX12_run_146 rfl ?_
                      refine a_iload (pc := 148) dX12_run_148 rfl ?_
                      refine a_topi (congrArg nI (sgP_at s p (g := q) (t := t) (by omega) (by omega)).symm) ?_
                      refine a_iastore (pc := 150) dX12_run_150 (m_a14 hm) (_) (rfl) (by omega) (by omega) ?_
                      refine a_hp (m_p14 hm) ?_
                      refine a_hp (show _ = mh m (sa (sa (sa (sa (sa (sa (sa s 11 (upd (s.2.1 11) (vI s 18) (nI p))) 12 (upd (s.2.1 12) (vI s 18) g)) 13 (upd (s.2.1 13) (vI s 18) d)) 16 (upd (s.2.1 16) (vI s 18) (nI 0))) 17 (upd (s.2.1 17) (vI s 18) (nI 0))) 14 (fillO (fun i => nI (sgP s p i)) (s.2.1 14) (25 * vI s 18) (cumP s p q + t + 1))) 15 (fillO (fun _ => nI 0) (s.2.1 15) (25 * vI s 18) (cumP s p q + t))) h0 from congrArg (fun t => mh m t h0) ((sa_sw (by decide)).trans ((congrArg (fun z => sa z 15 (fillO (fun _ => nI 0) (s.2.1 15) (25 * vI s 18) (cumP s p q + t))) sa_sa).trans (congrArg (fun z => sa (sa (sa (sa (sa (sa (sa s 11 (upd (s.2.1 11) (vI s 18) (nI p))) 12 (upd (s.2.1 12) (vI s 18) g)) 13 (upd (s.2.1 13) (vI s 18) d)) 16 (upd (s.2.1 16) (vI s 18) (nI 0))) 17 (upd (s.2.1 17) (vI s 18) (nI 0))) 14 z) 15 (fillO (fun _ => nI 0) (s.2.1 15) (25 * vI s 18) (cumP s p q + t))) (fillO_s (f := fun i => nI (sgP s p i))))))) ?_
                      refine a_aload_n (pc := 151) dX12_run_151 rfl rfl ?_
                      refine a_getfield (pc := 152) kg_X12_45 dX12_run_152 (m_obj hm) rfl ?_
                      refine a_iload (pc := 155) dX12_run_155 rfl ?_
                      refine a_iconst (pc := 157) dX12_run_157 ic_0 ?_
                      refine a_iastore (pc := 158) dX12_run_158 (m_a15 hm) (_) (rfl) (by omega) (by omega) ?_
                      refine a_hp (m_p15 hm) ?_
                      refine a_hp (show _ = mh m (sa (sa (sa (sa (sa (sa (sa s 11 (upd (s.2.1 11) (vI s 18) (nI p))) 12 (upd (s.2.1 12) (vI s 18) g)) 13 (upd (s.2.1 13) (vI s 18) d)) 16 (upd (s.2.1 16) (vI s 18) (nI 0))) 17 (upd (s.2.1 17) (vI s 18) (nI 0))) 14 (fillO (fun i => nI (sgP s p i)) (s.2.1 14) (25 * vI s 18) (cumP s p q + t + 1))) 15 (fillO (fun _ => nI 0) (s.2.1 15) (25 * vI s 18) (cumP s p q + t + 1))) h0 from congrArg (fun t => mh m t h0) (sa_sa.trans (congrArg (sa _ 15) (fillO_s (f := fun _ => nI 0))))) ?_
                      refine a_iincN (pc := 159) (n := 1) dX12_run_159 (by decide) rfl (by decide) rfl ?_
                      refine a_iincN (pc := 162) (n := 1) dX12_run_162 (by decide) rfl (by decide) rfl ?_
                      refine a_goto (pc := 165) (tgt := 126) dX12_run_165 (by decide) ?_
                      exact a_locR (inih (t + 1) (by omega) (by omega)) ⟨rfl, rfl, rfl, rfl, rfl, trivial⟩
                exact a_locR (inner _ 0 rfl (Nat.zero_le _)) ⟨rfl, rfl, rfl, rfl, rfl, trivial⟩
          refine a_hp (show _ = mh m (sa (sa (sa (sa (sa (sa (sa s 11 (upd (s.2.1 11) (vI s 18) (nI p))) 12 (upd (s.2.1 12) (vI s 18) g)) 13 (upd (s.2.1 13) (vI s 18) d)) 16 (upd (s.2.1 16) (vI s 18) (nI 0))) 17 (upd (s.2.1 17) (vI s 18) (nI 0))) 14 (fillO (fun i => nI (sgP s p i)) (s.2.1 14) (25 * vI s 18) (cumP s p 0))) 15 (fillO (fun _ => nI 0) (s.2.1 15) (25 * vI s 18) (cumP s p 0))) h0 by rw [show cumP s p 0 = 0 from rfl, fillO_0, fillO_0]; exact congrArg (fun t => mh m t h0) ((sa_id (s := sa (sa (sa (sa (sa (sa s 11 (upd (s.2.1 11) (vI s 18) (nI p))) 12 (upd (s.2.1 12) (vI s 18) g)) 13 (upd (s.2.1 13) (vI s 18) d)) 16 (upd (s.2.1 16) (vI s 18) (nI 0))) 17 (upd (s.2.1 17) (vI s 18) (nI 0))) 14 (s.2.1 14)) (k := 15)).trans (sa_id (s := (sa (sa (sa (sa (sa s 11 (upd (s.2.1 11) (vI s 18) (nI p))) 12 (upd (s.2.1 12) (vI s 18) g)) 13 (upd (s.2.1 13) (vI s 18) d)) 16 (upd (s.2.1 16) (vI s 18) (nI 0))) 17 (upd (s.2.1 17) (vI s 18) (nI 0)))) (k := 14))).symm) ?_
          exact a_locR (outer _ 0 rfl (Nat.zero_le _)) ⟨rfl, rfl, rfl, rfl, trivial⟩
        · refine a_bipush (pc := 52) dX12_run_52 ib_m4 ?_
          refine a_ret_i (pc := 54) hM rfl (rfl) dX12_run_54 (by omega) (by omega) ?_
          exact ⟨by rw [R_run, if_pos hcc, if_pos c49], _, rfl, by rw [R_run, if_pos hcc, if_pos c49]; exact SP.rfl⟩
      · refine a_bipush (pc := 40) dX12_run_40 ib_m2 ?_
        refine a_ret_i (pc := 42) hM rfl (rfl) dX12_run_42 (by omega) (by omega) ?_
        exact ⟨by first | simp only [R_run, c13, c25, c37, Bool.and_self, Bool.and_true, Bool.true_and, Bool.and_false, Bool.false_and, Bool.false_eq_true, Nat.add_sub_cancel, reduceIte], _, rfl, by first | (simp only [R_run, c13, c25, c37, Bool.and_self, Bool.and_true, Bool.true_and, Bool.and_false, Bool.false_and, Bool.false_eq_true, Nat.add_sub_cancel, reduceIte]; exact SP.rfl)⟩

set_option maxRecDepth 4000 in
theorem f_runX (hm : MI m) (hV : MV s) (x g d : Int32) : Fn X 1 0 0 yX12_run cX12_run 7 (some .int) [.ref (m 65), .int x, .int g, .int d] (mh m s h0) (fun rv hv => rv = some (.int (R_run s x g d).1) ∧ hv = mh m (R_run s x g d).2 h0) := by
  obtain ⟨⟨hn18, hb18⟩, hl18⟩ := id hV.2.1
  obtain ⟨⟨hn10, hb10⟩, -⟩ := id hV.1
  refine fn_of (by decide) (Nat.le_of_ble_eq_true rfl) (fun M hM => ?_)
  refine a_iload_n (pc := 0) dX12_run_0 rfl rfl ?_
  refine a_i2l (pc := 1) dX12_run_1 ?_
  refine a_lconst (pc := 2) (v := lN 0) dX12_run_2 rfl ?_
  refine a_aload_n (pc := 3) dX12_run_3 rfl rfl ?_
  refine a_getfield (pc := 4) kg_X12_150 dX12_run_4 (m_obj hm) rfl ?_
  refine a_topi (hn10) ?_
  refine a_iconst (pc := 7) dX12_run_7 ic_1 ?_
  refine a_isub (pc := 8) dX12_run_8 ?_
  refine a_i2l (pc := 9) dX12_run_9 ?_
  refine a_callS (pc := 10) km_X12_142 dX12_run_10 (f_in _ _ _) rfl rfl (rok_of hM (by decide) (by decide) (by omega) (by omega)) (Nat.le_of_ble_eq_true rfl) (fun r10 h10 hp10 => ?_)
  obtain ⟨rfl, rfl⟩ := hp10
  refine a_topi (congrArg bI (in_rng (x := x) (n := vI s 10) (by omega))) ?_
  refine a_if_eqB (pc := 13) (tgt := 40) dX12_run_13 (by decide) (fun c13 => ?_) (fun c13 => ?_)
  · refine a_bipush (pc := 40) dX12_run_40 ib_m2 ?_
    refine a_ret_i (pc := 42) hM rfl (rfl) dX12_run_42 (by omega) (by omega) ?_
    exact ⟨by first | simp only [R_run, c13, Bool.and_self, Bool.and_true, Bool.true_and, Bool.and_false, Bool.false_and, Bool.false_eq_true, Nat.add_sub_cancel, reduceIte], congrArg (fun t => mh m t h0) (by first | (simp only [R_run, c13, Bool.and_self, Bool.and_true, Bool.true_and, Bool.and_false, Bool.false_and, Bool.false_eq_true, Nat.add_sub_cancel, reduceIte]))⟩
  · refine a_iload_n (pc := 16) dX12_run_16 rfl rfl ?_
    refine a_i2l (pc := 17) dX12_run_17 ?_
    refine a_lconst (pc := 18) (v := lN 0) dX12_run_18 rfl ?_
    refine a_ldc2 (pc := 19) kc_X12_153 dX12_run_19 ?_
    refine a_topl (z := lN 7) rfl ?_
    refine a_callS (pc := 22) km_X12_142 dX12_run_22 (f_in _ _ _) rfl rfl (rok_of hM (by decide) (by decide) (by omega) (by omega)) (Nat.le_of_ble_eq_true rfl) (fun r22 h22 hp22 => ?_)
    obtain ⟨rfl, rfl⟩ := hp22
    refine a_topi (congrArg bI (in_rng2 (x := g) (n := 8) (k := 7) (by omega) (by omega))) ?_
    refine a_if_eqB (pc := 25) (tgt := 40) dX12_run_25 (by decide) (fun c25 => ?_) (fun c25 => ?_)
    · refine a_bipush (pc := 40) dX12_run_40 ib_m2 ?_
      refine a_ret_i (pc := 42) hM rfl (rfl) dX12_run_42 (by omega) (by omega) ?_
      exact ⟨by first | simp only [R_run, c13, c25, Bool.and_self, Bool.and_true, Bool.true_and, Bool.and_false, Bool.false_and, Bool.false_eq_true, Nat.add_sub_cancel, reduceIte], congrArg (fun t => mh m t h0) (by first | (simp only [R_run, c13, c25, Bool.and_self, Bool.and_true, Bool.true_and, Bool.and_false, Bool.false_and, Bool.false_eq_true, Nat.add_sub_cancel, reduceIte]))⟩
    · refine a_iload_n (pc := 28) dX12_run_28 rfl rfl ?_
      refine a_i2l (pc := 29) dX12_run_29 ?_
      refine a_lconst (pc := 30) (v := lN 0) dX12_run_30 rfl ?_
      refine a_ldc2 (pc := 31) kc_X12_155 dX12_run_31 ?_
      refine a_topl (z := lN 99) rfl ?_
      refine a_callS (pc := 34) km_X12_142 dX12_run_34 (f_in _ _ _) rfl rfl (rok_of hM (by decide) (by decide) (by omega) (by omega)) (Nat.le_of_ble_eq_true rfl) (fun r34 h34 hp34 => ?_)
      obtain ⟨rfl, rfl⟩ := hp34
      refine a_topi (congrArg bI (in_rng2 (x := d) (n := 100) (k := 99) (by omega) (by omega))) ?_
      refine a_if_neB (pc := 37) (tgt := 43) dX12_run_37 (by decide) (fun c37 => ?_) (fun c37 => ?_)
      · obtain ⟨p, hp, rfl⟩ := inN_of c13 (by omega)
        have ep : (nI p).toNatClampNeg = p := nI_clamp (by omega)
        have hcc : (inN (nI p) (vI s 10) && inN g 8 && inN d 100) = true := by rw [c13, c25, c37]; rfl
        obtain ⟨hp9, hp1, hpo, hps⟩ := hV.1.2 p hp
        have hp92 : vA s 9 p < 26 := hp9.2
        have h5 := cumP_5 hps
        refine a_aload_n (pc := 43) dX12_run_43 rfl rfl ?_
        refine a_getfield (pc := 44) kg_X12_139 dX12_run_44 (m_obj hm) rfl ?_
        refine a_topi (hn18) ?_
        refine a_bipush (pc := 47) dX12_run_47 ib_16 ?_
        refine a_icmp_neN (pc := 49) (tgt := 55) dX12_run_49 (by decide) (by omega) (by omega) (fun c49 => ?_) (fun c49 => ?_)
        · refine a_aload_n (pc := 55) dX12_run_55 rfl rfl ?_
          refine a_getfield (pc := 56) kg_X12_33 dX12_run_56 (m_obj hm) rfl ?_
          refine a_aload_n (pc := 59) dX12_run_59 rfl rfl ?_
          refine a_getfield (pc := 60) kg_X12_139 dX12_run_60 (m_obj hm) rfl ?_
          refine a_topi (hn18) ?_
          refine a_iload_n (pc := 63) dX12_run_63 rfl rfl ?_
          refine a_iastore (pc := 64) dX12_run_64 (m_a11 hm) (_) (rfl) (by omega) (by omega) ?_
          refine a_hp (m_p11 hm) ?_
          refine a_aload_n (pc := 65) dX12_run_65 rfl rfl ?_
          refine a_getfield (pc := 66) kg_X12_36 dX12_run_66 (m_obj hm) rfl ?_
          refine a_aload_n (pc := 69) dX12_run_69 rfl rfl ?_
          refine a_getfield (pc := 70) kg_X12_139 dX12_run_70 (m_obj hm) rfl ?_
          refine a_topi (hn18) ?_
          refine a_iload_n (pc := 73) dX12_run_73 rfl rfl ?_
          refine a_iastore (pc := 74) dX12_run_74 (m_a12 hm) (_) (rfl) (by omega) (by omega) ?_
          refine a_hp (m_p12 hm) ?_
          refine a_aload_n (pc := 75) dX12_run_75 rfl rfl ?_
          refine a_getfield (pc := 76) kg_X12_39 dX12_run_76 (m_obj hm) rfl ?_
          refine a_aload_n (pc := 79) dX12_run_79 rfl rfl ?_
          refine a_getfield (pc := 80) kg_X12_139 dX12_run_80 (m_obj hm) rfl ?_
          refine a_topi (hn18) ?_
          refine a_iload_n (pc := 83) dX12_run_83 rfl rfl ?_
          refine a_iastore (pc := 84) dX12_run_84 (m_a13 hm) (_) (rfl) (by omega) (by omega) ?_
          refine a_hp (m_p13 hm) ?_
          refine a_aload_n (pc := 85) dX12_run_85 rfl rfl ?_
          refine a_getfield (pc := 86) kg_X12_48 dX12_run_86 (m_obj hm) rfl ?_
          refine a_aload_n (pc := 89) dX12_run_89 rfl rfl ?_
          refine a_getfield (pc := 90) kg_X12_139 dX12_run_90 (m_obj hm) rfl ?_
          refine a_topi (hn18) ?_
          refine a_iconst (pc := 93) dX12_run_93 ic_0 ?_
          refine a_iastore (pc := 94) dX12_run_94 (m_a16 hm) (_) (rfl) (by omega) (by omega) ?_
          refine a_hp (m_p16 hm) ?_
          refine a_aload_n (pc := 95) dX12_run_95 rfl rfl ?_
          refine a_getfield (pc := 96) kg_X12_51 dX12_run_96 (m_obj hm) rfl ?_
          refine a_aload_n (pc := 99) dX12_run_99 rfl rfl ?_
          refine a_getfield (pc := 100) kg_X12_139 dX12_run_100 (m_obj hm) rfl ?_
          refine a_topi (hn18) ?_
          refine a_iconst (pc := 103) dX12_run_103 ic_0 ?_
          refine a_iastore (pc := 104) dX12_run_104 (m_a17 hm) (_) (rfl) (by omega) (by omega) ?_
          refine a_hp (m_p17 hm) ?_
          refine a_bipush (pc := 105) dX12_run_105 ib_25 ?_
          refine a_aload_n (pc := 107) dX12_run_107 rfl rfl ?_
          refine a_getfield (pc := 108) kg_X12_139 dX12_run_108 (m_obj hm) rfl ?_
          refine a_topi (hn18) ?_
          refine a_imulN (pc := 111) dX12_run_111 ?_
          refine a_istore (pc := 112) dX12_run_112 (by decide) rfl ?_
          refine a_iconst (pc := 114) dX12_run_114 ic_0 ?_
          refine a_istore (pc := 115) dX12_run_115 (by decide) rfl ?_
          have outer : ∀ j q : Nat, 5 - q = j → q ≤ 5 →  AJ X M yX12_run cX12_run 7 (some .int) 117 [(0, .ref (m 65)), (1, .int (nI p)), (4, .int (nI (25 * vI s 18 + cumP s p q))), (5, .int (nI q))] [] (mh m (sa (sa (sa (sa (sa (sa (sa s 11 (upd (s.2.1 11) (vI s 18) (nI p))) 12 (upd (s.2.1 12) (vI s 18) g)) 13 (upd (s.2.1 13) (vI s 18) d)) 16 (upd (s.2.1 16) (vI s 18) (nI 0))) 17 (upd (s.2.1 17) (vI s 18) (nI 0))) 14 (fillO (fun i => nI (sgP s p i)) (s.2.1 14) (25 * vI s 18) (cumP s p q))) 15 (fillO (fun _ => nI 0) (s.2.1 15) (25 * vI s 18) (cumP s p q))) h0) 0 0 := by
            intro j
            induction j with
            | zero =>
              intro q hjk hkN
              refine a_iload (pc := 117) dX12_run_117 rfl ?_
              refine a_iconst (pc := 119) dX12_run_119 ic_5 ?_
              refine a_icmp_geN (pc := 120) (tgt := 174) dX12_run_120 (by decide) (by omega) (by omega) (fun c120 => ?_) (fun c120 => ?_)
              · have hq5 : q = 5 := by omega
                subst hq5
                rw [cumP_5 hps]
                refine a_aload_n (pc := 174) dX12_run_174 rfl rfl ?_
                refine a_dup (pc := 175) dX12_run_175 rfl ?_
                refine a_getfield (pc := 176) kg_X12_139 dX12_run_176 (m_obj hm) rfl ?_
                refine a_topi (hn18) ?_
                refine a_iconst (pc := 179) dX12_run_179 ic_1 ?_
                refine a_iaddN (pc := 180) dX12_run_180 ?_
                refine a_putfield (pc := 181) kf_X12_139 dX12_run_181 (m_obj hm) (rfl) (by rfl) (Nat.le_of_ble_eq_true rfl) ?_
                refine a_hp (m_p18 hm) ?_
                refine a_aload_n (pc := 184) dX12_run_184 rfl rfl ?_
                refine a_getfield (pc := 185) kg_X12_139 dX12_run_185 (m_obj hm) rfl ?_
                refine a_topi ((show _ = nI (vI s 18 + 1) from rfl)) ?_
                refine a_iconst (pc := 188) dX12_run_188 ic_1 ?_
                refine a_isubN (pc := 189) dX12_run_189 (by omega) ?_
                refine a_ret_i (pc := 190) hM rfl (rfl) dX12_run_190 (by omega) (by omega) ?_
                exact ⟨by rw [R_run, if_pos hcc, if_neg c49, Nat.add_sub_cancel], congrArg (fun t => mh m t h0) (by (rw [R_run, if_pos hcc, if_neg c49, ep]) <;> rfl)⟩
              · exact absurd c120 (by omega)
            | succ j ih =>
              intro q hjk hkN
              refine a_iload (pc := 117) dX12_run_117 rfl ?_
              refine a_iconst (pc := 119) dX12_run_119 ic_5 ?_
              refine a_icmp_geN (pc := 120) (tgt := 174) dX12_run_120 (by decide) (by omega) (by omega) (fun c120 => ?_) (fun c120 => ?_)
              · exact absurd c120 (by omega)
              · have hpk := hpo q (by omega)
                have hpk2 : vA s 8 (5 * p + q) < 10 := hpk.2
                have hcl := cumP_le s p (g := q) (by omega)
                refine a_iconst (pc := 123) dX12_run_123 ic_0 ?_
                refine a_istore (pc := 124) dX12_run_124 (by decide) rfl ?_
                have inner : ∀ j2 t : Nat, vA s 8 (5 * p + q) - t = j2 → t ≤ vA s 8 (5 * p + q) →  AJ X M yX12_run cX12_run 7 (some .int) 126 [(0, .ref (m 65)), (1, .int (nI p)), (4, .int (nI (25 * vI s 18 + (cumP s p q + t)))), (5, .int (nI q)), (6, .int (nI t))] [] (mh m (sa (sa (sa (sa (sa (sa (sa s 11 (upd (s.2.1 11) (vI s 18) (nI p))) 12 (upd (s.2.1 12) (vI s 18) g)) 13 (upd (s.2.1 13) (vI s 18) d)) 16 (upd (s.2.1 16) (vI s 18) (nI 0))) 17 (upd (s.2.1 17) (vI s 18) (nI 0))) 14 (fillO (fun i => nI (sgP s p i)) (s.2.1 14) (25 * vI s 18) (cumP s p q + t))) 15 (fillO (fun _ => nI 0) (s.2.1 15) (25 * vI s 18) (cumP s p q + t))) h0) 0 0 := by
                  intro j2
                  induction j2 with
                  | zero =>
                    intro t hjk hkN
                    refine a_iload (pc := 126) dX12_run_126 rfl ?_
                    refine a_aload_n (pc := 128) dX12_run_128 rfl rfl ?_
                    refine a_getfield (pc := 129) kg_X12_27 dX12_run_129 (m_obj hm) rfl ?_
                    refine a_iconst (pc := 132) dX12_run_132 ic_5 ?_
                    refine a_iload_n (pc := 133) dX12_run_133 rfl rfl ?_
                    refine a_imulN (pc := 134) dX12_run_134 ?_
                    refine a_iload (pc := 135) dX12_run_135 rfl ?_
                    refine a_iaddN (pc := 137) dX12_run_137 ?_
                    refine a_iaload (pc := 138) dX12_run_138 (m_a8 hm) (_) (rfl) (by omega) (by omega) ?_
                    refine a_topi ((show _ = nI (vA s 8 (5 * p + q)) from hpk.1)) ?_
                    refine a_icmp_geN (pc := 139) (tgt := 168) dX12_run_139 (by decide) (by omega) (by omega) (fun c139 => ?_) (fun c139 => ?_)
                    · have htn : t = vA s 8 (5 * p + q) := by omega
                      subst htn
                      refine a_iincN (pc := 168) (n := 1) dX12_run_168 (by decide) rfl (by decide) rfl ?_
                      refine a_goto (pc := 171) (tgt := 117) dX12_run_171 (by decide) ?_
                      exact a_locR (ih (q + 1) (by omega) (by omega)) ⟨rfl, rfl, rfl, rfl, trivial⟩
                    · exact absurd c139 (by omega)
                  | succ j2 inih =>
                    intro t hjk hkN
                    refine a_iload (pc := 126) dX12_run_126 rfl ?_
                    refine a_aload_n (pc := 128) dX12_run_128 rfl rfl ?_
                    refine a_getfield (pc := 129) kg_X12_27 dX12_run_129 (m_obj hm) rfl ?_
                    refine a_iconst (pc := 132) dX12_run_132 ic_5 ?_
                    refine a_iload_n (pc := 133) dX12_run_133 rfl rfl ?_
                    refine a_imulN (pc := 134) dX12_run_134 ?_
                    refine a_iload (pc := 135) dX12_run_135 rfl ?_
                    refine a_iaddN (pc := 137) dX12_run_137 ?_
                    refine a_iaload (pc := 138) dX12_run_138 (m_a8 hm) (_) (rfl) (by omega) (by omega) ?_
                    refine a_topi ((show _ = nI (vA s 8 (5 * p + q)) from hpk.1)) ?_
                    refine a_icmp_geN (pc := 139) (tgt := 168) dX12_run_139 (by decide) (by omega) (by omega) (fun c139 => ?_) (fun c139 => ?_)
                    · exact absurd c139 (by omega)
                    · refine a_aload_n (pc := 142) dX12_run_142 rfl rfl ?_
                      refine a_getfield (pc := 143) kg_X12_42 dX12_run_143 (m_obj hm) rfl ?_
                      refine a_iload (pc := 146) dX12_run_146 rfl ?_
                      refine a_iload (pc := 148) dX12_run_148 rfl ?_
                      refine a_topi (congrArg nI (sgP_at s p (g := q) (t := t) (by omega) (by omega)).symm) ?_
                      refine a_iastore (pc := 150) dX12_run_150 (m_a14 hm) (_) (rfl) (by omega) (by omega) ?_
                      refine a_hp (m_p14 hm) ?_
                      refine a_hp (show _ = mh m (sa (sa (sa (sa (sa (sa (sa s 11 (upd (s.2.1 11) (vI s 18) (nI p))) 12 (upd (s.2.1 12) (vI s 18) g)) 13 (upd (s.2.1 13) (vI s 18) d)) 16 (upd (s.2.1 16) (vI s 18) (nI 0))) 17 (upd (s.2.1 17) (vI s 18) (nI 0))) 14 (fillO (fun i => nI (sgP s p i)) (s.2.1 14) (25 * vI s 18) (cumP s p q + t + 1))) 15 (fillO (fun _ => nI 0) (s.2.1 15) (25 * vI s 18) (cumP s p q + t))) h0 from congrArg (fun t => mh m t h0) ((sa_sw (by decide)).trans ((congrArg (fun z => sa z 15 (fillO (fun _ => nI 0) (s.2.1 15) (25 * vI s 18) (cumP s p q + t))) sa_sa).trans (congrArg (fun z => sa (sa (sa (sa (sa (sa (sa s 11 (upd (s.2.1 11) (vI s 18) (nI p))) 12 (upd (s.2.1 12) (vI s 18) g)) 13 (upd (s.2.1 13) (vI s 18) d)) 16 (upd (s.2.1 16) (vI s 18) (nI 0))) 17 (upd (s.2.1 17) (vI s 18) (nI 0))) 14 z) 15 (fillO (fun _ => nI 0) (s.2.1 15) (25 * vI s 18) (cumP s p q + t))) (fillO_s (f := fun i => nI (sgP s p i))))))) ?_
                      refine a_aload_n (pc := 151) dX12_run_151 rfl rfl ?_
                      refine a_getfield (pc := 152) kg_X12_45 dX12_run_152 (m_obj hm) rfl ?_
                      refine a_iload (pc := 155) dX12_run_155 rfl ?_
                      refine a_iconst (pc := 157) dX12_run_157 ic_0 ?_
                      refine a_iastore (pc := 158) dX12_run_158 (m_a15 hm) (_) (rfl) (by omega) (by omega) ?_
                      refine a_hp (m_p15 hm) ?_
                      refine a_hp (show _ = mh m (sa (sa (sa (sa (sa (sa (sa s 11 (upd (s.2.1 11) (vI s 18) (nI p))) 12 (upd (s.2.1 12) (vI s 18) g)) 13 (upd (s.2.1 13) (vI s 18) d)) 16 (upd (s.2.1 16) (vI s 18) (nI 0))) 17 (upd (s.2.1 17) (vI s 18) (nI 0))) 14 (fillO (fun i => nI (sgP s p i)) (s.2.1 14) (25 * vI s 18) (cumP s p q + t + 1))) 15 (fillO (fun _ => nI 0) (s.2.1 15) (25 * vI s 18) (cumP s p q + t + 1))) h0 from congrArg (fun t => mh m t h0) (sa_sa.trans (congrArg (sa _ 15) (fillO_s (f := fun _ => nI 0))))) ?_
                      refine a_iincN (pc := 159) (n := 1) dX12_run_159 (by decide) rfl (by decide) rfl ?_
                      refine a_iincN (pc := 162) (n := 1) dX12_run_162 (by decide) rfl (by decide) rfl ?_
                      refine a_goto (pc := 165) (tgt := 126) dX12_run_165 (by decide) ?_
                      exact a_locR (inih (t + 1) (by omega) (by omega)) ⟨rfl, rfl, rfl, rfl, rfl, trivial⟩
                exact a_locR (inner _ 0 rfl (Nat.zero_le _)) ⟨rfl, rfl, rfl, rfl, rfl, trivial⟩
          refine a_hp (show _ = mh m (sa (sa (sa (sa (sa (sa (sa s 11 (upd (s.2.1 11) (vI s 18) (nI p))) 12 (upd (s.2.1 12) (vI s 18) g)) 13 (upd (s.2.1 13) (vI s 18) d)) 16 (upd (s.2.1 16) (vI s 18) (nI 0))) 17 (upd (s.2.1 17) (vI s 18) (nI 0))) 14 (fillO (fun i => nI (sgP s p i)) (s.2.1 14) (25 * vI s 18) (cumP s p 0))) 15 (fillO (fun _ => nI 0) (s.2.1 15) (25 * vI s 18) (cumP s p 0))) h0 by rw [show cumP s p 0 = 0 from rfl, fillO_0, fillO_0]; exact congrArg (fun t => mh m t h0) ((sa_id (s := sa (sa (sa (sa (sa (sa s 11 (upd (s.2.1 11) (vI s 18) (nI p))) 12 (upd (s.2.1 12) (vI s 18) g)) 13 (upd (s.2.1 13) (vI s 18) d)) 16 (upd (s.2.1 16) (vI s 18) (nI 0))) 17 (upd (s.2.1 17) (vI s 18) (nI 0))) 14 (s.2.1 14)) (k := 15)).trans (sa_id (s := (sa (sa (sa (sa (sa s 11 (upd (s.2.1 11) (vI s 18) (nI p))) 12 (upd (s.2.1 12) (vI s 18) g)) 13 (upd (s.2.1 13) (vI s 18) d)) 16 (upd (s.2.1 16) (vI s 18) (nI 0))) 17 (upd (s.2.1 17) (vI s 18) (nI 0)))) (k := 14))).symm) ?_
          exact a_locR (outer _ 0 rfl (Nat.zero_le _)) ⟨rfl, rfl, rfl, rfl, trivial⟩
        · refine a_bipush (pc := 52) dX12_run_52 ib_m4 ?_
          refine a_ret_i (pc := 54) hM rfl (rfl) dX12_run_54 (by omega) (by omega) ?_
          exact ⟨by rw [R_run, if_pos hcc, if_pos c49], congrArg (fun t => mh m t h0) (by (rw [R_run, if_pos hcc, if_pos c49]) <;> rfl)⟩
      · refine a_bipush (pc := 40) dX12_run_40 ib_m2 ?_
        refine a_ret_i (pc := 42) hM rfl (rfl) dX12_run_42 (by omega) (by omega) ?_
        exact ⟨by first | simp only [R_run, c13, c25, c37, Bool.and_self, Bool.and_true, Bool.true_and, Bool.and_false, Bool.false_and, Bool.false_eq_true, Nat.add_sub_cancel, reduceIte], congrArg (fun t => mh m t h0) (by first | (simp only [R_run, c13, c25, c37, Bool.and_self, Bool.and_true, Bool.true_and, Bool.and_false, Bool.false_and, Bool.false_eq_true, Nat.add_sub_cancel, reduceIte]))⟩

theorem cntN_cg {p q : Nat → Bool} {n : Nat} (h : ∀ i, i < n → p i = q i) : cntN p n = cntN q n := by
  induction n with
  | zero => rfl
  | succ n ih =>
    unfold cntN
    rw [ih (fun i hi => h i (by omega)), h n (by omega)]
theorem cntN_add (p : Nat → Bool) (a b : Nat) : cntN p (a + b) = cntN p a + cntN (fun i => p (a + i)) b := by
  induction b with
  | zero => rfl
  | succ b ih =>
    show cntN p (a + b) + _ = cntN p a + (cntN (fun i => p (a + i)) b + _)
    rw [ih, Nat.add_assoc]
    rfl
theorem cntN_all {p : Nat → Bool} {n : Nat} (h : ∀ i, i < n → p i = true) : cntN p n = n := by
  induction n with
  | zero => rfl
  | succ n ih => rw [cntN_t (h n (by omega)), ih (fun i hi => h i (by omega))]
theorem cntN_none {p : Nat → Bool} {n : Nat} (h : ∀ i, i < n → p i = false) : cntN p n = 0 := by
  induction n with
  | zero => rfl
  | succ n ih => rw [cntN_f (h n (by omega)), ih (fun i hi => h i (by omega))]
theorem sgP_cnt (s : MST) (p g k : Nat) (hk : k ≤ 5) : cntN (fun i => decide (sgP s p i = g)) (cumP s p k) = if g < k then vA s 8 (5 * p + g) else 0 := by
  induction k with
  | zero => rfl
  | succ k ih =>
    rw [cumP_s, cntN_add, ih (by omega)]
    by_cases hg : g = k
    · subst hg
      rw [if_neg (Nat.lt_irrefl g), if_pos (Nat.lt_succ_self g), Nat.zero_add]
      exact cntN_all (fun i hi => decide_eq_true (sgP_at s p (by omega) hi))
    · rw [cntN_none (fun i hi => decide_eq_false (by rw [sgP_at s p (by omega) hi]; exact fun z => hg z.symm)), Nat.add_zero]
      by_cases h2 : g < k
      · rw [if_pos h2, if_pos (by omega)]
      · rw [if_neg h2, if_neg (by omega)]
theorem sgP_lt (s : MST) (p i : Nat) : sgP s p i < 5 := by
  unfold sgP
  (repeat' split) <;> omega
theorem nI_dec {a b : Nat} (ha : a < 2147483648) (hb : b < 2147483648) : decide (nI a = nI b) = decide (a = b) := by
  rw [Bool.eq_iff_iff, decide_eq_true_eq, decide_eq_true_eq]
  refine ⟨fun z => ?_, fun z => z ▸ rfl⟩
  have e := congrArg Int32.toNatClampNeg z
  rw [nI_clamp ha, nI_clamp hb] at e
  exact e
theorem okV_in {x : Int32} {n : Nat} (h : inN x n = true) (hn : n < 2147483648) : okV x n := by
  obtain ⟨j, hj, rfl⟩ := inN_of h hn
  exact okV_of hj (by omega)
theorem okV_up {x : Int32} {a b : Nat} (h : okV x a) (hab : a ≤ b) : okV x b := ⟨h.1, Nat.lt_of_lt_of_le h.2 hab⟩
/-- the run's arrays before a place -/
theorem N_run_rsz {s : MST} (p : Nat) (g d : Int32) {r : Nat} (hr : r < vI s 18) : rsz (N_run s p g d) r = rsz s r := by
  show vA s 9 (upd (s.2.1 11) (vI s 18) (nI p) r).toNatClampNeg = _
  rw [pk_un (by omega)]
  rfl
theorem N_run_rszn {s : MST} (p : Nat) (g d : Int32) (hp : p < 4) : rsz (N_run s p g d) (vI s 18) = vA s 9 p := by
  show vA s 9 (upd (s.2.1 11) (vI s 18) (nI p) (vI s 18)).toNatClampNeg = _
  rw [pk_us, nI_clamp (by omega)]
theorem N_run_18 {s : MST} (p : Nat) (g d : Int32) (h : vI s 18 ≤ 16) : vI (N_run s p g d) 18 = vI s 18 + 1 := by
  show (nI (vI s 18 + 1)).toNatClampNeg = _
  exact nI_clamp (by omega)
theorem MV_run1 {s : MST} (hV : MV s) {p : Nat} {g d : Int32} (hp : p < vI s 10) (hg : inN g 8 = true) (hd : inN d 100 = true) (h16 : ¬ vI s 18 = 16) : MV (N_run s p g d) := by
  have h18 : vI s 18 ≤ 16 := hV.2.1.1.2
  have h10 : vI s 10 ≤ 4 := hV.1.1.2
  obtain ⟨hp9, hp1, hpo, hps⟩ := hV.1.2 p hp
  have hp92 : vA s 9 p < 26 := hp9.2
  have h5 := cumP_5 hps
  have e18 := N_run_18 (s := s) p g d h18
  have en := N_run_rszn (s := s) p g d (by omega)
  refine ⟨hV.1, ⟨⟨by rw [e18]; rfl, by rw [e18]; omega⟩, ?_⟩, hV.2.2.1, hV.2.2.2.1, ⟨hV.2.2.2.2.1.1, ?_⟩, hV.2.2.2.2.2⟩
  · intro r hr
    rw [e18] at hr
    by_cases hrn : r = vI s 18
    · subst hrn
      refine ⟨?_, ?_, ?_, ?_, ?_, ?_⟩
      · show okV (upd (s.2.1 11) (vI s 18) (nI p) (vI s 18)) (vI s 10)
        rw [pk_us]
        exact okV_of hp (by omega)
      · show okV (upd (s.2.1 12) (vI s 18) g (vI s 18)) 8
        rw [pk_us]
        exact okV_in hg (by decide)
      · show okV (upd (s.2.1 13) (vI s 18) d (vI s 18)) 100
        rw [pk_us]
        exact okV_in hd (by decide)
      · intro i hi
        rw [en] at hi
        show okV (fillO (fun i => nI (sgP s p i)) (s.2.1 14) (25 * vI s 18) (vA s 9 p) (25 * vI s 18 + i)) 5
        rw [fillO_in (by omega) (by omega), Nat.add_sub_cancel_left]
        have h := sgP_lt s p i
        exact okV_of h (by omega)
      · intro i hi
        rw [en] at hi
        show okV (fillO (fun _ => nI 0) (s.2.1 15) (25 * vI s 18) (vA s 9 p) (25 * vI s 18 + i)) 5
        rw [fillO_in (by omega) (by omega)]
        exact okV_of (by decide) (by decide)
      · intro k hk
        rw [en]
        show cntN (fun i => decide (fillO (fun i => nI (sgP s p i)) (s.2.1 14) (25 * vI s 18) (vA s 9 p) (25 * vI s 18 + i) = nI k)) (vA s 9 p) = vA s 8 (5 * (upd (s.2.1 11) (vI s 18) (nI p) (vI s 18)).toNatClampNeg + k)
        rw [pk_us, nI_clamp (by omega), ← h5]
        rw [cntN_cg (q := fun i => decide (sgP s p i = k)) ?_, sgP_cnt s p k 5 (by omega), if_pos hk]
        intro i hi
        have h := sgP_lt s p i
        show decide (_ = _) = decide (_ = _)
        rw [fillO_in (by omega) (by omega), Nat.add_sub_cancel_left, nI_dec (by omega) (by omega)]
    · have hr2 : r < vI s 18 := by omega
      obtain ⟨a1, a2, a3, a4, a5, a6⟩ := hV.2.1.2 r hr2
      have er := N_run_rsz (s := s) p g d hr2
      have hz := (MV_run hV hr2).2.2.2
      refine ⟨?_, ?_, ?_, ?_, ?_, ?_⟩
      · show okV (upd (s.2.1 11) (vI s 18) (nI p) r) (vI s 10)
        rw [pk_un hrn]
        exact a1
      · show okV (upd (s.2.1 12) (vI s 18) g r) 8
        rw [pk_un hrn]
        exact a2
      · show okV (upd (s.2.1 13) (vI s 18) d r) 100
        rw [pk_un hrn]
        exact a3
      · intro i hi
        rw [er] at hi
        show okV (fillO (fun i => nI (sgP s p i)) (s.2.1 14) (25 * vI s 18) (vA s 9 p) (25 * r + i)) 5
        rw [fillO_out (by omega)]
        exact a4 i hi
      · intro i hi
        rw [er] at hi
        show okV (fillO (fun _ => nI 0) (s.2.1 15) (25 * vI s 18) (vA s 9 p) (25 * r + i)) 5
        rw [fillO_out (by omega)]
        exact a5 i hi
      · intro k hk
        rw [er]
        show cntN (fun i => decide (fillO (fun i => nI (sgP s p i)) (s.2.1 14) (25 * vI s 18) (vA s 9 p) (25 * r + i) = nI k)) (rsz s r) = vA s 8 (5 * (upd (s.2.1 11) (vI s 18) (nI p) r).toNatClampNeg + k)
        rw [pk_un hrn]
        refine Eq.trans (cntN_cg fun i hi => ?_) (a6 k hk)
        show decide (_ = _) = decide (_ = _)
        rw [fillO_out (by omega)]
  · intro h1
    obtain ⟨b1, b2, b3, b4, b5⟩ := hV.2.2.2.2.1.2 h1
    have b12 : vI s 58 ≤ vI s 18 := b1.2
    refine ⟨⟨b1.1, by rw [e18]; exact Nat.le_succ_of_le b12⟩, b2, b3, b4, ?_⟩
    intro r hr
    have hr0 : r < vI s 58 := hr
    have hr2 : r < vI s 18 := by omega
    have er := N_run_rsz (s := s) p g d hr2
    obtain ⟨c1, c2, c3⟩ := b5 r hr0
    refine ⟨?_, ?_, ?_⟩
    · intro i hi
      rw [er] at hi
      exact c1 i hi
    · intro i hi
      rw [er] at hi
      exact c2 i hi
    · intro k hk
      rw [er]
      have h := c3 k hk
      show _ = vA s 8 (5 * (upd (s.2.1 11) (vI s 18) (nI p) r).toNatClampNeg + k)
      rw [pk_un (by omega)]
      exact h
theorem MV_R_run {s : MST} (hV : MV s) (x g d : Int32) : MV (R_run s x g d).2 := by
  unfold R_run
  split
  · rename_i h
    simp only [Bool.and_eq_true] at h
    split
    · exact hV
    · rename_i h16
      have h10 : vI s 10 ≤ 4 := hV.1.1.2
      obtain ⟨p, hp, e⟩ := inN_of h.1.1 (by omega)
      rw [e, nI_clamp (by omega)]
      exact MV_run1 hV hp h.1.2 h.2 h16
  · exact hV
theorem nn_of {x : Int32} (h : ¬ x < 0) : ∃ b : Nat, b < 2147483648 ∧ x = nI b := by
  have e0 : (0 : Int32).toInt = 0 := by decide
  have l1 := Int32.toInt_lt x
  rw [Int32.lt_iff_toInt_lt, e0] at h
  refine ⟨x.toInt.toNat, by omega, ?_⟩
  apply Int32.toInt_inj.mp
  rw [nI_toInt (by omega)]
  omega
def runsT (u : MST) (j : Nat) : Int32 × MST := R_run u (u.2.1 64 j) (u.2.1 64 (j + 1)) (u.2.1 64 (j + 2))
def runsS (s : MST) (q b : Nat) : Nat → Nat × MST
  | 0 => (0, s)
  | k + 1 => ((runsS s q b k).1 + (if (runsT (runsS s q b k).2 (40 * q + b + 3 * k)).1 < 0 then 0 else 1), (runsT (runsS s q b k).2 (40 * q + b + 3 * k)).2)
theorem runsS_s (s : MST) (q b k : Nat) : (runsS s q b (k + 1)).1 = (runsS s q b k).1 + (if (runsT (runsS s q b k).2 (40 * q + b + 3 * k)).1 < 0 then 0 else 1) := rfl
theorem runsS_le (s : MST) (q b k : Nat) : (runsS s q b k).1 ≤ k := by
  induction k with
  | zero => exact Nat.le_refl 0
  | succ k ih =>
    rw [runsS_s]
    split <;> omega
theorem R_run_63 (s : MST) (x g d : Int32) : (R_run s x g d).2.2.1 63 = s.2.1 63 := by
  unfold R_run
  split
  · split <;> rfl
  · rfl
theorem runsS_63 (s : MST) (q b k : Nat) : (runsS s q b k).2.2.1 63 = s.2.1 63 := by
  induction k with
  | zero => rfl
  | succ k ih => exact (R_run_63 _ _ _ _).trans ih
theorem MV_runsS {s : MST} (hV : MV s) (q b k : Nat) : MV (runsS s q b k).2 := by
  induction k with
  | zero => exact hV
  | succ k ih => exact MV_R_run ih _ _ _
theorem runs_le {b z k : Nat} (hb : b < 2147483648) (hz : z ≤ 40) (hk : k ≤ 12) : nI b ≤ nI z - nI (3 * k) - nI 3 ↔ b + 3 * k + 3 ≤ z := by
  have e1 : (nI z - nI (3 * k)).toInt = (z : Int) - ((3 * k : Nat) : Int) := by
    rw [Int32.toInt_sub, nI_toInt (by omega), nI_toInt (by omega)]
    exact Int.bmod_eq_of_le (by omega) (by omega)
  have e2 : (nI z - nI (3 * k) - nI 3).toInt = (z : Int) - ((3 * k : Nat) : Int) - 3 := by
    rw [Int32.toInt_sub, e1, nI_toInt (by omega)]
    exact Int.bmod_eq_of_le (by omega) (by omega)
  rw [Int32.le_iff_toInt_le, e2, nI_toInt hb]
  omega
def R_runs (s : MST) (x so at_ n : Int32) : Int32 × MST := if (inN x 4 && inN so 3 && inN n 13) = true then
    (if s.2.1 61 x.toNatClampNeg = 0 then (-11, s) else if s.2.1 62 x.toNatClampNeg = so then
      (if n.toNatClampNeg = 0 then (nI 0, s) else if at_ < 0 then (-12, s)
       else if at_.toNatClampNeg + 3 * n.toNatClampNeg ≤ vA s 63 x.toNatClampNeg then (nI (runsS s x.toNatClampNeg at_.toNatClampNeg n.toNatClampNeg).1, (runsS s x.toNatClampNeg at_.toNatClampNeg n.toNatClampNeg).2)
       else (-12, (runsS s x.toNatClampNeg at_.toNatClampNeg ((vA s 63 x.toNatClampNeg - at_.toNatClampNeg) / 3)).2))
     else (-13, s)) else (-2, s)
set_option maxRecDepth 4000 in
theorem f_runs (hm : MI m) (hV : MV s) (x so at_ n : Int32) : Fn X 2 0 0 yX12_runs cX12_runs 8 (some .int) [.ref (m 65), .int x, .int so, .int at_, .int n] (mh m s h0) (fun rv hv => rv = some (.int (R_runs s x so at_ n).1) ∧ ∃ s' : MST, hv = mh m s' h0 ∧ SP s' (R_runs s x so at_ n).2) := by
  refine fn_of (by decide) (Nat.le_of_ble_eq_true rfl) (fun M hM => ?_)
  refine a_iload_n (pc := 0) dX12_runs_0 rfl rfl ?_
  refine a_callS (pc := 1) km_X12_165 dX12_runs_1 (f_isSheet _) rfl rfl (rok_of hM (by decide) (by decide) (by omega) (by omega)) (Nat.le_of_ble_eq_true rfl) (fun r1 h1 hp1 => ?_)
  obtain ⟨rfl, rfl⟩ := hp1
  refine a_if_eqB (pc := 4) (tgt := 32) dX12_runs_4 (by decide) (fun c4 => ?_) (fun c4 => ?_)
  · refine a_bipush (pc := 32) dX12_runs_32 ib_m2 ?_
    refine a_ret_i (pc := 34) hM rfl (rfl) dX12_runs_34 (by omega) (by omega) ?_
    exact ⟨by rw [R_runs, if_neg (by simp [c4])], _, rfl, by rw [R_runs, if_neg (by simp [c4])]; exact SP.rfl⟩
  · obtain ⟨q, hq, rfl⟩ := inN_of c4 (by omega)
    have eq : (nI q).toNatClampNeg = q := nI_clamp (by omega)
    refine a_iload_n (pc := 7) dX12_runs_7 rfl rfl ?_
    refine a_i2l (pc := 8) dX12_runs_8 ?_
    refine a_lconst (pc := 9) (v := lN 0) dX12_runs_9 rfl ?_
    refine a_ldc2 (pc := 10) kc_X12_432 dX12_runs_10 ?_
    refine a_topl (z := lN 2) rfl ?_
    refine a_callS (pc := 13) km_X12_142 dX12_runs_13 (f_in _ _ _) rfl rfl (rok_of hM (by decide) (by decide) (by omega) (by omega)) (Nat.le_of_ble_eq_true rfl) (fun r13 h13 hp13 => ?_)
    obtain ⟨rfl, rfl⟩ := hp13
    refine a_topi (congrArg bI (in_rng2 (x := so) (n := 3) (k := 2) (by omega) (by omega))) ?_
    refine a_if_eqB (pc := 16) (tgt := 32) dX12_runs_16 (by decide) (fun c16 => ?_) (fun c16 => ?_)
    · refine a_bipush (pc := 32) dX12_runs_32 ib_m2 ?_
      refine a_ret_i (pc := 34) hM rfl (rfl) dX12_runs_34 (by omega) (by omega) ?_
      exact ⟨by rw [R_runs, if_neg (by simp [c4, c16])], _, rfl, by rw [R_runs, if_neg (by simp [c4, c16])]; exact SP.rfl⟩
    · refine a_iload (pc := 19) dX12_runs_19 rfl ?_
      refine a_i2l (pc := 21) dX12_runs_21 ?_
      refine a_lconst (pc := 22) (v := lN 0) dX12_runs_22 rfl ?_
      refine a_ldc2 (pc := 23) kc_X12_434 dX12_runs_23 ?_
      refine a_topl (z := lN 12) rfl ?_
      refine a_callS (pc := 26) km_X12_142 dX12_runs_26 (f_in _ _ _) rfl rfl (rok_of hM (by decide) (by decide) (by omega) (by omega)) (Nat.le_of_ble_eq_true rfl) (fun r26 h26 hp26 => ?_)
      obtain ⟨rfl, rfl⟩ := hp26
      refine a_topi (congrArg bI (in_rng2 (x := n) (n := 13) (k := 12) (by omega) (by omega))) ?_
      refine a_if_neB (pc := 29) (tgt := 35) dX12_runs_29 (by decide) (fun c29 => ?_) (fun c29 => ?_)
      · obtain ⟨n, hn, rfl⟩ := inN_of c29 (by omega)
        have en : (nI n).toNatClampNeg = n := nI_clamp (by omega)
        have hcc : (inN (nI q) 4 && inN so 3 && inN (nI n) 13) = true := by rw [c4, c16, c29]; rfl
        refine a_aload_n (pc := 35) dX12_runs_35 rfl rfl ?_
        refine a_getfield (pc := 36) kg_X12_105 dX12_runs_36 (m_obj hm) rfl ?_
        refine a_iload_n (pc := 39) dX12_runs_39 rfl rfl ?_
        refine a_baload (pc := 40) dX12_runs_40 (m_a61 hm) (_) (rfl) (by omega) (by omega) ?_
        refine a_if_eq (pc := 41) (tgt := 57) dX12_runs_41 (by decide) (fun c41 => ?_) (fun c41 => ?_)
        · refine a_aload_n (pc := 57) dX12_runs_57 rfl rfl ?_
          refine a_getfield (pc := 58) kg_X12_105 dX12_runs_58 (m_obj hm) rfl ?_
          refine a_iload_n (pc := 61) dX12_runs_61 rfl rfl ?_
          refine a_baload (pc := 62) dX12_runs_62 (m_a61 hm) (_) (rfl) (by omega) (by omega) ?_
          refine a_if_ne (pc := 63) (tgt := 69) dX12_runs_63 (by decide) (fun c63 => ?_) (fun c63 => ?_)
          · exact absurd c41 c63
          · refine a_bipush (pc := 66) dX12_runs_66 ib_m11 ?_
            refine a_ret_i (pc := 68) hM rfl (rfl) dX12_runs_68 (by omega) (by omega) ?_
            exact ⟨by rw [R_runs, if_pos hcc, eq, if_pos c41], _, rfl, by rw [R_runs, if_pos hcc, eq, if_pos c41]; exact SP.rfl⟩
        · refine a_aload_n (pc := 44) dX12_runs_44 rfl rfl ?_
          refine a_getfield (pc := 45) kg_X12_109 dX12_runs_45 (m_obj hm) rfl ?_
          refine a_iload_n (pc := 48) dX12_runs_48 rfl rfl ?_
          refine a_iaload (pc := 49) dX12_runs_49 (m_a62 hm) (_) (rfl) (by omega) (by omega) ?_
          refine a_iload_n (pc := 50) dX12_runs_50 rfl rfl ?_
          refine a_icmp_eq (pc := 51) (tgt := 57) dX12_runs_51 (by decide) (fun c51 => ?_) (fun c51 => ?_)
          · have hso : s.2.1 62 q = so := c51
            refine a_aload_n (pc := 57) dX12_runs_57 rfl rfl ?_
            refine a_getfield (pc := 58) kg_X12_105 dX12_runs_58 (m_obj hm) rfl ?_
            refine a_iload_n (pc := 61) dX12_runs_61 rfl rfl ?_
            refine a_baload (pc := 62) dX12_runs_62 (m_a61 hm) (_) (rfl) (by omega) (by omega) ?_
            refine a_if_ne (pc := 63) (tgt := 69) dX12_runs_63 (by decide) (fun c63 => ?_) (fun c63 => ?_)
            · have hth : ¬ s.2.1 61 q = 0 := c41
              obtain ⟨-, -, hs3, hs4⟩ := MV_there hV hq c41
              by_cases hat : at_ < 0
              · refine a_iconst (pc := 69) dX12_runs_69 ic_0 ?_
                refine a_istore (pc := 70) dX12_runs_70 (by decide) rfl ?_
                refine a_iconst (pc := 72) dX12_runs_72 ic_0 ?_
                refine a_istore (pc := 73) dX12_runs_73 (by decide) rfl ?_
                refine a_iload (pc := 75) dX12_runs_75 rfl ?_
                refine a_iload (pc := 77) dX12_runs_77 rfl ?_
                refine a_icmp_geN (pc := 79) (tgt := 167) dX12_runs_79 (by decide) (by omega) (by omega) (fun c79 => ?_) (fun c79 => ?_)
                · refine a_iload (pc := 167) dX12_runs_167 rfl ?_
                  refine a_ret_i (pc := 169) hM rfl (rfl) dX12_runs_169 (by omega) (by omega) ?_
                  exact ⟨by rw [R_runs, if_pos hcc, eq, en, if_neg hth, if_pos hso, if_pos (by omega)], _, rfl, by rw [R_runs, if_pos hcc, eq, en, if_neg hth, if_pos hso, if_pos (by omega)]; exact SP.rfl⟩
                · refine a_iload_n (pc := 82) dX12_runs_82 rfl rfl ?_
                  refine a_if_lt_t (pc := 83) (tgt := 103) dX12_runs_83 (by decide) (hat) ?_
                  refine a_bipush (pc := 103) dX12_runs_103 ib_m12 ?_
                  refine a_ret_i (pc := 105) hM rfl (rfl) dX12_runs_105 (by omega) (by omega) ?_
                  exact ⟨by rw [R_runs, if_pos hcc, eq, en, if_neg hth, if_pos hso, if_neg (by omega), if_pos hat], _, rfl, by rw [R_runs, if_pos hcc, eq, en, if_neg hth, if_pos hso, if_neg (by omega), if_pos hat]; exact SP.rfl⟩
              · obtain ⟨b, hb, rfl⟩ := nn_of hat
                have eb : (nI b).toNatClampNeg = b := nI_clamp (by omega)
                refine a_iconst (pc := 69) dX12_runs_69 ic_0 ?_
                refine a_istore (pc := 70) dX12_runs_70 (by decide) rfl ?_
                refine a_iconst (pc := 72) dX12_runs_72 ic_0 ?_
                refine a_istore (pc := 73) dX12_runs_73 (by decide) rfl ?_
                have loop : ∀ j k : Nat, n - k = j → k ≤ n → k = 0 ∨ b + 3 * k ≤ vA s 63 q → AJ X M yX12_runs cX12_runs 8 (some .int) 75 [(0, .ref (m 65)), (1, .int (nI q)), (3, .int (nI b)), (4, .int (nI n)), (5, .int (nI (runsS s q b k).1)), (6, .int (nI k))] [] (mh m (runsS s q b k).2 h0) 0 0 := by
                  intro j
                  induction j with
                  | zero =>
                    intro k hjk hkN hfit
                    refine a_iload (pc := 75) dX12_runs_75 rfl ?_
                    refine a_iload (pc := 77) dX12_runs_77 rfl ?_
                    refine a_icmp_geN (pc := 79) (tgt := 167) dX12_runs_79 (by decide) (by omega) (by omega) (fun c79 => ?_) (fun c79 => ?_)
                    · have hkn : k = n := by omega
                      subst hkn
                      have hR : R_runs s (nI q) so (nI b) (nI k) = (nI (runsS s q b k).1, (runsS s q b k).2) := by
                        rw [R_runs, if_pos hcc, eq, eb, en, if_neg hth, if_pos hso]
                        by_cases h0k : k = 0
                        · rw [if_pos h0k]; subst h0k; rfl
                        · rw [if_neg h0k, if_neg hat, if_pos (by omega)]
                      refine a_iload (pc := 167) dX12_runs_167 rfl ?_
                      refine a_ret_i (pc := 169) hM rfl (rfl) dX12_runs_169 (by omega) (by omega) ?_
                      exact ⟨by rw [hR], _, rfl, by rw [hR]; exact SP.rfl⟩
                    · exact absurd c79 (by omega)
                  | succ j ih =>
                    intro k hjk hkN hfit
                    refine a_iload (pc := 75) dX12_runs_75 rfl ?_
                    refine a_iload (pc := 77) dX12_runs_77 rfl ?_
                    refine a_icmp_geN (pc := 79) (tgt := 167) dX12_runs_79 (by decide) (by omega) (by omega) (fun c79 => ?_) (fun c79 => ?_)
                    · exact absurd c79 (by omega)
                    · refine a_iload_n (pc := 82) dX12_runs_82 rfl rfl ?_
                      refine a_if_lt_f (pc := 83) (tgt := 103) dX12_runs_83 (by decide) (hat) ?_
                      refine a_iload_n (pc := 86) dX12_runs_86 rfl rfl ?_
                      refine a_aload_n (pc := 87) dX12_runs_87 rfl rfl ?_
                      refine a_getfield (pc := 88) kg_X12_112 dX12_runs_88 (m_obj hm) rfl ?_
                      refine a_iload_n (pc := 91) dX12_runs_91 rfl rfl ?_
                      refine a_iaload (pc := 92) dX12_runs_92 (m_a63 hm) (_) (rfl) (by omega) (by omega) ?_
                      refine a_topi (((congrFun (runsS_63 s q b k) q).trans hs3)) ?_
                      refine a_iconst (pc := 93) dX12_runs_93 ic_3 ?_
                      refine a_iload (pc := 94) dX12_runs_94 rfl ?_
                      refine a_imulN (pc := 96) dX12_runs_96 ?_
                      refine a_isub (pc := 97) dX12_runs_97 ?_
                      refine a_iconst (pc := 98) dX12_runs_98 ic_3 ?_
                      refine a_isub (pc := 99) dX12_runs_99 ?_
                      refine a_icmp_le (pc := 100) (tgt := 106) dX12_runs_100 (by decide) (fun c100 => ?_) (fun c100 => ?_)
                      · have hf : b + 3 * k + 3 ≤ vA s 63 q := (runs_le (by omega) hs4 (by omega)).mp c100
                        have hcl := runsS_le s q b k
                        refine a_bipush (pc := 106) dX12_runs_106 ib_40 ?_
                        refine a_iload_n (pc := 108) dX12_runs_108 rfl rfl ?_
                        refine a_imulN (pc := 109) dX12_runs_109 ?_
                        refine a_iload_n (pc := 110) dX12_runs_110 rfl rfl ?_
                        refine a_iaddN (pc := 111) dX12_runs_111 ?_
                        refine a_iconst (pc := 112) dX12_runs_112 ic_3 ?_
                        refine a_iload (pc := 113) dX12_runs_113 rfl ?_
                        refine a_imulN (pc := 115) dX12_runs_115 ?_
                        refine a_iaddN (pc := 116) dX12_runs_116 ?_
                        refine a_istore (pc := 117) dX12_runs_117 (by decide) rfl ?_
                        refine a_iload (pc := 119) dX12_runs_119 rfl ?_
                        refine a_aload_n (pc := 121) dX12_runs_121 rfl rfl ?_
                        refine a_aload_n (pc := 122) dX12_runs_122 rfl rfl ?_
                        refine a_getfield (pc := 123) kg_X12_115 dX12_runs_123 (m_obj hm) rfl ?_
                        refine a_iload (pc := 126) dX12_runs_126 rfl ?_
                        refine a_iaload (pc := 128) dX12_runs_128 (m_a64 hm) (_) (rfl) (by omega) (by omega) ?_
                        refine a_aload_n (pc := 129) dX12_runs_129 rfl rfl ?_
                        refine a_getfield (pc := 130) kg_X12_115 dX12_runs_130 (m_obj hm) rfl ?_
                        refine a_iload (pc := 133) dX12_runs_133 rfl ?_
                        refine a_iconst (pc := 135) dX12_runs_135 ic_1 ?_
                        refine a_iaddN (pc := 136) dX12_runs_136 ?_
                        refine a_iaload (pc := 137) dX12_runs_137 (m_a64 hm) (_) (rfl) (by omega) (by omega) ?_
                        refine a_aload_n (pc := 138) dX12_runs_138 rfl rfl ?_
                        refine a_getfield (pc := 139) kg_X12_115 dX12_runs_139 (m_obj hm) rfl ?_
                        refine a_iload (pc := 142) dX12_runs_142 rfl ?_
                        refine a_iconst (pc := 144) dX12_runs_144 ic_2 ?_
                        refine a_iaddN (pc := 145) dX12_runs_145 ?_
                        refine a_iaload (pc := 146) dX12_runs_146 (m_a64 hm) (_) (rfl) (by omega) (by omega) ?_
                        refine a_callV (pc := 147) km_X12_436 dX12_runs_147 (f_runX hm (MV_runsS hV q b k) _ _ _) rfl rfl (krecv_of (ci := 12) rfl (m_obj hm)) (rok_of hM (by decide) (by decide) (by omega) (by omega)) (Nat.le_of_ble_eq_true rfl) (fun r147 h147 hp147 => ?_)
                        obtain ⟨rfl, rfl⟩ := hp147
                        refine a_hp (show _ = mh m (runsS s q b (k + 1)).2 h0 from rfl) ?_
                        refine a_topi (show _ = (runsT (runsS s q b k).2 (40 * q + b + 3 * k)).1 from rfl) ?_
                        refine a_if_lt (pc := 150) (tgt := 157) dX12_runs_150 (by decide) (fun c150 => ?_) (fun c150 => ?_)
                        · have hs1 : (runsS s q b k).1 + 0 = (runsS s q b (k + 1)).1 := by rw [runsS_s, if_pos c150]
                          refine a_iconst (pc := 157) dX12_runs_157 ic_0 ?_
                          refine a_iaddN (pc := 158) dX12_runs_158 ?_
                          refine a_topi (congrArg nI hs1) ?_
                          refine a_istore (pc := 159) dX12_runs_159 (by decide) rfl ?_
                          refine a_iincN (pc := 161) (n := 1) dX12_runs_161 (by decide) rfl (by decide) rfl ?_
                          refine a_goto (pc := 164) (tgt := 75) dX12_runs_164 (by decide) ?_
                          exact a_locR (ih (k + 1) (by omega) (by omega) (Or.inr (by omega))) ⟨rfl, rfl, rfl, rfl, rfl, rfl, trivial⟩
                        · have hs1 : (runsS s q b k).1 + 1 = (runsS s q b (k + 1)).1 := by rw [runsS_s, if_neg c150]
                          refine a_iconst (pc := 153) dX12_runs_153 ic_1 ?_
                          refine a_goto (pc := 154) (tgt := 158) dX12_runs_154 (by decide) ?_
                          refine a_iaddN (pc := 158) dX12_runs_158 ?_
                          refine a_topi (congrArg nI hs1) ?_
                          refine a_istore (pc := 159) dX12_runs_159 (by decide) rfl ?_
                          refine a_iincN (pc := 161) (n := 1) dX12_runs_161 (by decide) rfl (by decide) rfl ?_
                          refine a_goto (pc := 164) (tgt := 75) dX12_runs_164 (by decide) ?_
                          exact a_locR (ih (k + 1) (by omega) (by omega) (Or.inr (by omega))) ⟨rfl, rfl, rfl, rfl, rfl, rfl, trivial⟩
                      · have hnf : ¬ b + 3 * k + 3 ≤ vA s 63 q := fun z => c100 ((runs_le (by omega) hs4 (by omega)).mpr z)
                        have hkz : (vA s 63 q - b) / 3 = k := by omega
                        have hR : R_runs s (nI q) so (nI b) (nI n) = (-12, (runsS s q b k).2) := by
                          rw [R_runs, if_pos hcc, eq, eb, en, if_neg hth, if_pos hso, if_neg (by omega), if_neg hat, if_neg (by omega), hkz]
                        refine a_bipush (pc := 103) dX12_runs_103 ib_m12 ?_
                        refine a_ret_i (pc := 105) hM rfl (rfl) dX12_runs_105 (by omega) (by omega) ?_
                        exact ⟨by rw [hR], _, rfl, by rw [hR]; exact SP.rfl⟩
                refine a_hp (show _ = mh m (runsS s q b 0).2 h0 from rfl) ?_
                exact a_locR (loop _ 0 rfl (Nat.zero_le _) (Or.inl rfl)) ⟨rfl, rfl, rfl, rfl, rfl, rfl, trivial⟩
            · refine a_bipush (pc := 66) dX12_runs_66 ib_m11 ?_
              refine a_ret_i (pc := 68) hM rfl (rfl) dX12_runs_68 (by omega) (by omega) ?_
              exact absurd c63 c41
          · refine a_bipush (pc := 54) dX12_runs_54 ib_m13 ?_
            refine a_ret_i (pc := 56) hM rfl (rfl) dX12_runs_56 (by omega) (by omega) ?_
            exact ⟨by rw [R_runs, if_pos hcc, eq, if_neg c41, if_neg c51], _, rfl, by rw [R_runs, if_pos hcc, eq, if_neg c41, if_neg c51]; exact SP.rfl⟩
      · refine a_bipush (pc := 32) dX12_runs_32 ib_m2 ?_
        refine a_ret_i (pc := 34) hM rfl (rfl) dX12_runs_34 (by omega) (by omega) ?_
        exact ⟨by rw [R_runs, if_neg (by simp [c4, c16, c29])], _, rfl, by rw [R_runs, if_neg (by simp [c4, c16, c29])]; exact SP.rfl⟩

end MP8

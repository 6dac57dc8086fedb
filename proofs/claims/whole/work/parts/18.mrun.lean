/-! THE REFERENCE: copies, runs -/
section MP8
variable {X : KX} {m : Nat → Nat} {s : MST} {h0 : AH}
theorem copy_of {z : Nat} {n i : Int32} (hz : z ≤ 40) (h1 : ¬ n < 0) (h2 : ¬ i < 0) (h3 : ¬ nI z - n < i) : ∃ b d, n = nI b ∧ i = nI d ∧ d + b ≤ z := by
  have e0 : (0 : Int32).toInt = 0 := by decide
  have g1 : 0 ≤ n.toInt := by
    rw [Int32.lt_iff_toInt_lt, e0] at h1
    omega
  have g2 : 0 ≤ i.toInt := by
    rw [Int32.lt_iff_toInt_lt, e0] at h2
    omega
  have l1 := Int32.toInt_lt n
  have l2 := Int32.toInt_lt i
  have e : (nI z - n).toInt = z - n.toInt := by
    rw [Int32.toInt_sub, nI_toInt (by omega)]
    exact Int.bmod_eq_of_le (by omega) (by omega)
  rw [Int32.lt_iff_toInt_lt, e] at h3
  refine ⟨n.toInt.toNat, i.toInt.toNat, ?_, ?_, by omega⟩
  · apply Int32.toInt_inj.mp
    rw [nI_toInt (by omega)]
    omega
  · apply Int32.toInt_inj.mp
    rw [nI_toInt (by omega)]
    omega
/-- filled from its end on -/
def bacO {α : Type} (f g : Nat → α) (off n i : Nat) : Nat → α := fun j => if off + (n - i) ≤ j ∧ j < off + n then f (j - off) else g j
theorem bacO_0 {α : Type} {f g : Nat → α} {off n : Nat} : bacO f g off n 0 = g := by
  funext j
  exact if_neg (by omega)
theorem bacO_n {α : Type} {f g : Nat → α} {off n : Nat} : bacO f g off n n = fillO f g off n := by
  funext j
  unfold bacO fillO
  rw [Nat.sub_self, Nat.add_zero]
theorem bacO_s {f g : Nat → Int32} {off n i : Nat} (hi : i < n) : upd (bacO f g off n i) (off + (n - 1 - i)) (f (n - 1 - i)) = bacO f g off n (i + 1) := by
  funext j
  by_cases h : j = off + (n - 1 - i)
  · subst h
    rw [pk_us]
    exact ((if_pos ⟨by omega, by omega⟩).trans (by rw [Nat.add_sub_cancel_left])).symm
  · rw [pk_un h]
    unfold bacO
    by_cases h2 : off + (n - i) ≤ j ∧ j < off + n
    · rw [if_pos h2, if_pos ⟨by omega, h2.2⟩]
    · rw [if_neg h2, if_neg (by omega)]
theorem bacO_out {α : Type} {f g : Nat → α} {off n i j : Nat} (h : j < off + (n - i) ∨ off + n ≤ j) : bacO f g off n i j = g j := if_neg (by omega)
def R_copy (s : MST) (x i y j n : Int32) : Int32 × MST := if (inN x 4 && inN y 4) = true then
    (if s.2.1 61 x.toNatClampNeg = 0 ∨ s.2.1 61 y.toNatClampNeg = 0 then (-11, s)
     else if s.2.1 62 x.toNatClampNeg = s.2.1 62 y.toNatClampNeg then
       (if n < 0 ∨ i < 0 ∨ j < 0 ∨ s.2.1 63 x.toNatClampNeg - n < i ∨ s.2.1 63 y.toNatClampNeg - n < j then (-12, s)
        else (n, sa s 64 (fillO (fun k => s.2.1 64 (40 * x.toNatClampNeg + i.toNatClampNeg + k)) (s.2.1 64) (40 * y.toNatClampNeg + j.toNatClampNeg) n.toNatClampNeg)))
     else (-13, s)) else (-2, s)
set_option maxRecDepth 4000 in
theorem f_copy (hm : MI m) (hV : MV s) (x i y j n : Int32) : Fn X 2 0 0 yX12_copy cX12_copy 9 (some .int) [.ref (m 65), .int x, .int i, .int y, .int j, .int n] (mh m s h0) (fun rv hv => rv = some (.int (R_copy s x i y j n).1) ∧ ∃ s' : MST, hv = mh m s' h0 ∧ SP s' (R_copy s x i y j n).2) := by
  refine fn_of (by decide) (Nat.le_of_ble_eq_true rfl) (fun M hM => ?_)
  refine a_iload_n (pc := 0) dX12_copy_0 rfl rfl ?_
  refine a_callS (pc := 1) km_X12_165 dX12_copy_1 (f_isSheet _) rfl rfl (rok_of hM (by decide) (by decide) (by omega) (by omega)) (Nat.le_of_ble_eq_true rfl) (fun r1 h1 hp1 => ?_)
  obtain ⟨rfl, rfl⟩ := hp1
  refine a_if_eqB (pc := 4) (tgt := 14) dX12_copy_4 (by decide) (fun c4 => ?_) (fun c4 => ?_)
  · refine a_bipush (pc := 14) dX12_copy_14 ib_m2 ?_
    refine a_ret_i (pc := 16) hM rfl (rfl) dX12_copy_16 (by omega) (by omega) ?_
    exact ⟨by rw [R_copy, if_neg (by simp [c4])], _, rfl, by rw [R_copy, if_neg (by simp [c4])]; exact SP.rfl⟩
  · obtain ⟨a, ha, rfl⟩ := inN_of c4 (by omega)
    have ea : (nI a).toNatClampNeg = a := nI_clamp (by omega)
    refine a_iload_n (pc := 7) dX12_copy_7 rfl rfl ?_
    refine a_callS (pc := 8) km_X12_165 dX12_copy_8 (f_isSheet _) rfl rfl (rok_of hM (by decide) (by decide) (by omega) (by omega)) (Nat.le_of_ble_eq_true rfl) (fun r8 h8 hp8 => ?_)
    obtain ⟨rfl, rfl⟩ := hp8
    refine a_if_neB (pc := 11) (tgt := 17) dX12_copy_11 (by decide) (fun c11 => ?_) (fun c11 => ?_)
    · obtain ⟨c, hc, rfl⟩ := inN_of c11 (by omega)
      have ec : (nI c).toNatClampNeg = c := nI_clamp (by omega)
      have hcc : (inN (nI a) 4 && inN (nI c) 4) = true := by rw [c4, c11]; rfl
      refine a_aload_n (pc := 17) dX12_copy_17 rfl rfl ?_
      refine a_getfield (pc := 18) kg_X12_105 dX12_copy_18 (m_obj hm) rfl ?_
      refine a_iload_n (pc := 21) dX12_copy_21 rfl rfl ?_
      refine a_baload (pc := 22) dX12_copy_22 (m_a61 hm) (_) (rfl) (by omega) (by omega) ?_
      refine a_if_eq (pc := 23) (tgt := 35) dX12_copy_23 (by decide) (fun c23 => ?_) (fun c23 => ?_)
      · refine a_bipush (pc := 35) dX12_copy_35 ib_m11 ?_
        refine a_ret_i (pc := 37) hM rfl (rfl) dX12_copy_37 (by omega) (by omega) ?_
        exact ⟨by rw [R_copy, if_pos hcc, ea, ec, if_pos (by simp [c4, c11, c23])], _, rfl, by rw [R_copy, if_pos hcc, ea, ec, if_pos (by simp [c4, c11, c23])]; exact SP.rfl⟩
      · refine a_aload_n (pc := 26) dX12_copy_26 rfl rfl ?_
        refine a_getfield (pc := 27) kg_X12_105 dX12_copy_27 (m_obj hm) rfl ?_
        refine a_iload_n (pc := 30) dX12_copy_30 rfl rfl ?_
        refine a_baload (pc := 31) dX12_copy_31 (m_a61 hm) (_) (rfl) (by omega) (by omega) ?_
        refine a_if_ne (pc := 32) (tgt := 38) dX12_copy_32 (by decide) (fun c32 => ?_) (fun c32 => ?_)
        · have hth0 : ¬ (s.2.1 61 a = 0 ∨ s.2.1 61 c = 0) := fun z => z.elim c23 c32
          have hth : ¬ (s.2.1 61 (nI a).toNatClampNeg = 0 ∨ s.2.1 61 (nI c).toNatClampNeg = 0) := by rw [ea, ec]; exact hth0
          obtain ⟨-, -, ha3, ha4⟩ := MV_there hV ha c23
          obtain ⟨-, -, hc3, hc4⟩ := MV_there hV hc c32
          refine a_aload_n (pc := 38) dX12_copy_38 rfl rfl ?_
          refine a_getfield (pc := 39) kg_X12_109 dX12_copy_39 (m_obj hm) rfl ?_
          refine a_iload_n (pc := 42) dX12_copy_42 rfl rfl ?_
          refine a_iaload (pc := 43) dX12_copy_43 (m_a62 hm) (_) (rfl) (by omega) (by omega) ?_
          refine a_aload_n (pc := 44) dX12_copy_44 rfl rfl ?_
          refine a_getfield (pc := 45) kg_X12_109 dX12_copy_45 (m_obj hm) rfl ?_
          refine a_iload_n (pc := 48) dX12_copy_48 rfl rfl ?_
          refine a_iaload (pc := 49) dX12_copy_49 (m_a62 hm) (_) (rfl) (by omega) (by omega) ?_
          refine a_icmp_eq (pc := 50) (tgt := 56) dX12_copy_50 (by decide) (fun c50 => ?_) (fun c50 => ?_)
          · have hso : s.2.1 62 (nI a).toNatClampNeg = s.2.1 62 (nI c).toNatClampNeg := by rw [ea, ec]; exact c50
            refine a_iload (pc := 56) dX12_copy_56 rfl ?_
            refine a_if_lt (pc := 58) (tgt := 97) dX12_copy_58 (by decide) (fun c58 => ?_) (fun c58 => ?_)
            · refine a_bipush (pc := 97) dX12_copy_97 ib_m12 ?_
              refine a_ret_i (pc := 99) hM rfl (rfl) dX12_copy_99 (by omega) (by omega) ?_
              exact ⟨by rw [R_copy, if_pos hcc, if_neg hth, if_pos hso, ea, ec, ha3, hc3, if_pos (Or.inl c58)], _, rfl, by rw [R_copy, if_pos hcc, if_neg hth, if_pos hso, ea, ec, ha3, hc3, if_pos (Or.inl c58)]; exact SP.rfl⟩
            · refine a_iload_n (pc := 61) dX12_copy_61 rfl rfl ?_
              refine a_if_lt (pc := 62) (tgt := 97) dX12_copy_62 (by decide) (fun c62 => ?_) (fun c62 => ?_)
              · refine a_bipush (pc := 97) dX12_copy_97 ib_m12 ?_
                refine a_ret_i (pc := 99) hM rfl (rfl) dX12_copy_99 (by omega) (by omega) ?_
                exact ⟨by rw [R_copy, if_pos hcc, if_neg hth, if_pos hso, ea, ec, ha3, hc3, if_pos (Or.inr (Or.inl c62))], _, rfl, by rw [R_copy, if_pos hcc, if_neg hth, if_pos hso, ea, ec, ha3, hc3, if_pos (Or.inr (Or.inl c62))]; exact SP.rfl⟩
              · refine a_iload (pc := 65) dX12_copy_65 rfl ?_
                refine a_if_lt (pc := 67) (tgt := 97) dX12_copy_67 (by decide) (fun c67 => ?_) (fun c67 => ?_)
                · refine a_bipush (pc := 97) dX12_copy_97 ib_m12 ?_
                  refine a_ret_i (pc := 99) hM rfl (rfl) dX12_copy_99 (by omega) (by omega) ?_
                  exact ⟨by rw [R_copy, if_pos hcc, if_neg hth, if_pos hso, ea, ec, ha3, hc3, if_pos (Or.inr (Or.inr (Or.inl c67)))], _, rfl, by rw [R_copy, if_pos hcc, if_neg hth, if_pos hso, ea, ec, ha3, hc3, if_pos (Or.inr (Or.inr (Or.inl c67)))]; exact SP.rfl⟩
                · refine a_iload_n (pc := 70) dX12_copy_70 rfl rfl ?_
                  refine a_aload_n (pc := 71) dX12_copy_71 rfl rfl ?_
                  refine a_getfield (pc := 72) kg_X12_112 dX12_copy_72 (m_obj hm) rfl ?_
                  refine a_iload_n (pc := 75) dX12_copy_75 rfl rfl ?_
                  refine a_iaload (pc := 76) dX12_copy_76 (m_a63 hm) (_) (rfl) (by omega) (by omega) ?_
                  refine a_topi (ha3) ?_
                  refine a_iload (pc := 77) dX12_copy_77 rfl ?_
                  refine a_isub (pc := 79) dX12_copy_79 ?_
                  refine a_icmp_gt (pc := 80) (tgt := 97) dX12_copy_80 (by decide) (fun c80 => ?_) (fun c80 => ?_)
                  · refine a_bipush (pc := 97) dX12_copy_97 ib_m12 ?_
                    refine a_ret_i (pc := 99) hM rfl (rfl) dX12_copy_99 (by omega) (by omega) ?_
                    exact ⟨by rw [R_copy, if_pos hcc, if_neg hth, if_pos hso, ea, ec, ha3, hc3, if_pos (Or.inr (Or.inr (Or.inr (Or.inl c80))))], _, rfl, by rw [R_copy, if_pos hcc, if_neg hth, if_pos hso, ea, ec, ha3, hc3, if_pos (Or.inr (Or.inr (Or.inr (Or.inl c80))))]; exact SP.rfl⟩
                  · refine a_iload (pc := 83) dX12_copy_83 rfl ?_
                    refine a_aload_n (pc := 85) dX12_copy_85 rfl rfl ?_
                    refine a_getfield (pc := 86) kg_X12_112 dX12_copy_86 (m_obj hm) rfl ?_
                    refine a_iload_n (pc := 89) dX12_copy_89 rfl rfl ?_
                    refine a_iaload (pc := 90) dX12_copy_90 (m_a63 hm) (_) (rfl) (by omega) (by omega) ?_
                    refine a_topi (hc3) ?_
                    refine a_iload (pc := 91) dX12_copy_91 rfl ?_
                    refine a_isub (pc := 93) dX12_copy_93 ?_
                    refine a_icmp_le (pc := 94) (tgt := 100) dX12_copy_94 (by decide) (fun c94 => ?_) (fun c94 => ?_)
                    · have hok : ¬ (n < 0 ∨ i < 0 ∨ j < 0 ∨ s.2.1 63 (nI a).toNatClampNeg - n < i ∨ s.2.1 63 (nI c).toNatClampNeg - n < j) := by
                        rw [ea, ec, ha3, hc3]
                        exact fun z => z.elim c58 fun z => z.elim c62 fun z => z.elim c67 fun z => z.elim c80 fun z => absurd c94 (Int32.not_le.mpr z)
                      obtain ⟨n0, b, hn0, hb0, hbn⟩ := copy_of ha4 c58 c62 c80
                      subst hn0
                      subst hb0
                      obtain ⟨n, d, hn1, hd0, hdn⟩ := copy_of hc4 c58 c67 (fun z => absurd c94 (Int32.not_le.mpr z))
                      have hnn : n = n0 := by
                        have e := congrArg Int32.toNatClampNeg hn1
                        rw [nI_clamp (by omega), nI_clamp (by omega)] at e
                        exact e.symm
                      subst hnn
                      subst hd0
                      have eb : (nI b).toNatClampNeg = b := nI_clamp (by omega)
                      have ed : (nI d).toNatClampNeg = d := nI_clamp (by omega)
                      have en : (nI n).toNatClampNeg = n := nI_clamp (by omega)
                      refine a_iload_n (pc := 100) dX12_copy_100 rfl rfl ?_
                      refine a_iload_n (pc := 101) dX12_copy_101 rfl rfl ?_
                      refine a_icmp_neN (pc := 102) (tgt := 115) dX12_copy_102 (by decide) (by omega) (by omega) (fun c102 => ?_) (fun c102 => ?_)
                      · refine a_iconst (pc := 115) dX12_copy_115 ic_0 ?_
                        refine a_istore (pc := 116) dX12_copy_116 (by decide) rfl ?_
                        refine a_iconst (pc := 118) dX12_copy_118 ic_0 ?_
                        refine a_istore (pc := 119) dX12_copy_119 (by decide) rfl ?_
                        have hfw : a = c → d ≤ b := fun z => absurd z c102
                        have loop : ∀ j k : Nat, n - k = j → k ≤ n →  AJ X M yX12_copy cX12_copy 9 (some .int) 121 [(0, .ref (m 65)), (1, .int (nI a)), (2, .int (nI b)), (3, .int (nI c)), (4, .int (nI d)), (5, .int (nI n)), (6, .int (nI 0)), (7, .int (nI k))] [] (mh m (sa s 64 (fillO (fun t => s.2.1 64 (40 * a + b + t)) (s.2.1 64) (40 * c + d) k)) h0) 0 0 := by
                          intro j
                          induction j with
                          | zero =>
                            intro k hjk hkN
                            refine a_iload (pc := 121) dX12_copy_121 rfl ?_
                            refine a_iload (pc := 123) dX12_copy_123 rfl ?_
                            refine a_icmp_geN (pc := 125) (tgt := 182) dX12_copy_125 (by decide) (by omega) (by omega) (fun c125 => ?_) (fun c125 => ?_)
                            · have hkn : k = n := by omega
                              subst hkn
                              refine a_iload (pc := 182) dX12_copy_182 rfl ?_
                              refine a_ret_i (pc := 184) hM rfl (rfl) dX12_copy_184 (by omega) (by omega) ?_
                              exact ⟨by rw [R_copy, if_pos hcc, if_neg hth, if_pos hso, if_neg hok], _, rfl, by rw [R_copy, if_pos hcc, if_neg hth, if_pos hso, if_neg hok, ea, eb, ec, ed, en]; exact SP.rfl⟩
                            · exact absurd c125 (by omega)
                          | succ j ih =>
                            intro k hjk hkN
                            refine a_iload (pc := 121) dX12_copy_121 rfl ?_
                            refine a_iload (pc := 123) dX12_copy_123 rfl ?_
                            refine a_icmp_geN (pc := 125) (tgt := 182) dX12_copy_125 (by decide) (by omega) (by omega) (fun c125 => ?_) (fun c125 => ?_)
                            · exact absurd c125 (by omega)
                            · refine a_iload (pc := 128) dX12_copy_128 rfl ?_
                              refine a_if_eqN (pc := 130) (tgt := 143) dX12_copy_130 (by decide) (by omega) (fun c130 => ?_) (fun c130 => ?_)
                              · refine a_iload (pc := 143) dX12_copy_143 rfl ?_
                                refine a_istore (pc := 145) dX12_copy_145 (by decide) rfl ?_
                                refine a_aload_n (pc := 147) dX12_copy_147 rfl rfl ?_
                                refine a_getfield (pc := 148) kg_X12_115 dX12_copy_148 (m_obj hm) rfl ?_
                                refine a_bipush (pc := 151) dX12_copy_151 ib_40 ?_
                                refine a_iload_n (pc := 153) dX12_copy_153 rfl rfl ?_
                                refine a_imulN (pc := 154) dX12_copy_154 ?_
                                refine a_iload (pc := 155) dX12_copy_155 rfl ?_
                                refine a_iaddN (pc := 157) dX12_copy_157 ?_
                                refine a_iload (pc := 158) dX12_copy_158 rfl ?_
                                refine a_iaddN (pc := 160) dX12_copy_160 ?_
                                refine a_aload_n (pc := 161) dX12_copy_161 rfl rfl ?_
                                refine a_getfield (pc := 162) kg_X12_115 dX12_copy_162 (m_obj hm) rfl ?_
                                refine a_bipush (pc := 165) dX12_copy_165 ib_40 ?_
                                refine a_iload_n (pc := 167) dX12_copy_167 rfl rfl ?_
                                refine a_imulN (pc := 168) dX12_copy_168 ?_
                                refine a_iload_n (pc := 169) dX12_copy_169 rfl rfl ?_
                                refine a_iaddN (pc := 170) dX12_copy_170 ?_
                                refine a_iload (pc := 171) dX12_copy_171 rfl ?_
                                refine a_iaddN (pc := 173) dX12_copy_173 ?_
                                refine a_iaload (pc := 174) dX12_copy_174 (m_a64 hm) (_) (rfl) (by omega) (by omega) ?_
                                refine a_topi (show _ = (fun t => s.2.1 64 (40 * a + b + t)) k from (show fillO (fun t => s.2.1 64 (40 * a + b + t)) (s.2.1 64) (40 * c + d) k (40 * a + b + k) = s.2.1 64 (40 * a + b + k) from fillO_out (by omega))) ?_
                                refine a_iastore (pc := 175) dX12_copy_175 (m_a64 hm) (_) (rfl) (by omega) (by omega) ?_
                                refine a_hp (m_p64 hm) ?_
                                refine a_hp (show _ = mh m (sa s 64 (fillO (fun t => s.2.1 64 (40 * a + b + t)) (s.2.1 64) (40 * c + d) (k + 1))) h0 from congrArg (fun t => mh m t h0) (sa_sa.trans (congrArg (sa s 64) (fillO_s (f := fun t => s.2.1 64 (40 * a + b + t)))))) ?_
                                refine a_iincN (pc := 176) (n := 1) dX12_copy_176 (by decide) rfl (by decide) rfl ?_
                                refine a_goto (pc := 179) (tgt := 121) dX12_copy_179 (by decide) ?_
                                exact a_locR (ih (k + 1) (by omega) (by omega)) ⟨rfl, rfl, rfl, rfl, rfl, rfl, rfl, rfl, trivial⟩
                              · exact absurd c130 (Nat.lt_irrefl 0)
                        refine a_hp (show _ = mh m (sa s 64 (fillO (fun t => s.2.1 64 (40 * a + b + t)) (s.2.1 64) (40 * c + d) 0)) h0 by rw [fillO_0, sa_id]) ?_
                        exact a_locR (loop _ 0 rfl (Nat.zero_le _)) ⟨rfl, rfl, rfl, rfl, rfl, rfl, rfl, rfl, trivial⟩
                      · refine a_iload_n (pc := 105) dX12_copy_105 rfl rfl ?_
                        refine a_iload (pc := 106) dX12_copy_106 rfl ?_
                        refine a_icmp_geN (pc := 108) (tgt := 115) dX12_copy_108 (by decide) (by omega) (by omega) (fun c108 => ?_) (fun c108 => ?_)
                        · refine a_iconst (pc := 115) dX12_copy_115 ic_0 ?_
                          refine a_istore (pc := 116) dX12_copy_116 (by decide) rfl ?_
                          refine a_iconst (pc := 118) dX12_copy_118 ic_0 ?_
                          refine a_istore (pc := 119) dX12_copy_119 (by decide) rfl ?_
                          have hfw : a = c → d ≤ b := fun _ => c108
                          have loop : ∀ j k : Nat, n - k = j → k ≤ n →  AJ X M yX12_copy cX12_copy 9 (some .int) 121 [(0, .ref (m 65)), (1, .int (nI a)), (2, .int (nI b)), (3, .int (nI c)), (4, .int (nI d)), (5, .int (nI n)), (6, .int (nI 0)), (7, .int (nI k))] [] (mh m (sa s 64 (fillO (fun t => s.2.1 64 (40 * a + b + t)) (s.2.1 64) (40 * c + d) k)) h0) 0 0 := by
                            intro j
                            induction j with
                            | zero =>
                              intro k hjk hkN
                              refine a_iload (pc := 121) dX12_copy_121 rfl ?_
                              refine a_iload (pc := 123) dX12_copy_123 rfl ?_
                              refine a_icmp_geN (pc := 125) (tgt := 182) dX12_copy_125 (by decide) (by omega) (by omega) (fun c125 => ?_) (fun c125 => ?_)
                              · have hkn : k = n := by omega
                                subst hkn
                                refine a_iload (pc := 182) dX12_copy_182 rfl ?_
                                refine a_ret_i (pc := 184) hM rfl (rfl) dX12_copy_184 (by omega) (by omega) ?_
                                exact ⟨by rw [R_copy, if_pos hcc, if_neg hth, if_pos hso, if_neg hok], _, rfl, by rw [R_copy, if_pos hcc, if_neg hth, if_pos hso, if_neg hok, ea, eb, ec, ed, en]; exact SP.rfl⟩
                              · exact absurd c125 (by omega)
                            | succ j ih =>
                              intro k hjk hkN
                              refine a_iload (pc := 121) dX12_copy_121 rfl ?_
                              refine a_iload (pc := 123) dX12_copy_123 rfl ?_
                              refine a_icmp_geN (pc := 125) (tgt := 182) dX12_copy_125 (by decide) (by omega) (by omega) (fun c125 => ?_) (fun c125 => ?_)
                              · exact absurd c125 (by omega)
                              · refine a_iload (pc := 128) dX12_copy_128 rfl ?_
                                refine a_if_eqN (pc := 130) (tgt := 143) dX12_copy_130 (by decide) (by omega) (fun c130 => ?_) (fun c130 => ?_)
                                · refine a_iload (pc := 143) dX12_copy_143 rfl ?_
                                  refine a_istore (pc := 145) dX12_copy_145 (by decide) rfl ?_
                                  refine a_aload_n (pc := 147) dX12_copy_147 rfl rfl ?_
                                  refine a_getfield (pc := 148) kg_X12_115 dX12_copy_148 (m_obj hm) rfl ?_
                                  refine a_bipush (pc := 151) dX12_copy_151 ib_40 ?_
                                  refine a_iload_n (pc := 153) dX12_copy_153 rfl rfl ?_
                                  refine a_imulN (pc := 154) dX12_copy_154 ?_
                                  refine a_iload (pc := 155) dX12_copy_155 rfl ?_
                                  refine a_iaddN (pc := 157) dX12_copy_157 ?_
                                  refine a_iload (pc := 158) dX12_copy_158 rfl ?_
                                  refine a_iaddN (pc := 160) dX12_copy_160 ?_
                                  refine a_aload_n (pc := 161) dX12_copy_161 rfl rfl ?_
                                  refine a_getfield (pc := 162) kg_X12_115 dX12_copy_162 (m_obj hm) rfl ?_
                                  refine a_bipush (pc := 165) dX12_copy_165 ib_40 ?_
                                  refine a_iload_n (pc := 167) dX12_copy_167 rfl rfl ?_
                                  refine a_imulN (pc := 168) dX12_copy_168 ?_
                                  refine a_iload_n (pc := 169) dX12_copy_169 rfl rfl ?_
                                  refine a_iaddN (pc := 170) dX12_copy_170 ?_
                                  refine a_iload (pc := 171) dX12_copy_171 rfl ?_
                                  refine a_iaddN (pc := 173) dX12_copy_173 ?_
                                  refine a_iaload (pc := 174) dX12_copy_174 (m_a64 hm) (_) (rfl) (by omega) (by omega) ?_
                                  refine a_topi (show _ = (fun t => s.2.1 64 (40 * a + b + t)) k from (show fillO (fun t => s.2.1 64 (40 * a + b + t)) (s.2.1 64) (40 * c + d) k (40 * a + b + k) = s.2.1 64 (40 * a + b + k) from fillO_out (by omega))) ?_
                                  refine a_iastore (pc := 175) dX12_copy_175 (m_a64 hm) (_) (rfl) (by omega) (by omega) ?_
                                  refine a_hp (m_p64 hm) ?_
                                  refine a_hp (show _ = mh m (sa s 64 (fillO (fun t => s.2.1 64 (40 * a + b + t)) (s.2.1 64) (40 * c + d) (k + 1))) h0 from congrArg (fun t => mh m t h0) (sa_sa.trans (congrArg (sa s 64) (fillO_s (f := fun t => s.2.1 64 (40 * a + b + t)))))) ?_
                                  refine a_iincN (pc := 176) (n := 1) dX12_copy_176 (by decide) rfl (by decide) rfl ?_
                                  refine a_goto (pc := 179) (tgt := 121) dX12_copy_179 (by decide) ?_
                                  exact a_locR (ih (k + 1) (by omega) (by omega)) ⟨rfl, rfl, rfl, rfl, rfl, rfl, rfl, rfl, trivial⟩
                                · exact absurd c130 (Nat.lt_irrefl 0)
                          refine a_hp (show _ = mh m (sa s 64 (fillO (fun t => s.2.1 64 (40 * a + b + t)) (s.2.1 64) (40 * c + d) 0)) h0 by rw [fillO_0, sa_id]) ?_
                          exact a_locR (loop _ 0 rfl (Nat.zero_le _)) ⟨rfl, rfl, rfl, rfl, rfl, rfl, rfl, rfl, trivial⟩
                        · refine a_iconst (pc := 111) dX12_copy_111 ic_1 ?_
                          refine a_goto (pc := 112) (tgt := 116) dX12_copy_112 (by decide) ?_
                          refine a_istore (pc := 116) dX12_copy_116 (by decide) rfl ?_
                          refine a_iconst (pc := 118) dX12_copy_118 ic_0 ?_
                          refine a_istore (pc := 119) dX12_copy_119 (by decide) rfl ?_
                          have loop : ∀ j k : Nat, n - k = j → k ≤ n →  AJ X M yX12_copy cX12_copy 9 (some .int) 121 [(0, .ref (m 65)), (1, .int (nI a)), (2, .int (nI b)), (3, .int (nI c)), (4, .int (nI d)), (5, .int (nI n)), (6, .int (nI 1)), (7, .int (nI k))] [] (mh m (sa s 64 (bacO (fun t => s.2.1 64 (40 * a + b + t)) (s.2.1 64) (40 * c + d) n k)) h0) 0 0 := by
                            intro j
                            induction j with
                            | zero =>
                              intro k hjk hkN
                              refine a_iload (pc := 121) dX12_copy_121 rfl ?_
                              refine a_iload (pc := 123) dX12_copy_123 rfl ?_
                              refine a_icmp_geN (pc := 125) (tgt := 182) dX12_copy_125 (by decide) (by omega) (by omega) (fun c125 => ?_) (fun c125 => ?_)
                              · have hkn : k = n := by omega
                                subst hkn
                                refine a_hp (congrArg (fun g => mh m (sa s 64 g) h0) bacO_n) ?_
                                refine a_iload (pc := 182) dX12_copy_182 rfl ?_
                                refine a_ret_i (pc := 184) hM rfl (rfl) dX12_copy_184 (by omega) (by omega) ?_
                                exact ⟨by rw [R_copy, if_pos hcc, if_neg hth, if_pos hso, if_neg hok], _, rfl, by rw [R_copy, if_pos hcc, if_neg hth, if_pos hso, if_neg hok, ea, eb, ec, ed, en]; exact SP.rfl⟩
                              · exact absurd c125 (by omega)
                            | succ j ih =>
                              intro k hjk hkN
                              refine a_iload (pc := 121) dX12_copy_121 rfl ?_
                              refine a_iload (pc := 123) dX12_copy_123 rfl ?_
                              refine a_icmp_geN (pc := 125) (tgt := 182) dX12_copy_125 (by decide) (by omega) (by omega) (fun c125 => ?_) (fun c125 => ?_)
                              · exact absurd c125 (by omega)
                              · refine a_iload (pc := 128) dX12_copy_128 rfl ?_
                                refine a_if_eqN (pc := 130) (tgt := 143) dX12_copy_130 (by decide) (by omega) (fun c130 => ?_) (fun c130 => ?_)
                                · exact absurd c130 (by decide)
                                · refine a_iload (pc := 133) dX12_copy_133 rfl ?_
                                  refine a_iconst (pc := 135) dX12_copy_135 ic_1 ?_
                                  refine a_isubN (pc := 136) dX12_copy_136 (by omega) ?_
                                  refine a_iload (pc := 137) dX12_copy_137 rfl ?_
                                  refine a_isubN (pc := 139) dX12_copy_139 (by omega) ?_
                                  refine a_goto (pc := 140) (tgt := 145) dX12_copy_140 (by decide) ?_
                                  refine a_istore (pc := 145) dX12_copy_145 (by decide) rfl ?_
                                  refine a_aload_n (pc := 147) dX12_copy_147 rfl rfl ?_
                                  refine a_getfield (pc := 148) kg_X12_115 dX12_copy_148 (m_obj hm) rfl ?_
                                  refine a_bipush (pc := 151) dX12_copy_151 ib_40 ?_
                                  refine a_iload_n (pc := 153) dX12_copy_153 rfl rfl ?_
                                  refine a_imulN (pc := 154) dX12_copy_154 ?_
                                  refine a_iload (pc := 155) dX12_copy_155 rfl ?_
                                  refine a_iaddN (pc := 157) dX12_copy_157 ?_
                                  refine a_iload (pc := 158) dX12_copy_158 rfl ?_
                                  refine a_iaddN (pc := 160) dX12_copy_160 ?_
                                  refine a_aload_n (pc := 161) dX12_copy_161 rfl rfl ?_
                                  refine a_getfield (pc := 162) kg_X12_115 dX12_copy_162 (m_obj hm) rfl ?_
                                  refine a_bipush (pc := 165) dX12_copy_165 ib_40 ?_
                                  refine a_iload_n (pc := 167) dX12_copy_167 rfl rfl ?_
                                  refine a_imulN (pc := 168) dX12_copy_168 ?_
                                  refine a_iload_n (pc := 169) dX12_copy_169 rfl rfl ?_
                                  refine a_iaddN (pc := 170) dX12_copy_170 ?_
                                  refine a_iload (pc := 171) dX12_copy_171 rfl ?_
                                  refine a_iaddN (pc := 173) dX12_copy_173 ?_
                                  refine a_iaload (pc := 174) dX12_copy_174 (m_a64 hm) (_) (rfl) (by omega) (by omega) ?_
                                  refine a_topi (show _ = (fun t => s.2.1 64 (40 * a + b + t)) (n - 1 - k) from (show bacO (fun t => s.2.1 64 (40 * a + b + t)) (s.2.1 64) (40 * c + d) n k (40 * a + b + (n - 1 - k)) = s.2.1 64 (40 * a + b + (n - 1 - k)) from bacO_out (by omega))) ?_
                                  refine a_iastore (pc := 175) dX12_copy_175 (m_a64 hm) (_) (rfl) (by omega) (by omega) ?_
                                  refine a_hp (m_p64 hm) ?_
                                  refine a_hp (show _ = mh m (sa s 64 (bacO (fun t => s.2.1 64 (40 * a + b + t)) (s.2.1 64) (40 * c + d) n (k + 1))) h0 from congrArg (fun t => mh m t h0) (sa_sa.trans (congrArg (sa s 64) (bacO_s (f := fun t => s.2.1 64 (40 * a + b + t)) (by omega))))) ?_
                                  refine a_iincN (pc := 176) (n := 1) dX12_copy_176 (by decide) rfl (by decide) rfl ?_
                                  refine a_goto (pc := 179) (tgt := 121) dX12_copy_179 (by decide) ?_
                                  exact a_locR (ih (k + 1) (by omega) (by omega)) ⟨rfl, rfl, rfl, rfl, rfl, rfl, rfl, rfl, trivial⟩
                          refine a_hp (show _ = mh m (sa s 64 (bacO (fun t => s.2.1 64 (40 * a + b + t)) (s.2.1 64) (40 * c + d) n 0)) h0 by rw [bacO_0, sa_id]) ?_
                          exact a_locR (loop _ 0 rfl (Nat.zero_le _)) ⟨rfl, rfl, rfl, rfl, rfl, rfl, rfl, rfl, trivial⟩
                    · refine a_bipush (pc := 97) dX12_copy_97 ib_m12 ?_
                      refine a_ret_i (pc := 99) hM rfl (rfl) dX12_copy_99 (by omega) (by omega) ?_
                      exact ⟨by rw [R_copy, if_pos hcc, if_neg hth, if_pos hso, ea, ec, ha3, hc3, if_pos (Or.inr (Or.inr (Or.inr (Or.inr (Int32.not_le.mp c94)))))], _, rfl, by rw [R_copy, if_pos hcc, if_neg hth, if_pos hso, ea, ec, ha3, hc3, if_pos (Or.inr (Or.inr (Or.inr (Or.inr (Int32.not_le.mp c94)))))]; exact SP.rfl⟩
          · refine a_bipush (pc := 53) dX12_copy_53 ib_m13 ?_
            refine a_ret_i (pc := 55) hM rfl (rfl) dX12_copy_55 (by omega) (by omega) ?_
            exact ⟨by rw [R_copy, if_pos hcc, if_neg hth, ea, ec, if_neg c50], _, rfl, by rw [R_copy, if_pos hcc, if_neg hth, ea, ec, if_neg c50]; exact SP.rfl⟩
        · refine a_bipush (pc := 35) dX12_copy_35 ib_m11 ?_
          refine a_ret_i (pc := 37) hM rfl (rfl) dX12_copy_37 (by omega) (by omega) ?_
          exact ⟨by rw [R_copy, if_pos hcc, ea, ec, if_pos (by simp [c4, c11, c23, c32])], _, rfl, by rw [R_copy, if_pos hcc, ea, ec, if_pos (by simp [c4, c11, c23, c32])]; exact SP.rfl⟩
    · refine a_bipush (pc := 14) dX12_copy_14 ib_m2 ?_
      refine a_ret_i (pc := 16) hM rfl (rfl) dX12_copy_16 (by omega) (by omega) ?_
      exact ⟨by rw [R_copy, if_neg (by simp [c4, c11])], _, rfl, by rw [R_copy, if_neg (by simp [c4, c11])]; exact SP.rfl⟩

end MP8

/-! THE REFERENCE: what leaks give -/
section ML3
variable {X : KX} {m : Nat → Nat} {s : MST} {h0 : AH}
def hasP (s : MST) (k r n : Nat) : Nat := cntN (fun i => decide (s.2.1 14 (25 * r + i) = s.2.1 26 k)) n
def heardP (num : Int32) (has : Nat) : Int32 := if nI has ≤ num then nI has else num
def capP (v : Int32) (n : Nat) : Int32 := if nI n ≤ v then nI n else v
def givesV (kd : Nat) (num heard : Int32) (al : Nat) : Int32 := match kd with
  | 1 => nI 2 * num
  | 2 => heard
  | 3 => num + nI (al / 5)
  | 4 => heard + nI 1
  | 5 => nI 2 * (heard + nI 1)
  | _ => num
def givesP (s : MST) (k r n : Nat) : Int32 := if s.2.1 27 k = nI 1 then nI 0 else capP (givesV (vA s 24 k) (s.2.1 25 k) (heardP (s.2.1 25 k) (hasP s k r n)) (alikeP s r n)) n
set_option maxHeartbeats 4000000 in
set_option maxRecDepth 4000 in
theorem f_givesOf (hm : MI m) {k r n : Nat} (hk : k < 10) (hr : r < 16) (hz : Rz s r n) (hkd : okV (s.2.1 24 k) 6) : Fn X 2 0 0 yX12_givesOf cX12_givesOf 6 (some .int) [.ref (m 65), .int (nI k), .int (nI r)] (mh m s h0) (fun rv hv => rv = some (.int (givesP s k r n)) ∧ hv = mh m s h0) := by
  refine fn_of (by decide) (Nat.le_of_ble_eq_true rfl) (fun M hM => ?_)
  have hle : n ≤ 25 := hz.choose_spec.2.2.2
  obtain ⟨hk1, hk2⟩ := id hkd
  obtain ⟨kd, hkv⟩ : ∃ kd, kd = (s.2.1 24 k).toNatClampNeg := ⟨_, rfl⟩
  rw [← hkv] at hk1 hk2
  refine a_aload_n (pc := 0) dX12_givesOf_0 rfl rfl ?_
  refine a_getfield (pc := 1) kg_X12_78 dX12_givesOf_1 (m_obj hm) rfl ?_
  refine a_iload_n (pc := 4) dX12_givesOf_4 rfl rfl ?_
  refine a_iaload (pc := 5) dX12_givesOf_5 (m_a27 hm) (_) (rfl) (by omega) (by omega) ?_
  refine a_iconst (pc := 6) dX12_givesOf_6 ic_1 ?_
  refine a_icmp_ne (pc := 7) (tgt := 12) dX12_givesOf_7 (by decide) (fun c7 => ?_) (fun c7 => ?_)
  · have loop : ∀ j q : Nat, n - q = j → q ≤ n → ∀ c : Nat, c = cntN (fun i => decide (s.2.1 14 (25 * r + i) = s.2.1 26 k)) q → AJ X M yX12_givesOf cX12_givesOf 6 (some .int) 17 [(0, .ref (m 65)), (1, .int (nI k)), (2, .int (nI r)), (3, .int (nI c)), (4, .int (nI q))] [] (mh m s h0) 0 0 := by
      intro j
      induction j with
      | zero =>
        intro q hk hkl c hc
        have hcl : c ≤ q := by rw [hc]; exact cntN_le _ _
        refine a_iload (pc := 17) dX12_givesOf_17 rfl ?_
        refine a_aload_n (pc := 19) dX12_givesOf_19 rfl rfl ?_
        refine a_iload_n (pc := 20) dX12_givesOf_20 rfl rfl ?_
        refine a_callV (pc := 21) km_X12_161 dX12_givesOf_21 (f_sizeOf hm hr hz) rfl rfl (krecv_of (ci := 12) rfl (m_obj hm)) (rok_of hM (by decide) (by decide) (by omega) (by omega)) (Nat.le_of_ble_eq_true rfl) (fun r21 h21 hp21 => ?_)
        obtain ⟨rfl, rfl⟩ := hp21
        refine a_icmp_geN (pc := 24) (tgt := 62) dX12_givesOf_24 (by decide) (by omega) (by omega) (fun c24 => ?_) (fun c24 => ?_)
        · have hkn : q = n := by omega
          subst hkn
          have hc2 : c = hasP s k r q := hc
          subst hc2
          have hcl2 : hasP s k r q ≤ q := cntN_le _ _
          have hal : alikeP s r q ≤ q - 1 := cntN_le _ _
          refine a_aload_n (pc := 62) dX12_givesOf_62 rfl rfl ?_
          refine a_getfield (pc := 63) kg_X12_72 dX12_givesOf_63 (m_obj hm) rfl ?_
          refine a_iload_n (pc := 66) dX12_givesOf_66 rfl rfl ?_
          refine a_iaload (pc := 67) dX12_givesOf_67 (m_a25 hm) (_) (rfl) (by omega) (by omega) ?_
          refine a_iload_n (pc := 68) dX12_givesOf_68 rfl rfl ?_
          refine a_icmp_ge (pc := 69) (tgt := 81) dX12_givesOf_69 (by decide) (fun c69 => ?_) (fun c69 => ?_)
          · refine a_iload_n (pc := 81) dX12_givesOf_81 rfl rfl ?_
            refine a_istore (pc := 82) dX12_givesOf_82 (by decide) rfl ?_
            refine a_aload_n (pc := 84) dX12_givesOf_84 rfl rfl ?_
            refine a_getfield (pc := 85) kg_X12_72 dX12_givesOf_85 (m_obj hm) rfl ?_
            refine a_iload_n (pc := 88) dX12_givesOf_88 rfl rfl ?_
            refine a_iaload (pc := 89) dX12_givesOf_89 (m_a25 hm) (_) (rfl) (by omega) (by omega) ?_
            refine a_istore (pc := 90) dX12_givesOf_90 (by decide) rfl ?_
            refine a_aload_n (pc := 92) dX12_givesOf_92 rfl rfl ?_
            refine a_getfield (pc := 93) kg_X12_69 dX12_givesOf_93 (m_obj hm) rfl ?_
            refine a_iload_n (pc := 96) dX12_givesOf_96 rfl rfl ?_
            refine a_iaload (pc := 97) dX12_givesOf_97 (m_a24 hm) (_) (rfl) (by omega) (by omega) ?_
            refine a_topi (hk1) ?_
            rcases (by omega : kd = 0 ∨ kd = 1 ∨ kd = 2 ∨ kd = 3 ∨ kd = 4 ∨ kd = 5) with rfl | rfl | rfl | rfl | rfl | rfl
            · refine a_tabOut (pc := 98) (tgt := 191) dX12_givesOf_98 (by decide) (by decide) ?_
              refine a_iload (pc := 191) dX12_givesOf_191 rfl ?_
              refine a_aload_n (pc := 193) dX12_givesOf_193 rfl rfl ?_
              refine a_iload_n (pc := 194) dX12_givesOf_194 rfl rfl ?_
              refine a_callV (pc := 195) km_X12_161 dX12_givesOf_195 (f_sizeOf hm hr hz) rfl rfl (krecv_of (ci := 12) rfl (m_obj hm)) (rok_of hM (by decide) (by decide) (by omega) (by omega)) (Nat.le_of_ble_eq_true rfl) (fun r195 h195 hp195 => ?_)
              obtain ⟨rfl, rfl⟩ := hp195
              refine a_icmp_ge (pc := 198) (tgt := 206) dX12_givesOf_198 (by decide) (fun c198 => ?_) (fun c198 => ?_)
              · refine a_aload_n (pc := 206) dX12_givesOf_206 rfl rfl ?_
                refine a_iload_n (pc := 207) dX12_givesOf_207 rfl rfl ?_
                refine a_callV (pc := 208) km_X12_161 dX12_givesOf_208 (f_sizeOf hm hr hz) rfl rfl (krecv_of (ci := 12) rfl (m_obj hm)) (rok_of hM (by decide) (by decide) (by omega) (by omega)) (Nat.le_of_ble_eq_true rfl) (fun r208 h208 hp208 => ?_)
                obtain ⟨rfl, rfl⟩ := hp208
                refine a_ret_i (pc := 211) hM rfl (rfl) dX12_givesOf_211 (by omega) (by omega) ?_
                exact ⟨by rw [givesP, if_neg c7, show vA s 24 k = _ from hkv.symm]; simp only [givesV, heardP, capP]; (first | rw [if_pos c69] | rw [if_neg c69] | skip); (first | rw [if_pos c198] | rw [if_neg c198]), rfl⟩
              · refine a_iload (pc := 201) dX12_givesOf_201 rfl ?_
                refine a_goto (pc := 203) (tgt := 211) dX12_givesOf_203 (by decide) ?_
                refine a_ret_i (pc := 211) hM rfl (rfl) dX12_givesOf_211 (by omega) (by omega) ?_
                exact ⟨by rw [givesP, if_neg c7, show vA s 24 k = _ from hkv.symm]; simp only [givesV, heardP, capP]; (first | rw [if_pos c69] | rw [if_neg c69] | skip); (first | rw [if_pos c198] | rw [if_neg c198]), rfl⟩
            · refine a_tabIn (pc := 98) (off := 34) (tgt := 132) dX12_givesOf_98 (by decide) (by decide) rfl (by decide) ?_
              refine a_iconst (pc := 132) dX12_givesOf_132 ic_2 ?_
              refine a_aload_n (pc := 133) dX12_givesOf_133 rfl rfl ?_
              refine a_getfield (pc := 134) kg_X12_72 dX12_givesOf_134 (m_obj hm) rfl ?_
              refine a_iload_n (pc := 137) dX12_givesOf_137 rfl rfl ?_
              refine a_iaload (pc := 138) dX12_givesOf_138 (m_a25 hm) (_) (rfl) (by omega) (by omega) ?_
              refine a_imul (pc := 139) dX12_givesOf_139 ?_
              refine a_istore (pc := 140) dX12_givesOf_140 (by decide) rfl ?_
              refine a_goto (pc := 142) (tgt := 191) dX12_givesOf_142 (by decide) ?_
              refine a_iload (pc := 191) dX12_givesOf_191 rfl ?_
              refine a_aload_n (pc := 193) dX12_givesOf_193 rfl rfl ?_
              refine a_iload_n (pc := 194) dX12_givesOf_194 rfl rfl ?_
              refine a_callV (pc := 195) km_X12_161 dX12_givesOf_195 (f_sizeOf hm hr hz) rfl rfl (krecv_of (ci := 12) rfl (m_obj hm)) (rok_of hM (by decide) (by decide) (by omega) (by omega)) (Nat.le_of_ble_eq_true rfl) (fun r195 h195 hp195 => ?_)
              obtain ⟨rfl, rfl⟩ := hp195
              refine a_icmp_ge (pc := 198) (tgt := 206) dX12_givesOf_198 (by decide) (fun c198 => ?_) (fun c198 => ?_)
              · refine a_aload_n (pc := 206) dX12_givesOf_206 rfl rfl ?_
                refine a_iload_n (pc := 207) dX12_givesOf_207 rfl rfl ?_
                refine a_callV (pc := 208) km_X12_161 dX12_givesOf_208 (f_sizeOf hm hr hz) rfl rfl (krecv_of (ci := 12) rfl (m_obj hm)) (rok_of hM (by decide) (by decide) (by omega) (by omega)) (Nat.le_of_ble_eq_true rfl) (fun r208 h208 hp208 => ?_)
                obtain ⟨rfl, rfl⟩ := hp208
                refine a_ret_i (pc := 211) hM rfl (rfl) dX12_givesOf_211 (by omega) (by omega) ?_
                exact ⟨by rw [givesP, if_neg c7, show vA s 24 k = _ from hkv.symm]; simp only [givesV, heardP, capP]; (first | rw [if_pos c69] | rw [if_neg c69] | skip); (first | rw [if_pos c198] | rw [if_neg c198]), rfl⟩
              · refine a_iload (pc := 201) dX12_givesOf_201 rfl ?_
                refine a_goto (pc := 203) (tgt := 211) dX12_givesOf_203 (by decide) ?_
                refine a_ret_i (pc := 211) hM rfl (rfl) dX12_givesOf_211 (by omega) (by omega) ?_
                exact ⟨by rw [givesP, if_neg c7, show vA s 24 k = _ from hkv.symm]; simp only [givesV, heardP, capP]; (first | rw [if_pos c69] | rw [if_neg c69] | skip); (first | rw [if_pos c198] | rw [if_neg c198]), rfl⟩
            · refine a_tabIn (pc := 98) (off := 47) (tgt := 145) dX12_givesOf_98 (by decide) (by decide) rfl (by decide) ?_
              refine a_iload (pc := 145) dX12_givesOf_145 rfl ?_
              refine a_istore (pc := 147) dX12_givesOf_147 (by decide) rfl ?_
              refine a_goto (pc := 149) (tgt := 191) dX12_givesOf_149 (by decide) ?_
              refine a_iload (pc := 191) dX12_givesOf_191 rfl ?_
              refine a_aload_n (pc := 193) dX12_givesOf_193 rfl rfl ?_
              refine a_iload_n (pc := 194) dX12_givesOf_194 rfl rfl ?_
              refine a_callV (pc := 195) km_X12_161 dX12_givesOf_195 (f_sizeOf hm hr hz) rfl rfl (krecv_of (ci := 12) rfl (m_obj hm)) (rok_of hM (by decide) (by decide) (by omega) (by omega)) (Nat.le_of_ble_eq_true rfl) (fun r195 h195 hp195 => ?_)
              obtain ⟨rfl, rfl⟩ := hp195
              refine a_icmp_ge (pc := 198) (tgt := 206) dX12_givesOf_198 (by decide) (fun c198 => ?_) (fun c198 => ?_)
              · refine a_aload_n (pc := 206) dX12_givesOf_206 rfl rfl ?_
                refine a_iload_n (pc := 207) dX12_givesOf_207 rfl rfl ?_
                refine a_callV (pc := 208) km_X12_161 dX12_givesOf_208 (f_sizeOf hm hr hz) rfl rfl (krecv_of (ci := 12) rfl (m_obj hm)) (rok_of hM (by decide) (by decide) (by omega) (by omega)) (Nat.le_of_ble_eq_true rfl) (fun r208 h208 hp208 => ?_)
                obtain ⟨rfl, rfl⟩ := hp208
                refine a_ret_i (pc := 211) hM rfl (rfl) dX12_givesOf_211 (by omega) (by omega) ?_
                exact ⟨by rw [givesP, if_neg c7, show vA s 24 k = _ from hkv.symm]; simp only [givesV, heardP, capP]; (first | rw [if_pos c69] | rw [if_neg c69] | skip); (first | rw [if_pos c198] | rw [if_neg c198]), rfl⟩
              · refine a_iload (pc := 201) dX12_givesOf_201 rfl ?_
                refine a_goto (pc := 203) (tgt := 211) dX12_givesOf_203 (by decide) ?_
                refine a_ret_i (pc := 211) hM rfl (rfl) dX12_givesOf_211 (by omega) (by omega) ?_
                exact ⟨by rw [givesP, if_neg c7, show vA s 24 k = _ from hkv.symm]; simp only [givesV, heardP, capP]; (first | rw [if_pos c69] | rw [if_neg c69] | skip); (first | rw [if_pos c198] | rw [if_neg c198]), rfl⟩
            · refine a_tabIn (pc := 98) (off := 54) (tgt := 152) dX12_givesOf_98 (by decide) (by decide) rfl (by decide) ?_
              refine a_aload_n (pc := 152) dX12_givesOf_152 rfl rfl ?_
              refine a_getfield (pc := 153) kg_X12_72 dX12_givesOf_153 (m_obj hm) rfl ?_
              refine a_iload_n (pc := 156) dX12_givesOf_156 rfl rfl ?_
              refine a_iaload (pc := 157) dX12_givesOf_157 (m_a25 hm) (_) (rfl) (by omega) (by omega) ?_
              refine a_aload_n (pc := 158) dX12_givesOf_158 rfl rfl ?_
              refine a_iload_n (pc := 159) dX12_givesOf_159 rfl rfl ?_
              refine a_callV (pc := 160) km_X12_193 dX12_givesOf_160 (f_alikeOf hm hr hz) rfl rfl (krecv_of (ci := 12) rfl (m_obj hm)) (rok_of hM (by decide) (by decide) (by omega) (by omega)) (Nat.le_of_ble_eq_true rfl) (fun r160 h160 hp160 => ?_)
              obtain ⟨rfl, rfl⟩ := hp160
              refine a_iconst (pc := 163) dX12_givesOf_163 ic_5 ?_
              refine a_idivN (pc := 164) dX12_givesOf_164 (by omega) (by omega) (by omega) ?_
              refine a_iadd (pc := 165) dX12_givesOf_165 ?_
              refine a_istore (pc := 166) dX12_givesOf_166 (by decide) rfl ?_
              refine a_goto (pc := 168) (tgt := 191) dX12_givesOf_168 (by decide) ?_
              refine a_iload (pc := 191) dX12_givesOf_191 rfl ?_
              refine a_aload_n (pc := 193) dX12_givesOf_193 rfl rfl ?_
              refine a_iload_n (pc := 194) dX12_givesOf_194 rfl rfl ?_
              refine a_callV (pc := 195) km_X12_161 dX12_givesOf_195 (f_sizeOf hm hr hz) rfl rfl (krecv_of (ci := 12) rfl (m_obj hm)) (rok_of hM (by decide) (by decide) (by omega) (by omega)) (Nat.le_of_ble_eq_true rfl) (fun r195 h195 hp195 => ?_)
              obtain ⟨rfl, rfl⟩ := hp195
              refine a_icmp_ge (pc := 198) (tgt := 206) dX12_givesOf_198 (by decide) (fun c198 => ?_) (fun c198 => ?_)
              · refine a_aload_n (pc := 206) dX12_givesOf_206 rfl rfl ?_
                refine a_iload_n (pc := 207) dX12_givesOf_207 rfl rfl ?_
                refine a_callV (pc := 208) km_X12_161 dX12_givesOf_208 (f_sizeOf hm hr hz) rfl rfl (krecv_of (ci := 12) rfl (m_obj hm)) (rok_of hM (by decide) (by decide) (by omega) (by omega)) (Nat.le_of_ble_eq_true rfl) (fun r208 h208 hp208 => ?_)
                obtain ⟨rfl, rfl⟩ := hp208
                refine a_ret_i (pc := 211) hM rfl (rfl) dX12_givesOf_211 (by omega) (by omega) ?_
                exact ⟨by rw [givesP, if_neg c7, show vA s 24 k = _ from hkv.symm]; simp only [givesV, heardP, capP]; (first | rw [if_pos c69] | rw [if_neg c69] | skip); (first | rw [if_pos c198] | rw [if_neg c198]), rfl⟩
              · refine a_iload (pc := 201) dX12_givesOf_201 rfl ?_
                refine a_goto (pc := 203) (tgt := 211) dX12_givesOf_203 (by decide) ?_
                refine a_ret_i (pc := 211) hM rfl (rfl) dX12_givesOf_211 (by omega) (by omega) ?_
                exact ⟨by rw [givesP, if_neg c7, show vA s 24 k = _ from hkv.symm]; simp only [givesV, heardP, capP]; (first | rw [if_pos c69] | rw [if_neg c69] | skip); (first | rw [if_pos c198] | rw [if_neg c198]), rfl⟩
            · refine a_tabIn (pc := 98) (off := 73) (tgt := 171) dX12_givesOf_98 (by decide) (by decide) rfl (by decide) ?_
              refine a_iload (pc := 171) dX12_givesOf_171 rfl ?_
              refine a_iconst (pc := 173) dX12_givesOf_173 ic_1 ?_
              refine a_iadd (pc := 174) dX12_givesOf_174 ?_
              refine a_istore (pc := 175) dX12_givesOf_175 (by decide) rfl ?_
              refine a_goto (pc := 177) (tgt := 191) dX12_givesOf_177 (by decide) ?_
              refine a_iload (pc := 191) dX12_givesOf_191 rfl ?_
              refine a_aload_n (pc := 193) dX12_givesOf_193 rfl rfl ?_
              refine a_iload_n (pc := 194) dX12_givesOf_194 rfl rfl ?_
              refine a_callV (pc := 195) km_X12_161 dX12_givesOf_195 (f_sizeOf hm hr hz) rfl rfl (krecv_of (ci := 12) rfl (m_obj hm)) (rok_of hM (by decide) (by decide) (by omega) (by omega)) (Nat.le_of_ble_eq_true rfl) (fun r195 h195 hp195 => ?_)
              obtain ⟨rfl, rfl⟩ := hp195
              refine a_icmp_ge (pc := 198) (tgt := 206) dX12_givesOf_198 (by decide) (fun c198 => ?_) (fun c198 => ?_)
              · refine a_aload_n (pc := 206) dX12_givesOf_206 rfl rfl ?_
                refine a_iload_n (pc := 207) dX12_givesOf_207 rfl rfl ?_
                refine a_callV (pc := 208) km_X12_161 dX12_givesOf_208 (f_sizeOf hm hr hz) rfl rfl (krecv_of (ci := 12) rfl (m_obj hm)) (rok_of hM (by decide) (by decide) (by omega) (by omega)) (Nat.le_of_ble_eq_true rfl) (fun r208 h208 hp208 => ?_)
                obtain ⟨rfl, rfl⟩ := hp208
                refine a_ret_i (pc := 211) hM rfl (rfl) dX12_givesOf_211 (by omega) (by omega) ?_
                exact ⟨by rw [givesP, if_neg c7, show vA s 24 k = _ from hkv.symm]; simp only [givesV, heardP, capP]; (first | rw [if_pos c69] | rw [if_neg c69] | skip); (first | rw [if_pos c198] | rw [if_neg c198]), rfl⟩
              · refine a_iload (pc := 201) dX12_givesOf_201 rfl ?_
                refine a_goto (pc := 203) (tgt := 211) dX12_givesOf_203 (by decide) ?_
                refine a_ret_i (pc := 211) hM rfl (rfl) dX12_givesOf_211 (by omega) (by omega) ?_
                exact ⟨by rw [givesP, if_neg c7, show vA s 24 k = _ from hkv.symm]; simp only [givesV, heardP, capP]; (first | rw [if_pos c69] | rw [if_neg c69] | skip); (first | rw [if_pos c198] | rw [if_neg c198]), rfl⟩
            · refine a_tabIn (pc := 98) (off := 82) (tgt := 180) dX12_givesOf_98 (by decide) (by decide) rfl (by decide) ?_
              refine a_iconst (pc := 180) dX12_givesOf_180 ic_2 ?_
              refine a_iload (pc := 181) dX12_givesOf_181 rfl ?_
              refine a_iconst (pc := 183) dX12_givesOf_183 ic_1 ?_
              refine a_iadd (pc := 184) dX12_givesOf_184 ?_
              refine a_imul (pc := 185) dX12_givesOf_185 ?_
              refine a_istore (pc := 186) dX12_givesOf_186 (by decide) rfl ?_
              refine a_goto (pc := 188) (tgt := 191) dX12_givesOf_188 (by decide) ?_
              refine a_iload (pc := 191) dX12_givesOf_191 rfl ?_
              refine a_aload_n (pc := 193) dX12_givesOf_193 rfl rfl ?_
              refine a_iload_n (pc := 194) dX12_givesOf_194 rfl rfl ?_
              refine a_callV (pc := 195) km_X12_161 dX12_givesOf_195 (f_sizeOf hm hr hz) rfl rfl (krecv_of (ci := 12) rfl (m_obj hm)) (rok_of hM (by decide) (by decide) (by omega) (by omega)) (Nat.le_of_ble_eq_true rfl) (fun r195 h195 hp195 => ?_)
              obtain ⟨rfl, rfl⟩ := hp195
              refine a_icmp_ge (pc := 198) (tgt := 206) dX12_givesOf_198 (by decide) (fun c198 => ?_) (fun c198 => ?_)
              · refine a_aload_n (pc := 206) dX12_givesOf_206 rfl rfl ?_
                refine a_iload_n (pc := 207) dX12_givesOf_207 rfl rfl ?_
                refine a_callV (pc := 208) km_X12_161 dX12_givesOf_208 (f_sizeOf hm hr hz) rfl rfl (krecv_of (ci := 12) rfl (m_obj hm)) (rok_of hM (by decide) (by decide) (by omega) (by omega)) (Nat.le_of_ble_eq_true rfl) (fun r208 h208 hp208 => ?_)
                obtain ⟨rfl, rfl⟩ := hp208
                refine a_ret_i (pc := 211) hM rfl (rfl) dX12_givesOf_211 (by omega) (by omega) ?_
                exact ⟨by rw [givesP, if_neg c7, show vA s 24 k = _ from hkv.symm]; simp only [givesV, heardP, capP]; (first | rw [if_pos c69] | rw [if_neg c69] | skip); (first | rw [if_pos c198] | rw [if_neg c198]), rfl⟩
              · refine a_iload (pc := 201) dX12_givesOf_201 rfl ?_
                refine a_goto (pc := 203) (tgt := 211) dX12_givesOf_203 (by decide) ?_
                refine a_ret_i (pc := 211) hM rfl (rfl) dX12_givesOf_211 (by omega) (by omega) ?_
                exact ⟨by rw [givesP, if_neg c7, show vA s 24 k = _ from hkv.symm]; simp only [givesV, heardP, capP]; (first | rw [if_pos c69] | rw [if_neg c69] | skip); (first | rw [if_pos c198] | rw [if_neg c198]), rfl⟩
          · refine a_aload_n (pc := 72) dX12_givesOf_72 rfl rfl ?_
            refine a_getfield (pc := 73) kg_X12_72 dX12_givesOf_73 (m_obj hm) rfl ?_
            refine a_iload_n (pc := 76) dX12_givesOf_76 rfl rfl ?_
            refine a_iaload (pc := 77) dX12_givesOf_77 (m_a25 hm) (_) (rfl) (by omega) (by omega) ?_
            refine a_goto (pc := 78) (tgt := 82) dX12_givesOf_78 (by decide) ?_
            refine a_istore (pc := 82) dX12_givesOf_82 (by decide) rfl ?_
            refine a_aload_n (pc := 84) dX12_givesOf_84 rfl rfl ?_
            refine a_getfield (pc := 85) kg_X12_72 dX12_givesOf_85 (m_obj hm) rfl ?_
            refine a_iload_n (pc := 88) dX12_givesOf_88 rfl rfl ?_
            refine a_iaload (pc := 89) dX12_givesOf_89 (m_a25 hm) (_) (rfl) (by omega) (by omega) ?_
            refine a_istore (pc := 90) dX12_givesOf_90 (by decide) rfl ?_
            refine a_aload_n (pc := 92) dX12_givesOf_92 rfl rfl ?_
            refine a_getfield (pc := 93) kg_X12_69 dX12_givesOf_93 (m_obj hm) rfl ?_
            refine a_iload_n (pc := 96) dX12_givesOf_96 rfl rfl ?_
            refine a_iaload (pc := 97) dX12_givesOf_97 (m_a24 hm) (_) (rfl) (by omega) (by omega) ?_
            refine a_topi (hk1) ?_
            rcases (by omega : kd = 0 ∨ kd = 1 ∨ kd = 2 ∨ kd = 3 ∨ kd = 4 ∨ kd = 5) with rfl | rfl | rfl | rfl | rfl | rfl
            · refine a_tabOut (pc := 98) (tgt := 191) dX12_givesOf_98 (by decide) (by decide) ?_
              refine a_iload (pc := 191) dX12_givesOf_191 rfl ?_
              refine a_aload_n (pc := 193) dX12_givesOf_193 rfl rfl ?_
              refine a_iload_n (pc := 194) dX12_givesOf_194 rfl rfl ?_
              refine a_callV (pc := 195) km_X12_161 dX12_givesOf_195 (f_sizeOf hm hr hz) rfl rfl (krecv_of (ci := 12) rfl (m_obj hm)) (rok_of hM (by decide) (by decide) (by omega) (by omega)) (Nat.le_of_ble_eq_true rfl) (fun r195 h195 hp195 => ?_)
              obtain ⟨rfl, rfl⟩ := hp195
              refine a_icmp_ge (pc := 198) (tgt := 206) dX12_givesOf_198 (by decide) (fun c198 => ?_) (fun c198 => ?_)
              · refine a_aload_n (pc := 206) dX12_givesOf_206 rfl rfl ?_
                refine a_iload_n (pc := 207) dX12_givesOf_207 rfl rfl ?_
                refine a_callV (pc := 208) km_X12_161 dX12_givesOf_208 (f_sizeOf hm hr hz) rfl rfl (krecv_of (ci := 12) rfl (m_obj hm)) (rok_of hM (by decide) (by decide) (by omega) (by omega)) (Nat.le_of_ble_eq_true rfl) (fun r208 h208 hp208 => ?_)
                obtain ⟨rfl, rfl⟩ := hp208
                refine a_ret_i (pc := 211) hM rfl (rfl) dX12_givesOf_211 (by omega) (by omega) ?_
                exact ⟨by rw [givesP, if_neg c7, show vA s 24 k = _ from hkv.symm]; simp only [givesV, heardP, capP]; (first | rw [if_pos c69] | rw [if_neg c69] | skip); (first | rw [if_pos c198] | rw [if_neg c198]), rfl⟩
              · refine a_iload (pc := 201) dX12_givesOf_201 rfl ?_
                refine a_goto (pc := 203) (tgt := 211) dX12_givesOf_203 (by decide) ?_
                refine a_ret_i (pc := 211) hM rfl (rfl) dX12_givesOf_211 (by omega) (by omega) ?_
                exact ⟨by rw [givesP, if_neg c7, show vA s 24 k = _ from hkv.symm]; simp only [givesV, heardP, capP]; (first | rw [if_pos c69] | rw [if_neg c69] | skip); (first | rw [if_pos c198] | rw [if_neg c198]), rfl⟩
            · refine a_tabIn (pc := 98) (off := 34) (tgt := 132) dX12_givesOf_98 (by decide) (by decide) rfl (by decide) ?_
              refine a_iconst (pc := 132) dX12_givesOf_132 ic_2 ?_
              refine a_aload_n (pc := 133) dX12_givesOf_133 rfl rfl ?_
              refine a_getfield (pc := 134) kg_X12_72 dX12_givesOf_134 (m_obj hm) rfl ?_
              refine a_iload_n (pc := 137) dX12_givesOf_137 rfl rfl ?_
              refine a_iaload (pc := 138) dX12_givesOf_138 (m_a25 hm) (_) (rfl) (by omega) (by omega) ?_
              refine a_imul (pc := 139) dX12_givesOf_139 ?_
              refine a_istore (pc := 140) dX12_givesOf_140 (by decide) rfl ?_
              refine a_goto (pc := 142) (tgt := 191) dX12_givesOf_142 (by decide) ?_
              refine a_iload (pc := 191) dX12_givesOf_191 rfl ?_
              refine a_aload_n (pc := 193) dX12_givesOf_193 rfl rfl ?_
              refine a_iload_n (pc := 194) dX12_givesOf_194 rfl rfl ?_
              refine a_callV (pc := 195) km_X12_161 dX12_givesOf_195 (f_sizeOf hm hr hz) rfl rfl (krecv_of (ci := 12) rfl (m_obj hm)) (rok_of hM (by decide) (by decide) (by omega) (by omega)) (Nat.le_of_ble_eq_true rfl) (fun r195 h195 hp195 => ?_)
              obtain ⟨rfl, rfl⟩ := hp195
              refine a_icmp_ge (pc := 198) (tgt := 206) dX12_givesOf_198 (by decide) (fun c198 => ?_) (fun c198 => ?_)
              · refine a_aload_n (pc := 206) dX12_givesOf_206 rfl rfl ?_
                refine a_iload_n (pc := 207) dX12_givesOf_207 rfl rfl ?_
                refine a_callV (pc := 208) km_X12_161 dX12_givesOf_208 (f_sizeOf hm hr hz) rfl rfl (krecv_of (ci := 12) rfl (m_obj hm)) (rok_of hM (by decide) (by decide) (by omega) (by omega)) (Nat.le_of_ble_eq_true rfl) (fun r208 h208 hp208 => ?_)
                obtain ⟨rfl, rfl⟩ := hp208
                refine a_ret_i (pc := 211) hM rfl (rfl) dX12_givesOf_211 (by omega) (by omega) ?_
                exact ⟨by rw [givesP, if_neg c7, show vA s 24 k = _ from hkv.symm]; simp only [givesV, heardP, capP]; (first | rw [if_pos c69] | rw [if_neg c69] | skip); (first | rw [if_pos c198] | rw [if_neg c198]), rfl⟩
              · refine a_iload (pc := 201) dX12_givesOf_201 rfl ?_
                refine a_goto (pc := 203) (tgt := 211) dX12_givesOf_203 (by decide) ?_
                refine a_ret_i (pc := 211) hM rfl (rfl) dX12_givesOf_211 (by omega) (by omega) ?_
                exact ⟨by rw [givesP, if_neg c7, show vA s 24 k = _ from hkv.symm]; simp only [givesV, heardP, capP]; (first | rw [if_pos c69] | rw [if_neg c69] | skip); (first | rw [if_pos c198] | rw [if_neg c198]), rfl⟩
            · refine a_tabIn (pc := 98) (off := 47) (tgt := 145) dX12_givesOf_98 (by decide) (by decide) rfl (by decide) ?_
              refine a_iload (pc := 145) dX12_givesOf_145 rfl ?_
              refine a_istore (pc := 147) dX12_givesOf_147 (by decide) rfl ?_
              refine a_goto (pc := 149) (tgt := 191) dX12_givesOf_149 (by decide) ?_
              refine a_iload (pc := 191) dX12_givesOf_191 rfl ?_
              refine a_aload_n (pc := 193) dX12_givesOf_193 rfl rfl ?_
              refine a_iload_n (pc := 194) dX12_givesOf_194 rfl rfl ?_
              refine a_callV (pc := 195) km_X12_161 dX12_givesOf_195 (f_sizeOf hm hr hz) rfl rfl (krecv_of (ci := 12) rfl (m_obj hm)) (rok_of hM (by decide) (by decide) (by omega) (by omega)) (Nat.le_of_ble_eq_true rfl) (fun r195 h195 hp195 => ?_)
              obtain ⟨rfl, rfl⟩ := hp195
              refine a_icmp_ge (pc := 198) (tgt := 206) dX12_givesOf_198 (by decide) (fun c198 => ?_) (fun c198 => ?_)
              · refine a_aload_n (pc := 206) dX12_givesOf_206 rfl rfl ?_
                refine a_iload_n (pc := 207) dX12_givesOf_207 rfl rfl ?_
                refine a_callV (pc := 208) km_X12_161 dX12_givesOf_208 (f_sizeOf hm hr hz) rfl rfl (krecv_of (ci := 12) rfl (m_obj hm)) (rok_of hM (by decide) (by decide) (by omega) (by omega)) (Nat.le_of_ble_eq_true rfl) (fun r208 h208 hp208 => ?_)
                obtain ⟨rfl, rfl⟩ := hp208
                refine a_ret_i (pc := 211) hM rfl (rfl) dX12_givesOf_211 (by omega) (by omega) ?_
                exact ⟨by rw [givesP, if_neg c7, show vA s 24 k = _ from hkv.symm]; simp only [givesV, heardP, capP]; (first | rw [if_pos c69] | rw [if_neg c69] | skip); (first | rw [if_pos c198] | rw [if_neg c198]), rfl⟩
              · refine a_iload (pc := 201) dX12_givesOf_201 rfl ?_
                refine a_goto (pc := 203) (tgt := 211) dX12_givesOf_203 (by decide) ?_
                refine a_ret_i (pc := 211) hM rfl (rfl) dX12_givesOf_211 (by omega) (by omega) ?_
                exact ⟨by rw [givesP, if_neg c7, show vA s 24 k = _ from hkv.symm]; simp only [givesV, heardP, capP]; (first | rw [if_pos c69] | rw [if_neg c69] | skip); (first | rw [if_pos c198] | rw [if_neg c198]), rfl⟩
            · refine a_tabIn (pc := 98) (off := 54) (tgt := 152) dX12_givesOf_98 (by decide) (by decide) rfl (by decide) ?_
              refine a_aload_n (pc := 152) dX12_givesOf_152 rfl rfl ?_
              refine a_getfield (pc := 153) kg_X12_72 dX12_givesOf_153 (m_obj hm) rfl ?_
              refine a_iload_n (pc := 156) dX12_givesOf_156 rfl rfl ?_
              refine a_iaload (pc := 157) dX12_givesOf_157 (m_a25 hm) (_) (rfl) (by omega) (by omega) ?_
              refine a_aload_n (pc := 158) dX12_givesOf_158 rfl rfl ?_
              refine a_iload_n (pc := 159) dX12_givesOf_159 rfl rfl ?_
              refine a_callV (pc := 160) km_X12_193 dX12_givesOf_160 (f_alikeOf hm hr hz) rfl rfl (krecv_of (ci := 12) rfl (m_obj hm)) (rok_of hM (by decide) (by decide) (by omega) (by omega)) (Nat.le_of_ble_eq_true rfl) (fun r160 h160 hp160 => ?_)
              obtain ⟨rfl, rfl⟩ := hp160
              refine a_iconst (pc := 163) dX12_givesOf_163 ic_5 ?_
              refine a_idivN (pc := 164) dX12_givesOf_164 (by omega) (by omega) (by omega) ?_
              refine a_iadd (pc := 165) dX12_givesOf_165 ?_
              refine a_istore (pc := 166) dX12_givesOf_166 (by decide) rfl ?_
              refine a_goto (pc := 168) (tgt := 191) dX12_givesOf_168 (by decide) ?_
              refine a_iload (pc := 191) dX12_givesOf_191 rfl ?_
              refine a_aload_n (pc := 193) dX12_givesOf_193 rfl rfl ?_
              refine a_iload_n (pc := 194) dX12_givesOf_194 rfl rfl ?_
              refine a_callV (pc := 195) km_X12_161 dX12_givesOf_195 (f_sizeOf hm hr hz) rfl rfl (krecv_of (ci := 12) rfl (m_obj hm)) (rok_of hM (by decide) (by decide) (by omega) (by omega)) (Nat.le_of_ble_eq_true rfl) (fun r195 h195 hp195 => ?_)
              obtain ⟨rfl, rfl⟩ := hp195
              refine a_icmp_ge (pc := 198) (tgt := 206) dX12_givesOf_198 (by decide) (fun c198 => ?_) (fun c198 => ?_)
              · refine a_aload_n (pc := 206) dX12_givesOf_206 rfl rfl ?_
                refine a_iload_n (pc := 207) dX12_givesOf_207 rfl rfl ?_
                refine a_callV (pc := 208) km_X12_161 dX12_givesOf_208 (f_sizeOf hm hr hz) rfl rfl (krecv_of (ci := 12) rfl (m_obj hm)) (rok_of hM (by decide) (by decide) (by omega) (by omega)) (Nat.le_of_ble_eq_true rfl) (fun r208 h208 hp208 => ?_)
                obtain ⟨rfl, rfl⟩ := hp208
                refine a_ret_i (pc := 211) hM rfl (rfl) dX12_givesOf_211 (by omega) (by omega) ?_
                exact ⟨by rw [givesP, if_neg c7, show vA s 24 k = _ from hkv.symm]; simp only [givesV, heardP, capP]; (first | rw [if_pos c69] | rw [if_neg c69] | skip); (first | rw [if_pos c198] | rw [if_neg c198]), rfl⟩
              · refine a_iload (pc := 201) dX12_givesOf_201 rfl ?_
                refine a_goto (pc := 203) (tgt := 211) dX12_givesOf_203 (by decide) ?_
                refine a_ret_i (pc := 211) hM rfl (rfl) dX12_givesOf_211 (by omega) (by omega) ?_
                exact ⟨by rw [givesP, if_neg c7, show vA s 24 k = _ from hkv.symm]; simp only [givesV, heardP, capP]; (first | rw [if_pos c69] | rw [if_neg c69] | skip); (first | rw [if_pos c198] | rw [if_neg c198]), rfl⟩
            · refine a_tabIn (pc := 98) (off := 73) (tgt := 171) dX12_givesOf_98 (by decide) (by decide) rfl (by decide) ?_
              refine a_iload (pc := 171) dX12_givesOf_171 rfl ?_
              refine a_iconst (pc := 173) dX12_givesOf_173 ic_1 ?_
              refine a_iadd (pc := 174) dX12_givesOf_174 ?_
              refine a_istore (pc := 175) dX12_givesOf_175 (by decide) rfl ?_
              refine a_goto (pc := 177) (tgt := 191) dX12_givesOf_177 (by decide) ?_
              refine a_iload (pc := 191) dX12_givesOf_191 rfl ?_
              refine a_aload_n (pc := 193) dX12_givesOf_193 rfl rfl ?_
              refine a_iload_n (pc := 194) dX12_givesOf_194 rfl rfl ?_
              refine a_callV (pc := 195) km_X12_161 dX12_givesOf_195 (f_sizeOf hm hr hz) rfl rfl (krecv_of (ci := 12) rfl (m_obj hm)) (rok_of hM (by decide) (by decide) (by omega) (by omega)) (Nat.le_of_ble_eq_true rfl) (fun r195 h195 hp195 => ?_)
              obtain ⟨rfl, rfl⟩ := hp195
              refine a_icmp_ge (pc := 198) (tgt := 206) dX12_givesOf_198 (by decide) (fun c198 => ?_) (fun c198 => ?_)
              · refine a_aload_n (pc := 206) dX12_givesOf_206 rfl rfl ?_
                refine a_iload_n (pc := 207) dX12_givesOf_207 rfl rfl ?_
                refine a_callV (pc := 208) km_X12_161 dX12_givesOf_208 (f_sizeOf hm hr hz) rfl rfl (krecv_of (ci := 12) rfl (m_obj hm)) (rok_of hM (by decide) (by decide) (by omega) (by omega)) (Nat.le_of_ble_eq_true rfl) (fun r208 h208 hp208 => ?_)
                obtain ⟨rfl, rfl⟩ := hp208
                refine a_ret_i (pc := 211) hM rfl (rfl) dX12_givesOf_211 (by omega) (by omega) ?_
                exact ⟨by rw [givesP, if_neg c7, show vA s 24 k = _ from hkv.symm]; simp only [givesV, heardP, capP]; (first | rw [if_pos c69] | rw [if_neg c69] | skip); (first | rw [if_pos c198] | rw [if_neg c198]), rfl⟩
              · refine a_iload (pc := 201) dX12_givesOf_201 rfl ?_
                refine a_goto (pc := 203) (tgt := 211) dX12_givesOf_203 (by decide) ?_
                refine a_ret_i (pc := 211) hM rfl (rfl) dX12_givesOf_211 (by omega) (by omega) ?_
                exact ⟨by rw [givesP, if_neg c7, show vA s 24 k = _ from hkv.symm]; simp only [givesV, heardP, capP]; (first | rw [if_pos c69] | rw [if_neg c69] | skip); (first | rw [if_pos c198] | rw [if_neg c198]), rfl⟩
            · refine a_tabIn (pc := 98) (off := 82) (tgt := 180) dX12_givesOf_98 (by decide) (by decide) rfl (by decide) ?_
              refine a_iconst (pc := 180) dX12_givesOf_180 ic_2 ?_
              refine a_iload (pc := 181) dX12_givesOf_181 rfl ?_
              refine a_iconst (pc := 183) dX12_givesOf_183 ic_1 ?_
              refine a_iadd (pc := 184) dX12_givesOf_184 ?_
              refine a_imul (pc := 185) dX12_givesOf_185 ?_
              refine a_istore (pc := 186) dX12_givesOf_186 (by decide) rfl ?_
              refine a_goto (pc := 188) (tgt := 191) dX12_givesOf_188 (by decide) ?_
              refine a_iload (pc := 191) dX12_givesOf_191 rfl ?_
              refine a_aload_n (pc := 193) dX12_givesOf_193 rfl rfl ?_
              refine a_iload_n (pc := 194) dX12_givesOf_194 rfl rfl ?_
              refine a_callV (pc := 195) km_X12_161 dX12_givesOf_195 (f_sizeOf hm hr hz) rfl rfl (krecv_of (ci := 12) rfl (m_obj hm)) (rok_of hM (by decide) (by decide) (by omega) (by omega)) (Nat.le_of_ble_eq_true rfl) (fun r195 h195 hp195 => ?_)
              obtain ⟨rfl, rfl⟩ := hp195
              refine a_icmp_ge (pc := 198) (tgt := 206) dX12_givesOf_198 (by decide) (fun c198 => ?_) (fun c198 => ?_)
              · refine a_aload_n (pc := 206) dX12_givesOf_206 rfl rfl ?_
                refine a_iload_n (pc := 207) dX12_givesOf_207 rfl rfl ?_
                refine a_callV (pc := 208) km_X12_161 dX12_givesOf_208 (f_sizeOf hm hr hz) rfl rfl (krecv_of (ci := 12) rfl (m_obj hm)) (rok_of hM (by decide) (by decide) (by omega) (by omega)) (Nat.le_of_ble_eq_true rfl) (fun r208 h208 hp208 => ?_)
                obtain ⟨rfl, rfl⟩ := hp208
                refine a_ret_i (pc := 211) hM rfl (rfl) dX12_givesOf_211 (by omega) (by omega) ?_
                exact ⟨by rw [givesP, if_neg c7, show vA s 24 k = _ from hkv.symm]; simp only [givesV, heardP, capP]; (first | rw [if_pos c69] | rw [if_neg c69] | skip); (first | rw [if_pos c198] | rw [if_neg c198]), rfl⟩
              · refine a_iload (pc := 201) dX12_givesOf_201 rfl ?_
                refine a_goto (pc := 203) (tgt := 211) dX12_givesOf_203 (by decide) ?_
                refine a_ret_i (pc := 211) hM rfl (rfl) dX12_givesOf_211 (by omega) (by omega) ?_
                exact ⟨by rw [givesP, if_neg c7, show vA s 24 k = _ from hkv.symm]; simp only [givesV, heardP, capP]; (first | rw [if_pos c69] | rw [if_neg c69] | skip); (first | rw [if_pos c198] | rw [if_neg c198]), rfl⟩
        · exact absurd c24 (by omega)
      | succ j ih =>
        intro q hk hkl c hc
        have hcl : c ≤ q := by rw [hc]; exact cntN_le _ _
        refine a_iload (pc := 17) dX12_givesOf_17 rfl ?_
        refine a_aload_n (pc := 19) dX12_givesOf_19 rfl rfl ?_
        refine a_iload_n (pc := 20) dX12_givesOf_20 rfl rfl ?_
        refine a_callV (pc := 21) km_X12_161 dX12_givesOf_21 (f_sizeOf hm hr hz) rfl rfl (krecv_of (ci := 12) rfl (m_obj hm)) (rok_of hM (by decide) (by decide) (by omega) (by omega)) (Nat.le_of_ble_eq_true rfl) (fun r21 h21 hp21 => ?_)
        obtain ⟨rfl, rfl⟩ := hp21
        refine a_icmp_geN (pc := 24) (tgt := 62) dX12_givesOf_24 (by decide) (by omega) (by omega) (fun c24 => ?_) (fun c24 => ?_)
        · exact absurd c24 (by omega)
        · refine a_iload_n (pc := 27) dX12_givesOf_27 rfl rfl ?_
          refine a_aload_n (pc := 28) dX12_givesOf_28 rfl rfl ?_
          refine a_getfield (pc := 29) kg_X12_42 dX12_givesOf_29 (m_obj hm) rfl ?_
          refine a_bipush (pc := 32) dX12_givesOf_32 ib_25 ?_
          refine a_iload_n (pc := 34) dX12_givesOf_34 rfl rfl ?_
          refine a_imulN (pc := 35) dX12_givesOf_35 ?_
          refine a_iload (pc := 36) dX12_givesOf_36 rfl ?_
          refine a_iaddN (pc := 38) dX12_givesOf_38 ?_
          refine a_iaload (pc := 39) dX12_givesOf_39 (m_a14 hm) (_) (rfl) (by omega) (by omega) ?_
          refine a_aload_n (pc := 40) dX12_givesOf_40 rfl rfl ?_
          refine a_getfield (pc := 41) kg_X12_75 dX12_givesOf_41 (m_obj hm) rfl ?_
          refine a_iload_n (pc := 44) dX12_givesOf_44 rfl rfl ?_
          refine a_iaload (pc := 45) dX12_givesOf_45 (m_a26 hm) (_) (rfl) (by omega) (by omega) ?_
          refine a_icmp_ne (pc := 46) (tgt := 53) dX12_givesOf_46 (by decide) (fun c46 => ?_) (fun c46 => ?_)
          · have hc1 : c + 0 = cntN (fun i => decide (s.2.1 14 (25 * r + i) = s.2.1 26 k)) (q + 1) := by rw [hc]; exact (cntN_f (decide_eq_false c46)).symm
            refine a_iconst (pc := 53) dX12_givesOf_53 ic_0 ?_
            refine a_iaddN (pc := 54) dX12_givesOf_54 ?_
            refine a_istore_n (pc := 55) dX12_givesOf_55 rfl (by decide) rfl ?_
            refine a_iincN (pc := 56) (n := 1) dX12_givesOf_56 (by decide) rfl (by decide) rfl ?_
            refine a_goto (pc := 59) (tgt := 17) dX12_givesOf_59 (by decide) ?_
            exact a_locR (ih (q + 1) (by omega) (by omega) _ hc1) ⟨rfl, rfl, rfl, rfl, rfl, trivial⟩
          · have hc1 : c + 1 = cntN (fun i => decide (s.2.1 14 (25 * r + i) = s.2.1 26 k)) (q + 1) := by rw [hc]; exact (cntN_t (decide_eq_true c46)).symm
            refine a_iconst (pc := 49) dX12_givesOf_49 ic_1 ?_
            refine a_goto (pc := 50) (tgt := 54) dX12_givesOf_50 (by decide) ?_
            refine a_iaddN (pc := 54) dX12_givesOf_54 ?_
            refine a_istore_n (pc := 55) dX12_givesOf_55 rfl (by decide) rfl ?_
            refine a_iincN (pc := 56) (n := 1) dX12_givesOf_56 (by decide) rfl (by decide) rfl ?_
            refine a_goto (pc := 59) (tgt := 17) dX12_givesOf_59 (by decide) ?_
            exact a_locR (ih (q + 1) (by omega) (by omega) _ hc1) ⟨rfl, rfl, rfl, rfl, rfl, trivial⟩
    refine a_iconst (pc := 12) dX12_givesOf_12 ic_0 ?_
    refine a_istore_n (pc := 13) dX12_givesOf_13 rfl (by decide) rfl ?_
    refine a_iconst (pc := 14) dX12_givesOf_14 ic_0 ?_
    refine a_istore (pc := 15) dX12_givesOf_15 (by decide) rfl ?_
    exact a_locR (loop _ 0 rfl (Nat.zero_le _) 0 rfl) ⟨rfl, rfl, rfl, rfl, rfl, trivial⟩
  · refine a_iconst (pc := 10) dX12_givesOf_10 ic_0 ?_
    refine a_ret_i (pc := 11) hM rfl (rfl) dX12_givesOf_11 (by omega) (by omega) ?_
    exact ⟨by rw [givesP, if_pos c7], rfl⟩

def boundS (s : MST) (r n : Nat) : Nat → Int32
  | 0 => nI 0
  | k + 1 => boundS s r n k + givesP s k r n
def boundP (s : MST) (r n nl : Nat) : Int32 := capP (boundS s r n nl) n
set_option maxHeartbeats 4000000 in
set_option maxRecDepth 4000 in
theorem f_boundOf (hm : MI m) {r n nl : Nat} (hr : r < 16) (hz : Rz s r n) (hn : s.1 28 = nI nl) (hnl : nl ≤ 10) (hL : ∀ k, k < nl → okV (s.2.1 24 k) 6) : Fn X 3 0 0 yX12_boundOf cX12_boundOf 4 (some .int) [.ref (m 65), .int (nI r)] (mh m s h0) (fun rv hv => rv = some (.int (boundP s r n nl)) ∧ hv = mh m s h0) := by
  refine fn_of (by decide) (Nat.le_of_ble_eq_true rfl) (fun M hM => ?_)
  have hle : n ≤ 25 := hz.choose_spec.2.2.2
  have loop : ∀ j k : Nat, nl - k = j → k ≤ nl → ∀ c : Int32, c = boundS s r n k → AJ X M yX12_boundOf cX12_boundOf 4 (some .int) 4 [(0, .ref (m 65)), (1, .int (nI r)), (2, .int c), (3, .int (nI k))] [] (mh m s h0) 0 0 := by
    intro j
    induction j with
    | zero =>
      intro k hk hkl c hc
      refine a_iload_n (pc := 4) dX12_boundOf_4 rfl rfl ?_
      refine a_aload_n (pc := 5) dX12_boundOf_5 rfl rfl ?_
      refine a_getfield (pc := 6) kg_X12_213 dX12_boundOf_6 (m_obj hm) rfl ?_
      refine a_topi (hn) ?_
      refine a_icmp_geN (pc := 9) (tgt := 27) dX12_boundOf_9 (by decide) (by omega) (by omega) (fun c9 => ?_) (fun c9 => ?_)
      · have hkn : k = nl := by omega
        subst hkn
        subst hc
        refine a_iload_n (pc := 27) dX12_boundOf_27 rfl rfl ?_
        refine a_aload_n (pc := 28) dX12_boundOf_28 rfl rfl ?_
        refine a_iload_n (pc := 29) dX12_boundOf_29 rfl rfl ?_
        refine a_callV (pc := 30) km_X12_161 dX12_boundOf_30 (f_sizeOf hm hr hz) rfl rfl (krecv_of (ci := 12) rfl (m_obj hm)) (rok_of hM (by decide) (by decide) (by omega) (by omega)) (Nat.le_of_ble_eq_true rfl) (fun r30 h30 hp30 => ?_)
        obtain ⟨rfl, rfl⟩ := hp30
        refine a_icmp_ge (pc := 33) (tgt := 40) dX12_boundOf_33 (by decide) (fun c33 => ?_) (fun c33 => ?_)
        · refine a_aload_n (pc := 40) dX12_boundOf_40 rfl rfl ?_
          refine a_iload_n (pc := 41) dX12_boundOf_41 rfl rfl ?_
          refine a_callV (pc := 42) km_X12_161 dX12_boundOf_42 (f_sizeOf hm hr hz) rfl rfl (krecv_of (ci := 12) rfl (m_obj hm)) (rok_of hM (by decide) (by decide) (by omega) (by omega)) (Nat.le_of_ble_eq_true rfl) (fun r42 h42 hp42 => ?_)
          obtain ⟨rfl, rfl⟩ := hp42
          refine a_ret_i (pc := 45) hM rfl (rfl) dX12_boundOf_45 (by omega) (by omega) ?_
          exact ⟨by unfold boundP capP; repeat (first | rw [if_pos (by first | assumption | exact Or.inl (by assumption) | exact Or.inr (by assumption) | exact ⟨by assumption, by assumption⟩)] | rw [if_neg (by first | assumption | (intro z; rcases z with z | z <;> exact absurd z (by assumption)) | (intro z; exact absurd z.1 (by assumption)) | (intro z; exact absurd z.2 (by assumption)))]), rfl⟩
        · refine a_iload_n (pc := 36) dX12_boundOf_36 rfl rfl ?_
          refine a_goto (pc := 37) (tgt := 45) dX12_boundOf_37 (by decide) ?_
          refine a_ret_i (pc := 45) hM rfl (rfl) dX12_boundOf_45 (by omega) (by omega) ?_
          exact ⟨by unfold boundP capP; repeat (first | rw [if_pos (by first | assumption | exact Or.inl (by assumption) | exact Or.inr (by assumption) | exact ⟨by assumption, by assumption⟩)] | rw [if_neg (by first | assumption | (intro z; rcases z with z | z <;> exact absurd z (by assumption)) | (intro z; exact absurd z.1 (by assumption)) | (intro z; exact absurd z.2 (by assumption)))]), rfl⟩
      · exact absurd c9 (by omega)
    | succ j ih =>
      intro k hk hkl c hc
      refine a_iload_n (pc := 4) dX12_boundOf_4 rfl rfl ?_
      refine a_aload_n (pc := 5) dX12_boundOf_5 rfl rfl ?_
      refine a_getfield (pc := 6) kg_X12_213 dX12_boundOf_6 (m_obj hm) rfl ?_
      refine a_topi (hn) ?_
      refine a_icmp_geN (pc := 9) (tgt := 27) dX12_boundOf_9 (by decide) (by omega) (by omega) (fun c9 => ?_) (fun c9 => ?_)
      · exact absurd c9 (by omega)
      · refine a_iload_n (pc := 12) dX12_boundOf_12 rfl rfl ?_
        refine a_aload_n (pc := 13) dX12_boundOf_13 rfl rfl ?_
        refine a_iload_n (pc := 14) dX12_boundOf_14 rfl rfl ?_
        refine a_iload_n (pc := 15) dX12_boundOf_15 rfl rfl ?_
        refine a_callV (pc := 16) km_X12_221 dX12_boundOf_16 (f_givesOf hm (by omega) hr hz (hL k (by omega))) rfl rfl (krecv_of (ci := 12) rfl (m_obj hm)) (rok_of hM (by decide) (by decide) (by omega) (by omega)) (Nat.le_of_ble_eq_true rfl) (fun r16 h16 hp16 => ?_)
        obtain ⟨rfl, rfl⟩ := hp16
        refine a_iadd (pc := 19) dX12_boundOf_19 ?_
        have hc1 : c + givesP s k r n = boundS s r n (k + 1) := by rw [hc, boundS]
        refine a_istore_n (pc := 20) dX12_boundOf_20 rfl (by decide) rfl ?_
        refine a_iincN (pc := 21) (n := 1) dX12_boundOf_21 (by decide) rfl (by decide) rfl ?_
        refine a_goto (pc := 24) (tgt := 4) dX12_boundOf_24 (by decide) ?_
        exact a_locR (ih (k + 1) (by omega) (by omega) _ hc1) ⟨rfl, rfl, rfl, rfl, trivial⟩
  refine a_iconst (pc := 0) dX12_boundOf_0 ic_0 ?_
  refine a_istore_n (pc := 1) dX12_boundOf_1 rfl (by decide) rfl ?_
  refine a_iconst (pc := 2) dX12_boundOf_2 ic_0 ?_
  refine a_istore_n (pc := 3) dX12_boundOf_3 rfl (by decide) rfl ?_
  exact a_locR (loop _ 0 rfl (Nat.zero_le _) (nI 0) rfl) ⟨rfl, rfl, rfl, rfl, trivial⟩

end ML3

/-! THE READER: contracts by level -/
section MQ3
variable {X : KX} {m : Nat → Nat} {s : MST} {h0 : AH}
/-- what a piece leaves: the reader stands well, further on, as many open -/
def oK (Z : Nat) (p : PS) (r : Rs) : Prop := gP Z r.2 ∧ pAt p ≤ pAt r.2 ∧ pOp r.2 = pOp p
theorem fail_g {Z : Nat} {p : PS} (h : gP Z p) : gP Z (failP p) ∧ pAt (failP p) = pAt p ∧ pOp (failP p) = pOp p := by
  unfold failP
  split
  · exact ⟨h, rfl, rfl⟩
  · exact ⟨h, rfl, rfl⟩
/-- the contract of a reader's method: its answer is the worth of F's piece, the reader stands where F says -/
def rC (X : KX) (m : Nat → Nat) (s : MST) (h0 : AH) (Z : Nat) (d : Nat) (j : Nat) (y : MethodName) (cc : ByteArray) (nL : Nat) (F : PS → Rs) : Prop :=
  ∀ p, gP Z p → pOp p + j = 5 → Fn X d 0 0 y cc nL (some .int) [.ref (m 65)] (mh m (pst s p) h0) (fun rv hv => rv = some (.int ((F p).1.2 s.1)) ∧ hv = mh m (pst s (F p).2) h0) ∧ oK Z p (F p)
theorem opens_g {F Z : Nat} {p : PS} (h : gP Z p) (ht : 0 < pTk p) (ht4 : pTk p < 4) (ho : ¬ pOp p = 5) : gP Z (opensF (byP s F Z) Z p) ∧ pAt p < pAt (opensF (byP s F Z) Z p) ∧ pOp (opensF (byP s F Z) Z p) = pOp p + 1 := by
  obtain ⟨h1, h2, h3, h4, h5⟩ := h
  have n := next_g (b := byP s F Z) (Z := Z) (p := uOp p (pOp p + 1)) (fun i hi => if_neg (by omega)) h2 (by show pOp p + 1 ≤ 5; omega)
  have hlt := h5 ht ht4
  unfold opensF
  rw [if_neg ho]
  refine ⟨n.1, ?_, n.2.2.1⟩
  have e : pHr p ≤ _ := n.2.1
  omega
theorem nxP_g {F Z : Nat} {p : PS} (h : gP Z p) : gP Z (nxP (byP s F Z) Z p) ∧ (pAt p ≤ pHr p → pAt p ≤ pAt (nxP (byP s F Z) Z p)) ∧ pOp (nxP (byP s F Z) Z p) = pOp p := by
  unfold nxP
  split
  · exact ⟨h, fun _ => Nat.le_refl _, rfl⟩
  · have n := next_g (b := byP s F Z) (Z := Z) (p := p) (fun i hi => if_neg (by omega)) h.2.1 h.2.2.2.1
    exact ⟨n.1, fun z => Nat.le_trans z n.2.1, n.2.2.1⟩
theorem isS_3 {p : PS} {c : Nat} (h : isS p c = true) : pBad p = false ∧ pTk p = 3 := by
  simp only [isS, Bool.and_eq_true, Bool.not_eq_true', decide_eq_true_eq] at h
  exact h.1
theorem isW_1 {p : PS} {x : Int64} (h : isW p x = true) : pBad p = false ∧ pTk p = 1 := by
  simp only [isW, Bool.and_eq_true, Bool.not_eq_true', decide_eq_true_eq] at h
  exact h.1
theorem fail_bad (p : PS) : pBad (failP p) = true := by
  unfold failP
  split
  · assumption
  · rfl
theorem next_ok {F Z : Nat} {p : PS} (h : gP Z p) (ht : 0 < pTk p) (ht4 : pTk p < 4) : gP Z (nextF (byP s F Z) Z p) ∧ pAt p < pAt (nextF (byP s F Z) Z p) ∧ pOp (nextF (byP s F Z) Z p) = pOp p := by
  have n := next_g (b := byP s F Z) (Z := Z) (p := p) (fun i hi => if_neg (by omega)) h.2.1 h.2.2.2.1
  have e := h.2.2.2.2 ht ht4
  exact ⟨n.1, Nat.lt_of_lt_of_le e n.2.1, n.2.2.1⟩
theorem cl_g {Z : Nat} {p : PS} (h : gP Z p) : gP Z (clP p) := ⟨h.1, h.2.1, h.2.2.1, by show pOp p - 1 ≤ 5; have := h.2.2.2.1; omega, h.2.2.2.2⟩
theorem one_ok {F Z j : Nat} {on ei : PS → Rs} (hon : ∀ i, j = i + 1 → ∀ p, gP Z p → pOp p + i = 5 → oK Z p (on p)) (hei : ∀ i, j = i + 1 → ∀ p, gP Z p → pOp p + i = 5 → oK Z p (ei p)) {p : PS} (hg : gP Z p) (hj : pOp p + j = 5) : oK Z p (oneL (byP s F Z) Z on ei p) := by
  have hf : oK Z p (eNum 0, failP p) := ⟨(fail_g hg).1, Nat.le_of_eq (fail_g hg).2.1.symm, (fail_g hg).2.2⟩
  unfold oneL
  by_cases c1 : isS p 45 = true
  · rw [if_pos c1]
    by_cases c5 : pOp p = 5
    · rw [if_pos c5]
      exact hf
    · rw [if_neg c5]
      have ht := (isS_3 c1).2
      obtain ⟨a1, a2, a3⟩ := opens_g (s := s) (F := F) hg (by omega) (by omega) c5
      obtain ⟨b1, b2, b3⟩ := hon (j - 1) (by omega) _ a1 (by omega)
      exact ⟨cl_g b1, by show _ ≤ pAt (on (opensF (byP s F Z) Z p)).2; omega, by show pOp (on (opensF (byP s F Z) Z p)).2 - 1 = _; omega⟩
  · rw [if_neg c1]
    by_cases c2 : isS p 40 = true
    · rw [if_pos c2]
      by_cases c5 : pOp p = 5
      · rw [if_pos c5]
        exact hf
      · rw [if_neg c5]
        have ht := (isS_3 c2).2
        obtain ⟨a1, a2, a3⟩ := opens_g (s := s) (F := F) hg (by omega) (by omega) c5
        obtain ⟨b1, b2, b3⟩ := hei (j - 1) (by omega) _ a1 (by omega)
        by_cases c41 : isS (ei (opensF (byP s F Z) Z p)).2 41 = true
        · rw [if_pos c41]
          have h3 := isS_3 c41
          have g := b1.2.2.2.2 (by omega) (by omega)
          obtain ⟨n1, n2, n3⟩ := nxP_g (s := s) (F := F) (cl_g b1)
          have n4 := n2 (Nat.le_of_lt g)
          have e : pAt (clP (ei (opensF (byP s F Z) Z p)).2) = pAt (ei (opensF (byP s F Z) Z p)).2 := rfl
          have e2 : pOp (clP (ei (opensF (byP s F Z) Z p)).2) = pOp (ei (opensF (byP s F Z) Z p)).2 - 1 := rfl
          refine ⟨n1, ?_, ?_⟩
          · show pAt p ≤ pAt (nxP (byP s F Z) Z (clP (ei (opensF (byP s F Z) Z p)).2))
            omega
          · show pOp (nxP (byP s F Z) Z (clP (ei (opensF (byP s F Z) Z p)).2)) = pOp p
            omega
        · rw [if_neg c41]
          obtain ⟨f1, f2, f3⟩ := fail_g b1
          have hbad : pBad (clP (failP (ei (opensF (byP s F Z) Z p)).2)) = true := fail_bad _
          have en : nxP (byP s F Z) Z (clP (failP (ei (opensF (byP s F Z) Z p)).2)) = clP (failP (ei (opensF (byP s F Z) Z p)).2) := if_pos hbad
          rw [en]
          have e : pAt (clP (failP (ei (opensF (byP s F Z) Z p)).2)) = pAt (failP (ei (opensF (byP s F Z) Z p)).2) := rfl
          have e2 : pOp (clP (failP (ei (opensF (byP s F Z) Z p)).2)) = pOp (failP (ei (opensF (byP s F Z) Z p)).2) - 1 := rfl
          refine ⟨cl_g f1, ?_, ?_⟩
          · show pAt p ≤ pAt (clP (failP (ei (opensF (byP s F Z) Z p)).2))
            omega
          · show pOp (clP (failP (ei (opensF (byP s F Z) Z p)).2)) = pOp p
            omega
    · rw [if_neg c2]
      by_cases c3 : pBad p = false ∧ pTk p = 2
      · rw [if_pos c3]
        obtain ⟨n1, n2, n3⟩ := next_ok (s := s) (F := F) hg (by omega) (by omega)
        exact ⟨n1, Nat.le_of_lt n2, n3⟩
      · rw [if_neg c3]
        by_cases c4 : pBad p = false ∧ pTk p = 1
        · rw [if_pos c4]
          by_cases c6 : nameF p = 0
          · rw [if_pos c6]
            exact hf
          · rw [if_neg c6]
            obtain ⟨n1, n2, n3⟩ := next_ok (s := s) (F := F) hg (by omega) (by omega)
            exact ⟨n1, Nat.le_of_lt n2, n3⟩
        · rw [if_neg c4]
          exact hf
set_option maxRecDepth 4000 in
theorem f_one (hm : MI m) {F Z : Nat} (h32 : s.1 32 = nI F) (h33 : s.1 33 = nI Z) (hF : F ≤ 800) (hZ : Z ≤ 160) {j d don dei : Nat} (hdo : don + 1 ≤ d) (hde : dei + 1 ≤ d) (hd3 : 3 ≤ d) {on ei : PS → Rs} (hon : ∀ i, j = i + 1 → rC X m s h0 Z don i yX12_one cX12_one 2 on) (hei : ∀ i, j = i + 1 → rC X m s h0 Z dei i yX12_either cX12_either 3 ei) (p : PS) (hg : gP Z p) (hj : pOp p + j = 5) : Fn X d 0 0 yX12_one cX12_one 2 (some .int) [.ref (m 65)] (mh m (pst s p) h0) (fun rv hv => rv = some (.int ((oneL (byP s F Z) Z on ei p).1.2 s.1)) ∧ hv = mh m (pst s (oneL (byP s F Z) Z on ei p).2) h0) := by
  have hk : pTk p ≤ 4 := hg.1
  have hh : pHr p ≤ Z := hg.2.1
  have ho : pOp p ≤ 5 := by omega
  refine fn_of (by decide) (Nat.le_of_ble_eq_true rfl) (fun M hM => ?_)
  refine a_iconst (pc := 0) dX12_one_0 ic_0 ?_
  refine a_istore_n (pc := 1) dX12_one_1 rfl (by decide) rfl ?_
  refine a_aload_n (pc := 2) dX12_one_2 rfl rfl ?_
  refine a_bipush (pc := 3) dX12_one_3 ib_45 ?_
  refine a_callV (pc := 5) km_X12_328 dX12_one_5 (f_isSign hm p hk (c := 45) (by decide)) rfl rfl (krecv_of (ci := 12) rfl (m_obj hm)) (rok_of hM (by omega) (by decide) (by omega) (by omega)) (Nat.le_of_ble_eq_true rfl) (fun r5 h5 hp5 => ?_)
  obtain ⟨rfl, rfl⟩ := hp5
  refine a_if_eqB (pc := 8) (tgt := 37) dX12_one_8 (by decide) (fun c8 => ?_) (fun c8 => ?_)
  · refine a_aload_n (pc := 37) dX12_one_37 rfl rfl ?_
    refine a_bipush (pc := 38) dX12_one_38 ib_40 ?_
    refine a_callV (pc := 40) km_X12_328 dX12_one_40 (f_isSign hm p hk (c := 40) (by decide)) rfl rfl (krecv_of (ci := 12) rfl (m_obj hm)) (rok_of hM (by omega) (by decide) (by omega) (by omega)) (Nat.le_of_ble_eq_true rfl) (fun r40 h40 hp40 => ?_)
    obtain ⟨rfl, rfl⟩ := hp40
    refine a_if_eqB (pc := 43) (tgt := 95) dX12_one_43 (by decide) (fun c43 => ?_) (fun c43 => ?_)
    · refine a_aload_n (pc := 95) dX12_one_95 rfl rfl ?_
      refine a_getfield (pc := 96) kg_X12_278 dX12_one_96 (m_obj hm) rfl ?_
      refine a_topi ((show _ = bI (pBad (p)) from rfl)) ?_
      refine a_if_neB (pc := 99) (tgt := 123) dX12_one_99 (by decide) (fun c99 => ?_) (fun c99 => ?_)
      · refine a_aload_n (pc := 123) dX12_one_123 rfl rfl ?_
        refine a_getfield (pc := 124) kg_X12_278 dX12_one_124 (m_obj hm) rfl ?_
        refine a_topi ((show _ = bI (pBad (p)) from rfl)) ?_
        refine a_if_neB (pc := 127) (tgt := 157) dX12_one_127 (by decide) (fun c127 => ?_) (fun c127 => ?_)
        · refine a_aload_n (pc := 157) dX12_one_157 rfl rfl ?_
          refine a_callV (pc := 158) km_X12_288 dX12_one_158 (f_fail hm p) rfl rfl (krecv_of (ci := 12) rfl (m_obj hm)) (rok_of hM (by omega) (by decide) (by omega) (by omega)) (Nat.le_of_ble_eq_true rfl) (fun r158 h158 hp158 => ?_)
          obtain ⟨rfl, rfl⟩ := hp158
          have e : oneL (byP s F Z) Z on ei p = (eNum 0, failP p) := by first | ((rw [oneL, if_neg (by rw [c8]; decide), if_neg (by rw [c43]; decide), if_neg (fun z => absurd (z.1.symm.trans c99) (by decide)), if_neg (fun z => absurd (z.1.symm.trans c127) (by decide))]) <;> rfl) | ((rw [oneL, if_neg (by rw [c8]; decide), if_neg (by rw [c43]; decide), if_neg (fun z => absurd (z.1.symm.trans c99) (by decide)), if_neg (fun z => c135 z.2)]) <;> rfl) | ((rw [oneL, if_neg (by rw [c8]; decide), if_neg (by rw [c43]; decide), if_neg (fun z => c107 z.2), if_neg (fun z => absurd (z.1.symm.trans c127) (by decide))]) <;> rfl) | ((rw [oneL, if_neg (by rw [c8]; decide), if_neg (by rw [c43]; decide), if_neg (fun z => c107 z.2), if_neg (fun z => c135 z.2)]) <;> rfl)
          refine a_iload_n (pc := 161) dX12_one_161 rfl rfl ?_
          refine a_ret_i (pc := 162) hM rfl (rfl) dX12_one_162 (by omega) (by omega) ?_
          exact ⟨by first | ((rw [e]) <;> rfl) | ((rw [e, ev]) <;> rfl), by rw [e]⟩
        · refine a_aload_n (pc := 130) dX12_one_130 rfl rfl ?_
          refine a_getfield (pc := 131) kg_X12_257 dX12_one_131 (m_obj hm) rfl ?_
          refine a_topi ((show _ = nI (pTk p) from rfl)) ?_
          refine a_iconst (pc := 134) dX12_one_134 ic_1 ?_
          refine a_icmp_neN (pc := 135) (tgt := 157) dX12_one_135 (by decide) (by omega) (by omega) (fun c135 => ?_) (fun c135 => ?_)
          · refine a_aload_n (pc := 157) dX12_one_157 rfl rfl ?_
            refine a_callV (pc := 158) km_X12_288 dX12_one_158 (f_fail hm p) rfl rfl (krecv_of (ci := 12) rfl (m_obj hm)) (rok_of hM (by omega) (by decide) (by omega) (by omega)) (Nat.le_of_ble_eq_true rfl) (fun r158 h158 hp158 => ?_)
            obtain ⟨rfl, rfl⟩ := hp158
            have e : oneL (byP s F Z) Z on ei p = (eNum 0, failP p) := by first | ((rw [oneL, if_neg (by rw [c8]; decide), if_neg (by rw [c43]; decide), if_neg (fun z => absurd (z.1.symm.trans c99) (by decide)), if_neg (fun z => absurd (z.1.symm.trans c127) (by decide))]) <;> rfl) | ((rw [oneL, if_neg (by rw [c8]; decide), if_neg (by rw [c43]; decide), if_neg (fun z => absurd (z.1.symm.trans c99) (by decide)), if_neg (fun z => c135 z.2)]) <;> rfl) | ((rw [oneL, if_neg (by rw [c8]; decide), if_neg (by rw [c43]; decide), if_neg (fun z => c107 z.2), if_neg (fun z => absurd (z.1.symm.trans c127) (by decide))]) <;> rfl) | ((rw [oneL, if_neg (by rw [c8]; decide), if_neg (by rw [c43]; decide), if_neg (fun z => c107 z.2), if_neg (fun z => c135 z.2)]) <;> rfl)
            refine a_iload_n (pc := 161) dX12_one_161 rfl rfl ?_
            refine a_ret_i (pc := 162) hM rfl (rfl) dX12_one_162 (by omega) (by omega) ?_
            exact ⟨by first | ((rw [e]) <;> rfl) | ((rw [e, ev]) <;> rfl), by rw [e]⟩
          · refine a_aload_n (pc := 138) dX12_one_138 rfl rfl ?_
            refine a_callV (pc := 139) km_X12_342 dX12_one_139 (f_name hm p hk) rfl rfl (krecv_of (ci := 12) rfl (m_obj hm)) (rok_of hM (by omega) (by decide) (by omega) (by omega)) (Nat.le_of_ble_eq_true rfl) (fun r139 h139 hp139 => ?_)
            obtain ⟨rfl, rfl⟩ := hp139
            refine a_istore_n (pc := 142) dX12_one_142 rfl (by decide) rfl ?_
            refine a_aload_n (pc := 143) dX12_one_143 rfl rfl ?_
            refine a_getfield (pc := 144) kg_X12_278 dX12_one_144 (m_obj hm) rfl ?_
            refine a_topi ((show _ = bI (pBad ((if nameF p = 0 then failP p else p))) from rfl)) ?_
            refine a_if_neB (pc := 147) (tgt := 161) dX12_one_147 (by decide) (fun c147 => ?_) (fun c147 => ?_)
            · have hn : nameF p = 0 := Decidable.byContradiction (fun z => absurd ((congrArg pBad (if_neg z : (if nameF p = 0 then failP p else p) = p)).symm.trans c147) (by rw [c127]; decide))
              have e : oneL (byP s F Z) Z on ei p = (eNum 0, failP p) := by first | ((rw [oneL, if_neg (by rw [c8]; decide), if_neg (by rw [c43]; decide), if_neg (fun z => absurd (z.1.symm.trans c99) (by decide)), if_pos ⟨c127, c135⟩, if_pos hn]) <;> rfl) | ((rw [oneL, if_neg (by rw [c8]; decide), if_neg (by rw [c43]; decide), if_neg (fun z => c107 z.2), if_pos ⟨c127, c135⟩, if_pos hn]) <;> rfl)
              refine a_hp (show _ = mh m (pst s (failP p)) h0 by rw [if_pos hn]) ?_
              have ev : (if nameF p = 0 then nI 0 else s.1 (nameF p)) = 0 := if_pos hn
              refine a_iload_n (pc := 161) dX12_one_161 rfl rfl ?_
              refine a_ret_i (pc := 162) hM rfl (rfl) dX12_one_162 (by omega) (by omega) ?_
              exact ⟨by first | ((rw [e]) <;> rfl) | ((rw [e, ev]) <;> rfl), by rw [e]⟩
            · have hn : ¬ nameF p = 0 := fun z => absurd ((congrArg pBad (if_pos z : (if nameF p = 0 then failP p else p) = failP p)).symm.trans c147) (by rw [fail_bad]; decide)
              have hnh : pHr (if nameF p = 0 then failP p else p) ≤ Z := by rw [if_neg hn]; exact hh
              refine a_aload_n (pc := 150) dX12_one_150 rfl rfl ?_
              refine a_callV (pc := 151) km_X12_291 dX12_one_151 (f_next hm (if nameF p = 0 then failP p else p) h32 h33 hF hZ hnh) rfl rfl (krecv_of (ci := 12) rfl (m_obj hm)) (rok_of hM (by omega) (by decide) (by omega) (by omega)) (Nat.le_of_ble_eq_true rfl) (fun r151 h151 hp151 => ?_)
              obtain ⟨rfl, rfl⟩ := hp151
              have e : oneL (byP s F Z) Z on ei p = (eNam (nameF p), nextF (byP s F Z) Z p) := by first | ((rw [oneL, if_neg (by rw [c8]; decide), if_neg (by rw [c43]; decide), if_neg (fun z => absurd (z.1.symm.trans c99) (by decide)), if_pos ⟨c127, c135⟩, if_neg hn]) <;> rfl) | ((rw [oneL, if_neg (by rw [c8]; decide), if_neg (by rw [c43]; decide), if_neg (fun z => c107 z.2), if_pos ⟨c127, c135⟩, if_neg hn]) <;> rfl)
              refine a_hp (show _ = mh m (pst s (nextF (byP s F Z) Z p)) h0 by rw [if_neg hn]) ?_
              have ev : (if nameF p = 0 then nI 0 else s.1 (nameF p)) = s.1 (nameF p) := if_neg hn
              refine a_goto (pc := 154) (tgt := 161) dX12_one_154 (by decide) ?_
              refine a_iload_n (pc := 161) dX12_one_161 rfl rfl ?_
              refine a_ret_i (pc := 162) hM rfl (rfl) dX12_one_162 (by omega) (by omega) ?_
              exact ⟨by first | ((rw [e]) <;> rfl) | ((rw [e, ev]) <;> rfl), by rw [e]⟩
      · refine a_aload_n (pc := 102) dX12_one_102 rfl rfl ?_
        refine a_getfield (pc := 103) kg_X12_257 dX12_one_103 (m_obj hm) rfl ?_
        refine a_topi ((show _ = nI (pTk p) from rfl)) ?_
        refine a_iconst (pc := 106) dX12_one_106 ic_2 ?_
        refine a_icmp_neN (pc := 107) (tgt := 123) dX12_one_107 (by decide) (by omega) (by omega) (fun c107 => ?_) (fun c107 => ?_)
        · refine a_aload_n (pc := 123) dX12_one_123 rfl rfl ?_
          refine a_getfield (pc := 124) kg_X12_278 dX12_one_124 (m_obj hm) rfl ?_
          refine a_topi ((show _ = bI (pBad (p)) from rfl)) ?_
          refine a_if_neB (pc := 127) (tgt := 157) dX12_one_127 (by decide) (fun c127 => ?_) (fun c127 => ?_)
          · refine a_aload_n (pc := 157) dX12_one_157 rfl rfl ?_
            refine a_callV (pc := 158) km_X12_288 dX12_one_158 (f_fail hm p) rfl rfl (krecv_of (ci := 12) rfl (m_obj hm)) (rok_of hM (by omega) (by decide) (by omega) (by omega)) (Nat.le_of_ble_eq_true rfl) (fun r158 h158 hp158 => ?_)
            obtain ⟨rfl, rfl⟩ := hp158
            have e : oneL (byP s F Z) Z on ei p = (eNum 0, failP p) := by first | ((rw [oneL, if_neg (by rw [c8]; decide), if_neg (by rw [c43]; decide), if_neg (fun z => absurd (z.1.symm.trans c99) (by decide)), if_neg (fun z => absurd (z.1.symm.trans c127) (by decide))]) <;> rfl) | ((rw [oneL, if_neg (by rw [c8]; decide), if_neg (by rw [c43]; decide), if_neg (fun z => absurd (z.1.symm.trans c99) (by decide)), if_neg (fun z => c135 z.2)]) <;> rfl) | ((rw [oneL, if_neg (by rw [c8]; decide), if_neg (by rw [c43]; decide), if_neg (fun z => c107 z.2), if_neg (fun z => absurd (z.1.symm.trans c127) (by decide))]) <;> rfl) | ((rw [oneL, if_neg (by rw [c8]; decide), if_neg (by rw [c43]; decide), if_neg (fun z => c107 z.2), if_neg (fun z => c135 z.2)]) <;> rfl)
            refine a_iload_n (pc := 161) dX12_one_161 rfl rfl ?_
            refine a_ret_i (pc := 162) hM rfl (rfl) dX12_one_162 (by omega) (by omega) ?_
            exact ⟨by first | ((rw [e]) <;> rfl) | ((rw [e, ev]) <;> rfl), by rw [e]⟩
          · refine a_aload_n (pc := 130) dX12_one_130 rfl rfl ?_
            refine a_getfield (pc := 131) kg_X12_257 dX12_one_131 (m_obj hm) rfl ?_
            refine a_topi ((show _ = nI (pTk p) from rfl)) ?_
            refine a_iconst (pc := 134) dX12_one_134 ic_1 ?_
            refine a_icmp_neN (pc := 135) (tgt := 157) dX12_one_135 (by decide) (by omega) (by omega) (fun c135 => ?_) (fun c135 => ?_)
            · refine a_aload_n (pc := 157) dX12_one_157 rfl rfl ?_
              refine a_callV (pc := 158) km_X12_288 dX12_one_158 (f_fail hm p) rfl rfl (krecv_of (ci := 12) rfl (m_obj hm)) (rok_of hM (by omega) (by decide) (by omega) (by omega)) (Nat.le_of_ble_eq_true rfl) (fun r158 h158 hp158 => ?_)
              obtain ⟨rfl, rfl⟩ := hp158
              have e : oneL (byP s F Z) Z on ei p = (eNum 0, failP p) := by first | ((rw [oneL, if_neg (by rw [c8]; decide), if_neg (by rw [c43]; decide), if_neg (fun z => absurd (z.1.symm.trans c99) (by decide)), if_neg (fun z => absurd (z.1.symm.trans c127) (by decide))]) <;> rfl) | ((rw [oneL, if_neg (by rw [c8]; decide), if_neg (by rw [c43]; decide), if_neg (fun z => absurd (z.1.symm.trans c99) (by decide)), if_neg (fun z => c135 z.2)]) <;> rfl) | ((rw [oneL, if_neg (by rw [c8]; decide), if_neg (by rw [c43]; decide), if_neg (fun z => c107 z.2), if_neg (fun z => absurd (z.1.symm.trans c127) (by decide))]) <;> rfl) | ((rw [oneL, if_neg (by rw [c8]; decide), if_neg (by rw [c43]; decide), if_neg (fun z => c107 z.2), if_neg (fun z => c135 z.2)]) <;> rfl)
              refine a_iload_n (pc := 161) dX12_one_161 rfl rfl ?_
              refine a_ret_i (pc := 162) hM rfl (rfl) dX12_one_162 (by omega) (by omega) ?_
              exact ⟨by first | ((rw [e]) <;> rfl) | ((rw [e, ev]) <;> rfl), by rw [e]⟩
            · refine a_aload_n (pc := 138) dX12_one_138 rfl rfl ?_
              refine a_callV (pc := 139) km_X12_342 dX12_one_139 (f_name hm p hk) rfl rfl (krecv_of (ci := 12) rfl (m_obj hm)) (rok_of hM (by omega) (by decide) (by omega) (by omega)) (Nat.le_of_ble_eq_true rfl) (fun r139 h139 hp139 => ?_)
              obtain ⟨rfl, rfl⟩ := hp139
              refine a_istore_n (pc := 142) dX12_one_142 rfl (by decide) rfl ?_
              refine a_aload_n (pc := 143) dX12_one_143 rfl rfl ?_
              refine a_getfield (pc := 144) kg_X12_278 dX12_one_144 (m_obj hm) rfl ?_
              refine a_topi ((show _ = bI (pBad ((if nameF p = 0 then failP p else p))) from rfl)) ?_
              refine a_if_neB (pc := 147) (tgt := 161) dX12_one_147 (by decide) (fun c147 => ?_) (fun c147 => ?_)
              · have hn : nameF p = 0 := Decidable.byContradiction (fun z => absurd ((congrArg pBad (if_neg z : (if nameF p = 0 then failP p else p) = p)).symm.trans c147) (by rw [c127]; decide))
                have e : oneL (byP s F Z) Z on ei p = (eNum 0, failP p) := by first | ((rw [oneL, if_neg (by rw [c8]; decide), if_neg (by rw [c43]; decide), if_neg (fun z => absurd (z.1.symm.trans c99) (by decide)), if_pos ⟨c127, c135⟩, if_pos hn]) <;> rfl) | ((rw [oneL, if_neg (by rw [c8]; decide), if_neg (by rw [c43]; decide), if_neg (fun z => c107 z.2), if_pos ⟨c127, c135⟩, if_pos hn]) <;> rfl)
                refine a_hp (show _ = mh m (pst s (failP p)) h0 by rw [if_pos hn]) ?_
                have ev : (if nameF p = 0 then nI 0 else s.1 (nameF p)) = 0 := if_pos hn
                refine a_iload_n (pc := 161) dX12_one_161 rfl rfl ?_
                refine a_ret_i (pc := 162) hM rfl (rfl) dX12_one_162 (by omega) (by omega) ?_
                exact ⟨by first | ((rw [e]) <;> rfl) | ((rw [e, ev]) <;> rfl), by rw [e]⟩
              · have hn : ¬ nameF p = 0 := fun z => absurd ((congrArg pBad (if_pos z : (if nameF p = 0 then failP p else p) = failP p)).symm.trans c147) (by rw [fail_bad]; decide)
                have hnh : pHr (if nameF p = 0 then failP p else p) ≤ Z := by rw [if_neg hn]; exact hh
                refine a_aload_n (pc := 150) dX12_one_150 rfl rfl ?_
                refine a_callV (pc := 151) km_X12_291 dX12_one_151 (f_next hm (if nameF p = 0 then failP p else p) h32 h33 hF hZ hnh) rfl rfl (krecv_of (ci := 12) rfl (m_obj hm)) (rok_of hM (by omega) (by decide) (by omega) (by omega)) (Nat.le_of_ble_eq_true rfl) (fun r151 h151 hp151 => ?_)
                obtain ⟨rfl, rfl⟩ := hp151
                have e : oneL (byP s F Z) Z on ei p = (eNam (nameF p), nextF (byP s F Z) Z p) := by first | ((rw [oneL, if_neg (by rw [c8]; decide), if_neg (by rw [c43]; decide), if_neg (fun z => absurd (z.1.symm.trans c99) (by decide)), if_pos ⟨c127, c135⟩, if_neg hn]) <;> rfl) | ((rw [oneL, if_neg (by rw [c8]; decide), if_neg (by rw [c43]; decide), if_neg (fun z => c107 z.2), if_pos ⟨c127, c135⟩, if_neg hn]) <;> rfl)
                refine a_hp (show _ = mh m (pst s (nextF (byP s F Z) Z p)) h0 by rw [if_neg hn]) ?_
                have ev : (if nameF p = 0 then nI 0 else s.1 (nameF p)) = s.1 (nameF p) := if_neg hn
                refine a_goto (pc := 154) (tgt := 161) dX12_one_154 (by decide) ?_
                refine a_iload_n (pc := 161) dX12_one_161 rfl rfl ?_
                refine a_ret_i (pc := 162) hM rfl (rfl) dX12_one_162 (by omega) (by omega) ?_
                exact ⟨by first | ((rw [e]) <;> rfl) | ((rw [e, ev]) <;> rfl), by rw [e]⟩
        · refine a_aload_n (pc := 110) dX12_one_110 rfl rfl ?_
          refine a_getfield (pc := 111) kg_X12_264 dX12_one_111 (m_obj hm) rfl ?_
          refine a_topl ((show _ = pW p from rfl)) ?_
          refine a_l2i (pc := 114) dX12_one_114 ?_
          refine a_istore_n (pc := 115) dX12_one_115 rfl (by decide) rfl ?_
          refine a_aload_n (pc := 116) dX12_one_116 rfl rfl ?_
          refine a_callV (pc := 117) km_X12_291 dX12_one_117 (f_next hm p h32 h33 hF hZ hh) rfl rfl (krecv_of (ci := 12) rfl (m_obj hm)) (rok_of hM (by omega) (by decide) (by omega) (by omega)) (Nat.le_of_ble_eq_true rfl) (fun r117 h117 hp117 => ?_)
          obtain ⟨rfl, rfl⟩ := hp117
          have e : oneL (byP s F Z) Z on ei p = (eNum (pW p).toInt32, nextF (byP s F Z) Z p) := by (rw [oneL, if_neg (by rw [c8]; decide), if_neg (by rw [c43]; decide), if_pos ⟨c99, c107⟩]) <;> rfl
          refine a_goto (pc := 120) (tgt := 161) dX12_one_120 (by decide) ?_
          refine a_iload_n (pc := 161) dX12_one_161 rfl rfl ?_
          refine a_ret_i (pc := 162) hM rfl (rfl) dX12_one_162 (by omega) (by omega) ?_
          exact ⟨by first | ((rw [e]) <;> rfl) | ((rw [e, ev]) <;> rfl), by rw [e]⟩
    · refine a_aload_n (pc := 46) dX12_one_46 rfl rfl ?_
      refine a_callV (pc := 47) km_X12_331 dX12_one_47 (f_opens hm p h32 h33 hF hZ hh ho) rfl rfl (krecv_of (ci := 12) rfl (m_obj hm)) (rok_of hM (by omega) (by decide) (by omega) (by omega)) (Nat.le_of_ble_eq_true rfl) (fun r47 h47 hp47 => ?_)
      obtain ⟨rfl, rfl⟩ := hp47
      refine a_if_eqB (pc := 50) (tgt := 161) dX12_one_50 (by decide) (fun c50 => ?_) (fun c50 => ?_)
      · have hop : pOp p = 5 := Decidable.not_not.mp (of_decide_eq_false c50)
        refine a_hp (show _ = mh m (pst s (failP p)) h0 by rw [show (opensF (byP s F Z) Z p) = failP p from if_pos hop]) ?_
        have e : oneL (byP s F Z) Z on ei p = (eNum 0, failP p) := by (rw [oneL, if_neg (by rw [c8]; decide), if_pos c43, if_pos hop]) <;> rfl
        refine a_iload_n (pc := 161) dX12_one_161 rfl rfl ?_
        refine a_ret_i (pc := 162) hM rfl (rfl) dX12_one_162 (by omega) (by omega) ?_
        exact ⟨by first | ((rw [e]) <;> rfl) | ((rw [e, ev]) <;> rfl), by rw [e]⟩
      · have hop : ¬ pOp p = 5 := of_decide_eq_true c50
        have ht := (isS_3 c43).2
        obtain ⟨a1, a2, a3⟩ := opens_g (s := s) (F := F) hg (by omega) (by omega) hop
        obtain ⟨hfn, b1, b2, b3⟩ := hei (j - 1) (by omega) _ a1 (by omega)
        refine a_aload_n (pc := 53) dX12_one_53 rfl rfl ?_
        refine a_callV (pc := 54) km_X12_339 dX12_one_54 (hfn) rfl rfl (krecv_of (ci := 12) rfl (m_obj hm)) (rok_of hM (by omega) (by decide) (by omega) (by omega)) (Nat.le_of_ble_eq_true rfl) (fun r54 h54 hp54 => ?_)
        obtain ⟨rfl, rfl⟩ := hp54
        refine a_istore_n (pc := 57) dX12_one_57 rfl (by decide) rfl ?_
        refine a_aload_n (pc := 58) dX12_one_58 rfl rfl ?_
        refine a_bipush (pc := 59) dX12_one_59 ib_41 ?_
        refine a_callV (pc := 61) km_X12_328 dX12_one_61 (f_isSign hm (ei (opensF (byP s F Z) Z p)).2 b1.1 (c := 41) (by decide)) rfl rfl (krecv_of (ci := 12) rfl (m_obj hm)) (rok_of hM (by omega) (by decide) (by omega) (by omega)) (Nat.le_of_ble_eq_true rfl) (fun r61 h61 hp61 => ?_)
        obtain ⟨rfl, rfl⟩ := hp61
        refine a_if_neB (pc := 64) (tgt := 71) dX12_one_64 (by decide) (fun c64 => ?_) (fun c64 => ?_)
        · obtain ⟨q, hq⟩ : ∃ q, q = (ei (opensF (byP s F Z) Z p)).2 := ⟨_, rfl⟩
          refine a_hp (show _ = mh m (pst s q) h0 by rw [hq]) ?_
          have gq : gP Z q := hq ▸ b1
          have oq : pOp q = pOp p + 1 := by rw [hq]; omega
          have eq : (if isS (ei (opensF (byP s F Z) Z p)).2 41 = true then (ei (opensF (byP s F Z) Z p)).2 else failP (ei (opensF (byP s F Z) Z p)).2) = q := by rw [if_pos c64, hq]
          refine a_aload_n (pc := 71) dX12_one_71 rfl rfl ?_
          refine a_dup (pc := 72) dX12_one_72 rfl ?_
          refine a_getfield (pc := 73) kg_X12_285 dX12_one_73 (m_obj hm) rfl ?_
          refine a_topi ((show _ = nI (pOp q) from rfl)) ?_
          refine a_iconst (pc := 76) dX12_one_76 ic_1 ?_
          refine a_isubN (pc := 77) dX12_one_77 (by omega) ?_
          refine a_putfield (pc := 78) kf_X12_285 dX12_one_78 (m_obj hm) (rfl) (by rfl) (Nat.le_of_ble_eq_true rfl) ?_
          refine a_hp (m_p38 hm) ?_
          refine a_hp (show _ = mh m (pst s (clP q)) h0 from congrArg (fun t => mh m t h0) (pst_38 (v := pOp q - 1))) ?_
          refine a_aload_n (pc := 81) dX12_one_81 rfl rfl ?_
          refine a_getfield (pc := 82) kg_X12_278 dX12_one_82 (m_obj hm) rfl ?_
          refine a_topi ((show _ = bI (pBad (clP q)) from rfl)) ?_
          refine a_if_neB (pc := 85) (tgt := 161) dX12_one_85 (by decide) (fun c85 => ?_) (fun c85 => ?_)
          · have e : oneL (byP s F Z) Z on ei p = ((ei (opensF (byP s F Z) Z p)).1, clP q) := by (rw [oneL, if_neg (by rw [c8]; decide), if_pos c43, if_neg hop, eq, nxP, if_pos c85]) <;> rfl
            refine a_iload_n (pc := 161) dX12_one_161 rfl rfl ?_
            refine a_ret_i (pc := 162) hM rfl (rfl) dX12_one_162 (by omega) (by omega) ?_
            exact ⟨by first | ((rw [e]) <;> rfl) | ((rw [e, ev]) <;> rfl), by rw [e]⟩
          · refine a_aload_n (pc := 88) dX12_one_88 rfl rfl ?_
            refine a_callV (pc := 89) km_X12_291 dX12_one_89 (f_next hm (clP q) h32 h33 hF hZ gq.2.1) rfl rfl (krecv_of (ci := 12) rfl (m_obj hm)) (rok_of hM (by omega) (by decide) (by omega) (by omega)) (Nat.le_of_ble_eq_true rfl) (fun r89 h89 hp89 => ?_)
            obtain ⟨rfl, rfl⟩ := hp89
            have e : oneL (byP s F Z) Z on ei p = ((ei (opensF (byP s F Z) Z p)).1, nextF (byP s F Z) Z (clP q)) := by (rw [oneL, if_neg (by rw [c8]; decide), if_pos c43, if_neg hop, eq, nxP, if_neg (by rw [c85]; decide)]) <;> rfl
            refine a_goto (pc := 92) (tgt := 161) dX12_one_92 (by decide) ?_
            refine a_iload_n (pc := 161) dX12_one_161 rfl rfl ?_
            refine a_ret_i (pc := 162) hM rfl (rfl) dX12_one_162 (by omega) (by omega) ?_
            exact ⟨by first | ((rw [e]) <;> rfl) | ((rw [e, ev]) <;> rfl), by rw [e]⟩
        · refine a_aload_n (pc := 67) dX12_one_67 rfl rfl ?_
          refine a_callV (pc := 68) km_X12_288 dX12_one_68 (f_fail hm (ei (opensF (byP s F Z) Z p)).2) rfl rfl (krecv_of (ci := 12) rfl (m_obj hm)) (rok_of hM (by omega) (by decide) (by omega) (by omega)) (Nat.le_of_ble_eq_true rfl) (fun r68 h68 hp68 => ?_)
          obtain ⟨rfl, rfl⟩ := hp68
          obtain ⟨q, hq⟩ : ∃ q, q = failP (ei (opensF (byP s F Z) Z p)).2 := ⟨_, rfl⟩
          refine a_hp (show _ = mh m (pst s q) h0 by rw [hq]) ?_
          have gq : gP Z q := hq ▸ (fail_g b1).1
          have oq : pOp q = pOp p + 1 := by rw [hq, (fail_g b1).2.2]; omega
          have eq : (if isS (ei (opensF (byP s F Z) Z p)).2 41 = true then (ei (opensF (byP s F Z) Z p)).2 else failP (ei (opensF (byP s F Z) Z p)).2) = q := by rw [if_neg (by rw [c64]; decide), hq]
          refine a_aload_n (pc := 71) dX12_one_71 rfl rfl ?_
          refine a_dup (pc := 72) dX12_one_72 rfl ?_
          refine a_getfield (pc := 73) kg_X12_285 dX12_one_73 (m_obj hm) rfl ?_
          refine a_topi ((show _ = nI (pOp q) from rfl)) ?_
          refine a_iconst (pc := 76) dX12_one_76 ic_1 ?_
          refine a_isubN (pc := 77) dX12_one_77 (by omega) ?_
          refine a_putfield (pc := 78) kf_X12_285 dX12_one_78 (m_obj hm) (rfl) (by rfl) (Nat.le_of_ble_eq_true rfl) ?_
          refine a_hp (m_p38 hm) ?_
          refine a_hp (show _ = mh m (pst s (clP q)) h0 from congrArg (fun t => mh m t h0) (pst_38 (v := pOp q - 1))) ?_
          refine a_aload_n (pc := 81) dX12_one_81 rfl rfl ?_
          refine a_getfield (pc := 82) kg_X12_278 dX12_one_82 (m_obj hm) rfl ?_
          refine a_topi ((show _ = bI (pBad (clP q)) from rfl)) ?_
          refine a_if_neB (pc := 85) (tgt := 161) dX12_one_85 (by decide) (fun c85 => ?_) (fun c85 => ?_)
          · have e : oneL (byP s F Z) Z on ei p = ((ei (opensF (byP s F Z) Z p)).1, clP q) := by (rw [oneL, if_neg (by rw [c8]; decide), if_pos c43, if_neg hop, eq, nxP, if_pos c85]) <;> rfl
            refine a_iload_n (pc := 161) dX12_one_161 rfl rfl ?_
            refine a_ret_i (pc := 162) hM rfl (rfl) dX12_one_162 (by omega) (by omega) ?_
            exact ⟨by first | ((rw [e]) <;> rfl) | ((rw [e, ev]) <;> rfl), by rw [e]⟩
          · refine a_aload_n (pc := 88) dX12_one_88 rfl rfl ?_
            refine a_callV (pc := 89) km_X12_291 dX12_one_89 (f_next hm (clP q) h32 h33 hF hZ gq.2.1) rfl rfl (krecv_of (ci := 12) rfl (m_obj hm)) (rok_of hM (by omega) (by decide) (by omega) (by omega)) (Nat.le_of_ble_eq_true rfl) (fun r89 h89 hp89 => ?_)
            obtain ⟨rfl, rfl⟩ := hp89
            have e : oneL (byP s F Z) Z on ei p = ((ei (opensF (byP s F Z) Z p)).1, nextF (byP s F Z) Z (clP q)) := by (rw [oneL, if_neg (by rw [c8]; decide), if_pos c43, if_neg hop, eq, nxP, if_neg (by rw [c85]; decide)]) <;> rfl
            refine a_goto (pc := 92) (tgt := 161) dX12_one_92 (by decide) ?_
            refine a_iload_n (pc := 161) dX12_one_161 rfl rfl ?_
            refine a_ret_i (pc := 162) hM rfl (rfl) dX12_one_162 (by omega) (by omega) ?_
            exact ⟨by first | ((rw [e]) <;> rfl) | ((rw [e, ev]) <;> rfl), by rw [e]⟩
  · refine a_aload_n (pc := 11) dX12_one_11 rfl rfl ?_
    refine a_callV (pc := 12) km_X12_331 dX12_one_12 (f_opens hm p h32 h33 hF hZ hh ho) rfl rfl (krecv_of (ci := 12) rfl (m_obj hm)) (rok_of hM (by omega) (by decide) (by omega) (by omega)) (Nat.le_of_ble_eq_true rfl) (fun r12 h12 hp12 => ?_)
    obtain ⟨rfl, rfl⟩ := hp12
    refine a_if_eqB (pc := 15) (tgt := 161) dX12_one_15 (by decide) (fun c15 => ?_) (fun c15 => ?_)
    · have hop : pOp p = 5 := Decidable.not_not.mp (of_decide_eq_false c15)
      refine a_hp (show _ = mh m (pst s (failP p)) h0 by rw [show (opensF (byP s F Z) Z p) = failP p from if_pos hop]) ?_
      have e : oneL (byP s F Z) Z on ei p = (eNum 0, failP p) := by (rw [oneL, if_pos c8, if_pos hop]) <;> rfl
      refine a_iload_n (pc := 161) dX12_one_161 rfl rfl ?_
      refine a_ret_i (pc := 162) hM rfl (rfl) dX12_one_162 (by omega) (by omega) ?_
      exact ⟨by first | ((rw [e]) <;> rfl) | ((rw [e, ev]) <;> rfl), by rw [e]⟩
    · have hop : ¬ pOp p = 5 := of_decide_eq_true c15
      have ht := (isS_3 c8).2
      obtain ⟨a1, a2, a3⟩ := opens_g (s := s) (F := F) hg (by omega) (by omega) hop
      obtain ⟨hfn, b1, b2, b3⟩ := hon (j - 1) (by omega) _ a1 (by omega)
      refine a_aload_n (pc := 18) dX12_one_18 rfl rfl ?_
      refine a_callV (pc := 19) km_X12_335 dX12_one_19 (hfn) rfl rfl (krecv_of (ci := 12) rfl (m_obj hm)) (rok_of hM (by omega) (by decide) (by omega) (by omega)) (Nat.le_of_ble_eq_true rfl) (fun r19 h19 hp19 => ?_)
      obtain ⟨rfl, rfl⟩ := hp19
      refine a_ineg (pc := 22) dX12_one_22 ?_
      refine a_istore_n (pc := 23) dX12_one_23 rfl (by decide) rfl ?_
      refine a_aload_n (pc := 24) dX12_one_24 rfl rfl ?_
      refine a_dup (pc := 25) dX12_one_25 rfl ?_
      refine a_getfield (pc := 26) kg_X12_285 dX12_one_26 (m_obj hm) rfl ?_
      refine a_topi ((show _ = nI (pOp (on (opensF (byP s F Z) Z p)).2) from rfl)) ?_
      refine a_iconst (pc := 29) dX12_one_29 ic_1 ?_
      refine a_isubN (pc := 30) dX12_one_30 (by omega) ?_
      refine a_putfield (pc := 31) kf_X12_285 dX12_one_31 (m_obj hm) (rfl) (by rfl) (Nat.le_of_ble_eq_true rfl) ?_
      refine a_hp (m_p38 hm) ?_
      refine a_hp (show _ = mh m (pst s (clP (on (opensF (byP s F Z) Z p)).2)) h0 from congrArg (fun t => mh m t h0) (pst_38 (v := pOp (on (opensF (byP s F Z) Z p)).2 - 1))) ?_
      have e : oneL (byP s F Z) Z on ei p = (eNeg (on (opensF (byP s F Z) Z p)).1, clP (on (opensF (byP s F Z) Z p)).2) := by (rw [oneL, if_pos c8, if_neg hop]) <;> rfl
      refine a_goto (pc := 34) (tgt := 161) dX12_one_34 (by decide) ?_
      refine a_iload_n (pc := 161) dX12_one_161 rfl rfl ?_
      refine a_ret_i (pc := 162) hM rfl (rfl) dX12_one_162 (by omega) (by omega) ?_
      exact ⟨by first | ((rw [e]) <;> rfl) | ((rw [e, ev]) <;> rfl), by rw [e]⟩

end MQ3

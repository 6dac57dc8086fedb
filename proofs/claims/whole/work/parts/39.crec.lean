/-! THE CLASS READS: one -/
section CRO
variable {X : KX} {h : AH} {s : MST}
set_option maxRecDepth 4000 in
theorem f_among (x : Int32) {n : Nat} (hn : n < 2147483648) : Fn X 0 0 0 yX11_among cX11_among 2 (some .boolean) [.int x, .int (nI n)] h (fun rv hv => rv = some (.int (bI (inN x n))) ∧ hv = h) := by
  refine fn_of (by decide) (Nat.le_of_ble_eq_true rfl) (fun M hM => ?_)
  refine a_iconst (pc := 0) dX11_among_0 ic_0 ?_
  refine a_iload_n (pc := 1) dX11_among_1 rfl rfl ?_
  refine a_icmp_gt (pc := 2) (tgt := 14) dX11_among_2 (by decide) (fun c2 => ?_) (fun c2 => ?_)
  · have e : inN x n = false := Bool.eq_false_iff.mpr (fun z => absurd ((inN_iff hn).mp z).1 (Int32.not_le.mpr c2))
    refine a_iconst (pc := 14) dX11_among_14 ic_0 ?_
    refine a_ret_i (pc := 15) hM rfl (by decide +kernel) dX11_among_15 (by omega) (by omega) ?_
    exact ⟨by rw [e]; rfl, rfl⟩
  · refine a_iload_n (pc := 5) dX11_among_5 rfl rfl ?_
    refine a_iload_n (pc := 6) dX11_among_6 rfl rfl ?_
    refine a_icmp_ge (pc := 7) (tgt := 14) dX11_among_7 (by decide) (fun c7 => ?_) (fun c7 => ?_)
    · have e : inN x n = false := Bool.eq_false_iff.mpr (fun z => absurd ((inN_iff hn).mp z).2 (Int32.not_lt.mpr c7))
      refine a_iconst (pc := 14) dX11_among_14 ic_0 ?_
      refine a_ret_i (pc := 15) hM rfl (by decide +kernel) dX11_among_15 (by omega) (by omega) ?_
      exact ⟨by rw [e]; rfl, rfl⟩
    · have e : inN x n = true := (inN_iff hn).mpr ⟨Int32.not_lt.mp c2, Int32.not_le.mp c7⟩
      refine a_iconst (pc := 10) dX11_among_10 ic_1 ?_
      refine a_goto (pc := 11) (tgt := 15) dX11_among_11 (by decide) ?_
      refine a_ret_i (pc := 15) hM rfl (by decide +kernel) dX11_among_15 (by omega) (by omega) ?_
      exact ⟨by rw [e]; rfl, rfl⟩

/-- what a piece leaves in the class's reader -/
def crP (h : AH) (r t cd en c : Nat) (b : Nat → Int32) (Z : Nat) (q : Rs) (L k : Nat) (fc : Nat → Int32) (hv : AH) : Prop := ∃ (L' k' : Nat) (tk' ft' : Int32) (fc' : Nat → Int32), hv = RH h r t cd en L' k' tk' ft' fc' ∧ L' ≤ 160 ∧ RelR b Z c q.2 k' tk' ft' ∧ Gd L k fc q L' k' fc'
/-- the contract of a piece of the class's reader, where j more may open -/
def crC (X : KX) (h : AH) (r t cd en c : Nat) (b : Nat → Int32) (Z d j : Nat) (y : MethodName) (cc : ByteArray) (nL : Nat) (args : List Value) (F : PS → Rs) : Prop := ∀ (p : PS) (L k : Nat) (tk ft : Int32) (fc : Nat → Int32), gP Z p → pOp p + j = 5 → RelR b Z c p k tk ft → L ≤ 160 → (pBad p = false → L ≤ k) → Fn X d 0 0 y cc nL none (.ref r :: args) (RH h r t cd en L k tk ft fc) (fun rv hv => rv = none ∧ crP h r t cd en c b Z (F p) L k fc hv)
theorem Gd_w {L k k0 : Nat} {fc : Nat → Int32} {r : Rs} {L' k' : Nat} {fc' : Nat → Int32} (h : Gd L (k + k0) fc r L' k' fc') : Gd L k fc r L' k' fc' := fun hb => by
  obtain ⟨a, b, c, d⟩ := h hb
  exact ⟨a, b, c, by omega⟩
theorem Gd_0 {L k k' : Nat} {fc : Nat → Int32} {w : Vl} {p : PS} (h : k ≤ k') : Gd L k fc (([], w), p) L k' fc := fun _ => ⟨rfl, fun _ _ => rfl, fun i c hc => by simp at hc, h⟩
theorem Gd_bad {L k L' k' : Nat} {fc fc' : Nat → Int32} {e : List Cd × Vl} {p : PS} (h : pBad p = true) : Gd L k fc (e, p) L' k' fc' := fun hb => absurd (h.symm.trans hb) (by decide)
theorem nameF_w {p : PS} (h : isW p (pW p) = true) : (∃ w, w < 6 ∧ tkOf p = nI w ∧ nameF p = 41 + w) ∨ (nameF p = 0 ∧ inN (tkOf p) 6 = false) := by
  have hk := isW_1 h
  have hb : tkOf p = kdW (pW p) := by
    unfold tkOf kdOf
    rw [if_neg (by rw [hk.1]; decide), if_neg (by omega), if_pos hk.2]
  have hw : ∀ x, isW p x = decide (pW p = x) := fun x => by
    unfold isW
    rw [hk.1, hk.2]
    rfl
  rw [hb]
  unfold nameF
  simp only [hw, decide_eq_true_eq]
  by_cases h0 : pW p = lN 164584
  · exact Or.inl ⟨0, by decide, by rw [h0]; decide +kernel, by rw [if_pos h0]⟩
  by_cases h1 : pW p = lN 13703
  · exact Or.inl ⟨1, by decide, by rw [h1]; decide +kernel, by rw [if_neg h0, if_pos h1]⟩
  by_cases h2 : pW p = lN 1065
  · exact Or.inl ⟨2, by decide, by rw [h2]; decide +kernel, by rw [if_neg h0, if_neg h1, if_pos h2]⟩
  by_cases h3 : pW p = lN 6476752
  · exact Or.inl ⟨3, by decide, by rw [h3]; decide +kernel, by rw [if_neg h0, if_neg h1, if_neg h2, if_pos h3]⟩
  by_cases h4 : pW p = lN 2968
  · exact Or.inl ⟨4, by decide, by rw [h4]; decide +kernel, by rw [if_neg h0, if_neg h1, if_neg h2, if_neg h3, if_pos h4]⟩
  by_cases h5 : pW p = lN 279875
  · exact Or.inl ⟨5, by decide, by rw [h5]; decide +kernel, by rw [if_neg h0, if_neg h1, if_neg h2, if_neg h3, if_neg h4, if_pos h5]⟩
  refine Or.inr ⟨by rw [if_neg h0, if_neg h1, if_neg h2, if_neg h3, if_neg h4, if_neg h5], ?_⟩
  rcases kdW_r (pW p) with q | ⟨w, q1, q2⟩
  · rw [q]; decide
  · rw [q2]
    have hne : ∀ v, v < 6 → w ≠ v := fun v hv e => by
      have := (kdW_iff q1).mp q2
      rw [e] at this
      rcases (by omega : v = 0 ∨ v = 1 ∨ v = 2 ∨ v = 3 ∨ v = 4 ∨ v = 5) with rfl | rfl | rfl | rfl | rfl | rfl
      · exact h0 this
      · exact h1 this
      · exact h2 this
      · exact h3 this
      · exact h4 this
      · exact h5 this
    have h6 : 6 ≤ w := by
      have a0 := hne 0 (by decide)
      have a1 := hne 1 (by decide)
      have a2 := hne 2 (by decide)
      have a3 := hne 3 (by decide)
      have a4 := hne 4 (by decide)
      have a5 := hne 5 (by decide)
      omega
    apply Bool.eq_false_iff.mpr
    intro z
    simp only [inN, Bool.and_eq_true, decide_eq_true_eq] at z
    rw [nI_toInt (by omega)] at z
    omega
theorem c_one {F Z r t kk pp nn cd en c : Nat} {fk fp fn : Nat → Int32} (d : RF h r t kk pp nn cd c fk fp fn) (hT : TokOk (byP s F Z) Z c fk fp fn) (hZ : Z ≤ 160) {j dd dp dc : Nat} (hdp : dp + 1 ≤ dd) (hdc : dc + 1 ≤ dd) (hd2 : 2 ≤ dd) {on ei : PS → Rs} (hon : ∀ i, j = i + 1 → crC X h r t cd en c (byP s F Z) Z dp i yX4_part cX4_part 3 [.int (nI 4), .int (nI (5 - i))] on) (hei : ∀ i, j = i + 1 → crC X h r t cd en c (byP s F Z) Z dc i yX4_chain cX4_chain 5 [.int (nI 0), .int (nI (5 - i))] ei) (hoe : ∀ i, j = i + 1 → ∀ p, gP Z p → pOp p + i = 5 → oK Z p (ei p)) :
    crC X h r t cd en c (byP s F Z) Z dd j yX4_one cX4_one 3 [.int (nI (5 - j))] (oneL (byP s F Z) Z on ei) := by
  intro p L k tk ft fc hg hj hR hL hLk
  have hk := hR.1
  have hw := hR.2.2.1
  have htk := hR.2.1
  have h45 := tk_S hw (c := 45) (by decide)
  have h40 := tk_S hw (c := 40) (by decide)
  have h12 := tk_N hw
  rw [← htk] at h45 h40 h12
  have hopj : pOp p = 5 - j := by omega
  rw [show 5 - j = pOp p from hopj.symm]
  refine fn_of (by decide) (Nat.le_of_ble_eq_true rfl) (fun M hM => ?_)
  by_cases q45 : isS p 45 = true
  · obtain rfl := h45.mpr q45
    have hb := (isS_3 q45).1
    have ht := (isS_3 q45).2
    by_cases hop : pOp p = 5
    · have e : oneL (byP s F Z) Z on ei p = (eNum 0, failP p) := by rw [oneL, if_pos q45, if_pos hop]
      refine a_aload_n (pc := 0) dX4_one_0 rfl rfl ?_
      refine a_getfield (pc := 1) kg_X4_44 dX4_one_1 (RH_r) rfl ?_
      refine a_bipush (pc := 4) dX4_one_4 ib_40 ?_
      refine a_icmp_eq_f (pc := 6) (tgt := 18) dX4_one_6 (by decide) (by decide) ?_
      refine a_aload_n (pc := 9) dX4_one_9 rfl rfl ?_
      refine a_getfield (pc := 10) kg_X4_44 dX4_one_10 (RH_r) rfl ?_
      refine a_bipush (pc := 13) dX4_one_13 ib_45 ?_
      refine a_icmp_ne_f (pc := 15) (tgt := 22) dX4_one_15 (by decide) (by decide) ?_
      refine a_iconst (pc := 18) dX4_one_18 ic_1 ?_
      refine a_goto (pc := 19) (tgt := 23) dX4_one_19 (by decide) ?_
      refine a_istore_n (pc := 23) dX4_one_23 rfl (by decide) rfl ?_
      refine a_iload_n (pc := 24) dX4_one_24 rfl rfl ?_
      refine a_if_eq_f (pc := 25) (tgt := 40) dX4_one_25 (by decide) (by decide) ?_
      refine a_iload_n (pc := 28) dX4_one_28 rfl rfl ?_
      refine a_iconst (pc := 29) dX4_one_29 ic_5 ?_
      refine a_icmp_ltN (pc := 30) (tgt := 40) dX4_one_30 (by decide) (by omega) (by omega) (fun c30 => ?_) (fun c30 => ?_)
      · exact absurd c30 (by omega)
      · refine a_aload_n (pc := 33) dX4_one_33 rfl rfl ?_
        refine a_callV (pc := 34) km_X4_72 dX4_one_34 (f_refuse d hk) rfl rfl (krecv_of (by rfl) RH_r) (rok_of hM (by omega) (by decide) (by omega) (by omega)) (Nat.le_of_ble_eq_true rfl) (fun r34 h34 hp34 => ?_)
        obtain ⟨rfl, rfl⟩ := hp34
        refine a_goto (pc := 37) (tgt := 165) dX4_one_37 (by decide) ?_
        refine a_ret_v (pc := 165) hM rfl dX4_one_165 (by omega) (by omega) ?_
        exact ⟨rfl, by rw [e]; exact ⟨L, k, (-2), (rfF fp k ft), fc, rfl, hL, Rel_fail hT hZ hR hg, Gd_bad (fail_bad p)⟩⟩
    · have hope : opensF (byP s F Z) Z p = nextF (byP s F Z) Z (uOp p (pOp p + 1)) := if_neg hop
      obtain ⟨hs, hR1⟩ := Rel_step hT (Rel_op (v := pOp p + 1) hR) hb ⟨fun z => by have z : pTk p = 0 := z; omega, fun z => by have z : pTk p = 4 := z; omega⟩
      obtain ⟨a1, a2, a3⟩ := opens_g (s := s) (F := F) hg (by omega) (by omega) hop
      have e : oneL (byP s F Z) Z on ei p = (eNeg (on (nextF (byP s F Z) Z (uOp p (pOp p + 1)))).1, clP (on (nextF (byP s F Z) Z (uOp p (pOp p + 1)))).2) := by rw [oneL, if_pos q45, if_neg hop, hope]
      refine a_aload_n (pc := 0) dX4_one_0 rfl rfl ?_
      refine a_getfield (pc := 1) kg_X4_44 dX4_one_1 (RH_r) rfl ?_
      refine a_bipush (pc := 4) dX4_one_4 ib_40 ?_
      refine a_icmp_eq_f (pc := 6) (tgt := 18) dX4_one_6 (by decide) (by decide) ?_
      refine a_aload_n (pc := 9) dX4_one_9 rfl rfl ?_
      refine a_getfield (pc := 10) kg_X4_44 dX4_one_10 (RH_r) rfl ?_
      refine a_bipush (pc := 13) dX4_one_13 ib_45 ?_
      refine a_icmp_ne_f (pc := 15) (tgt := 22) dX4_one_15 (by decide) (by decide) ?_
      refine a_iconst (pc := 18) dX4_one_18 ic_1 ?_
      refine a_goto (pc := 19) (tgt := 23) dX4_one_19 (by decide) ?_
      refine a_istore_n (pc := 23) dX4_one_23 rfl (by decide) rfl ?_
      refine a_iload_n (pc := 24) dX4_one_24 rfl rfl ?_
      refine a_if_eq_f (pc := 25) (tgt := 40) dX4_one_25 (by decide) (by decide) ?_
      refine a_iload_n (pc := 28) dX4_one_28 rfl rfl ?_
      refine a_iconst (pc := 29) dX4_one_29 ic_5 ?_
      refine a_icmp_ltN (pc := 30) (tgt := 40) dX4_one_30 (by decide) (by omega) (by omega) (fun c30 => ?_) (fun c30 => ?_)
      · refine a_aload_n (pc := 40) dX4_one_40 rfl rfl ?_
        refine a_getfield (pc := 41) kg_X4_44 dX4_one_41 (RH_r) rfl ?_
        refine a_bipush (pc := 44) dX4_one_44 ib_12 ?_
        refine a_icmp_ne_t (pc := 46) (tgt := 72) dX4_one_46 (by decide) (by decide) ?_
        refine a_aload_n (pc := 72) dX4_one_72 rfl rfl ?_
        refine a_getfield (pc := 73) kg_X4_44 dX4_one_73 (RH_r) rfl ?_
        refine a_bipush (pc := 76) dX4_one_76 ib_6 ?_
        refine a_callS (pc := 78) km_X4_100 dX4_one_78 (f_among (nI 45) (n := 6) (by decide)) rfl rfl (rok_of hM (by omega) (by decide) (by omega) (by omega)) (Nat.le_of_ble_eq_true rfl) (fun r78 h78 hp78 => ?_)
        obtain ⟨rfl, rfl⟩ := hp78
        refine a_if_eq_t (pc := 81) (tgt := 101) dX4_one_81 (by decide) (by decide) ?_
        refine a_aload_n (pc := 101) dX4_one_101 rfl rfl ?_
        refine a_getfield (pc := 102) kg_X4_44 dX4_one_102 (RH_r) rfl ?_
        refine a_bipush (pc := 105) dX4_one_105 ib_45 ?_
        refine a_icmp_ne_f (pc := 107) (tgt := 131) dX4_one_107 (by decide) (by decide) ?_
        refine a_aload_n (pc := 110) dX4_one_110 rfl rfl ?_
        refine a_callV (pc := 111) km_X4_69 dX4_one_111 (f_step d hk) rfl rfl (krecv_of (by rfl) RH_r) (rok_of hM (by omega) (by decide) (by omega) (by omega)) (Nat.le_of_ble_eq_true rfl) (fun r111 h111 hp111 => ?_)
        obtain ⟨rfl, rfl⟩ := hp111
        refine a_hp (show _ = (RH h r t cd en L (k + 1) (fk (k + 1)) ft fc) by rw [hs]) ?_
        refine a_aload_n (pc := 114) dX4_one_114 rfl rfl ?_
        refine a_iconst (pc := 115) dX4_one_115 ic_4 ?_
        refine a_iload_n (pc := 116) dX4_one_116 rfl rfl ?_
        refine a_iconst (pc := 117) dX4_one_117 ic_1 ?_
        refine a_iaddN (pc := 118) dX4_one_118 ?_
        refine a_topi (show _ = nI (5 - (j - 1)) by rw [show 5 - (j - 1) = pOp p + 1 by omega]) ?_
        refine a_callV (pc := 119) km_X4_81 dX4_one_119 (hon (j - 1) (by omega) _ L (k + 1) (fk (k + 1)) ft fc (hope ▸ a1) (by rw [← hope]; omega) hR1 hL (fun z => by have := hLk hb; omega)) rfl rfl (krecv_of (by rfl) RH_r) (rok_of hM (by omega) (by decide) (by omega) (by omega)) (Nat.le_of_ble_eq_true rfl) (fun r119 h119 hp119 => ?_)
        obtain ⟨rfl, L2, k2, tk2, ft2, fc2, rfl, hL2, hR2, hG2⟩ := hp119
        refine a_aload_n (pc := 122) dX4_one_122 rfl rfl ?_
        refine a_bipush (pc := 123) dX4_one_123 ib_m14 ?_
        refine a_callV (pc := 125) km_X4_88 dX4_one_125 (f_put d hL2 (-14)) rfl rfl (krecv_of (by rfl) RH_r) (rok_of hM (by omega) (by decide) (by omega) (by omega)) (Nat.le_of_ble_eq_true rfl) (fun r125 h125 hp125 => ?_)
        obtain ⟨rfl, rfl⟩ := hp125
        refine a_goto (pc := 128) (tgt := 165) dX4_one_128 (by decide) ?_
        refine a_ret_v (pc := 165) hM rfl dX4_one_165 (by omega) (by omega) ?_
        exact ⟨rfl, by rw [e]; exact ⟨(puL L2), k2, tk2, ft2, (puF L2 fc2 (-14)), rfl, puL_le hL2, Rel_op hR2, Gd_put (Gd_w hG2) id (by have := hR2.1; have := d.c161; omega) (fun z => hLk hb) (fun z => by have := (hG2 z).2.2.2; omega) rfl⟩⟩
      · exact absurd c30 (by omega)
  by_cases q40 : isS p 40 = true
  · obtain rfl := h40.mpr q40
    have hb := (isS_3 q40).1
    have ht := (isS_3 q40).2
    by_cases hop : pOp p = 5
    · have e : oneL (byP s F Z) Z on ei p = (eNum 0, failP p) := by rw [oneL, if_neg q45, if_pos q40, if_pos hop]
      refine a_aload_n (pc := 0) dX4_one_0 rfl rfl ?_
      refine a_getfield (pc := 1) kg_X4_44 dX4_one_1 (RH_r) rfl ?_
      refine a_bipush (pc := 4) dX4_one_4 ib_40 ?_
      refine a_icmp_eq_t (pc := 6) (tgt := 18) dX4_one_6 (by decide) (by decide) ?_
      refine a_iconst (pc := 18) dX4_one_18 ic_1 ?_
      refine a_goto (pc := 19) (tgt := 23) dX4_one_19 (by decide) ?_
      refine a_istore_n (pc := 23) dX4_one_23 rfl (by decide) rfl ?_
      refine a_iload_n (pc := 24) dX4_one_24 rfl rfl ?_
      refine a_if_eq_f (pc := 25) (tgt := 40) dX4_one_25 (by decide) (by decide) ?_
      refine a_iload_n (pc := 28) dX4_one_28 rfl rfl ?_
      refine a_iconst (pc := 29) dX4_one_29 ic_5 ?_
      refine a_icmp_ltN (pc := 30) (tgt := 40) dX4_one_30 (by decide) (by omega) (by omega) (fun c30 => ?_) (fun c30 => ?_)
      · exact absurd c30 (by omega)
      · refine a_aload_n (pc := 33) dX4_one_33 rfl rfl ?_
        refine a_callV (pc := 34) km_X4_72 dX4_one_34 (f_refuse d hk) rfl rfl (krecv_of (by rfl) RH_r) (rok_of hM (by omega) (by decide) (by omega) (by omega)) (Nat.le_of_ble_eq_true rfl) (fun r34 h34 hp34 => ?_)
        obtain ⟨rfl, rfl⟩ := hp34
        refine a_goto (pc := 37) (tgt := 165) dX4_one_37 (by decide) ?_
        refine a_ret_v (pc := 165) hM rfl dX4_one_165 (by omega) (by omega) ?_
        exact ⟨rfl, by rw [e]; exact ⟨L, k, (-2), (rfF fp k ft), fc, rfl, hL, Rel_fail hT hZ hR hg, Gd_bad (fail_bad p)⟩⟩
    · have hope : opensF (byP s F Z) Z p = nextF (byP s F Z) Z (uOp p (pOp p + 1)) := if_neg hop
      obtain ⟨hs, hR1⟩ := Rel_step hT (Rel_op (v := pOp p + 1) hR) hb ⟨fun z => by have z : pTk p = 0 := z; omega, fun z => by have z : pTk p = 4 := z; omega⟩
      obtain ⟨a1, a2, a3⟩ := opens_g (s := s) (F := F) hg (by omega) (by omega) hop
      have e : oneL (byP s F Z) Z on ei p = ((ei (nextF (byP s F Z) Z (uOp p (pOp p + 1)))).1, nxP (byP s F Z) Z (clP (if isS (ei (nextF (byP s F Z) Z (uOp p (pOp p + 1)))).2 41 = true then (ei (nextF (byP s F Z) Z (uOp p (pOp p + 1)))).2 else failP (ei (nextF (byP s F Z) Z (uOp p (pOp p + 1)))).2))) := by rw [oneL, if_neg q45, if_pos q40, if_neg hop, hope]
      refine a_aload_n (pc := 0) dX4_one_0 rfl rfl ?_
      refine a_getfield (pc := 1) kg_X4_44 dX4_one_1 (RH_r) rfl ?_
      refine a_bipush (pc := 4) dX4_one_4 ib_40 ?_
      refine a_icmp_eq_t (pc := 6) (tgt := 18) dX4_one_6 (by decide) (by decide) ?_
      refine a_iconst (pc := 18) dX4_one_18 ic_1 ?_
      refine a_goto (pc := 19) (tgt := 23) dX4_one_19 (by decide) ?_
      refine a_istore_n (pc := 23) dX4_one_23 rfl (by decide) rfl ?_
      refine a_iload_n (pc := 24) dX4_one_24 rfl rfl ?_
      refine a_if_eq_f (pc := 25) (tgt := 40) dX4_one_25 (by decide) (by decide) ?_
      refine a_iload_n (pc := 28) dX4_one_28 rfl rfl ?_
      refine a_iconst (pc := 29) dX4_one_29 ic_5 ?_
      refine a_icmp_ltN (pc := 30) (tgt := 40) dX4_one_30 (by decide) (by omega) (by omega) (fun c30 => ?_) (fun c30 => ?_)
      · refine a_aload_n (pc := 40) dX4_one_40 rfl rfl ?_
        refine a_getfield (pc := 41) kg_X4_44 dX4_one_41 (RH_r) rfl ?_
        refine a_bipush (pc := 44) dX4_one_44 ib_12 ?_
        refine a_icmp_ne_t (pc := 46) (tgt := 72) dX4_one_46 (by decide) (by decide) ?_
        refine a_aload_n (pc := 72) dX4_one_72 rfl rfl ?_
        refine a_getfield (pc := 73) kg_X4_44 dX4_one_73 (RH_r) rfl ?_
        refine a_bipush (pc := 76) dX4_one_76 ib_6 ?_
        refine a_callS (pc := 78) km_X4_100 dX4_one_78 (f_among (nI 40) (n := 6) (by decide)) rfl rfl (rok_of hM (by omega) (by decide) (by omega) (by omega)) (Nat.le_of_ble_eq_true rfl) (fun r78 h78 hp78 => ?_)
        obtain ⟨rfl, rfl⟩ := hp78
        refine a_if_eq_t (pc := 81) (tgt := 101) dX4_one_81 (by decide) (by decide) ?_
        refine a_aload_n (pc := 101) dX4_one_101 rfl rfl ?_
        refine a_getfield (pc := 102) kg_X4_44 dX4_one_102 (RH_r) rfl ?_
        refine a_bipush (pc := 105) dX4_one_105 ib_45 ?_
        refine a_icmp_ne_t (pc := 107) (tgt := 131) dX4_one_107 (by decide) (by decide) ?_
        refine a_aload_n (pc := 131) dX4_one_131 rfl rfl ?_
        refine a_getfield (pc := 132) kg_X4_44 dX4_one_132 (RH_r) rfl ?_
        refine a_bipush (pc := 135) dX4_one_135 ib_40 ?_
        refine a_icmp_ne_f (pc := 137) (tgt := 161) dX4_one_137 (by decide) (by decide) ?_
        refine a_aload_n (pc := 140) dX4_one_140 rfl rfl ?_
        refine a_callV (pc := 141) km_X4_69 dX4_one_141 (f_step d hk) rfl rfl (krecv_of (by rfl) RH_r) (rok_of hM (by omega) (by decide) (by omega) (by omega)) (Nat.le_of_ble_eq_true rfl) (fun r141 h141 hp141 => ?_)
        obtain ⟨rfl, rfl⟩ := hp141
        refine a_hp (show _ = (RH h r t cd en L (k + 1) (fk (k + 1)) ft fc) by rw [hs]) ?_
        refine a_aload_n (pc := 144) dX4_one_144 rfl rfl ?_
        refine a_iconst (pc := 145) dX4_one_145 ic_0 ?_
        refine a_iload_n (pc := 146) dX4_one_146 rfl rfl ?_
        refine a_iconst (pc := 147) dX4_one_147 ic_1 ?_
        refine a_iaddN (pc := 148) dX4_one_148 ?_
        refine a_topi (show _ = nI (5 - (j - 1)) by rw [show 5 - (j - 1) = pOp p + 1 by omega]) ?_
        refine a_callV (pc := 149) km_X4_51 dX4_one_149 (hei (j - 1) (by omega) _ L (k + 1) (fk (k + 1)) ft fc (hope ▸ a1) (by rw [← hope]; omega) hR1 hL (fun z => by have := hLk hb; omega)) rfl rfl (krecv_of (by rfl) RH_r) (rok_of hM (by omega) (by decide) (by omega) (by omega)) (Nat.le_of_ble_eq_true rfl) (fun r149 h149 hp149 => ?_)
        obtain ⟨rfl, L2, k2, tk2, ft2, fc2, rfl, hL2, hR2, hG2⟩ := hp149
        refine a_aload_n (pc := 152) dX4_one_152 rfl rfl ?_
        refine a_bipush (pc := 153) dX4_one_153 ib_41 ?_
        refine a_callV (pc := 155) km_X4_47 dX4_one_155 (f_expect d hR2.1 (nI 41)) rfl rfl (krecv_of (by rfl) RH_r) (rok_of hM (by omega) (by decide) (by omega) (by omega)) (Nat.le_of_ble_eq_true rfl) (fun r155 h155 hp155 => ?_)
        obtain ⟨rfl, rfl⟩ := hp155
        refine a_goto (pc := 158) (tgt := 165) dX4_one_158 (by decide) ?_
        refine a_ret_v (pc := 165) hM rfl dX4_one_165 (by omega) (by omega) ?_
        rw [e]
        have hei2 := hoe (j - 1) (by omega) _ (hope ▸ a1) (by rw [← hope]; omega)
        have tS := tk_S hR2.2.2.1 (c := 41) (by decide)
        by_cases c41 : tk2 = nI 41
        · have hS : isS (ei (nextF (byP s F Z) Z (uOp p (pOp p + 1)))).2 41 = true := tS.mp (hR2.2.1 ▸ c41)
          have hb2 := (isS_3 hS).1
          have ht2 := (isS_3 hS).2
          obtain ⟨hs2, hR3⟩ := Rel_step hT (Rel_op (v := pOp (ei (nextF (byP s F Z) Z (uOp p (pOp p + 1)))).2 - 1) hR2) hb2 ⟨fun z => by have z : pTk (ei (nextF (byP s F Z) Z (uOp p (pOp p + 1)))).2 = 0 := z; omega, fun z => by have z : pTk (ei (nextF (byP s F Z) Z (uOp p (pOp p + 1)))).2 = 4 := z; omega⟩
          have ex : exR c k2 fk fp tk2 ft2 (nI 41) = (k2 + 1, fk (k2 + 1), ft2) := by rw [exR, if_pos c41, hs2]
          have e2 : nxP (byP s F Z) Z (clP (if isS (ei (nextF (byP s F Z) Z (uOp p (pOp p + 1)))).2 41 = true then (ei (nextF (byP s F Z) Z (uOp p (pOp p + 1)))).2 else failP (ei (nextF (byP s F Z) Z (uOp p (pOp p + 1)))).2)) = nextF (byP s F Z) Z (uOp (ei (nextF (byP s F Z) Z (uOp p (pOp p + 1)))).2 (pOp (ei (nextF (byP s F Z) Z (uOp p (pOp p + 1)))).2 - 1)) := by rw [if_pos hS, nxP, if_neg (by show ¬ pBad (clP (ei (nextF (byP s F Z) Z (uOp p (pOp p + 1)))).2) = true; rw [show pBad (clP (ei (nextF (byP s F Z) Z (uOp p (pOp p + 1)))).2) = pBad (ei (nextF (byP s F Z) Z (uOp p (pOp p + 1)))).2 from rfl, hb2]; decide)]; rfl
          rw [ex, e2]
          refine ⟨rfl, L2, k2 + 1, fk (k2 + 1), ft2, fc2, rfl, hL2, hR3, fun _ => ?_⟩
          obtain ⟨q1, q2, q3, q4⟩ := hG2 hb2
          exact ⟨q1, q2, q3, Nat.le_trans (Nat.add_le_add_right (Nat.le_succ k) _) (Nat.le_trans q4 (Nat.le_succ k2))⟩
        · have hS : ¬ isS (ei (nextF (byP s F Z) Z (uOp p (pOp p + 1)))).2 41 = true := fun z => c41 (hR2.2.1.trans (tS.mpr z))
          have hR3 := Rel_op (v := pOp (failP (ei (nextF (byP s F Z) Z (uOp p (pOp p + 1)))).2) - 1) (Rel_fail hT hZ hR2 hei2.1)
          have ex : exR c k2 fk fp tk2 ft2 (nI 41) = (k2, -2, rfF fp k2 ft2) := if_neg c41
          have e2 : nxP (byP s F Z) Z (clP (if isS (ei (nextF (byP s F Z) Z (uOp p (pOp p + 1)))).2 41 = true then (ei (nextF (byP s F Z) Z (uOp p (pOp p + 1)))).2 else failP (ei (nextF (byP s F Z) Z (uOp p (pOp p + 1)))).2)) = uOp (failP (ei (nextF (byP s F Z) Z (uOp p (pOp p + 1)))).2) (pOp (failP (ei (nextF (byP s F Z) Z (uOp p (pOp p + 1)))).2) - 1) := by rw [if_neg hS, nxP, if_pos (show pBad (clP (failP (ei (nextF (byP s F Z) Z (uOp p (pOp p + 1)))).2)) = true from fail_bad _)]; rfl
          rw [ex, e2]
          exact ⟨rfl, L2, k2, -2, rfF fp k2 ft2, fc2, rfl, hL2, hR3, Gd_bad (show pBad (failP (ei (nextF (byP s F Z) Z (uOp p (pOp p + 1)))).2) = true from fail_bad _)⟩
      · exact absurd c30 (by omega)
  by_cases q12 : pBad p = false ∧ pTk p = 2
  · obtain rfl := h12.mpr q12
    obtain ⟨hb, ht⟩ := q12
    obtain ⟨hs, hR1⟩ := Rel_step hT hR hb ⟨by omega, by omega⟩
    have hfn : fn k = encC (0, (pW p).toInt32) := by
      obtain ⟨-, g2, v, g3⟩ := hR.2.2.2.2 hb
      have := (hT.2 k g2).2.2.2 (by rw [g3] at ht; exact ht)
      rw [this, g3]
      rfl
    have e : oneL (byP s F Z) Z on ei p = (eNum (pW p).toInt32, nextF (byP s F Z) Z p) := by rw [oneL, if_neg q45, if_neg q40, if_pos ⟨hb, ht⟩]
    refine a_aload_n (pc := 0) dX4_one_0 rfl rfl ?_
    refine a_getfield (pc := 1) kg_X4_44 dX4_one_1 (RH_r) rfl ?_
    refine a_bipush (pc := 4) dX4_one_4 ib_40 ?_
    refine a_icmp_eq_f (pc := 6) (tgt := 18) dX4_one_6 (by decide) (by decide) ?_
    refine a_aload_n (pc := 9) dX4_one_9 rfl rfl ?_
    refine a_getfield (pc := 10) kg_X4_44 dX4_one_10 (RH_r) rfl ?_
    refine a_bipush (pc := 13) dX4_one_13 ib_45 ?_
    refine a_icmp_ne_t (pc := 15) (tgt := 22) dX4_one_15 (by decide) (by decide) ?_
    refine a_iconst (pc := 22) dX4_one_22 ic_0 ?_
    refine a_istore_n (pc := 23) dX4_one_23 rfl (by decide) rfl ?_
    refine a_iload_n (pc := 24) dX4_one_24 rfl rfl ?_
    refine a_if_eq_t (pc := 25) (tgt := 40) dX4_one_25 (by decide) (by decide) ?_
    refine a_aload_n (pc := 40) dX4_one_40 rfl rfl ?_
    refine a_getfield (pc := 41) kg_X4_44 dX4_one_41 (RH_r) rfl ?_
    refine a_bipush (pc := 44) dX4_one_44 ib_12 ?_
    refine a_icmp_ne_f (pc := 46) (tgt := 72) dX4_one_46 (by decide) (by decide) ?_
    refine a_aload_n (pc := 49) dX4_one_49 rfl rfl ?_
    refine a_aload_n (pc := 50) dX4_one_50 rfl rfl ?_
    refine a_getfield (pc := 51) kg_X4_12 dX4_one_51 (RH_r) rfl ?_
    refine a_getfield (pc := 54) kg_X4_97 dX4_one_54 (RH_t d) rfl ?_
    refine a_aload_n (pc := 57) dX4_one_57 rfl rfl ?_
    refine a_getfield (pc := 58) kg_X4_38 dX4_one_58 (RH_r) rfl ?_
    refine a_topi ((show nI k = nI k from rfl)) ?_
    refine a_iaload (pc := 61) dX4_one_61 (RH_n d) (k) (rfl) (by have := d.c161; omega) (by have := d.c161; omega) ?_
    refine a_callV (pc := 62) km_X4_88 dX4_one_62 (f_put d hL (fn k)) rfl rfl (krecv_of (by rfl) RH_r) (rok_of hM (by omega) (by decide) (by omega) (by omega)) (Nat.le_of_ble_eq_true rfl) (fun r62 h62 hp62 => ?_)
    obtain ⟨rfl, rfl⟩ := hp62
    refine a_aload_n (pc := 65) dX4_one_65 rfl rfl ?_
    refine a_callV (pc := 66) km_X4_69 dX4_one_66 (f_step d hk) rfl rfl (krecv_of (by rfl) RH_r) (rok_of hM (by omega) (by decide) (by omega) (by omega)) (Nat.le_of_ble_eq_true rfl) (fun r66 h66 hp66 => ?_)
    obtain ⟨rfl, rfl⟩ := hp66
    refine a_hp (show _ = (RH h r t cd en (puL L) (k + 1) (fk (k + 1)) ft (puF L fc (fn k))) by rw [hs]) ?_
    refine a_goto (pc := 69) (tgt := 165) dX4_one_69 (by decide) ?_
    refine a_ret_v (pc := 165) hM rfl dX4_one_165 (by omega) (by omega) ?_
    exact ⟨rfl, by rw [e]; exact ⟨(puL L), (k + 1), (fk (k + 1)), ft, (puF L fc (fn k)), rfl, puL_le hL, hR1, Gd_put (e := ([], fun _ => 0)) (c := (0, (pW p).toInt32)) (Gd_0 (p := p) (Nat.le_succ k)) (fun _ => hb) (by have := hR1.1; have := d.c161; omega) (fun _ => hLk hb) (fun _ => Nat.le_refl _) hfn⟩⟩
  have n45 : ¬ tk = nI 45 := fun z => q45 (h45.mp z)
  have n40 : ¬ tk = nI 40 := fun z => q40 (h40.mp z)
  have n12 : ¬ tk = nI 12 := fun z => q12 (h12.mp z)
  by_cases q1 : pBad p = false ∧ pTk p = 1
  · obtain ⟨hb, ht⟩ := q1
    have hW : isW p (pW p) = true := by
      unfold isW
      rw [hb, ht]
      simp
    rcases nameF_w hW with ⟨w, hw6, hwt, hwn⟩ | ⟨hn0, hin⟩
    · obtain ⟨hs, hR1⟩ := Rel_step hT hR hb ⟨by omega, by omega⟩
      rw [← htk] at hwt
      rcases (by omega : w = 0 ∨ w = 1 ∨ w = 2 ∨ w = 3 ∨ w = 4 ∨ w = 5) with rfl | rfl | rfl | rfl | rfl | rfl
      · subst hwt
        have e : oneL (byP s F Z) Z on ei p = (eNam 41, nextF (byP s F Z) Z p) := by rw [oneL, if_neg q45, if_neg q40, if_neg q12, if_pos ⟨hb, ht⟩, if_neg (by omega), hwn]
        refine a_aload_n (pc := 0) dX4_one_0 rfl rfl ?_
        refine a_getfield (pc := 1) kg_X4_44 dX4_one_1 (RH_r) rfl ?_
        refine a_bipush (pc := 4) dX4_one_4 ib_40 ?_
        refine a_icmp_eq_f (pc := 6) (tgt := 18) dX4_one_6 (by decide) (by decide) ?_
        refine a_aload_n (pc := 9) dX4_one_9 rfl rfl ?_
        refine a_getfield (pc := 10) kg_X4_44 dX4_one_10 (RH_r) rfl ?_
        refine a_bipush (pc := 13) dX4_one_13 ib_45 ?_
        refine a_icmp_ne_t (pc := 15) (tgt := 22) dX4_one_15 (by decide) (by decide) ?_
        refine a_iconst (pc := 22) dX4_one_22 ic_0 ?_
        refine a_istore_n (pc := 23) dX4_one_23 rfl (by decide) rfl ?_
        refine a_iload_n (pc := 24) dX4_one_24 rfl rfl ?_
        refine a_if_eq_t (pc := 25) (tgt := 40) dX4_one_25 (by decide) (by decide) ?_
        refine a_aload_n (pc := 40) dX4_one_40 rfl rfl ?_
        refine a_getfield (pc := 41) kg_X4_44 dX4_one_41 (RH_r) rfl ?_
        refine a_bipush (pc := 44) dX4_one_44 ib_12 ?_
        refine a_icmp_ne_t (pc := 46) (tgt := 72) dX4_one_46 (by decide) (by decide) ?_
        refine a_aload_n (pc := 72) dX4_one_72 rfl rfl ?_
        refine a_getfield (pc := 73) kg_X4_44 dX4_one_73 (RH_r) rfl ?_
        refine a_bipush (pc := 76) dX4_one_76 ib_6 ?_
        refine a_callS (pc := 78) km_X4_100 dX4_one_78 (f_among (nI 0) (n := 6) (by decide)) rfl rfl (rok_of hM (by omega) (by decide) (by omega) (by omega)) (Nat.le_of_ble_eq_true rfl) (fun r78 h78 hp78 => ?_)
        obtain ⟨rfl, rfl⟩ := hp78
        refine a_if_eq_f (pc := 81) (tgt := 101) dX4_one_81 (by decide) (by decide) ?_
        refine a_aload_n (pc := 84) dX4_one_84 rfl rfl ?_
        refine a_aload_n (pc := 85) dX4_one_85 rfl rfl ?_
        refine a_getfield (pc := 86) kg_X4_44 dX4_one_86 (RH_r) rfl ?_
        refine a_iconst (pc := 89) dX4_one_89 ic_m1 ?_
        refine a_ixor (pc := 90) dX4_one_90 ?_
        refine a_callV (pc := 91) km_X4_88 dX4_one_91 (f_put d hL (nI 0 ^^^ (-1))) rfl rfl (krecv_of (by rfl) RH_r) (rok_of hM (by omega) (by decide) (by omega) (by omega)) (Nat.le_of_ble_eq_true rfl) (fun r91 h91 hp91 => ?_)
        obtain ⟨rfl, rfl⟩ := hp91
        refine a_aload_n (pc := 94) dX4_one_94 rfl rfl ?_
        refine a_callV (pc := 95) km_X4_69 dX4_one_95 (f_step d hk) rfl rfl (krecv_of (by rfl) RH_r) (rok_of hM (by omega) (by decide) (by omega) (by omega)) (Nat.le_of_ble_eq_true rfl) (fun r95 h95 hp95 => ?_)
        obtain ⟨rfl, rfl⟩ := hp95
        refine a_hp (show _ = (RH h r t cd en (puL L) (k + 1) (fk (k + 1)) ft (puF L fc (nI 0 ^^^ (-1)))) by rw [hs]) ?_
        refine a_goto (pc := 98) (tgt := 165) dX4_one_98 (by decide) ?_
        refine a_ret_v (pc := 165) hM rfl dX4_one_165 (by omega) (by omega) ?_
        exact ⟨rfl, by rw [e]; exact ⟨(puL L), (k + 1), (fk (k + 1)), ft, (puF L fc (nI 0 ^^^ (-1))), rfl, puL_le hL, hR1, Gd_put (e := ([], fun _ => 0)) (c := (1, nI 41)) (Gd_0 (p := p) (Nat.le_succ k)) (fun _ => hb) (by have := hR1.1; have := d.c161; omega) (fun _ => hLk hb) (fun _ => Nat.le_refl _) (by decide +kernel)⟩⟩
      · subst hwt
        have e : oneL (byP s F Z) Z on ei p = (eNam 42, nextF (byP s F Z) Z p) := by rw [oneL, if_neg q45, if_neg q40, if_neg q12, if_pos ⟨hb, ht⟩, if_neg (by omega), hwn]
        refine a_aload_n (pc := 0) dX4_one_0 rfl rfl ?_
        refine a_getfield (pc := 1) kg_X4_44 dX4_one_1 (RH_r) rfl ?_
        refine a_bipush (pc := 4) dX4_one_4 ib_40 ?_
        refine a_icmp_eq_f (pc := 6) (tgt := 18) dX4_one_6 (by decide) (by decide) ?_
        refine a_aload_n (pc := 9) dX4_one_9 rfl rfl ?_
        refine a_getfield (pc := 10) kg_X4_44 dX4_one_10 (RH_r) rfl ?_
        refine a_bipush (pc := 13) dX4_one_13 ib_45 ?_
        refine a_icmp_ne_t (pc := 15) (tgt := 22) dX4_one_15 (by decide) (by decide) ?_
        refine a_iconst (pc := 22) dX4_one_22 ic_0 ?_
        refine a_istore_n (pc := 23) dX4_one_23 rfl (by decide) rfl ?_
        refine a_iload_n (pc := 24) dX4_one_24 rfl rfl ?_
        refine a_if_eq_t (pc := 25) (tgt := 40) dX4_one_25 (by decide) (by decide) ?_
        refine a_aload_n (pc := 40) dX4_one_40 rfl rfl ?_
        refine a_getfield (pc := 41) kg_X4_44 dX4_one_41 (RH_r) rfl ?_
        refine a_bipush (pc := 44) dX4_one_44 ib_12 ?_
        refine a_icmp_ne_t (pc := 46) (tgt := 72) dX4_one_46 (by decide) (by decide) ?_
        refine a_aload_n (pc := 72) dX4_one_72 rfl rfl ?_
        refine a_getfield (pc := 73) kg_X4_44 dX4_one_73 (RH_r) rfl ?_
        refine a_bipush (pc := 76) dX4_one_76 ib_6 ?_
        refine a_callS (pc := 78) km_X4_100 dX4_one_78 (f_among (nI 1) (n := 6) (by decide)) rfl rfl (rok_of hM (by omega) (by decide) (by omega) (by omega)) (Nat.le_of_ble_eq_true rfl) (fun r78 h78 hp78 => ?_)
        obtain ⟨rfl, rfl⟩ := hp78
        refine a_if_eq_f (pc := 81) (tgt := 101) dX4_one_81 (by decide) (by decide) ?_
        refine a_aload_n (pc := 84) dX4_one_84 rfl rfl ?_
        refine a_aload_n (pc := 85) dX4_one_85 rfl rfl ?_
        refine a_getfield (pc := 86) kg_X4_44 dX4_one_86 (RH_r) rfl ?_
        refine a_iconst (pc := 89) dX4_one_89 ic_m1 ?_
        refine a_ixor (pc := 90) dX4_one_90 ?_
        refine a_callV (pc := 91) km_X4_88 dX4_one_91 (f_put d hL (nI 1 ^^^ (-1))) rfl rfl (krecv_of (by rfl) RH_r) (rok_of hM (by omega) (by decide) (by omega) (by omega)) (Nat.le_of_ble_eq_true rfl) (fun r91 h91 hp91 => ?_)
        obtain ⟨rfl, rfl⟩ := hp91
        refine a_aload_n (pc := 94) dX4_one_94 rfl rfl ?_
        refine a_callV (pc := 95) km_X4_69 dX4_one_95 (f_step d hk) rfl rfl (krecv_of (by rfl) RH_r) (rok_of hM (by omega) (by decide) (by omega) (by omega)) (Nat.le_of_ble_eq_true rfl) (fun r95 h95 hp95 => ?_)
        obtain ⟨rfl, rfl⟩ := hp95
        refine a_hp (show _ = (RH h r t cd en (puL L) (k + 1) (fk (k + 1)) ft (puF L fc (nI 1 ^^^ (-1)))) by rw [hs]) ?_
        refine a_goto (pc := 98) (tgt := 165) dX4_one_98 (by decide) ?_
        refine a_ret_v (pc := 165) hM rfl dX4_one_165 (by omega) (by omega) ?_
        exact ⟨rfl, by rw [e]; exact ⟨(puL L), (k + 1), (fk (k + 1)), ft, (puF L fc (nI 1 ^^^ (-1))), rfl, puL_le hL, hR1, Gd_put (e := ([], fun _ => 0)) (c := (1, nI 42)) (Gd_0 (p := p) (Nat.le_succ k)) (fun _ => hb) (by have := hR1.1; have := d.c161; omega) (fun _ => hLk hb) (fun _ => Nat.le_refl _) (by decide +kernel)⟩⟩
      · subst hwt
        have e : oneL (byP s F Z) Z on ei p = (eNam 43, nextF (byP s F Z) Z p) := by rw [oneL, if_neg q45, if_neg q40, if_neg q12, if_pos ⟨hb, ht⟩, if_neg (by omega), hwn]
        refine a_aload_n (pc := 0) dX4_one_0 rfl rfl ?_
        refine a_getfield (pc := 1) kg_X4_44 dX4_one_1 (RH_r) rfl ?_
        refine a_bipush (pc := 4) dX4_one_4 ib_40 ?_
        refine a_icmp_eq_f (pc := 6) (tgt := 18) dX4_one_6 (by decide) (by decide) ?_
        refine a_aload_n (pc := 9) dX4_one_9 rfl rfl ?_
        refine a_getfield (pc := 10) kg_X4_44 dX4_one_10 (RH_r) rfl ?_
        refine a_bipush (pc := 13) dX4_one_13 ib_45 ?_
        refine a_icmp_ne_t (pc := 15) (tgt := 22) dX4_one_15 (by decide) (by decide) ?_
        refine a_iconst (pc := 22) dX4_one_22 ic_0 ?_
        refine a_istore_n (pc := 23) dX4_one_23 rfl (by decide) rfl ?_
        refine a_iload_n (pc := 24) dX4_one_24 rfl rfl ?_
        refine a_if_eq_t (pc := 25) (tgt := 40) dX4_one_25 (by decide) (by decide) ?_
        refine a_aload_n (pc := 40) dX4_one_40 rfl rfl ?_
        refine a_getfield (pc := 41) kg_X4_44 dX4_one_41 (RH_r) rfl ?_
        refine a_bipush (pc := 44) dX4_one_44 ib_12 ?_
        refine a_icmp_ne_t (pc := 46) (tgt := 72) dX4_one_46 (by decide) (by decide) ?_
        refine a_aload_n (pc := 72) dX4_one_72 rfl rfl ?_
        refine a_getfield (pc := 73) kg_X4_44 dX4_one_73 (RH_r) rfl ?_
        refine a_bipush (pc := 76) dX4_one_76 ib_6 ?_
        refine a_callS (pc := 78) km_X4_100 dX4_one_78 (f_among (nI 2) (n := 6) (by decide)) rfl rfl (rok_of hM (by omega) (by decide) (by omega) (by omega)) (Nat.le_of_ble_eq_true rfl) (fun r78 h78 hp78 => ?_)
        obtain ⟨rfl, rfl⟩ := hp78
        refine a_if_eq_f (pc := 81) (tgt := 101) dX4_one_81 (by decide) (by decide) ?_
        refine a_aload_n (pc := 84) dX4_one_84 rfl rfl ?_
        refine a_aload_n (pc := 85) dX4_one_85 rfl rfl ?_
        refine a_getfield (pc := 86) kg_X4_44 dX4_one_86 (RH_r) rfl ?_
        refine a_iconst (pc := 89) dX4_one_89 ic_m1 ?_
        refine a_ixor (pc := 90) dX4_one_90 ?_
        refine a_callV (pc := 91) km_X4_88 dX4_one_91 (f_put d hL (nI 2 ^^^ (-1))) rfl rfl (krecv_of (by rfl) RH_r) (rok_of hM (by omega) (by decide) (by omega) (by omega)) (Nat.le_of_ble_eq_true rfl) (fun r91 h91 hp91 => ?_)
        obtain ⟨rfl, rfl⟩ := hp91
        refine a_aload_n (pc := 94) dX4_one_94 rfl rfl ?_
        refine a_callV (pc := 95) km_X4_69 dX4_one_95 (f_step d hk) rfl rfl (krecv_of (by rfl) RH_r) (rok_of hM (by omega) (by decide) (by omega) (by omega)) (Nat.le_of_ble_eq_true rfl) (fun r95 h95 hp95 => ?_)
        obtain ⟨rfl, rfl⟩ := hp95
        refine a_hp (show _ = (RH h r t cd en (puL L) (k + 1) (fk (k + 1)) ft (puF L fc (nI 2 ^^^ (-1)))) by rw [hs]) ?_
        refine a_goto (pc := 98) (tgt := 165) dX4_one_98 (by decide) ?_
        refine a_ret_v (pc := 165) hM rfl dX4_one_165 (by omega) (by omega) ?_
        exact ⟨rfl, by rw [e]; exact ⟨(puL L), (k + 1), (fk (k + 1)), ft, (puF L fc (nI 2 ^^^ (-1))), rfl, puL_le hL, hR1, Gd_put (e := ([], fun _ => 0)) (c := (1, nI 43)) (Gd_0 (p := p) (Nat.le_succ k)) (fun _ => hb) (by have := hR1.1; have := d.c161; omega) (fun _ => hLk hb) (fun _ => Nat.le_refl _) (by decide +kernel)⟩⟩
      · subst hwt
        have e : oneL (byP s F Z) Z on ei p = (eNam 44, nextF (byP s F Z) Z p) := by rw [oneL, if_neg q45, if_neg q40, if_neg q12, if_pos ⟨hb, ht⟩, if_neg (by omega), hwn]
        refine a_aload_n (pc := 0) dX4_one_0 rfl rfl ?_
        refine a_getfield (pc := 1) kg_X4_44 dX4_one_1 (RH_r) rfl ?_
        refine a_bipush (pc := 4) dX4_one_4 ib_40 ?_
        refine a_icmp_eq_f (pc := 6) (tgt := 18) dX4_one_6 (by decide) (by decide) ?_
        refine a_aload_n (pc := 9) dX4_one_9 rfl rfl ?_
        refine a_getfield (pc := 10) kg_X4_44 dX4_one_10 (RH_r) rfl ?_
        refine a_bipush (pc := 13) dX4_one_13 ib_45 ?_
        refine a_icmp_ne_t (pc := 15) (tgt := 22) dX4_one_15 (by decide) (by decide) ?_
        refine a_iconst (pc := 22) dX4_one_22 ic_0 ?_
        refine a_istore_n (pc := 23) dX4_one_23 rfl (by decide) rfl ?_
        refine a_iload_n (pc := 24) dX4_one_24 rfl rfl ?_
        refine a_if_eq_t (pc := 25) (tgt := 40) dX4_one_25 (by decide) (by decide) ?_
        refine a_aload_n (pc := 40) dX4_one_40 rfl rfl ?_
        refine a_getfield (pc := 41) kg_X4_44 dX4_one_41 (RH_r) rfl ?_
        refine a_bipush (pc := 44) dX4_one_44 ib_12 ?_
        refine a_icmp_ne_t (pc := 46) (tgt := 72) dX4_one_46 (by decide) (by decide) ?_
        refine a_aload_n (pc := 72) dX4_one_72 rfl rfl ?_
        refine a_getfield (pc := 73) kg_X4_44 dX4_one_73 (RH_r) rfl ?_
        refine a_bipush (pc := 76) dX4_one_76 ib_6 ?_
        refine a_callS (pc := 78) km_X4_100 dX4_one_78 (f_among (nI 3) (n := 6) (by decide)) rfl rfl (rok_of hM (by omega) (by decide) (by omega) (by omega)) (Nat.le_of_ble_eq_true rfl) (fun r78 h78 hp78 => ?_)
        obtain ⟨rfl, rfl⟩ := hp78
        refine a_if_eq_f (pc := 81) (tgt := 101) dX4_one_81 (by decide) (by decide) ?_
        refine a_aload_n (pc := 84) dX4_one_84 rfl rfl ?_
        refine a_aload_n (pc := 85) dX4_one_85 rfl rfl ?_
        refine a_getfield (pc := 86) kg_X4_44 dX4_one_86 (RH_r) rfl ?_
        refine a_iconst (pc := 89) dX4_one_89 ic_m1 ?_
        refine a_ixor (pc := 90) dX4_one_90 ?_
        refine a_callV (pc := 91) km_X4_88 dX4_one_91 (f_put d hL (nI 3 ^^^ (-1))) rfl rfl (krecv_of (by rfl) RH_r) (rok_of hM (by omega) (by decide) (by omega) (by omega)) (Nat.le_of_ble_eq_true rfl) (fun r91 h91 hp91 => ?_)
        obtain ⟨rfl, rfl⟩ := hp91
        refine a_aload_n (pc := 94) dX4_one_94 rfl rfl ?_
        refine a_callV (pc := 95) km_X4_69 dX4_one_95 (f_step d hk) rfl rfl (krecv_of (by rfl) RH_r) (rok_of hM (by omega) (by decide) (by omega) (by omega)) (Nat.le_of_ble_eq_true rfl) (fun r95 h95 hp95 => ?_)
        obtain ⟨rfl, rfl⟩ := hp95
        refine a_hp (show _ = (RH h r t cd en (puL L) (k + 1) (fk (k + 1)) ft (puF L fc (nI 3 ^^^ (-1)))) by rw [hs]) ?_
        refine a_goto (pc := 98) (tgt := 165) dX4_one_98 (by decide) ?_
        refine a_ret_v (pc := 165) hM rfl dX4_one_165 (by omega) (by omega) ?_
        exact ⟨rfl, by rw [e]; exact ⟨(puL L), (k + 1), (fk (k + 1)), ft, (puF L fc (nI 3 ^^^ (-1))), rfl, puL_le hL, hR1, Gd_put (e := ([], fun _ => 0)) (c := (1, nI 44)) (Gd_0 (p := p) (Nat.le_succ k)) (fun _ => hb) (by have := hR1.1; have := d.c161; omega) (fun _ => hLk hb) (fun _ => Nat.le_refl _) (by decide +kernel)⟩⟩
      · subst hwt
        have e : oneL (byP s F Z) Z on ei p = (eNam 45, nextF (byP s F Z) Z p) := by rw [oneL, if_neg q45, if_neg q40, if_neg q12, if_pos ⟨hb, ht⟩, if_neg (by omega), hwn]
        refine a_aload_n (pc := 0) dX4_one_0 rfl rfl ?_
        refine a_getfield (pc := 1) kg_X4_44 dX4_one_1 (RH_r) rfl ?_
        refine a_bipush (pc := 4) dX4_one_4 ib_40 ?_
        refine a_icmp_eq_f (pc := 6) (tgt := 18) dX4_one_6 (by decide) (by decide) ?_
        refine a_aload_n (pc := 9) dX4_one_9 rfl rfl ?_
        refine a_getfield (pc := 10) kg_X4_44 dX4_one_10 (RH_r) rfl ?_
        refine a_bipush (pc := 13) dX4_one_13 ib_45 ?_
        refine a_icmp_ne_t (pc := 15) (tgt := 22) dX4_one_15 (by decide) (by decide) ?_
        refine a_iconst (pc := 22) dX4_one_22 ic_0 ?_
        refine a_istore_n (pc := 23) dX4_one_23 rfl (by decide) rfl ?_
        refine a_iload_n (pc := 24) dX4_one_24 rfl rfl ?_
        refine a_if_eq_t (pc := 25) (tgt := 40) dX4_one_25 (by decide) (by decide) ?_
        refine a_aload_n (pc := 40) dX4_one_40 rfl rfl ?_
        refine a_getfield (pc := 41) kg_X4_44 dX4_one_41 (RH_r) rfl ?_
        refine a_bipush (pc := 44) dX4_one_44 ib_12 ?_
        refine a_icmp_ne_t (pc := 46) (tgt := 72) dX4_one_46 (by decide) (by decide) ?_
        refine a_aload_n (pc := 72) dX4_one_72 rfl rfl ?_
        refine a_getfield (pc := 73) kg_X4_44 dX4_one_73 (RH_r) rfl ?_
        refine a_bipush (pc := 76) dX4_one_76 ib_6 ?_
        refine a_callS (pc := 78) km_X4_100 dX4_one_78 (f_among (nI 4) (n := 6) (by decide)) rfl rfl (rok_of hM (by omega) (by decide) (by omega) (by omega)) (Nat.le_of_ble_eq_true rfl) (fun r78 h78 hp78 => ?_)
        obtain ⟨rfl, rfl⟩ := hp78
        refine a_if_eq_f (pc := 81) (tgt := 101) dX4_one_81 (by decide) (by decide) ?_
        refine a_aload_n (pc := 84) dX4_one_84 rfl rfl ?_
        refine a_aload_n (pc := 85) dX4_one_85 rfl rfl ?_
        refine a_getfield (pc := 86) kg_X4_44 dX4_one_86 (RH_r) rfl ?_
        refine a_iconst (pc := 89) dX4_one_89 ic_m1 ?_
        refine a_ixor (pc := 90) dX4_one_90 ?_
        refine a_callV (pc := 91) km_X4_88 dX4_one_91 (f_put d hL (nI 4 ^^^ (-1))) rfl rfl (krecv_of (by rfl) RH_r) (rok_of hM (by omega) (by decide) (by omega) (by omega)) (Nat.le_of_ble_eq_true rfl) (fun r91 h91 hp91 => ?_)
        obtain ⟨rfl, rfl⟩ := hp91
        refine a_aload_n (pc := 94) dX4_one_94 rfl rfl ?_
        refine a_callV (pc := 95) km_X4_69 dX4_one_95 (f_step d hk) rfl rfl (krecv_of (by rfl) RH_r) (rok_of hM (by omega) (by decide) (by omega) (by omega)) (Nat.le_of_ble_eq_true rfl) (fun r95 h95 hp95 => ?_)
        obtain ⟨rfl, rfl⟩ := hp95
        refine a_hp (show _ = (RH h r t cd en (puL L) (k + 1) (fk (k + 1)) ft (puF L fc (nI 4 ^^^ (-1)))) by rw [hs]) ?_
        refine a_goto (pc := 98) (tgt := 165) dX4_one_98 (by decide) ?_
        refine a_ret_v (pc := 165) hM rfl dX4_one_165 (by omega) (by omega) ?_
        exact ⟨rfl, by rw [e]; exact ⟨(puL L), (k + 1), (fk (k + 1)), ft, (puF L fc (nI 4 ^^^ (-1))), rfl, puL_le hL, hR1, Gd_put (e := ([], fun _ => 0)) (c := (1, nI 45)) (Gd_0 (p := p) (Nat.le_succ k)) (fun _ => hb) (by have := hR1.1; have := d.c161; omega) (fun _ => hLk hb) (fun _ => Nat.le_refl _) (by decide +kernel)⟩⟩
      · subst hwt
        have e : oneL (byP s F Z) Z on ei p = (eNam 46, nextF (byP s F Z) Z p) := by rw [oneL, if_neg q45, if_neg q40, if_neg q12, if_pos ⟨hb, ht⟩, if_neg (by omega), hwn]
        refine a_aload_n (pc := 0) dX4_one_0 rfl rfl ?_
        refine a_getfield (pc := 1) kg_X4_44 dX4_one_1 (RH_r) rfl ?_
        refine a_bipush (pc := 4) dX4_one_4 ib_40 ?_
        refine a_icmp_eq_f (pc := 6) (tgt := 18) dX4_one_6 (by decide) (by decide) ?_
        refine a_aload_n (pc := 9) dX4_one_9 rfl rfl ?_
        refine a_getfield (pc := 10) kg_X4_44 dX4_one_10 (RH_r) rfl ?_
        refine a_bipush (pc := 13) dX4_one_13 ib_45 ?_
        refine a_icmp_ne_t (pc := 15) (tgt := 22) dX4_one_15 (by decide) (by decide) ?_
        refine a_iconst (pc := 22) dX4_one_22 ic_0 ?_
        refine a_istore_n (pc := 23) dX4_one_23 rfl (by decide) rfl ?_
        refine a_iload_n (pc := 24) dX4_one_24 rfl rfl ?_
        refine a_if_eq_t (pc := 25) (tgt := 40) dX4_one_25 (by decide) (by decide) ?_
        refine a_aload_n (pc := 40) dX4_one_40 rfl rfl ?_
        refine a_getfield (pc := 41) kg_X4_44 dX4_one_41 (RH_r) rfl ?_
        refine a_bipush (pc := 44) dX4_one_44 ib_12 ?_
        refine a_icmp_ne_t (pc := 46) (tgt := 72) dX4_one_46 (by decide) (by decide) ?_
        refine a_aload_n (pc := 72) dX4_one_72 rfl rfl ?_
        refine a_getfield (pc := 73) kg_X4_44 dX4_one_73 (RH_r) rfl ?_
        refine a_bipush (pc := 76) dX4_one_76 ib_6 ?_
        refine a_callS (pc := 78) km_X4_100 dX4_one_78 (f_among (nI 5) (n := 6) (by decide)) rfl rfl (rok_of hM (by omega) (by decide) (by omega) (by omega)) (Nat.le_of_ble_eq_true rfl) (fun r78 h78 hp78 => ?_)
        obtain ⟨rfl, rfl⟩ := hp78
        refine a_if_eq_f (pc := 81) (tgt := 101) dX4_one_81 (by decide) (by decide) ?_
        refine a_aload_n (pc := 84) dX4_one_84 rfl rfl ?_
        refine a_aload_n (pc := 85) dX4_one_85 rfl rfl ?_
        refine a_getfield (pc := 86) kg_X4_44 dX4_one_86 (RH_r) rfl ?_
        refine a_iconst (pc := 89) dX4_one_89 ic_m1 ?_
        refine a_ixor (pc := 90) dX4_one_90 ?_
        refine a_callV (pc := 91) km_X4_88 dX4_one_91 (f_put d hL (nI 5 ^^^ (-1))) rfl rfl (krecv_of (by rfl) RH_r) (rok_of hM (by omega) (by decide) (by omega) (by omega)) (Nat.le_of_ble_eq_true rfl) (fun r91 h91 hp91 => ?_)
        obtain ⟨rfl, rfl⟩ := hp91
        refine a_aload_n (pc := 94) dX4_one_94 rfl rfl ?_
        refine a_callV (pc := 95) km_X4_69 dX4_one_95 (f_step d hk) rfl rfl (krecv_of (by rfl) RH_r) (rok_of hM (by omega) (by decide) (by omega) (by omega)) (Nat.le_of_ble_eq_true rfl) (fun r95 h95 hp95 => ?_)
        obtain ⟨rfl, rfl⟩ := hp95
        refine a_hp (show _ = (RH h r t cd en (puL L) (k + 1) (fk (k + 1)) ft (puF L fc (nI 5 ^^^ (-1)))) by rw [hs]) ?_
        refine a_goto (pc := 98) (tgt := 165) dX4_one_98 (by decide) ?_
        refine a_ret_v (pc := 165) hM rfl dX4_one_165 (by omega) (by omega) ?_
        exact ⟨rfl, by rw [e]; exact ⟨(puL L), (k + 1), (fk (k + 1)), ft, (puF L fc (nI 5 ^^^ (-1))), rfl, puL_le hL, hR1, Gd_put (e := ([], fun _ => 0)) (c := (1, nI 46)) (Gd_0 (p := p) (Nat.le_succ k)) (fun _ => hb) (by have := hR1.1; have := d.c161; omega) (fun _ => hLk hb) (fun _ => Nat.le_refl _) (by decide +kernel)⟩⟩
    · rw [← htk] at hin
      have e : oneL (byP s F Z) Z on ei p = (eNum 0, failP p) := by rw [oneL, if_neg q45, if_neg q40, if_neg q12, if_pos ⟨hb, ht⟩, if_pos hn0]
      have h40 := n40
      have h45 := n45
      have h12 := n12
      refine a_aload_n (pc := 0) dX4_one_0 rfl rfl ?_
      refine a_getfield (pc := 1) kg_X4_44 dX4_one_1 (RH_r) rfl ?_
      refine a_bipush (pc := 4) dX4_one_4 ib_40 ?_
      refine a_icmp_eq_f (pc := 6) (tgt := 18) dX4_one_6 (by decide) (h40) ?_
      refine a_aload_n (pc := 9) dX4_one_9 rfl rfl ?_
      refine a_getfield (pc := 10) kg_X4_44 dX4_one_10 (RH_r) rfl ?_
      refine a_bipush (pc := 13) dX4_one_13 ib_45 ?_
      refine a_icmp_ne_t (pc := 15) (tgt := 22) dX4_one_15 (by decide) (h45) ?_
      refine a_iconst (pc := 22) dX4_one_22 ic_0 ?_
      refine a_istore_n (pc := 23) dX4_one_23 rfl (by decide) rfl ?_
      refine a_iload_n (pc := 24) dX4_one_24 rfl rfl ?_
      refine a_if_eq_t (pc := 25) (tgt := 40) dX4_one_25 (by decide) (by decide) ?_
      refine a_aload_n (pc := 40) dX4_one_40 rfl rfl ?_
      refine a_getfield (pc := 41) kg_X4_44 dX4_one_41 (RH_r) rfl ?_
      refine a_bipush (pc := 44) dX4_one_44 ib_12 ?_
      refine a_icmp_ne_t (pc := 46) (tgt := 72) dX4_one_46 (by decide) (h12) ?_
      refine a_aload_n (pc := 72) dX4_one_72 rfl rfl ?_
      refine a_getfield (pc := 73) kg_X4_44 dX4_one_73 (RH_r) rfl ?_
      refine a_bipush (pc := 76) dX4_one_76 ib_6 ?_
      refine a_callS (pc := 78) km_X4_100 dX4_one_78 (f_among (tk) (n := 6) (by decide)) rfl rfl (rok_of hM (by omega) (by decide) (by omega) (by omega)) (Nat.le_of_ble_eq_true rfl) (fun r78 h78 hp78 => ?_)
      obtain ⟨rfl, rfl⟩ := hp78
      refine a_if_eq_t (pc := 81) (tgt := 101) dX4_one_81 (by decide) (by rw [hin]; decide) ?_
      refine a_aload_n (pc := 101) dX4_one_101 rfl rfl ?_
      refine a_getfield (pc := 102) kg_X4_44 dX4_one_102 (RH_r) rfl ?_
      refine a_bipush (pc := 105) dX4_one_105 ib_45 ?_
      refine a_icmp_ne_t (pc := 107) (tgt := 131) dX4_one_107 (by decide) (h45) ?_
      refine a_aload_n (pc := 131) dX4_one_131 rfl rfl ?_
      refine a_getfield (pc := 132) kg_X4_44 dX4_one_132 (RH_r) rfl ?_
      refine a_bipush (pc := 135) dX4_one_135 ib_40 ?_
      refine a_icmp_ne_t (pc := 137) (tgt := 161) dX4_one_137 (by decide) (h40) ?_
      refine a_aload_n (pc := 161) dX4_one_161 rfl rfl ?_
      refine a_callV (pc := 162) km_X4_72 dX4_one_162 (f_refuse d hk) rfl rfl (krecv_of (by rfl) RH_r) (rok_of hM (by omega) (by decide) (by omega) (by omega)) (Nat.le_of_ble_eq_true rfl) (fun r162 h162 hp162 => ?_)
      obtain ⟨rfl, rfl⟩ := hp162
      refine a_ret_v (pc := 165) hM rfl dX4_one_165 (by omega) (by omega) ?_
      exact ⟨rfl, by rw [e]; exact ⟨L, k, (-2), (rfF fp k ft), fc, rfl, hL, Rel_fail hT hZ hR hg, Gd_bad (fail_bad p)⟩⟩
  · have e : oneL (byP s F Z) Z on ei p = (eNum 0, failP p) := by rw [oneL, if_neg q45, if_neg q40, if_neg q12, if_neg q1]
    have h40 := n40
    have h45 := n45
    have h12 := n12
    have hin : inN tk 6 = false := by
      apply Bool.eq_false_iff.mpr
      intro z
      obtain ⟨w, hw6, rfl⟩ := inN_of z (by decide)
      have := (tk_W hw (w := w) (by omega)).mp htk.symm
      exact q1 (isW_1 this)
    refine a_aload_n (pc := 0) dX4_one_0 rfl rfl ?_
    refine a_getfield (pc := 1) kg_X4_44 dX4_one_1 (RH_r) rfl ?_
    refine a_bipush (pc := 4) dX4_one_4 ib_40 ?_
    refine a_icmp_eq_f (pc := 6) (tgt := 18) dX4_one_6 (by decide) (h40) ?_
    refine a_aload_n (pc := 9) dX4_one_9 rfl rfl ?_
    refine a_getfield (pc := 10) kg_X4_44 dX4_one_10 (RH_r) rfl ?_
    refine a_bipush (pc := 13) dX4_one_13 ib_45 ?_
    refine a_icmp_ne_t (pc := 15) (tgt := 22) dX4_one_15 (by decide) (h45) ?_
    refine a_iconst (pc := 22) dX4_one_22 ic_0 ?_
    refine a_istore_n (pc := 23) dX4_one_23 rfl (by decide) rfl ?_
    refine a_iload_n (pc := 24) dX4_one_24 rfl rfl ?_
    refine a_if_eq_t (pc := 25) (tgt := 40) dX4_one_25 (by decide) (by decide) ?_
    refine a_aload_n (pc := 40) dX4_one_40 rfl rfl ?_
    refine a_getfield (pc := 41) kg_X4_44 dX4_one_41 (RH_r) rfl ?_
    refine a_bipush (pc := 44) dX4_one_44 ib_12 ?_
    refine a_icmp_ne_t (pc := 46) (tgt := 72) dX4_one_46 (by decide) (h12) ?_
    refine a_aload_n (pc := 72) dX4_one_72 rfl rfl ?_
    refine a_getfield (pc := 73) kg_X4_44 dX4_one_73 (RH_r) rfl ?_
    refine a_bipush (pc := 76) dX4_one_76 ib_6 ?_
    refine a_callS (pc := 78) km_X4_100 dX4_one_78 (f_among (tk) (n := 6) (by decide)) rfl rfl (rok_of hM (by omega) (by decide) (by omega) (by omega)) (Nat.le_of_ble_eq_true rfl) (fun r78 h78 hp78 => ?_)
    obtain ⟨rfl, rfl⟩ := hp78
    refine a_if_eq_t (pc := 81) (tgt := 101) dX4_one_81 (by decide) (by rw [hin]; decide) ?_
    refine a_aload_n (pc := 101) dX4_one_101 rfl rfl ?_
    refine a_getfield (pc := 102) kg_X4_44 dX4_one_102 (RH_r) rfl ?_
    refine a_bipush (pc := 105) dX4_one_105 ib_45 ?_
    refine a_icmp_ne_t (pc := 107) (tgt := 131) dX4_one_107 (by decide) (h45) ?_
    refine a_aload_n (pc := 131) dX4_one_131 rfl rfl ?_
    refine a_getfield (pc := 132) kg_X4_44 dX4_one_132 (RH_r) rfl ?_
    refine a_bipush (pc := 135) dX4_one_135 ib_40 ?_
    refine a_icmp_ne_t (pc := 137) (tgt := 161) dX4_one_137 (by decide) (h40) ?_
    refine a_aload_n (pc := 161) dX4_one_161 rfl rfl ?_
    refine a_callV (pc := 162) km_X4_72 dX4_one_162 (f_refuse d hk) rfl rfl (krecv_of (by rfl) RH_r) (rok_of hM (by omega) (by decide) (by omega) (by omega)) (Nat.le_of_ble_eq_true rfl) (fun r162 h162 hp162 => ?_)
    obtain ⟨rfl, rfl⟩ := hp162
    refine a_ret_v (pc := 165) hM rfl dX4_one_165 (by omega) (by omega) ?_
    exact ⟨rfl, by rw [e]; exact ⟨L, k, (-2), (rfF fp k ft), fc, rfl, hL, Rel_fail hT hZ hR hg, Gd_bad (fail_bad p)⟩⟩

end CRO

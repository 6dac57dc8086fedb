/-! THE CLASS: WHAT SEVERAL CALLS NEED -/
section CXH
variable {X : KX} {h : AH} {s : MST} {σ : Nat → Nat → Nat}
theorem c_lkr (hI : CI X σ s h) {k : Nat} (hk : k < vI s 28) : ∃ w : Bool, h (σ 24 k) = some (kO 1 [.int (s.2.1 24 k), .int (s.2.1 25 k), .int (s.2.1 26 k), .int (s.2.1 27 k), .int (bI w)]) := by
  obtain ⟨e, he, w, rfl, -⟩ := hI.2 24 k hk
  exact ⟨w, he⟩
set_option maxRecDepth 4000 in
theorem f_within (x a b : Int32) : Fn X 0 0 0 yX11_within cX11_within 3 (some .boolean) [.int x, .int a, .int b] h (fun rv hv => rv = some (.int (bI (decide (a ≤ x) && decide (x ≤ b)))) ∧ hv = h) := by
  refine fn_of (by decide) (Nat.le_of_ble_eq_true rfl) (fun M hM => ?_)
  refine a_iload_n (pc := 0) dX11_within_0 rfl rfl ?_
  refine a_iload_n (pc := 1) dX11_within_1 rfl rfl ?_
  refine a_icmp_gt (pc := 2) (tgt := 14) dX11_within_2 (by decide) (fun c2 => ?_) (fun c2 => ?_)
  · have e : (decide (a ≤ x) && decide (x ≤ b)) = false := by rw [decide_eq_false (Int32.not_le.mpr c2)]; rfl
    refine a_iconst (pc := 14) dX11_within_14 ic_0 ?_
    refine a_ret_i (pc := 15) hM rfl (by decide +kernel) dX11_within_15 (by omega) (by omega) ?_
    exact ⟨by rw [e]; rfl, rfl⟩
  · refine a_iload_n (pc := 5) dX11_within_5 rfl rfl ?_
    refine a_iload_n (pc := 6) dX11_within_6 rfl rfl ?_
    refine a_icmp_gt (pc := 7) (tgt := 14) dX11_within_7 (by decide) (fun c7 => ?_) (fun c7 => ?_)
    · have e : (decide (a ≤ x) && decide (x ≤ b)) = false := by rw [decide_eq_false (p := x ≤ b) (Int32.not_le.mpr c7), Bool.and_false]
      refine a_iconst (pc := 14) dX11_within_14 ic_0 ?_
      refine a_ret_i (pc := 15) hM rfl (by decide +kernel) dX11_within_15 (by omega) (by omega) ?_
      exact ⟨by rw [e]; rfl, rfl⟩
    · have e : (decide (a ≤ x) && decide (x ≤ b)) = true := by rw [decide_eq_true (Int32.not_lt.mp c2), decide_eq_true (Int32.not_lt.mp c7)]; rfl
      refine a_iconst (pc := 10) dX11_within_10 ic_1 ?_
      refine a_goto (pc := 11) (tgt := 15) dX11_within_11 (by decide) ?_
      refine a_ret_i (pc := 15) hM rfl (by decide +kernel) dX11_within_15 (by omega) (by omega) ?_
      exact ⟨by rw [e]; rfl, rfl⟩

set_option maxRecDepth 4000 in
theorem f_withN (x : Int32) {a b : Nat} (ha : a < 2147483648) (hb : b < 2147483648) : Fn X 0 0 0 yX11_within cX11_within 3 (some .boolean) [.int x, .int (nI a), .int (nI b)] h (fun rv hv => rv = some (.int (bI (inR x a b))) ∧ hv = h) := by
  refine (f_within x (nI a) (nI b)).imp (fun rv hv ⟨e1, e2⟩ => ⟨e1.trans ?_, e2⟩)
  unfold inR
  rw [show decide (nI a ≤ x) = decide ((a : Int) ≤ x.toInt) from by rw [decide_eq_decide, Int32.le_iff_toInt_le, nI_toInt ha], show decide (x ≤ nI b) = decide (x.toInt ≤ (b : Int)) from by rw [decide_eq_decide, Int32.le_iff_toInt_le, nI_toInt hb]]
set_option maxRecDepth 4000 in
theorem f_isBits (x : Int32) {n : Nat} (hn : n ≤ 10) : Fn X 0 0 0 yX11_isBits cX11_isBits 2 (some .boolean) [.int x, .int (nI n)] h (fun rv hv => rv = some (.int (bI (inN x (2 ^ n)))) ∧ hv = h) := by
  have hp2 : 2 ^ n < 2147483648 := Nat.lt_of_le_of_lt (Nat.pow_le_pow_right (by decide) hn) (by decide)
  refine fn_of (by decide) (Nat.le_of_ble_eq_true rfl) (fun M hM => ?_)
  refine a_iconst (pc := 0) dX11_isBits_0 ic_0 ?_
  refine a_iload_n (pc := 1) dX11_isBits_1 rfl rfl ?_
  refine a_icmp_gt (pc := 2) (tgt := 16) dX11_isBits_2 (by decide) (fun c2 => ?_) (fun c2 => ?_)
  · have e : inN x (2 ^ n) = false := Bool.eq_false_iff.mpr (fun z => absurd ((inN_iff hp2).mp z).1 (Int32.not_le.mpr c2))
    refine a_iconst (pc := 16) dX11_isBits_16 ic_0 ?_
    refine a_ret_i (pc := 17) hM rfl (by decide +kernel) dX11_isBits_17 (by omega) (by omega) ?_
    exact ⟨by rw [e]; rfl, rfl⟩
  · refine a_iload_n (pc := 5) dX11_isBits_5 rfl rfl ?_
    refine a_iconst (pc := 6) dX11_isBits_6 ic_1 ?_
    refine a_iload_n (pc := 7) dX11_isBits_7 rfl rfl ?_
    refine a_ishl (pc := 8) dX11_isBits_8 ?_
    refine a_topi (shl1 hn) ?_
    refine a_icmp_ge (pc := 9) (tgt := 16) dX11_isBits_9 (by decide) (fun c9 => ?_) (fun c9 => ?_)
    · have e : inN x (2 ^ n) = false := Bool.eq_false_iff.mpr (fun z => absurd ((inN_iff hp2).mp z).2 (Int32.not_lt.mpr c9))
      refine a_iconst (pc := 16) dX11_isBits_16 ic_0 ?_
      refine a_ret_i (pc := 17) hM rfl (by decide +kernel) dX11_isBits_17 (by omega) (by omega) ?_
      exact ⟨by rw [e]; rfl, rfl⟩
    · have e : inN x (2 ^ n) = true := (inN_iff hp2).mpr ⟨Int32.not_lt.mp c2, Int32.not_le.mp c9⟩
      refine a_iconst (pc := 12) dX11_isBits_12 ic_1 ?_
      refine a_goto (pc := 13) (tgt := 17) dX11_isBits_13 (by decide) ?_
      refine a_ret_i (pc := 17) hM rfl (by decide +kernel) dX11_isBits_17 (by omega) (by omega) ?_
      exact ⟨by rw [e]; rfl, rfl⟩

set_option maxRecDepth 4000 in
theorem f_isPlace (hI : CI X σ s h) (hV : MV s) (x i : Int32) : Fn X 3 0 0 yX11_isPlace cX11_isPlace 3 (some .boolean) [.ref (σ 0 0), .int x, .int i] h (fun rv hv => rv = some (.int (bI (inN x (vI s 18) && inN i (rsz s x.toNatClampNeg)))) ∧ hv = h) := by
  have b10 : vI s 10 ≤ 4 := hV.1.1.2
  have b18 : vI s 18 ≤ 16 := hV.2.1.1.2
  have b28 : vI s 28 ≤ 10 := hV.2.2.1.1.2
  have b31 : vI s 31 ≤ 6 := hV.2.2.2.1.1.2
  have b3 : vI s 3 ≤ 6 := hV.2.2.2.2.2.2.1.1.2
  refine fn_of (by decide) (Nat.le_of_ble_eq_true rfl) (fun M hM => ?_)
  refine a_iload_n (pc := 0) dX11_isPlace_0 rfl rfl ?_
  refine a_aload_n (pc := 1) dX11_isPlace_1 rfl rfl ?_
  refine a_getfield (pc := 2) kg_X11_16 dX11_isPlace_2 (c_fc hI) rfl ?_
  refine a_callV (pc := 5) km_X11_97 dX11_isPlace_5 (w_size hI (i := 1) (by decide)) rfl rfl (kr_l hI (i := 1) (by decide)) (rok_of hM (by decide) (by decide) (by omega) (by omega)) (Nat.le_of_ble_eq_true rfl) (fun r5 h5 hp5 => ?_)
  obtain ⟨rfl, rfl⟩ := And.intro hp5.1 hp5.2.symm
  refine a_topi (show _ = nI (vI s 18) from rfl) ?_
  refine a_callS (pc := 8) km_X11_103 dX11_isPlace_8 (f_among x (by omega)) rfl rfl (rok_of hM (by decide) (by decide) (by omega) (by omega)) (Nat.le_of_ble_eq_true rfl) (fun r8 h8 hp8 => ?_)
  obtain ⟨rfl, rfl⟩ := And.intro hp8.1 hp8.2.symm
  refine a_if_eqB (pc := 11) (tgt := 40) dX11_isPlace_11 (by decide) (fun c11 => ?_) (fun c11 => ?_)
  · have e : (inN x (vI s 18) && inN i (rsz s x.toNatClampNeg)) = false := by rw [c11]; rfl
    refine a_iconst (pc := 40) dX11_isPlace_40 ic_0 ?_
    refine a_ret_i (pc := 41) hM rfl (by decide +kernel) dX11_isPlace_41 (by omega) (by omega) ?_
    exact ⟨by rw [e]; rfl, rfl⟩
  · obtain ⟨r, hr, rfl⟩ := inN_of c11 (by omega)
    have er : (nI r).toNatClampNeg = r := nI_clamp (by omega)
    obtain ⟨ks, kp, f, g, h1, h2, h3, hf, hg⟩ := c_run hI hr
    have hz := rz25 hV hr
    refine a_iload_n (pc := 14) dX11_isPlace_14 rfl rfl ?_
    refine a_aload_n (pc := 15) dX11_isPlace_15 rfl rfl ?_
    refine a_getfield (pc := 16) kg_X11_16 dX11_isPlace_16 (c_fc hI) rfl ?_
    refine a_iload_n (pc := 19) dX11_isPlace_19 rfl rfl ?_
    refine a_callV (pc := 20) km_X11_109 dX11_isPlace_20 (w_get hI (i := 1) (j := r) (by decide) (show r < vI s 18 from hr)) rfl rfl (kr_l hI (i := 1) (by decide)) (rok_of hM (by decide) (by decide) (by omega) (by omega)) (Nat.le_of_ble_eq_true rfl) (fun r20 h20 hp20 => ?_)
    obtain ⟨rfl, rfl⟩ := And.intro hp20.1 hp20.2.symm
    refine a_topr (show _ = σ 17 r from rfl) ?_
    refine a_castE (pc := 23) kl_X11_107 rfl (c_isR hI (show r < vI s 18 from hr)) dX11_isPlace_23 ?_
    refine a_getfield (pc := 26) kg_X11_119 dX11_isPlace_26 (h1) rfl ?_
    refine a_alen (pc := 29) (t := 0) rfl dX11_isPlace_29 (h2) rfl ?_
    refine a_callS (pc := 30) km_X11_103 dX11_isPlace_30 (f_among i (by omega)) rfl rfl (rok_of hM (by decide) (by decide) (by omega) (by omega)) (Nat.le_of_ble_eq_true rfl) (fun r30 h30 hp30 => ?_)
    obtain ⟨rfl, rfl⟩ := And.intro hp30.1 hp30.2.symm
    refine a_if_eqB (pc := 33) (tgt := 40) dX11_isPlace_33 (by decide) (fun c33 => ?_) (fun c33 => ?_)
    · have e : (inN (nI r) (vI s 18) && inN i (rsz s (nI r).toNatClampNeg)) = false := by rw [c11, er, c33]; rfl
      refine a_iconst (pc := 40) dX11_isPlace_40 ic_0 ?_
      refine a_ret_i (pc := 41) hM rfl (by decide +kernel) dX11_isPlace_41 (by omega) (by omega) ?_
      exact ⟨by rw [e]; rfl, rfl⟩
    · have e : (inN (nI r) (vI s 18) && inN i (rsz s (nI r).toNatClampNeg)) = true := by rw [c11, er, c33]; rfl
      refine a_iconst (pc := 36) dX11_isPlace_36 ic_1 ?_
      refine a_goto (pc := 37) (tgt := 41) dX11_isPlace_37 (by decide) ?_
      refine a_ret_i (pc := 41) hM rfl (by decide +kernel) dX11_isPlace_41 (by omega) (by omega) ?_
      exact ⟨by rw [e]; rfl, rfl⟩

theorem capP_lt (v : Int32) (n : Nat) : (if nI n < v then nI n else v) = capP v n := by
  unfold capP
  by_cases q : nI n < v
  · rw [if_pos q, if_pos (Int32.le_of_lt q)]
  · rw [if_neg q]
    by_cases q2 : nI n ≤ v
    · rw [if_pos q2]; exact Int32.le_antisymm (Int32.not_lt.mp q) q2
    · rw [if_neg q2]
set_option maxRecDepth 4000 in
theorem f_bound (hI : CI X σ s h) (hV : MV s) {r : Nat} (hr : r < vI s 18) : Fn X 3 0 0 yX11_bound cX11_bound 4 (some .int) [.ref (σ 0 0), .ref (σ 17 r)] h (fun rv hv => rv = some (.int (boundP s r (rsz s r) (vI s 28))) ∧ hv = h) := by
  have b10 : vI s 10 ≤ 4 := hV.1.1.2
  have b18 : vI s 18 ≤ 16 := hV.2.1.1.2
  have b28 : vI s 28 ≤ 10 := hV.2.2.1.1.2
  have b31 : vI s 31 ≤ 6 := hV.2.2.2.1.1.2
  have b3 : vI s 3 ≤ 6 := hV.2.2.2.2.2.2.1.1.2
  obtain ⟨ks, kp, f, g, h1, h2, h3, hf, hg⟩ := c_run hI hr
  refine fn_of (by decide) (Nat.le_of_ble_eq_true rfl) (fun M hM => ?_)
  have lp : ∀ (d k : Nat), vI s 28 - k = d → k ≤ vI s 28 → AJ X M yX11_bound cX11_bound 4 (some .int) 4 [(0, .ref (σ 0 0)), (1, .ref (σ 17 r)), (2, .int (boundS s r (rsz s r) k)), (3, .int (nI k))] [] h 0 0 := by
    intro d
    induction d with
    | zero =>
      intro k hd hle
      refine a_iload_n (pc := 4) dX11_bound_4 rfl rfl ?_
      refine a_aload_n (pc := 5) dX11_bound_5 rfl rfl ?_
      refine a_getfield (pc := 6) kg_X11_19 dX11_bound_6 (c_fc hI) rfl ?_
      refine a_callV (pc := 9) km_X11_97 dX11_bound_9 (w_size hI (i := 2) (by decide)) rfl rfl (kr_l hI (i := 2) (by decide)) (rok_of hM (by decide) (by decide) (by omega) (by omega)) (Nat.le_of_ble_eq_true rfl) (fun r9 h9 hp9 => ?_)
      obtain ⟨rfl, rfl⟩ := And.intro hp9.1 hp9.2.symm
      refine a_topi (show _ = nI (vI s 28) from rfl) ?_
      refine a_icmp_geN (pc := 12) (tgt := 39) dX11_bound_12 (by decide) (by omega) (by omega) (fun c12 => ?_) (fun c12 => ?_)
      · have hk : k = vI s 28 := by omega
        rw [hk]
        refine a_iload_n (pc := 39) dX11_bound_39 rfl rfl ?_
        refine a_aload_n (pc := 40) dX11_bound_40 rfl rfl ?_
        refine a_getfield (pc := 41) kg_X11_119 dX11_bound_41 (h1) rfl ?_
        refine a_alen (pc := 44) (t := 0) rfl dX11_bound_44 (h2) rfl ?_
        refine a_mmin (pc := 45) km_X11_319 dX11_bound_45 (by rw [hM.1]; simp only [rmd]; omega) (by rw [hM.1]; simp [rmd, Value.category] <;> omega) (by rw [hM.1]; simp only [rmd]; omega) (by rw [hM.1]; simp only [rmd]; omega) ?_
        refine a_ret_i (pc := 48) hM rfl (rfl) dX11_bound_48 (by omega) (by omega) ?_
        exact ⟨congrArg (fun t => some (Value.int t)) (capP_lt _ _), rfl⟩
      · exact absurd c12 (by omega)
    | succ d ih =>
      intro k hd hle
      refine a_iload_n (pc := 4) dX11_bound_4 rfl rfl ?_
      refine a_aload_n (pc := 5) dX11_bound_5 rfl rfl ?_
      refine a_getfield (pc := 6) kg_X11_19 dX11_bound_6 (c_fc hI) rfl ?_
      refine a_callV (pc := 9) km_X11_97 dX11_bound_9 (w_size hI (i := 2) (by decide)) rfl rfl (kr_l hI (i := 2) (by decide)) (rok_of hM (by decide) (by decide) (by omega) (by omega)) (Nat.le_of_ble_eq_true rfl) (fun r9 h9 hp9 => ?_)
      obtain ⟨rfl, rfl⟩ := And.intro hp9.1 hp9.2.symm
      refine a_topi (show _ = nI (vI s 28) from rfl) ?_
      refine a_icmp_geN (pc := 12) (tgt := 39) dX11_bound_12 (by decide) (by omega) (by omega) (fun c12 => ?_) (fun c12 => ?_)
      · exact absurd c12 (by omega)
      · refine a_iload_n (pc := 15) dX11_bound_15 rfl rfl ?_
        refine a_aload_n (pc := 16) dX11_bound_16 rfl rfl ?_
        refine a_getfield (pc := 17) kg_X11_19 dX11_bound_17 (c_fc hI) rfl ?_
        refine a_iload_n (pc := 20) dX11_bound_20 rfl rfl ?_
        refine a_callV (pc := 21) km_X11_109 dX11_bound_21 (w_get hI (i := 2) (j := k) (by decide) (show k < vI s 28 from by omega)) rfl rfl (kr_l hI (i := 2) (by decide)) (rok_of hM (by decide) (by decide) (by omega) (by omega)) (Nat.le_of_ble_eq_true rfl) (fun r21 h21 hp21 => ?_)
        obtain ⟨rfl, rfl⟩ := And.intro hp21.1 hp21.2.symm
        refine a_topr (show _ = σ 24 k from rfl) ?_
        refine a_castE (pc := 24) kl_X11_194 rfl (c_isL hI (show k < vI s 28 from by omega)) dX11_bound_24 ?_
        refine a_aload_n (pc := 27) dX11_bound_27 rfl rfl ?_
        refine a_callV (pc := 28) km_X11_203 dX11_bound_28 (w_mostH hI hV (by omega) hr) rfl rfl (kr_k hI (by omega)) (rok_of hM (by decide) (by decide) (by omega) (by omega)) (Nat.le_of_ble_eq_true rfl) (fun r28 h28 hp28 => ?_)
        obtain ⟨rfl, rfl⟩ := And.intro hp28.1 hp28.2.symm
        refine a_iadd (pc := 31) dX11_bound_31 ?_
        refine a_istore_n (pc := 32) dX11_bound_32 rfl (by decide) rfl ?_
        refine a_iincN (pc := 33) (n := 1) dX11_bound_33 (by decide) rfl (by decide) rfl ?_
        refine a_goto (pc := 36) (tgt := 4) dX11_bound_36 (by decide) ?_
        exact a_locR (ih (k + 1) (by omega) (by omega)) ⟨rfl, rfl, rfl, rfl, trivial⟩
  refine a_iconst (pc := 0) dX11_bound_0 ic_0 ?_
  refine a_istore_n (pc := 1) dX11_bound_1 rfl (by decide) rfl ?_
  refine a_iconst (pc := 2) dX11_bound_2 ic_0 ?_
  refine a_istore_n (pc := 3) dX11_bound_3 rfl (by decide) rfl ?_
  exact a_locR (lp _ 0 rfl (Nat.zero_le _)) ⟨rfl, rfl, rfl, rfl, trivial⟩

theorem c_gu (hI : CI X σ s h) {r : Nat} (hr : r < vI s 18) : ∃ (ks kp : Int32), h (σ 17 r) = some (rO (s.2.1 11 r) (s.2.1 12 r) (s.2.1 13 r) (s.2.1 16 r) (s.2.1 17 r) ks kp (σ 15 (vA s 11 r)) (σ 18 r) (σ 19 r) (σ 20 r) (σ 21 r) (σ 22 r) (σ 23 r)) := by
  obtain ⟨ks, kp, f, g, h1, -⟩ := c_run hI hr
  exact ⟨ks, kp, h1⟩
theorem hitsP_le (s : MST) (r n : Nat) : hitsP s r n ≤ n := cntN_le _ _
theorem cAll_le {s : MST} (hV : MV s) {r k : Nat} (hk : k ≤ vI s 18) : allP s r k ≤ 25 * k := by
  induction k with
  | zero => exact Nat.le_refl _
  | succ k ih =>
    have h1 := ih (by omega)
    have h2 := hitsP_le s k (rsz s k)
    have h3 := rz25 hV (r := k) (by omega)
    show allP s r k + (if sameG s r k = true then hitsP s k (rsz s k) else 0) ≤ _
    split <;> omega
set_option maxRecDepth 4000 in
theorem f_runsTill (hI : CI X σ s h) (hV : MV s) {r : Nat} (hr : r < vI s 18) : Fn X 3 0 0 yX11_runsTill cX11_runsTill 5 (some .int) [.ref (σ 0 0), .int (nI r)] h (fun rv hv => rv = some (.int (nI (runP s r (r + 1)))) ∧ hv = h) := by
  have b10 : vI s 10 ≤ 4 := hV.1.1.2
  have b18 : vI s 18 ≤ 16 := hV.2.1.1.2
  have b28 : vI s 28 ≤ 10 := hV.2.2.1.1.2
  have b31 : vI s 31 ≤ 6 := hV.2.2.2.1.1.2
  have b3 : vI s 3 ≤ 6 := hV.2.2.2.2.2.2.1.1.2
  obtain ⟨ks, kp, f, g, h1, h2, h3, hf, hg⟩ := c_run hI hr
  refine fn_of (by decide) (Nat.le_of_ble_eq_true rfl) (fun M hM => ?_)
  have lp : ∀ (d k : Nat), (r + 1) - k = d → k ≤ (r + 1) → AJ X M yX11_runsTill cX11_runsTill 5 (some .int) 20 [(0, .ref (σ 0 0)), (1, .int (nI r)), (2, .int (s.2.1 12 r)), (3, .int (nI (runP s r k))), (4, .int (nI k))] [] h 0 0 := by
    intro d
    induction d with
    | zero =>
      intro k hd hle
      refine a_iload (pc := 20) dX11_runsTill_20 rfl ?_
      refine a_iload_n (pc := 22) dX11_runsTill_22 rfl rfl ?_
      refine a_icmp_gtN (pc := 23) (tgt := 59) dX11_runsTill_23 (by decide) (by omega) (by omega) (fun c23 => ?_) (fun c23 => ?_)
      · have hk : k = r + 1 := by omega
        rw [hk]
        refine a_iload_n (pc := 59) dX11_runsTill_59 rfl rfl ?_
        refine a_ret_i (pc := 60) hM rfl (rfl) dX11_runsTill_60 (by omega) (by omega) ?_
        exact ⟨rfl, rfl⟩
      · exact absurd c23 (by omega)
    | succ d ih =>
      intro k hd hle
      have hci : runP s r k ≤ k := cntN_le _ _
      refine a_iload (pc := 20) dX11_runsTill_20 rfl ?_
      refine a_iload_n (pc := 22) dX11_runsTill_22 rfl rfl ?_
      refine a_icmp_gtN (pc := 23) (tgt := 59) dX11_runsTill_23 (by decide) (by omega) (by omega) (fun c23 => ?_) (fun c23 => ?_)
      · exact absurd c23 (by omega)
      · obtain ⟨ksk, kpk, hk1⟩ := c_gu hI (r := k) (by omega)
        refine a_iload_n (pc := 26) dX11_runsTill_26 rfl rfl ?_
        refine a_aload_n (pc := 27) dX11_runsTill_27 rfl rfl ?_
        refine a_getfield (pc := 28) kg_X11_16 dX11_runsTill_28 (c_fc hI) rfl ?_
        refine a_iload (pc := 31) dX11_runsTill_31 rfl ?_
        refine a_callV (pc := 33) km_X11_109 dX11_runsTill_33 (w_get hI (i := 1) (j := k) (by decide) (show k < vI s 18 from by omega)) rfl rfl (kr_l hI (i := 1) (by decide)) (rok_of hM (by decide) (by decide) (by omega) (by omega)) (Nat.le_of_ble_eq_true rfl) (fun r33 h33 hp33 => ?_)
        obtain ⟨rfl, rfl⟩ := And.intro hp33.1 hp33.2.symm
        refine a_topr (show _ = σ 17 k from rfl) ?_
        refine a_castE (pc := 36) kl_X11_107 rfl (c_isR hI (show k < vI s 18 from by omega)) dX11_runsTill_36 ?_
        refine a_getfield (pc := 39) kg_X11_150 dX11_runsTill_39 (hk1) rfl ?_
        refine a_iload_n (pc := 42) dX11_runsTill_42 rfl rfl ?_
        refine a_icmp_ne (pc := 43) (tgt := 50) dX11_runsTill_43 (by decide) (fun c43 => ?_) (fun c43 => ?_)
        · have e : runP s r (k + 1) = runP s r k := cntN_f (decide_eq_false c43)
          refine a_iconst (pc := 50) dX11_runsTill_50 ic_0 ?_
          refine a_iaddN (pc := 51) dX11_runsTill_51 ?_
          refine a_istore_n (pc := 52) dX11_runsTill_52 rfl (by decide) rfl ?_
          refine a_iincN (pc := 53) (n := 1) dX11_runsTill_53 (by decide) rfl (by decide) rfl ?_
          refine a_goto (pc := 56) (tgt := 20) dX11_runsTill_56 (by decide) ?_
          exact a_locR (ih (k + 1) (by omega) (by omega)) (by rw [e]; exact ⟨rfl, rfl, rfl, rfl, rfl, trivial⟩)
        · have e : runP s r (k + 1) = runP s r k + 1 := cntN_t (decide_eq_true c43)
          refine a_iconst (pc := 46) dX11_runsTill_46 ic_1 ?_
          refine a_goto (pc := 47) (tgt := 51) dX11_runsTill_47 (by decide) ?_
          refine a_iaddN (pc := 51) dX11_runsTill_51 ?_
          refine a_istore_n (pc := 52) dX11_runsTill_52 rfl (by decide) rfl ?_
          refine a_iincN (pc := 53) (n := 1) dX11_runsTill_53 (by decide) rfl (by decide) rfl ?_
          refine a_goto (pc := 56) (tgt := 20) dX11_runsTill_56 (by decide) ?_
          exact a_locR (ih (k + 1) (by omega) (by omega)) (by rw [e]; exact ⟨rfl, rfl, rfl, rfl, rfl, trivial⟩)
  refine a_aload_n (pc := 0) dX11_runsTill_0 rfl rfl ?_
  refine a_getfield (pc := 1) kg_X11_16 dX11_runsTill_1 (c_fc hI) rfl ?_
  refine a_iload_n (pc := 4) dX11_runsTill_4 rfl rfl ?_
  refine a_callV (pc := 5) km_X11_109 dX11_runsTill_5 (w_get hI (i := 1) (j := r) (by decide) (show r < vI s 18 from hr)) rfl rfl (kr_l hI (i := 1) (by decide)) (rok_of hM (by decide) (by decide) (by omega) (by omega)) (Nat.le_of_ble_eq_true rfl) (fun r5 h5 hp5 => ?_)
  obtain ⟨rfl, rfl⟩ := And.intro hp5.1 hp5.2.symm
  refine a_topr (show _ = σ 17 r from rfl) ?_
  refine a_castE (pc := 8) kl_X11_107 rfl (c_isR hI (show r < vI s 18 from hr)) dX11_runsTill_8 ?_
  refine a_getfield (pc := 11) kg_X11_150 dX11_runsTill_11 (h1) rfl ?_
  refine a_istore_n (pc := 14) dX11_runsTill_14 rfl (by decide) rfl ?_
  refine a_iconst (pc := 15) dX11_runsTill_15 ic_0 ?_
  refine a_istore_n (pc := 16) dX11_runsTill_16 rfl (by decide) rfl ?_
  refine a_iconst (pc := 17) dX11_runsTill_17 ic_0 ?_
  refine a_istore (pc := 18) dX11_runsTill_18 (by decide) rfl ?_
  exact a_locR (lp _ 0 rfl (Nat.zero_le _)) ⟨rfl, rfl, rfl, rfl, rfl, trivial⟩

set_option maxRecDepth 4000 in
theorem f_hitsTill (hI : CI X σ s h) (hV : MV s) {r : Nat} (hr : r < vI s 18) : Fn X 3 0 0 yX11_hitsTill cX11_hitsTill 5 (some .int) [.ref (σ 0 0), .int (nI r)] h (fun rv hv => rv = some (.int (nI (allP s r (r + 1)))) ∧ hv = h) := by
  have b10 : vI s 10 ≤ 4 := hV.1.1.2
  have b18 : vI s 18 ≤ 16 := hV.2.1.1.2
  have b28 : vI s 28 ≤ 10 := hV.2.2.1.1.2
  have b31 : vI s 31 ≤ 6 := hV.2.2.2.1.1.2
  have b3 : vI s 3 ≤ 6 := hV.2.2.2.2.2.2.1.1.2
  obtain ⟨ks, kp, f, g, h1, h2, h3, hf, hg⟩ := c_run hI hr
  refine fn_of (by decide) (Nat.le_of_ble_eq_true rfl) (fun M hM => ?_)
  have lp : ∀ (d k : Nat), (r + 1) - k = d → k ≤ (r + 1) → AJ X M yX11_hitsTill cX11_hitsTill 5 (some .int) 20 [(0, .ref (σ 0 0)), (1, .int (nI r)), (2, .int (s.2.1 12 r)), (3, .int (nI (allP s r k))), (4, .int (nI k))] [] h 0 0 := by
    intro d
    induction d with
    | zero =>
      intro k hd hle
      refine a_iload (pc := 20) dX11_hitsTill_20 rfl ?_
      refine a_iload_n (pc := 22) dX11_hitsTill_22 rfl rfl ?_
      refine a_icmp_gtN (pc := 23) (tgt := 73) dX11_hitsTill_23 (by decide) (by omega) (by omega) (fun c23 => ?_) (fun c23 => ?_)
      · have hk : k = r + 1 := by omega
        rw [hk]
        refine a_iload_n (pc := 73) dX11_hitsTill_73 rfl rfl ?_
        refine a_ret_i (pc := 74) hM rfl (rfl) dX11_hitsTill_74 (by omega) (by omega) ?_
        exact ⟨rfl, rfl⟩
      · exact absurd c23 (by omega)
    | succ d ih =>
      intro k hd hle
      have hci := cAll_le hV (r := r) (k := k) (by omega)
      refine a_iload (pc := 20) dX11_hitsTill_20 rfl ?_
      refine a_iload_n (pc := 22) dX11_hitsTill_22 rfl rfl ?_
      refine a_icmp_gtN (pc := 23) (tgt := 73) dX11_hitsTill_23 (by decide) (by omega) (by omega) (fun c23 => ?_) (fun c23 => ?_)
      · exact absurd c23 (by omega)
      · obtain ⟨ksk, kpk, hk1⟩ := c_gu hI (r := k) (by omega)
        refine a_iload_n (pc := 26) dX11_hitsTill_26 rfl rfl ?_
        refine a_aload_n (pc := 27) dX11_hitsTill_27 rfl rfl ?_
        refine a_getfield (pc := 28) kg_X11_16 dX11_hitsTill_28 (c_fc hI) rfl ?_
        refine a_iload (pc := 31) dX11_hitsTill_31 rfl ?_
        refine a_callV (pc := 33) km_X11_109 dX11_hitsTill_33 (w_get hI (i := 1) (j := k) (by decide) (show k < vI s 18 from by omega)) rfl rfl (kr_l hI (i := 1) (by decide)) (rok_of hM (by decide) (by decide) (by omega) (by omega)) (Nat.le_of_ble_eq_true rfl) (fun r33 h33 hp33 => ?_)
        obtain ⟨rfl, rfl⟩ := And.intro hp33.1 hp33.2.symm
        refine a_topr (show _ = σ 17 k from rfl) ?_
        refine a_castE (pc := 36) kl_X11_107 rfl (c_isR hI (show k < vI s 18 from by omega)) dX11_hitsTill_36 ?_
        refine a_getfield (pc := 39) kg_X11_150 dX11_hitsTill_39 (hk1) rfl ?_
        refine a_iload_n (pc := 42) dX11_hitsTill_42 rfl rfl ?_
        refine a_icmp_ne (pc := 43) (tgt := 64) dX11_hitsTill_43 (by decide) (fun c43 => ?_) (fun c43 => ?_)
        · have e : allP s r (k + 1) = allP s r k + 0 := congrArg (allP s r k + ·) (if_neg (by rw [show sameG s r k = false from decide_eq_false c43]; decide))
          refine a_iconst (pc := 64) dX11_hitsTill_64 ic_0 ?_
          refine a_iaddN (pc := 65) dX11_hitsTill_65 ?_
          refine a_istore_n (pc := 66) dX11_hitsTill_66 rfl (by decide) rfl ?_
          refine a_iincN (pc := 67) (n := 1) dX11_hitsTill_67 (by decide) rfl (by decide) rfl ?_
          refine a_goto (pc := 70) (tgt := 20) dX11_hitsTill_70 (by decide) ?_
          exact a_locR (ih (k + 1) (by omega) (by omega)) (by rw [e]; exact ⟨rfl, rfl, rfl, rfl, rfl, trivial⟩)
        · have e : allP s r (k + 1) = allP s r k + hitsP s k (rsz s k) := congrArg (allP s r k + ·) (if_pos (decide_eq_true c43))
          refine a_aload_n (pc := 46) dX11_hitsTill_46 rfl rfl ?_
          refine a_getfield (pc := 47) kg_X11_16 dX11_hitsTill_47 (c_fc hI) rfl ?_
          refine a_iload (pc := 50) dX11_hitsTill_50 rfl ?_
          refine a_callV (pc := 52) km_X11_109 dX11_hitsTill_52 (w_get hI (i := 1) (j := k) (by decide) (show k < vI s 18 from by omega)) rfl rfl (kr_l hI (i := 1) (by decide)) (rok_of hM (by decide) (by decide) (by omega) (by omega)) (Nat.le_of_ble_eq_true rfl) (fun r52 h52 hp52 => ?_)
          obtain ⟨rfl, rfl⟩ := And.intro hp52.1 hp52.2.symm
          refine a_topr (show _ = σ 17 k from rfl) ?_
          refine a_castE (pc := 55) kl_X11_107 rfl (c_isR hI (show k < vI s 18 from by omega)) dX11_hitsTill_55 ?_
          refine a_callV (pc := 58) km_X11_143 dX11_hitsTill_58 (w_hits hI hV (r := k) (by omega)) rfl rfl (kr_r hI (by omega)) (rok_of hM (by decide) (by decide) (by omega) (by omega)) (Nat.le_of_ble_eq_true rfl) (fun r58 h58 hp58 => ?_)
          obtain ⟨rfl, rfl⟩ := And.intro hp58.1 hp58.2.symm
          refine a_goto (pc := 61) (tgt := 65) dX11_hitsTill_61 (by decide) ?_
          refine a_iaddN (pc := 65) dX11_hitsTill_65 ?_
          refine a_istore_n (pc := 66) dX11_hitsTill_66 rfl (by decide) rfl ?_
          refine a_iincN (pc := 67) (n := 1) dX11_hitsTill_67 (by decide) rfl (by decide) rfl ?_
          refine a_goto (pc := 70) (tgt := 20) dX11_hitsTill_70 (by decide) ?_
          exact a_locR (ih (k + 1) (by omega) (by omega)) (by rw [e]; exact ⟨rfl, rfl, rfl, rfl, rfl, trivial⟩)
  refine a_aload_n (pc := 0) dX11_hitsTill_0 rfl rfl ?_
  refine a_getfield (pc := 1) kg_X11_16 dX11_hitsTill_1 (c_fc hI) rfl ?_
  refine a_iload_n (pc := 4) dX11_hitsTill_4 rfl rfl ?_
  refine a_callV (pc := 5) km_X11_109 dX11_hitsTill_5 (w_get hI (i := 1) (j := r) (by decide) (show r < vI s 18 from hr)) rfl rfl (kr_l hI (i := 1) (by decide)) (rok_of hM (by decide) (by decide) (by omega) (by omega)) (Nat.le_of_ble_eq_true rfl) (fun r5 h5 hp5 => ?_)
  obtain ⟨rfl, rfl⟩ := And.intro hp5.1 hp5.2.symm
  refine a_topr (show _ = σ 17 r from rfl) ?_
  refine a_castE (pc := 8) kl_X11_107 rfl (c_isR hI (show r < vI s 18 from hr)) dX11_hitsTill_8 ?_
  refine a_getfield (pc := 11) kg_X11_150 dX11_hitsTill_11 (h1) rfl ?_
  refine a_istore_n (pc := 14) dX11_hitsTill_14 rfl (by decide) rfl ?_
  refine a_iconst (pc := 15) dX11_hitsTill_15 ic_0 ?_
  refine a_istore_n (pc := 16) dX11_hitsTill_16 rfl (by decide) rfl ?_
  refine a_iconst (pc := 17) dX11_hitsTill_17 ic_0 ?_
  refine a_istore (pc := 18) dX11_hitsTill_18 (by decide) rfl ?_
  exact a_locR (lp _ 0 rfl (Nat.zero_le _)) ⟨rfl, rfl, rfl, rfl, rfl, trivial⟩

theorem ranM_t {s : MST} {g a b : Int32} {k : Nat} (q : inDay s g a b k = true) : ranM s g a b (k + 1) = ranM s g a b k + 1 := congrArg (ranM s g a b k + ·) (if_pos q)
theorem ranM_f {s : MST} {g a b : Int32} {k : Nat} (q : inDay s g a b k = false) : ranM s g a b (k + 1) = ranM s g a b k + 0 := congrArg (ranM s g a b k + ·) (if_neg (by rw [q]; decide))
theorem ranH_t {s : MST} {g a b : Int32} {k : Nat} (q : inDay s g a b k = true) : ranH s g a b (k + 1) = ranH s g a b k + hitsP s k (rsz s k) := congrArg (ranH s g a b k + ·) (if_pos q)
theorem ranH_f {s : MST} {g a b : Int32} {k : Nat} (q : inDay s g a b k = false) : ranH s g a b (k + 1) = ranH s g a b k + 0 := congrArg (ranH s g a b k + ·) (if_neg (by rw [q]; decide))
set_option maxRecDepth 4000 in
theorem f_runsIn (hI : CI X σ s h) (hV : MV s) (q a b : Int32) : Fn X 3 0 0 yX11_runsInDays cX11_runsInDays 6 (some .int) [.ref (σ 0 0), .int q, .int a, .int b] h (fun rv hv => rv = some (.int (nI (ranM s q a b (vI s 18)))) ∧ hv = h) := by
  have b10 : vI s 10 ≤ 4 := hV.1.1.2
  have b18 : vI s 18 ≤ 16 := hV.2.1.1.2
  have b28 : vI s 28 ≤ 10 := hV.2.2.1.1.2
  have b31 : vI s 31 ≤ 6 := hV.2.2.2.1.1.2
  have b3 : vI s 3 ≤ 6 := hV.2.2.2.2.2.2.1.1.2
  refine fn_of (by decide) (Nat.le_of_ble_eq_true rfl) (fun M hM => ?_)
  have lp : ∀ (d k : Nat), vI s 18 - k = d → k ≤ vI s 18 → AJ X M yX11_runsInDays cX11_runsInDays 6 (some .int) 6 [(0, .ref (σ 0 0)), (1, .int q), (2, .int a), (3, .int b), (4, .int (nI (ranM s q a b k))), (5, .int (nI k))] [] h 0 0 := by
    intro d
    induction d with
    | zero =>
      intro k hd hle
      refine a_iload (pc := 6) dX11_runsInDays_6 rfl ?_
      refine a_aload_n (pc := 8) dX11_runsInDays_8 rfl rfl ?_
      refine a_getfield (pc := 9) kg_X11_16 dX11_runsInDays_9 (c_fc hI) rfl ?_
      refine a_callV (pc := 12) km_X11_97 dX11_runsInDays_12 (w_size hI (i := 1) (by decide)) rfl rfl (kr_l hI (i := 1) (by decide)) (rok_of hM (by decide) (by decide) (by omega) (by omega)) (Nat.le_of_ble_eq_true rfl) (fun r12 h12 hp12 => ?_)
      obtain ⟨rfl, rfl⟩ := And.intro hp12.1 hp12.2.symm
      refine a_topi (show _ = nI (vI s 18) from rfl) ?_
      refine a_icmp_geN (pc := 15) (tgt := 55) dX11_runsInDays_15 (by decide) (by omega) (by omega) (fun c15 => ?_) (fun c15 => ?_)
      · have hk : k = vI s 18 := by omega
        rw [hk]
        refine a_iload (pc := 55) dX11_runsInDays_55 rfl ?_
        refine a_ret_i (pc := 57) hM rfl (rfl) dX11_runsInDays_57 (by omega) (by omega) ?_
        exact ⟨rfl, rfl⟩
      · exact absurd c15 (by omega)
    | succ d ih =>
      intro k hd hle
      refine a_iload (pc := 6) dX11_runsInDays_6 rfl ?_
      refine a_aload_n (pc := 8) dX11_runsInDays_8 rfl rfl ?_
      refine a_getfield (pc := 9) kg_X11_16 dX11_runsInDays_9 (c_fc hI) rfl ?_
      refine a_callV (pc := 12) km_X11_97 dX11_runsInDays_12 (w_size hI (i := 1) (by decide)) rfl rfl (kr_l hI (i := 1) (by decide)) (rok_of hM (by decide) (by decide) (by omega) (by omega)) (Nat.le_of_ble_eq_true rfl) (fun r12 h12 hp12 => ?_)
      obtain ⟨rfl, rfl⟩ := And.intro hp12.1 hp12.2.symm
      refine a_topi (show _ = nI (vI s 18) from rfl) ?_
      refine a_icmp_geN (pc := 15) (tgt := 55) dX11_runsInDays_15 (by decide) (by omega) (by omega) (fun c15 => ?_) (fun c15 => ?_)
      · exact absurd c15 (by omega)
      · refine a_iload (pc := 18) dX11_runsInDays_18 rfl ?_
        refine a_aload_n (pc := 20) dX11_runsInDays_20 rfl rfl ?_
        refine a_getfield (pc := 21) kg_X11_16 dX11_runsInDays_21 (c_fc hI) rfl ?_
        refine a_iload (pc := 24) dX11_runsInDays_24 rfl ?_
        refine a_callV (pc := 26) km_X11_109 dX11_runsInDays_26 (w_get hI (i := 1) (j := k) (by decide) (show k < vI s 18 from by omega)) rfl rfl (kr_l hI (i := 1) (by decide)) (rok_of hM (by decide) (by decide) (by omega) (by omega)) (Nat.le_of_ble_eq_true rfl) (fun r26 h26 hp26 => ?_)
        obtain ⟨rfl, rfl⟩ := And.intro hp26.1 hp26.2.symm
        refine a_topr (show _ = σ 17 k from rfl) ?_
        refine a_castE (pc := 29) kl_X11_107 rfl (c_isR hI (show k < vI s 18 from by omega)) dX11_runsInDays_29 ?_
        refine a_iload_n (pc := 32) dX11_runsInDays_32 rfl rfl ?_
        refine a_iload_n (pc := 33) dX11_runsInDays_33 rfl rfl ?_
        refine a_iload_n (pc := 34) dX11_runsInDays_34 rfl rfl ?_
        refine a_callV (pc := 35) km_X11_334 dX11_runsInDays_35 (w_isOf hI hV (r := k) (by omega) q a b) rfl rfl (kr_r hI (by omega)) (rok_of hM (by decide) (by decide) (by omega) (by omega)) (Nat.le_of_ble_eq_true rfl) (fun r35 h35 hp35 => ?_)
        obtain ⟨rfl, rfl⟩ := And.intro hp35.1 hp35.2.symm
        refine a_if_eqB (pc := 38) (tgt := 45) dX11_runsInDays_38 (by decide) (fun c38 => ?_) (fun c38 => ?_)
        · have e := ranM_f c38
          refine a_iconst (pc := 45) dX11_runsInDays_45 ic_0 ?_
          refine a_iaddN (pc := 46) dX11_runsInDays_46 ?_
          refine a_istore (pc := 47) dX11_runsInDays_47 (by decide) rfl ?_
          refine a_iincN (pc := 49) (n := 1) dX11_runsInDays_49 (by decide) rfl (by decide) rfl ?_
          refine a_goto (pc := 52) (tgt := 6) dX11_runsInDays_52 (by decide) ?_
          exact a_locR (ih (k + 1) (by omega) (by omega)) (by rw [e]; exact ⟨rfl, rfl, rfl, rfl, rfl, rfl, trivial⟩)
        · have e := ranM_t c38
          refine a_iconst (pc := 41) dX11_runsInDays_41 ic_1 ?_
          refine a_goto (pc := 42) (tgt := 46) dX11_runsInDays_42 (by decide) ?_
          refine a_iaddN (pc := 46) dX11_runsInDays_46 ?_
          refine a_istore (pc := 47) dX11_runsInDays_47 (by decide) rfl ?_
          refine a_iincN (pc := 49) (n := 1) dX11_runsInDays_49 (by decide) rfl (by decide) rfl ?_
          refine a_goto (pc := 52) (tgt := 6) dX11_runsInDays_52 (by decide) ?_
          exact a_locR (ih (k + 1) (by omega) (by omega)) (by rw [e]; exact ⟨rfl, rfl, rfl, rfl, rfl, rfl, trivial⟩)
  refine a_iconst (pc := 0) dX11_runsInDays_0 ic_0 ?_
  refine a_istore (pc := 1) dX11_runsInDays_1 (by decide) rfl ?_
  refine a_iconst (pc := 3) dX11_runsInDays_3 ic_0 ?_
  refine a_istore (pc := 4) dX11_runsInDays_4 (by decide) rfl ?_
  exact a_locR (lp _ 0 rfl (Nat.zero_le _)) ⟨rfl, rfl, rfl, rfl, rfl, rfl, trivial⟩

set_option maxRecDepth 4000 in
theorem f_hitsIn (hI : CI X σ s h) (hV : MV s) (q a b : Int32) : Fn X 3 0 0 yX11_hitsInDays cX11_hitsInDays 6 (some .int) [.ref (σ 0 0), .int q, .int a, .int b] h (fun rv hv => rv = some (.int (nI (ranH s q a b (vI s 18)))) ∧ hv = h) := by
  have b10 : vI s 10 ≤ 4 := hV.1.1.2
  have b18 : vI s 18 ≤ 16 := hV.2.1.1.2
  have b28 : vI s 28 ≤ 10 := hV.2.2.1.1.2
  have b31 : vI s 31 ≤ 6 := hV.2.2.2.1.1.2
  have b3 : vI s 3 ≤ 6 := hV.2.2.2.2.2.2.1.1.2
  refine fn_of (by decide) (Nat.le_of_ble_eq_true rfl) (fun M hM => ?_)
  have lp : ∀ (d k : Nat), vI s 18 - k = d → k ≤ vI s 18 → AJ X M yX11_hitsInDays cX11_hitsInDays 6 (some .int) 6 [(0, .ref (σ 0 0)), (1, .int q), (2, .int a), (3, .int b), (4, .int (nI (ranH s q a b k))), (5, .int (nI k))] [] h 0 0 := by
    intro d
    induction d with
    | zero =>
      intro k hd hle
      refine a_iload (pc := 6) dX11_hitsInDays_6 rfl ?_
      refine a_aload_n (pc := 8) dX11_hitsInDays_8 rfl rfl ?_
      refine a_getfield (pc := 9) kg_X11_16 dX11_hitsInDays_9 (c_fc hI) rfl ?_
      refine a_callV (pc := 12) km_X11_97 dX11_hitsInDays_12 (w_size hI (i := 1) (by decide)) rfl rfl (kr_l hI (i := 1) (by decide)) (rok_of hM (by decide) (by decide) (by omega) (by omega)) (Nat.le_of_ble_eq_true rfl) (fun r12 h12 hp12 => ?_)
      obtain ⟨rfl, rfl⟩ := And.intro hp12.1 hp12.2.symm
      refine a_topi (show _ = nI (vI s 18) from rfl) ?_
      refine a_icmp_geN (pc := 15) (tgt := 69) dX11_hitsInDays_15 (by decide) (by omega) (by omega) (fun c15 => ?_) (fun c15 => ?_)
      · have hk : k = vI s 18 := by omega
        rw [hk]
        refine a_iload (pc := 69) dX11_hitsInDays_69 rfl ?_
        refine a_ret_i (pc := 71) hM rfl (rfl) dX11_hitsInDays_71 (by omega) (by omega) ?_
        exact ⟨rfl, rfl⟩
      · exact absurd c15 (by omega)
    | succ d ih =>
      intro k hd hle
      refine a_iload (pc := 6) dX11_hitsInDays_6 rfl ?_
      refine a_aload_n (pc := 8) dX11_hitsInDays_8 rfl rfl ?_
      refine a_getfield (pc := 9) kg_X11_16 dX11_hitsInDays_9 (c_fc hI) rfl ?_
      refine a_callV (pc := 12) km_X11_97 dX11_hitsInDays_12 (w_size hI (i := 1) (by decide)) rfl rfl (kr_l hI (i := 1) (by decide)) (rok_of hM (by decide) (by decide) (by omega) (by omega)) (Nat.le_of_ble_eq_true rfl) (fun r12 h12 hp12 => ?_)
      obtain ⟨rfl, rfl⟩ := And.intro hp12.1 hp12.2.symm
      refine a_topi (show _ = nI (vI s 18) from rfl) ?_
      refine a_icmp_geN (pc := 15) (tgt := 69) dX11_hitsInDays_15 (by decide) (by omega) (by omega) (fun c15 => ?_) (fun c15 => ?_)
      · exact absurd c15 (by omega)
      · refine a_iload (pc := 18) dX11_hitsInDays_18 rfl ?_
        refine a_aload_n (pc := 20) dX11_hitsInDays_20 rfl rfl ?_
        refine a_getfield (pc := 21) kg_X11_16 dX11_hitsInDays_21 (c_fc hI) rfl ?_
        refine a_iload (pc := 24) dX11_hitsInDays_24 rfl ?_
        refine a_callV (pc := 26) km_X11_109 dX11_hitsInDays_26 (w_get hI (i := 1) (j := k) (by decide) (show k < vI s 18 from by omega)) rfl rfl (kr_l hI (i := 1) (by decide)) (rok_of hM (by decide) (by decide) (by omega) (by omega)) (Nat.le_of_ble_eq_true rfl) (fun r26 h26 hp26 => ?_)
        obtain ⟨rfl, rfl⟩ := And.intro hp26.1 hp26.2.symm
        refine a_topr (show _ = σ 17 k from rfl) ?_
        refine a_castE (pc := 29) kl_X11_107 rfl (c_isR hI (show k < vI s 18 from by omega)) dX11_hitsInDays_29 ?_
        refine a_iload_n (pc := 32) dX11_hitsInDays_32 rfl rfl ?_
        refine a_iload_n (pc := 33) dX11_hitsInDays_33 rfl rfl ?_
        refine a_iload_n (pc := 34) dX11_hitsInDays_34 rfl rfl ?_
        refine a_callV (pc := 35) km_X11_334 dX11_hitsInDays_35 (w_isOf hI hV (r := k) (by omega) q a b) rfl rfl (kr_r hI (by omega)) (rok_of hM (by decide) (by decide) (by omega) (by omega)) (Nat.le_of_ble_eq_true rfl) (fun r35 h35 hp35 => ?_)
        obtain ⟨rfl, rfl⟩ := And.intro hp35.1 hp35.2.symm
        refine a_if_eqB (pc := 38) (tgt := 59) dX11_hitsInDays_38 (by decide) (fun c38 => ?_) (fun c38 => ?_)
        · have e := ranH_f c38
          refine a_iconst (pc := 59) dX11_hitsInDays_59 ic_0 ?_
          refine a_iaddN (pc := 60) dX11_hitsInDays_60 ?_
          refine a_istore (pc := 61) dX11_hitsInDays_61 (by decide) rfl ?_
          refine a_iincN (pc := 63) (n := 1) dX11_hitsInDays_63 (by decide) rfl (by decide) rfl ?_
          refine a_goto (pc := 66) (tgt := 6) dX11_hitsInDays_66 (by decide) ?_
          exact a_locR (ih (k + 1) (by omega) (by omega)) (by rw [e]; exact ⟨rfl, rfl, rfl, rfl, rfl, rfl, trivial⟩)
        · have e := ranH_t c38
          refine a_aload_n (pc := 41) dX11_hitsInDays_41 rfl rfl ?_
          refine a_getfield (pc := 42) kg_X11_16 dX11_hitsInDays_42 (c_fc hI) rfl ?_
          refine a_iload (pc := 45) dX11_hitsInDays_45 rfl ?_
          refine a_callV (pc := 47) km_X11_109 dX11_hitsInDays_47 (w_get hI (i := 1) (j := k) (by decide) (show k < vI s 18 from by omega)) rfl rfl (kr_l hI (i := 1) (by decide)) (rok_of hM (by decide) (by decide) (by omega) (by omega)) (Nat.le_of_ble_eq_true rfl) (fun r47 h47 hp47 => ?_)
          obtain ⟨rfl, rfl⟩ := And.intro hp47.1 hp47.2.symm
          refine a_topr (show _ = σ 17 k from rfl) ?_
          refine a_castE (pc := 50) kl_X11_107 rfl (c_isR hI (show k < vI s 18 from by omega)) dX11_hitsInDays_50 ?_
          refine a_callV (pc := 53) km_X11_143 dX11_hitsInDays_53 (w_hits hI hV (r := k) (by omega)) rfl rfl (kr_r hI (by omega)) (rok_of hM (by decide) (by decide) (by omega) (by omega)) (Nat.le_of_ble_eq_true rfl) (fun r53 h53 hp53 => ?_)
          obtain ⟨rfl, rfl⟩ := And.intro hp53.1 hp53.2.symm
          refine a_goto (pc := 56) (tgt := 60) dX11_hitsInDays_56 (by decide) ?_
          refine a_iaddN (pc := 60) dX11_hitsInDays_60 ?_
          refine a_istore (pc := 61) dX11_hitsInDays_61 (by decide) rfl ?_
          refine a_iincN (pc := 63) (n := 1) dX11_hitsInDays_63 (by decide) rfl (by decide) rfl ?_
          refine a_goto (pc := 66) (tgt := 6) dX11_hitsInDays_66 (by decide) ?_
          exact a_locR (ih (k + 1) (by omega) (by omega)) (by rw [e]; exact ⟨rfl, rfl, rfl, rfl, rfl, rfl, trivial⟩)
  refine a_iconst (pc := 0) dX11_hitsInDays_0 ic_0 ?_
  refine a_istore (pc := 1) dX11_hitsInDays_1 (by decide) rfl ?_
  refine a_iconst (pc := 3) dX11_hitsInDays_3 ic_0 ?_
  refine a_istore (pc := 4) dX11_hitsInDays_4 (by decide) rfl ?_
  exact a_locR (lp _ 0 rfl (Nat.zero_le _)) ⟨rfl, rfl, rfl, rfl, rfl, rfl, trivial⟩

set_option maxRecDepth 4000 in
theorem f_hitsOfAll (hI : CI X σ s h) (hV : MV s) : Fn X 3 0 0 yX11_hitsOfAll cX11_hitsOfAll 3 (some .int) [.ref (σ 0 0)] h (fun rv hv => rv = some (.int (nI (hitsAll s (vI s 18)))) ∧ hv = h) := by
  have b10 : vI s 10 ≤ 4 := hV.1.1.2
  have b18 : vI s 18 ≤ 16 := hV.2.1.1.2
  have b28 : vI s 28 ≤ 10 := hV.2.2.1.1.2
  have b31 : vI s 31 ≤ 6 := hV.2.2.2.1.1.2
  have b3 : vI s 3 ≤ 6 := hV.2.2.2.2.2.2.1.1.2
  refine fn_of (by decide) (Nat.le_of_ble_eq_true rfl) (fun M hM => ?_)
  have lp : ∀ (d k : Nat), vI s 18 - k = d → k ≤ vI s 18 → AJ X M yX11_hitsOfAll cX11_hitsOfAll 3 (some .int) 4 [(0, .ref (σ 0 0)), (1, .int (nI (hitsAll s k))), (2, .int (nI k))] [] h 0 0 := by
    intro d
    induction d with
    | zero =>
      intro k hd hle
      refine a_iload_n (pc := 4) dX11_hitsOfAll_4 rfl rfl ?_
      refine a_aload_n (pc := 5) dX11_hitsOfAll_5 rfl rfl ?_
      refine a_getfield (pc := 6) kg_X11_16 dX11_hitsOfAll_6 (c_fc hI) rfl ?_
      refine a_callV (pc := 9) km_X11_97 dX11_hitsOfAll_9 (w_size hI (i := 1) (by decide)) rfl rfl (kr_l hI (i := 1) (by decide)) (rok_of hM (by decide) (by decide) (by omega) (by omega)) (Nat.le_of_ble_eq_true rfl) (fun r9 h9 hp9 => ?_)
      obtain ⟨rfl, rfl⟩ := And.intro hp9.1 hp9.2.symm
      refine a_topi (show _ = nI (vI s 18) from rfl) ?_
      refine a_icmp_geN (pc := 12) (tgt := 38) dX11_hitsOfAll_12 (by decide) (by omega) (by omega) (fun c12 => ?_) (fun c12 => ?_)
      · have hk : k = vI s 18 := by omega
        rw [hk]
        refine a_iload_n (pc := 38) dX11_hitsOfAll_38 rfl rfl ?_
        refine a_ret_i (pc := 39) hM rfl (rfl) dX11_hitsOfAll_39 (by omega) (by omega) ?_
        exact ⟨rfl, rfl⟩
      · exact absurd c12 (by omega)
    | succ d ih =>
      intro k hd hle
      refine a_iload_n (pc := 4) dX11_hitsOfAll_4 rfl rfl ?_
      refine a_aload_n (pc := 5) dX11_hitsOfAll_5 rfl rfl ?_
      refine a_getfield (pc := 6) kg_X11_16 dX11_hitsOfAll_6 (c_fc hI) rfl ?_
      refine a_callV (pc := 9) km_X11_97 dX11_hitsOfAll_9 (w_size hI (i := 1) (by decide)) rfl rfl (kr_l hI (i := 1) (by decide)) (rok_of hM (by decide) (by decide) (by omega) (by omega)) (Nat.le_of_ble_eq_true rfl) (fun r9 h9 hp9 => ?_)
      obtain ⟨rfl, rfl⟩ := And.intro hp9.1 hp9.2.symm
      refine a_topi (show _ = nI (vI s 18) from rfl) ?_
      refine a_icmp_geN (pc := 12) (tgt := 38) dX11_hitsOfAll_12 (by decide) (by omega) (by omega) (fun c12 => ?_) (fun c12 => ?_)
      · exact absurd c12 (by omega)
      · refine a_iload_n (pc := 15) dX11_hitsOfAll_15 rfl rfl ?_
        refine a_aload_n (pc := 16) dX11_hitsOfAll_16 rfl rfl ?_
        refine a_getfield (pc := 17) kg_X11_16 dX11_hitsOfAll_17 (c_fc hI) rfl ?_
        refine a_iload_n (pc := 20) dX11_hitsOfAll_20 rfl rfl ?_
        refine a_callV (pc := 21) km_X11_109 dX11_hitsOfAll_21 (w_get hI (i := 1) (j := k) (by decide) (show k < vI s 18 from by omega)) rfl rfl (kr_l hI (i := 1) (by decide)) (rok_of hM (by decide) (by decide) (by omega) (by omega)) (Nat.le_of_ble_eq_true rfl) (fun r21 h21 hp21 => ?_)
        obtain ⟨rfl, rfl⟩ := And.intro hp21.1 hp21.2.symm
        refine a_topr (show _ = σ 17 k from rfl) ?_
        refine a_castE (pc := 24) kl_X11_107 rfl (c_isR hI (show k < vI s 18 from by omega)) dX11_hitsOfAll_24 ?_
        refine a_callV (pc := 27) km_X11_143 dX11_hitsOfAll_27 (w_hits hI hV (r := k) (by omega)) rfl rfl (kr_r hI (by omega)) (rok_of hM (by decide) (by decide) (by omega) (by omega)) (Nat.le_of_ble_eq_true rfl) (fun r27 h27 hp27 => ?_)
        obtain ⟨rfl, rfl⟩ := And.intro hp27.1 hp27.2.symm
        refine a_iaddN (pc := 30) dX11_hitsOfAll_30 ?_
        refine a_istore_n (pc := 31) dX11_hitsOfAll_31 rfl (by decide) rfl ?_
        refine a_iincN (pc := 32) (n := 1) dX11_hitsOfAll_32 (by decide) rfl (by decide) rfl ?_
        refine a_goto (pc := 35) (tgt := 4) dX11_hitsOfAll_35 (by decide) ?_
        exact a_locR (ih (k + 1) (by omega) (by omega)) ⟨rfl, rfl, rfl, trivial⟩
  refine a_iconst (pc := 0) dX11_hitsOfAll_0 ic_0 ?_
  refine a_istore_n (pc := 1) dX11_hitsOfAll_1 rfl (by decide) rfl ?_
  refine a_iconst (pc := 2) dX11_hitsOfAll_2 ic_0 ?_
  refine a_istore_n (pc := 3) dX11_hitsOfAll_3 rfl (by decide) rfl ?_
  exact a_locR (lp _ 0 rfl (Nat.zero_le _)) ⟨rfl, rfl, rfl, trivial⟩

set_option maxRecDepth 4000 in
theorem f_kindsL (hI : CI X σ s h) (hV : MV s) (x : Int32) : Fn X 3 0 0 yX11_kindsOfLeaks cX11_kindsOfLeaks 4 (some .int) [.ref (σ 0 0), .int x] h (fun rv hv => rv = some (.int (needS s x (vI s 28))) ∧ hv = h) := by
  have b10 : vI s 10 ≤ 4 := hV.1.1.2
  have b18 : vI s 18 ≤ 16 := hV.2.1.1.2
  have b28 : vI s 28 ≤ 10 := hV.2.2.1.1.2
  have b31 : vI s 31 ≤ 6 := hV.2.2.2.1.1.2
  have b3 : vI s 3 ≤ 6 := hV.2.2.2.2.2.2.1.1.2
  refine fn_of (by decide) (Nat.le_of_ble_eq_true rfl) (fun M hM => ?_)
  have lp : ∀ (d k : Nat), vI s 28 - k = d → k ≤ vI s 28 → AJ X M yX11_kindsOfLeaks cX11_kindsOfLeaks 4 (some .int) 4 [(0, .ref (σ 0 0)), (1, .int x), (2, .int (needS s x k)), (3, .int (nI k))] [] h 0 0 := by
    intro d
    induction d with
    | zero =>
      intro k hd hle
      refine a_iload_n (pc := 4) dX11_kindsOfLeaks_4 rfl rfl ?_
      refine a_aload_n (pc := 5) dX11_kindsOfLeaks_5 rfl rfl ?_
      refine a_getfield (pc := 6) kg_X11_19 dX11_kindsOfLeaks_6 (c_fc hI) rfl ?_
      refine a_callV (pc := 9) km_X11_97 dX11_kindsOfLeaks_9 (w_size hI (i := 2) (by decide)) rfl rfl (kr_l hI (i := 2) (by decide)) (rok_of hM (by decide) (by decide) (by omega) (by omega)) (Nat.le_of_ble_eq_true rfl) (fun r9 h9 hp9 => ?_)
      obtain ⟨rfl, rfl⟩ := And.intro hp9.1 hp9.2.symm
      refine a_topi (show _ = nI (vI s 28) from rfl) ?_
      refine a_icmp_geN (pc := 12) (tgt := 49) dX11_kindsOfLeaks_12 (by decide) (by omega) (by omega) (fun c12 => ?_) (fun c12 => ?_)
      · have hk : k = vI s 28 := by omega
        rw [hk]
        refine a_iload_n (pc := 49) dX11_kindsOfLeaks_49 rfl rfl ?_
        refine a_ret_i (pc := 50) hM rfl (rfl) dX11_kindsOfLeaks_50 (by omega) (by omega) ?_
        exact ⟨rfl, rfl⟩
      · exact absurd c12 (by omega)
    | succ d ih =>
      intro k hd hle
      refine a_iload_n (pc := 4) dX11_kindsOfLeaks_4 rfl rfl ?_
      refine a_aload_n (pc := 5) dX11_kindsOfLeaks_5 rfl rfl ?_
      refine a_getfield (pc := 6) kg_X11_19 dX11_kindsOfLeaks_6 (c_fc hI) rfl ?_
      refine a_callV (pc := 9) km_X11_97 dX11_kindsOfLeaks_9 (w_size hI (i := 2) (by decide)) rfl rfl (kr_l hI (i := 2) (by decide)) (rok_of hM (by decide) (by decide) (by omega) (by omega)) (Nat.le_of_ble_eq_true rfl) (fun r9 h9 hp9 => ?_)
      obtain ⟨rfl, rfl⟩ := And.intro hp9.1 hp9.2.symm
      refine a_topi (show _ = nI (vI s 28) from rfl) ?_
      refine a_icmp_geN (pc := 12) (tgt := 49) dX11_kindsOfLeaks_12 (by decide) (by omega) (by omega) (fun c12 => ?_) (fun c12 => ?_)
      · exact absurd c12 (by omega)
      · obtain ⟨wk, hk1⟩ := c_lkr hI (k := k) (by omega)
        refine a_iload_n (pc := 15) dX11_kindsOfLeaks_15 rfl rfl ?_
        refine a_iload_n (pc := 16) dX11_kindsOfLeaks_16 rfl rfl ?_
        refine a_ishr (pc := 17) dX11_kindsOfLeaks_17 ?_
        refine a_iconst (pc := 18) dX11_kindsOfLeaks_18 ic_1 ?_
        refine a_iand (pc := 19) dX11_kindsOfLeaks_19 ?_
        refine a_iconst (pc := 20) dX11_kindsOfLeaks_20 ic_1 ?_
        refine a_icmp_ne (pc := 21) (tgt := 43) dX11_kindsOfLeaks_21 (by decide) (fun c21 => ?_) (fun c21 => ?_)
        · have e : needS s x (k + 1) = needS s x k := by show needS s x k ||| (if x >>> (nI k &&& 31) &&& nI 1 = nI 1 then nI 1 <<< (s.2.1 24 k &&& 31) else nI 0) = _; rw [if_neg c21]; exact Int32.or_zero
          refine a_iincN (pc := 43) (n := 1) dX11_kindsOfLeaks_43 (by decide) rfl (by decide) rfl ?_
          refine a_goto (pc := 46) (tgt := 4) dX11_kindsOfLeaks_46 (by decide) ?_
          exact a_locR (ih (k + 1) (by omega) (by omega)) (by rw [e]; exact ⟨rfl, rfl, rfl, rfl, trivial⟩)
        · have e : needS s x (k + 1) = needS s x k ||| (nI 1 <<< (s.2.1 24 k &&& 31)) := by show needS s x k ||| (if x >>> (nI k &&& 31) &&& nI 1 = nI 1 then nI 1 <<< (s.2.1 24 k &&& 31) else nI 0) = _; rw [if_pos c21]
          refine a_iload_n (pc := 24) dX11_kindsOfLeaks_24 rfl rfl ?_
          refine a_iconst (pc := 25) dX11_kindsOfLeaks_25 ic_1 ?_
          refine a_aload_n (pc := 26) dX11_kindsOfLeaks_26 rfl rfl ?_
          refine a_getfield (pc := 27) kg_X11_19 dX11_kindsOfLeaks_27 (c_fc hI) rfl ?_
          refine a_iload_n (pc := 30) dX11_kindsOfLeaks_30 rfl rfl ?_
          refine a_callV (pc := 31) km_X11_109 dX11_kindsOfLeaks_31 (w_get hI (i := 2) (j := k) (by decide) (show k < vI s 28 from by omega)) rfl rfl (kr_l hI (i := 2) (by decide)) (rok_of hM (by decide) (by decide) (by omega) (by omega)) (Nat.le_of_ble_eq_true rfl) (fun r31 h31 hp31 => ?_)
          obtain ⟨rfl, rfl⟩ := And.intro hp31.1 hp31.2.symm
          refine a_topr (show _ = σ 24 k from rfl) ?_
          refine a_castE (pc := 34) kl_X11_194 rfl (c_isL hI (show k < vI s 28 from by omega)) dX11_kindsOfLeaks_34 ?_
          refine a_getfield (pc := 37) kg_X11_227 dX11_kindsOfLeaks_37 (hk1) rfl ?_
          refine a_ishl (pc := 40) dX11_kindsOfLeaks_40 ?_
          refine a_ior (pc := 41) dX11_kindsOfLeaks_41 ?_
          refine a_istore_n (pc := 42) dX11_kindsOfLeaks_42 rfl (by decide) rfl ?_
          refine a_iincN (pc := 43) (n := 1) dX11_kindsOfLeaks_43 (by decide) rfl (by decide) rfl ?_
          refine a_goto (pc := 46) (tgt := 4) dX11_kindsOfLeaks_46 (by decide) ?_
          exact a_locR (ih (k + 1) (by omega) (by omega)) (by rw [e]; exact ⟨rfl, rfl, rfl, rfl, trivial⟩)
  refine a_iconst (pc := 0) dX11_kindsOfLeaks_0 ic_0 ?_
  refine a_istore_n (pc := 1) dX11_kindsOfLeaks_1 rfl (by decide) rfl ?_
  refine a_iconst (pc := 2) dX11_kindsOfLeaks_2 ic_0 ?_
  refine a_istore_n (pc := 3) dX11_kindsOfLeaks_3 rfl (by decide) rfl ?_
  exact a_locR (lp _ 0 rfl (Nat.zero_le _)) ⟨rfl, rfl, rfl, rfl, trivial⟩

set_option maxRecDepth 4000 in
theorem f_kindsS (hI : CI X σ s h) (hV : MV s) (x : Int32) : Fn X 3 0 0 yX11_kindsShutBy cX11_kindsShutBy 4 (some .int) [.ref (σ 0 0), .int x] h (fun rv hv => rv = some (.int (kindsP s x (vI s 31))) ∧ hv = h) := by
  have b10 : vI s 10 ≤ 4 := hV.1.1.2
  have b18 : vI s 18 ≤ 16 := hV.2.1.1.2
  have b28 : vI s 28 ≤ 10 := hV.2.2.1.1.2
  have b31 : vI s 31 ≤ 6 := hV.2.2.2.1.1.2
  have b3 : vI s 3 ≤ 6 := hV.2.2.2.2.2.2.1.1.2
  refine fn_of (by decide) (Nat.le_of_ble_eq_true rfl) (fun M hM => ?_)
  have lp : ∀ (d k : Nat), vI s 31 - k = d → k ≤ vI s 31 → AJ X M yX11_kindsShutBy cX11_kindsShutBy 4 (some .int) 4 [(0, .ref (σ 0 0)), (1, .int x), (2, .int (kindsP s x k)), (3, .int (nI k))] [] h 0 0 := by
    intro d
    induction d with
    | zero =>
      intro k hd hle
      refine a_iload_n (pc := 4) dX11_kindsShutBy_4 rfl rfl ?_
      refine a_aload_n (pc := 5) dX11_kindsShutBy_5 rfl rfl ?_
      refine a_getfield (pc := 6) kg_X11_22 dX11_kindsShutBy_6 (c_fc hI) rfl ?_
      refine a_callV (pc := 9) km_X11_97 dX11_kindsShutBy_9 (w_size hI (i := 3) (by decide)) rfl rfl (kr_l hI (i := 3) (by decide)) (rok_of hM (by decide) (by decide) (by omega) (by omega)) (Nat.le_of_ble_eq_true rfl) (fun r9 h9 hp9 => ?_)
      obtain ⟨rfl, rfl⟩ := And.intro hp9.1 hp9.2.symm
      refine a_topi (show _ = nI (vI s 31) from rfl) ?_
      refine a_icmp_geN (pc := 12) (tgt := 47) dX11_kindsShutBy_12 (by decide) (by omega) (by omega) (fun c12 => ?_) (fun c12 => ?_)
      · have hk : k = vI s 31 := by omega
        rw [hk]
        refine a_iload_n (pc := 47) dX11_kindsShutBy_47 rfl rfl ?_
        refine a_ret_i (pc := 48) hM rfl (rfl) dX11_kindsShutBy_48 (by omega) (by omega) ?_
        exact ⟨rfl, rfl⟩
      · exact absurd c12 (by omega)
    | succ d ih =>
      intro k hd hle
      refine a_iload_n (pc := 4) dX11_kindsShutBy_4 rfl rfl ?_
      refine a_aload_n (pc := 5) dX11_kindsShutBy_5 rfl rfl ?_
      refine a_getfield (pc := 6) kg_X11_22 dX11_kindsShutBy_6 (c_fc hI) rfl ?_
      refine a_callV (pc := 9) km_X11_97 dX11_kindsShutBy_9 (w_size hI (i := 3) (by decide)) rfl rfl (kr_l hI (i := 3) (by decide)) (rok_of hM (by decide) (by decide) (by omega) (by omega)) (Nat.le_of_ble_eq_true rfl) (fun r9 h9 hp9 => ?_)
      obtain ⟨rfl, rfl⟩ := And.intro hp9.1 hp9.2.symm
      refine a_topi (show _ = nI (vI s 31) from rfl) ?_
      refine a_icmp_geN (pc := 12) (tgt := 47) dX11_kindsShutBy_12 (by decide) (by omega) (by omega) (fun c12 => ?_) (fun c12 => ?_)
      · exact absurd c12 (by omega)
      · skip
        refine a_iload_n (pc := 15) dX11_kindsShutBy_15 rfl rfl ?_
        refine a_iload_n (pc := 16) dX11_kindsShutBy_16 rfl rfl ?_
        refine a_ishr (pc := 17) dX11_kindsShutBy_17 ?_
        refine a_iconst (pc := 18) dX11_kindsShutBy_18 ic_1 ?_
        refine a_iand (pc := 19) dX11_kindsShutBy_19 ?_
        refine a_iconst (pc := 20) dX11_kindsShutBy_20 ic_1 ?_
        refine a_icmp_ne (pc := 21) (tgt := 41) dX11_kindsShutBy_21 (by decide) (fun c21 => ?_) (fun c21 => ?_)
        · have e : kindsP s x (k + 1) = kindsP s x k := by show kindsP s x k ||| (if x >>> (nI k &&& 31) &&& nI 1 = nI 1 then s.2.1 30 k else nI 0) = _; rw [if_neg c21]; exact Int32.or_zero
          refine a_iincN (pc := 41) (n := 1) dX11_kindsShutBy_41 (by decide) rfl (by decide) rfl ?_
          refine a_goto (pc := 44) (tgt := 4) dX11_kindsShutBy_44 (by decide) ?_
          exact a_locR (ih (k + 1) (by omega) (by omega)) (by rw [e]; exact ⟨rfl, rfl, rfl, rfl, trivial⟩)
        · have e : kindsP s x (k + 1) = kindsP s x k ||| (s.2.1 30 k) := by show kindsP s x k ||| (if x >>> (nI k &&& 31) &&& nI 1 = nI 1 then s.2.1 30 k else nI 0) = _; rw [if_pos c21]
          refine a_iload_n (pc := 24) dX11_kindsShutBy_24 rfl rfl ?_
          refine a_aload_n (pc := 25) dX11_kindsShutBy_25 rfl rfl ?_
          refine a_getfield (pc := 26) kg_X11_22 dX11_kindsShutBy_26 (c_fc hI) rfl ?_
          refine a_iload_n (pc := 29) dX11_kindsShutBy_29 rfl rfl ?_
          refine a_callV (pc := 30) km_X11_109 dX11_kindsShutBy_30 (w_get hI (i := 3) (j := k) (by decide) (show k < vI s 31 from by omega)) rfl rfl (kr_l hI (i := 3) (by decide)) (rok_of hM (by decide) (by decide) (by omega) (by omega)) (Nat.le_of_ble_eq_true rfl) (fun r30 h30 hp30 => ?_)
          obtain ⟨rfl, rfl⟩ := And.intro hp30.1 hp30.2.symm
          refine a_topr (show _ = σ 25 k from rfl) ?_
          refine a_castE (pc := 33) kl_X11_212 rfl (c_isS hI (show k < vI s 31 from by omega)) dX11_kindsShutBy_33 ?_
          refine a_getfield (pc := 36) kg_X11_337 dX11_kindsShutBy_36 (c_sc hI (by omega)) rfl ?_
          refine a_ior (pc := 39) dX11_kindsShutBy_39 ?_
          refine a_istore_n (pc := 40) dX11_kindsShutBy_40 rfl (by decide) rfl ?_
          refine a_iincN (pc := 41) (n := 1) dX11_kindsShutBy_41 (by decide) rfl (by decide) rfl ?_
          refine a_goto (pc := 44) (tgt := 4) dX11_kindsShutBy_44 (by decide) ?_
          exact a_locR (ih (k + 1) (by omega) (by omega)) (by rw [e]; exact ⟨rfl, rfl, rfl, rfl, trivial⟩)
  refine a_iconst (pc := 0) dX11_kindsShutBy_0 ic_0 ?_
  refine a_istore_n (pc := 1) dX11_kindsShutBy_1 rfl (by decide) rfl ?_
  refine a_iconst (pc := 2) dX11_kindsShutBy_2 ic_0 ?_
  refine a_istore_n (pc := 3) dX11_kindsShutBy_3 rfl (by decide) rfl ?_
  exact a_locR (lp _ 0 rfl (Nat.zero_le _)) ⟨rfl, rfl, rfl, rfl, trivial⟩

set_option maxRecDepth 4000 in
theorem f_hours (hI : CI X σ s h) (hV : MV s) (x : Int32) : Fn X 3 0 0 yX11_hoursOf cX11_hoursOf 4 (some .int) [.ref (σ 0 0), .int x] h (fun rv hv => rv = some (.int (hourS s x (vI s 31))) ∧ hv = h) := by
  have b10 : vI s 10 ≤ 4 := hV.1.1.2
  have b18 : vI s 18 ≤ 16 := hV.2.1.1.2
  have b28 : vI s 28 ≤ 10 := hV.2.2.1.1.2
  have b31 : vI s 31 ≤ 6 := hV.2.2.2.1.1.2
  have b3 : vI s 3 ≤ 6 := hV.2.2.2.2.2.2.1.1.2
  refine fn_of (by decide) (Nat.le_of_ble_eq_true rfl) (fun M hM => ?_)
  have lp : ∀ (d k : Nat), vI s 31 - k = d → k ≤ vI s 31 → AJ X M yX11_hoursOf cX11_hoursOf 4 (some .int) 4 [(0, .ref (σ 0 0)), (1, .int x), (2, .int (hourS s x k)), (3, .int (nI k))] [] h 0 0 := by
    intro d
    induction d with
    | zero =>
      intro k hd hle
      refine a_iload_n (pc := 4) dX11_hoursOf_4 rfl rfl ?_
      refine a_aload_n (pc := 5) dX11_hoursOf_5 rfl rfl ?_
      refine a_getfield (pc := 6) kg_X11_22 dX11_hoursOf_6 (c_fc hI) rfl ?_
      refine a_callV (pc := 9) km_X11_97 dX11_hoursOf_9 (w_size hI (i := 3) (by decide)) rfl rfl (kr_l hI (i := 3) (by decide)) (rok_of hM (by decide) (by decide) (by omega) (by omega)) (Nat.le_of_ble_eq_true rfl) (fun r9 h9 hp9 => ?_)
      obtain ⟨rfl, rfl⟩ := And.intro hp9.1 hp9.2.symm
      refine a_topi (show _ = nI (vI s 31) from rfl) ?_
      refine a_icmp_geN (pc := 12) (tgt := 47) dX11_hoursOf_12 (by decide) (by omega) (by omega) (fun c12 => ?_) (fun c12 => ?_)
      · have hk : k = vI s 31 := by omega
        rw [hk]
        refine a_iload_n (pc := 47) dX11_hoursOf_47 rfl rfl ?_
        refine a_ret_i (pc := 48) hM rfl (rfl) dX11_hoursOf_48 (by omega) (by omega) ?_
        exact ⟨rfl, rfl⟩
      · exact absurd c12 (by omega)
    | succ d ih =>
      intro k hd hle
      refine a_iload_n (pc := 4) dX11_hoursOf_4 rfl rfl ?_
      refine a_aload_n (pc := 5) dX11_hoursOf_5 rfl rfl ?_
      refine a_getfield (pc := 6) kg_X11_22 dX11_hoursOf_6 (c_fc hI) rfl ?_
      refine a_callV (pc := 9) km_X11_97 dX11_hoursOf_9 (w_size hI (i := 3) (by decide)) rfl rfl (kr_l hI (i := 3) (by decide)) (rok_of hM (by decide) (by decide) (by omega) (by omega)) (Nat.le_of_ble_eq_true rfl) (fun r9 h9 hp9 => ?_)
      obtain ⟨rfl, rfl⟩ := And.intro hp9.1 hp9.2.symm
      refine a_topi (show _ = nI (vI s 31) from rfl) ?_
      refine a_icmp_geN (pc := 12) (tgt := 47) dX11_hoursOf_12 (by decide) (by omega) (by omega) (fun c12 => ?_) (fun c12 => ?_)
      · exact absurd c12 (by omega)
      · skip
        refine a_iload_n (pc := 15) dX11_hoursOf_15 rfl rfl ?_
        refine a_iload_n (pc := 16) dX11_hoursOf_16 rfl rfl ?_
        refine a_ishr (pc := 17) dX11_hoursOf_17 ?_
        refine a_iconst (pc := 18) dX11_hoursOf_18 ic_1 ?_
        refine a_iand (pc := 19) dX11_hoursOf_19 ?_
        refine a_iconst (pc := 20) dX11_hoursOf_20 ic_1 ?_
        refine a_icmp_ne (pc := 21) (tgt := 41) dX11_hoursOf_21 (by decide) (fun c21 => ?_) (fun c21 => ?_)
        · have e : hourS s x (k + 1) = hourS s x k := by show hourS s x k + (if x >>> (nI k &&& 31) &&& nI 1 = nI 1 then s.2.1 29 k else nI 0) = _; rw [if_neg c21]; exact Int32.add_zero _
          refine a_iincN (pc := 41) (n := 1) dX11_hoursOf_41 (by decide) rfl (by decide) rfl ?_
          refine a_goto (pc := 44) (tgt := 4) dX11_hoursOf_44 (by decide) ?_
          exact a_locR (ih (k + 1) (by omega) (by omega)) (by rw [e]; exact ⟨rfl, rfl, rfl, rfl, trivial⟩)
        · have e : hourS s x (k + 1) = hourS s x k + (s.2.1 29 k) := by show hourS s x k + (if x >>> (nI k &&& 31) &&& nI 1 = nI 1 then s.2.1 29 k else nI 0) = _; rw [if_pos c21]
          refine a_iload_n (pc := 24) dX11_hoursOf_24 rfl rfl ?_
          refine a_aload_n (pc := 25) dX11_hoursOf_25 rfl rfl ?_
          refine a_getfield (pc := 26) kg_X11_22 dX11_hoursOf_26 (c_fc hI) rfl ?_
          refine a_iload_n (pc := 29) dX11_hoursOf_29 rfl rfl ?_
          refine a_callV (pc := 30) km_X11_109 dX11_hoursOf_30 (w_get hI (i := 3) (j := k) (by decide) (show k < vI s 31 from by omega)) rfl rfl (kr_l hI (i := 3) (by decide)) (rok_of hM (by decide) (by decide) (by omega) (by omega)) (Nat.le_of_ble_eq_true rfl) (fun r30 h30 hp30 => ?_)
          obtain ⟨rfl, rfl⟩ := And.intro hp30.1 hp30.2.symm
          refine a_topr (show _ = σ 25 k from rfl) ?_
          refine a_castE (pc := 33) kl_X11_212 rfl (c_isS hI (show k < vI s 31 from by omega)) dX11_hoursOf_33 ?_
          refine a_getfield (pc := 36) kg_X11_340 dX11_hoursOf_36 (c_sc hI (by omega)) rfl ?_
          refine a_iadd (pc := 39) dX11_hoursOf_39 ?_
          refine a_istore_n (pc := 40) dX11_hoursOf_40 rfl (by decide) rfl ?_
          refine a_iincN (pc := 41) (n := 1) dX11_hoursOf_41 (by decide) rfl (by decide) rfl ?_
          refine a_goto (pc := 44) (tgt := 4) dX11_hoursOf_44 (by decide) ?_
          exact a_locR (ih (k + 1) (by omega) (by omega)) (by rw [e]; exact ⟨rfl, rfl, rfl, rfl, trivial⟩)
  refine a_iconst (pc := 0) dX11_hoursOf_0 ic_0 ?_
  refine a_istore_n (pc := 1) dX11_hoursOf_1 rfl (by decide) rfl ?_
  refine a_iconst (pc := 2) dX11_hoursOf_2 ic_0 ?_
  refine a_istore_n (pc := 3) dX11_hoursOf_3 rfl (by decide) rfl ?_
  exact a_locR (lp _ 0 rfl (Nat.zero_le _)) ⟨rfl, rfl, rfl, rfl, trivial⟩

end CXH

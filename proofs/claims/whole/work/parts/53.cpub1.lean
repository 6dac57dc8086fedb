/-! THE CLASS: CALLS THAT ONLY READ -/
section CPA
variable {X : KX} {h : AH} {s : MST} {σ : Nat → Nat → Nat}
theorem pubI {R : Int32 × MST} {v : Int32} {s' : MST} {rv : Option Value} {hv : AH} (hR : R = (v, s')) (h1 : rv = some (.int v)) (h2 : CE X σ s h s' hv) : rv = some (.int R.1) ∧ CE X σ s h R.2 hv := by rw [hR]; exact ⟨h1, h2⟩
theorem pubL {R : Int64 × MST} {v : Int64} {s' : MST} {rv : Option Value} {hv : AH} (hR : R = (v, s')) (h1 : rv = some (.long v)) (h2 : CE X σ s h s' hv) : rv = some (.long R.1) ∧ CE X σ s h R.2 hv := by rw [hR]; exact ⟨h1, h2⟩
theorem CI.new (hI : CI X σ s h) {q : Nat} {e : kE} (hq : h q = none) : CS X σ s h s (kput h q e) := by
  have hn : ∀ k i, clv s k i → σ k i ≠ q := fun k i hk z => by
    obtain ⟨e', he, -⟩ := hI.2 k i hk
    rw [z, hq] at he
    exact absurd he (by simp)
  refine ⟨fun _ _ => Iff.rfl, ⟨hI.1, fun k i hk => ?_⟩, fun a ha h2 => ⟨kput_ne (fun z => ha (by rw [z]; exact hq)), h2⟩⟩
  obtain ⟨e', he, hc⟩ := hI.2 k i hk
  exact ⟨e', (kput_ne (hn k i hk)).trans he, hc⟩
theorem CFr.keep {σ' : Nat → Nat → Nat} {s' : MST} {h' : AH} (hf : CFr σ s h σ' s' h') {q : Nat} {e : kE} (hq : h q = some e) (hn : ∀ k i, clv s k i → q ≠ σ k i) : h' q = some e := (hf q (by rw [hq]; simp) hn).1.trans hq
theorem CI.fr (hI : CI X σ s h) {q : Nat} (hq : h q = none) : ∀ k i, clv s k i → q ≠ σ k i := fun k i hk z => by
  obtain ⟨e', he, -⟩ := hI.2 k i hk
  rw [← z, hq] at he
  exact absurd he (by simp)
set_option maxRecDepth 4000 in
theorem f_cat (hI : CI X σ s h) (hV : MV s) (x i w : Int32) : Fn X 4 0 0 yX11_at cX11_at 5 (some .int) [.ref (σ 0 0), .int x, .int i, .int w] h (fun rv hv => rv = some (.int (P_at s x i w)) ∧ CE X σ s h s hv) := by
  have b10 : vI s 10 ≤ 4 := hV.1.1.2
  have b18 : vI s 18 ≤ 16 := hV.2.1.1.2
  have b28 : vI s 28 ≤ 10 := hV.2.2.1.1.2
  have b31 : vI s 31 ≤ 6 := hV.2.2.2.1.1.2
  have b3 : vI s 3 ≤ 6 := hV.2.2.2.2.2.2.1.1.2
  refine fn_of (by decide) (Nat.le_of_ble_eq_true rfl) (fun M hM => ?_)
  refine a_aload_n (pc := 0) dX11_at_0 rfl rfl ?_
  refine a_iload_n (pc := 1) dX11_at_1 rfl rfl ?_
  refine a_iload_n (pc := 2) dX11_at_2 rfl rfl ?_
  refine a_callV (pc := 3) km_X11_116 dX11_at_3 (f_isPlace hI hV x i) rfl rfl (kr_t hI) (rok_of hM (by decide) (by decide) (by omega) (by omega)) (Nat.le_of_ble_eq_true rfl) (fun r3 h3 hp3 => ?_)
  obtain ⟨rfl, rfl⟩ := And.intro hp3.1 hp3.2.symm
  refine a_if_eqB (pc := 6) (tgt := 17) dX11_at_6 (by decide) (fun c6 => ?_) (fun c6 => ?_)
  · have e : P_at s x i w = -2 := by unfold P_at; rw [c6]; rfl
    refine a_bipush (pc := 17) dX11_at_17 ib_m2 ?_
    refine a_ret_i (pc := 19) hM rfl (rfl) dX11_at_19 (by omega) (by omega) ?_
    exact ⟨congrArg (fun t => some (Value.int t)) e.symm, (CS.rf hI).ce⟩
  · have c6p := c6
    rw [Bool.and_eq_true] at c6p
    obtain ⟨c6a, c6b⟩ := c6p
    obtain ⟨r, hr, rfl⟩ := inN_of c6a (by omega)
    have er : (nI r).toNatClampNeg = r := nI_clamp (by omega)
    rw [er] at c6b
    have hz := rz25 hV hr
    obtain ⟨j, hj, rfl⟩ := inN_of c6b (by omega)
    have ej : (nI j).toNatClampNeg = j := nI_clamp (by omega)
    obtain ⟨ks, kp, f, g, h1, h2, h3, hf, hg⟩ := c_run hI hr
    refine a_iload_n (pc := 9) dX11_at_9 rfl rfl ?_
    refine a_iconst (pc := 10) dX11_at_10 ic_2 ?_
    refine a_callS (pc := 11) km_X11_103 dX11_at_11 (f_among w (by omega)) rfl rfl (rok_of hM (by decide) (by decide) (by omega) (by omega)) (Nat.le_of_ble_eq_true rfl) (fun r11 h11 hp11 => ?_)
    obtain ⟨rfl, rfl⟩ := And.intro hp11.1 hp11.2.symm
    refine a_if_neB (pc := 14) (tgt := 20) dX11_at_14 (by decide) (fun c14 => ?_) (fun c14 => ?_)
    · refine a_aload_n (pc := 20) dX11_at_20 rfl rfl ?_
      refine a_getfield (pc := 21) kg_X11_16 dX11_at_21 (c_fc hI) rfl ?_
      refine a_iload_n (pc := 24) dX11_at_24 rfl rfl ?_
      refine a_callV (pc := 25) km_X11_109 dX11_at_25 (w_get hI (i := 1) (j := r) (by decide) (show r < vI s 18 from hr)) rfl rfl (kr_l hI (i := 1) (by decide)) (rok_of hM (by decide) (by decide) (by omega) (by omega)) (Nat.le_of_ble_eq_true rfl) (fun r25 h25 hp25 => ?_)
      obtain ⟨rfl, rfl⟩ := And.intro hp25.1 hp25.2.symm
      refine a_topr (show _ = σ 17 r from rfl) ?_
      refine a_castE (pc := 28) kl_X11_107 rfl (c_isR hI (show r < vI s 18 from hr)) dX11_at_28 ?_
      refine a_astore (pc := 31) dX11_at_31 (by decide) rfl ?_
      refine a_iload_n (pc := 33) dX11_at_33 rfl rfl ?_
      refine a_if_ne (pc := 34) (tgt := 47) dX11_at_34 (by decide) (fun c34 => ?_) (fun c34 => ?_)
      · refine a_aload (pc := 47) dX11_at_47 rfl ?_
        refine a_getfield (pc := 49) kg_X11_121 dX11_at_49 (h1) rfl ?_
        refine a_iload_n (pc := 52) dX11_at_52 rfl rfl ?_
        refine a_iaload (pc := 53) dX11_at_53 (h3) (j) (rfl) (by omega) (by omega) ?_
        refine a_ret_i (pc := 54) hM rfl (rfl) dX11_at_54 (by omega) (by omega) ?_
        exact ⟨congrArg (fun t => some (Value.int t)) ((hg j hj).trans (by unfold P_at; rw [c6, c14, er, ej]; exact (if_neg c34).symm)), (CS.rf hI).ce⟩
      · refine a_aload (pc := 37) dX11_at_37 rfl ?_
        refine a_getfield (pc := 39) kg_X11_119 dX11_at_39 (h1) rfl ?_
        refine a_iload_n (pc := 42) dX11_at_42 rfl rfl ?_
        refine a_iaload (pc := 43) dX11_at_43 (h2) (j) (rfl) (by omega) (by omega) ?_
        refine a_goto (pc := 44) (tgt := 54) dX11_at_44 (by decide) ?_
        refine a_ret_i (pc := 54) hM rfl (rfl) dX11_at_54 (by omega) (by omega) ?_
        exact ⟨congrArg (fun t => some (Value.int t)) ((hf j hj).trans (by unfold P_at; rw [c6, c14, er, ej]; exact (if_pos c34).symm)), (CS.rf hI).ce⟩
    · have e : P_at s (nI r) (nI j) w = -2 := by unfold P_at; rw [c6, c14]; rfl
      refine a_bipush (pc := 17) dX11_at_17 ib_m2 ?_
      refine a_ret_i (pc := 19) hM rfl (rfl) dX11_at_19 (by omega) (by omega) ?_
      exact ⟨congrArg (fun t => some (Value.int t)) e.symm, (CS.rf hI).ce⟩

set_option maxRecDepth 4000 in
theorem f_ccounts (hI : CI X σ s h) (hV : MV s) (x : Int32) : Fn X 3 0 0 yX11_counts cX11_counts 2 (some .int) [.ref (σ 0 0), .int x] h (fun rv hv => rv = some (.int (R_counts s x).1) ∧ CE X σ s h (R_counts s x).2 hv) := by
  have b10 : vI s 10 ≤ 4 := hV.1.1.2
  have b18 : vI s 18 ≤ 16 := hV.2.1.1.2
  have b28 : vI s 28 ≤ 10 := hV.2.2.1.1.2
  have b31 : vI s 31 ≤ 6 := hV.2.2.2.1.1.2
  have b3 : vI s 3 ≤ 6 := hV.2.2.2.2.2.2.1.1.2
  refine fn_of (by decide) (Nat.le_of_ble_eq_true rfl) (fun M hM => ?_)
  refine a_iload_n (pc := 0) dX11_counts_0 rfl rfl ?_
  refine a_aload_n (pc := 1) dX11_counts_1 rfl rfl ?_
  refine a_getfield (pc := 2) kg_X11_19 dX11_counts_2 (c_fc hI) rfl ?_
  refine a_callV (pc := 5) km_X11_97 dX11_counts_5 (w_size hI (i := 2) (by decide)) rfl rfl (kr_l hI (i := 2) (by decide)) (rok_of hM (by decide) (by decide) (by omega) (by omega)) (Nat.le_of_ble_eq_true rfl) (fun r5 h5 hp5 => ?_)
  obtain ⟨rfl, rfl⟩ := And.intro hp5.1 hp5.2.symm
  refine a_topi (show _ = nI (vI s 28) from rfl) ?_
  refine a_callS (pc := 8) km_X11_103 dX11_counts_8 (f_among x (by omega)) rfl rfl (rok_of hM (by decide) (by decide) (by omega) (by omega)) (Nat.le_of_ble_eq_true rfl) (fun r8 h8 hp8 => ?_)
  obtain ⟨rfl, rfl⟩ := And.intro hp8.1 hp8.2.symm
  refine a_if_neB (pc := 11) (tgt := 17) dX11_counts_11 (by decide) (fun c11 => ?_) (fun c11 => ?_)
  · obtain ⟨k, hk, rfl⟩ := inN_of c11 (by omega)
    have ek : (nI k).toNatClampNeg = k := nI_clamp (by omega)
    refine a_aload_n (pc := 17) dX11_counts_17 rfl rfl ?_
    refine a_getfield (pc := 18) kg_X11_19 dX11_counts_18 (c_fc hI) rfl ?_
    refine a_iload_n (pc := 21) dX11_counts_21 rfl rfl ?_
    refine a_callV (pc := 22) km_X11_109 dX11_counts_22 (w_get hI (i := 2) (j := k) (by decide) (show k < vI s 28 from hk)) rfl rfl (kr_l hI (i := 2) (by decide)) (rok_of hM (by decide) (by decide) (by omega) (by omega)) (Nat.le_of_ble_eq_true rfl) (fun r22 h22 hp22 => ?_)
    obtain ⟨rfl, rfl⟩ := And.intro hp22.1 hp22.2.symm
    refine a_topr (show _ = σ 24 k from rfl) ?_
    refine a_castE (pc := 25) kl_X11_194 rfl (c_isL hI (show k < vI s 28 from hk)) dX11_counts_25 ?_
    refine a_callV (pc := 28) km_X11_206 dX11_counts_28 (w_weight hI hV hk) rfl rfl (kr_k hI hk) (rok_of hM (by decide) (by decide) (by omega) (by omega)) (Nat.le_of_ble_eq_true rfl) (fun r28 h28 hp28 => ?_)
    obtain ⟨rfl, rfl⟩ := And.intro hp28.1 hp28.2.symm
    refine a_ret_i (pc := 31) hM rfl (rfl) dX11_counts_31 (by omega) (by omega) ?_
    exact pubI (by unfold R_counts; rw [c11, ek]; rfl) rfl (CS.rf hI).ce
  · refine a_bipush (pc := 14) dX11_counts_14 ib_m2 ?_
    refine a_ret_i (pc := 16) hM rfl (rfl) dX11_counts_16 (by omega) (by omega) ?_
    exact pubI (by unfold R_counts; rw [c11]; rfl) rfl (CS.rf hI).ce

set_option maxRecDepth 4000 in
theorem f_cgives (hI : CI X σ s h) (hV : MV s) (x y : Int32) : Fn X 3 0 0 yX11_gives cX11_gives 3 (some .int) [.ref (σ 0 0), .int x, .int y] h (fun rv hv => rv = some (.int (R_gives s x y).1) ∧ CE X σ s h (R_gives s x y).2 hv) := by
  have b10 : vI s 10 ≤ 4 := hV.1.1.2
  have b18 : vI s 18 ≤ 16 := hV.2.1.1.2
  have b28 : vI s 28 ≤ 10 := hV.2.2.1.1.2
  have b31 : vI s 31 ≤ 6 := hV.2.2.2.1.1.2
  have b3 : vI s 3 ≤ 6 := hV.2.2.2.2.2.2.1.1.2
  refine fn_of (by decide) (Nat.le_of_ble_eq_true rfl) (fun M hM => ?_)
  refine a_iload_n (pc := 0) dX11_gives_0 rfl rfl ?_
  refine a_aload_n (pc := 1) dX11_gives_1 rfl rfl ?_
  refine a_getfield (pc := 2) kg_X11_19 dX11_gives_2 (c_fc hI) rfl ?_
  refine a_callV (pc := 5) km_X11_97 dX11_gives_5 (w_size hI (i := 2) (by decide)) rfl rfl (kr_l hI (i := 2) (by decide)) (rok_of hM (by decide) (by decide) (by omega) (by omega)) (Nat.le_of_ble_eq_true rfl) (fun r5 h5 hp5 => ?_)
  obtain ⟨rfl, rfl⟩ := And.intro hp5.1 hp5.2.symm
  refine a_topi (show _ = nI (vI s 28) from rfl) ?_
  refine a_callS (pc := 8) km_X11_103 dX11_gives_8 (f_among x (by omega)) rfl rfl (rok_of hM (by decide) (by decide) (by omega) (by omega)) (Nat.le_of_ble_eq_true rfl) (fun r8 h8 hp8 => ?_)
  obtain ⟨rfl, rfl⟩ := And.intro hp8.1 hp8.2.symm
  refine a_if_eqB (pc := 11) (tgt := 28) dX11_gives_11 (by decide) (fun c11 => ?_) (fun c11 => ?_)
  · have e : R_gives s x y = (-2, s) := by unfold R_gives; rw [c11]; rfl
    refine a_bipush (pc := 28) dX11_gives_28 ib_m2 ?_
    refine a_ret_i (pc := 30) hM rfl (rfl) dX11_gives_30 (by omega) (by omega) ?_
    exact pubI e rfl (CS.rf hI).ce
  · obtain ⟨k, hk, rfl⟩ := inN_of c11 (by omega)
    have ek : (nI k).toNatClampNeg = k := nI_clamp (by omega)
    refine a_iload_n (pc := 14) dX11_gives_14 rfl rfl ?_
    refine a_aload_n (pc := 15) dX11_gives_15 rfl rfl ?_
    refine a_getfield (pc := 16) kg_X11_16 dX11_gives_16 (c_fc hI) rfl ?_
    refine a_callV (pc := 19) km_X11_97 dX11_gives_19 (w_size hI (i := 1) (by decide)) rfl rfl (kr_l hI (i := 1) (by decide)) (rok_of hM (by decide) (by decide) (by omega) (by omega)) (Nat.le_of_ble_eq_true rfl) (fun r19 h19 hp19 => ?_)
    obtain ⟨rfl, rfl⟩ := And.intro hp19.1 hp19.2.symm
    refine a_topi (show _ = nI (vI s 18) from rfl) ?_
    refine a_callS (pc := 22) km_X11_103 dX11_gives_22 (f_among y (by omega)) rfl rfl (rok_of hM (by decide) (by decide) (by omega) (by omega)) (Nat.le_of_ble_eq_true rfl) (fun r22 h22 hp22 => ?_)
    obtain ⟨rfl, rfl⟩ := And.intro hp22.1 hp22.2.symm
    refine a_if_neB (pc := 25) (tgt := 31) dX11_gives_25 (by decide) (fun c25 => ?_) (fun c25 => ?_)
    · obtain ⟨r, hr, rfl⟩ := inN_of c25 (by omega)
      have er : (nI r).toNatClampNeg = r := nI_clamp (by omega)
      refine a_aload_n (pc := 31) dX11_gives_31 rfl rfl ?_
      refine a_getfield (pc := 32) kg_X11_19 dX11_gives_32 (c_fc hI) rfl ?_
      refine a_iload_n (pc := 35) dX11_gives_35 rfl rfl ?_
      refine a_callV (pc := 36) km_X11_109 dX11_gives_36 (w_get hI (i := 2) (j := k) (by decide) (show k < vI s 28 from hk)) rfl rfl (kr_l hI (i := 2) (by decide)) (rok_of hM (by decide) (by decide) (by omega) (by omega)) (Nat.le_of_ble_eq_true rfl) (fun r36 h36 hp36 => ?_)
      obtain ⟨rfl, rfl⟩ := And.intro hp36.1 hp36.2.symm
      refine a_topr (show _ = σ 24 k from rfl) ?_
      refine a_castE (pc := 39) kl_X11_194 rfl (c_isL hI (show k < vI s 28 from hk)) dX11_gives_39 ?_
      refine a_aload_n (pc := 42) dX11_gives_42 rfl rfl ?_
      refine a_getfield (pc := 43) kg_X11_16 dX11_gives_43 (c_fc hI) rfl ?_
      refine a_iload_n (pc := 46) dX11_gives_46 rfl rfl ?_
      refine a_callV (pc := 47) km_X11_109 dX11_gives_47 (w_get hI (i := 1) (j := r) (by decide) (show r < vI s 18 from hr)) rfl rfl (kr_l hI (i := 1) (by decide)) (rok_of hM (by decide) (by decide) (by omega) (by omega)) (Nat.le_of_ble_eq_true rfl) (fun r47 h47 hp47 => ?_)
      obtain ⟨rfl, rfl⟩ := And.intro hp47.1 hp47.2.symm
      refine a_topr (show _ = σ 17 r from rfl) ?_
      refine a_castE (pc := 50) kl_X11_107 rfl (c_isR hI (show r < vI s 18 from hr)) dX11_gives_50 ?_
      refine a_callV (pc := 53) km_X11_203 dX11_gives_53 (w_mostH hI hV hk hr) rfl rfl (kr_k hI hk) (rok_of hM (by decide) (by decide) (by omega) (by omega)) (Nat.le_of_ble_eq_true rfl) (fun r53 h53 hp53 => ?_)
      obtain ⟨rfl, rfl⟩ := And.intro hp53.1 hp53.2.symm
      refine a_ret_i (pc := 56) hM rfl (rfl) dX11_gives_56 (by omega) (by omega) ?_
      exact pubI (by unfold R_gives; rw [c11, c25, ek, er]; rfl) rfl (CS.rf hI).ce
    · have e : R_gives s (nI k) y = (-2, s) := by unfold R_gives; rw [c11, c25]; rfl
      refine a_bipush (pc := 28) dX11_gives_28 ib_m2 ?_
      refine a_ret_i (pc := 30) hM rfl (rfl) dX11_gives_30 (by omega) (by omega) ?_
      exact pubI e rfl (CS.rf hI).ce

set_option maxRecDepth 4000 in
theorem f_ctaken (hI : CI X σ s h) (hV : MV s) (x o : Int32) : Fn X 3 0 0 yX11_taken cX11_taken 3 (some .int) [.ref (σ 0 0), .int x, .int o] h (fun rv hv => rv = some (.int (R_taken s x o).1) ∧ CE X σ s h (R_taken s x o).2 hv) := by
  have b10 : vI s 10 ≤ 4 := hV.1.1.2
  have b18 : vI s 18 ≤ 16 := hV.2.1.1.2
  have b28 : vI s 28 ≤ 10 := hV.2.2.1.1.2
  have b31 : vI s 31 ≤ 6 := hV.2.2.2.1.1.2
  have b3 : vI s 3 ≤ 6 := hV.2.2.2.2.2.2.1.1.2
  refine fn_of (by decide) (Nat.le_of_ble_eq_true rfl) (fun M hM => ?_)
  refine a_iload_n (pc := 0) dX11_taken_0 rfl rfl ?_
  refine a_bipush (pc := 1) dX11_taken_1 ib_6 ?_
  refine a_callS (pc := 3) km_X11_103 dX11_taken_3 (f_among o (by decide)) rfl rfl (rok_of hM (by decide) (by decide) (by omega) (by omega)) (Nat.le_of_ble_eq_true rfl) (fun r3 h3 hp3 => ?_)
  obtain ⟨rfl, rfl⟩ := And.intro hp3.1 hp3.2.symm
  refine a_if_neB (pc := 6) (tgt := 12) dX11_taken_6 (by decide) (fun c6 => ?_) (fun c6 => ?_)
  · obtain ⟨j, hj, rfl⟩ := inN_of c6 (by decide)
    have ej : (nI j).toNatClampNeg = j := nI_clamp (by omega)
    refine a_iload_n (pc := 12) dX11_taken_12 rfl rfl ?_
    refine a_aload_n (pc := 13) dX11_taken_13 rfl rfl ?_
    refine a_getfield (pc := 14) kg_X11_19 dX11_taken_14 (c_fc hI) rfl ?_
    refine a_callV (pc := 17) km_X11_97 dX11_taken_17 (w_size hI (i := 2) (by decide)) rfl rfl (kr_l hI (i := 2) (by decide)) (rok_of hM (by decide) (by decide) (by omega) (by omega)) (Nat.le_of_ble_eq_true rfl) (fun r17 h17 hp17 => ?_)
    obtain ⟨rfl, rfl⟩ := And.intro hp17.1 hp17.2.symm
    refine a_topi (show _ = nI (vI s 28) from rfl) ?_
    refine a_callS (pc := 20) km_X11_103 dX11_taken_20 (f_among x (by omega)) rfl rfl (rok_of hM (by decide) (by decide) (by omega) (by omega)) (Nat.le_of_ble_eq_true rfl) (fun r20 h20 hp20 => ?_)
    obtain ⟨rfl, rfl⟩ := And.intro hp20.1 hp20.2.symm
    refine a_if_neB (pc := 23) (tgt := 29) dX11_taken_23 (by decide) (fun c23 => ?_) (fun c23 => ?_)
    · obtain ⟨k, hk, rfl⟩ := inN_of c23 (by omega)
      have ek : (nI k).toNatClampNeg = k := nI_clamp (by omega)
      obtain ⟨wk, hw⟩ := c_lkr hI hk
      refine a_aload_n (pc := 29) dX11_taken_29 rfl rfl ?_
      refine a_getfield (pc := 30) kg_X11_19 dX11_taken_30 (c_fc hI) rfl ?_
      refine a_iload_n (pc := 33) dX11_taken_33 rfl rfl ?_
      refine a_callV (pc := 34) km_X11_109 dX11_taken_34 (w_get hI (i := 2) (j := k) (by decide) (show k < vI s 28 from hk)) rfl rfl (kr_l hI (i := 2) (by decide)) (rok_of hM (by decide) (by decide) (by omega) (by omega)) (Nat.le_of_ble_eq_true rfl) (fun r34 h34 hp34 => ?_)
      obtain ⟨rfl, rfl⟩ := And.intro hp34.1 hp34.2.symm
      refine a_topr (show _ = σ 24 k from rfl) ?_
      refine a_castE (pc := 37) kl_X11_194 rfl (c_isL hI (show k < vI s 28 from hk)) dX11_taken_37 ?_
      refine a_iload_n (pc := 40) dX11_taken_40 rfl rfl ?_
      refine a_callV (pc := 41) km_X11_304 dX11_taken_41 (w_under hI hV hk hj) rfl rfl (kr_k hI hk) (rok_of hM (by decide) (by decide) (by omega) (by omega)) (Nat.le_of_ble_eq_true rfl) (fun r41 h41 hp41 => ?_)
      obtain ⟨rfl, rfl⟩ := And.intro hp41.1 hp41.2.symm
      refine a_if_eqB (pc := 44) (tgt := 64) dX11_taken_44 (by decide) (fun c44 => ?_) (fun c44 => ?_)
      · have e : R_taken s (nI k) (nI j) = (-13, s) := by unfold R_taken; rw [c6, c23, ek, ej, c44]; rfl
        refine a_bipush (pc := 64) dX11_taken_64 ib_m13 ?_
        refine a_ret_i (pc := 66) hM rfl (rfl) dX11_taken_66 (by omega) (by omega) ?_
        exact pubI e rfl (CS.rf hI).ce
      · have e : R_taken s (nI k) (nI j) = (s.2.1 25 k, s) := by unfold R_taken; rw [c6, c23, ek, ej, c44]; rfl
        refine a_aload_n (pc := 47) dX11_taken_47 rfl rfl ?_
        refine a_getfield (pc := 48) kg_X11_19 dX11_taken_48 (c_fc hI) rfl ?_
        refine a_iload_n (pc := 51) dX11_taken_51 rfl rfl ?_
        refine a_callV (pc := 52) km_X11_109 dX11_taken_52 (w_get hI (i := 2) (j := k) (by decide) (show k < vI s 28 from hk)) rfl rfl (kr_l hI (i := 2) (by decide)) (rok_of hM (by decide) (by decide) (by omega) (by omega)) (Nat.le_of_ble_eq_true rfl) (fun r52 h52 hp52 => ?_)
        obtain ⟨rfl, rfl⟩ := And.intro hp52.1 hp52.2.symm
        refine a_topr (show _ = σ 24 k from rfl) ?_
        refine a_castE (pc := 55) kl_X11_194 rfl (c_isL hI (show k < vI s 28 from hk)) dX11_taken_55 ?_
        refine a_getfield (pc := 58) kg_X11_308 dX11_taken_58 (hw) rfl ?_
        refine a_goto (pc := 61) (tgt := 66) dX11_taken_61 (by decide) ?_
        refine a_ret_i (pc := 66) hM rfl (rfl) dX11_taken_66 (by omega) (by omega) ?_
        exact pubI e rfl (CS.rf hI).ce
    · refine a_bipush (pc := 26) dX11_taken_26 ib_m11 ?_
      refine a_ret_i (pc := 28) hM rfl (rfl) dX11_taken_28 (by omega) (by omega) ?_
      exact pubI (by unfold R_taken; rw [c6, c23]; rfl) rfl (CS.rf hI).ce
  · refine a_bipush (pc := 9) dX11_taken_9 ib_m2 ?_
    refine a_ret_i (pc := 11) hM rfl (rfl) dX11_taken_11 (by omega) (by omega) ?_
    exact pubI (by unfold R_taken; rw [c6]; rfl) rfl (CS.rf hI).ce

set_option maxRecDepth 4000 in
theorem f_ccount (hI : CI X σ s h) (hV : MV s) (x : Int32) : Fn X 4 0 0 yX11_count cX11_count 2 (some .int) [.ref (σ 0 0), .int x] h (fun rv hv => rv = some (.int (R_count s x).1) ∧ CE X σ s h (R_count s x).2 hv) := by
  have b10 : vI s 10 ≤ 4 := hV.1.1.2
  have b18 : vI s 18 ≤ 16 := hV.2.1.1.2
  have b28 : vI s 28 ≤ 10 := hV.2.2.1.1.2
  have b31 : vI s 31 ≤ 6 := hV.2.2.2.1.1.2
  have b3 : vI s 3 ≤ 6 := hV.2.2.2.2.2.2.1.1.2
  refine fn_of (by decide) (Nat.le_of_ble_eq_true rfl) (fun M hM => ?_)
  obtain ⟨e5, he5, hc5⟩ := hI.2 5 0 Nat.zero_lt_one
  have c_tp : h (σ 5 0) = some (kO 8 [.ref (σ 6 0), .int (s.1 6)]) := he5.trans (congrArg some hc5)
  refine a_iload_n (pc := 0) dX11_count_0 rfl rfl ?_
  by_cases c8 : inN x 8 = true
  · obtain ⟨j, hj, rfl⟩ := inN_of c8 (by decide)
    rcases (by omega : j = 0 ∨ j = 1 ∨ j = 2 ∨ j = 3 ∨ j = 4 ∨ j = 5 ∨ j = 6 ∨ j = 7) with rfl | rfl | rfl | rfl | rfl | rfl | rfl | rfl
    · refine a_tabIn (pc := 1) (off := 47) (tgt := 48) dX11_count_1 (by decide) (by decide) rfl (by decide) ?_
      refine a_aload_n (pc := 48) dX11_count_48 rfl rfl ?_
      refine a_getfield (pc := 49) kg_X11_10 dX11_count_49 (c_fc hI) rfl ?_
      refine a_callV (pc := 52) km_X11_97 dX11_count_52 (w_size hI (i := 0) (by decide)) rfl rfl (kr_l hI (i := 0) (by decide)) (rok_of hM (by decide) (by decide) (by omega) (by omega)) (Nat.le_of_ble_eq_true rfl) (fun r52 h52 hp52 => ?_)
      obtain ⟨rfl, rfl⟩ := And.intro hp52.1 hp52.2.symm
      refine a_topi (show _ = nI (vI s 10) from rfl) ?_
      refine a_ret_i (pc := 55) hM rfl (rfl) dX11_count_55 (by omega) (by omega) ?_
      exact pubI (by unfold R_count; rw [c8, show (nI 0).toNatClampNeg = 0 from nI_clamp (by decide)]; rfl) (congrArg (fun t => some (Value.int t)) (show nI (vI s 10) = cntV s 0 from (hV.1.1.1).symm)) (CS.rf hI).ce
    · refine a_tabIn (pc := 1) (off := 55) (tgt := 56) dX11_count_1 (by decide) (by decide) rfl (by decide) ?_
      refine a_aload_n (pc := 56) dX11_count_56 rfl rfl ?_
      refine a_getfield (pc := 57) kg_X11_16 dX11_count_57 (c_fc hI) rfl ?_
      refine a_callV (pc := 60) km_X11_97 dX11_count_60 (w_size hI (i := 1) (by decide)) rfl rfl (kr_l hI (i := 1) (by decide)) (rok_of hM (by decide) (by decide) (by omega) (by omega)) (Nat.le_of_ble_eq_true rfl) (fun r60 h60 hp60 => ?_)
      obtain ⟨rfl, rfl⟩ := And.intro hp60.1 hp60.2.symm
      refine a_topi (show _ = nI (vI s 18) from rfl) ?_
      refine a_ret_i (pc := 63) hM rfl (rfl) dX11_count_63 (by omega) (by omega) ?_
      exact pubI (by unfold R_count; rw [c8, show (nI 1).toNatClampNeg = 1 from nI_clamp (by decide)]; rfl) (congrArg (fun t => some (Value.int t)) (show nI (vI s 18) = cntV s 1 from (hV.2.1.1.1).symm)) (CS.rf hI).ce
    · refine a_tabIn (pc := 1) (off := 63) (tgt := 64) dX11_count_1 (by decide) (by decide) rfl (by decide) ?_
      refine a_aload_n (pc := 64) dX11_count_64 rfl rfl ?_
      refine a_getfield (pc := 65) kg_X11_19 dX11_count_65 (c_fc hI) rfl ?_
      refine a_callV (pc := 68) km_X11_97 dX11_count_68 (w_size hI (i := 2) (by decide)) rfl rfl (kr_l hI (i := 2) (by decide)) (rok_of hM (by decide) (by decide) (by omega) (by omega)) (Nat.le_of_ble_eq_true rfl) (fun r68 h68 hp68 => ?_)
      obtain ⟨rfl, rfl⟩ := And.intro hp68.1 hp68.2.symm
      refine a_topi (show _ = nI (vI s 28) from rfl) ?_
      refine a_ret_i (pc := 71) hM rfl (rfl) dX11_count_71 (by omega) (by omega) ?_
      exact pubI (by unfold R_count; rw [c8, show (nI 2).toNatClampNeg = 2 from nI_clamp (by decide)]; rfl) (congrArg (fun t => some (Value.int t)) (show nI (vI s 28) = cntV s 2 from (hV.2.2.1.1.1).symm)) (CS.rf hI).ce
    · refine a_tabIn (pc := 1) (off := 71) (tgt := 72) dX11_count_1 (by decide) (by decide) rfl (by decide) ?_
      refine a_aload_n (pc := 72) dX11_count_72 rfl rfl ?_
      refine a_getfield (pc := 73) kg_X11_22 dX11_count_73 (c_fc hI) rfl ?_
      refine a_callV (pc := 76) km_X11_97 dX11_count_76 (w_size hI (i := 3) (by decide)) rfl rfl (kr_l hI (i := 3) (by decide)) (rok_of hM (by decide) (by decide) (by omega) (by omega)) (Nat.le_of_ble_eq_true rfl) (fun r76 h76 hp76 => ?_)
      obtain ⟨rfl, rfl⟩ := And.intro hp76.1 hp76.2.symm
      refine a_topi (show _ = nI (vI s 31) from rfl) ?_
      refine a_ret_i (pc := 79) hM rfl (rfl) dX11_count_79 (by omega) (by omega) ?_
      exact pubI (by unfold R_count; rw [c8, show (nI 3).toNatClampNeg = 3 from nI_clamp (by decide)]; rfl) (congrArg (fun t => some (Value.int t)) (show nI (vI s 31) = cntV s 3 from (hV.2.2.2.1.1.1).symm)) (CS.rf hI).ce
    · refine a_tabIn (pc := 1) (off := 79) (tgt := 80) dX11_count_1 (by decide) (by decide) rfl (by decide) ?_
      refine a_aload_n (pc := 80) dX11_count_80 rfl rfl ?_
      refine a_getfield (pc := 81) kg_X11_25 dX11_count_81 (c_fc hI) rfl ?_
      refine a_callV (pc := 84) km_X11_97 dX11_count_84 (w_size hI (i := 4) (by decide)) rfl rfl (kr_l hI (i := 4) (by decide)) (rok_of hM (by decide) (by decide) (by omega) (by omega)) (Nat.le_of_ble_eq_true rfl) (fun r84 h84 hp84 => ?_)
      obtain ⟨rfl, rfl⟩ := And.intro hp84.1 hp84.2.symm
      refine a_topi (show _ = nI (vI s 3) from rfl) ?_
      refine a_ret_i (pc := 87) hM rfl (rfl) dX11_count_87 (by omega) (by omega) ?_
      exact pubI (by unfold R_count; rw [c8, show (nI 4).toNatClampNeg = 4 from nI_clamp (by decide)]; rfl) (congrArg (fun t => some (Value.int t)) (show nI (vI s 3) = cntV s 4 from (hV.2.2.2.2.2.2.1.1.1).symm)) (CS.rf hI).ce
    · refine a_tabIn (pc := 1) (off := 87) (tgt := 88) dX11_count_1 (by decide) (by decide) rfl (by decide) ?_
      refine a_aload_n (pc := 88) dX11_count_88 rfl rfl ?_
      refine a_getfield (pc := 89) kg_X11_37 dX11_count_89 (c_fc hI) rfl ?_
      refine a_getfield (pc := 92) kg_X11_230 dX11_count_92 (c_tp) rfl ?_
      refine a_ret_i (pc := 95) hM rfl (rfl) dX11_count_95 (by omega) (by omega) ?_
      exact pubI (by unfold R_count; rw [c8, show (nI 5).toNatClampNeg = 5 from nI_clamp (by decide)]; rfl) rfl (CS.rf hI).ce
    · refine a_tabIn (pc := 1) (off := 95) (tgt := 96) dX11_count_1 (by decide) (by decide) rfl (by decide) ?_
      refine a_aload_n (pc := 96) dX11_count_96 rfl rfl ?_
      refine a_getfield (pc := 97) kg_X11_232 dX11_count_97 (c_fc hI) rfl ?_
      refine a_ret_i (pc := 100) hM rfl (rfl) dX11_count_100 (by omega) (by omega) ?_
      exact pubI (by unfold R_count; rw [c8, show (nI 6).toNatClampNeg = 6 from nI_clamp (by decide)]; rfl) rfl (CS.rf hI).ce
    · refine a_tabIn (pc := 1) (off := 100) (tgt := 101) dX11_count_1 (by decide) (by decide) rfl (by decide) ?_
      refine a_aload_n (pc := 101) dX11_count_101 rfl rfl ?_
      refine a_callV (pc := 102) km_X11_276 dX11_count_102 (f_hitsOfAll hI hV) rfl rfl (kr_t hI) (rok_of hM (by decide) (by decide) (by omega) (by omega)) (Nat.le_of_ble_eq_true rfl) (fun r102 h102 hp102 => ?_)
      obtain ⟨rfl, rfl⟩ := And.intro hp102.1 hp102.2.symm
      refine a_ret_i (pc := 105) hM rfl (rfl) dX11_count_105 (by omega) (by omega) ?_
      exact pubI (by unfold R_count; rw [c8, show (nI 7).toNatClampNeg = 7 from nI_clamp (by decide)]; rfl) rfl (CS.rf hI).ce
  · refine a_tabOut (pc := 1) (tgt := 106) dX11_count_1 (by simp only [inN, Bool.and_eq_true, decide_eq_true_eq] at c8; omega) (by decide) ?_
    refine a_bipush (pc := 106) dX11_count_106 ib_m2 ?_
    refine a_ret_i (pc := 108) hM rfl (rfl) dX11_count_108 (by omega) (by omega) ?_
    exact pubI (by unfold R_count; rw [if_neg c8]) rfl (CS.rf hI).ce

set_option maxRecDepth 4000 in
theorem f_cweighs (hI : CI X σ s h) (hV : MV s) (x : Int32) : Fn X 4 0 0 yX11_weighs cX11_weighs 6 (some .int) [.ref (σ 0 0), .int x] h (fun rv hv => rv = some (.int (R_weighs s x).1) ∧ CE X σ s h (R_weighs s x).2 hv) := by
  have b10 : vI s 10 ≤ 4 := hV.1.1.2
  have b18 : vI s 18 ≤ 16 := hV.2.1.1.2
  have b28 : vI s 28 ≤ 10 := hV.2.2.1.1.2
  have b31 : vI s 31 ≤ 6 := hV.2.2.2.1.1.2
  have b3 : vI s 3 ≤ 6 := hV.2.2.2.2.2.2.1.1.2
  refine fn_of (by decide) (Nat.le_of_ble_eq_true rfl) (fun M hM => ?_)
  have lp : ∀ (sk : Int32), sk = kindsP s x (vI s 31) → ∀ d k : Nat, vI s 28 - k = d → k ≤ vI s 28 → R_weighs s x = (weighS s sk (vI s 28), s) → AJ X M yX11_weighs cX11_weighs 6 (some .int) 28 [(0, .ref (σ 0 0)), (2, .int sk), (3, .int (weighS s sk k)), (4, .int (nI k))] [] h 0 0 := by
    intro sk hsk d
    induction d with
    | zero =>
      intro k hd hle hR
      refine a_iload (pc := 28) dX11_weighs_28 rfl ?_
      refine a_aload_n (pc := 30) dX11_weighs_30 rfl rfl ?_
      refine a_getfield (pc := 31) kg_X11_19 dX11_weighs_31 (c_fc hI) rfl ?_
      refine a_callV (pc := 34) km_X11_97 dX11_weighs_34 (w_size hI (i := 2) (by decide)) rfl rfl (kr_l hI (i := 2) (by decide)) (rok_of hM (by decide) (by decide) (by omega) (by omega)) (Nat.le_of_ble_eq_true rfl) (fun r34 h34 hp34 => ?_)
      obtain ⟨rfl, rfl⟩ := And.intro hp34.1 hp34.2.symm
      refine a_topi (show _ = nI (vI s 28) from rfl) ?_
      refine a_icmp_geN (pc := 37) (tgt := 80) dX11_weighs_37 (by decide) (by omega) (by omega) (fun c37 => ?_) (fun c37 => ?_)
      · have hk : k = vI s 28 := by omega
        refine a_iload_n (pc := 80) dX11_weighs_80 rfl rfl ?_
        refine a_ret_i (pc := 81) hM rfl (rfl) dX11_weighs_81 (by omega) (by omega) ?_
        exact pubI hR (by rw [hk]) (CS.rf hI).ce
      · exact absurd c37 (by omega)
    | succ d ih =>
      intro k hd hle hR
      obtain ⟨wk, hw⟩ := c_lkr hI (k := k) (by omega)
      refine a_iload (pc := 28) dX11_weighs_28 rfl ?_
      refine a_aload_n (pc := 30) dX11_weighs_30 rfl rfl ?_
      refine a_getfield (pc := 31) kg_X11_19 dX11_weighs_31 (c_fc hI) rfl ?_
      refine a_callV (pc := 34) km_X11_97 dX11_weighs_34 (w_size hI (i := 2) (by decide)) rfl rfl (kr_l hI (i := 2) (by decide)) (rok_of hM (by decide) (by decide) (by omega) (by omega)) (Nat.le_of_ble_eq_true rfl) (fun r34 h34 hp34 => ?_)
      obtain ⟨rfl, rfl⟩ := And.intro hp34.1 hp34.2.symm
      refine a_topi (show _ = nI (vI s 28) from rfl) ?_
      refine a_icmp_geN (pc := 37) (tgt := 80) dX11_weighs_37 (by decide) (by omega) (by omega) (fun c37 => ?_) (fun c37 => ?_)
      · exact absurd c37 (by omega)
      · refine a_aload_n (pc := 40) dX11_weighs_40 rfl rfl ?_
        refine a_getfield (pc := 41) kg_X11_19 dX11_weighs_41 (c_fc hI) rfl ?_
        refine a_iload (pc := 44) dX11_weighs_44 rfl ?_
        refine a_callV (pc := 46) km_X11_109 dX11_weighs_46 (w_get hI (i := 2) (j := k) (by decide) (show k < vI s 28 from by omega)) rfl rfl (kr_l hI (i := 2) (by decide)) (rok_of hM (by decide) (by decide) (by omega) (by omega)) (Nat.le_of_ble_eq_true rfl) (fun r46 h46 hp46 => ?_)
        obtain ⟨rfl, rfl⟩ := And.intro hp46.1 hp46.2.symm
        refine a_topr (show _ = σ 24 k from rfl) ?_
        refine a_castE (pc := 49) kl_X11_194 rfl (c_isL hI (show k < vI s 28 from by omega)) dX11_weighs_49 ?_
        refine a_astore (pc := 52) dX11_weighs_52 (by decide) rfl ?_
        refine a_iload_n (pc := 54) dX11_weighs_54 rfl rfl ?_
        refine a_aload (pc := 55) dX11_weighs_55 rfl ?_
        refine a_getfield (pc := 57) kg_X11_227 dX11_weighs_57 (hw) rfl ?_
        refine a_ishr (pc := 60) dX11_weighs_60 ?_
        refine a_iconst (pc := 61) dX11_weighs_61 ic_1 ?_
        refine a_iand (pc := 62) dX11_weighs_62 ?_
        refine a_if_ne (pc := 63) (tgt := 74) dX11_weighs_63 (by decide) (fun c63 => ?_) (fun c63 => ?_)
        · have e : weighS s sk (k + 1) = weighS s sk k := by show weighS s sk k + (if sk >>> (s.2.1 24 k &&& 31) &&& nI 1 = 0 then cntsP (s.2.1 24 k) else nI 0) = _; rw [if_neg c63]; exact Int32.add_zero _
          refine a_iincN (pc := 74) (n := 1) dX11_weighs_74 (by decide) rfl (by decide) rfl ?_
          refine a_goto (pc := 77) (tgt := 28) dX11_weighs_77 (by decide) ?_
          exact a_locR (ih (k + 1) (by omega) (by omega) hR) (by rw [e]; exact ⟨rfl, rfl, rfl, rfl, trivial⟩)
        · have e : weighS s sk (k + 1) = weighS s sk k + cntsP (s.2.1 24 k) := by show weighS s sk k + (if sk >>> (s.2.1 24 k &&& 31) &&& nI 1 = 0 then cntsP (s.2.1 24 k) else nI 0) = _; rw [if_pos c63]
          refine a_iload_n (pc := 66) dX11_weighs_66 rfl rfl ?_
          refine a_aload (pc := 67) dX11_weighs_67 rfl ?_
          refine a_callV (pc := 69) km_X11_206 dX11_weighs_69 (w_weight hI hV (k := k) (by omega)) rfl rfl (kr_k hI (by omega)) (rok_of hM (by decide) (by decide) (by omega) (by omega)) (Nat.le_of_ble_eq_true rfl) (fun r69 h69 hp69 => ?_)
          obtain ⟨rfl, rfl⟩ := And.intro hp69.1 hp69.2.symm
          refine a_iadd (pc := 72) dX11_weighs_72 ?_
          refine a_istore_n (pc := 73) dX11_weighs_73 rfl (by decide) rfl ?_
          refine a_iincN (pc := 74) (n := 1) dX11_weighs_74 (by decide) rfl (by decide) rfl ?_
          refine a_goto (pc := 77) (tgt := 28) dX11_weighs_77 (by decide) ?_
          exact a_locR (ih (k + 1) (by omega) (by omega) hR) (by rw [e]; exact ⟨rfl, rfl, rfl, rfl, trivial⟩)
  refine a_iload_n (pc := 0) dX11_weighs_0 rfl rfl ?_
  refine a_aload_n (pc := 1) dX11_weighs_1 rfl rfl ?_
  refine a_getfield (pc := 2) kg_X11_22 dX11_weighs_2 (c_fc hI) rfl ?_
  refine a_callV (pc := 5) km_X11_97 dX11_weighs_5 (w_size hI (i := 3) (by decide)) rfl rfl (kr_l hI (i := 3) (by decide)) (rok_of hM (by decide) (by decide) (by omega) (by omega)) (Nat.le_of_ble_eq_true rfl) (fun r5 h5 hp5 => ?_)
  obtain ⟨rfl, rfl⟩ := And.intro hp5.1 hp5.2.symm
  refine a_topi (show _ = nI (vI s 31) from rfl) ?_
  refine a_callS (pc := 8) km_X11_209 dX11_weighs_8 (f_isBits x (by omega)) rfl rfl (rok_of hM (by decide) (by decide) (by omega) (by omega)) (Nat.le_of_ble_eq_true rfl) (fun r8 h8 hp8 => ?_)
  obtain ⟨rfl, rfl⟩ := And.intro hp8.1 hp8.2.symm
  refine a_if_neB (pc := 11) (tgt := 17) dX11_weighs_11 (by decide) (fun c11 => ?_) (fun c11 => ?_)
  · refine a_aload_n (pc := 17) dX11_weighs_17 rfl rfl ?_
    refine a_iload_n (pc := 18) dX11_weighs_18 rfl rfl ?_
    refine a_callV (pc := 19) km_X11_221 dX11_weighs_19 (f_kindsS hI hV x) rfl rfl (kr_t hI) (rok_of hM (by decide) (by decide) (by omega) (by omega)) (Nat.le_of_ble_eq_true rfl) (fun r19 h19 hp19 => ?_)
    obtain ⟨rfl, rfl⟩ := And.intro hp19.1 hp19.2.symm
    refine a_istore_n (pc := 22) dX11_weighs_22 rfl (by decide) rfl ?_
    refine a_iconst (pc := 23) dX11_weighs_23 ic_0 ?_
    refine a_istore_n (pc := 24) dX11_weighs_24 rfl (by decide) rfl ?_
    refine a_iconst (pc := 25) dX11_weighs_25 ic_0 ?_
    refine a_istore (pc := 26) dX11_weighs_26 (by decide) rfl ?_
    exact a_locR (lp _ rfl _ 0 rfl (Nat.zero_le _) (by unfold R_weighs; rw [c11]; rfl)) ⟨rfl, rfl, rfl, rfl, trivial⟩
  · refine a_bipush (pc := 14) dX11_weighs_14 ib_m2 ?_
    refine a_ret_i (pc := 16) hM rfl (rfl) dX11_weighs_16 (by omega) (by omega) ?_
    exact pubI (by unfold R_weighs; rw [c11]; rfl) rfl (CS.rf hI).ce

theorem cI_le {a b : Nat} (ha : a < 2147483648) (hb : b < 2147483648) : nI a ≤ nI b ↔ a ≤ b := nI_leI ha hb
set_option maxRecDepth 4000 in
theorem f_cplan (hI : CI X σ s h) (hV : MV s) (x w : Int32) : Fn X 4 0 0 yX11_plan cX11_plan 8 (some .int) [.ref (σ 0 0), .int x, .int w] h (fun rv hv => rv = some (.int (R_plan s x w).1) ∧ CE X σ s h (R_plan s x w).2 hv) := by
  have b10 : vI s 10 ≤ 4 := hV.1.1.2
  have b18 : vI s 18 ≤ 16 := hV.2.1.1.2
  have b28 : vI s 28 ≤ 10 := hV.2.2.1.1.2
  have b31 : vI s 31 ≤ 6 := hV.2.2.2.1.1.2
  have b3 : vI s 3 ≤ 6 := hV.2.2.2.2.2.2.1.1.2
  refine fn_of (by decide) (Nat.le_of_ble_eq_true rfl) (fun M hM => ?_)
  have hp2 : 2 ^ vI s 31 < 2147483648 := Nat.lt_of_le_of_lt (Nat.pow_le_pow_right (by decide) b31) (by decide)
  have lp : ∀ nd : Int32, R_plan s x w = (planR (planS s nd (2 ^ vI s 31)).1 (planS s nd (2 ^ vI s 31)).2 w, s) → ∀ d q : Nat, 2 ^ vI s 31 - q = d → q ≤ 2 ^ vI s 31 → AJ X M yX11_plan cX11_plan 8 (some .int) 40 [(0, .ref (σ 0 0)), (2, .int w), (3, .int nd), (4, .int (planS s nd q).1), (5, .int (planS s nd q).2), (6, .int (nI q))] [] h 0 0 := by
    intro nd hR d
    induction d with
    | zero =>
      intro q hd hle
      refine a_iload (pc := 40) dX11_plan_40 rfl ?_
      refine a_iconst (pc := 42) dX11_plan_42 ic_1 ?_
      refine a_aload_n (pc := 43) dX11_plan_43 rfl rfl ?_
      refine a_getfield (pc := 44) kg_X11_22 dX11_plan_44 (c_fc hI) rfl ?_
      refine a_callV (pc := 47) km_X11_97 dX11_plan_47 (w_size hI (i := 3) (by decide)) rfl rfl (kr_l hI (i := 3) (by decide)) (rok_of hM (by decide) (by decide) (by omega) (by omega)) (Nat.le_of_ble_eq_true rfl) (fun r47 h47 hp47 => ?_)
      obtain ⟨rfl, rfl⟩ := And.intro hp47.1 hp47.2.symm
      refine a_topi (show _ = nI (vI s 31) from rfl) ?_
      refine a_ishl (pc := 50) dX11_plan_50 ?_
      refine a_topi (shl1 (by omega)) ?_
      refine a_icmp_ge (pc := 51) (tgt := 105) dX11_plan_51 (by decide) (fun c51 => ?_) (fun c51 => ?_)
      · have hq : q = 2 ^ vI s 31 := by omega
        subst hq
        refine a_iload (pc := 105) dX11_plan_105 rfl ?_
        refine a_iconst (pc := 107) dX11_plan_107 ic_m1 ?_
        refine a_icmp_eq (pc := 108) (tgt := 115) dX11_plan_108 (by decide) (fun c108 => ?_) (fun c108 => ?_)
        · have e : planR (planS s nd (2 ^ vI s 31)).1 (planS s nd (2 ^ vI s 31)).2 w = (planS s nd (2 ^ vI s 31)).1 := if_pos c108
          refine a_iload (pc := 115) dX11_plan_115 rfl ?_
          refine a_goto (pc := 117) (tgt := 122) dX11_plan_117 (by decide) ?_
          refine a_ret_i (pc := 122) hM rfl (rfl) dX11_plan_122 (by omega) (by omega) ?_
          exact pubI hR (congrArg (fun t => some (Value.int t)) e.symm) (CS.rf hI).ce
        · refine a_iload_n (pc := 111) dX11_plan_111 rfl rfl ?_
          refine a_if_ne (pc := 112) (tgt := 120) dX11_plan_112 (by decide) (fun c112 => ?_) (fun c112 => ?_)
          · have e : planR (planS s nd (2 ^ vI s 31)).1 (planS s nd (2 ^ vI s 31)).2 w = (planS s nd (2 ^ vI s 31)).2 := (if_neg c108).trans (if_neg c112)
            refine a_iload (pc := 120) dX11_plan_120 rfl ?_
            refine a_ret_i (pc := 122) hM rfl (rfl) dX11_plan_122 (by omega) (by omega) ?_
            exact pubI hR (congrArg (fun t => some (Value.int t)) e.symm) (CS.rf hI).ce
          · have e : planR (planS s nd (2 ^ vI s 31)).1 (planS s nd (2 ^ vI s 31)).2 w = (planS s nd (2 ^ vI s 31)).1 := (if_neg c108).trans (if_pos c112)
            refine a_iload (pc := 115) dX11_plan_115 rfl ?_
            refine a_goto (pc := 117) (tgt := 122) dX11_plan_117 (by decide) ?_
            refine a_ret_i (pc := 122) hM rfl (rfl) dX11_plan_122 (by omega) (by omega) ?_
            exact pubI hR (congrArg (fun t => some (Value.int t)) e.symm) (CS.rf hI).ce
      · exact absurd ((cI_le hp2 (by omega)).mpr (by omega)) c51
    | succ d ih =>
      intro q hd hle
      refine a_iload (pc := 40) dX11_plan_40 rfl ?_
      refine a_iconst (pc := 42) dX11_plan_42 ic_1 ?_
      refine a_aload_n (pc := 43) dX11_plan_43 rfl rfl ?_
      refine a_getfield (pc := 44) kg_X11_22 dX11_plan_44 (c_fc hI) rfl ?_
      refine a_callV (pc := 47) km_X11_97 dX11_plan_47 (w_size hI (i := 3) (by decide)) rfl rfl (kr_l hI (i := 3) (by decide)) (rok_of hM (by decide) (by decide) (by omega) (by omega)) (Nat.le_of_ble_eq_true rfl) (fun r47 h47 hp47 => ?_)
      obtain ⟨rfl, rfl⟩ := And.intro hp47.1 hp47.2.symm
      refine a_topi (show _ = nI (vI s 31) from rfl) ?_
      refine a_ishl (pc := 50) dX11_plan_50 ?_
      refine a_topi (shl1 (by omega)) ?_
      refine a_icmp_ge (pc := 51) (tgt := 105) dX11_plan_51 (by decide) (fun c51 => ?_) (fun c51 => ?_)
      · exact absurd ((cI_le hp2 (by omega)).mp c51) (by omega)
      · refine a_iload_n (pc := 54) dX11_plan_54 rfl rfl ?_
        refine a_aload_n (pc := 55) dX11_plan_55 rfl rfl ?_
        refine a_iload (pc := 56) dX11_plan_56 rfl ?_
        refine a_callV (pc := 58) km_X11_221 dX11_plan_58 (f_kindsS hI hV (nI q)) rfl rfl (kr_t hI) (rok_of hM (by decide) (by decide) (by omega) (by omega)) (Nat.le_of_ble_eq_true rfl) (fun r58 h58 hp58 => ?_)
        obtain ⟨rfl, rfl⟩ := And.intro hp58.1 hp58.2.symm
        refine a_iconst (pc := 61) dX11_plan_61 ic_m1 ?_
        refine a_ixor (pc := 62) dX11_plan_62 ?_
        refine a_iand (pc := 63) dX11_plan_63 ?_
        refine a_if_eq (pc := 64) (tgt := 70) dX11_plan_64 (by decide) (fun c64 => ?_) (fun c64 => ?_)
        · refine a_aload_n (pc := 70) dX11_plan_70 rfl rfl ?_
          refine a_iload (pc := 71) dX11_plan_71 rfl ?_
          refine a_callV (pc := 73) km_X11_224 dX11_plan_73 (f_hours hI hV (nI q)) rfl rfl (kr_t hI) (rok_of hM (by decide) (by decide) (by omega) (by omega)) (Nat.le_of_ble_eq_true rfl) (fun r73 h73 hp73 => ?_)
          obtain ⟨rfl, rfl⟩ := And.intro hp73.1 hp73.2.symm
          refine a_istore (pc := 76) dX11_plan_76 (by decide) rfl ?_
          refine a_iload (pc := 78) dX11_plan_78 rfl ?_
          refine a_iconst (pc := 80) dX11_plan_80 ic_m1 ?_
          refine a_icmp_eq (pc := 81) (tgt := 91) dX11_plan_81 (by decide) (fun c81 => ?_) (fun c81 => ?_)
          · have e : planS s nd (q + 1) = (nI q, hourS s (nI q) (vI s 31)) := if_pos ⟨c64, Or.inl c81⟩
            refine a_iload (pc := 91) dX11_plan_91 rfl ?_
            refine a_istore (pc := 93) dX11_plan_93 (by decide) rfl ?_
            refine a_iload (pc := 95) dX11_plan_95 rfl ?_
            refine a_istore (pc := 97) dX11_plan_97 (by decide) rfl ?_
            refine a_iincN (pc := 99) (n := 1) dX11_plan_99 (by decide) rfl (by decide) rfl ?_
            refine a_goto (pc := 102) (tgt := 40) dX11_plan_102 (by decide) ?_
            exact a_locR (ih (q + 1) (by omega) (by omega)) (by rw [e]; exact ⟨rfl, rfl, rfl, rfl, rfl, rfl, trivial⟩)
          · refine a_iload (pc := 84) dX11_plan_84 rfl ?_
            refine a_iload (pc := 86) dX11_plan_86 rfl ?_
            refine a_icmp_ge (pc := 88) (tgt := 99) dX11_plan_88 (by decide) (fun c88 => ?_) (fun c88 => ?_)
            · have e : planS s nd (q + 1) = planS s nd q := if_neg (fun z => z.2.elim c81 (fun y => absurd y (Int32.not_lt.mpr c88)))
              refine a_iincN (pc := 99) (n := 1) dX11_plan_99 (by decide) rfl (by decide) rfl ?_
              refine a_goto (pc := 102) (tgt := 40) dX11_plan_102 (by decide) ?_
              exact a_locR (ih (q + 1) (by omega) (by omega)) (by rw [e]; exact ⟨rfl, rfl, rfl, rfl, rfl, rfl, trivial⟩)
            · have e : planS s nd (q + 1) = (nI q, hourS s (nI q) (vI s 31)) := if_pos ⟨c64, Or.inr (Int32.not_le.mp c88)⟩
              refine a_iload (pc := 91) dX11_plan_91 rfl ?_
              refine a_istore (pc := 93) dX11_plan_93 (by decide) rfl ?_
              refine a_iload (pc := 95) dX11_plan_95 rfl ?_
              refine a_istore (pc := 97) dX11_plan_97 (by decide) rfl ?_
              refine a_iincN (pc := 99) (n := 1) dX11_plan_99 (by decide) rfl (by decide) rfl ?_
              refine a_goto (pc := 102) (tgt := 40) dX11_plan_102 (by decide) ?_
              exact a_locR (ih (q + 1) (by omega) (by omega)) (by rw [e]; exact ⟨rfl, rfl, rfl, rfl, rfl, rfl, trivial⟩)
        · have e : planS s nd (q + 1) = planS s nd q := if_neg (fun z => c64 z.1)
          refine a_goto (pc := 67) (tgt := 99) dX11_plan_67 (by decide) ?_
          refine a_iincN (pc := 99) (n := 1) dX11_plan_99 (by decide) rfl (by decide) rfl ?_
          refine a_goto (pc := 102) (tgt := 40) dX11_plan_102 (by decide) ?_
          exact a_locR (ih (q + 1) (by omega) (by omega)) (by rw [e]; exact ⟨rfl, rfl, rfl, rfl, rfl, rfl, trivial⟩)
  refine a_iload_n (pc := 0) dX11_plan_0 rfl rfl ?_
  refine a_aload_n (pc := 1) dX11_plan_1 rfl rfl ?_
  refine a_getfield (pc := 2) kg_X11_19 dX11_plan_2 (c_fc hI) rfl ?_
  refine a_callV (pc := 5) km_X11_97 dX11_plan_5 (w_size hI (i := 2) (by decide)) rfl rfl (kr_l hI (i := 2) (by decide)) (rok_of hM (by decide) (by decide) (by omega) (by omega)) (Nat.le_of_ble_eq_true rfl) (fun r5 h5 hp5 => ?_)
  obtain ⟨rfl, rfl⟩ := And.intro hp5.1 hp5.2.symm
  refine a_topi (show _ = nI (vI s 28) from rfl) ?_
  refine a_callS (pc := 8) km_X11_209 dX11_plan_8 (f_isBits x (by omega)) rfl rfl (rok_of hM (by decide) (by decide) (by omega) (by omega)) (Nat.le_of_ble_eq_true rfl) (fun r8 h8 hp8 => ?_)
  obtain ⟨rfl, rfl⟩ := And.intro hp8.1 hp8.2.symm
  refine a_if_eqB (pc := 11) (tgt := 22) dX11_plan_11 (by decide) (fun c11 => ?_) (fun c11 => ?_)
  · have e : R_plan s x w = (-2, s) := by unfold R_plan; rw [c11]; rfl
    refine a_bipush (pc := 22) dX11_plan_22 ib_m2 ?_
    refine a_ret_i (pc := 24) hM rfl (rfl) dX11_plan_24 (by omega) (by omega) ?_
    exact pubI e rfl (CS.rf hI).ce
  · refine a_iload_n (pc := 14) dX11_plan_14 rfl rfl ?_
    refine a_iconst (pc := 15) dX11_plan_15 ic_2 ?_
    refine a_callS (pc := 16) km_X11_103 dX11_plan_16 (f_among w (by omega)) rfl rfl (rok_of hM (by decide) (by decide) (by omega) (by omega)) (Nat.le_of_ble_eq_true rfl) (fun r16 h16 hp16 => ?_)
    obtain ⟨rfl, rfl⟩ := And.intro hp16.1 hp16.2.symm
    refine a_if_neB (pc := 19) (tgt := 25) dX11_plan_19 (by decide) (fun c19 => ?_) (fun c19 => ?_)
    · refine a_aload_n (pc := 25) dX11_plan_25 rfl rfl ?_
      refine a_iload_n (pc := 26) dX11_plan_26 rfl rfl ?_
      refine a_callV (pc := 27) km_X11_217 dX11_plan_27 (f_kindsL hI hV x) rfl rfl (kr_t hI) (rok_of hM (by decide) (by decide) (by omega) (by omega)) (Nat.le_of_ble_eq_true rfl) (fun r27 h27 hp27 => ?_)
      obtain ⟨rfl, rfl⟩ := And.intro hp27.1 hp27.2.symm
      refine a_istore_n (pc := 30) dX11_plan_30 rfl (by decide) rfl ?_
      refine a_iconst (pc := 31) dX11_plan_31 ic_m1 ?_
      refine a_istore (pc := 32) dX11_plan_32 (by decide) rfl ?_
      refine a_iconst (pc := 34) dX11_plan_34 ic_0 ?_
      refine a_istore (pc := 35) dX11_plan_35 (by decide) rfl ?_
      refine a_iconst (pc := 37) dX11_plan_37 ic_0 ?_
      refine a_istore (pc := 38) dX11_plan_38 (by decide) rfl ?_
      exact a_locR (lp _ (by unfold R_plan; rw [c11, c19]; rfl) _ 0 rfl (Nat.zero_le _)) ⟨rfl, rfl, rfl, rfl, rfl, rfl, trivial⟩
    · have e : R_plan s x w = (-2, s) := by unfold R_plan; rw [c11, c19]; rfl
      refine a_bipush (pc := 22) dX11_plan_22 ib_m2 ?_
      refine a_ret_i (pc := 24) hM rfl (rfl) dX11_plan_24 (by omega) (by omega) ?_
      exact pubI e rfl (CS.rf hI).ce

end CPA

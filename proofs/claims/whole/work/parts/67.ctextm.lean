/-! THE CLASS: A TEXT MORE -/
section CPO
variable {X : KX} {h : AH} {s : MST} {σ : Nat → Nat → Nat}
theorem R_txB (e0 : ¬ vI s 3 = 6) (hbd : pBad (tapeP s) = true) : R_text s = (-100 - nI (pFt (tapeP s)), N_txt s) := by
  unfold R_text
  rw [if_neg e0, if_pos hbd]
theorem R_txG (e0 : ¬ vI s 3 = 6) (hbd : ¬ pBad (tapeP s) = true) : R_text s = (nI (vI s 3), si (N_txt s) 3 (nI (vI s 3 + 1))) := by
  unfold R_text
  rw [if_neg e0, if_neg hbd]
set_option maxRecDepth 4000 in
theorem f_ctext (hI : CI X σ s h) (hV : MV s) : Fn X 70 5 400 yX11_text cX11_text 2 (some .int) [.ref (σ 0 0)] h (fun rv hv => rv = some (.int (R_text s).1) ∧ CE X σ s h (R_text s).2 hv) := by
  have b10 : vI s 10 ≤ 4 := hV.1.1.2
  have b18 : vI s 18 ≤ 16 := hV.2.1.1.2
  have b28 : vI s 28 ≤ 10 := hV.2.2.1.1.2
  have b31 : vI s 31 ≤ 6 := hV.2.2.2.1.1.2
  have b3 : vI s 3 ≤ 6 := hV.2.2.2.2.2.2.1.1.2
  refine fn_of (by decide) (Nat.le_of_ble_eq_true rfl) (fun M hM => ?_)
  refine a_aload_n (pc := 0) dX11_text_0 rfl rfl ?_
  refine a_getfield (pc := 1) kg_X11_25 dX11_text_1 (c_fc hI) rfl ?_
  refine a_callV (pc := 4) km_X11_97 dX11_text_4 (w_size hI (i := 4) (by decide)) rfl rfl (kr_l hI (i := 4) (by decide)) (rok_of hM (by decide) (by decide) (by omega) (by omega)) (Nat.le_of_ble_eq_true rfl) (fun r4 h4 hp4 => ?_)
  obtain ⟨rfl, rfl⟩ := And.intro hp4.1 hp4.2.symm
  refine a_topi (show _ = nI (vI s 3) from rfl) ?_
  refine a_bipush (pc := 7) dX11_text_7 ib_6 ?_
  refine a_icmp_ltN (pc := 9) (tgt := 15) dX11_text_9 (by decide) (by omega) (by omega) (fun c9 => ?_) (fun c9 => ?_)
  · have h36 : vI s 3 < 6 := c9
    have e0 : ¬ vI s 3 = 6 := by omega
    refine a_aload_n (pc := 15) dX11_text_15 rfl rfl ?_
    refine a_callV (pc := 16) km_X11_82 dX11_text_16 (f_creadTape hI (MV.rt hV h36)) rfl rfl (kr_t hI) (rok_of hM (by decide) (by decide) (by omega) (by omega)) (Nat.le_of_ble_eq_true rfl) (fun r16 h16 hp16 => ?_)
    obtain ⟨rfl, hb160, σ', z0, hI', hF'⟩ := hp16
    skip
    refine a_istore_n (pc := 19) dX11_text_19 rfl (by decide) rfl ?_
    refine a_iload_n (pc := 20) dX11_text_20 rfl rfl ?_
    refine a_iconst (pc := 21) dX11_text_21 ic_m1 ?_
    refine a_icmp_ne (pc := 22) (tgt := 37) dX11_text_22 (by decide) (fun c22 => ?_) (fun c22 => ?_)
    · have hbd : pBad (tapeP s) = true := by
        cases q : pBad (tapeP s) with
        | true => rfl
        | false =>
          rw [q] at c22
          exact absurd rfl c22
      rw [if_pos hbd] at hI' hF'
      have e := R_txB e0 hbd
      have ev : (if pBad (tapeP s) = true then nI (pFt (tapeP s)) else (-1 : Int32)) = nI (pFt (tapeP s)) := if_pos hbd
      refine a_bipush (pc := 37) dX11_text_37 ib_m100 ?_
      refine a_iload_n (pc := 39) dX11_text_39 rfl rfl ?_
      refine a_topi ev ?_
      refine a_isub (pc := 40) dX11_text_40 ?_
      refine a_ret_i (pc := 41) hM rfl (rfl) dX11_text_41 (by omega) (by omega) ?_
      exact pubI e rfl ⟨σ', z0, hI', hF'⟩
    · have hbd : ¬ pBad (tapeP s) = true := fun q => by
          rw [if_pos q] at c22
          exact absurd c22 (nI_nm (by have := hb160 q; omega) (by decide))
      rw [if_neg hbd] at hI' hF'
      have e := R_txG e0 hbd
      have e3 : vI (si (N_txt s) 3 (nI (vI s 3 + 1))) 3 = vI s 3 + 1 := by
        show ((si (N_txt s) 3 (nI (vI s 3 + 1))).1 3).toNatClampNeg = _
        rw [si_e, nI_clamp (by omega)]
      have fc' := c_fc hI'
      rw [z0 0 0 (by decide)] at fc'
      refine a_aload_n (pc := 25) dX11_text_25 rfl rfl ?_
      refine a_getfield (pc := 26) kg_X11_25 dX11_text_26 (fc') rfl ?_
      refine a_callV (pc := 29) km_X11_97 dX11_text_29 (w_size hI' (i := 4) (by decide)) rfl rfl (kr_l hI' (i := 4) (by decide)) (rok_of hM (by decide) (by decide) (by omega) (by omega)) (Nat.le_of_ble_eq_true rfl) (fun r29 h29 hp29 => ?_)
      obtain ⟨rfl, rfl⟩ := And.intro hp29.1 hp29.2.symm
      refine a_topi (show _ = nI (vI s 3 + 1) from congrArg nI e3) ?_
      refine a_iconst (pc := 32) dX11_text_32 ic_1 ?_
      refine a_isubN (pc := 33) dX11_text_33 (by omega) ?_
      refine a_goto (pc := 34) (tgt := 41) dX11_text_34 (by decide) ?_
      refine a_ret_i (pc := 41) hM rfl (rfl) dX11_text_41 (by omega) (by omega) ?_
      exact pubI e rfl ⟨σ', z0, hI', hF'⟩
  · have e0 : vI s 3 = 6 := by omega
    refine a_bipush (pc := 12) dX11_text_12 ib_m4 ?_
    refine a_ret_i (pc := 14) hM rfl (rfl) dX11_text_14 (by omega) (by omega) ?_
    exact pubI (by unfold R_text; exact if_pos e0) rfl (CS.rf hI).ce

end CPO

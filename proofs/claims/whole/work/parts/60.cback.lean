/-! THE CLASS: LAID BACK -/
section CPH
variable {X : KX} {h : AH} {s : MST} {σ : Nat → Nat → Nat}
def N_B (s : MST) (k : Nat) : MST := sa (sa (sa (sa (si s 4 (s.1 60)) 14 (fillO (s.2.1 52) (s.2.1 14) 0 (25 * k))) 15 (fillO (s.2.1 53) (s.2.1 15) 0 (25 * k))) 16 (fillO (s.2.1 54) (s.2.1 16) 0 k)) 17 (fillO (s.2.1 55) (s.2.1 17) 0 k)
theorem B_0 : N_B s 0 = si s 4 (s.1 60) := by
  unfold N_B
  rw [Nat.mul_zero, fillO_0, fillO_0, fillO_0, fillO_0]
  have e (a : Nat) : sa (si s 4 (s.1 60)) a (s.2.1 a) = si s 4 (s.1 60) := sa_id (s := si s 4 (s.1 60)) (k := a)
  rw [e, e, e, e]
theorem B_1 {k j : Nat} (h : j ≠ 4) : (N_B s k).1 j = s.1 j := by unfold N_B; simp only [sa_1]; rw [si_n h]
theorem B_4 {k : Nat} : (N_B s k).1 4 = s.1 60 := by unfold N_B; simp only [sa_1]; rw [si_e]
theorem B_a {k j : Nat} (h1 : j ≠ 14) (h2 : j ≠ 15) (h3 : j ≠ 16) (h4 : j ≠ 17) : (N_B s k).2.1 j = s.2.1 j := by unfold N_B; rw [sa_n h4, sa_n h3, sa_n h2, sa_n h1]; rfl
theorem B_14 {k : Nat} : (N_B s k).2.1 14 = fillO (s.2.1 52) (s.2.1 14) 0 (25 * k) := by unfold N_B; rw [sa_n (by decide), sa_n (by decide), sa_n (by decide), sa_e]
theorem B_15 {k : Nat} : (N_B s k).2.1 15 = fillO (s.2.1 53) (s.2.1 15) 0 (25 * k) := by unfold N_B; rw [sa_n (by decide), sa_n (by decide), sa_e]
theorem B_16 {k : Nat} : (N_B s k).2.1 16 = fillO (s.2.1 54) (s.2.1 16) 0 k := by unfold N_B; rw [sa_n (by decide), sa_e]
theorem B_17 {k : Nat} : (N_B s k).2.1 17 = fillO (s.2.1 55) (s.2.1 17) 0 k := by unfold N_B; rw [sa_e]
theorem B_rsz {k i : Nat} : rsz (N_B s k) i = rsz s i := rsz_cg (B_a (by decide) (by decide) (by decide) (by decide)) (B_a (by decide) (by decide) (by decide) (by decide)) i
theorem fl_ne {f g : Nat → Int32} {a b j : Nat} (h : j < a ↔ j < b) : fillO f g 0 a j = fillO f g 0 b j := by
  unfold fillO
  by_cases q : j < a
  · rw [if_pos (by omega), if_pos (by omega)]
  · rw [if_neg (by omega), if_neg (by omega)]
theorem st_bk {k : Nat} {ks kp : Int32} {f g f2 g2 : Nat → Int32} (hI : CI X σ (N_B s k) h) (hV : MV s) (hk : k < vI s 18) (e1 : ks = s.2.1 54 k) (e2 : kp = s.2.1 55 k) (hf : ∀ j, j < rsz s k → f2 j = s.2.1 52 (25 * k + j)) (hg : ∀ j, j < rsz s k → g2 j = s.2.1 53 (25 * k + j)) (h57 : s.1 57 = nI 1) (h58 : k < vI s 58) : CS X σ (N_B s k) h (N_B s (k + 1)) (kput (kput (kput h (σ 18 k) (kI (rsz (N_B s k) k) (va_cpy f2 f 0 0 (rsz (N_B s k) k)))) (σ 19 k) (kI (rsz (N_B s k) k) (va_cpy g2 g 0 0 (rsz (N_B s k) k)))) (σ 17 k) (rO ((N_B s k).2.1 11 k) ((N_B s k).2.1 12 k) ((N_B s k).2.1 13 k) ks kp ks kp (σ 15 (vA (N_B s k) 11 k)) (σ 18 k) (σ 19 k) (σ 20 k) (σ 21 k) (σ 22 k) (σ 23 k))) := by
  have e18 : vI (N_B s k) 18 = vI s 18 := congrArg Int32.toNatClampNeg (B_1 (by decide))
  have h25 := rz25 hV hk
  have hl : ∀ q i, clv (N_B s (k + 1)) q i ↔ clv (N_B s k) q i := clv_cg (fun j hj => (B_1 (by revert hj; revert j; decide)).trans (B_1 (by revert hj; revert j; decide)).symm)
  have c17 : clv (N_B s k) 17 k := show k < vI (N_B s k) 18 by rw [e18]; exact hk
  have c18 : clv (N_B s k) 18 k := show k < vI (N_B s k) 18 by rw [e18]; exact hk
  have c19 : clv (N_B s k) 19 k := show k < vI (N_B s k) 18 by rw [e18]; exact hk
  have eA : ∀ a, a ≠ 14 → a ≠ 15 → a ≠ 16 → a ≠ 17 → (N_B s (k + 1)).2.1 a = (N_B s k).2.1 a := fun a y1 y2 y3 y4 => (B_a y1 y2 y3 y4).trans (B_a y1 y2 y3 y4).symm
  have e11 : vA (N_B s (k + 1)) 11 k = vA (N_B s k) 11 k := congrArg (fun t => (t k).toNatClampNeg) (eA 11 (by decide) (by decide) (by decide) (by decide))
  refine CI.puts3 hI hl (k1 := 18) (i1 := k) (k2 := 19) (i2 := k) (k3 := 17) (i3 := k) c18 c19 c17 ⟨va_cpy f2 f 0 0 (rsz (N_B s k) k), by rw [B_rsz, B_rsz], fun j hj => ?_⟩ ⟨va_cpy g2 g 0 0 (rsz (N_B s k) k), by rw [B_rsz, B_rsz], fun j hj => ?_⟩ ⟨ks, kp, ?_, fun _ _ => ⟨?_, ?_⟩⟩ (fun q i e n1 n2 n3 hq hc => ?_)
  · rw [B_rsz] at hj
    rw [B_rsz, B_14, fillO_in (by omega) (by omega)]
    refine (if_pos (by omega)).trans ?_
    rw [show 0 + (j - 0) = j by omega]
    exact hf j hj
  · rw [B_rsz] at hj
    rw [B_rsz, B_15, fillO_in (by omega) (by omega)]
    refine (if_pos (by omega)).trans ?_
    rw [show 0 + (j - 0) = j by omega]
    exact hg j hj
  · rw [eA 11 (by decide) (by decide) (by decide) (by decide), eA 12 (by decide) (by decide) (by decide) (by decide), eA 13 (by decide) (by decide) (by decide) (by decide), e11, B_16, B_17, fillO_in (by omega) (by omega), fillO_in (by omega) (by omega)]
    rw [e1, e2]
    rfl
  · rw [B_a (by decide) (by decide) (by decide) (by decide)]; exact e1
  · rw [B_a (by decide) (by decide) (by decide) (by decide)]; exact e2
  · by_cases z1 : q = 17
    · subst z1
      obtain ⟨k1, k2, rfl, hr⟩ := hc
      have hik : i ≠ k := fun y => n3 ⟨rfl, y⟩
      refine ⟨k1, k2, ?_, fun y1 y2 => ?_⟩
      · have e11 : vA (N_B s (k + 1)) 11 i = vA (N_B s k) 11 i := congrArg (fun t => (t i).toNatClampNeg) (eA 11 (by decide) (by decide) (by decide) (by decide))
        rw [eA 11 (by decide) (by decide) (by decide) (by decide), eA 12 (by decide) (by decide) (by decide) (by decide), eA 13 (by decide) (by decide) (by decide) (by decide), e11, B_16, B_17, B_16, B_17, fl_ne (a := k) (b := k + 1) (by omega), fl_ne (a := k) (b := k + 1) (by omega)]
      · have hr := hr ((B_1 (by decide)).trans ((B_1 (by decide)).symm.trans y1)) (by
          have q1 : vI (N_B s (k + 1)) 58 = vI s 58 := congrArg Int32.toNatClampNeg (B_1 (by decide))
          have q2 : vI (N_B s k) 58 = vI s 58 := congrArg Int32.toNatClampNeg (B_1 (by decide))
          have y2 : i < vI (N_B s (k + 1)) 58 := y2
          rw [q1] at y2
          rw [q2]
          exact y2)
        rw [eA 54 (by decide) (by decide) (by decide) (by decide), eA 55 (by decide) (by decide) (by decide) (by decide)]
        exact hr
    · by_cases z2 : q = 18
      · subst z2
        obtain ⟨f0, rfl, hr⟩ := hc
        have hik : i ≠ k := fun y => n1 ⟨rfl, y⟩
        have hi18 : i < vI s 18 := by rw [← e18]; exact hq
        have hi25 := rz25 hV hi18
        refine ⟨f0, by rw [B_rsz, B_rsz], fun j hj => ?_⟩
        have hj : j < rsz (N_B s (k + 1)) i := hj
        rw [B_rsz] at hj
        have hr := hr j (by rw [B_rsz]; exact hj)
        rw [B_14] at hr
        rw [B_14, fl_ne (b := 25 * k) (by omega)]
        exact hr
      · by_cases z3 : q = 19
        · subst z3
          obtain ⟨f0, rfl, hr⟩ := hc
          have hik : i ≠ k := fun y => n2 ⟨rfl, y⟩
          have hi18 : i < vI s 18 := by rw [← e18]; exact hq
          have hi25 := rz25 hV hi18
          refine ⟨f0, by rw [B_rsz, B_rsz], fun j hj => ?_⟩
          have hj : j < rsz (N_B s (k + 1)) i := hj
          rw [B_rsz] at hj
          have hr := hr j (by rw [B_rsz]; exact hj)
          rw [B_15] at hr
          rw [B_15, fl_ne (b := 25 * k) (by omega)]
          exact hr
        · refine CP_cg (fun j hj => ?_) (fun a ha => eA a (fun y => nD_14 q z2 (y ▸ ha)) (fun y => nD_15 q z3 (y ▸ ha)) (fun y => nD_16 q z1 (y ▸ ha)) (fun y => nD_17 q z1 (y ▸ ha))) hc
          by_cases z4 : j = 4
          · rw [z4, B_4, B_4]
          · rw [B_1 z4, B_1 z4]
theorem bk3_s (k : Nat) : sa (N_bk3 s k) 27 (upd ((N_bk3 s k).2.1 27) k (s.2.1 56 k)) = N_bk3 s (k + 1) := by
  have e : (N_bk3 s k).2.1 27 = fillO (s.2.1 56) (s.2.1 27) 0 k := by unfold N_bk3; rw [sa_e]
  rw [e]
  unfold N_bk3
  rw [sa_sa]
  have e2 := fillO_s (f := s.2.1 56) (g := s.2.1 27) (off := 0) (i := k)
  rw [Nat.zero_add] at e2
  rw [e2]
theorem bk3_0 : N_bk3 s 0 = N_B s (vI s 58) := by
  unfold N_bk3
  rw [fillO_0]
  have e : (N_B s (vI s 58)).2.1 27 = s.2.1 27 := B_a (by decide) (by decide) (by decide) (by decide)
  rw [← e]
  exact sa_id (s := N_B s (vI s 58)) (k := 27)
theorem bk3_1 {k j : Nat} : (N_bk3 s k).1 j = (N_B s (vI s 58)).1 j := by unfold N_bk3; rw [sa_1]; rfl
theorem bk3_a {k j : Nat} (h : j ≠ 27) : (N_bk3 s k).2.1 j = (N_B s (vI s 58)).2.1 j := by unfold N_bk3; rw [sa_n h]; rfl
set_option maxRecDepth 4000 in
theorem f_cback (hI : CI X σ s h) (hV : MV s) : Fn X 3 0 0 yX11_back cX11_back 2 (some .int) [.ref (σ 0 0)] h (fun rv hv => rv = some (.int (R_back s).1) ∧ CE X σ s h (R_back s).2 hv) := by
  have b10 : vI s 10 ≤ 4 := hV.1.1.2
  have b18 : vI s 18 ≤ 16 := hV.2.1.1.2
  have b28 : vI s 28 ≤ 10 := hV.2.2.1.1.2
  have b31 : vI s 31 ≤ 6 := hV.2.2.2.1.1.2
  have b3 : vI s 3 ≤ 6 := hV.2.2.2.2.2.2.1.1.2
  refine fn_of (by decide) (Nat.le_of_ble_eq_true rfl) (fun M hM => ?_)
  refine a_aload_n (pc := 0) dX11_back_0 rfl rfl ?_
  refine a_getfield (pc := 1) kg_X11_61 dX11_back_1 (c_fc hI) rfl ?_
  refine a_iconst (pc := 4) dX11_back_4 ic_m1 ?_
  refine a_icmp_ne (pc := 5) (tgt := 11) dX11_back_5 (by decide) (fun c5 => ?_) (fun c5 => ?_)
  · have h0 : ¬ s.1 57 = 0 := fun z => c5 (by rw [if_pos z])
    have h571 : s.1 57 = nI 1 := (ok1 hV.2.2.2.2.1.1 h0).symm
    obtain ⟨⟨hn58, hb58⟩, ⟨hn59, hb59⟩, -⟩ := hV.2.2.2.2.1.2 h571
    have hb58 : vI s 58 ≤ vI s 18 := hb58
    have hb59 : vI s 59 ≤ vI s 28 := hb59
    refine a_aload_n (pc := 11) dX11_back_11 rfl rfl ?_
    refine a_aload_n (pc := 12) dX11_back_12 rfl rfl ?_
    refine a_getfield (pc := 13) kg_X11_264 dX11_back_13 (c_fc hI) rfl ?_
    refine a_topi (show _ = s.1 60 from rfl) ?_
    refine a_putfield (pc := 16) kf_X11_232 dX11_back_16 (c_fc hI) (rfl) (by rfl) (Nat.le_of_ble_eq_true rfl) ?_
    have j1 := st4 (v := s.1 60) hI
    refine a_iconst (pc := 19) dX11_back_19 ic_0 ?_
    refine a_istore_n (pc := 20) dX11_back_20 rfl (by decide) rfl ?_
    have lp2 : ∀ (d k : Nat) (hh : AH), (vI s 59) - k = d → k ≤ (vI s 59) → (CS X σ s h (N_bk3 s k) hh) → AJ X M yX11_back cX11_back 2 (some .int) 62 [(0, .ref (σ 0 0)), (1, .int (nI k))] [] hh 0 0 := by
      intro d
      induction d with
      | zero =>
        intro k hh hd hle hJ
        have e18 : vI (N_bk3 s k) 18 = vI s 18 := congrArg Int32.toNatClampNeg (bk3_1.trans (B_1 (by decide)))
        have e28 : vI (N_bk3 s k) 28 = vI s 28 := congrArg Int32.toNatClampNeg (bk3_1.trans (B_1 (by decide)))
        have e59 : vI (N_bk3 s k) 59 = vI s 59 := congrArg Int32.toNatClampNeg (bk3_1.trans (B_1 (by decide)))
        have v59 : (N_bk3 s k).1 59 = nI (vI s 59) := (bk3_1.trans (B_1 (by decide))).trans hn59
        refine a_iload_n (pc := 62) dX11_back_62 rfl rfl ?_
        refine a_aload_n (pc := 63) dX11_back_63 rfl rfl ?_
        refine a_getfield (pc := 64) kg_X11_261 dX11_back_64 (c_fc hJ.2.1) rfl ?_
        refine a_topi (show _ = nI (vI s 59) from v59) ?_
        refine a_icmp_geN (pc := 67) (tgt := 115) dX11_back_67 (by decide) (by omega) (by omega) (fun c67 => ?_) (fun c67 => ?_)
        · have hkn : k = vI s 59 := by omega
          subst hkn
          refine a_aload_n (pc := 115) dX11_back_115 rfl rfl ?_
          refine a_getfield (pc := 116) kg_X11_16 dX11_back_116 (c_fc hJ.2.1) rfl ?_
          refine a_callV (pc := 119) km_X11_97 dX11_back_119 (w_size hJ.2.1 (i := 1) (by decide)) rfl rfl (kr_l hJ.2.1 (i := 1) (by decide)) (rok_of hM (by decide) (by decide) (by omega) (by omega)) (Nat.le_of_ble_eq_true rfl) (fun r119 h119 hp119 => ?_)
          obtain ⟨rfl, rfl⟩ := And.intro hp119.1 hp119.2.symm
          refine a_topi (show _ = nI (vI s 18) from congrArg nI e18) ?_
          refine a_ret_i (pc := 122) hM rfl (rfl) dX11_back_122 (by omega) (by omega) ?_
          exact pubI (by unfold R_back; exact if_neg h0) rfl hJ.ce
        · exact absurd c67 (by omega)
      | succ d ih =>
        intro k hh hd hle hJ
        have e18 : vI (N_bk3 s k) 18 = vI s 18 := congrArg Int32.toNatClampNeg (bk3_1.trans (B_1 (by decide)))
        have e28 : vI (N_bk3 s k) 28 = vI s 28 := congrArg Int32.toNatClampNeg (bk3_1.trans (B_1 (by decide)))
        have e59 : vI (N_bk3 s k) 59 = vI s 59 := congrArg Int32.toNatClampNeg (bk3_1.trans (B_1 (by decide)))
        have v59 : (N_bk3 s k).1 59 = nI (vI s 59) := (bk3_1.trans (B_1 (by decide))).trans hn59
        refine a_iload_n (pc := 62) dX11_back_62 rfl rfl ?_
        refine a_aload_n (pc := 63) dX11_back_63 rfl rfl ?_
        refine a_getfield (pc := 64) kg_X11_261 dX11_back_64 (c_fc hJ.2.1) rfl ?_
        refine a_topi (show _ = nI (vI s 59) from v59) ?_
        refine a_icmp_geN (pc := 67) (tgt := 115) dX11_back_67 (by decide) (by omega) (by omega) (fun c67 => ?_) (fun c67 => ?_)
        · exact absurd c67 (by omega)
        · refine a_iload_n (pc := 70) dX11_back_70 rfl rfl ?_
          refine a_aload_n (pc := 71) dX11_back_71 rfl rfl ?_
          refine a_getfield (pc := 72) kg_X11_19 dX11_back_72 (c_fc hJ.2.1) rfl ?_
          refine a_callV (pc := 75) km_X11_97 dX11_back_75 (w_size hJ.2.1 (i := 2) (by decide)) rfl rfl (kr_l hJ.2.1 (i := 2) (by decide)) (rok_of hM (by decide) (by decide) (by omega) (by omega)) (Nat.le_of_ble_eq_true rfl) (fun r75 h75 hp75 => ?_)
          obtain ⟨rfl, rfl⟩ := And.intro hp75.1 hp75.2.symm
          refine a_topi (show _ = nI (vI s 28) from congrArg nI e28) ?_
          refine a_icmp_geN (pc := 78) (tgt := 115) dX11_back_78 (by decide) (by omega) (by omega) (fun c78 => ?_) (fun c78 => ?_)
          · exact absurd c78 (by omega)
          · obtain ⟨w0, hw0, hww⟩ := c_lk2 hJ.2.1 (k := k) (by rw [e28]; omega)
            have ew : bI w0 = s.2.1 56 k := (hww ((bk3_1.trans (B_1 (by decide))).trans h571) (by rw [e59]; omega)).trans (congrFun ((bk3_a (by decide)).trans (B_a (by decide) (by decide) (by decide) (by decide))) k)
            refine a_aload_n (pc := 81) dX11_back_81 rfl rfl ?_
            refine a_getfield (pc := 82) kg_X11_19 dX11_back_82 (c_fc hJ.2.1) rfl ?_
            refine a_iload_n (pc := 85) dX11_back_85 rfl rfl ?_
            refine a_callV (pc := 86) km_X11_109 dX11_back_86 (w_get hJ.2.1 (i := 2) (j := k) (by decide) (show k < vI s 28 from (by omega))) rfl rfl (kr_l hJ.2.1 (i := 2) (by decide)) (rok_of hM (by decide) (by decide) (by omega) (by omega)) (Nat.le_of_ble_eq_true rfl) (fun r86 h86 hp86 => ?_)
            obtain ⟨rfl, rfl⟩ := And.intro hp86.1 hp86.2.symm
            refine a_topr (show _ = σ 24 k from rfl) ?_
            refine a_castE (pc := 89) kl_X11_194 rfl (c_isL hJ.2.1 (show k < vI s 28 from (by omega))) dX11_back_89 ?_
            refine a_aload_n (pc := 92) dX11_back_92 rfl rfl ?_
            refine a_getfield (pc := 93) kg_X11_19 dX11_back_93 (c_fc hJ.2.1) rfl ?_
            refine a_iload_n (pc := 96) dX11_back_96 rfl rfl ?_
            refine a_callV (pc := 97) km_X11_109 dX11_back_97 (w_get hJ.2.1 (i := 2) (j := k) (by decide) (show k < vI s 28 from (by omega))) rfl rfl (kr_l hJ.2.1 (i := 2) (by decide)) (rok_of hM (by decide) (by decide) (by omega) (by omega)) (Nat.le_of_ble_eq_true rfl) (fun r97 h97 hp97 => ?_)
            obtain ⟨rfl, rfl⟩ := And.intro hp97.1 hp97.2.symm
            refine a_topr (show _ = σ 24 k from rfl) ?_
            refine a_castE (pc := 100) kl_X11_194 rfl (c_isL hJ.2.1 (show k < vI s 28 from (by omega))) dX11_back_100 ?_
            refine a_getfield (pc := 103) kg_X11_270 dX11_back_103 (hw0) rfl ?_
            refine a_putfield (pc := 106) kf_X11_199 dX11_back_106 (hw0) (narB w0) (fitB w0) (Nat.le_of_ble_eq_true rfl) ?_
            refine a_iincN (pc := 109) (n := 1) dX11_back_109 (by decide) rfl (by decide) rfl ?_
            refine a_goto (pc := 112) (tgt := 62) dX11_back_112 (by decide) ?_
            have hN := hJ.tr (st27 (v := bI w0) hJ.2.1 (show k < vI (N_bk3 s k) 28 by rw [e28]; omega) hww)
            rw [ew, bk3_s, ← ew] at hN
            exact a_locR (ih (k + 1) _ (by omega) (by omega) hN) ⟨rfl, rfl, trivial⟩
    have lp1 : ∀ (d k : Nat) (hh : AH), (vI s 58) - k = d → k ≤ (vI s 58) → (CS X σ s h (N_B s k) hh) → AJ X M yX11_back cX11_back 2 (some .int) 21 [(0, .ref (σ 0 0)), (1, .int (nI k))] [] hh 0 0 := by
      intro d
      induction d with
      | zero =>
        intro k hh hd hle hJ
        have e18 : vI (N_B s k) 18 = vI s 18 := congrArg Int32.toNatClampNeg (B_1 (by decide))
        have e58 : vI (N_B s k) 58 = vI s 58 := congrArg Int32.toNatClampNeg (B_1 (by decide))
        have v58 : (if (N_B s k).1 57 = 0 then (-1 : Int32) else (N_B s k).1 58) = nI (vI s 58) := by rw [B_1 (by decide), B_1 (by decide), h571]; exact (if_neg (by decide)).trans hn58
        refine a_iload_n (pc := 21) dX11_back_21 rfl rfl ?_
        refine a_aload_n (pc := 22) dX11_back_22 rfl rfl ?_
        refine a_getfield (pc := 23) kg_X11_61 dX11_back_23 (c_fc hJ.2.1) rfl ?_
        refine a_topi (show _ = nI (vI s 58) from v58) ?_
        refine a_icmp_geN (pc := 26) (tgt := 60) dX11_back_26 (by decide) (by omega) (by omega) (fun c26 => ?_) (fun c26 => ?_)
        · have hkn : k = vI s 58 := by omega
          subst hkn
          refine a_iconst (pc := 60) dX11_back_60 ic_0 ?_
          refine a_istore_n (pc := 61) dX11_back_61 rfl (by decide) rfl ?_
          exact a_locR (lp2 _ 0 _ rfl (Nat.zero_le _) (by rw [bk3_0]; exact hJ)) ⟨rfl, rfl, trivial⟩
        · exact absurd c26 (by omega)
      | succ d ih =>
        intro k hh hd hle hJ
        have e18 : vI (N_B s k) 18 = vI s 18 := congrArg Int32.toNatClampNeg (B_1 (by decide))
        have e58 : vI (N_B s k) 58 = vI s 58 := congrArg Int32.toNatClampNeg (B_1 (by decide))
        have v58 : (if (N_B s k).1 57 = 0 then (-1 : Int32) else (N_B s k).1 58) = nI (vI s 58) := by rw [B_1 (by decide), B_1 (by decide), h571]; exact (if_neg (by decide)).trans hn58
        refine a_iload_n (pc := 21) dX11_back_21 rfl rfl ?_
        refine a_aload_n (pc := 22) dX11_back_22 rfl rfl ?_
        refine a_getfield (pc := 23) kg_X11_61 dX11_back_23 (c_fc hJ.2.1) rfl ?_
        refine a_topi (show _ = nI (vI s 58) from v58) ?_
        refine a_icmp_geN (pc := 26) (tgt := 60) dX11_back_26 (by decide) (by omega) (by omega) (fun c26 => ?_) (fun c26 => ?_)
        · exact absurd c26 (by omega)
        · refine a_iload_n (pc := 29) dX11_back_29 rfl rfl ?_
          refine a_aload_n (pc := 30) dX11_back_30 rfl rfl ?_
          refine a_getfield (pc := 31) kg_X11_16 dX11_back_31 (c_fc hJ.2.1) rfl ?_
          refine a_callV (pc := 34) km_X11_97 dX11_back_34 (w_size hJ.2.1 (i := 1) (by decide)) rfl rfl (kr_l hJ.2.1 (i := 1) (by decide)) (rok_of hM (by decide) (by decide) (by omega) (by omega)) (Nat.le_of_ble_eq_true rfl) (fun r34 h34 hp34 => ?_)
          obtain ⟨rfl, rfl⟩ := And.intro hp34.1 hp34.2.symm
          refine a_topi (show _ = nI (vI s 18) from congrArg nI e18) ?_
          refine a_icmp_geN (pc := 37) (tgt := 60) dX11_back_37 (by decide) (by omega) (by omega) (fun c37 => ?_) (fun c37 => ?_)
          · exact absurd c37 (by omega)
          · have hk : k < vI s 18 := by omega
            have hk3 : k < vI (N_B s k) 18 := by rw [e18]; exact hk
            obtain ⟨ks, kp, f, g, h1, h2, h3, hf, hg, hkk⟩ := c_run2 hJ.2.1 hk3
            obtain ⟨x1, y1, f2, rfl, hf2⟩ := hJ.2.1.2 22 k hk3
            obtain ⟨x2, y2, g2, rfl, hg2⟩ := hJ.2.1.2 23 k hk3
            have h25 : rsz (N_B s k) k ≤ 25 := by rw [B_rsz]; exact rz25 hV hk
            have t57 : (N_B s k).1 57 = nI 1 := (B_1 (by decide)).trans h571
            have t58 : k < vI (N_B s k) 58 := by rw [e58]; omega
            have ne1 : σ 19 k ≠ σ 18 k := hJ.2.1.ne (show clv (N_B s k) 19 k from hk3) (show clv (N_B s k) 18 k from hk3) (by omega)
            have ne2 : σ 23 k ≠ σ 18 k := hJ.2.1.ne (show clv (N_B s k) 23 k from hk3) (show clv (N_B s k) 18 k from hk3) (by omega)
            refine a_aload_n (pc := 40) dX11_back_40 rfl rfl ?_
            refine a_getfield (pc := 41) kg_X11_16 dX11_back_41 (c_fc hJ.2.1) rfl ?_
            refine a_iload_n (pc := 44) dX11_back_44 rfl rfl ?_
            refine a_callV (pc := 45) km_X11_109 dX11_back_45 (w_get hJ.2.1 (i := 1) (j := k) (by decide) (show k < vI s 18 from (by omega))) rfl rfl (kr_l hJ.2.1 (i := 1) (by decide)) (rok_of hM (by decide) (by decide) (by omega) (by omega)) (Nat.le_of_ble_eq_true rfl) (fun r45 h45 hp45 => ?_)
            obtain ⟨rfl, rfl⟩ := And.intro hp45.1 hp45.2.symm
            refine a_topr (show _ = σ 17 k from rfl) ?_
            refine a_castE (pc := 48) kl_X11_107 rfl (c_isR hJ.2.1 (show k < vI s 18 from (by omega))) dX11_back_48 ?_
            refine a_callV (pc := 51) km_X11_273 dX11_back_51 (f_lay h1 h2 h3 h25 y1 y2 ne1 ne2) rfl rfl (kr_r hJ.2.1 hk3) (rok_of hM (by decide) (by decide) (by omega) (by omega)) (Nat.le_of_ble_eq_true rfl) (fun r51 h51 hp51 => ?_)
            obtain ⟨rfl, rfl⟩ := And.intro hp51.1 hp51.2.symm
            refine a_iincN (pc := 54) (n := 1) dX11_back_54 (by decide) rfl (by decide) rfl ?_
            refine a_goto (pc := 57) (tgt := 21) dX11_back_57 (by decide) ?_
            have q1 := (hkk t57 t58).1.trans (congrFun (B_a (by decide) (by decide) (by decide) (by decide)) k)
            have q2 := (hkk t57 t58).2.trans (congrFun (B_a (by decide) (by decide) (by decide) (by decide)) k)
            have q3 : ∀ j, j < rsz s k → f2 j = s.2.1 52 (25 * k + j) := fun j hj => (hf2 t57 t58 j (by rw [B_rsz]; exact hj)).trans (congrFun (B_a (by decide) (by decide) (by decide) (by decide)) _)
            have q4 : ∀ j, j < rsz s k → g2 j = s.2.1 53 (25 * k + j) := fun j hj => (hg2 t57 t58 j (by rw [B_rsz]; exact hj)).trans (congrFun (B_a (by decide) (by decide) (by decide) (by decide)) _)
            have hN := hJ.tr (st_bk (f := f) (g := g) hJ.2.1 hV hk q1 q2 q3 q4 h571 (by omega))
            exact a_locR (ih (k + 1) _ (by omega) (by omega) hN) ⟨rfl, rfl, trivial⟩
    exact a_locR (lp1 _ 0 _ rfl (Nat.zero_le _) (by rw [B_0]; exact j1)) ⟨rfl, rfl, trivial⟩
  · have h0 : s.1 57 = 0 := by
      rcases Decidable.em (s.1 57 = 0) with z | z
      · exact z
      · exfalso
        have y := (hV.2.2.2.2.1.2 ((ok1 hV.2.2.2.2.1.1 z).symm)).1
        have c5 : (if s.1 57 = 0 then (-1 : Int32) else s.1 58) = -1 := c5
        rw [if_neg z, y.1] at c5
        have hb := y.2
        rw [← Int32.toInt_inj, nI_toInt (by omega)] at c5
        have c5 : ((s.1 58).toNatClampNeg : Int) = -1 := c5
        omega
    refine a_bipush (pc := 8) dX11_back_8 ib_m3 ?_
    refine a_ret_i (pc := 10) hM rfl (rfl) dX11_back_10 (by omega) (by omega) ?_
    exact pubI (by unfold R_back; exact if_pos h0) rfl (CS.rf hI).ce

end CPH

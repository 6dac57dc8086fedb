/-! THE CLASS: A SCREEN MORE, A PACK MORE -/
section CPK
variable {X : KX} {h : AH} {s : MST} {σ : Nat → Nat → Nat}
section SCS
variable {a b : Int32}
theorem nsc_1 {j : Nat} (hj : j ≠ 31) : (N_screen s a b).1 j = s.1 j := si_n hj
theorem nsc_c : vI (N_screen s a b) 31 = (nI (vI s 31 + 1)).toNatClampNeg := congrArg Int32.toNatClampNeg si_e
theorem nsc_a {j : Nat} (h29 : j ≠ 29) (h30 : j ≠ 30) : (N_screen s a b).2.1 j = s.2.1 j := by unfold N_screen; rw [si_2, sa_n h30, sa_n h29]
theorem nsc_29 : (N_screen s a b).2.1 29 = upd (s.2.1 29) (vI s 31) a := by unfold N_screen; rw [si_2, sa_n (by decide), sa_e]
theorem nsc_30 : (N_screen s a b).2.1 30 = upd (s.2.1 30) (vI s 31) b := by unfold N_screen; rw [si_2, sa_e]
theorem SQ_nsc : SQ s (N_screen s a b) := by
  refine ⟨fun j hj => nsc_1 (by revert hj; revert j; decide), fun q hq => nsc_a (by revert hq; revert q; decide) (by revert hq; revert q; decide), fun i hi => ⟨?_, fun j hj => ?_⟩, fun i hi => ⟨fun q hq => ?_, ?_, fun j hj => ?_⟩, fun i hi q hq => ?_, fun i hi => ?_, fun i hi => ?_⟩
  · rw [nsc_a (by decide) (by decide)]
  · rw [nsc_a (by decide) (by decide)]
  · rw [nsc_a (by revert hq; revert q; decide) (by revert hq; revert q; decide)]
  · exact rsz_cg (nsc_a (by decide) (by decide)) (nsc_a (by decide) (by decide)) i
  · rw [nsc_a (by decide) (by decide), nsc_a (by decide) (by decide)]
    exact ⟨rfl, rfl⟩
  · rw [nsc_a (by revert hq; revert q; decide) (by revert hq; revert q; decide)]
  · have hin : i ≠ vI s 31 := by omega
    rw [nsc_29, nsc_30, pk_un hin, pk_un hin]
    exact ⟨rfl, rfl⟩
  · exact txE_cg (nsc_a (by decide) (by decide)) (nsc_a (by decide) (by decide)) i
theorem app_screen {e2 cap2 x : Nat} {F2 : Nat → Option Nat} {md2 : Int32} (hI : CI X σ s h) (hV : MV s) (hx : h x = none) (h6 : vI s 31 < 6) (he : (0 < lsz s 3 ∧ e2 = σ 30 3) ∨ (kput h x (kO 6 [.int a, .int b])) e2 = none) (hc2 : cap2 = 10 ∨ cap2 = 15 ∨ cap2 = 22) (hn2 : lsz s 3 + 1 ≤ cap2) (hF1 : ∀ i, i < lsz s 3 → F2 i = some (σ (lek 3) i)) (hF2 : F2 (lsz s 3) = some x) : CE X σ s h (N_screen s a b) (kput (kput (kput h x (kO 6 [.int a, .int b])) e2 (kQ 2 cap2 F2)) (σ 1 3) (kO 13 [.int md2, .ref e2, .int (nI (lsz s 3 + 1))])) := by
  have e31 : vI (N_screen s a b) 31 = vI s 31 + 1 := nsc_c.trans (nI_clamp (by omega))
  refine CI.app (A := fun _ => x) hI (MV.pk hV) (CI.new hI hx).2.1 (fun q hq => kput_ne (fun z => hq (by rw [z]; exact hx))) SQ_nsc (by decide) (show lsz (N_screen s a b) 3 = lsz s 3 + 1 from e31) (fun i hi h5 => ?_) (fun k hk => ⟨hx, _, kput_eq, ?_⟩) (fun k k' hk hk' _ => ?_) he hc2 hn2 hF1 hF2
  · rcases (by omega : i = 0 ∨ i = 1 ∨ i = 2 ∨ i = 4) with rfl | rfl | rfl | rfl
    · exact congrArg Int32.toNatClampNeg (nsc_1 (by decide))
    · exact congrArg Int32.toNatClampNeg (nsc_1 (by decide))
    · exact congrArg Int32.toNatClampNeg (nsc_1 (by decide))
    · exact congrArg Int32.toNatClampNeg (nsc_1 (by decide))
  · have hk : k = 25 := lof_3 hk
    subst hk
    show _ = kO 6 [.int ((N_screen s a b).2.1 29 (vI s 31)), .int ((N_screen s a b).2.1 30 (vI s 31))]
    rw [nsc_29, nsc_30, pk_us, pk_us]
  · rw [lof_3 hk, lof_3 hk']
end SCS
set_option maxRecDepth 4000 in
theorem f_cscreen (hI : CI X σ s h) (hV : MV s) (x y : Int32) : Fn X 7 2 60 yX11_screen cX11_screen 3 (some .int) [.ref (σ 0 0), .int x, .int y] h (fun rv hv => rv = some (.int (R_screen s x y).1) ∧ CE X σ s h (R_screen s x y).2 hv) := by
  have b10 : vI s 10 ≤ 4 := hV.1.1.2
  have b18 : vI s 18 ≤ 16 := hV.2.1.1.2
  have b28 : vI s 28 ≤ 10 := hV.2.2.1.1.2
  have b31 : vI s 31 ≤ 6 := hV.2.2.2.1.1.2
  have b3 : vI s 3 ≤ 6 := hV.2.2.2.2.2.2.1.1.2
  refine fn_of (by decide) (Nat.le_of_ble_eq_true rfl) (fun M hM => ?_)
  refine a_iload_n (pc := 0) dX11_screen_0 rfl rfl ?_
  refine a_iconst (pc := 1) dX11_screen_1 ic_1 ?_
  refine a_bipush (pc := 2) dX11_screen_2 ib_50 ?_
  refine a_callS (pc := 4) km_X11_86 dX11_screen_4 (f_withN x (by decide) (by decide)) rfl rfl (rok_of hM (by decide) (by decide) (by omega) (by omega)) (Nat.le_of_ble_eq_true rfl) (fun r4 h4 hp4 => ?_)
  obtain ⟨rfl, rfl⟩ := And.intro hp4.1 hp4.2.symm
  refine a_if_eqB (pc := 7) (tgt := 19) dX11_screen_7 (by decide) (fun c7 => ?_) (fun c7 => ?_)
  · have e : R_screen s x y = (-2, s) := by unfold R_screen; rw [c7]; rfl
    refine a_bipush (pc := 19) dX11_screen_19 ib_m2 ?_
    refine a_ret_i (pc := 21) hM rfl (rfl) dX11_screen_21 (by omega) (by omega) ?_
    exact pubI e rfl (CS.rf hI).ce
  · refine a_iload_n (pc := 10) dX11_screen_10 rfl rfl ?_
    refine a_bipush (pc := 11) dX11_screen_11 ib_6 ?_
    refine a_callS (pc := 13) km_X11_209 dX11_screen_13 (f_isBits y (by decide)) rfl rfl (rok_of hM (by decide) (by decide) (by omega) (by omega)) (Nat.le_of_ble_eq_true rfl) (fun r13 h13 hp13 => ?_)
    obtain ⟨rfl, rfl⟩ := And.intro hp13.1 hp13.2.symm
    refine a_if_neB (pc := 16) (tgt := 22) dX11_screen_16 (by decide) (fun c16 => ?_) (fun c16 => ?_)
    · have c16 : inN y 64 = true := c16
      have e : R_screen s x y = (nI (vI s 31), N_screen s x y) ∨ vI s 31 = 6 := by unfold R_screen; rw [c7, c16]; exact (Decidable.em (vI s 31 = 6)).elim Or.inr (fun q => Or.inl ((if_pos rfl).trans (if_neg q)))
      refine a_aload_n (pc := 22) dX11_screen_22 rfl rfl ?_
      refine a_getfield (pc := 23) kg_X11_22 dX11_screen_23 (c_fc hI) rfl ?_
      refine a_callV (pc := 26) km_X11_97 dX11_screen_26 (w_size hI (i := 3) (by decide)) rfl rfl (kr_l hI (i := 3) (by decide)) (rok_of hM (by decide) (by decide) (by omega) (by omega)) (Nat.le_of_ble_eq_true rfl) (fun r26 h26 hp26 => ?_)
      obtain ⟨rfl, rfl⟩ := And.intro hp26.1 hp26.2.symm
      refine a_topi (show _ = nI (vI s 31) from rfl) ?_
      refine a_bipush (pc := 29) dX11_screen_29 ib_6 ?_
      refine a_icmp_ltN (pc := 31) (tgt := 37) dX11_screen_31 (by decide) (by omega) (by omega) (fun c31 => ?_) (fun c31 => ?_)
      · have h6 : vI s 31 < 6 := c31
        refine a_aload_n (pc := 37) dX11_screen_37 rfl rfl ?_
        refine a_getfield (pc := 38) kg_X11_22 dX11_screen_38 (c_fc hI) rfl ?_
        refine a_new (pc := 41) kn_X11_212 dX11_screen_41 (by rw [hM.1]; simp only [rmd]; omega) (by rw [hM.1]; simp only [rmd]; omega) (fun x0 hx0 => ?_)
        refine a_dup (pc := 44) dX11_screen_44 rfl ?_
        refine a_iload_n (pc := 45) dX11_screen_45 rfl rfl ?_
        refine a_iload_n (pc := 46) dX11_screen_46 rfl rfl ?_
        refine a_callI (pc := 47) km_X11_214 dX11_screen_47 (f_scInit kput_eq x y) rfl rfl (rok_of hM (by decide) (by decide) (by omega) (by omega)) (Nat.le_of_ble_eq_true rfl) (fun r47 h47 hp47 => ?_)
        obtain ⟨rfl, rfl⟩ := And.intro hp47.1 hp47.2.symm
        refine a_hp kput_put ?_
        refine a_callV (pc := 50) km_X11_100 dX11_screen_50 (f_app (CI.new hI hx0).2.1 (i0 := 3) (by decide) ⟨6, _, _, rfl, kput_eq⟩ (show vI s 31 ≤ 15 by omega)) rfl rfl (kr_l (CI.new hI hx0).2.1 (i := 3) (by decide)) (rok_of hM (by decide) (by decide) (by omega) (by omega)) (Nat.le_of_ble_eq_true rfl) (fun r50 h50 hp50 => ?_)
        obtain ⟨rfl, md2, e2, cap2, F2, hee, rfl, hc2, hn2, hF1, hF2⟩ := hp50
        have hE := app_screen (md2 := md2) (a := x) (b := y) hI hV hx0 h6 hee hc2 hn2 hF1 hF2
        obtain ⟨σ', z0, hI', hF'⟩ := hE
        have e31 : vI (N_screen s x y) 31 = vI s 31 + 1 := nsc_c.trans (nI_clamp (by omega))
        have fc' := c_fc hI'
        rw [z0 0 0 (by decide)] at fc'
        refine a_pop (pc := 53) dX11_screen_53 rfl ?_
        refine a_aload_n (pc := 54) dX11_screen_54 rfl rfl ?_
        refine a_getfield (pc := 55) kg_X11_22 dX11_screen_55 (fc') rfl ?_
        refine a_callV (pc := 58) km_X11_97 dX11_screen_58 (w_size hI' (i := 3) (by decide)) rfl rfl (kr_l hI' (i := 3) (by decide)) (rok_of hM (by decide) (by decide) (by omega) (by omega)) (Nat.le_of_ble_eq_true rfl) (fun r58 h58 hp58 => ?_)
        obtain ⟨rfl, rfl⟩ := And.intro hp58.1 hp58.2.symm
        refine a_topi (show _ = nI (vI s 31 + 1) from congrArg nI e31) ?_
        refine a_iconst (pc := 61) dX11_screen_61 ic_1 ?_
        refine a_isubN (pc := 62) dX11_screen_62 (by omega) ?_
        refine a_ret_i (pc := 63) hM rfl (rfl) dX11_screen_63 (by omega) (by omega) ?_
        exact pubI (e.resolve_right (by omega)) rfl ⟨σ', z0, hI', hF'⟩
      · have h6 : vI s 31 = 6 := by omega
        have e2 : R_screen s x y = (-4, s) := by unfold R_screen; rw [c7, c16]; exact (if_pos rfl).trans (if_pos h6)
        refine a_bipush (pc := 34) dX11_screen_34 ib_m4 ?_
        refine a_ret_i (pc := 36) hM rfl (rfl) dX11_screen_36 (by omega) (by omega) ?_
        exact pubI e2 rfl (CS.rf hI).ce
    · have c16 : inN y 64 = false := c16
      have e : R_screen s x y = (-2, s) := by unfold R_screen; rw [c7, c16]; rfl
      refine a_bipush (pc := 19) dX11_screen_19 ib_m2 ?_
      refine a_ret_i (pc := 21) hM rfl (rfl) dX11_screen_21 (by omega) (by omega) ?_
      exact pubI e rfl (CS.rf hI).ce

section PKS
variable {c : Nat}
theorem npk_1 {j : Nat} (hj : j ≠ 10) : (N_pack s c).1 j = s.1 j := si_n hj
theorem npk_c : vI (N_pack s c) 10 = (nI (vI s 10 + 1)).toNatClampNeg := congrArg Int32.toNatClampNeg si_e
theorem npk_a {j : Nat} (h8 : j ≠ 8) (h9 : j ≠ 9) : (N_pack s c).2.1 j = s.2.1 j := by unfold N_pack; rw [si_2, sa_n h9, sa_n h8]
theorem npk_8 : (N_pack s c).2.1 8 = packF (s.2.1 8) (5 * vI s 10) c := by unfold N_pack; rw [si_2, sa_n (by decide), sa_e]
theorem npk_9 : (N_pack s c).2.1 9 = upd (s.2.1 9) (vI s 10) (nI (dsum c)) := by unfold N_pack; rw [si_2, sa_e]
theorem packF_o {F : Nat → Int32} {o c j : Nat} (h : j < o ∨ o + 5 ≤ j) : packF F o c j = F j := by
  unfold packF
  rw [pk_un (by omega), pk_un (by omega), pk_un (by omega), pk_un (by omega), pk_un (by omega)]
theorem packF_i {F G : Nat → Int32} {o c j : Nat} (h : j < 5) : packF F 0 c j = packF G o c (o + j) := by
  unfold packF
  rcases (by omega : j = 0 ∨ j = 1 ∨ j = 2 ∨ j = 3 ∨ j = 4) with rfl | rfl | rfl | rfl | rfl
  · rw [pk_us, pk_us]
  · rw [pk_un (by omega), pk_us, pk_un (by omega), pk_us]
  · rw [pk_un (by omega), pk_un (by omega), pk_us, pk_un (by omega), pk_un (by omega), pk_us]
  · rw [pk_un (by omega), pk_un (by omega), pk_un (by omega), pk_us, pk_un (by omega), pk_un (by omega), pk_un (by omega), pk_us]
  · rw [pk_un (by omega), pk_un (by omega), pk_un (by omega), pk_un (by omega), pk_us, pk_un (by omega), pk_un (by omega), pk_un (by omega), pk_un (by omega), pk_us]
theorem SQ_npk (hV : MV s) : SQ s (N_pack s c) := by
  refine ⟨fun j hj => npk_1 (by revert hj; revert j; decide), fun q hq => npk_a (by revert hq; revert q; decide) (by revert hq; revert q; decide), fun i hi => ⟨?_, fun j hj => ?_⟩, fun i hi => ⟨fun q hq => ?_, ?_, fun j hj => ?_⟩, fun i hi q hq => ?_, fun i hi => ?_, fun i hi => ?_⟩
  · rw [npk_9, pk_un (show i ≠ vI s 10 by omega)]
  · rw [npk_8, packF_o (by omega)]
  · rw [npk_a (by revert hq; revert q; decide) (by revert hq; revert q; decide)]
  · have hm : (s.2.1 11 i).toNatClampNeg < vI s 10 := (hV.2.1.2 i hi).1.2
    show ((N_pack s c).2.1 9 ((N_pack s c).2.1 11 i).toNatClampNeg).toNatClampNeg = (s.2.1 9 (s.2.1 11 i).toNatClampNeg).toNatClampNeg
    rw [npk_a (j := 11) (by decide) (by decide), npk_9, pk_un (show (s.2.1 11 i).toNatClampNeg ≠ vI s 10 by omega)]
  · rw [npk_a (by decide) (by decide), npk_a (by decide) (by decide)]
    exact ⟨rfl, rfl⟩
  · rw [npk_a (by revert hq; revert q; decide) (by revert hq; revert q; decide)]
  · rw [npk_a (by decide) (by decide), npk_a (by decide) (by decide)]
    exact ⟨rfl, rfl⟩
  · exact txE_cg (npk_a (by decide) (by decide)) (npk_a (by decide) (by decide)) i
theorem inR_nI {j a b : Nat} (hj : j < 2147483648) : inR (nI j) a b = (decide (a ≤ j) && decide (j ≤ b)) := by
  unfold inR
  rw [nI_toInt hj]
  congr 1
  · exact decide_eq_decide.mpr Int.ofNat_le
  · exact decide_eq_decide.mpr Int.ofNat_le
theorem new2 (hI : CI X σ s h) {q x : Nat} {e1 e2 : kE} (hx : h x = none) (hq : h q = none) (hqx : q ≠ x) : CS X σ s h s (kput (kput h q e1) x e2) := by
  have j1 := CI.new (e := e1) hI hq
  exact j1.tr (CI.new j1.2.1 ((kput_ne (Ne.symm hqx)).trans hx))
theorem app_pack {e2 cap2 x q : Nat} {F2 : Nat → Option Nat} {md2 : Int32} (hI : CI X σ s h) (hV : MV s) (hx : h x = none) (hq : h q = none) (hqx : q ≠ x) (h4 : vI s 10 < 4) (he : (0 < lsz s 0 ∧ e2 = σ 30 0) ∨ (kput (kput h q (kI 5 (packF (fun _ => 0) 0 c))) x (kO 3 [.ref q, .int (nI (dsum c))])) e2 = none) (hc2 : cap2 = 10 ∨ cap2 = 15 ∨ cap2 = 22) (hn2 : lsz s 0 + 1 ≤ cap2) (hF1 : ∀ i, i < lsz s 0 → F2 i = some (σ (lek 0) i)) (hF2 : F2 (lsz s 0) = some x) : CE X σ s h (N_pack s c) (kput (kput (kput (kput h q (kI 5 (packF (fun _ => 0) 0 c))) x (kO 3 [.ref q, .int (nI (dsum c))])) e2 (kQ 2 cap2 F2)) (σ 1 0) (kO 13 [.int md2, .ref e2, .int (nI (lsz s 0 + 1))])) := by
  have e10 : vI (N_pack s c) 10 = vI s 10 + 1 := npk_c.trans (nI_clamp (by omega))
  refine CI.app (A := fun k => if k = 15 then x else q) hI (MV.pk hV) (new2 hI hx hq hqx).2.1 (fun y hy => (kput_ne (fun z => hy (by rw [z]; exact hx))).trans (kput_ne (fun z => hy (by rw [z]; exact hq)))) (SQ_npk hV) (by decide) (show lsz (N_pack s c) 0 = lsz s 0 + 1 from e10) (fun i hi h5 => ?_) (fun k hk => ?_) (fun k k' hk hk' hz => ?_) he hc2 hn2 hF1 hF2
  · rcases (by omega : i = 1 ∨ i = 2 ∨ i = 3 ∨ i = 4) with rfl | rfl | rfl | rfl
    · exact congrArg Int32.toNatClampNeg (npk_1 (by decide))
    · exact congrArg Int32.toNatClampNeg (npk_1 (by decide))
    · exact congrArg Int32.toNatClampNeg (npk_1 (by decide))
    · exact congrArg Int32.toNatClampNeg (npk_1 (by decide))
  · have hk16 : lof 16 = 0 := rfl
    rcases lof_0 hk with rfl | rfl
    · refine ⟨hx, _, kput_eq, ?_⟩
      show _ = kO 3 [.ref (gro σ 0 (lsz s 0) e2 (fun k => if k = 15 then x else q) 16 (lsz s 0)), .int ((N_pack s c).2.1 9 (vI s 10))]
      rw [gro_n hk16 (by decide), npk_9, pk_us]
      rfl
    · refine ⟨hq, _, (kput_ne hqx).trans kput_eq, packF (fun _ => 0) 0 c, rfl, fun j hj => ?_⟩
      show _ = (N_pack s c).2.1 8 (5 * vI s 10 + j)
      rw [npk_8]
      exact packF_i hj
  · rcases lof_0 hk with rfl | rfl <;> rcases lof_0 hk' with rfl | rfl
    · rfl
    · exact absurd hz.symm hqx
    · exact absurd hz hqx
    · rfl
theorem R_pk0 {x : Int32} (h : inR x 0 99999 = false) : R_pack s x = (-2, s) := by
  have h1 : inR x 1 99999 = false := by
    cases q : inR x 1 99999 with
    | false => rfl
    | true =>
      obtain ⟨j, h1, h2, rfl⟩ := inR1_of q
      rw [inR_N, inN_nI (by omega), decide_eq_true (show j < 99999 + 1 by omega)] at h
      exact absurd h (by decide)
  unfold R_pack
  rw [h1]
  rfl
theorem R_pk1 {c : Nat} (hc : c < 100000) (h : inR (nI (dsum c)) 1 25 = false) : R_pack s (nI c) = (-2, s) := by
  have ec : (nI c).toNatClampNeg = c := nI_clamp (by omega)
  unfold R_pack
  rw [ec]
  by_cases q : dsum c ≤ 25
  · have hd : dsum c = 0 := by
      refine Decidable.byContradiction (fun z => ?_)
      rw [inR_nI (by omega)] at h
      exact absurd h (by rw [decide_eq_true (show 1 ≤ dsum c by omega), decide_eq_true q]; decide)
    have hc0 : c = 0 := by unfold dsum at hd; omega
    subst hc0
    rfl
  · rw [if_neg q]
    exact ite_self _
theorem R_pk2 {c : Nat} (hc : c < 100000) (h1 : 1 ≤ dsum c) (h2 : dsum c ≤ 25) : R_pack s (nI c) = if vI s 10 = 4 then (-4, s) else (nI (vI s 10), N_pack s c) := by
  have ec : (nI c).toNatClampNeg = c := nI_clamp (by omega)
  have hc1 : 1 ≤ c := by
    refine Decidable.byContradiction (fun z => ?_)
    have : c = 0 := by omega
    subst this
    exact absurd h1 (by decide)
  unfold R_pack
  rw [ec, inR_nI (by omega), decide_eq_true hc1, decide_eq_true (show c ≤ 99999 by omega), if_pos h2]
  rfl
end PKS
set_option maxRecDepth 4000 in
theorem f_cpack (hI : CI X σ s h) (hV : MV s) (x : Int32) : Fn X 7 3 60 yX11_pack cX11_pack 3 (some .int) [.ref (σ 0 0), .int x] h (fun rv hv => rv = some (.int (R_pack s x).1) ∧ CE X σ s h (R_pack s x).2 hv) := by
  have b10 : vI s 10 ≤ 4 := hV.1.1.2
  have b18 : vI s 18 ≤ 16 := hV.2.1.1.2
  have b28 : vI s 28 ≤ 10 := hV.2.2.1.1.2
  have b31 : vI s 31 ≤ 6 := hV.2.2.2.1.1.2
  have b3 : vI s 3 ≤ 6 := hV.2.2.2.2.2.2.1.1.2
  refine fn_of (by decide) (Nat.le_of_ble_eq_true rfl) (fun M hM => ?_)
  refine a_iload_n (pc := 0) dX11_pack_0 rfl rfl ?_
  refine a_iconst (pc := 1) dX11_pack_1 ic_0 ?_
  refine a_ldc (pc := 2) kc_X11_85 dX11_pack_2 ?_
  refine a_topi (show _ = nI 99999 from by decide) ?_
  refine a_callS (pc := 4) km_X11_86 dX11_pack_4 (f_withN x (by decide) (by decide)) rfl rfl (rok_of hM (by decide) (by decide) (by omega) (by omega)) (Nat.le_of_ble_eq_true rfl) (fun r4 h4 hp4 => ?_)
  obtain ⟨rfl, rfl⟩ := And.intro hp4.1 hp4.2.symm
  refine a_if_neB (pc := 7) (tgt := 13) dX11_pack_7 (by decide) (fun c7 => ?_) (fun c7 => ?_)
  · rw [inR_N] at c7
    obtain ⟨c, hc, rfl⟩ := inN_of c7 (by decide)
    refine a_new (pc := 13) kn_X11_90 dX11_pack_13 (by rw [hM.1]; simp only [rmd]; omega) (by rw [hM.1]; simp only [rmd]; omega) (fun x0 hx0 => ?_)
    refine a_dup (pc := 16) dX11_pack_16 rfl ?_
    refine a_iload_n (pc := 17) dX11_pack_17 rfl rfl ?_
    refine a_callI (pc := 18) km_X11_92 dX11_pack_18 (f_paInit kput_eq hc) rfl rfl (rok_of hM (by decide) (by decide) (by omega) (by omega)) (Nat.le_of_ble_eq_true rfl) (fun r18 h18 hp18 => ?_)
    obtain ⟨rfl, q, hq, rfl⟩ := hp18
    have mq := kput_none hq
    have j2 := fun e1 e2 => new2 (e1 := e1) (e2 := e2) hI hx0 mq.2 mq.1
    refine a_hp (kput_fin2 mq.1) ?_
    refine a_astore_n (pc := 21) dX11_pack_21 rfl (by decide) rfl ?_
    refine a_aload_n (pc := 22) dX11_pack_22 rfl rfl ?_
    refine a_getfield (pc := 23) kg_X11_94 dX11_pack_23 (kput_eq) rfl ?_
    refine a_topi (show nI (dsum c) = nI (dsum c) from rfl) ?_
    refine a_iconst (pc := 26) dX11_pack_26 ic_1 ?_
    refine a_bipush (pc := 27) dX11_pack_27 ib_25 ?_
    refine a_callS (pc := 29) km_X11_86 dX11_pack_29 (f_withN (nI (dsum c)) (by decide) (by decide)) rfl rfl (rok_of hM (by decide) (by decide) (by omega) (by omega)) (Nat.le_of_ble_eq_true rfl) (fun r29 h29 hp29 => ?_)
    obtain ⟨rfl, rfl⟩ := And.intro hp29.1 hp29.2.symm
    refine a_if_neB (pc := 32) (tgt := 38) dX11_pack_32 (by decide) (fun c32 => ?_) (fun c32 => ?_)
    · obtain ⟨d, hd1, hd2, hd3⟩ := inR1_of c32
      have hd45 : dsum c ≤ 45 := by unfold dsum; omega
      have hd4 : dsum c = d := nI_inj (by omega) (by omega) hd3
      have hR := R_pk2 (s := s) hc (by omega) (by omega)
      refine a_aload_n (pc := 38) dX11_pack_38 rfl rfl ?_
      refine a_getfield (pc := 39) kg_X11_10 dX11_pack_39 (c_fc (j2 _ _).2.1) rfl ?_
      refine a_callV (pc := 42) km_X11_97 dX11_pack_42 (w_size (j2 _ _).2.1 (i := 0) (by decide)) rfl rfl (kr_l (j2 _ _).2.1 (i := 0) (by decide)) (rok_of hM (by decide) (by decide) (by omega) (by omega)) (Nat.le_of_ble_eq_true rfl) (fun r42 h42 hp42 => ?_)
      obtain ⟨rfl, rfl⟩ := And.intro hp42.1 hp42.2.symm
      refine a_topi (show _ = nI (vI s 10) from rfl) ?_
      refine a_iconst (pc := 45) dX11_pack_45 ic_4 ?_
      refine a_icmp_ltN (pc := 46) (tgt := 52) dX11_pack_46 (by decide) (by omega) (by omega) (fun c46 => ?_) (fun c46 => ?_)
      · have h4 : vI s 10 < 4 := c46
        rw [if_neg (show ¬ vI s 10 = 4 by omega)] at hR
        refine a_aload_n (pc := 52) dX11_pack_52 rfl rfl ?_
        refine a_getfield (pc := 53) kg_X11_10 dX11_pack_53 (c_fc (j2 _ _).2.1) rfl ?_
        refine a_aload_n (pc := 56) dX11_pack_56 rfl rfl ?_
        refine a_callV (pc := 57) km_X11_100 dX11_pack_57 (f_app (j2 _ _).2.1 (i0 := 0) (by decide) ⟨3, _, _, rfl, kput_eq⟩ (show vI s 10 ≤ 15 by omega)) rfl rfl (kr_l (j2 _ _).2.1 (i := 0) (by decide)) (rok_of hM (by decide) (by decide) (by omega) (by omega)) (Nat.le_of_ble_eq_true rfl) (fun r57 h57 hp57 => ?_)
        obtain ⟨rfl, md2, e2, cap2, F2, hee, rfl, hc2, hn2, hF1, hF2⟩ := hp57
        have hE := app_pack (md2 := md2) (c := c) hI hV hx0 mq.2 mq.1 h4 hee hc2 hn2 hF1 hF2
        obtain ⟨σ', z0, hI', hF'⟩ := hE
        have e10 : vI (N_pack s c) 10 = vI s 10 + 1 := npk_c.trans (nI_clamp (by omega))
        have fc' := c_fc hI'
        rw [z0 0 0 (by decide)] at fc'
        refine a_pop (pc := 60) dX11_pack_60 rfl ?_
        refine a_aload_n (pc := 61) dX11_pack_61 rfl rfl ?_
        refine a_getfield (pc := 62) kg_X11_10 dX11_pack_62 (fc') rfl ?_
        refine a_callV (pc := 65) km_X11_97 dX11_pack_65 (w_size hI' (i := 0) (by decide)) rfl rfl (kr_l hI' (i := 0) (by decide)) (rok_of hM (by decide) (by decide) (by omega) (by omega)) (Nat.le_of_ble_eq_true rfl) (fun r65 h65 hp65 => ?_)
        obtain ⟨rfl, rfl⟩ := And.intro hp65.1 hp65.2.symm
        refine a_topi (show _ = nI (vI s 10 + 1) from congrArg nI e10) ?_
        refine a_iconst (pc := 68) dX11_pack_68 ic_1 ?_
        refine a_isubN (pc := 69) dX11_pack_69 (by omega) ?_
        refine a_ret_i (pc := 70) hM rfl (rfl) dX11_pack_70 (by omega) (by omega) ?_
        exact pubI hR rfl ⟨σ', z0, hI', hF'⟩
      · rw [if_pos (show vI s 10 = 4 by omega)] at hR
        refine a_bipush (pc := 49) dX11_pack_49 ib_m4 ?_
        refine a_ret_i (pc := 51) hM rfl (rfl) dX11_pack_51 (by omega) (by omega) ?_
        exact pubI hR rfl (j2 _ _).ce
    · refine a_bipush (pc := 35) dX11_pack_35 ib_m2 ?_
      refine a_ret_i (pc := 37) hM rfl (rfl) dX11_pack_37 (by omega) (by omega) ?_
      exact pubI (R_pk1 hc c32) rfl (j2 _ _).ce
  · refine a_bipush (pc := 10) dX11_pack_10 ib_m2 ?_
    refine a_ret_i (pc := 12) hM rfl (rfl) dX11_pack_12 (by omega) (by omega) ?_
    exact pubI (R_pk0 c7) rfl (CS.rf hI).ce

end CPK

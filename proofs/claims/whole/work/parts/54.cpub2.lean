/-! THE CLASS: RULES, WHAT IS TOLD, EXACT, MIXED -/
section CPB
variable {X : KX} {h : AH} {s : MST} {σ : Nat → Nat → Nat}
theorem c_od (hI : CI X σ s h) : h (σ 12 0) = some (kO 2 [.ref (σ 13 0)]) := by
  obtain ⟨e, he, hc⟩ := hI.2 12 0 Nat.zero_lt_one
  exact he.trans (congrArg some hc)
theorem c_text (hI : CI X σ s h) {t : Nat} (ht : t < vI s 3) : ∃ (f g S : Nat → Int32), h (σ 26 t) = some (kO 9 [.ref (σ 27 t), .ref (σ 28 t), .ref (σ 29 t)]) ∧ h (σ 27 t) = some (kI (tx3 s t) f) ∧ h (σ 28 t) = some (kI 3 g) ∧ h (σ 29 t) = some (kI (tx3 s t) S) ∧ tx3 s t ≤ 160 ∧ cod f 0 (txE s t).1.1.1 ∧ cod f (tx1 s t) (txE s t).2.1.1.1 ∧ cod f (tx2 s t) (txE s t).2.2.1.1 ∧ g 0 = nI (tx1 s t) ∧ g 1 = nI (tx2 s t) ∧ g 2 = nI (tx3 s t) := by
  obtain ⟨e, he, hc⟩ := hI.2 26 t ht
  obtain ⟨e1, he1, f, rfl, h160, c1, c2, c3⟩ := hI.2 27 t ht
  obtain ⟨e2, he2, g, rfl, g0, g1, g2⟩ := hI.2 28 t ht
  obtain ⟨e3, he3, S, rfl⟩ := hI.2 29 t ht
  exact ⟨f, g, S, he.trans (congrArg some hc), he1, he2, he3, h160, c1, c2, c3, g0, g1, g2⟩
set_option maxRecDepth 4000 in
theorem w_value (hI : CI X σ s h) {t w : Nat} (ht : t < vI s 3) (hw : w < 3) {nf ab : Nat → Int32} (hn : h (σ 14 0) = some (kI 6 nf)) (hab : ∀ w6, w6 < 6 → nf w6 = ab (41 + w6)) : Fn X 2 0 0 yX9_value cX9_value 6 (some .int) [.ref (σ 26 t), .int (nI w), .ref (σ 14 0)] h (fun rv hv => rv = some (.int (exAt (txE s t) w ab)) ∧ CS X σ s h s hv) := by
  obtain ⟨f, g, S, h1, h2, h3, h4, h160, c1, c2, c3, g0, g1, g2⟩ := c_text hI ht
  obtain ⟨w1, w2, w3⟩ := wf_read (b := byP s (160 * t) (vA s 2 t)) (Z := vA s 2 t) c0
  have n1 : σ 27 t ≠ σ 29 t := hI.ne (k := 27) (i := t) ht ht (by omega)
  have n2 : σ 28 t ≠ σ 29 t := hI.ne (k := 28) (i := t) ht ht (by omega)
  have n3 : σ 14 0 ≠ σ 29 t := hI.ne (k := 14) (i := 0) Nat.zero_lt_one ht (by omega)
  have hfin : ∀ S', CS X σ s h s (kput h (σ 29 t) (kI (tx3 s t) S')) := fun S' => hI.put1 (k := 29) ht ⟨_, rfl⟩
  have l12 : tx1 s t ≤ tx2 s t := Nat.le_add_right _ _
  have l23 : tx2 s t ≤ tx3 s t := Nat.le_add_right _ _
  rcases (by omega : w = 0 ∨ w = 1 ∨ w = 2) with rfl | rfl | rfl
  · refine (f_value (w := 0) (lo := 0) (l := (txE s t).1.1.1) (Vf := (txE s t).1.1.2) (ab := ab) h1 h2 h3 h4 hn n1 n2 n3 (by decide) (fun _ => rfl) (fun z => absurd rfl z) (by rw [g0, Nat.zero_add]; rfl) (by rw [Nat.zero_add]; exact Nat.le_trans l12 l23) h160 c1 w1 hab).imp (fun rv hv hq => ⟨hq.1, ?_⟩)
    obtain ⟨S', rfl⟩ := hq.2
    exact hfin S'
  · refine (f_value (w := 1) (lo := tx1 s t) (l := (txE s t).2.1.1.1) (Vf := (txE s t).2.1.1.2) (ab := ab) h1 h2 h3 h4 hn n1 n2 n3 (by decide) (fun z => absurd z (by decide)) (fun _ => g0) g1 l23 h160 c2 w2 hab).imp (fun rv hv hq => ⟨hq.1, ?_⟩)
    obtain ⟨S', rfl⟩ := hq.2
    exact hfin S'
  · refine (f_value (w := 2) (lo := tx2 s t) (l := (txE s t).2.2.1.1) (Vf := (txE s t).2.2.1.2) (ab := ab) h1 h2 h3 h4 hn n1 n2 n3 (by decide) (fun z => absurd z (by decide)) (fun _ => g1) g2 (Nat.le_refl _) h160 c3 w3 hab).imp (fun rv hv hq => ⟨hq.1, ?_⟩)
    obtain ⟨S', rfl⟩ := hq.2
    exact hfin S'
set_option maxRecDepth 4000 in
theorem f_ruled (hI : CI X σ s h) (hV : MV s) {r w : Nat} (hr : r < vI s 18) (hw : w < 3) : Fn X 4 0 0 yX11_ruled cX11_ruled 6 (some .int) [.ref (σ 0 0), .int (nI r), .int (nI w)] h (fun rv hv => rv = some (.int (saysV s r w)) ∧ CS X σ s h s hv) := by
  have b10 : vI s 10 ≤ 4 := hV.1.1.2
  have b18 : vI s 18 ≤ 16 := hV.2.1.1.2
  have b28 : vI s 28 ≤ 10 := hV.2.2.1.1.2
  have b31 : vI s 31 ≤ 6 := hV.2.2.2.1.1.2
  have b3 : vI s 3 ≤ 6 := hV.2.2.2.2.2.2.1.1.2
  obtain ⟨ks, kp, f, g, h1, h2, h3, hf, hg⟩ := c_run hI hr
  obtain ⟨en, hen, nf0, rfl⟩ := hI.2 14 0 Nat.zero_lt_one
  have cJ : ∀ f : Nat → Int32, CS X σ s h s (kput h (σ 14 0) (kI 6 f)) := fun f => hI.put1 (k := 14) (i := 0) Nat.zero_lt_one ⟨f, rfl⟩
  have hJ : ∀ f : Nat → Int32, CI X σ s (kput h (σ 14 0) (kI 6 f)) := fun f => (cJ f).2.1
  have hRu := MV_rule hV
  have hh25 := hitsP_le s r (rsz s r)
  have hz := rz25 hV hr
  have n17 : σ 17 r ≠ σ 14 0 := hI.ne (k := 17) (i := r) hr Nat.zero_lt_one (by omega)
  have hall := cAll_le hV (r := r) (k := r + 1) (by omega)
  have hrun : runP s r (r + 1) ≤ r + 1 := cntN_le _ _
  have hrun2 : runP s r (r + 1) = runP s r r + 1 := cntN_t (decide_eq_true rfl)
  have hR17 : ∀ f : Nat → Int32, (kput h (σ 14 0) (kI 6 f)) (σ 17 r) = _ := fun f => (kput_ne n17).trans h1
  refine fn_of (by decide) (Nat.le_of_ble_eq_true rfl) (fun M hM => ?_)
  refine a_hp (kput_self hen).symm ?_
  by_cases hw2 : w = 2
  · skip
    have hab2 : ∀ w6, w6 < 6 → (upd (upd (upd (upd (upd (upd nf0 0 (nI (hitsP s r (rsz s r)))) 1 (nI 0)) 2 (nI (hitsP s r (rsz s r)))) 3 (boundP s r (rsz s r) (vI s 28))) 4 (s.2.1 13 r)) 5 (nI (nextP s r (rsz s r)))) w6 = abF s r w (41 + w6) := fun w6 h6 => by
      rcases (by omega : w6 = 0 ∨ w6 = 1 ∨ w6 = 2 ∨ w6 = 3 ∨ w6 = 4 ∨ w6 = 5) with rfl | rfl | rfl | rfl | rfl | rfl
      · rfl
      · exact (if_pos hw2).symm
      · exact (if_pos hw2).symm
      · rfl
      · rfl
      · rfl
    refine a_aload_n (pc := 0) dX11_ruled_0 rfl rfl ?_
    refine a_getfield (pc := 1) kg_X11_16 dX11_ruled_1 (c_fc (hJ _)) rfl ?_
    refine a_iload_n (pc := 4) dX11_ruled_4 rfl rfl ?_
    refine a_callV (pc := 5) km_X11_109 dX11_ruled_5 (w_get (hJ _) (i := 1) (j := r) (by decide) (show r < vI s 18 from hr)) rfl rfl (kr_l (hJ _) (i := 1) (by decide)) (rok_of hM (by decide) (by decide) (by omega) (by omega)) (Nat.le_of_ble_eq_true rfl) (fun r5 h5 hp5 => ?_)
    obtain ⟨rfl, rfl⟩ := And.intro hp5.1 hp5.2.symm
    refine a_topr (show _ = σ 17 r from rfl) ?_
    refine a_castE (pc := 8) kl_X11_107 rfl (c_isR (hJ _) (show r < vI s 18 from hr)) dX11_ruled_8 ?_
    refine a_astore_n (pc := 11) dX11_ruled_11 rfl (by decide) rfl ?_
    refine a_iload_n (pc := 12) dX11_ruled_12 rfl rfl ?_
    refine a_iconst (pc := 13) dX11_ruled_13 ic_2 ?_
    refine a_icmp_neN (pc := 14) (tgt := 21) dX11_ruled_14 (by decide) (by omega) (by omega) (fun c14 => ?_) (fun c14 => ?_)
    · exact absurd hw2 c14
    · refine a_iconst (pc := 17) dX11_ruled_17 ic_1 ?_
      refine a_goto (pc := 18) (tgt := 22) dX11_ruled_18 (by decide) ?_
      refine a_istore (pc := 22) dX11_ruled_22 (by decide) rfl ?_
      refine a_aload_n (pc := 24) dX11_ruled_24 rfl rfl ?_
      refine a_callV (pc := 25) km_X11_143 dX11_ruled_25 (w_hits (hJ _) hV hr) rfl rfl (kr_r (hJ _) hr) (rok_of hM (by decide) (by decide) (by omega) (by omega)) (Nat.le_of_ble_eq_true rfl) (fun r25 h25 hp25 => ?_)
      obtain ⟨rfl, rfl⟩ := And.intro hp25.1 hp25.2.symm
      refine a_istore (pc := 28) dX11_ruled_28 (by decide) rfl ?_
      refine a_aload_n (pc := 30) dX11_ruled_30 rfl rfl ?_
      refine a_getfield (pc := 31) kg_X11_57 dX11_ruled_31 (c_fc (hJ _)) rfl ?_
      refine a_iconst (pc := 34) dX11_ruled_34 ic_0 ?_
      refine a_iload (pc := 35) dX11_ruled_35 rfl ?_
      refine a_iastore (pc := 37) dX11_ruled_37 (kput_eq) (0) (rfl) (by omega) (by omega) ?_
      refine a_hp kput_put ?_
      refine a_aload_n (pc := 38) dX11_ruled_38 rfl rfl ?_
      refine a_getfield (pc := 39) kg_X11_57 dX11_ruled_39 (c_fc (hJ _)) rfl ?_
      refine a_iconst (pc := 42) dX11_ruled_42 ic_1 ?_
      refine a_iload (pc := 43) dX11_ruled_43 rfl ?_
      refine a_if_eqN (pc := 45) (tgt := 52) dX11_ruled_45 (by decide) (by omega) (fun c45 => ?_) (fun c45 => ?_)
      · exact absurd c45 (by decide)
      · refine a_iconst (pc := 48) dX11_ruled_48 ic_0 ?_
        refine a_goto (pc := 49) (tgt := 59) dX11_ruled_49 (by decide) ?_
        refine a_iastore (pc := 59) dX11_ruled_59 (kput_eq) (1) (rfl) (by omega) (by omega) ?_
        refine a_hp kput_put ?_
        refine a_aload_n (pc := 60) dX11_ruled_60 rfl rfl ?_
        refine a_getfield (pc := 61) kg_X11_57 dX11_ruled_61 (c_fc (hJ _)) rfl ?_
        refine a_iconst (pc := 64) dX11_ruled_64 ic_2 ?_
        refine a_iload (pc := 65) dX11_ruled_65 rfl ?_
        refine a_if_eqN (pc := 67) (tgt := 75) dX11_ruled_67 (by decide) (by omega) (fun c67 => ?_) (fun c67 => ?_)
        · exact absurd c67 (by decide)
        · refine a_iload (pc := 70) dX11_ruled_70 rfl ?_
          refine a_goto (pc := 72) (tgt := 80) dX11_ruled_72 (by decide) ?_
          refine a_iastore (pc := 80) dX11_ruled_80 (kput_eq) (2) (rfl) (by omega) (by omega) ?_
          refine a_hp kput_put ?_
          refine a_aload_n (pc := 81) dX11_ruled_81 rfl rfl ?_
          refine a_getfield (pc := 82) kg_X11_57 dX11_ruled_82 (c_fc (hJ _)) rfl ?_
          refine a_iconst (pc := 85) dX11_ruled_85 ic_3 ?_
          refine a_aload_n (pc := 86) dX11_ruled_86 rfl rfl ?_
          refine a_aload_n (pc := 87) dX11_ruled_87 rfl rfl ?_
          refine a_callV (pc := 88) km_X11_165 dX11_ruled_88 (f_bound (hJ _) hV hr) rfl rfl (kr_t (hJ _)) (rok_of hM (by decide) (by decide) (by omega) (by omega)) (Nat.le_of_ble_eq_true rfl) (fun r88 h88 hp88 => ?_)
          obtain ⟨rfl, rfl⟩ := And.intro hp88.1 hp88.2.symm
          refine a_iastore (pc := 91) dX11_ruled_91 (kput_eq) (3) (rfl) (by omega) (by omega) ?_
          refine a_hp kput_put ?_
          refine a_aload_n (pc := 92) dX11_ruled_92 rfl rfl ?_
          refine a_getfield (pc := 93) kg_X11_57 dX11_ruled_93 (c_fc (hJ _)) rfl ?_
          refine a_iconst (pc := 96) dX11_ruled_96 ic_4 ?_
          refine a_aload_n (pc := 97) dX11_ruled_97 rfl rfl ?_
          refine a_getfield (pc := 98) kg_X11_153 dX11_ruled_98 (hR17 _) rfl ?_
          refine a_iastore (pc := 101) dX11_ruled_101 (kput_eq) (4) (rfl) (by omega) (by omega) ?_
          refine a_hp kput_put ?_
          refine a_aload_n (pc := 102) dX11_ruled_102 rfl rfl ?_
          refine a_getfield (pc := 103) kg_X11_57 dX11_ruled_103 (c_fc (hJ _)) rfl ?_
          refine a_iconst (pc := 106) dX11_ruled_106 ic_5 ?_
          refine a_aload_n (pc := 107) dX11_ruled_107 rfl rfl ?_
          refine a_callV (pc := 108) km_X11_156 dX11_ruled_108 (w_next (hJ _) hV hr) rfl rfl (kr_r (hJ _) hr) (rok_of hM (by decide) (by decide) (by omega) (by omega)) (Nat.le_of_ble_eq_true rfl) (fun r108 h108 hp108 => ?_)
          obtain ⟨rfl, rfl⟩ := And.intro hp108.1 hp108.2.symm
          refine a_iastore (pc := 111) dX11_ruled_111 (kput_eq) (5) (rfl) (by omega) (by omega) ?_
          refine a_hp kput_put ?_
          refine a_aload_n (pc := 112) dX11_ruled_112 rfl rfl ?_
          refine a_getfield (pc := 113) kg_X11_25 dX11_ruled_113 (c_fc (hJ _)) rfl ?_
          refine a_aload_n (pc := 116) dX11_ruled_116 rfl rfl ?_
          refine a_getfield (pc := 117) kg_X11_232 dX11_ruled_117 (c_fc (hJ _)) rfl ?_
          refine a_topi (hRu.1) ?_
          refine a_callV (pc := 120) km_X11_109 dX11_ruled_120 (w_get (hJ _) (i := 4) (j := (vI s 4)) (by decide) (show (vI s 4) < vI s 3 from hRu.2)) rfl rfl (kr_l (hJ _) (i := 4) (by decide)) (rok_of hM (by decide) (by decide) (by omega) (by omega)) (Nat.le_of_ble_eq_true rfl) (fun r120 h120 hp120 => ?_)
          obtain ⟨rfl, rfl⟩ := And.intro hp120.1 hp120.2.symm
          refine a_topr (show _ = σ 26 (vI s 4) from rfl) ?_
          refine a_castE (pc := 123) kl_X11_175 rfl (c_isT (hJ _) (show (vI s 4) < vI s 3 from hRu.2)) dX11_ruled_123 ?_
          refine a_iload_n (pc := 126) dX11_ruled_126 rfl rfl ?_
          refine a_aload_n (pc := 127) dX11_ruled_127 rfl rfl ?_
          refine a_getfield (pc := 128) kg_X11_57 dX11_ruled_128 (c_fc (hJ _)) rfl ?_
          refine a_callV (pc := 131) km_X11_330 dX11_ruled_131 (w_value (hJ _) (t := vI s 4) (w := w) hRu.2 hw kput_eq (ab := abF s r w) (by exact hab2)) rfl rfl (kr_x (hJ _) hRu.2) (rok_of hM (by decide) (by decide) (by omega) (by omega)) (Nat.le_of_ble_eq_true rfl) (fun r131 h131 hp131 => ?_)
          obtain ⟨rfl, hcs⟩ := hp131
          refine a_ret_i (pc := 134) hM rfl (rfl) dX11_ruled_134 (by omega) (by omega) ?_
          exact ⟨rfl, (cJ _).tr hcs⟩
  · skip
    have habn : ∀ w6, w6 < 6 → (upd (upd (upd (upd (upd (upd nf0 0 (nI (hitsP s r (rsz s r)))) 1 (nI (runP s r (r + 1) - 1))) 2 (nI (allP s r (r + 1)))) 3 (boundP s r (rsz s r) (vI s 28))) 4 (s.2.1 13 r)) 5 (nI (nextP s r (rsz s r)))) w6 = abF s r w (41 + w6) := fun w6 h6 => by
      rcases (by omega : w6 = 0 ∨ w6 = 1 ∨ w6 = 2 ∨ w6 = 3 ∨ w6 = 4 ∨ w6 = 5) with rfl | rfl | rfl | rfl | rfl | rfl
      · rfl
      · show nI (runP s r (r + 1) - 1) = (if w = 2 then nI 0 else nI (runP s r r)); rw [if_neg hw2, hrun2]; rfl
      · exact (if_neg hw2).symm
      · rfl
      · rfl
      · rfl
    refine a_aload_n (pc := 0) dX11_ruled_0 rfl rfl ?_
    refine a_getfield (pc := 1) kg_X11_16 dX11_ruled_1 (c_fc (hJ _)) rfl ?_
    refine a_iload_n (pc := 4) dX11_ruled_4 rfl rfl ?_
    refine a_callV (pc := 5) km_X11_109 dX11_ruled_5 (w_get (hJ _) (i := 1) (j := r) (by decide) (show r < vI s 18 from hr)) rfl rfl (kr_l (hJ _) (i := 1) (by decide)) (rok_of hM (by decide) (by decide) (by omega) (by omega)) (Nat.le_of_ble_eq_true rfl) (fun r5 h5 hp5 => ?_)
    obtain ⟨rfl, rfl⟩ := And.intro hp5.1 hp5.2.symm
    refine a_topr (show _ = σ 17 r from rfl) ?_
    refine a_castE (pc := 8) kl_X11_107 rfl (c_isR (hJ _) (show r < vI s 18 from hr)) dX11_ruled_8 ?_
    refine a_astore_n (pc := 11) dX11_ruled_11 rfl (by decide) rfl ?_
    refine a_iload_n (pc := 12) dX11_ruled_12 rfl rfl ?_
    refine a_iconst (pc := 13) dX11_ruled_13 ic_2 ?_
    refine a_icmp_neN (pc := 14) (tgt := 21) dX11_ruled_14 (by decide) (by omega) (by omega) (fun c14 => ?_) (fun c14 => ?_)
    · refine a_iconst (pc := 21) dX11_ruled_21 ic_0 ?_
      refine a_istore (pc := 22) dX11_ruled_22 (by decide) rfl ?_
      refine a_aload_n (pc := 24) dX11_ruled_24 rfl rfl ?_
      refine a_callV (pc := 25) km_X11_143 dX11_ruled_25 (w_hits (hJ _) hV hr) rfl rfl (kr_r (hJ _) hr) (rok_of hM (by decide) (by decide) (by omega) (by omega)) (Nat.le_of_ble_eq_true rfl) (fun r25 h25 hp25 => ?_)
      obtain ⟨rfl, rfl⟩ := And.intro hp25.1 hp25.2.symm
      refine a_istore (pc := 28) dX11_ruled_28 (by decide) rfl ?_
      refine a_aload_n (pc := 30) dX11_ruled_30 rfl rfl ?_
      refine a_getfield (pc := 31) kg_X11_57 dX11_ruled_31 (c_fc (hJ _)) rfl ?_
      refine a_iconst (pc := 34) dX11_ruled_34 ic_0 ?_
      refine a_iload (pc := 35) dX11_ruled_35 rfl ?_
      refine a_iastore (pc := 37) dX11_ruled_37 (kput_eq) (0) (rfl) (by omega) (by omega) ?_
      refine a_hp kput_put ?_
      refine a_aload_n (pc := 38) dX11_ruled_38 rfl rfl ?_
      refine a_getfield (pc := 39) kg_X11_57 dX11_ruled_39 (c_fc (hJ _)) rfl ?_
      refine a_iconst (pc := 42) dX11_ruled_42 ic_1 ?_
      refine a_iload (pc := 43) dX11_ruled_43 rfl ?_
      refine a_if_eqN (pc := 45) (tgt := 52) dX11_ruled_45 (by decide) (by omega) (fun c45 => ?_) (fun c45 => ?_)
      · refine a_aload_n (pc := 52) dX11_ruled_52 rfl rfl ?_
        refine a_iload_n (pc := 53) dX11_ruled_53 rfl rfl ?_
        refine a_callV (pc := 54) km_X11_324 dX11_ruled_54 (f_runsTill (hJ _) hV hr) rfl rfl (kr_t (hJ _)) (rok_of hM (by decide) (by decide) (by omega) (by omega)) (Nat.le_of_ble_eq_true rfl) (fun r54 h54 hp54 => ?_)
        obtain ⟨rfl, rfl⟩ := And.intro hp54.1 hp54.2.symm
        refine a_iconst (pc := 57) dX11_ruled_57 ic_1 ?_
        refine a_isubN (pc := 58) dX11_ruled_58 (by omega) ?_
        refine a_iastore (pc := 59) dX11_ruled_59 (kput_eq) (1) (rfl) (by omega) (by omega) ?_
        refine a_hp kput_put ?_
        refine a_aload_n (pc := 60) dX11_ruled_60 rfl rfl ?_
        refine a_getfield (pc := 61) kg_X11_57 dX11_ruled_61 (c_fc (hJ _)) rfl ?_
        refine a_iconst (pc := 64) dX11_ruled_64 ic_2 ?_
        refine a_iload (pc := 65) dX11_ruled_65 rfl ?_
        refine a_if_eqN (pc := 67) (tgt := 75) dX11_ruled_67 (by decide) (by omega) (fun c67 => ?_) (fun c67 => ?_)
        · refine a_aload_n (pc := 75) dX11_ruled_75 rfl rfl ?_
          refine a_iload_n (pc := 76) dX11_ruled_76 rfl rfl ?_
          refine a_callV (pc := 77) km_X11_327 dX11_ruled_77 (f_hitsTill (hJ _) hV hr) rfl rfl (kr_t (hJ _)) (rok_of hM (by decide) (by decide) (by omega) (by omega)) (Nat.le_of_ble_eq_true rfl) (fun r77 h77 hp77 => ?_)
          obtain ⟨rfl, rfl⟩ := And.intro hp77.1 hp77.2.symm
          refine a_iastore (pc := 80) dX11_ruled_80 (kput_eq) (2) (rfl) (by omega) (by omega) ?_
          refine a_hp kput_put ?_
          refine a_aload_n (pc := 81) dX11_ruled_81 rfl rfl ?_
          refine a_getfield (pc := 82) kg_X11_57 dX11_ruled_82 (c_fc (hJ _)) rfl ?_
          refine a_iconst (pc := 85) dX11_ruled_85 ic_3 ?_
          refine a_aload_n (pc := 86) dX11_ruled_86 rfl rfl ?_
          refine a_aload_n (pc := 87) dX11_ruled_87 rfl rfl ?_
          refine a_callV (pc := 88) km_X11_165 dX11_ruled_88 (f_bound (hJ _) hV hr) rfl rfl (kr_t (hJ _)) (rok_of hM (by decide) (by decide) (by omega) (by omega)) (Nat.le_of_ble_eq_true rfl) (fun r88 h88 hp88 => ?_)
          obtain ⟨rfl, rfl⟩ := And.intro hp88.1 hp88.2.symm
          refine a_iastore (pc := 91) dX11_ruled_91 (kput_eq) (3) (rfl) (by omega) (by omega) ?_
          refine a_hp kput_put ?_
          refine a_aload_n (pc := 92) dX11_ruled_92 rfl rfl ?_
          refine a_getfield (pc := 93) kg_X11_57 dX11_ruled_93 (c_fc (hJ _)) rfl ?_
          refine a_iconst (pc := 96) dX11_ruled_96 ic_4 ?_
          refine a_aload_n (pc := 97) dX11_ruled_97 rfl rfl ?_
          refine a_getfield (pc := 98) kg_X11_153 dX11_ruled_98 (hR17 _) rfl ?_
          refine a_iastore (pc := 101) dX11_ruled_101 (kput_eq) (4) (rfl) (by omega) (by omega) ?_
          refine a_hp kput_put ?_
          refine a_aload_n (pc := 102) dX11_ruled_102 rfl rfl ?_
          refine a_getfield (pc := 103) kg_X11_57 dX11_ruled_103 (c_fc (hJ _)) rfl ?_
          refine a_iconst (pc := 106) dX11_ruled_106 ic_5 ?_
          refine a_aload_n (pc := 107) dX11_ruled_107 rfl rfl ?_
          refine a_callV (pc := 108) km_X11_156 dX11_ruled_108 (w_next (hJ _) hV hr) rfl rfl (kr_r (hJ _) hr) (rok_of hM (by decide) (by decide) (by omega) (by omega)) (Nat.le_of_ble_eq_true rfl) (fun r108 h108 hp108 => ?_)
          obtain ⟨rfl, rfl⟩ := And.intro hp108.1 hp108.2.symm
          refine a_iastore (pc := 111) dX11_ruled_111 (kput_eq) (5) (rfl) (by omega) (by omega) ?_
          refine a_hp kput_put ?_
          refine a_aload_n (pc := 112) dX11_ruled_112 rfl rfl ?_
          refine a_getfield (pc := 113) kg_X11_25 dX11_ruled_113 (c_fc (hJ _)) rfl ?_
          refine a_aload_n (pc := 116) dX11_ruled_116 rfl rfl ?_
          refine a_getfield (pc := 117) kg_X11_232 dX11_ruled_117 (c_fc (hJ _)) rfl ?_
          refine a_topi (hRu.1) ?_
          refine a_callV (pc := 120) km_X11_109 dX11_ruled_120 (w_get (hJ _) (i := 4) (j := (vI s 4)) (by decide) (show (vI s 4) < vI s 3 from hRu.2)) rfl rfl (kr_l (hJ _) (i := 4) (by decide)) (rok_of hM (by decide) (by decide) (by omega) (by omega)) (Nat.le_of_ble_eq_true rfl) (fun r120 h120 hp120 => ?_)
          obtain ⟨rfl, rfl⟩ := And.intro hp120.1 hp120.2.symm
          refine a_topr (show _ = σ 26 (vI s 4) from rfl) ?_
          refine a_castE (pc := 123) kl_X11_175 rfl (c_isT (hJ _) (show (vI s 4) < vI s 3 from hRu.2)) dX11_ruled_123 ?_
          refine a_iload_n (pc := 126) dX11_ruled_126 rfl rfl ?_
          refine a_aload_n (pc := 127) dX11_ruled_127 rfl rfl ?_
          refine a_getfield (pc := 128) kg_X11_57 dX11_ruled_128 (c_fc (hJ _)) rfl ?_
          refine a_callV (pc := 131) km_X11_330 dX11_ruled_131 (w_value (hJ _) (t := vI s 4) (w := w) hRu.2 hw kput_eq (ab := abF s r w) (by exact habn)) rfl rfl (kr_x (hJ _) hRu.2) (rok_of hM (by decide) (by decide) (by omega) (by omega)) (Nat.le_of_ble_eq_true rfl) (fun r131 h131 hp131 => ?_)
          obtain ⟨rfl, hcs⟩ := hp131
          refine a_ret_i (pc := 134) hM rfl (rfl) dX11_ruled_134 (by omega) (by omega) ?_
          exact ⟨rfl, (cJ _).tr hcs⟩
        · exact absurd c67 (by decide)
      · exact absurd c45 (by decide)
    · exact absurd c14 hw2

set_option maxRecDepth 4000 in
theorem f_ctold (hI : CI X σ s h) (hV : MV s) (x w : Int32) : Fn X 5 0 0 yX11_told cX11_told 4 (some .int) [.ref (σ 0 0), .int x, .int w] h (fun rv hv => rv = some (.int (R_told s x w).1) ∧ CE X σ s h (R_told s x w).2 hv) := by
  have b10 : vI s 10 ≤ 4 := hV.1.1.2
  have b18 : vI s 18 ≤ 16 := hV.2.1.1.2
  have b28 : vI s 28 ≤ 10 := hV.2.2.1.1.2
  have b31 : vI s 31 ≤ 6 := hV.2.2.2.1.1.2
  have b3 : vI s 3 ≤ 6 := hV.2.2.2.2.2.2.1.1.2
  refine fn_of (by decide) (Nat.le_of_ble_eq_true rfl) (fun M hM => ?_)
  refine a_iload_n (pc := 0) dX11_told_0 rfl rfl ?_
  refine a_aload_n (pc := 1) dX11_told_1 rfl rfl ?_
  refine a_getfield (pc := 2) kg_X11_16 dX11_told_2 (c_fc hI) rfl ?_
  refine a_callV (pc := 5) km_X11_97 dX11_told_5 (w_size hI (i := 1) (by decide)) rfl rfl (kr_l hI (i := 1) (by decide)) (rok_of hM (by decide) (by decide) (by omega) (by omega)) (Nat.le_of_ble_eq_true rfl) (fun r5 h5 hp5 => ?_)
  obtain ⟨rfl, rfl⟩ := And.intro hp5.1 hp5.2.symm
  refine a_topi (show _ = nI (vI s 18) from rfl) ?_
  refine a_callS (pc := 8) km_X11_103 dX11_told_8 (f_among x (by omega)) rfl rfl (rok_of hM (by decide) (by decide) (by omega) (by omega)) (Nat.le_of_ble_eq_true rfl) (fun r8 h8 hp8 => ?_)
  obtain ⟨rfl, rfl⟩ := And.intro hp8.1 hp8.2.symm
  refine a_if_neB (pc := 11) (tgt := 17) dX11_told_11 (by decide) (fun c11 => ?_) (fun c11 => ?_)
  · obtain ⟨r, hr, rfl⟩ := inN_of c11 (by omega)
    have er : (nI r).toNatClampNeg = r := nI_clamp (by omega)
    obtain ⟨ks, kp, f, g, h1, h2, h3, hf, hg⟩ := c_run hI hr
    have hz := rz25 hV hr
    refine a_aload_n (pc := 17) dX11_told_17 rfl rfl ?_
    refine a_getfield (pc := 18) kg_X11_16 dX11_told_18 (c_fc hI) rfl ?_
    refine a_iload_n (pc := 21) dX11_told_21 rfl rfl ?_
    refine a_callV (pc := 22) km_X11_109 dX11_told_22 (w_get hI (i := 1) (j := r) (by decide) (show r < vI s 18 from hr)) rfl rfl (kr_l hI (i := 1) (by decide)) (rok_of hM (by decide) (by decide) (by omega) (by omega)) (Nat.le_of_ble_eq_true rfl) (fun r22 h22 hp22 => ?_)
    obtain ⟨rfl, rfl⟩ := And.intro hp22.1 hp22.2.symm
    refine a_topr (show _ = σ 17 r from rfl) ?_
    refine a_castE (pc := 25) kl_X11_107 rfl (c_isR hI (show r < vI s 18 from hr)) dX11_told_25 ?_
    refine a_astore_n (pc := 28) dX11_told_28 rfl (by decide) rfl ?_
    refine a_iload_n (pc := 29) dX11_told_29 rfl rfl ?_
    by_cases cw : inN w 14 = true
    · obtain ⟨v, hv14, rfl⟩ := inN_of cw (by decide)
      rcases (by omega : v = 0 ∨ v = 1 ∨ v = 2 ∨ v = 3 ∨ v = 4 ∨ v = 5 ∨ v = 6 ∨ v = 7 ∨ v = 8 ∨ v = 9 ∨ v = 10 ∨ v = 11 ∨ v = 12 ∨ v = 13) with rfl | rfl | rfl | rfl | rfl | rfl | rfl | rfl | rfl | rfl | rfl | rfl | rfl | rfl
      · refine a_tabIn (pc := 30) (off := 70) (tgt := 100) dX11_told_30 (by decide) (by decide) rfl (by decide) ?_
        refine a_aload_n (pc := 100) dX11_told_100 rfl rfl ?_
        refine a_getfield (pc := 101) kg_X11_147 dX11_told_101 (h1) rfl ?_
        refine a_ret_i (pc := 104) hM rfl (rfl) dX11_told_104 (by omega) (by omega) ?_
        exact pubI (by unfold R_told; rw [c11, er, cw, show (nI 0).toNatClampNeg = 0 from nI_clamp (by decide)]; rfl) rfl (CS.rf hI).ce
      · refine a_tabIn (pc := 30) (off := 75) (tgt := 105) dX11_told_30 (by decide) (by decide) rfl (by decide) ?_
        refine a_aload_n (pc := 105) dX11_told_105 rfl rfl ?_
        refine a_getfield (pc := 106) kg_X11_150 dX11_told_106 (h1) rfl ?_
        refine a_ret_i (pc := 109) hM rfl (rfl) dX11_told_109 (by omega) (by omega) ?_
        exact pubI (by unfold R_told; rw [c11, er, cw, show (nI 1).toNatClampNeg = 1 from nI_clamp (by decide)]; rfl) rfl (CS.rf hI).ce
      · refine a_tabIn (pc := 30) (off := 80) (tgt := 110) dX11_told_30 (by decide) (by decide) rfl (by decide) ?_
        refine a_aload_n (pc := 110) dX11_told_110 rfl rfl ?_
        refine a_getfield (pc := 111) kg_X11_153 dX11_told_111 (h1) rfl ?_
        refine a_ret_i (pc := 114) hM rfl (rfl) dX11_told_114 (by omega) (by omega) ?_
        exact pubI (by unfold R_told; rw [c11, er, cw, show (nI 2).toNatClampNeg = 2 from nI_clamp (by decide)]; rfl) rfl (CS.rf hI).ce
      · refine a_tabIn (pc := 30) (off := 85) (tgt := 115) dX11_told_30 (by decide) (by decide) rfl (by decide) ?_
        refine a_aload_n (pc := 115) dX11_told_115 rfl rfl ?_
        refine a_getfield (pc := 116) kg_X11_119 dX11_told_116 (h1) rfl ?_
        refine a_alen (pc := 119) (t := 0) rfl dX11_told_119 (h2) rfl ?_
        refine a_ret_i (pc := 120) hM rfl (rfl) dX11_told_120 (by omega) (by omega) ?_
        exact pubI (by unfold R_told; rw [c11, er, cw, show (nI 3).toNatClampNeg = 3 from nI_clamp (by decide)]; rfl) rfl (CS.rf hI).ce
      · refine a_tabIn (pc := 30) (off := 91) (tgt := 121) dX11_told_30 (by decide) (by decide) rfl (by decide) ?_
        refine a_aload_n (pc := 121) dX11_told_121 rfl rfl ?_
        refine a_callV (pc := 122) km_X11_143 dX11_told_122 (w_hits hI hV hr) rfl rfl (kr_r hI hr) (rok_of hM (by decide) (by decide) (by omega) (by omega)) (Nat.le_of_ble_eq_true rfl) (fun r122 h122 hp122 => ?_)
        obtain ⟨rfl, rfl⟩ := And.intro hp122.1 hp122.2.symm
        refine a_ret_i (pc := 125) hM rfl (rfl) dX11_told_125 (by omega) (by omega) ?_
        exact pubI (by unfold R_told; rw [c11, er, cw, show (nI 4).toNatClampNeg = 4 from nI_clamp (by decide)]; rfl) rfl (CS.rf hI).ce
      · refine a_tabIn (pc := 30) (off := 96) (tgt := 126) dX11_told_30 (by decide) (by decide) rfl (by decide) ?_
        refine a_aload_n (pc := 126) dX11_told_126 rfl rfl ?_
        refine a_callV (pc := 127) km_X11_156 dX11_told_127 (w_next hI hV hr) rfl rfl (kr_r hI hr) (rok_of hM (by decide) (by decide) (by omega) (by omega)) (Nat.le_of_ble_eq_true rfl) (fun r127 h127 hp127 => ?_)
        obtain ⟨rfl, rfl⟩ := And.intro hp127.1 hp127.2.symm
        refine a_ret_i (pc := 130) hM rfl (rfl) dX11_told_130 (by omega) (by omega) ?_
        exact pubI (by unfold R_told; rw [c11, er, cw, show (nI 5).toNatClampNeg = 5 from nI_clamp (by decide)]; rfl) rfl (CS.rf hI).ce
      · refine a_tabIn (pc := 30) (off := 101) (tgt := 131) dX11_told_30 (by decide) (by decide) rfl (by decide) ?_
        refine a_aload_n (pc := 131) dX11_told_131 rfl rfl ?_
        refine a_callV (pc := 132) km_X11_159 dX11_told_132 (w_byLeft hI hV hr) rfl rfl (kr_r hI hr) (rok_of hM (by decide) (by decide) (by omega) (by omega)) (Nat.le_of_ble_eq_true rfl) (fun r132 h132 hp132 => ?_)
        obtain ⟨rfl, hcs⟩ := hp132
        refine a_ret_i (pc := 135) hM rfl (rfl) dX11_told_135 (by omega) (by omega) ?_
        exact pubI (by unfold R_told; rw [c11, er, cw, show (nI 6).toNatClampNeg = 6 from nI_clamp (by decide)]; rfl) rfl hcs.ce
      · refine a_tabIn (pc := 30) (off := 106) (tgt := 136) dX11_told_30 (by decide) (by decide) rfl (by decide) ?_
        refine a_aload_n (pc := 136) dX11_told_136 rfl rfl ?_
        refine a_callV (pc := 137) km_X11_162 dX11_told_137 (w_alike hI hV hr) rfl rfl (kr_r hI hr) (rok_of hM (by decide) (by decide) (by omega) (by omega)) (Nat.le_of_ble_eq_true rfl) (fun r137 h137 hp137 => ?_)
        obtain ⟨rfl, rfl⟩ := And.intro hp137.1 hp137.2.symm
        refine a_ret_i (pc := 140) hM rfl (rfl) dX11_told_140 (by omega) (by omega) ?_
        exact pubI (by unfold R_told; rw [c11, er, cw, show (nI 7).toNatClampNeg = 7 from nI_clamp (by decide)]; rfl) rfl (CS.rf hI).ce
      · refine a_tabIn (pc := 30) (off := 111) (tgt := 141) dX11_told_30 (by decide) (by decide) rfl (by decide) ?_
        refine a_aload_n (pc := 141) dX11_told_141 rfl rfl ?_
        refine a_aload_n (pc := 142) dX11_told_142 rfl rfl ?_
        refine a_callV (pc := 143) km_X11_165 dX11_told_143 (f_bound hI hV hr) rfl rfl (kr_t hI) (rok_of hM (by decide) (by decide) (by omega) (by omega)) (Nat.le_of_ble_eq_true rfl) (fun r143 h143 hp143 => ?_)
        obtain ⟨rfl, rfl⟩ := And.intro hp143.1 hp143.2.symm
        refine a_ret_i (pc := 146) hM rfl (rfl) dX11_told_146 (by omega) (by omega) ?_
        exact pubI (by unfold R_told; rw [c11, er, cw, show (nI 8).toNatClampNeg = 8 from nI_clamp (by decide)]; rfl) rfl (CS.rf hI).ce
      · refine a_tabIn (pc := 30) (off := 117) (tgt := 147) dX11_told_30 (by decide) (by decide) rfl (by decide) ?_
        refine a_aload_n (pc := 147) dX11_told_147 rfl rfl ?_
        refine a_callV (pc := 148) km_X11_143 dX11_told_148 (w_hits hI hV hr) rfl rfl (kr_r hI hr) (rok_of hM (by decide) (by decide) (by omega) (by omega)) (Nat.le_of_ble_eq_true rfl) (fun r148 h148 hp148 => ?_)
        obtain ⟨rfl, rfl⟩ := And.intro hp148.1 hp148.2.symm
        refine a_aload_n (pc := 151) dX11_told_151 rfl rfl ?_
        refine a_aload_n (pc := 152) dX11_told_152 rfl rfl ?_
        refine a_callV (pc := 153) km_X11_165 dX11_told_153 (f_bound hI hV hr) rfl rfl (kr_t hI) (rok_of hM (by decide) (by decide) (by omega) (by omega)) (Nat.le_of_ble_eq_true rfl) (fun r153 h153 hp153 => ?_)
        obtain ⟨rfl, rfl⟩ := And.intro hp153.1 hp153.2.symm
        refine a_aload_n (pc := 156) dX11_told_156 rfl rfl ?_
        refine a_getfield (pc := 157) kg_X11_119 dX11_told_157 (h1) rfl ?_
        refine a_alen (pc := 160) (t := 0) rfl dX11_told_160 (h2) rfl ?_
        refine a_iconst (pc := 161) dX11_told_161 ic_5 ?_
        refine a_idivN (pc := 162) dX11_told_162 (by omega) (by omega) (by omega) ?_
        refine a_iadd (pc := 163) dX11_told_163 ?_
        refine a_icmp_le (pc := 164) (tgt := 171) dX11_told_164 (by decide) (fun c164 => ?_) (fun c164 => ?_)
        · have e9 : toldV s r 9 = nI 0 := if_pos c164
          refine a_iconst (pc := 171) dX11_told_171 ic_0 ?_
          refine a_ret_i (pc := 172) hM rfl (rfl) dX11_told_172 (by omega) (by omega) ?_
          exact pubI (by unfold R_told; rw [c11, er, cw, show (nI 9).toNatClampNeg = 9 from nI_clamp (by decide)]; rfl) (congrArg (fun t => some (Value.int t)) e9.symm) (CS.rf hI).ce
        · have e9 : toldV s r 9 = nI 1 := if_neg c164
          refine a_iconst (pc := 167) dX11_told_167 ic_1 ?_
          refine a_goto (pc := 168) (tgt := 172) dX11_told_168 (by decide) ?_
          refine a_ret_i (pc := 172) hM rfl (rfl) dX11_told_172 (by omega) (by omega) ?_
          exact pubI (by unfold R_told; rw [c11, er, cw, show (nI 9).toNatClampNeg = 9 from nI_clamp (by decide)]; rfl) (congrArg (fun t => some (Value.int t)) e9.symm) (CS.rf hI).ce
      · refine a_tabIn (pc := 30) (off := 143) (tgt := 173) dX11_told_30 (by decide) (by decide) rfl (by decide) ?_
        refine a_aload_n (pc := 173) dX11_told_173 rfl rfl ?_
        refine a_getfield (pc := 174) kg_X11_169 dX11_told_174 (h1) rfl ?_
        refine a_ret_i (pc := 177) hM rfl (rfl) dX11_told_177 (by omega) (by omega) ?_
        exact pubI (by unfold R_told; rw [c11, er, cw, show (nI 10).toNatClampNeg = 10 from nI_clamp (by decide)]; rfl) rfl (CS.rf hI).ce
      · refine a_tabIn (pc := 30) (off := 148) (tgt := 178) dX11_told_30 (by decide) (by decide) rfl (by decide) ?_
        refine a_aload_n (pc := 178) dX11_told_178 rfl rfl ?_
        refine a_getfield (pc := 179) kg_X11_172 dX11_told_179 (h1) rfl ?_
        refine a_ret_i (pc := 182) hM rfl (rfl) dX11_told_182 (by omega) (by omega) ?_
        exact pubI (by unfold R_told; rw [c11, er, cw, show (nI 11).toNatClampNeg = 11 from nI_clamp (by decide)]; rfl) rfl (CS.rf hI).ce
      · refine a_tabIn (pc := 30) (off := 153) (tgt := 183) dX11_told_30 (by decide) (by decide) rfl (by decide) ?_
        refine a_aload_n (pc := 183) dX11_told_183 rfl rfl ?_
        refine a_iload_n (pc := 184) dX11_told_184 rfl rfl ?_
        refine a_iconst (pc := 185) dX11_told_185 ic_1 ?_
        refine a_callV (pc := 186) km_X11_177 dX11_told_186 (f_ruled hI hV (w := 1) hr (by decide)) rfl rfl (kr_t hI) (rok_of hM (by decide) (by decide) (by omega) (by omega)) (Nat.le_of_ble_eq_true rfl) (fun r186 h186 hp186 => ?_)
        obtain ⟨rfl, hcs⟩ := hp186
        refine a_if_eq (pc := 189) (tgt := 196) dX11_told_189 (by decide) (fun c189 => ?_) (fun c189 => ?_)
        · have e12 : toldV s r 12 = nI 0 := if_pos c189
          refine a_iconst (pc := 196) dX11_told_196 ic_0 ?_
          refine a_ret_i (pc := 197) hM rfl (rfl) dX11_told_197 (by omega) (by omega) ?_
          exact pubI (by unfold R_told; rw [c11, er, cw, show (nI 12).toNatClampNeg = 12 from nI_clamp (by decide)]; rfl) (congrArg (fun t => some (Value.int t)) e12.symm) hcs.ce
        · have e12 : toldV s r 12 = nI 1 := if_neg c189
          refine a_iconst (pc := 192) dX11_told_192 ic_1 ?_
          refine a_goto (pc := 193) (tgt := 197) dX11_told_193 (by decide) ?_
          refine a_ret_i (pc := 197) hM rfl (rfl) dX11_told_197 (by omega) (by omega) ?_
          exact pubI (by unfold R_told; rw [c11, er, cw, show (nI 12).toNatClampNeg = 12 from nI_clamp (by decide)]; rfl) (congrArg (fun t => some (Value.int t)) e12.symm) hcs.ce
      · refine a_tabIn (pc := 30) (off := 168) (tgt := 198) dX11_told_30 (by decide) (by decide) rfl (by decide) ?_
        refine a_aload_n (pc := 198) dX11_told_198 rfl rfl ?_
        refine a_iload_n (pc := 199) dX11_told_199 rfl rfl ?_
        refine a_iconst (pc := 200) dX11_told_200 ic_2 ?_
        refine a_callV (pc := 201) km_X11_177 dX11_told_201 (f_ruled hI hV (w := 2) hr (by decide)) rfl rfl (kr_t hI) (rok_of hM (by decide) (by decide) (by omega) (by omega)) (Nat.le_of_ble_eq_true rfl) (fun r201 h201 hp201 => ?_)
        obtain ⟨rfl, hcs⟩ := hp201
        refine a_ret_i (pc := 204) hM rfl (rfl) dX11_told_204 (by omega) (by omega) ?_
        exact pubI (by unfold R_told; rw [c11, er, cw, show (nI 13).toNatClampNeg = 13 from nI_clamp (by decide)]; rfl) rfl hcs.ce
    · refine a_tabOut (pc := 30) (tgt := 205) dX11_told_30 (by simp only [inN, Bool.and_eq_true, decide_eq_true_eq] at cw; omega) (by decide) ?_
      refine a_ldc (pc := 205) kc_X11_146 dX11_told_205 ?_
      refine a_ret_i (pc := 207) hM rfl (rfl) dX11_told_207 (by omega) (by omega) ?_
      exact pubI (by unfold R_told; rw [c11]; exact if_neg cw) rfl (CS.rf hI).ce
  · refine a_ldc (pc := 14) kc_X11_146 dX11_told_14 ?_
    refine a_ret_i (pc := 16) hM rfl (rfl) dX11_told_16 (by omega) (by omega) ?_
    exact pubI (by unfold R_told; rw [c11]; rfl) rfl (CS.rf hI).ce

theorem inR1_of {x : Int32} {a b : Nat} (hx : inR x a b = true) : ∃ j : Nat, a ≤ j ∧ j ≤ b ∧ x = nI j := by
  unfold inR at hx
  rw [Bool.and_eq_true, decide_eq_true_eq, decide_eq_true_eq] at hx
  refine ⟨x.toInt.toNat, by omega, by omega, ?_⟩
  rw [← Int32.toInt_inj, nI_toInt (by have := x.toInt_lt; omega)]
  omega
set_option maxRecDepth 4000 in
theorem f_cexact (hI : CI X σ s h) (hV : MV s) (x q w : Int32) : Fn X 3 0 0 yX11_exact cX11_exact 4 (some .long) [.ref (σ 0 0), .int x, .int q, .int w] h (fun rv hv => rv = some (.long (R_exact s x q w).1) ∧ CE X σ s h (R_exact s x q w).2 hv) := by
  have b10 : vI s 10 ≤ 4 := hV.1.1.2
  have b18 : vI s 18 ≤ 16 := hV.2.1.1.2
  have b28 : vI s 28 ≤ 10 := hV.2.2.1.1.2
  have b31 : vI s 31 ≤ 6 := hV.2.2.2.1.1.2
  have b3 : vI s 3 ≤ 6 := hV.2.2.2.2.2.2.1.1.2
  refine fn_of (by decide) (Nat.le_of_ble_eq_true rfl) (fun M hM => ?_)
  refine a_iload_n (pc := 0) dX11_exact_0 rfl rfl ?_
  refine a_aload_n (pc := 1) dX11_exact_1 rfl rfl ?_
  refine a_getfield (pc := 2) kg_X11_16 dX11_exact_2 (c_fc hI) rfl ?_
  refine a_callV (pc := 5) km_X11_97 dX11_exact_5 (w_size hI (i := 1) (by decide)) rfl rfl (kr_l hI (i := 1) (by decide)) (rok_of hM (by decide) (by decide) (by omega) (by omega)) (Nat.le_of_ble_eq_true rfl) (fun r5 h5 hp5 => ?_)
  obtain ⟨rfl, rfl⟩ := And.intro hp5.1 hp5.2.symm
  refine a_topi (show _ = nI (vI s 18) from rfl) ?_
  refine a_callS (pc := 8) km_X11_103 dX11_exact_8 (f_among x (by omega)) rfl rfl (rok_of hM (by decide) (by decide) (by omega) (by omega)) (Nat.le_of_ble_eq_true rfl) (fun r8 h8 hp8 => ?_)
  obtain ⟨rfl, rfl⟩ := And.intro hp8.1 hp8.2.symm
  refine a_if_eqB (pc := 11) (tgt := 32) dX11_exact_11 (by decide) (fun c11 => ?_) (fun c11 => ?_)
  · have e : R_exact s x q w = (-4611686018427387904, s) := by unfold R_exact; rw [c11]; rfl
    refine a_ldc2 (pc := 32) kc_X11_180 dX11_exact_32 ?_
    refine a_ret_l (pc := 35) hM rfl dX11_exact_35 (by omega) (by omega) ?_
    exact pubL e rfl (CS.rf hI).ce
  · obtain ⟨r, hr, rfl⟩ := inN_of c11 (by omega)
    have er : (nI r).toNatClampNeg = r := nI_clamp (by omega)
    refine a_iload_n (pc := 14) dX11_exact_14 rfl rfl ?_
    refine a_iconst (pc := 15) dX11_exact_15 ic_0 ?_
    refine a_bipush (pc := 16) dX11_exact_16 ib_25 ?_
    refine a_callS (pc := 18) km_X11_86 dX11_exact_18 (f_withN q (by decide) (by decide)) rfl rfl (rok_of hM (by decide) (by decide) (by omega) (by omega)) (Nat.le_of_ble_eq_true rfl) (fun r18 h18 hp18 => ?_)
    obtain ⟨rfl, rfl⟩ := And.intro hp18.1 hp18.2.symm
    refine a_if_eqB (pc := 21) (tgt := 32) dX11_exact_21 (by decide) (fun c21 => ?_) (fun c21 => ?_)
    · have e : R_exact s (nI r) q w = (-4611686018427387904, s) := by unfold R_exact; rw [c11, c21]; rfl
      refine a_ldc2 (pc := 32) kc_X11_180 dX11_exact_32 ?_
      refine a_ret_l (pc := 35) hM rfl dX11_exact_35 (by omega) (by omega) ?_
      exact pubL e rfl (CS.rf hI).ce
    · obtain ⟨j, -, hj, rfl⟩ := inR1_of c21
      have ej : (nI j).toNatClampNeg = j := nI_clamp (by omega)
      refine a_iload_n (pc := 24) dX11_exact_24 rfl rfl ?_
      refine a_iconst (pc := 25) dX11_exact_25 ic_2 ?_
      refine a_callS (pc := 26) km_X11_103 dX11_exact_26 (f_among w (by omega)) rfl rfl (rok_of hM (by decide) (by decide) (by omega) (by omega)) (Nat.le_of_ble_eq_true rfl) (fun r26 h26 hp26 => ?_)
      obtain ⟨rfl, rfl⟩ := And.intro hp26.1 hp26.2.symm
      refine a_if_neB (pc := 29) (tgt := 36) dX11_exact_29 (by decide) (fun c29 => ?_) (fun c29 => ?_)
      · obtain ⟨ks, kp, f, g, h1, h2, h3, hf, hg⟩ := c_run hI hr
        have hz := rz25 hV hr
        obtain ⟨pf, p1, p2, p3, p4⟩ := c_pack hI hV (r11 hV hr)
        obtain ⟨eq, heq, G0, rfl⟩ := hI.2 13 0 Nat.zero_lt_one
        have ho := c_od hI
        have hq1 := hV.1.2 _ (r11 hV hr)
        have ho5 := (hV.2.1.2 r hr).2.2.2.2.1
        have hb25 : bfN (pkOf s r) 5 ≤ 25 := by have := hq1.2.2.2; show (0 + vA s 8 (5 * vA s 11 r) + vA s 8 (5 * vA s 11 r + 1) + vA s 8 (5 * vA s 11 r + 2) + vA s 8 (5 * vA s 11 r + 3) + vA s 8 (5 * vA s 11 r + 4)) ≤ 25; have hz2 : vA s 9 (vA s 11 r) ≤ 25 := hz; omega
        have cJ := fun G : Nat → Int64 => hI.put1 (k := 13) (i := 0) (e := kL 26 G) Nat.zero_lt_one ⟨G, rfl⟩
        have hJ := fun G : Nat → Int64 => (cJ G).2.1
        have n12 : σ 12 0 ≠ σ 13 0 := hI.ne (k := 12) (i := 0) Nat.zero_lt_one Nat.zero_lt_one (by omega)
        refine a_aload_n (pc := 36) dX11_exact_36 rfl rfl ?_
        refine a_getfield (pc := 37) kg_X11_51 dX11_exact_37 (c_fc hI) rfl ?_
        refine a_aload_n (pc := 40) dX11_exact_40 rfl rfl ?_
        refine a_getfield (pc := 41) kg_X11_16 dX11_exact_41 (c_fc hI) rfl ?_
        refine a_iload_n (pc := 44) dX11_exact_44 rfl rfl ?_
        refine a_callV (pc := 45) km_X11_109 dX11_exact_45 (w_get hI (i := 1) (j := r) (by decide) (show r < vI s 18 from hr)) rfl rfl (kr_l hI (i := 1) (by decide)) (rok_of hM (by decide) (by decide) (by omega) (by omega)) (Nat.le_of_ble_eq_true rfl) (fun r45 h45 hp45 => ?_)
        obtain ⟨rfl, rfl⟩ := And.intro hp45.1 hp45.2.symm
        refine a_topr (show _ = σ 17 r from rfl) ?_
        refine a_castE (pc := 48) kl_X11_107 rfl (c_isR hI (show r < vI s 18 from hr)) dX11_exact_48 ?_
        refine a_callV (pc := 51) km_X11_182 dX11_exact_51 (f_work (pkn := pkOf s r) (gun := guOf s r) ho heq h1 h2 h3 hz p1 p2 p3 (fun j hj => Nat.le_of_lt_succ (hq1.2.2.1 j hj).2) hb25 (fun j hj => by show cntN (fun i => decide (cnOf s 15 r i = j)) (rsz s r) = _; exact (cntN_cg (fun i hi => by rw [hg i hi, ok_dec (ho5 i hi) (by omega) (by decide)]; rfl)).symm)) rfl rfl (krecv_of (ci := 2) rfl ho) (rok_of hM (by decide) (by decide) (by omega) (by omega)) (Nat.le_of_ble_eq_true rfl) (fun r51 h51 hp51 => ?_)
        obtain ⟨rfl, G, hG, rfl⟩ := hp51
        refine a_iload_n (pc := 54) dX11_exact_54 rfl rfl ?_
        refine a_if_ne (pc := 55) (tgt := 69) dX11_exact_55 (by decide) (fun c55 => ?_) (fun c55 => ?_)
        · have hw1 : w = nI 1 := by obtain ⟨v, hv2, rfl⟩ := inN_of c29 (by decide); rcases (by omega : v = 0 ∨ v = 1) with rfl | rfl <;> first | exact absurd rfl c55 | rfl
          refine a_aload_n (pc := 69) dX11_exact_69 rfl rfl ?_
          refine a_getfield (pc := 70) kg_X11_51 dX11_exact_70 (c_fc (hJ _)) rfl ?_
          refine a_callV (pc := 73) km_X11_190 dX11_exact_73 (f_allOrd ((kput_ne n12).trans ho) kput_eq) rfl rfl (krecv_of (ci := 2) rfl ((kput_ne n12).trans ho)) (rok_of hM (by decide) (by decide) (by omega) (by omega)) (Nat.le_of_ble_eq_true rfl) (fun r73 h73 hp73 => ?_)
          obtain ⟨rfl, rfl⟩ := And.intro hp73.1 hp73.2.symm
          refine a_ret_l (pc := 76) hM rfl dX11_exact_76 (by omega) (by omega) ?_
          exact pubL (by unfold R_exact; rw [c11, c21, c29, er, ej, hw1]; rfl) (congrArg (fun t => some (Value.long t)) ((hG 0 (by omega)).trans (congrArg lN all_all))) (cJ G).ce
        · have hw1 : ¬ w = nI 1 := by rw [c55]; decide
          refine a_aload_n (pc := 58) dX11_exact_58 rfl rfl ?_
          refine a_getfield (pc := 59) kg_X11_51 dX11_exact_59 (c_fc (hJ _)) rfl ?_
          refine a_iload_n (pc := 62) dX11_exact_62 rfl rfl ?_
          refine a_callV (pc := 63) km_X11_186 dX11_exact_63 (f_ordW (C := chN (pkOf s r) (guOf s r) 5) ((kput_ne n12).trans ho) kput_eq hG (by omega)) rfl rfl (krecv_of (ci := 2) rfl ((kput_ne n12).trans ho)) (rok_of hM (by decide) (by decide) (by omega) (by omega)) (Nat.le_of_ble_eq_true rfl) (fun r63 h63 hp63 => ?_)
          obtain ⟨rfl, rfl⟩ := And.intro hp63.1 hp63.2.symm
          refine a_goto (pc := 66) (tgt := 76) dX11_exact_66 (by decide) ?_
          refine a_ret_l (pc := 76) hM rfl dX11_exact_76 (by omega) (by omega) ?_
          exact pubL (by unfold R_exact; rw [c11, c21, c29, er, ej]; exact congrArg (fun t => (t, s)) (if_neg hw1)) (congrArg (fun t => some (Value.long t)) (ex_all hb25 (by omega))) (cJ G).ce
      · have e : R_exact s (nI r) (nI j) w = (-4611686018427387904, s) := by unfold R_exact; rw [c11, c21, c29]; rfl
        refine a_ldc2 (pc := 32) kc_X11_180 dX11_exact_32 ?_
        refine a_ret_l (pc := 35) hM rfl dX11_exact_35 (by omega) (by omega) ?_
        exact pubL e rfl (CS.rf hI).ce

theorem mixO_sh {off n : Nat} : ∀ (k lot : Nat) (f F : Nat → Int32), k < n → (∀ i, i < n → f i = F (off + i)) → ∀ i, i < n → mixO 0 f k lot i = mixO off F k lot (off + i) := by
  intro k
  induction k with
  | zero =>
    intro lot f F _ hf i hi
    rw [mixO_0, mixO_0]
    exact hf i hi
  | succ k ih =>
    intro lot f F hk hf i hi
    rw [mixO_s, mixO_s]
    have hm : lot * 48271 % 2147483647 % (k + 1 + 1) < k + 1 + 1 := Nat.mod_lt _ (by omega)
    generalize lot * 48271 % 2147483647 % (k + 1 + 1) = m at hm ⊢
    refine ih _ _ _ (by omega) (fun j hj => ?_) i hi
    show (if j = 0 + m then f (0 + (k + 1)) else if j = 0 + (k + 1) then f (0 + m) else f j) = (if off + j = off + m then F (off + (k + 1)) else if off + j = off + (k + 1) then F (off + m) else F (off + j))
    by_cases q1 : j = m
    · rw [if_pos (show j = 0 + m by omega), if_pos (show off + j = off + m by omega), Nat.zero_add, hf (k + 1) hk]
    · rw [if_neg (show ¬ j = 0 + m by omega), if_neg (show ¬ off + j = off + m by omega)]
      by_cases q2 : j = k + 1
      · rw [if_pos (show j = 0 + (k + 1) by omega), if_pos (show off + j = off + (k + 1) by omega), Nat.zero_add, hf m (by omega)]
      · rw [if_neg (show ¬ j = 0 + (k + 1) by omega), if_neg (show ¬ off + j = off + (k + 1) by omega)]
        exact hf j hj
set_option maxRecDepth 4000 in
theorem w_hitsIf (hI : CI X σ s h) (hV : MV s) {r sd : Nat} (hr : r < vI s 18) (hsd : sd ≤ 1000000) : Fn X 1 0 0 yX5_hitsIfShuffled cX5_hitsIfShuffled 2 (some .int) [.ref (σ 17 r), .int (nI sd)] h (fun rv hv => rv = some (.int (nI (hitsP (sa s 14 (mixT s r (rsz s r) sd)) r (rsz s r)))) ∧ CS X σ s h s hv) := by
  obtain ⟨ks, kp, f, g, h1, h2, h3, hf, hg⟩ := c_run hI hr
  obtain ⟨e4, he4, s0, rfl⟩ := hI.2 20 r hr
  have hz1 := rz1 hV hr
  refine (f_hitsIf h1 h2 h3 (rz25 hV hr) he4 (hI.ne (k := 18) (i := r) hr hr (by omega)) (hI.ne (k := 19) (i := r) hr hr (by omega)) hz1 hsd).imp (fun rv hv ⟨e1, e2⟩ => ⟨e1.trans ?_, ?_⟩)
  · refine congrArg (fun t => some (Value.int (nI t))) (cntN_cg (fun i hi => ?_))
    rw [hg i hi, mixO_sh (off := 25 * r) (n := rsz s r) (rsz s r - 1) (sd + 1) _ (s.2.1 14) (by omega) (fun j hj => ?_) i hi]
    · rfl
    · unfold va_cpy
      rw [if_pos ⟨Nat.zero_le _, by omega⟩, Nat.zero_add, Nat.sub_zero, hf j hj]
  · rw [e2]
    exact hI.put1 (k := 20) hr ⟨_, rfl⟩
theorem inR_N {x : Int32} {n : Nat} : inR x 0 n = inN x (n + 1) := by
  unfold inR inN
  rw [show decide (((0 : Nat) : Int) ≤ x.toInt) = decide (0 ≤ x.toInt) from rfl]
  congr 1
  rw [decide_eq_decide]
  omega
set_option maxRecDepth 4000 in
theorem f_cmixed (hI : CI X σ s h) (hV : MV s) (x d z : Int32) : Fn X 4 0 0 yX11_mixed cX11_mixed 8 (some .int) [.ref (σ 0 0), .int x, .int d, .int z] h (fun rv hv => rv = some (.int (R_mixed s x d z).1) ∧ CE X σ s h (R_mixed s x d z).2 hv) := by
  have b10 : vI s 10 ≤ 4 := hV.1.1.2
  have b18 : vI s 18 ≤ 16 := hV.2.1.1.2
  have b28 : vI s 28 ≤ 10 := hV.2.2.1.1.2
  have b31 : vI s 31 ≤ 6 := hV.2.2.2.1.1.2
  have b3 : vI s 3 ≤ 6 := hV.2.2.2.2.2.2.1.1.2
  refine fn_of (by decide) (Nat.le_of_ble_eq_true rfl) (fun M hM => ?_)
  have lp : ∀ (r sd n : Nat), r < vI s 18 → sd < 100000 → n ≤ 50 → R_mixed s x d z = (nI (mixS s r (rsz s r) sd n), s) → ∀ (j k : Nat) (hh : AH), n - k = j → k ≤ n → CS X σ s h s hh → AJ X M yX11_mixed cX11_mixed 8 (some .int) 63 [(0, .ref (σ 0 0)), (2, .int (nI sd)), (3, .int (nI n)), (4, .ref (σ 17 r)), (5, .int (nI (hitsP s r (rsz s r)))), (6, .int (nI (mixS s r (rsz s r) sd k))), (7, .int (nI k))] [] hh 0 0 := by
    intro r sd n hr hsd hn hR j
    have hz := rz25 hV hr
    have hhl := hitsP_le s r (rsz s r)
    induction j with
    | zero =>
      intro k hh hjk hk hcs
      have hkn : k = n := by omega
      subst hkn
      refine a_iload (pc := 63) dX11_mixed_63 rfl ?_
      refine a_iload_n (pc := 65) dX11_mixed_65 rfl rfl ?_
      refine a_icmp_geN (pc := 66) (tgt := 92) dX11_mixed_66 (by decide) (by omega) (by omega) (fun c66 => ?_) (fun c66 => ?_)
      · refine a_iload (pc := 92) dX11_mixed_92 rfl ?_
        refine a_ret_i (pc := 94) hM rfl (rfl) dX11_mixed_94 (by omega) (by omega) ?_
        exact pubI hR rfl hcs.ce
      · exact absurd c66 (by omega)
    | succ j ih =>
      intro k hh hjk hk hcs
      have hI2 := hcs.2.1
      have hmx : mixS s r (rsz s r) sd k ≤ 1 * k := sumN_le (fun q => by split <;> omega) k
      have hhl2 := hitsP_le (sa s 14 (mixT s r (rsz s r) (sd + k))) r (rsz s r)
      refine a_iload (pc := 63) dX11_mixed_63 rfl ?_
      refine a_iload_n (pc := 65) dX11_mixed_65 rfl rfl ?_
      refine a_icmp_geN (pc := 66) (tgt := 92) dX11_mixed_66 (by decide) (by omega) (by omega) (fun c66 => ?_) (fun c66 => ?_)
      · exact absurd c66 (by omega)
      · refine a_aload (pc := 69) dX11_mixed_69 rfl ?_
        refine a_iload_n (pc := 71) dX11_mixed_71 rfl rfl ?_
        refine a_iload (pc := 72) dX11_mixed_72 rfl ?_
        refine a_iaddN (pc := 74) dX11_mixed_74 ?_
        refine a_callV (pc := 75) km_X11_258 dX11_mixed_75 (w_hitsIf hI2 hV hr (by omega)) rfl rfl (kr_r hI2 hr) (rok_of hM (by decide) (by decide) (by omega) (by omega)) (Nat.le_of_ble_eq_true rfl) (fun r75 h75 hp75 => ?_)
        obtain ⟨rfl, hcs2⟩ := hp75
        refine a_iload (pc := 78) dX11_mixed_78 rfl ?_
        refine a_icmp_ltN (pc := 80) (tgt := 86) dX11_mixed_80 (by decide) (by omega) (by omega) (fun c80 => ?_) (fun c80 => ?_)
        · have e : mixS s r (rsz s r) sd (k + 1) = mixS s r (rsz s r) sd k + 0 := congrArg (mixS s r (rsz s r) sd k + ·) (if_neg (by omega))
          refine a_iincN (pc := 86) (n := 1) dX11_mixed_86 (by decide) rfl (by decide) rfl ?_
          refine a_goto (pc := 89) (tgt := 63) dX11_mixed_89 (by decide) ?_
          exact a_locR (ih (k + 1) _ (by omega) (by omega) (hcs.tr hcs2)) (by rw [e]; exact ⟨rfl, rfl, rfl, rfl, rfl, rfl, rfl, trivial⟩)
        · have e : mixS s r (rsz s r) sd (k + 1) = mixS s r (rsz s r) sd k + 1 := congrArg (mixS s r (rsz s r) sd k + ·) (if_pos (by omega))
          refine a_iincN (pc := 83) (n := 1) dX11_mixed_83 (by decide) rfl (by decide) rfl ?_
          refine a_iincN (pc := 86) (n := 1) dX11_mixed_86 (by decide) rfl (by decide) rfl ?_
          refine a_goto (pc := 89) (tgt := 63) dX11_mixed_89 (by decide) ?_
          exact a_locR (ih (k + 1) _ (by omega) (by omega) (hcs.tr hcs2)) (by rw [e]; exact ⟨rfl, rfl, rfl, rfl, rfl, rfl, rfl, trivial⟩)
  refine a_iload_n (pc := 0) dX11_mixed_0 rfl rfl ?_
  refine a_aload_n (pc := 1) dX11_mixed_1 rfl rfl ?_
  refine a_getfield (pc := 2) kg_X11_16 dX11_mixed_2 (c_fc hI) rfl ?_
  refine a_callV (pc := 5) km_X11_97 dX11_mixed_5 (w_size hI (i := 1) (by decide)) rfl rfl (kr_l hI (i := 1) (by decide)) (rok_of hM (by decide) (by decide) (by omega) (by omega)) (Nat.le_of_ble_eq_true rfl) (fun r5 h5 hp5 => ?_)
  obtain ⟨rfl, rfl⟩ := And.intro hp5.1 hp5.2.symm
  refine a_topi (show _ = nI (vI s 18) from rfl) ?_
  refine a_callS (pc := 8) km_X11_103 dX11_mixed_8 (f_among x (by omega)) rfl rfl (rok_of hM (by decide) (by decide) (by omega) (by omega)) (Nat.le_of_ble_eq_true rfl) (fun r8 h8 hp8 => ?_)
  obtain ⟨rfl, rfl⟩ := And.intro hp8.1 hp8.2.symm
  refine a_if_eqB (pc := 11) (tgt := 34) dX11_mixed_11 (by decide) (fun c11 => ?_) (fun c11 => ?_)
  · have e : R_mixed s x d z = (-2, s) := by unfold R_mixed; rw [c11]; rfl
    refine a_bipush (pc := 34) dX11_mixed_34 ib_m2 ?_
    refine a_ret_i (pc := 36) hM rfl (rfl) dX11_mixed_36 (by omega) (by omega) ?_
    exact pubI e rfl (CS.rf hI).ce
  · obtain ⟨r, hr, rfl⟩ := inN_of c11 (by omega)
    have er : (nI r).toNatClampNeg = r := nI_clamp (by omega)
    refine a_iload_n (pc := 14) dX11_mixed_14 rfl rfl ?_
    refine a_iconst (pc := 15) dX11_mixed_15 ic_0 ?_
    refine a_ldc (pc := 16) kc_X11_85 dX11_mixed_16 ?_
    refine a_topi (show _ = nI 99999 from by decide) ?_
    refine a_callS (pc := 18) km_X11_86 dX11_mixed_18 (f_withN d (by decide) (by decide)) rfl rfl (rok_of hM (by decide) (by decide) (by omega) (by omega)) (Nat.le_of_ble_eq_true rfl) (fun r18 h18 hp18 => ?_)
    obtain ⟨rfl, rfl⟩ := And.intro hp18.1 hp18.2.symm
    refine a_if_eqB (pc := 21) (tgt := 34) dX11_mixed_21 (by decide) (fun c21 => ?_) (fun c21 => ?_)
    · have e21 : inN d 100000 = false := by rw [← inR_N]; exact c21
      have e : R_mixed s (nI r) d z = (-2, s) := by unfold R_mixed; rw [c11, e21]; rfl
      refine a_bipush (pc := 34) dX11_mixed_34 ib_m2 ?_
      refine a_ret_i (pc := 36) hM rfl (rfl) dX11_mixed_36 (by omega) (by omega) ?_
      exact pubI e rfl (CS.rf hI).ce
    · have e21 : inN d 100000 = true := by rw [← inR_N]; exact c21
      obtain ⟨sd, hsd, rfl⟩ := inN_of e21 (by decide)
      have esd : (nI sd).toNatClampNeg = sd := nI_clamp (by omega)
      refine a_iload_n (pc := 24) dX11_mixed_24 rfl rfl ?_
      refine a_iconst (pc := 25) dX11_mixed_25 ic_1 ?_
      refine a_bipush (pc := 26) dX11_mixed_26 ib_50 ?_
      refine a_callS (pc := 28) km_X11_86 dX11_mixed_28 (f_withN z (by decide) (by decide)) rfl rfl (rok_of hM (by decide) (by decide) (by omega) (by omega)) (Nat.le_of_ble_eq_true rfl) (fun r28 h28 hp28 => ?_)
      obtain ⟨rfl, rfl⟩ := And.intro hp28.1 hp28.2.symm
      refine a_if_neB (pc := 31) (tgt := 37) dX11_mixed_31 (by decide) (fun c31 => ?_) (fun c31 => ?_)
      · obtain ⟨n, hn1, hn, rfl⟩ := inR1_of c31
        have en : (nI n).toNatClampNeg = n := nI_clamp (by omega)
        refine a_aload_n (pc := 37) dX11_mixed_37 rfl rfl ?_
        refine a_getfield (pc := 38) kg_X11_16 dX11_mixed_38 (c_fc hI) rfl ?_
        refine a_iload_n (pc := 41) dX11_mixed_41 rfl rfl ?_
        refine a_callV (pc := 42) km_X11_109 dX11_mixed_42 (w_get hI (i := 1) (j := r) (by decide) (show r < vI s 18 from hr)) rfl rfl (kr_l hI (i := 1) (by decide)) (rok_of hM (by decide) (by decide) (by omega) (by omega)) (Nat.le_of_ble_eq_true rfl) (fun r42 h42 hp42 => ?_)
        obtain ⟨rfl, rfl⟩ := And.intro hp42.1 hp42.2.symm
        refine a_topr (show _ = σ 17 r from rfl) ?_
        refine a_castE (pc := 45) kl_X11_107 rfl (c_isR hI (show r < vI s 18 from hr)) dX11_mixed_45 ?_
        refine a_astore (pc := 48) dX11_mixed_48 (by decide) rfl ?_
        refine a_aload (pc := 50) dX11_mixed_50 rfl ?_
        refine a_callV (pc := 52) km_X11_143 dX11_mixed_52 (w_hits hI hV hr) rfl rfl (kr_r hI hr) (rok_of hM (by decide) (by decide) (by omega) (by omega)) (Nat.le_of_ble_eq_true rfl) (fun r52 h52 hp52 => ?_)
        obtain ⟨rfl, rfl⟩ := And.intro hp52.1 hp52.2.symm
        refine a_istore (pc := 55) dX11_mixed_55 (by decide) rfl ?_
        refine a_iconst (pc := 57) dX11_mixed_57 ic_0 ?_
        refine a_istore (pc := 58) dX11_mixed_58 (by decide) rfl ?_
        refine a_iconst (pc := 60) dX11_mixed_60 ic_0 ?_
        refine a_istore (pc := 61) dX11_mixed_61 (by decide) rfl ?_
        exact a_locR (lp r sd n hr hsd hn (by unfold R_mixed; rw [c11, e21, c31, er, esd, en]; rfl) _ 0 _ rfl (Nat.zero_le _) (CS.rf hI)) ⟨rfl, rfl, rfl, rfl, rfl, rfl, rfl, trivial⟩
      · have e : R_mixed s (nI r) (nI sd) z = (-2, s) := by unfold R_mixed; rw [c11, e21, c31]; rfl
        refine a_bipush (pc := 34) dX11_mixed_34 ib_m2 ?_
        refine a_ret_i (pc := 36) hM rfl (rfl) dX11_mixed_36 (by omega) (by omega) ?_
        exact pubI e rfl (CS.rf hI).ce

end CPB

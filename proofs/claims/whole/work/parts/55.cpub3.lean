/-! THE CLASS: THE BEST ONE, FALLS, SERIES -/
section CPC
variable {X : KX} {h : AH} {s : MST} {σ : Nat → Nat → Nat}
set_option maxRecDepth 4000 in
theorem f_cbest (hI : CI X σ s h) (hV : MV s) (d : Int32) : Fn X 4 0 0 yX11_best cX11_best 8 (some .int) [.ref (σ 0 0), .int d] h (fun rv hv => rv = some (.int (R_best s d).1) ∧ CE X σ s h (R_best s d).2 hv) := by
  have b10 : vI s 10 ≤ 4 := hV.1.1.2
  have b18 : vI s 18 ≤ 16 := hV.2.1.1.2
  have b28 : vI s 28 ≤ 10 := hV.2.2.1.1.2
  have b31 : vI s 31 ≤ 6 := hV.2.2.2.1.1.2
  have b3 : vI s 3 ≤ 6 := hV.2.2.2.2.2.2.1.1.2
  refine fn_of (by decide) (Nat.le_of_ble_eq_true rfl) (fun M hM => ?_)
  refine a_iload_n (pc := 0) dX11_best_0 rfl rfl ?_
  refine a_iconst (pc := 1) dX11_best_1 ic_0 ?_
  refine a_bipush (pc := 2) dX11_best_2 ib_100 ?_
  refine a_callS (pc := 4) km_X11_86 dX11_best_4 (f_withN d (by decide) (by decide)) rfl rfl (rok_of hM (by decide) (by decide) (by omega) (by omega)) (Nat.le_of_ble_eq_true rfl) (fun r4 h4 hp4 => ?_)
  obtain ⟨rfl, rfl⟩ := And.intro hp4.1 hp4.2.symm
  refine a_if_neB (pc := 7) (tgt := 13) dX11_best_7 (by decide) (fun c7 => ?_) (fun c7 => ?_)
  · refine a_iconst (pc := 13) dX11_best_13 ic_m1 ?_
    refine a_istore_n (pc := 14) dX11_best_14 rfl (by decide) rfl ?_
    refine a_iconst (pc := 15) dX11_best_15 ic_0 ?_
    refine a_istore_n (pc := 16) dX11_best_16 rfl (by decide) rfl ?_
    refine a_iconst (pc := 17) dX11_best_17 ic_0 ?_
    refine a_istore (pc := 18) dX11_best_18 (by decide) rfl ?_
    refine a_iconst (pc := 20) dX11_best_20 ic_0 ?_
    refine a_istore (pc := 21) dX11_best_21 (by decide) rfl ?_
    have lp : ∀ (j g : Nat) (v3 v4 : Int32), 8 - g = j → g ≤ 8 → (¬ (bestS s d g).1 = -1 → v3 = nI (bestS s d g).2.1 ∧ v4 = nI (bestS s d g).2.2) → AJ X M yX11_best cX11_best 8 (some .int) 23 [(0, .ref (σ 0 0)), (1, .int d), (2, .int (bestS s d g).1), (3, .int v3), (4, .int v4), (5, .int (nI g))] [] h 0 0 := by
      intro j
      induction j with
      | zero =>
        intro g v3 v4 hj hg hbm
        have hg8 : g = 8 := by omega
        subst hg8
        refine a_iload (pc := 23) dX11_best_23 rfl ?_
        refine a_bipush (pc := 25) dX11_best_25 ib_8 ?_
        refine a_icmp_geN (pc := 27) (tgt := 88) dX11_best_27 (by decide) (by omega) (by omega) (fun c27 => ?_) (fun c27 => ?_)
        · refine a_iload_n (pc := 88) dX11_best_88 rfl rfl ?_
          refine a_ret_i (pc := 89) hM rfl (rfl) dX11_best_89 (by omega) (by omega) ?_
          exact pubI (by unfold R_best; rw [c7]; rfl) rfl (CS.rf hI).ce
        · exact absurd c27 (by omega)
      | succ j ih =>
        intro g v3 v4 hj hg hbm
        have hMm := ranM_le s (nI g) (nI 0) d (vI s 18)
        have hHh := ranH_le s (nI g) (nI 0) d (vI s 18) (fun k hk => rz25 hV hk)
        have hB := bestS_le hV d g
        have hp1 : ranH s (nI g) (nI 0) d (vI s 18) * (bestS s d g).2.2 ≤ 400 * 16 := Nat.mul_le_mul (by omega) hB.2
        have hp2 : (bestS s d g).2.1 * ranM s (nI g) (nI 0) d (vI s 18) ≤ 400 * 16 := Nat.mul_le_mul hB.1 (by omega)
        refine a_iload (pc := 23) dX11_best_23 rfl ?_
        refine a_bipush (pc := 25) dX11_best_25 ib_8 ?_
        refine a_icmp_geN (pc := 27) (tgt := 88) dX11_best_27 (by decide) (by omega) (by omega) (fun c27 => ?_) (fun c27 => ?_)
        · exact absurd c27 (by omega)
        · refine a_aload_n (pc := 30) dX11_best_30 rfl rfl ?_
          refine a_iload (pc := 31) dX11_best_31 rfl ?_
          refine a_iconst (pc := 33) dX11_best_33 ic_0 ?_
          refine a_iload_n (pc := 34) dX11_best_34 rfl rfl ?_
          refine a_callV (pc := 35) km_X11_251 dX11_best_35 (f_hitsIn hI hV (nI g) (nI 0) d) rfl rfl (kr_t hI) (rok_of hM (by decide) (by decide) (by omega) (by omega)) (Nat.le_of_ble_eq_true rfl) (fun r35 h35 hp35 => ?_)
          obtain ⟨rfl, rfl⟩ := And.intro hp35.1 hp35.2.symm
          refine a_istore (pc := 38) dX11_best_38 (by decide) rfl ?_
          refine a_aload_n (pc := 40) dX11_best_40 rfl rfl ?_
          refine a_iload (pc := 41) dX11_best_41 rfl ?_
          refine a_iconst (pc := 43) dX11_best_43 ic_0 ?_
          refine a_iload_n (pc := 44) dX11_best_44 rfl rfl ?_
          refine a_callV (pc := 45) km_X11_255 dX11_best_45 (f_runsIn hI hV (nI g) (nI 0) d) rfl rfl (kr_t hI) (rok_of hM (by decide) (by decide) (by omega) (by omega)) (Nat.le_of_ble_eq_true rfl) (fun r45 h45 hp45 => ?_)
          obtain ⟨rfl, rfl⟩ := And.intro hp45.1 hp45.2.symm
          refine a_istore (pc := 48) dX11_best_48 (by decide) rfl ?_
          refine a_iload (pc := 50) dX11_best_50 rfl ?_
          refine a_if_leN (pc := 52) (tgt := 82) dX11_best_52 (by decide) (by omega) (fun c52 => ?_) (fun c52 => ?_)
          · have e : bestS s d (g + 1) = bestS s d g := if_neg (fun z => absurd z.1 (by omega))
            have hnx := hbm
            refine a_iincN (pc := 82) (n := 1) dX11_best_82 (by decide) rfl (by decide) rfl ?_
            refine a_goto (pc := 85) (tgt := 23) dX11_best_85 (by decide) ?_
            exact a_locR (ih (g + 1) _ _ (by omega) (by omega) (by rw [e]; exact hbm)) (by rw [e]; exact ⟨rfl, rfl, rfl, rfl, rfl, rfl, trivial⟩)
          · refine a_iload_n (pc := 55) dX11_best_55 rfl rfl ?_
            refine a_iconst (pc := 56) dX11_best_56 ic_m1 ?_
            refine a_icmp_eq (pc := 57) (tgt := 72) dX11_best_57 (by decide) (fun c57 => ?_) (fun c57 => ?_)
            · have e : bestS s d (g + 1) = (nI g, ranH s (nI g) (nI 0) d (vI s 18), ranM s (nI g) (nI 0) d (vI s 18)) := if_pos ⟨c52, Or.inl c57⟩
              refine a_iload (pc := 72) dX11_best_72 rfl ?_
              refine a_istore_n (pc := 74) dX11_best_74 rfl (by decide) rfl ?_
              refine a_iload (pc := 75) dX11_best_75 rfl ?_
              refine a_istore_n (pc := 77) dX11_best_77 rfl (by decide) rfl ?_
              refine a_iload (pc := 78) dX11_best_78 rfl ?_
              refine a_istore (pc := 80) dX11_best_80 (by decide) rfl ?_
              refine a_iincN (pc := 82) (n := 1) dX11_best_82 (by decide) rfl (by decide) rfl ?_
              refine a_goto (pc := 85) (tgt := 23) dX11_best_85 (by decide) ?_
              exact a_locR (ih (g + 1) _ _ (by omega) (by omega) (by rw [e]; exact fun _ => ⟨rfl, rfl⟩)) (by rw [e]; exact ⟨rfl, rfl, rfl, rfl, rfl, rfl, trivial⟩)
            · obtain ⟨rfl, rfl⟩ := hbm c57
              refine a_iload (pc := 60) dX11_best_60 rfl ?_
              refine a_iload (pc := 62) dX11_best_62 rfl ?_
              refine a_imulN (pc := 64) dX11_best_64 ?_
              refine a_iload_n (pc := 65) dX11_best_65 rfl rfl ?_
              refine a_iload (pc := 66) dX11_best_66 rfl ?_
              refine a_imulN (pc := 68) dX11_best_68 ?_
              refine a_icmp_leN (pc := 69) (tgt := 82) dX11_best_69 (by decide) (by omega) (by omega) (fun c69 => ?_) (fun c69 => ?_)
              · have e : bestS s d (g + 1) = bestS s d g := if_neg (fun z => z.2.elim c57 (fun y => absurd y (by omega)))
                refine a_iincN (pc := 82) (n := 1) dX11_best_82 (by decide) rfl (by decide) rfl ?_
                refine a_goto (pc := 85) (tgt := 23) dX11_best_85 (by decide) ?_
                exact a_locR (ih (g + 1) _ _ (by omega) (by omega) (by rw [e]; exact hbm)) (by rw [e]; exact ⟨rfl, rfl, rfl, rfl, rfl, rfl, trivial⟩)
              · have e : bestS s d (g + 1) = (nI g, ranH s (nI g) (nI 0) d (vI s 18), ranM s (nI g) (nI 0) d (vI s 18)) := if_pos ⟨c52, Or.inr c69⟩
                refine a_iload (pc := 72) dX11_best_72 rfl ?_
                refine a_istore_n (pc := 74) dX11_best_74 rfl (by decide) rfl ?_
                refine a_iload (pc := 75) dX11_best_75 rfl ?_
                refine a_istore_n (pc := 77) dX11_best_77 rfl (by decide) rfl ?_
                refine a_iload (pc := 78) dX11_best_78 rfl ?_
                refine a_istore (pc := 80) dX11_best_80 (by decide) rfl ?_
                refine a_iincN (pc := 82) (n := 1) dX11_best_82 (by decide) rfl (by decide) rfl ?_
                refine a_goto (pc := 85) (tgt := 23) dX11_best_85 (by decide) ?_
                exact a_locR (ih (g + 1) _ _ (by omega) (by omega) (by rw [e]; exact fun _ => ⟨rfl, rfl⟩)) (by rw [e]; exact ⟨rfl, rfl, rfl, rfl, rfl, rfl, trivial⟩)
    exact a_locR (lp _ 0 _ _ rfl (Nat.zero_le _) (fun z => absurd rfl z)) ⟨rfl, rfl, rfl, rfl, rfl, rfl, trivial⟩
  · refine a_bipush (pc := 10) dX11_best_10 ib_m2 ?_
    refine a_ret_i (pc := 12) hM rfl (rfl) dX11_best_12 (by omega) (by omega) ?_
    exact pubI (by unfold R_best; rw [c7]; rfl) rfl (CS.rf hI).ce

set_option maxRecDepth 4000 in
theorem f_cfalls (hI : CI X σ s h) (hV : MV s) (g d w : Int32) : Fn X 4 1 2 yX11_falls cX11_falls 7 (some .long) [.ref (σ 0 0), .int g, .int d, .int w] h (fun rv hv => rv = some (.long (R_falls s g d w).1) ∧ CE X σ s h (R_falls s g d w).2 hv) := by
  have b10 : vI s 10 ≤ 4 := hV.1.1.2
  have b18 : vI s 18 ≤ 16 := hV.2.1.1.2
  have b28 : vI s 28 ≤ 10 := hV.2.2.1.1.2
  have b31 : vI s 31 ≤ 6 := hV.2.2.2.1.1.2
  have b3 : vI s 3 ≤ 6 := hV.2.2.2.2.2.2.1.1.2
  refine fn_of (by decide) (Nat.le_of_ble_eq_true rfl) (fun M hM => ?_)
  refine a_iload_n (pc := 0) dX11_falls_0 rfl rfl ?_
  refine a_bipush (pc := 1) dX11_falls_1 ib_8 ?_
  refine a_callS (pc := 3) km_X11_103 dX11_falls_3 (f_among g (by decide)) rfl rfl (rok_of hM (by decide) (by decide) (by omega) (by omega)) (Nat.le_of_ble_eq_true rfl) (fun r3 h3 hp3 => ?_)
  obtain ⟨rfl, rfl⟩ := And.intro hp3.1 hp3.2.symm
  refine a_if_eqB (pc := 6) (tgt := 27) dX11_falls_6 (by decide) (fun c6 => ?_) (fun c6 => ?_)
  · have e : R_falls s g d w = (-4611686018427387904, s) := by unfold R_falls; rw [c6]; rfl
    refine a_ldc2 (pc := 27) kc_X11_180 dX11_falls_27 ?_
    refine a_ret_l (pc := 30) hM rfl dX11_falls_30 (by omega) (by omega) ?_
    exact pubL e rfl (CS.rf hI).ce
  · refine a_iload_n (pc := 9) dX11_falls_9 rfl rfl ?_
    refine a_iconst (pc := 10) dX11_falls_10 ic_0 ?_
    refine a_bipush (pc := 11) dX11_falls_11 ib_100 ?_
    refine a_callS (pc := 13) km_X11_86 dX11_falls_13 (f_withN d (by decide) (by decide)) rfl rfl (rok_of hM (by decide) (by decide) (by omega) (by omega)) (Nat.le_of_ble_eq_true rfl) (fun r13 h13 hp13 => ?_)
    obtain ⟨rfl, rfl⟩ := And.intro hp13.1 hp13.2.symm
    refine a_if_eqB (pc := 16) (tgt := 27) dX11_falls_16 (by decide) (fun c16 => ?_) (fun c16 => ?_)
    · have e : R_falls s g d w = (-4611686018427387904, s) := by unfold R_falls; rw [c6, c16]; rfl
      refine a_ldc2 (pc := 27) kc_X11_180 dX11_falls_27 ?_
      refine a_ret_l (pc := 30) hM rfl dX11_falls_30 (by omega) (by omega) ?_
      exact pubL e rfl (CS.rf hI).ce
    · refine a_iload_n (pc := 19) dX11_falls_19 rfl rfl ?_
      refine a_iconst (pc := 20) dX11_falls_20 ic_2 ?_
      refine a_callS (pc := 21) km_X11_103 dX11_falls_21 (f_among w (by decide)) rfl rfl (rok_of hM (by decide) (by decide) (by omega) (by omega)) (Nat.le_of_ble_eq_true rfl) (fun r21 h21 hp21 => ?_)
      obtain ⟨rfl, rfl⟩ := And.intro hp21.1 hp21.2.symm
      refine a_if_neB (pc := 24) (tgt := 31) dX11_falls_24 (by decide) (fun c24 => ?_) (fun c24 => ?_)
      · refine a_new (pc := 31) kn_X11_235 dX11_falls_31 (by rw [hM.1]; simp only [rmd]; omega) (by rw [hM.1]; simp only [rmd]; omega) (fun q hq => ?_)
        have hJ := fun e : kE => (hI.new (e := e) hq).2.1
        have cJ := fun e : kE => hI.new (e := e) hq
        have hM1 := ranM_le s g (nI 0) d (vI s 18)
        have hM2 := ranM_le s g d (nI 100) (vI s 18)
        have hH1 := ranH_leM s g (nI 0) d (vI s 18) (fun k hk => rz25 hV hk)
        have hH2 := ranH_leM s g d (nI 100) (vI s 18) (fun k hk => rz25 hV hk)
        refine a_dup (pc := 34) dX11_falls_34 rfl ?_
        refine a_callI (pc := 35) km_X11_237 dX11_falls_35 (f_frInit kput_eq) rfl rfl (rok_of hM (by decide) (by decide) (by omega) (by omega)) (Nat.le_of_ble_eq_true rfl) (fun r35 h35 hp35 => ?_)
        obtain ⟨rfl, rfl⟩ := And.intro hp35.1 hp35.2.symm
        refine a_hp kput_put ?_
        refine a_astore (pc := 38) dX11_falls_38 (by decide) rfl ?_
        refine a_aload_n (pc := 40) dX11_falls_40 rfl rfl ?_
        refine a_iload_n (pc := 41) dX11_falls_41 rfl rfl ?_
        refine a_iconst (pc := 42) dX11_falls_42 ic_0 ?_
        refine a_iload_n (pc := 43) dX11_falls_43 rfl rfl ?_
        refine a_callV (pc := 44) km_X11_255 dX11_falls_44 (f_runsIn (hJ _) hV g (nI 0) d) rfl rfl (kr_t (hJ _)) (rok_of hM (by decide) (by decide) (by omega) (by omega)) (Nat.le_of_ble_eq_true rfl) (fun r44 h44 hp44 => ?_)
        obtain ⟨rfl, rfl⟩ := And.intro hp44.1 hp44.2.symm
        refine a_istore (pc := 47) dX11_falls_47 (by decide) rfl ?_
        refine a_aload_n (pc := 49) dX11_falls_49 rfl rfl ?_
        refine a_iload_n (pc := 50) dX11_falls_50 rfl rfl ?_
        refine a_iload_n (pc := 51) dX11_falls_51 rfl rfl ?_
        refine a_bipush (pc := 52) dX11_falls_52 ib_100 ?_
        refine a_callV (pc := 54) km_X11_255 dX11_falls_54 (f_runsIn (hJ _) hV g d (nI 100)) rfl rfl (kr_t (hJ _)) (rok_of hM (by decide) (by decide) (by omega) (by omega)) (Nat.le_of_ble_eq_true rfl) (fun r54 h54 hp54 => ?_)
        obtain ⟨rfl, rfl⟩ := And.intro hp54.1 hp54.2.symm
        refine a_istore (pc := 57) dX11_falls_57 (by decide) rfl ?_
        refine a_iload (pc := 59) dX11_falls_59 rfl ?_
        refine a_if_leN (pc := 61) (tgt := 103) dX11_falls_61 (by decide) (by omega) (fun c61 => ?_) (fun c61 => ?_)
        · have ff : fallF s g d = (0, 1) := if_neg (fun z => absurd z.1 (by omega))
          have hA0 : lZ (fallF s g d).1 = lN 0 := by rw [ff]; rfl
          have hB0 : lN (fallF s g d).2 = lN 1 := by rw [ff]
          refine a_iload_n (pc := 103) dX11_falls_103 rfl rfl ?_
          refine a_if_ne (pc := 104) (tgt := 115) dX11_falls_104 (by decide) (fun c104 => ?_) (fun c104 => ?_)
          · have eR : R_falls s g d w = (lN (fallF s g d).2, s) := by unfold R_falls; rw [c6, c16, c24]; exact congrArg (fun t => (t, s)) (if_neg c104)
            refine a_aload (pc := 115) dX11_falls_115 rfl ?_
            refine a_getfield (pc := 117) kg_X11_248 dX11_falls_117 (kput_eq) rfl ?_
            refine a_ret_l (pc := 120) hM rfl dX11_falls_120 (by omega) (by omega) ?_
            exact pubL eR (congrArg (fun t => some (Value.long t)) (by first | exact hA0.symm | exact hB0.symm)) (cJ _).ce
          · have eR : R_falls s g d w = (lZ (fallF s g d).1, s) := by unfold R_falls; rw [c6, c16, c24]; exact congrArg (fun t => (t, s)) (if_pos c104)
            refine a_aload (pc := 107) dX11_falls_107 rfl ?_
            refine a_getfield (pc := 109) kg_X11_244 dX11_falls_109 (kput_eq) rfl ?_
            refine a_goto (pc := 112) (tgt := 120) dX11_falls_112 (by decide) ?_
            refine a_ret_l (pc := 120) hM rfl dX11_falls_120 (by omega) (by omega) ?_
            exact pubL eR (congrArg (fun t => some (Value.long t)) (by first | exact hA0.symm | exact hB0.symm)) (cJ _).ce
        · refine a_iload (pc := 64) dX11_falls_64 rfl ?_
          refine a_if_leN (pc := 66) (tgt := 103) dX11_falls_66 (by decide) (by omega) (fun c66 => ?_) (fun c66 => ?_)
          · have ff : fallF s g d = (0, 1) := if_neg (fun z => absurd z.2 (by omega))
            have hA0 : lZ (fallF s g d).1 = lN 0 := by rw [ff]; rfl
            have hB0 : lN (fallF s g d).2 = lN 1 := by rw [ff]
            refine a_iload_n (pc := 103) dX11_falls_103 rfl rfl ?_
            refine a_if_ne (pc := 104) (tgt := 115) dX11_falls_104 (by decide) (fun c104 => ?_) (fun c104 => ?_)
            · have eR : R_falls s g d w = (lN (fallF s g d).2, s) := by unfold R_falls; rw [c6, c16, c24]; exact congrArg (fun t => (t, s)) (if_neg c104)
              refine a_aload (pc := 115) dX11_falls_115 rfl ?_
              refine a_getfield (pc := 117) kg_X11_248 dX11_falls_117 (kput_eq) rfl ?_
              refine a_ret_l (pc := 120) hM rfl dX11_falls_120 (by omega) (by omega) ?_
              exact pubL eR (congrArg (fun t => some (Value.long t)) (by first | exact hA0.symm | exact hB0.symm)) (cJ _).ce
            · have eR : R_falls s g d w = (lZ (fallF s g d).1, s) := by unfold R_falls; rw [c6, c16, c24]; exact congrArg (fun t => (t, s)) (if_pos c104)
              refine a_aload (pc := 107) dX11_falls_107 rfl ?_
              refine a_getfield (pc := 109) kg_X11_244 dX11_falls_109 (kput_eq) rfl ?_
              refine a_goto (pc := 112) (tgt := 120) dX11_falls_112 (by decide) ?_
              refine a_ret_l (pc := 120) hM rfl dX11_falls_120 (by omega) (by omega) ?_
              exact pubL eR (congrArg (fun t => some (Value.long t)) (by first | exact hA0.symm | exact hB0.symm)) (cJ _).ce
          · have ok1 := fr_ok fr_0 (a := ((ranH s g (nI 0) d (vI s 18)) : Nat)) c61 (by omega) (cast_le hH1)
            refine a_aload (pc := 69) dX11_falls_69 rfl ?_
            refine a_aload_n (pc := 71) dX11_falls_71 rfl rfl ?_
            refine a_iload_n (pc := 72) dX11_falls_72 rfl rfl ?_
            refine a_iconst (pc := 73) dX11_falls_73 ic_0 ?_
            refine a_iload_n (pc := 74) dX11_falls_74 rfl rfl ?_
            refine a_callV (pc := 75) km_X11_251 dX11_falls_75 (f_hitsIn (hJ _) hV g (nI 0) d) rfl rfl (kr_t (hJ _)) (rok_of hM (by decide) (by decide) (by omega) (by omega)) (Nat.le_of_ble_eq_true rfl) (fun r75 h75 hp75 => ?_)
            obtain ⟨rfl, rfl⟩ := And.intro hp75.1 hp75.2.symm
            refine a_i2lN (pc := 78) dX11_falls_78 (by omega) ?_
            refine a_iload (pc := 79) dX11_falls_79 rfl ?_
            refine a_i2lN (pc := 81) dX11_falls_81 (by omega) ?_
            refine a_2nd_l (z := lZ (((ranH s g (nI 0) d (vI s 18)) : Nat) : Int)) (lZ_N (ranH s g (nI 0) d (vI s 18))).symm ?_
            refine a_callV (pc := 82) km_X11_241 dX11_falls_82 (f_frAdd (A := 0) (B := 1) (x := (((ranH s g (nI 0) d (vI s 18)) : Nat) : Int)) (b := (ranM s g (nI 0) d (vI s 18))) kput_eq fr_0 (by decide) c61 (by omega) (cast_le hH1)) rfl rfl (krecv_of (ci := 0) rfl kput_eq) (rok_of hM (by decide) (by decide) (by omega) (by omega)) (Nat.le_of_ble_eq_true rfl) (fun r82 h82 hp82 => ?_)
            obtain ⟨rfl, rfl⟩ := And.intro hp82.1 hp82.2.symm
            refine a_hp kput_put ?_
            refine a_aload (pc := 85) dX11_falls_85 rfl ?_
            refine a_aload_n (pc := 87) dX11_falls_87 rfl rfl ?_
            refine a_iload_n (pc := 88) dX11_falls_88 rfl rfl ?_
            refine a_iload_n (pc := 89) dX11_falls_89 rfl rfl ?_
            refine a_bipush (pc := 90) dX11_falls_90 ib_100 ?_
            refine a_callV (pc := 92) km_X11_251 dX11_falls_92 (f_hitsIn (hJ _) hV g d (nI 100)) rfl rfl (kr_t (hJ _)) (rok_of hM (by decide) (by decide) (by omega) (by omega)) (Nat.le_of_ble_eq_true rfl) (fun r92 h92 hp92 => ?_)
            obtain ⟨rfl, rfl⟩ := And.intro hp92.1 hp92.2.symm
            refine a_ineg (pc := 95) dX11_falls_95 ?_
            refine a_i2l (pc := 96) dX11_falls_96 ?_
            refine a_topl (neg_nI (by omega)) ?_
            refine a_iload (pc := 97) dX11_falls_97 rfl ?_
            refine a_i2lN (pc := 99) dX11_falls_99 (by omega) ?_
            refine a_callV (pc := 100) km_X11_241 dX11_falls_100 (f_frAdd (A := (frA 0 1 ((ranH s g (nI 0) d (vI s 18)) : Nat) (ranM s g (nI 0) d (vI s 18)))) (B := (frB 0 1 ((ranH s g (nI 0) d (vI s 18)) : Nat) (ranM s g (nI 0) d (vI s 18)))) (x := (-(((ranH s g d (nI 100) (vI s 18)) : Nat) : Int))) (b := (ranM s g d (nI 100) (vI s 18))) kput_eq ok1 (by decide) c66 (by omega) (castn_le hH2)) rfl rfl (krecv_of (ci := 0) rfl kput_eq) (rok_of hM (by decide) (by decide) (by omega) (by omega)) (Nat.le_of_ble_eq_true rfl) (fun r100 h100 hp100 => ?_)
            obtain ⟨rfl, rfl⟩ := And.intro hp100.1 hp100.2.symm
            refine a_hp kput_put ?_
            have ff : fallF s g d = ((frA (frA 0 1 ((ranH s g (nI 0) d (vI s 18)) : Nat) (ranM s g (nI 0) d (vI s 18))) (frB 0 1 ((ranH s g (nI 0) d (vI s 18)) : Nat) (ranM s g (nI 0) d (vI s 18))) (-((ranH s g d (nI 100) (vI s 18)) : Nat)) (ranM s g d (nI 100) (vI s 18))), (frB (frA 0 1 ((ranH s g (nI 0) d (vI s 18)) : Nat) (ranM s g (nI 0) d (vI s 18))) (frB 0 1 ((ranH s g (nI 0) d (vI s 18)) : Nat) (ranM s g (nI 0) d (vI s 18))) (-((ranH s g d (nI 100) (vI s 18)) : Nat)) (ranM s g d (nI 100) (vI s 18)))) := if_pos ⟨c61, c66⟩
            have hA0 : lZ (fallF s g d).1 = lZ (frA (frA 0 1 ((ranH s g (nI 0) d (vI s 18)) : Nat) (ranM s g (nI 0) d (vI s 18))) (frB 0 1 ((ranH s g (nI 0) d (vI s 18)) : Nat) (ranM s g (nI 0) d (vI s 18))) (-((ranH s g d (nI 100) (vI s 18)) : Nat)) (ranM s g d (nI 100) (vI s 18))) := by rw [ff]
            have hB0 : lN (fallF s g d).2 = lN (frB (frA 0 1 ((ranH s g (nI 0) d (vI s 18)) : Nat) (ranM s g (nI 0) d (vI s 18))) (frB 0 1 ((ranH s g (nI 0) d (vI s 18)) : Nat) (ranM s g (nI 0) d (vI s 18))) (-((ranH s g d (nI 100) (vI s 18)) : Nat)) (ranM s g d (nI 100) (vI s 18))) := by rw [ff]
            refine a_iload_n (pc := 103) dX11_falls_103 rfl rfl ?_
            refine a_if_ne (pc := 104) (tgt := 115) dX11_falls_104 (by decide) (fun c104 => ?_) (fun c104 => ?_)
            · have eR : R_falls s g d w = (lN (fallF s g d).2, s) := by unfold R_falls; rw [c6, c16, c24]; exact congrArg (fun t => (t, s)) (if_neg c104)
              refine a_aload (pc := 115) dX11_falls_115 rfl ?_
              refine a_getfield (pc := 117) kg_X11_248 dX11_falls_117 (kput_eq) rfl ?_
              refine a_ret_l (pc := 120) hM rfl dX11_falls_120 (by omega) (by omega) ?_
              exact pubL eR (congrArg (fun t => some (Value.long t)) (by first | exact hA0.symm | exact hB0.symm)) (cJ _).ce
            · have eR : R_falls s g d w = (lZ (fallF s g d).1, s) := by unfold R_falls; rw [c6, c16, c24]; exact congrArg (fun t => (t, s)) (if_pos c104)
              refine a_aload (pc := 107) dX11_falls_107 rfl ?_
              refine a_getfield (pc := 109) kg_X11_244 dX11_falls_109 (kput_eq) rfl ?_
              refine a_goto (pc := 112) (tgt := 120) dX11_falls_112 (by decide) ?_
              refine a_ret_l (pc := 120) hM rfl dX11_falls_120 (by omega) (by omega) ?_
              exact pubL eR (congrArg (fun t => some (Value.long t)) (by first | exact hA0.symm | exact hB0.symm)) (cJ _).ce
      · have e : R_falls s g d w = (-4611686018427387904, s) := by unfold R_falls; rw [c6, c16, c24]; rfl
        refine a_ldc2 (pc := 27) kc_X11_180 dX11_falls_27 ?_
        refine a_ret_l (pc := 30) hM rfl dX11_falls_30 (by omega) (by omega) ?_
        exact pubL e rfl (CS.rf hI).ce

theorem CS.out (hI : CI X σ s h) {hh : AH} {q : Nat} {e : kE} (hc : CS X σ s h s hh) (hq : h q = none) : CS X σ s h s (kput hh q e) := by
  have hn := hI.fr hq
  refine ⟨hc.1, ⟨hc.2.1.1, fun k i hk => ?_⟩, fun a ha h2 => ⟨(kput_ne (fun z => ha (by rw [z]; exact hq))).trans (hc.2.2 a ha h2).1, h2⟩⟩
  obtain ⟨e', he, hcp⟩ := hc.2.1.2 k i hk
  exact ⟨e', (kput_ne (fun z => hn k i hk z.symm)).trans he, hcp⟩
set_option maxRecDepth 4000 in
theorem f_cseries (hI : CI X σ s h) (hV : MV s) (g kept w : Int32) : Fn X 5 1 2 yX11_series cX11_series 9 (some .long) [.ref (σ 0 0), .int g, .int kept, .int w] h (fun rv hv => rv = some (.long (R_series s g kept w).1) ∧ CE X σ s h (R_series s g kept w).2 hv) := by
  have b10 : vI s 10 ≤ 4 := hV.1.1.2
  have b18 : vI s 18 ≤ 16 := hV.2.1.1.2
  have b28 : vI s 28 ≤ 10 := hV.2.2.1.1.2
  have b31 : vI s 31 ≤ 6 := hV.2.2.2.1.1.2
  have b3 : vI s 3 ≤ 6 := hV.2.2.2.2.2.2.1.1.2
  refine fn_of (by decide) (Nat.le_of_ble_eq_true rfl) (fun M hM => ?_)
  refine a_iload_n (pc := 0) dX11_series_0 rfl rfl ?_
  refine a_bipush (pc := 1) dX11_series_1 ib_8 ?_
  refine a_callS (pc := 3) km_X11_103 dX11_series_3 (f_among g (by decide)) rfl rfl (rok_of hM (by decide) (by decide) (by omega) (by omega)) (Nat.le_of_ble_eq_true rfl) (fun r3 h3 hp3 => ?_)
  obtain ⟨rfl, rfl⟩ := And.intro hp3.1 hp3.2.symm
  refine a_if_eqB (pc := 6) (tgt := 26) dX11_series_6 (by decide) (fun c6 => ?_) (fun c6 => ?_)
  · have e : R_series s g kept w = (-4611686018427387904, s) := by unfold R_series; rw [c6]; rfl
    refine a_ldc2 (pc := 26) kc_X11_180 dX11_series_26 ?_
    refine a_ret_l (pc := 29) hM rfl dX11_series_29 (by omega) (by omega) ?_
    exact pubL e rfl (CS.rf hI).ce
  · refine a_iload_n (pc := 9) dX11_series_9 rfl rfl ?_
    refine a_iconst (pc := 10) dX11_series_10 ic_2 ?_
    refine a_callS (pc := 11) km_X11_103 dX11_series_11 (f_among kept (by decide)) rfl rfl (rok_of hM (by decide) (by decide) (by omega) (by omega)) (Nat.le_of_ble_eq_true rfl) (fun r11 h11 hp11 => ?_)
    obtain ⟨rfl, rfl⟩ := And.intro hp11.1 hp11.2.symm
    refine a_if_eqB (pc := 14) (tgt := 26) dX11_series_14 (by decide) (fun c14 => ?_) (fun c14 => ?_)
    · have e : R_series s g kept w = (-4611686018427387904, s) := by unfold R_series; rw [c6, c14]; rfl
      refine a_ldc2 (pc := 26) kc_X11_180 dX11_series_26 ?_
      refine a_ret_l (pc := 29) hM rfl dX11_series_29 (by omega) (by omega) ?_
      exact pubL e rfl (CS.rf hI).ce
    · refine a_iload_n (pc := 17) dX11_series_17 rfl rfl ?_
      refine a_bipush (pc := 18) dX11_series_18 ib_6 ?_
      refine a_callS (pc := 20) km_X11_103 dX11_series_20 (f_among w (by decide)) rfl rfl (rok_of hM (by decide) (by decide) (by omega) (by omega)) (Nat.le_of_ble_eq_true rfl) (fun r20 h20 hp20 => ?_)
      obtain ⟨rfl, rfl⟩ := And.intro hp20.1 hp20.2.symm
      refine a_if_neB (pc := 23) (tgt := 30) dX11_series_23 (by decide) (fun c23 => ?_) (fun c23 => ?_)
      · obtain ⟨kp, hkp, rfl⟩ := inN_of c14 (by decide)
        have ekp : (nI kp).toNatClampNeg = kp := nI_clamp (by omega)
        obtain ⟨v, hv, rfl⟩ := inN_of c23 (by decide)
        have ev : (nI v).toNatClampNeg = v := nI_clamp (by omega)
        have hR : R_series s g (nI kp) (nI v) = (serV (serF s g kp (vI s 18)) v, s) := by unfold R_series; rw [c6, c14, inR_N, c23, ekp, ev]; rfl
        refine a_iconst (pc := 30) dX11_series_30 ic_0 ?_
        refine a_istore (pc := 31) dX11_series_31 (by decide) rfl ?_
        refine a_iconst (pc := 33) dX11_series_33 ic_0 ?_
        refine a_istore (pc := 34) dX11_series_34 (by decide) rfl ?_
        refine a_new (pc := 36) kn_X11_235 dX11_series_36 (by rw [hM.1]; simp only [rmd]; omega) (by rw [hM.1]; simp only [rmd]; omega) (fun q hq => ?_)
        have cJ := fun e : kE => hI.new (e := e) hq
        refine a_dup (pc := 39) dX11_series_39 rfl ?_
        refine a_callI (pc := 40) km_X11_237 dX11_series_40 (f_frInit kput_eq) rfl rfl (rok_of hM (by decide) (by decide) (by omega) (by omega)) (Nat.le_of_ble_eq_true rfl) (fun r40 h40 hp40 => ?_)
        obtain ⟨rfl, rfl⟩ := And.intro hp40.1 hp40.2.symm
        refine a_hp kput_put ?_
        refine a_astore (pc := 43) dX11_series_43 (by decide) rfl ?_
        refine a_iconst (pc := 45) dX11_series_45 ic_0 ?_
        refine a_istore (pc := 46) dX11_series_46 (by decide) rfl ?_
        have fin : ∀ (t : SR) (k : Nat) (hh : AH), t = serF s g kp (vI s 18) → CS X σ s h s hh → hh q = some (kO 0 [.long (lZ t.2.2.1), .long (lN t.2.2.2.1)]) → t.1 ≤ 16 → t.2.1 ≤ 400 → AJ X M yX11_series cX11_series 9 (some .long) 155 [(0, .ref (σ 0 0)), (1, .int g), (2, .int (nI kp)), (3, .int (nI v)), (4, .int (nI t.1)), (5, .int (nI t.2.1)), (6, .ref q), (7, .int (nI k))] [] hh 1 2 := by
          intro t k hh ht hcs hq2 ht1 ht2
          refine a_iload_n (pc := 155) dX11_series_155 rfl rfl ?_
          rcases (by omega : v = 0 ∨ v = 1 ∨ v = 2 ∨ v = 3 ∨ v = 4 ∨ v = 5) with rfl | rfl | rfl | rfl | rfl | rfl
          · refine a_tabIn (pc := 156) (off := 36) (tgt := 192) dX11_series_156 (by decide) (by decide) rfl (by decide) ?_
            refine a_iload (pc := 192) dX11_series_192 rfl ?_
            refine a_i2lN (pc := 194) dX11_series_194 (by omega) ?_
            refine a_ret_l (pc := 195) hM rfl dX11_series_195 (by omega) (by omega) ?_
            exact pubL (by rw [hR, ← ht]; rfl) rfl hcs.ce
          · refine a_tabIn (pc := 156) (off := 40) (tgt := 196) dX11_series_156 (by decide) (by decide) rfl (by decide) ?_
            refine a_iload (pc := 196) dX11_series_196 rfl ?_
            refine a_i2lN (pc := 198) dX11_series_198 (by omega) ?_
            refine a_ret_l (pc := 199) hM rfl dX11_series_199 (by omega) (by omega) ?_
            exact pubL (by rw [hR, ← ht]; rfl) rfl hcs.ce
          · refine a_tabIn (pc := 156) (off := 44) (tgt := 200) dX11_series_156 (by decide) (by decide) rfl (by decide) ?_
            refine a_aload (pc := 200) dX11_series_200 rfl ?_
            refine a_getfield (pc := 202) kg_X11_244 dX11_series_202 (hq2) rfl ?_
            refine a_ret_l (pc := 205) hM rfl dX11_series_205 (by omega) (by omega) ?_
            exact pubL (by rw [hR, ← ht]; rfl) rfl hcs.ce
          · refine a_tabIn (pc := 156) (off := 50) (tgt := 206) dX11_series_156 (by decide) (by decide) rfl (by decide) ?_
            refine a_aload (pc := 206) dX11_series_206 rfl ?_
            refine a_getfield (pc := 208) kg_X11_248 dX11_series_208 (hq2) rfl ?_
            refine a_ret_l (pc := 211) hM rfl dX11_series_211 (by omega) (by omega) ?_
            exact pubL (by rw [hR, ← ht]; rfl) rfl hcs.ce
          · refine a_tabIn (pc := 156) (off := 56) (tgt := 212) dX11_series_156 (by decide) (by decide) rfl (by decide) ?_
            refine a_iload (pc := 212) dX11_series_212 rfl ?_
            refine a_i2lN (pc := 214) dX11_series_214 (by omega) ?_
            refine a_aload (pc := 215) dX11_series_215 rfl ?_
            refine a_getfield (pc := 217) kg_X11_248 dX11_series_217 (hq2) rfl ?_
            refine a_topl ((show _ = lN t.2.2.2.1 from rfl)) ?_
            refine a_lmulN (pc := 220) dX11_series_220 ?_
            refine a_aload (pc := 221) dX11_series_221 rfl ?_
            refine a_getfield (pc := 223) kg_X11_244 dX11_series_223 (hq2) rfl ?_
            refine a_lsub (pc := 226) dX11_series_226 ?_
            refine a_ret_l (pc := 227) hM rfl dX11_series_227 (by omega) (by omega) ?_
            exact pubL (by rw [hR, ← ht]; rfl) rfl hcs.ce
          · refine a_tabOut (pc := 156) (tgt := 228) dX11_series_156 (by decide) (by decide) ?_
            refine a_aload (pc := 228) dX11_series_228 rfl ?_
            refine a_getfield (pc := 230) kg_X11_248 dX11_series_230 (hq2) rfl ?_
            refine a_ret_l (pc := 233) hM rfl dX11_series_233 (by omega) (by omega) ?_
            exact pubL (by rw [hR, ← ht]; rfl) rfl hcs.ce
        have step : ∀ (j k : Nat) (t : SR) (hh : AH), (∀ (k : Nat) (t : SR) (hh : AH), vI s 18 - k = j → k ≤ vI s 18 → t = serF s g kp k → t.2.2.2.2 = false → CS X σ s h s hh → hh q = some (kO 0 [.long (lZ t.2.2.1), .long (lN t.2.2.2.1)]) → FrOk (25 * t.1) t.2.2.1 t.2.2.2.1 → t.1 ≤ k → t.2.1 ≤ 25 * k → AJ X M yX11_series cX11_series 9 (some .long) 48 [(0, .ref (σ 0 0)), (1, .int g), (2, .int (nI kp)), (3, .int (nI v)), (4, .int (nI t.1)), (5, .int (nI t.2.1)), (6, .ref q), (7, .int (nI k))] [] hh 1 2) → vI s 18 - k = j + 1 → k < vI s 18 → t = serF s g kp k → t.2.2.2.2 = false → ¬ (¬ s.2.1 12 k = g ∨ (kp = 1 ∧ saysV s k 1 = 0)) → CS X σ s h s hh → hh q = some (kO 0 [.long (lZ t.2.2.1), .long (lN t.2.2.2.1)]) → FrOk (25 * t.1) t.2.2.1 t.2.2.2.1 → t.1 ≤ k → t.2.1 ≤ 25 * k → AJ X M yX11_series cX11_series 9 (some .long) 101 [(0, .ref (σ 0 0)), (1, .int g), (2, .int (nI kp)), (3, .int (nI v)), (4, .int (nI t.1)), (5, .int (nI t.2.1)), (6, .ref q), (7, .int (nI k)), (8, .ref (σ 17 k))] [] hh 1 2 := by
          intro j k t hh ih hjk hk18 ht hst hcond hcs hq2 hF htk hth
          have hI2 := hcs.2.1
          obtain ⟨ks, kp2, f, g2, h1, h2, h3, hf, hg⟩ := c_run hI2 hk18
          have hz := rz25 hV (r := k) hk18
          have hz1 := rz1 hV (r := k) hk18
          have hh25 := hitsP_le s k (rsz s k)
          have hex := expP_le (r := k) (n := rsz s k) (hV.1.2 _ (r11 hV hk18)).2.2.1
          have hok := fr_ok hF (a := (expP s k (vA s 11 k) (rsz s k) 5 : Nat)) (by omega) (by omega : rsz s k < 26) (cast_le hex)
          have e : serF s g kp (k + 1) = (t.1 + 1, t.2.1 + hitsP s k (rsz s k), (frA t.2.2.1 t.2.2.2.1 (expP s k (vA s 11 k) (rsz s k) 5 : Nat) (rsz s k)), (frB t.2.2.1 t.2.2.2.1 (expP s k (vA s 11 k) (rsz s k) 5 : Nat) (rsz s k)), decide (kp = 0 ∧ ¬ saysV s k 0 = 0)) := by rw [serF, ← ht, if_neg (by rw [hst]; decide), if_neg hcond]
          refine a_iincN (pc := 101) (n := 1) dX11_series_101 (by decide) rfl (by decide) rfl ?_
          refine a_iload (pc := 104) dX11_series_104 rfl ?_
          refine a_aload (pc := 106) dX11_series_106 rfl ?_
          refine a_callV (pc := 108) km_X11_143 dX11_series_108 (w_hits hI2 hV (r := k) hk18) rfl rfl (kr_r hI2 hk18) (rok_of hM (by decide) (by decide) (by omega) (by omega)) (Nat.le_of_ble_eq_true rfl) (fun r108 h108 hp108 => ?_)
          obtain ⟨rfl, rfl⟩ := And.intro hp108.1 hp108.2.symm
          refine a_iaddN (pc := 111) dX11_series_111 ?_
          refine a_istore (pc := 112) dX11_series_112 (by decide) rfl ?_
          refine a_aload (pc := 114) dX11_series_114 rfl ?_
          refine a_aload (pc := 116) dX11_series_116 rfl ?_
          refine a_callV (pc := 118) km_X11_238 dX11_series_118 (w_expAb hI2 hV (r := k) hk18) rfl rfl (kr_r hI2 hk18) (rok_of hM (by decide) (by decide) (by omega) (by omega)) (Nat.le_of_ble_eq_true rfl) (fun r118 h118 hp118 => ?_)
          obtain ⟨rfl, rfl⟩ := And.intro hp118.1 hp118.2.symm
          refine a_i2lN (pc := 121) dX11_series_121 (by omega) ?_
          refine a_aload (pc := 122) dX11_series_122 rfl ?_
          refine a_getfield (pc := 124) kg_X11_119 dX11_series_124 (h1) rfl ?_
          refine a_alen (pc := 127) (t := 0) rfl dX11_series_127 (h2) rfl ?_
          refine a_i2lN (pc := 128) dX11_series_128 (by omega) ?_
          refine a_2nd_l (z := lZ ((expP s k (vA s 11 k) (rsz s k) 5 : Nat) : Int)) (lZ_N (expP s k (vA s 11 k) (rsz s k) 5)).symm ?_
          refine a_callV (pc := 129) km_X11_241 dX11_series_129 (f_frAdd (A := t.2.2.1) (B := t.2.2.2.1) (x := ((expP s k (vA s 11 k) (rsz s k) 5 : Nat) : Int)) (b := rsz s k) hq2 hF (by omega) (by omega) (by omega) (cast_le hex)) rfl rfl (krecv_of (ci := 0) rfl hq2) (rok_of hM (by decide) (by decide) (by omega) (by omega)) (Nat.le_of_ble_eq_true rfl) (fun r129 h129 hp129 => ?_)
          obtain ⟨rfl, rfl⟩ := And.intro hp129.1 hp129.2.symm
          have hcs3 := fun e : kE => hcs.out hI (e := e) hq
          have hI3 := fun e : kE => (hcs3 e).2.1
          refine a_iload_n (pc := 132) dX11_series_132 rfl rfl ?_
          refine a_if_neN (pc := 133) (tgt := 149) dX11_series_133 (by decide) (by omega) (fun c133 => ?_) (fun c133 => ?_)
          · have hv : decide (kp = 0 ∧ ¬ saysV s k 0 = 0) = false := decide_eq_false (fun z => absurd z.1 (by omega))
            refine a_iincN (pc := 149) (n := 1) dX11_series_149 (by decide) rfl (by decide) rfl ?_
            refine a_goto (pc := 152) (tgt := 48) dX11_series_152 (by decide) ?_
            exact a_locR (ih (k + 1) (serF s g kp (k + 1)) _ (by omega) (by omega) rfl (by rw [e]; exact hv) (hcs3 _) (by rw [e]; exact kput_eq) (by rw [e]; show FrOk (25 * (t.1 + 1)) _ _; rw [Nat.mul_succ]; exact hok) (by rw [e]; show t.1 + 1 ≤ k + 1; omega) (by rw [e]; show t.2.1 + hitsP s k (rsz s k) ≤ 25 * (k + 1); omega)) (by rw [e]; exact ⟨rfl, rfl, rfl, rfl, rfl, rfl, rfl, rfl, trivial⟩)
          · refine a_aload_n (pc := 136) dX11_series_136 rfl rfl ?_
            refine a_iload (pc := 137) dX11_series_137 rfl ?_
            refine a_iconst (pc := 139) dX11_series_139 ic_0 ?_
            refine a_callV (pc := 140) km_X11_177 dX11_series_140 (f_ruled (hI3 _) hV (r := k) (w := 0) hk18 (by decide)) rfl rfl (kr_t (hI3 _)) (rok_of hM (by decide) (by decide) (by omega) (by omega)) (Nat.le_of_ble_eq_true rfl) (fun r140 h140 hp140 => ?_)
            obtain ⟨rfl, hcs4⟩ := hp140
            have hq4 := hcs4.2.2.keep kput_eq (hI.fr hq)
            refine a_if_eq (pc := 143) (tgt := 149) dX11_series_143 (by decide) (fun c143 => ?_) (fun c143 => ?_)
            · have hv : decide (kp = 0 ∧ ¬ saysV s k 0 = 0) = false := decide_eq_false (fun z => z.2 c143)
              refine a_iincN (pc := 149) (n := 1) dX11_series_149 (by decide) rfl (by decide) rfl ?_
              refine a_goto (pc := 152) (tgt := 48) dX11_series_152 (by decide) ?_
              exact a_locR (ih (k + 1) (serF s g kp (k + 1)) _ (by omega) (by omega) rfl (by rw [e]; exact hv) ((hcs3 _).tr hcs4) (by rw [e]; exact hq4) (by rw [e]; show FrOk (25 * (t.1 + 1)) _ _; rw [Nat.mul_succ]; exact hok) (by rw [e]; show t.1 + 1 ≤ k + 1; omega) (by rw [e]; show t.2.1 + hitsP s k (rsz s k) ≤ 25 * (k + 1); omega)) (by rw [e]; exact ⟨rfl, rfl, rfl, rfl, rfl, rfl, rfl, rfl, trivial⟩)
            · have hstp : decide (kp = 0 ∧ ¬ saysV s k 0 = 0) = true := decide_eq_true ⟨c133, c143⟩
              refine a_goto (pc := 146) (tgt := 155) dX11_series_146 (by decide) ?_
              exact a_locR (fin (serF s g kp (k + 1)) k _ (by have z := serF_stop (s := s) (g := g) (q := kp) (k := k + 1) (by rw [e]; exact hstp) (vI s 18 - (k + 1)); rw [show k + 1 + (vI s 18 - (k + 1)) = vI s 18 by omega] at z; exact z.symm) ((hcs3 _).tr hcs4) (by rw [e]; exact hq4) (by rw [e]; show t.1 + 1 ≤ 16; omega) (by rw [e]; show t.2.1 + hitsP s k (rsz s k) ≤ 400; omega)) (by rw [e]; exact ⟨rfl, rfl, rfl, rfl, rfl, rfl, rfl, rfl, trivial⟩)
        have loop : ∀ (j k : Nat) (t : SR) (hh : AH), vI s 18 - k = j → k ≤ vI s 18 → t = serF s g kp k → t.2.2.2.2 = false → CS X σ s h s hh → hh q = some (kO 0 [.long (lZ t.2.2.1), .long (lN t.2.2.2.1)]) → FrOk (25 * t.1) t.2.2.1 t.2.2.2.1 → t.1 ≤ k → t.2.1 ≤ 25 * k → AJ X M yX11_series cX11_series 9 (some .long) 48 [(0, .ref (σ 0 0)), (1, .int g), (2, .int (nI kp)), (3, .int (nI v)), (4, .int (nI t.1)), (5, .int (nI t.2.1)), (6, .ref q), (7, .int (nI k))] [] hh 1 2 := by
          intro j
          induction j with
          | zero =>
            intro k t hh hjk hk ht hst hcs hq2 hF htk hth
            have hI2 := hcs.2.1
            have hkk : k = vI s 18 := by omega
            refine a_iload (pc := 48) dX11_series_48 rfl ?_
            refine a_aload_n (pc := 50) dX11_series_50 rfl rfl ?_
            refine a_getfield (pc := 51) kg_X11_16 dX11_series_51 (c_fc hI2) rfl ?_
            refine a_callV (pc := 54) km_X11_97 dX11_series_54 (w_size hI2 (i := 1) (by decide)) rfl rfl (kr_l hI2 (i := 1) (by decide)) (rok_of hM (by decide) (by decide) (by omega) (by omega)) (Nat.le_of_ble_eq_true rfl) (fun r54 h54 hp54 => ?_)
            obtain ⟨rfl, rfl⟩ := And.intro hp54.1 hp54.2.symm
            refine a_topi (show _ = nI (vI s 18) from rfl) ?_
            refine a_icmp_geN (pc := 57) (tgt := 155) dX11_series_57 (by decide) (by omega) (by omega) (fun c57 => ?_) (fun c57 => ?_)
            · exact a_locR (fin t k _ (by rw [ht, hkk]) hcs hq2 (by omega) (by omega)) ⟨rfl, rfl, rfl, rfl, rfl, rfl, rfl, rfl, trivial⟩
            · exact absurd c57 (by omega)
          | succ j ih =>
            intro k t hh hjk hk ht hst hcs hq2 hF htk hth
            have hI2 := hcs.2.1
            refine a_iload (pc := 48) dX11_series_48 rfl ?_
            refine a_aload_n (pc := 50) dX11_series_50 rfl rfl ?_
            refine a_getfield (pc := 51) kg_X11_16 dX11_series_51 (c_fc hI2) rfl ?_
            refine a_callV (pc := 54) km_X11_97 dX11_series_54 (w_size hI2 (i := 1) (by decide)) rfl rfl (kr_l hI2 (i := 1) (by decide)) (rok_of hM (by decide) (by decide) (by omega) (by omega)) (Nat.le_of_ble_eq_true rfl) (fun r54 h54 hp54 => ?_)
            obtain ⟨rfl, rfl⟩ := And.intro hp54.1 hp54.2.symm
            refine a_topi (show _ = nI (vI s 18) from rfl) ?_
            refine a_icmp_geN (pc := 57) (tgt := 155) dX11_series_57 (by decide) (by omega) (by omega) (fun c57 => ?_) (fun c57 => ?_)
            · exact absurd c57 (by omega)
            · have hk18 : k < vI s 18 := by omega
              obtain ⟨ks, kp2, f, g2, h1, h2, h3, hf, hg⟩ := c_run hI2 hk18
              refine a_aload_n (pc := 60) dX11_series_60 rfl rfl ?_
              refine a_getfield (pc := 61) kg_X11_16 dX11_series_61 (c_fc hI2) rfl ?_
              refine a_iload (pc := 64) dX11_series_64 rfl ?_
              refine a_callV (pc := 66) km_X11_109 dX11_series_66 (w_get hI2 (i := 1) (j := k) (by decide) (show k < vI s 18 from hk18)) rfl rfl (kr_l hI2 (i := 1) (by decide)) (rok_of hM (by decide) (by decide) (by omega) (by omega)) (Nat.le_of_ble_eq_true rfl) (fun r66 h66 hp66 => ?_)
              obtain ⟨rfl, rfl⟩ := And.intro hp66.1 hp66.2.symm
              refine a_topr (show _ = σ 17 k from rfl) ?_
              refine a_castE (pc := 69) kl_X11_107 rfl (c_isR hI2 (show k < vI s 18 from hk18)) dX11_series_69 ?_
              refine a_astore (pc := 72) dX11_series_72 (by decide) rfl ?_
              refine a_aload (pc := 74) dX11_series_74 rfl ?_
              refine a_getfield (pc := 76) kg_X11_150 dX11_series_76 (h1) rfl ?_
              refine a_iload_n (pc := 79) dX11_series_79 rfl rfl ?_
              refine a_icmp_ne (pc := 80) (tgt := 149) dX11_series_80 (by decide) (fun c80 => ?_) (fun c80 => ?_)
              · have e : serF s g kp (k + 1) = t := by rw [serF, ← ht, if_neg (by rw [hst]; decide), if_pos (Or.inl c80)]
                refine a_iincN (pc := 149) (n := 1) dX11_series_149 (by decide) rfl (by decide) rfl ?_
                refine a_goto (pc := 152) (tgt := 48) dX11_series_152 (by decide) ?_
                exact a_locR (ih (k + 1) t _ (by omega) (by omega) e.symm hst hcs hq2 hF (by omega) (by omega)) ⟨rfl, rfl, rfl, rfl, rfl, rfl, rfl, rfl, trivial⟩
              · refine a_iload_n (pc := 83) dX11_series_83 rfl rfl ?_
                refine a_iconst (pc := 84) dX11_series_84 ic_1 ?_
                refine a_icmp_neN (pc := 85) (tgt := 101) dX11_series_85 (by decide) (by omega) (by omega) (fun c85 => ?_) (fun c85 => ?_)
                · exact a_locR (step j k t _ (fun k t hh => ih k t hh) (by omega) hk18 ht hst (fun z => z.elim (fun y => y c80) (fun y => absurd y.1 (by omega))) hcs hq2 hF htk hth) ⟨rfl, rfl, rfl, rfl, rfl, rfl, rfl, rfl, rfl, trivial⟩
                · refine a_aload_n (pc := 88) dX11_series_88 rfl rfl ?_
                  refine a_iload (pc := 89) dX11_series_89 rfl ?_
                  refine a_iconst (pc := 91) dX11_series_91 ic_1 ?_
                  refine a_callV (pc := 92) km_X11_177 dX11_series_92 (f_ruled hI2 hV (r := k) (w := 1) hk18 (by decide)) rfl rfl (kr_t hI2) (rok_of hM (by decide) (by decide) (by omega) (by omega)) (Nat.le_of_ble_eq_true rfl) (fun r92 h92 hp92 => ?_)
                  obtain ⟨rfl, hcs4⟩ := hp92
                  have hq4 := hcs4.2.2.keep hq2 (hI.fr hq)
                  refine a_if_ne (pc := 95) (tgt := 101) dX11_series_95 (by decide) (fun c95 => ?_) (fun c95 => ?_)
                  · exact a_locR (step j k t _ (fun k t hh => ih k t hh) (by omega) hk18 ht hst (fun z => z.elim (fun y => y c80) (fun y => c95 y.2)) (hcs.tr hcs4) hq4 hF htk hth) ⟨rfl, rfl, rfl, rfl, rfl, rfl, rfl, rfl, rfl, trivial⟩
                  · have hkp1 : kp = 1 := by omega
                    have e : serF s g kp (k + 1) = t := by rw [serF, ← ht, if_neg (by rw [hst]; decide), if_pos (Or.inr ⟨hkp1, c95⟩)]
                    refine a_goto (pc := 98) (tgt := 149) dX11_series_98 (by decide) ?_
                    refine a_iincN (pc := 149) (n := 1) dX11_series_149 (by decide) rfl (by decide) rfl ?_
                    refine a_goto (pc := 152) (tgt := 48) dX11_series_152 (by decide) ?_
                    exact a_locR (ih (k + 1) t _ (by omega) (by omega) e.symm hst (hcs.tr hcs4) hq4 hF (by omega) (by omega)) ⟨rfl, rfl, rfl, rfl, rfl, rfl, rfl, rfl, trivial⟩
        exact a_wid (by omega) (by omega) (a_locR (loop _ 0 (serF s g kp 0) _ rfl (Nat.zero_le _) rfl rfl (cJ _) kput_eq fr_0 (Nat.le_refl _) (Nat.le_refl _)) ⟨rfl, rfl, rfl, rfl, rfl, rfl, rfl, rfl, trivial⟩)
      · have e : R_series s g kept w = (-4611686018427387904, s) := by unfold R_series; rw [c6, c14, inR_N, c23]; rfl
        refine a_ldc2 (pc := 26) kc_X11_180 dX11_series_26 ?_
        refine a_ret_l (pc := 29) hM rfl dX11_series_29 (by omega) (by omega) ?_
        exact pubL e rfl (CS.rf hI).ce

end CPC

/-! PACKS AND RUNS MADE -/
section CMK
variable {X : KX} {h : AH} {s : MST}
theorem kput_mid {h : AH} {a q : Nat} {e1 e2 e3 : kE} (hn : a ≠ q) : kput (kput (kput h q e1) a e2) q e3 = kput (kput h q e3) a e2 := by
  rw [kput_comm (a := a) (b := q) hn, kput_put]
set_option maxRecDepth 4000 in
theorem f_paInit {a c : Nat} (ha : h a = some (kO 3 [.null, .int 0])) (hc : c < 100000) : Fn X 1 1 5 yX3_init cX3_init 5 none [.ref a, .int (nI c)] h (fun rv hv => rv = none ∧ ∃ q, h q = none ∧ hv = kput (kput h q (kI 5 (packF (fun _ => 0) 0 c))) a (kO 3 [.ref q, .int (nI (dsum c))])) := by
  refine fn_of (by decide) (Nat.le_of_ble_eq_true rfl) (fun M hM => ?_)
  refine a_aload_n (pc := 0) dX3_init_0 rfl rfl ?_
  refine a_objInit (pc := 1) ko_X3_3 ko_im ko_co dX3_init_1 (by rw [hM.1]; simp only [rmd]; omega) (by rw [hM.1]; simp [rmd, Value.category] <;> omega) ?_
  refine a_aload_n (pc := 4) dX3_init_4 rfl rfl ?_
  refine a_iconst (pc := 5) dX3_init_5 ic_5 ?_
  refine a_newI (pc := 6) ka_int dX3_init_6 rfl (by omega) (by rw [hM.1]; simp only [rmd]; omega) (by rw [hM.1]; simp only [rmd]; omega) (fun q hq => ?_)
  have haq : a ≠ q := kne ha hq
  refine a_putfieldF (pc := 8) kf_X3_9 rfl dX3_init_8 ((kput_ne haq).trans ha) (rfl) (by rfl) (Nat.le_of_ble_eq_true rfl) ?_
  refine a_hp (show _ = kput (kput h q (kI 5 (fun _ => 0))) a (kO 3 [.ref q, .int 0]) from rfl) ?_
  refine a_iload_n (pc := 11) dX3_init_11 rfl rfl ?_
  refine a_istore_n (pc := 12) dX3_init_12 rfl (by decide) rfl ?_
  refine a_iconst (pc := 13) dX3_init_13 ic_0 ?_
  refine a_istore_n (pc := 14) dX3_init_14 rfl (by decide) rfl ?_
  refine a_iconst (pc := 15) dX3_init_15 ic_4 ?_
  refine a_istore (pc := 16) dX3_init_16 (by decide) rfl ?_
  have hk0 : ∀ k : Nat, k < 5 → ¬ nI k < 0 := fun k hk => by rw [Int32.lt_iff_toInt_lt, nI_toInt (by omega)]; simp
  have rnd : ∀ (r sm k : Nat) (v' : Int32) (F : Nat → Int32), r < 100000 → k < 5 → nI k + Int32.ofInt (-1) = v' → AJ X M yX3_init cX3_init 5 none 18 [(0, .ref a), (2, .int (nI (r / 10))), (3, .int (nI (sm + r % 10))), (4, .int v')] [] (kput (kput h q (kI 5 (upd F k (nI (r % 10))))) a (kO 3 [.ref q, .int 0])) 1 5 → AJ X M yX3_init cX3_init 5 none 18 [(0, .ref a), (2, .int (nI r)), (3, .int (nI sm)), (4, .int (nI k))] [] (kput (kput h q (kI 5 F)) a (kO 3 [.ref q, .int 0])) 1 5 := by
    intro r sm k v' F hr hk hv hK
    refine a_iload (pc := 18) dX3_init_18 rfl ?_
    refine a_if_lt_f (pc := 20) (tgt := 52) dX3_init_20 (by decide) (hk0 _ hk) ?_
    refine a_aload_n (pc := 23) dX3_init_23 rfl rfl ?_
    refine a_getfield (pc := 24) kg_X3_9 dX3_init_24 (kput_eq) rfl ?_
    refine a_iload (pc := 27) dX3_init_27 rfl ?_
    refine a_iload_n (pc := 29) dX3_init_29 rfl rfl ?_
    refine a_bipush (pc := 30) dX3_init_30 ib_10 ?_
    refine a_iremN (pc := 32) dX3_init_32 (by omega) (by omega) (by omega) ?_
    refine a_iastore (pc := 33) dX3_init_33 ((kput_ne (Ne.symm haq)).trans kput_eq) (k) (rfl) (by omega) (by omega) ?_
    refine a_hp (kput_mid haq) ?_
    refine a_iload_n (pc := 34) dX3_init_34 rfl rfl ?_
    refine a_iload_n (pc := 35) dX3_init_35 rfl rfl ?_
    refine a_bipush (pc := 36) dX3_init_36 ib_10 ?_
    refine a_iremN (pc := 38) dX3_init_38 (by omega) (by omega) (by omega) ?_
    refine a_iaddN (pc := 39) dX3_init_39 ?_
    refine a_istore_n (pc := 40) dX3_init_40 rfl (by decide) rfl ?_
    refine a_iload_n (pc := 41) dX3_init_41 rfl rfl ?_
    refine a_bipush (pc := 42) dX3_init_42 ib_10 ?_
    refine a_idivN (pc := 44) dX3_init_44 (by omega) (by omega) (by omega) ?_
    refine a_istore_n (pc := 45) dX3_init_45 rfl (by decide) rfl ?_
    refine a_iinc (pc := 46) dX3_init_46 rfl hv (by decide) rfl ?_
    refine a_goto (pc := 49) (tgt := 18) dX3_init_49 (by decide) ?_
    exact a_locR hK ⟨rfl, rfl, rfl, rfl, trivial⟩
  suffices hS : AJ X M yX3_init cX3_init 5 none 18 [(0, .ref a), (2, .int (nI c)), (3, .int (nI 0)), (4, .int (nI 4))] [] (kput (kput h q (kI 5 (fun _ => 0))) a (kO 3 [.ref q, .int 0])) 1 5 from a_wid (by omega) (by omega) (a_locR hS ⟨rfl, rfl, rfl, rfl, trivial⟩)
  refine rnd c 0 4 _ _ (by omega) (by omega) (show _ = nI 3 from rfl) ?_
  refine rnd (c / 10) (0 + c % 10) 3 _ _ (by omega) (by omega) (show _ = nI 2 from rfl) ?_
  refine rnd (c / 10 / 10) ((0 + c % 10) + (c / 10) % 10) 2 _ _ (by omega) (by omega) (show _ = nI 1 from rfl) ?_
  refine rnd (c / 10 / 10 / 10) (((0 + c % 10) + (c / 10) % 10) + (c / 10 / 10) % 10) 1 _ _ (by omega) (by omega) (show _ = nI 0 from rfl) ?_
  refine rnd (c / 10 / 10 / 10 / 10) ((((0 + c % 10) + (c / 10) % 10) + (c / 10 / 10) % 10) + (c / 10 / 10 / 10) % 10) 0 _ _ (by omega) (by omega) (show _ = (-1) from rfl) ?_
  refine a_iload (pc := 18) dX3_init_18 rfl ?_
  refine a_if_lt_t (pc := 20) (tgt := 52) dX3_init_20 (by decide) (by decide) ?_
  refine a_aload_n (pc := 52) dX3_init_52 rfl rfl ?_
  refine a_iload_n (pc := 53) dX3_init_53 rfl rfl ?_
  refine a_putfieldF (pc := 54) kf_X3_15 rfl dX3_init_54 (kput_eq) (rfl) (by rfl) (Nat.le_of_ble_eq_true rfl) ?_
  refine a_ret_v (pc := 57) hM rfl dX3_init_57 (by omega) (by omega) ?_
  exact ⟨rfl, q, hq, kput_put.trans (by unfold packF dsum; simp only [Nat.zero_add]; rfl)⟩

set_option maxRecDepth 4000 in
theorem f_ruInit {a pk pa n p : Nat} {pn gu dy : Int32} {pf : Nat → Int32} (ha : h a = some (kO 5 [.int 0, .null, .int 0, .int 0, .null, .null, .int 0, .int 0, .null, .null, .null, .null, .int 0, .int 0])) (hp : h pk = some (kO 3 [.ref pa, .int (nI n)])) (hpa : h pa = some (kI 5 pf)) (hn : n ≤ 25) (hpf : ∀ j, j < 5 → pf j = nI (vA s 8 (5 * p + j))) (h5 : cumP s p 5 = n) : Fn X 1 6 (5 + n + n + n + n + n) yX5_init cX5_init 8 none [.ref a, .int pn, .ref pk, .int gu, .int dy] h (fun rv hv => rv = none ∧ ∃ (lf cd gs sp kc kg : Nat) (f : Nat → Int32), h lf = none ∧ (kput h lf (kI 5 (fun _ => 0))) cd = none ∧ (kput (kput h lf (kI 5 (fun _ => 0))) cd (kI n (fun _ => 0))) gs = none ∧ (kput (kput (kput h lf (kI 5 (fun _ => 0))) cd (kI n (fun _ => 0))) gs (kI n (fun _ => 0))) sp = none ∧ (kput (kput (kput (kput h lf (kI 5 (fun _ => 0))) cd (kI n (fun _ => 0))) gs (kI n (fun _ => 0))) sp (kI n (fun _ => 0))) kc = none ∧ (kput (kput (kput (kput (kput h lf (kI 5 (fun _ => 0))) cd (kI n (fun _ => 0))) gs (kI n (fun _ => 0))) sp (kI n (fun _ => 0))) kc (kI n (fun _ => 0))) kg = none ∧ (∀ i, i < n → f i = nI (sgP s p i)) ∧ hv = (kput (kput (kput (kput (kput (kput (kput (kput h lf (kI 5 (fun _ => 0))) cd (kI n (fun _ => 0))) gs (kI n (fun _ => 0))) sp (kI n (fun _ => 0))) kc (kI n (fun _ => 0))) kg (kI n (fun _ => 0))) cd (kI n f)) a (rO pn gu dy 0 0 0 0 pk cd gs sp lf kc kg))) := by
  have hpka : pk ≠ a := oo_ne hp ha
  have hpaa : pa ≠ a := (oi_ne ha hpa).symm
  refine fn_of (by decide) (Nat.le_of_ble_eq_true rfl) (fun M hM => ?_)
  refine a_aload_n (pc := 0) dX5_init_0 rfl rfl ?_
  refine a_objInit (pc := 1) ko_X5_3 ko_im ko_co dX5_init_1 (by rw [hM.1]; simp only [rmd]; omega) (by rw [hM.1]; simp [rmd, Value.category] <;> omega) ?_
  refine a_aload_n (pc := 4) dX5_init_4 rfl rfl ?_
  refine a_iconst (pc := 5) dX5_init_5 ic_5 ?_
  refine a_newI (pc := 6) ka_int dX5_init_6 rfl (by omega) (by rw [hM.1]; simp only [rmd]; omega) (by rw [hM.1]; simp only [rmd]; omega) (fun lf hlf => ?_)
  have n_lf : lf ≠ a := fun z => by rw [z] at hlf; first | exact absurd (kput_eq.symm.trans hlf) (by simp) | (rw [ha] at hlf; exact absurd hlf (by simp))
  have np_lf : pk ≠ lf := fun z => by rw [← z] at hlf; exact absurd (hlf.symm.trans (hp)) (by simp)
  refine a_putfieldF (pc := 8) kf_X5_9 rfl dX5_init_8 ((kput_ne (Ne.symm n_lf)).trans ha) (rfl) (by rfl) (Nat.le_of_ble_eq_true rfl) ?_
  refine a_hp (show _ = kput (kput h lf (kI 5 (fun _ => 0))) a (kO 5 [.int 0, .null, .int 0, .int 0, .null, .null, .int 0, .int 0, .null, .ref lf, .null, .null, .int 0, .int 0]) from rfl) ?_
  refine a_aload_n (pc := 11) dX5_init_11 rfl rfl ?_
  refine a_iload_n (pc := 12) dX5_init_12 rfl rfl ?_
  refine a_putfieldF (pc := 13) kf_X5_15 rfl dX5_init_13 (kput_eq) (rfl) (by rfl) (Nat.le_of_ble_eq_true rfl) ?_
  refine a_hp (show _ = kput (kput h lf (kI 5 (fun _ => 0))) a (kO 5 [.int pn, .null, .int 0, .int 0, .null, .null, .int 0, .int 0, .null, .ref lf, .null, .null, .int 0, .int 0]) from kput_put) ?_
  refine a_aload_n (pc := 16) dX5_init_16 rfl rfl ?_
  refine a_aload_n (pc := 17) dX5_init_17 rfl rfl ?_
  refine a_putfieldF (pc := 18) kf_X5_19 rfl dX5_init_18 (kput_eq) (rfl) (by rfl) (Nat.le_of_ble_eq_true rfl) ?_
  refine a_hp (show _ = kput (kput h lf (kI 5 (fun _ => 0))) a (kO 5 [.int pn, .ref pk, .int 0, .int 0, .null, .null, .int 0, .int 0, .null, .ref lf, .null, .null, .int 0, .int 0]) from kput_put) ?_
  refine a_aload_n (pc := 21) dX5_init_21 rfl rfl ?_
  refine a_iload_n (pc := 22) dX5_init_22 rfl rfl ?_
  refine a_putfieldF (pc := 23) kf_X5_23 rfl dX5_init_23 (kput_eq) (rfl) (by rfl) (Nat.le_of_ble_eq_true rfl) ?_
  refine a_hp (show _ = kput (kput h lf (kI 5 (fun _ => 0))) a (kO 5 [.int pn, .ref pk, .int gu, .int 0, .null, .null, .int 0, .int 0, .null, .ref lf, .null, .null, .int 0, .int 0]) from kput_put) ?_
  refine a_aload_n (pc := 26) dX5_init_26 rfl rfl ?_
  refine a_iload (pc := 27) dX5_init_27 rfl ?_
  refine a_putfieldF (pc := 29) kf_X5_26 rfl dX5_init_29 (kput_eq) (rfl) (by rfl) (Nat.le_of_ble_eq_true rfl) ?_
  refine a_hp (show _ = kput (kput h lf (kI 5 (fun _ => 0))) a (kO 5 [.int pn, .ref pk, .int gu, .int dy, .null, .null, .int 0, .int 0, .null, .ref lf, .null, .null, .int 0, .int 0]) from kput_put) ?_
  refine a_aload_n (pc := 32) dX5_init_32 rfl rfl ?_
  refine a_aload_n (pc := 33) dX5_init_33 rfl rfl ?_
  refine a_getfield (pc := 34) kg_X5_29 dX5_init_34 ((kput_ne hpka).trans ((kput_ne np_lf).trans (hp))) rfl ?_
  refine a_topi ((show nI n = nI n from rfl)) ?_
  refine a_newI (pc := 37) ka_int dX5_init_37 rfl (by omega) (by rw [hM.1]; simp only [rmd]; omega) (by rw [hM.1]; simp only [rmd]; omega) (fun cd hcd => ?_)
  have n_cd : cd ≠ a := fun z => by rw [z] at hcd; first | exact absurd (kput_eq.symm.trans hcd) (by simp) | (rw [ha] at hcd; exact absurd hcd (by simp))
  have np_cd : pk ≠ cd := fun z => by rw [← z] at hcd; exact absurd (hcd.symm.trans ((kput_ne hpka).trans ((kput_ne np_lf).trans (hp)))) (by simp)
  refine a_putfieldF (pc := 39) kf_X5_34 rfl dX5_init_39 ((kput_ne (Ne.symm n_cd)).trans kput_eq) (rfl) (by rfl) (Nat.le_of_ble_eq_true rfl) ?_
  refine a_hp (show _ = kput (kput (kput h lf (kI 5 (fun _ => 0))) cd (kI n (fun _ => 0))) a (kO 5 [.int pn, .ref pk, .int gu, .int dy, .ref cd, .null, .int 0, .int 0, .null, .ref lf, .null, .null, .int 0, .int 0]) from kput_fin2 n_cd) ?_
  refine a_aload_n (pc := 42) dX5_init_42 rfl rfl ?_
  refine a_aload_n (pc := 43) dX5_init_43 rfl rfl ?_
  refine a_getfield (pc := 44) kg_X5_29 dX5_init_44 ((kput_ne hpka).trans ((kput_ne np_cd).trans ((kput_ne np_lf).trans (hp)))) rfl ?_
  refine a_topi ((show nI n = nI n from rfl)) ?_
  refine a_newI (pc := 47) ka_int dX5_init_47 rfl (by omega) (by rw [hM.1]; simp only [rmd]; omega) (by rw [hM.1]; simp only [rmd]; omega) (fun gs hgs => ?_)
  have n_gs : gs ≠ a := fun z => by rw [z] at hgs; first | exact absurd (kput_eq.symm.trans hgs) (by simp) | (rw [ha] at hgs; exact absurd hgs (by simp))
  have np_gs : pk ≠ gs := fun z => by rw [← z] at hgs; exact absurd (hgs.symm.trans ((kput_ne hpka).trans ((kput_ne np_cd).trans ((kput_ne np_lf).trans (hp))))) (by simp)
  refine a_putfieldF (pc := 49) kf_X5_36 rfl dX5_init_49 ((kput_ne (Ne.symm n_gs)).trans kput_eq) (rfl) (by rfl) (Nat.le_of_ble_eq_true rfl) ?_
  refine a_hp (show _ = kput (kput (kput (kput h lf (kI 5 (fun _ => 0))) cd (kI n (fun _ => 0))) gs (kI n (fun _ => 0))) a (kO 5 [.int pn, .ref pk, .int gu, .int dy, .ref cd, .ref gs, .int 0, .int 0, .null, .ref lf, .null, .null, .int 0, .int 0]) from kput_fin2 n_gs) ?_
  refine a_aload_n (pc := 52) dX5_init_52 rfl rfl ?_
  refine a_aload_n (pc := 53) dX5_init_53 rfl rfl ?_
  refine a_getfield (pc := 54) kg_X5_29 dX5_init_54 ((kput_ne hpka).trans ((kput_ne np_gs).trans ((kput_ne np_cd).trans ((kput_ne np_lf).trans (hp))))) rfl ?_
  refine a_topi ((show nI n = nI n from rfl)) ?_
  refine a_newI (pc := 57) ka_int dX5_init_57 rfl (by omega) (by rw [hM.1]; simp only [rmd]; omega) (by rw [hM.1]; simp only [rmd]; omega) (fun sp hsp => ?_)
  have n_sp : sp ≠ a := fun z => by rw [z] at hsp; first | exact absurd (kput_eq.symm.trans hsp) (by simp) | (rw [ha] at hsp; exact absurd hsp (by simp))
  have np_sp : pk ≠ sp := fun z => by rw [← z] at hsp; exact absurd (hsp.symm.trans ((kput_ne hpka).trans ((kput_ne np_gs).trans ((kput_ne np_cd).trans ((kput_ne np_lf).trans (hp)))))) (by simp)
  refine a_putfieldF (pc := 59) kf_X5_39 rfl dX5_init_59 ((kput_ne (Ne.symm n_sp)).trans kput_eq) (rfl) (by rfl) (Nat.le_of_ble_eq_true rfl) ?_
  refine a_hp (show _ = kput (kput (kput (kput (kput h lf (kI 5 (fun _ => 0))) cd (kI n (fun _ => 0))) gs (kI n (fun _ => 0))) sp (kI n (fun _ => 0))) a (kO 5 [.int pn, .ref pk, .int gu, .int dy, .ref cd, .ref gs, .int 0, .int 0, .ref sp, .ref lf, .null, .null, .int 0, .int 0]) from kput_fin2 n_sp) ?_
  refine a_aload_n (pc := 62) dX5_init_62 rfl rfl ?_
  refine a_aload_n (pc := 63) dX5_init_63 rfl rfl ?_
  refine a_getfield (pc := 64) kg_X5_29 dX5_init_64 ((kput_ne hpka).trans ((kput_ne np_sp).trans ((kput_ne np_gs).trans ((kput_ne np_cd).trans ((kput_ne np_lf).trans (hp)))))) rfl ?_
  refine a_topi ((show nI n = nI n from rfl)) ?_
  refine a_newI (pc := 67) ka_int dX5_init_67 rfl (by omega) (by rw [hM.1]; simp only [rmd]; omega) (by rw [hM.1]; simp only [rmd]; omega) (fun kc hkc => ?_)
  have n_kc : kc ≠ a := fun z => by rw [z] at hkc; first | exact absurd (kput_eq.symm.trans hkc) (by simp) | (rw [ha] at hkc; exact absurd hkc (by simp))
  have np_kc : pk ≠ kc := fun z => by rw [← z] at hkc; exact absurd (hkc.symm.trans ((kput_ne hpka).trans ((kput_ne np_sp).trans ((kput_ne np_gs).trans ((kput_ne np_cd).trans ((kput_ne np_lf).trans (hp))))))) (by simp)
  refine a_putfieldF (pc := 69) kf_X5_42 rfl dX5_init_69 ((kput_ne (Ne.symm n_kc)).trans kput_eq) (rfl) (by rfl) (Nat.le_of_ble_eq_true rfl) ?_
  refine a_hp (show _ = kput (kput (kput (kput (kput (kput h lf (kI 5 (fun _ => 0))) cd (kI n (fun _ => 0))) gs (kI n (fun _ => 0))) sp (kI n (fun _ => 0))) kc (kI n (fun _ => 0))) a (kO 5 [.int pn, .ref pk, .int gu, .int dy, .ref cd, .ref gs, .int 0, .int 0, .ref sp, .ref lf, .ref kc, .null, .int 0, .int 0]) from kput_fin2 n_kc) ?_
  refine a_aload_n (pc := 72) dX5_init_72 rfl rfl ?_
  refine a_aload_n (pc := 73) dX5_init_73 rfl rfl ?_
  refine a_getfield (pc := 74) kg_X5_29 dX5_init_74 ((kput_ne hpka).trans ((kput_ne np_kc).trans ((kput_ne np_sp).trans ((kput_ne np_gs).trans ((kput_ne np_cd).trans ((kput_ne np_lf).trans (hp))))))) rfl ?_
  refine a_topi ((show nI n = nI n from rfl)) ?_
  refine a_newI (pc := 77) ka_int dX5_init_77 rfl (by omega) (by rw [hM.1]; simp only [rmd]; omega) (by rw [hM.1]; simp only [rmd]; omega) (fun kg hkg => ?_)
  have n_kg : kg ≠ a := fun z => by rw [z] at hkg; first | exact absurd (kput_eq.symm.trans hkg) (by simp) | (rw [ha] at hkg; exact absurd hkg (by simp))
  have np_kg : pk ≠ kg := fun z => by rw [← z] at hkg; exact absurd (hkg.symm.trans ((kput_ne hpka).trans ((kput_ne np_kc).trans ((kput_ne np_sp).trans ((kput_ne np_gs).trans ((kput_ne np_cd).trans ((kput_ne np_lf).trans (hp)))))))) (by simp)
  refine a_putfieldF (pc := 79) kf_X5_45 rfl dX5_init_79 ((kput_ne (Ne.symm n_kg)).trans kput_eq) (rfl) (by rfl) (Nat.le_of_ble_eq_true rfl) ?_
  refine a_hp (show _ = kput (kput (kput (kput (kput (kput (kput h lf (kI 5 (fun _ => 0))) cd (kI n (fun _ => 0))) gs (kI n (fun _ => 0))) sp (kI n (fun _ => 0))) kc (kI n (fun _ => 0))) kg (kI n (fun _ => 0))) a (kO 5 [.int pn, .ref pk, .int gu, .int dy, .ref cd, .ref gs, .int 0, .int 0, .ref sp, .ref lf, .ref kc, .ref kg, .int 0, .int 0]) from kput_fin2 n_kg) ?_
  have nq_lf : pa ≠ lf := fun z => by rw [← z] at hlf; exact absurd (hlf.symm.trans (hpa)) (by simp)
  have nq_cd : pa ≠ cd := fun z => by rw [← z] at hcd; exact absurd (hcd.symm.trans ((kput_ne hpaa).trans ((kput_ne nq_lf).trans (hpa)))) (by simp)
  have nq_gs : pa ≠ gs := fun z => by rw [← z] at hgs; exact absurd (hgs.symm.trans ((kput_ne hpaa).trans ((kput_ne nq_cd).trans ((kput_ne nq_lf).trans (hpa))))) (by simp)
  have nq_sp : pa ≠ sp := fun z => by rw [← z] at hsp; exact absurd (hsp.symm.trans ((kput_ne hpaa).trans ((kput_ne nq_gs).trans ((kput_ne nq_cd).trans ((kput_ne nq_lf).trans (hpa)))))) (by simp)
  have nq_kc : pa ≠ kc := fun z => by rw [← z] at hkc; exact absurd (hkc.symm.trans ((kput_ne hpaa).trans ((kput_ne nq_sp).trans ((kput_ne nq_gs).trans ((kput_ne nq_cd).trans ((kput_ne nq_lf).trans (hpa))))))) (by simp)
  have nq_kg : pa ≠ kg := fun z => by rw [← z] at hkg; exact absurd (hkg.symm.trans ((kput_ne hpaa).trans ((kput_ne nq_kc).trans ((kput_ne nq_sp).trans ((kput_ne nq_gs).trans ((kput_ne nq_cd).trans ((kput_ne nq_lf).trans (hpa)))))))) (by simp)
  have hcd2 : (kput h lf (kI 5 (fun _ => 0))) cd = none := (kput_ne n_cd).symm.trans hcd
  have hgs2 : (kput (kput h lf (kI 5 (fun _ => 0))) cd (kI n (fun _ => 0))) gs = none := (kput_ne n_gs).symm.trans hgs
  have hsp2 : (kput (kput (kput h lf (kI 5 (fun _ => 0))) cd (kI n (fun _ => 0))) gs (kI n (fun _ => 0))) sp = none := (kput_ne n_sp).symm.trans hsp
  have hkc2 : (kput (kput (kput (kput h lf (kI 5 (fun _ => 0))) cd (kI n (fun _ => 0))) gs (kI n (fun _ => 0))) sp (kI n (fun _ => 0))) kc = none := (kput_ne n_kc).symm.trans hkc
  have hkg2 : (kput (kput (kput (kput (kput h lf (kI 5 (fun _ => 0))) cd (kI n (fun _ => 0))) gs (kI n (fun _ => 0))) sp (kI n (fun _ => 0))) kc (kI n (fun _ => 0))) kg = none := (kput_ne n_kg).symm.trans hkg
  have d_gs : cd ≠ gs := fun z => by rw [← z] at hgs2; exact absurd (hgs2.symm.trans (kput_eq)) (by simp)
  have d_sp : cd ≠ sp := fun z => by rw [← z] at hsp2; exact absurd (hsp2.symm.trans ((kput_ne d_gs).trans (kput_eq))) (by simp)
  have d_kc : cd ≠ kc := fun z => by rw [← z] at hkc2; exact absurd (hkc2.symm.trans ((kput_ne d_sp).trans ((kput_ne d_gs).trans (kput_eq)))) (by simp)
  have d_kg : cd ≠ kg := fun z => by rw [← z] at hkg2; exact absurd (hkg2.symm.trans ((kput_ne d_kc).trans ((kput_ne d_sp).trans ((kput_ne d_gs).trans (kput_eq))))) (by simp)
  refine a_hp (show _ = (kput (kput (kput (kput (kput (kput (kput (kput h lf (kI 5 (fun _ => 0))) cd (kI n (fun _ => 0))) gs (kI n (fun _ => 0))) sp (kI n (fun _ => 0))) kc (kI n (fun _ => 0))) kg (kI n (fun _ => 0))) cd (kI n (fillO (fun i => nI (sgP s p i)) (fun _ => 0) 0 (cumP s p 0)))) a (rO pn gu dy 0 0 0 0 pk cd gs sp lf kc kg)) from ?hs) ?_
  case hs =>
    rw [show cumP s p 0 = 0 from rfl, fillO_0]
    rw [kput_self (h := (kput (kput (kput (kput (kput (kput h lf (kI 5 (fun _ => 0))) cd (kI n (fun _ => 0))) gs (kI n (fun _ => 0))) sp (kI n (fun _ => 0))) kc (kI n (fun _ => 0))) kg (kI n (fun _ => 0)))) (a := cd) ((kput_ne d_kg).trans ((kput_ne d_kc).trans ((kput_ne d_sp).trans ((kput_ne d_gs).trans (kput_eq)))))]
    rfl
  refine a_iconst (pc := 82) dX5_init_82 ic_0 ?_
  refine a_istore (pc := 83) dX5_init_83 (by decide) rfl ?_
  refine a_iconst (pc := 85) dX5_init_85 ic_0 ?_
  refine a_istore (pc := 86) dX5_init_86 (by decide) rfl ?_
  have outer : ∀ j q : Nat, 5 - q = j → q ≤ 5 → AJ X M yX5_init cX5_init 8 none 88 [(0, .ref a), (2, .ref pk), (5, .int (nI (cumP s p q))), (6, .int (nI q))] [] (kput (kput (kput (kput (kput (kput (kput (kput h lf (kI 5 (fun _ => 0))) cd (kI n (fun _ => 0))) gs (kI n (fun _ => 0))) sp (kI n (fun _ => 0))) kc (kI n (fun _ => 0))) kg (kI n (fun _ => 0))) cd (kI n (fillO (fun i => nI (sgP s p i)) (fun _ => 0) 0 (cumP s p q)))) a (rO pn gu dy 0 0 0 0 pk cd gs sp lf kc kg)) 6 (5 + n + n + n + n + n) := by
    intro j
    induction j with
    | zero =>
      intro q hjk hkN
      refine a_iload (pc := 88) dX5_init_88 rfl ?_
      refine a_iconst (pc := 90) dX5_init_90 ic_5 ?_
      refine a_icmp_geN (pc := 91) (tgt := 143) dX5_init_91 (by decide) (by omega) (by omega) (fun c91 => ?_) (fun c91 => ?_)
      · have hq5 : q = 5 := by omega
        subst hq5
        refine a_ret_v (pc := 143) hM rfl dX5_init_143 (by omega) (by omega) ?_
        exact ⟨rfl, lf, cd, gs, sp, kc, kg, _, hlf, hcd2, hgs2, hsp2, hkc2, hkg2, fun i hi => (fillO_in (Nat.zero_le _) (by rw [h5]; omega)).trans (by rw [Nat.sub_zero]), rfl⟩
      · exact absurd c91 (by omega)
    | succ j ih =>
      intro q hjk hkN
      refine a_iload (pc := 88) dX5_init_88 rfl ?_
      refine a_iconst (pc := 90) dX5_init_90 ic_5 ?_
      refine a_icmp_geN (pc := 91) (tgt := 143) dX5_init_91 (by decide) (by omega) (by omega) (fun c91 => ?_) (fun c91 => ?_)
      · exact absurd c91 (by omega)
      · refine a_iconst (pc := 94) dX5_init_94 ic_0 ?_
        refine a_istore (pc := 95) dX5_init_95 (by decide) rfl ?_
        have hcl := cumP_le s p (g := q) (by omega)
        have inner : ∀ j2 t : Nat, (vA s 8 (5 * p + q)) - t = j2 → t ≤ (vA s 8 (5 * p + q)) → AJ X M yX5_init cX5_init 8 none 97 [(0, .ref a), (2, .ref pk), (5, .int (nI (cumP s p q + t))), (6, .int (nI q)), (7, .int (nI t))] [] (kput (kput (kput (kput (kput (kput (kput (kput h lf (kI 5 (fun _ => 0))) cd (kI n (fun _ => 0))) gs (kI n (fun _ => 0))) sp (kI n (fun _ => 0))) kc (kI n (fun _ => 0))) kg (kI n (fun _ => 0))) cd (kI n (fillO (fun i => nI (sgP s p i)) (fun _ => 0) 0 (cumP s p q + t)))) a (rO pn gu dy 0 0 0 0 pk cd gs sp lf kc kg)) 6 (5 + n + n + n + n + n) := by
          intro j2
          induction j2 with
          | zero =>
            intro t hjk hkN
            refine a_iload (pc := 97) dX5_init_97 rfl ?_
            refine a_aload_n (pc := 99) dX5_init_99 rfl rfl ?_
            refine a_getfield (pc := 100) kg_X5_48 dX5_init_100 ((kput_ne hpka).trans ((kput_ne np_cd).trans ((kput_ne np_kg).trans ((kput_ne np_kc).trans ((kput_ne np_sp).trans ((kput_ne np_gs).trans ((kput_ne np_cd).trans ((kput_ne np_lf).trans (hp))))))))) rfl ?_
            refine a_iload (pc := 103) dX5_init_103 rfl ?_
            refine a_iaload (pc := 105) dX5_init_105 ((kput_ne hpaa).trans ((kput_ne nq_cd).trans ((kput_ne nq_kg).trans ((kput_ne nq_kc).trans ((kput_ne nq_sp).trans ((kput_ne nq_gs).trans ((kput_ne nq_cd).trans ((kput_ne nq_lf).trans (hpa))))))))) (q) (rfl) (by omega) (by omega) ?_
            refine a_topi (hpf q (by omega)) ?_
            refine a_icmp_geN (pc := 106) (tgt := 137) dX5_init_106 (by decide) (by omega) (by omega) (fun c106 => ?_) (fun c106 => ?_)
            · have ht : t = (vA s 8 (5 * p + q)) := by omega
              subst ht
              refine a_iincN (pc := 137) (n := 1) dX5_init_137 (by decide) rfl (by decide) rfl ?_
              refine a_goto (pc := 140) (tgt := 88) dX5_init_140 (by decide) ?_
              exact a_locR (ih (q + 1) (by omega) (by omega)) ⟨rfl, rfl, rfl, rfl, trivial⟩
            · exact absurd c106 (by omega)
          | succ j2 ih2 =>
            intro t hjk hkN
            refine a_iload (pc := 97) dX5_init_97 rfl ?_
            refine a_aload_n (pc := 99) dX5_init_99 rfl rfl ?_
            refine a_getfield (pc := 100) kg_X5_48 dX5_init_100 ((kput_ne hpka).trans ((kput_ne np_cd).trans ((kput_ne np_kg).trans ((kput_ne np_kc).trans ((kput_ne np_sp).trans ((kput_ne np_gs).trans ((kput_ne np_cd).trans ((kput_ne np_lf).trans (hp))))))))) rfl ?_
            refine a_iload (pc := 103) dX5_init_103 rfl ?_
            refine a_iaload (pc := 105) dX5_init_105 ((kput_ne hpaa).trans ((kput_ne nq_cd).trans ((kput_ne nq_kg).trans ((kput_ne nq_kc).trans ((kput_ne nq_sp).trans ((kput_ne nq_gs).trans ((kput_ne nq_cd).trans ((kput_ne nq_lf).trans (hpa))))))))) (q) (rfl) (by omega) (by omega) ?_
            refine a_topi (hpf q (by omega)) ?_
            refine a_icmp_geN (pc := 106) (tgt := 137) dX5_init_106 (by decide) (by omega) (by omega) (fun c106 => ?_) (fun c106 => ?_)
            · exact absurd c106 (by omega)
            · refine a_iload (pc := 109) dX5_init_109 rfl ?_
              refine a_aload_n (pc := 111) dX5_init_111 rfl rfl ?_
              refine a_getfield (pc := 112) kg_X5_34 dX5_init_112 (kput_eq) rfl ?_
              refine a_alen (pc := 115) (t := 0) rfl dX5_init_115 ((kput_ne n_cd).trans kput_eq) rfl ?_
              refine a_icmp_geN (pc := 116) (tgt := 137) dX5_init_116 (by decide) (by omega) (by omega) (fun c116 => ?_) (fun c116 => ?_)
              · exact absurd c116 (by omega)
              · refine a_aload_n (pc := 119) dX5_init_119 rfl rfl ?_
                refine a_getfield (pc := 120) kg_X5_34 dX5_init_120 (kput_eq) rfl ?_
                refine a_iload (pc := 123) dX5_init_123 rfl ?_
                refine a_iload (pc := 125) dX5_init_125 rfl ?_
                refine a_topi (congrArg nI (sgP_at s p (g := q) (t := t) (by omega) (by omega)).symm) ?_
                refine a_iastore (pc := 127) dX5_init_127 ((kput_ne n_cd).trans kput_eq) (0 + (cumP s p q + t)) (by rw [Nat.zero_add]) (by omega) (by omega) ?_
                refine a_hp (show _ = (kput (kput (kput (kput (kput (kput (kput (kput h lf (kI 5 (fun _ => 0))) cd (kI n (fun _ => 0))) gs (kI n (fun _ => 0))) sp (kI n (fun _ => 0))) kc (kI n (fun _ => 0))) kg (kI n (fun _ => 0))) cd (kI n (fillO (fun i => nI (sgP s p i)) (fun _ => 0) 0 (cumP s p q + t + 1)))) a (rO pn gu dy 0 0 0 0 pk cd gs sp lf kc kg)) by rw [kput_comm (a := a) (b := cd) (Ne.symm n_cd), kput_put, fillO_s (f := fun i => nI (sgP s p i))]) ?_
                refine a_iincN (pc := 128) (n := 1) dX5_init_128 (by decide) rfl (by decide) rfl ?_
                refine a_iincN (pc := 131) (n := 1) dX5_init_131 (by decide) rfl (by decide) rfl ?_
                refine a_goto (pc := 134) (tgt := 97) dX5_init_134 (by decide) ?_
                exact a_locR (ih2 (t + 1) (by omega) (by omega)) ⟨rfl, rfl, rfl, rfl, rfl, trivial⟩
        exact a_locR (inner _ 0 rfl (Nat.zero_le _)) ⟨rfl, rfl, rfl, rfl, rfl, trivial⟩
  refine a_wid (by omega) (by omega) (a_locR (outer _ 0 rfl (Nat.zero_le _)) ⟨rfl, rfl, rfl, rfl, trivial⟩)

end CMK

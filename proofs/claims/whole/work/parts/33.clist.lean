/-! LISTS -/
section LS
variable {X : KX} {h : AH}
set_option maxRecDepth 4000 in
theorem f_cinit (a : Nat) : Fn X 1 0 0 yJxa1e45_init_da8c8 cJxa1e45_init_da8c8 1 none [.ref a] h (fun rv hv => rv = none ∧ hv = h) := by
  refine fn_of (by decide) (Nat.le_of_ble_eq_true rfl) (fun M hM => ?_)
  refine a_aload_n (pc := 0) dJxa1e45_init_da8c8_0 rfl rfl ?_
  refine a_objInit (pc := 1) ko_Jxa1e45_1 ko_im ko_co dJxa1e45_init_da8c8_1 (by rw [hM.1]; simp only [rmd]; omega) (by rw [hM.1]; simp [rmd, Value.category] <;> omega) ?_
  refine a_ret_v (pc := 4) hM rfl dJxa1e45_init_da8c8_4 (by omega) (by omega) ?_
  exact ⟨rfl, rfl⟩

set_option maxRecDepth 4000 in
theorem f_ainit {a : Nat} (ha : h a = some (kO 13 [.int 0, .null, .int 0])) : Fn X 2 0 0 yJxc12de_init_da8c8 cJxc12de_init_da8c8 1 none [.ref a] h (fun rv hv => rv = none ∧ hv = h) := by
  refine fn_of (by decide) (Nat.le_of_ble_eq_true rfl) (fun M hM => ?_)
  refine a_aload_n (pc := 0) dJxc12de_init_da8c8_0 rfl rfl ?_
  refine a_callI (pc := 1) km_Jxc12de_1 dJxc12de_init_da8c8_1 (f_cinit a) rfl rfl (rok_of hM (by decide) (by decide) (by omega) (by omega)) (Nat.le_of_ble_eq_true rfl) (fun r1 h1 hp1 => ?_)
  obtain ⟨rfl, rfl⟩ := hp1
  refine a_aload_n (pc := 4) dJxc12de_init_da8c8_4 rfl rfl ?_
  refine a_iconst (pc := 5) dJxc12de_init_da8c8_5 ic_0 ?_
  refine a_putfield (pc := 6) kf_Jxc12de_7 dJxc12de_init_da8c8_6 (ha) (rfl) (by rfl) (Nat.le_of_ble_eq_true rfl) ?_
  refine a_hp (kput_self ha) ?_
  refine a_ret_v (pc := 9) hM rfl dJxc12de_init_da8c8_9 (by omega) (by omega) ?_
  exact ⟨rfl, rfl⟩

set_option maxRecDepth 4000 in
theorem f_linit {a : Nat} (ha : h a = some (kO 13 [.int 0, .null, .int 0])) : Fn X 3 0 0 yJx4a65c_init_da8c8 cJx4a65c_init_da8c8 1 none [.ref a] h (fun rv hv => rv = none ∧ hv = kput h a (kO 13 [.int 0, .ref (X.2.2.2.1 2), .int 0])) := by
  refine fn_of (by decide) (Nat.le_of_ble_eq_true rfl) (fun M hM => ?_)
  refine a_aload_n (pc := 0) dJx4a65c_init_da8c8_0 rfl rfl ?_
  refine a_callI (pc := 1) km_Jx4a65c_1 dJx4a65c_init_da8c8_1 (f_ainit ha) rfl rfl (rok_of hM (by decide) (by decide) (by omega) (by omega)) (Nat.le_of_ble_eq_true rfl) (fun r1 h1 hp1 => ?_)
  obtain ⟨rfl, rfl⟩ := hp1
  refine a_aload_n (pc := 4) dJx4a65c_init_da8c8_4 rfl rfl ?_
  refine a_gets (pc := 5) (fun _ _ q => q.2.2.2.2.1) ks_Jx4a65c_39 dJx4a65c_init_da8c8_5 ?_
  refine a_putfield (pc := 8) kf_Jx4a65c_9 dJx4a65c_init_da8c8_8 (ha) (rfl) (by rfl) (Nat.le_of_ble_eq_true rfl) ?_
  refine a_ret_v (pc := 11) hM rfl dJx4a65c_init_da8c8_11 (by omega) (by omega) ?_
  exact ⟨rfl, rfl⟩

theorem shr1 {n : Nat} (h : n < 100) : nI n >>> (nI 1 &&& 31) = nI (n / 2) := by
  have e : ∀ n, n < 100 → nI n >>> (nI 1 &&& 31) = nI (n / 2) := by decide +kernel
  exact e n h
theorem kput_fin {h : AH} {a q : Nat} {e1 e2 e3 e4 : kE} (hn : a ≠ q) : kput (kput (kput (kput h q e1) a e2) q e3) a e4 = kput (kput h q e3) a e4 := by
  rw [kput_comm (a := a) (b := q) hn, kput_put, kput_put]
theorem kne {h : AH} {a b : Nat} {e : kE} (ha : h a = some e) (hb : h b = none) : a ≠ b := fun z => by rw [z, hb] at ha; exact absurd ha (by simp)
def objAt (h : AH) (v : Nat) : Prop := ∃ ci r vs, kcl[ci]? = some r ∧ h v = some (.inr (ci, vs))
theorem objAt.put {h : AH} {v a : Nat} {e : kE} (ho : objAt h v) (hn : v ≠ a) : objAt (kput h a e) v := by
  obtain ⟨ci, r, vs, h1, h2⟩ := ho
  exact ⟨ci, r, vs, h1, (kput_ne hn).trans h2⟩
set_option maxRecDepth 4000 in
theorem f_growF1 {a : Nat} {md : Int32} (ha : h a = some (kO 13 [.int md, .ref (X.2.2.2.1 2), .int (nI 0)])) : Fn X 1 1 10 yJx4a65c_grow_92f84 cJx4a65c_grow_92f84 4 (some (.array (.object "java/lang/Object"))) [.ref a, .int (nI 1)] h (fun rv hv => ∃ q, h q = none ∧ rv = some (.ref q) ∧ hv = kput (kput h q (kQ 2 10 (fun _ => none))) a (kO 13 [.int md, .ref q, .int (nI 0)])) := by
  refine fn_of (by decide) (Nat.le_of_ble_eq_true rfl) (fun M hM => ?_)
  refine a_aload_n (pc := 0) dJx4a65c_grow_92f84_0 rfl rfl ?_
  refine a_getfield (pc := 1) kg_Jx4a65c_9 dJx4a65c_grow_92f84_1 (ha) rfl ?_
  refine a_tlen (pc := 4) (fun _ _ q => q.2.2.2.2.2.1) dJx4a65c_grow_92f84_4 ?_
  refine a_istore_n (pc := 5) dJx4a65c_grow_92f84_5 rfl (by decide) rfl ?_
  refine a_iload_n (pc := 6) dJx4a65c_grow_92f84_6 rfl rfl ?_
  refine a_if_gtN (pc := 7) (tgt := 20) dJx4a65c_grow_92f84_7 (by decide) (by omega) (fun c7 => ?_) (fun c7 => ?_)
  · exact absurd c7 (by omega)
  · refine a_aload_n (pc := 10) dJx4a65c_grow_92f84_10 rfl rfl ?_
    refine a_getfield (pc := 11) kg_Jx4a65c_9 dJx4a65c_grow_92f84_11 (ha) rfl ?_
    refine a_gets (pc := 14) (fun _ _ q => q.2.2.2.2.1) ks_Jx4a65c_39 dJx4a65c_grow_92f84_14 ?_
    refine a_acmp_eq (pc := 17) (tgt := 45) dJx4a65c_grow_92f84_17 (by decide) (fun c17 => ?_) (fun c17 => ?_)
    · refine a_aload_n (pc := 45) dJx4a65c_grow_92f84_45 rfl rfl ?_
      refine a_bipush (pc := 46) dJx4a65c_grow_92f84_46 ib_10 ?_
      refine a_iload_n (pc := 48) dJx4a65c_grow_92f84_48 rfl rfl ?_
      refine a_mmax (pc := 49) km_Jx4a65c_79 dJx4a65c_grow_92f84_49 (by rw [hM.1]; simp only [rmd]; omega) (by rw [hM.1]; simp [rmd, Value.category] <;> omega) (by rw [hM.1]; simp only [rmd]; omega) (by rw [hM.1]; simp only [rmd]; omega) ?_
      refine a_topi (nI_max (by omega) (by omega)) ?_
      refine a_newQ (pc := 52) (t := 2) rfl (Or.inr rfl) kl_Jx4a65c_7 dJx4a65c_grow_92f84_52 rfl (by omega) (by rw [hM.1]; simp only [rmd]; omega) (by rw [hM.1]; simp only [rmd]; omega) (fun q hq => ?_)
      refine a_dup_x1 (pc := 55) dJx4a65c_grow_92f84_55 rfl rfl ?_
      refine a_putfield (pc := 56) kf_Jx4a65c_9 dJx4a65c_grow_92f84_56 ((kput_ne (kne ha hq)).trans ha) (rfl) (by rfl) (Nat.le_of_ble_eq_true rfl) ?_
      refine a_ret_a (pc := 59) hM rfl (Or.inr ⟨_, rfl⟩) (Or.inr ⟨_, rfl⟩) dJx4a65c_grow_92f84_59 (by omega) (by omega) ?_
      exact ⟨q, hq, rfl, rfl⟩
    · exact absurd rfl c17

set_option maxRecDepth 4000 in
theorem f_growO1 {a e cap : Nat} {md : Int32} {F : Nat → Option Nat} (ha : h a = some (kO 13 [.int md, .ref e, .int (nI cap)])) (he : h e = some (kQ 2 cap F)) (hel : ∀ i, i < cap → ∀ v, F i = some v → objAt h v) (hc1 : 0 < cap) (hc2 : cap < 40) : Fn X 3 1 (cap + max (1) (cap / 2)) yJx4a65c_grow_92f84 cJx4a65c_grow_92f84 4 (some (.array (.object "java/lang/Object"))) [.ref a, .int (nI (cap + 1))] h (fun rv hv => ∃ q, h q = none ∧ rv = some (.ref q) ∧ hv = kput (kput h q (kQ 2 (cap + max (1) (cap / 2)) (va_cpy F (fun _ => none) 0 0 cap))) a (kO 13 [.int md, .ref q, .int (nI cap)])) := by
  have he1 : cap + 1 - cap = 1 := by omega
  refine fn_of (by decide) (Nat.le_of_ble_eq_true rfl) (fun M hM => ?_)
  refine a_aload_n (pc := 0) dJx4a65c_grow_92f84_0 rfl rfl ?_
  refine a_getfield (pc := 1) kg_Jx4a65c_9 dJx4a65c_grow_92f84_1 (ha) rfl ?_
  refine a_alen (pc := 4) (t := 2) rfl dJx4a65c_grow_92f84_4 he rfl ?_
  refine a_istore_n (pc := 5) dJx4a65c_grow_92f84_5 rfl (by decide) rfl ?_
  refine a_iload_n (pc := 6) dJx4a65c_grow_92f84_6 rfl rfl ?_
  refine a_if_gtN (pc := 7) (tgt := 20) dJx4a65c_grow_92f84_7 (by decide) (by omega) (fun c7 => ?_) (fun c7 => ?_)
  · refine a_iload_n (pc := 20) dJx4a65c_grow_92f84_20 rfl rfl ?_
    refine a_iload_n (pc := 21) dJx4a65c_grow_92f84_21 rfl rfl ?_
    refine a_iload_n (pc := 22) dJx4a65c_grow_92f84_22 rfl rfl ?_
    refine a_isubN (pc := 23) dJx4a65c_grow_92f84_23 (by omega) ?_
    refine a_topi (congrArg nI he1) ?_
    refine a_iload_n (pc := 24) dJx4a65c_grow_92f84_24 rfl rfl ?_
    refine a_iconst (pc := 25) dJx4a65c_grow_92f84_25 ic_1 ?_
    refine a_ishr (pc := 26) dJx4a65c_grow_92f84_26 ?_
    refine a_topi (shr1 (by omega)) ?_
    refine a_callS (pc := 27) km_Jx4a65c_73 dJx4a65c_grow_92f84_27 (f_newLen (a := cap) (b := 1) (c := cap / 2) (by omega) (by omega) (by omega) (by omega)) rfl rfl (rok_of hM (by decide) (by decide) (by omega) (by omega)) (Nat.le_of_ble_eq_true rfl) (fun r27 h27 hp27 => ?_)
    obtain ⟨rfl, rfl⟩ := hp27
    refine a_istore_n (pc := 30) dJx4a65c_grow_92f84_30 rfl (by decide) rfl ?_
    refine a_aload_n (pc := 31) dJx4a65c_grow_92f84_31 rfl rfl ?_
    refine a_aload_n (pc := 32) dJx4a65c_grow_92f84_32 rfl rfl ?_
    refine a_getfield (pc := 33) kg_Jx4a65c_9 dJx4a65c_grow_92f84_33 (ha) rfl ?_
    refine a_iload_n (pc := 36) dJx4a65c_grow_92f84_36 rfl rfl ?_
    refine a_callS (pc := 37) km_Jx4a65c_66 dJx4a65c_grow_92f84_37 (f_copyQ he (by omega) (by omega) hel) rfl rfl (rok_of hM (by decide) (by decide) (by omega) (by omega)) (Nat.le_of_ble_eq_true rfl) (fun r37 h37 hp37 => ?_)
    obtain ⟨q, hq, rfl, rfl⟩ := hp37
    have hmin : min cap (cap + max (1) (cap / 2)) = cap := Nat.min_eq_left (Nat.le_add_right _ _)
    rw [hmin]
    refine a_dup_x1 (pc := 40) dJx4a65c_grow_92f84_40 rfl rfl ?_
    refine a_putfield (pc := 41) kf_Jx4a65c_9 dJx4a65c_grow_92f84_41 ((kput_ne (kne ha hq)).trans ha) (rfl) (by rfl) (Nat.le_of_ble_eq_true rfl) ?_
    refine a_ret_a (pc := 44) hM rfl (Or.inr ⟨_, rfl⟩) (Or.inr ⟨_, rfl⟩) dJx4a65c_grow_92f84_44 (by omega) (by omega) ?_
    exact ⟨q, hq, rfl, rfl⟩
  · exact absurd c7 (by omega)

set_option maxRecDepth 4000 in
theorem f_growF {a : Nat} {md : Int32} (ha : h a = some (kO 13 [.int md, .ref (X.2.2.2.1 2), .int (nI 0)])) : Fn X 2 1 10 yJx4a65c_grow_d5877 cJx4a65c_grow_d5877 1 (some (.array (.object "java/lang/Object"))) [.ref a] h (fun rv hv => ∃ q, h q = none ∧ rv = some (.ref q) ∧ hv = kput (kput h q (kQ 2 10 (fun _ => none))) a (kO 13 [.int md, .ref q, .int (nI 0)])) := by
  refine fn_of (by decide) (Nat.le_of_ble_eq_true rfl) (fun M hM => ?_)
  refine a_aload_n (pc := 0) dJx4a65c_grow_d5877_0 rfl rfl ?_
  refine a_aload_n (pc := 1) dJx4a65c_grow_d5877_1 rfl rfl ?_
  refine a_getfield (pc := 2) kg_Jx4a65c_48 dJx4a65c_grow_d5877_2 (ha) rfl ?_
  refine a_topi ((show nI 0 = nI 0 from rfl)) ?_
  refine a_iconst (pc := 5) dJx4a65c_grow_d5877_5 ic_1 ?_
  refine a_iaddN (pc := 6) dJx4a65c_grow_d5877_6 ?_
  refine a_callV (pc := 7) km_Jx4a65c_69 dJx4a65c_grow_d5877_7 (f_growF1 ha) rfl rfl (krecv_of (by rfl) ha) (rok_of hM (by decide) (by decide) (by omega) (by omega)) (Nat.le_of_ble_eq_true rfl) (fun r7 h7 hp7 => ?_)
  obtain ⟨q, hq, rfl, rfl⟩ := hp7
  refine a_ret_a (pc := 10) hM rfl (Or.inr ⟨_, rfl⟩) (Or.inr ⟨_, rfl⟩) dJx4a65c_grow_d5877_10 (by omega) (by omega) ?_
  exact ⟨q, hq, rfl, rfl⟩

set_option maxRecDepth 4000 in
theorem f_growO {a e cap : Nat} {md : Int32} {F : Nat → Option Nat} (ha : h a = some (kO 13 [.int md, .ref e, .int (nI cap)])) (he : h e = some (kQ 2 cap F)) (hel : ∀ i, i < cap → ∀ v, F i = some v → objAt h v) (hc1 : 0 < cap) (hc2 : cap < 40) : Fn X 4 1 (cap + max 1 (cap / 2)) yJx4a65c_grow_d5877 cJx4a65c_grow_d5877 1 (some (.array (.object "java/lang/Object"))) [.ref a] h (fun rv hv => ∃ q, h q = none ∧ rv = some (.ref q) ∧ hv = kput (kput h q (kQ 2 (cap + max 1 (cap / 2)) (va_cpy F (fun _ => none) 0 0 cap))) a (kO 13 [.int md, .ref q, .int (nI cap)])) := by
  refine fn_of (by decide) (Nat.le_of_ble_eq_true rfl) (fun M hM => ?_)
  refine a_aload_n (pc := 0) dJx4a65c_grow_d5877_0 rfl rfl ?_
  refine a_aload_n (pc := 1) dJx4a65c_grow_d5877_1 rfl rfl ?_
  refine a_getfield (pc := 2) kg_Jx4a65c_48 dJx4a65c_grow_d5877_2 (ha) rfl ?_
  refine a_topi ((show nI cap = nI cap from rfl)) ?_
  refine a_iconst (pc := 5) dJx4a65c_grow_d5877_5 ic_1 ?_
  refine a_iaddN (pc := 6) dJx4a65c_grow_d5877_6 ?_
  refine a_callV (pc := 7) km_Jx4a65c_69 dJx4a65c_grow_d5877_7 (f_growO1 ha he hel hc1 hc2) rfl rfl (krecv_of (by rfl) ha) (rok_of hM (by decide) (by decide) (by omega) (by omega)) (Nat.le_of_ble_eq_true rfl) (fun r7 h7 hp7 => ?_)
  obtain ⟨q, hq, rfl, rfl⟩ := hp7
  refine a_ret_a (pc := 10) hM rfl (Or.inr ⟨_, rfl⟩) (Or.inr ⟨_, rfl⟩) dJx4a65c_grow_d5877_10 (by omega) (by omega) ?_
  exact ⟨q, hq, rfl, rfl⟩

def up1 (F : Nat → Option Nat) (n v : Nat) : Nat → Option Nat := va_up F n (some v)
set_option maxRecDepth 4000 in
theorem f_add3F {a v : Nat} {md : Int32} {F : Nat → Option Nat} (hov : objAt h v) (ha : h a = some (kO 13 [.int md, .ref (X.2.2.2.1 2), .int (nI 0)])) : Fn X 3 1 10 yJx4a65c_add_72be8 cJx4a65c_add_72be8 4 none [.ref a, .ref v, .ref (X.2.2.2.1 2), .int (nI 0)] h (fun rv hv => rv = none ∧ ∃ (e2 cap2 : Nat) (F2 : Nat → Option Nat), (h e2 = none) ∧ hv = kput (kput h e2 (kQ 2 cap2 F2)) a (kO 13 [.int md, .ref e2, .int (nI (0 + 1))]) ∧ (cap2 = 10 ∨ cap2 = 15 ∨ cap2 = 22) ∧ 0 + 1 ≤ cap2 ∧ e2 ≠ a ∧ (∀ i, i < 0 → F2 i = F i) ∧ F2 0 = some v) := by
  refine fn_of (by decide) (Nat.le_of_ble_eq_true rfl) (fun M hM => ?_)
  refine a_iload_n (pc := 0) dJx4a65c_add_72be8_0 rfl rfl ?_
  refine a_aload_n (pc := 1) dJx4a65c_add_72be8_1 rfl rfl ?_
  refine a_tlen (pc := 2) (fun _ _ q => q.2.2.2.2.2.1) dJx4a65c_add_72be8_2 ?_
  refine a_icmp_neN (pc := 3) (tgt := 11) dJx4a65c_add_72be8_3 (by decide) (by omega) (by omega) (fun c3 => ?_) (fun c3 => ?_)
  · exact absurd c3 (by omega)
  · refine a_aload_n (pc := 6) dJx4a65c_add_72be8_6 rfl rfl ?_
    refine a_callV (pc := 7) km_Jx4a65c_129 dJx4a65c_add_72be8_7 (f_growF ha) rfl rfl (krecv_of (by rfl) ha) (rok_of hM (by decide) (by decide) (by omega) (by omega)) (Nat.le_of_ble_eq_true rfl) (fun r7 h7 hp7 => ?_)
    obtain ⟨q, hq, rfl, rfl⟩ := hp7
    obtain ⟨ci, r, vs, hci, hvv⟩ := id hov
    have hqa := kne ha hq
    have hqv := kne hvv hq
    refine a_astore_n (pc := 10) dJx4a65c_add_72be8_10 rfl (by decide) rfl ?_
    obtain ⟨vs2, hv2⟩ : ∃ vs2, (kput (kput h q (kQ 2 10 (fun _ => none))) a (kO 13 [.int md, .ref q, .int (nI 0)])) v = some (.inr (ci, vs2)) := by
      by_cases e : v = a
      · rw [e, ha] at hvv
        have e13 : ci = 13 := (congrArg Prod.fst (Sum.inr.inj (Option.some.inj hvv))).symm
        rw [e, kput_eq, e13]
        exact ⟨_, rfl⟩
      · rw [kput_ne e, kput_ne hqv]
        exact ⟨vs, hvv⟩
    refine a_aload_n (pc := 11) dJx4a65c_add_72be8_11 rfl rfl ?_
    refine a_iload_n (pc := 12) dJx4a65c_add_72be8_12 rfl rfl ?_
    refine a_aload_n (pc := 13) dJx4a65c_add_72be8_13 rfl rfl ?_
    refine a_aastoreO (pc := 14) (vs := vs2) hci dJx4a65c_add_72be8_14 ((kput_ne (Ne.symm hqa)).trans kput_eq) (hv2) (0) (rfl) (by omega) (by omega) ?_
    refine a_aload_n (pc := 15) dJx4a65c_add_72be8_15 rfl rfl ?_
    refine a_iload_n (pc := 16) dJx4a65c_add_72be8_16 rfl rfl ?_
    refine a_iconst (pc := 17) dJx4a65c_add_72be8_17 ic_1 ?_
    refine a_iaddN (pc := 18) dJx4a65c_add_72be8_18 ?_
    refine a_putfield (pc := 19) kf_Jx4a65c_48 dJx4a65c_add_72be8_19 ((kput_ne hqa).trans kput_eq) (rfl) (by rfl) (Nat.le_of_ble_eq_true rfl) ?_
    refine a_ret_v (pc := 22) hM rfl dJx4a65c_add_72be8_22 (by omega) (by omega) ?_
    refine ⟨rfl, q, 10, va_up (fun _ => none) 0 (some v), hq, ?_, Or.inl rfl, by decide, Ne.symm hqa, fun i hi => absurd hi (Nat.not_lt_zero _), ?_⟩
    · exact kput_fin hqa
    · exact if_pos rfl

theorem oq_ne {h : AH} {a e t n c : Nat} {F : Nat → Option Nat} {fs : List Value} (ha : h a = some (kO c fs)) (he : h e = some (kQ t n F)) : a ≠ e := fun z => by rw [z, he] at ha; exact absurd (Option.some.inj ha) (by simp)
theorem objAt.put2 {h : AH} {v a : Nat} {fs : List Value} (ho : objAt h v) : objAt (kput h a (kO 13 fs)) v := by
  by_cases e : v = a
  · rw [e]
    exact ⟨13, _, fs, rfl, kput_eq⟩
  · exact ho.put e
theorem up_eq {F : Nat → Option Nat} {n v : Nat} : va_up F n (some v) n = some v := if_pos rfl
theorem up_ne {F : Nat → Option Nat} {n i v : Nat} (h : i ≠ n) : va_up F n (some v) i = F i := if_neg h
theorem cpy0 {F g : Nat → Option Nat} {n i : Nat} (h : i < n) : va_cpy F g 0 0 n i = F i := by
  unfold va_cpy
  rw [if_pos (by omega)]
  congr 1
  omega
set_option maxRecDepth 4000 in
theorem f_add3R {a v e n cap : Nat} {md : Int32} {F : Nat → Option Nat} (hov : objAt h v) (ha : h a = some (kO 13 [.int md, .ref e, .int (nI n)])) (he : h e = some (kQ 2 cap F)) (hn : n < cap) (hcap : cap = 10 ∨ cap = 15 ∨ cap = 22) : Fn X 3 1 22 yJx4a65c_add_72be8 cJx4a65c_add_72be8 4 none [.ref a, .ref v, .ref e, .int (nI n)] h (fun rv hv => rv = none ∧ ∃ (e2 cap2 : Nat) (F2 : Nat → Option Nat), (e2 = e) ∧ hv = kput (kput h e2 (kQ 2 cap2 F2)) a (kO 13 [.int md, .ref e2, .int (nI (n + 1))]) ∧ (cap2 = 10 ∨ cap2 = 15 ∨ cap2 = 22) ∧ n + 1 ≤ cap2 ∧ e2 ≠ a ∧ (∀ i, i < n → F2 i = F i) ∧ F2 n = some v) := by
  obtain ⟨ci, r, vs, hci, hvv⟩ := id hov
  have hae := oq_ne ha he
  refine fn_of (by decide) (Nat.le_of_ble_eq_true rfl) (fun M hM => ?_)
  refine a_iload_n (pc := 0) dJx4a65c_add_72be8_0 rfl rfl ?_
  refine a_aload_n (pc := 1) dJx4a65c_add_72be8_1 rfl rfl ?_
  refine a_alen (pc := 2) (t := 2) rfl dJx4a65c_add_72be8_2 he rfl ?_
  refine a_icmp_neN (pc := 3) (tgt := 11) dJx4a65c_add_72be8_3 (by decide) (by omega) (by omega) (fun c3 => ?_) (fun c3 => ?_)
  · refine a_aload_n (pc := 11) dJx4a65c_add_72be8_11 rfl rfl ?_
    refine a_iload_n (pc := 12) dJx4a65c_add_72be8_12 rfl rfl ?_
    refine a_aload_n (pc := 13) dJx4a65c_add_72be8_13 rfl rfl ?_
    refine a_aastoreO (pc := 14) (vs := vs) hci dJx4a65c_add_72be8_14 (he) (hvv) (n) (rfl) (by omega) (by omega) ?_
    refine a_aload_n (pc := 15) dJx4a65c_add_72be8_15 rfl rfl ?_
    refine a_iload_n (pc := 16) dJx4a65c_add_72be8_16 rfl rfl ?_
    refine a_iconst (pc := 17) dJx4a65c_add_72be8_17 ic_1 ?_
    refine a_iaddN (pc := 18) dJx4a65c_add_72be8_18 ?_
    refine a_putfield (pc := 19) kf_Jx4a65c_48 dJx4a65c_add_72be8_19 ((kput_ne hae).trans ha) (rfl) (by rfl) (Nat.le_of_ble_eq_true rfl) ?_
    refine a_ret_v (pc := 22) hM rfl dJx4a65c_add_72be8_22 (by omega) (by omega) ?_
    exact ⟨rfl, e, cap, va_up F n (some v), rfl, rfl, hcap, hn, Ne.symm hae, fun i hi => up_ne (by omega), up_eq⟩
  · exact absurd c3 (by omega)

set_option maxRecDepth 4000 in
theorem f_add3G {a v e cap : Nat} {md : Int32} {F : Nat → Option Nat} (hov : objAt h v) (ha : h a = some (kO 13 [.int md, .ref e, .int (nI cap)])) (he : h e = some (kQ 2 cap F)) (hel : ∀ i, i < cap → ∀ v, F i = some v → objAt h v) (hcap : cap = 10 ∨ cap = 15) : Fn X 5 1 22 yJx4a65c_add_72be8 cJx4a65c_add_72be8 4 none [.ref a, .ref v, .ref e, .int (nI cap)] h (fun rv hv => rv = none ∧ ∃ (e2 cap2 : Nat) (F2 : Nat → Option Nat), (h e2 = none) ∧ hv = kput (kput h e2 (kQ 2 cap2 F2)) a (kO 13 [.int md, .ref e2, .int (nI (cap + 1))]) ∧ (cap2 = 10 ∨ cap2 = 15 ∨ cap2 = 22) ∧ cap + 1 ≤ cap2 ∧ e2 ≠ a ∧ (∀ i, i < cap → F2 i = F i) ∧ F2 cap = some v) := by
  obtain ⟨ci, r, vs, hci, hvv⟩ := id hov
  have hae := oq_ne ha he
  refine fn_of (by decide) (Nat.le_of_ble_eq_true rfl) (fun M hM => ?_)
  refine a_iload_n (pc := 0) dJx4a65c_add_72be8_0 rfl rfl ?_
  refine a_aload_n (pc := 1) dJx4a65c_add_72be8_1 rfl rfl ?_
  refine a_alen (pc := 2) (t := 2) rfl dJx4a65c_add_72be8_2 he rfl ?_
  refine a_icmp_neN (pc := 3) (tgt := 11) dJx4a65c_add_72be8_3 (by decide) (by omega) (by omega) (fun c3 => ?_) (fun c3 => ?_)
  · exact absurd c3 (by omega)
  · refine a_aload_n (pc := 6) dJx4a65c_add_72be8_6 rfl rfl ?_
    refine a_callV (pc := 7) km_Jx4a65c_129 dJx4a65c_add_72be8_7 (f_growO ha he hel (by omega) (by omega)) rfl rfl (krecv_of (by rfl) ha) (rok_of hM (by decide) (by decide) (by omega) (by omega)) (Nat.le_of_ble_eq_true rfl) (fun r7 h7 hp7 => ?_)
    obtain ⟨q, hq, rfl, rfl⟩ := hp7
    have hqa := kne ha hq
    have hqv := kne hvv hq
    obtain ⟨vs2, hv2⟩ : ∃ vs2, (kput (kput h q (kQ 2 (cap + max 1 (cap / 2)) (va_cpy F (fun _ => none) 0 0 cap))) a (kO 13 [.int md, .ref q, .int (nI cap)])) v = some (.inr (ci, vs2)) := by
      by_cases e : v = a
      · rw [e, ha] at hvv
        have e13 : ci = 13 := (congrArg Prod.fst (Sum.inr.inj (Option.some.inj hvv))).symm
        rw [e, kput_eq, e13]
        exact ⟨_, rfl⟩
      · rw [kput_ne e, kput_ne hqv]
        exact ⟨vs, hvv⟩
    refine a_astore_n (pc := 10) dJx4a65c_add_72be8_10 rfl (by decide) rfl ?_
    refine a_aload_n (pc := 11) dJx4a65c_add_72be8_11 rfl rfl ?_
    refine a_iload_n (pc := 12) dJx4a65c_add_72be8_12 rfl rfl ?_
    refine a_aload_n (pc := 13) dJx4a65c_add_72be8_13 rfl rfl ?_
    refine a_aastoreO (pc := 14) (vs := vs2) hci dJx4a65c_add_72be8_14 ((kput_ne (Ne.symm hqa)).trans kput_eq) (hv2) (cap) (rfl) (by omega) (by omega) ?_
    refine a_aload_n (pc := 15) dJx4a65c_add_72be8_15 rfl rfl ?_
    refine a_iload_n (pc := 16) dJx4a65c_add_72be8_16 rfl rfl ?_
    refine a_iconst (pc := 17) dJx4a65c_add_72be8_17 ic_1 ?_
    refine a_iaddN (pc := 18) dJx4a65c_add_72be8_18 ?_
    refine a_putfield (pc := 19) kf_Jx4a65c_48 dJx4a65c_add_72be8_19 ((kput_ne hqa).trans kput_eq) (rfl) (by rfl) (Nat.le_of_ble_eq_true rfl) ?_
    refine a_ret_v (pc := 22) hM rfl dJx4a65c_add_72be8_22 (by omega) (by omega) ?_
    refine ⟨rfl, q, cap + max 1 (cap / 2), va_up (va_cpy F (fun _ => none) 0 0 cap) cap (some v), hq, ?_, ?_, by omega, Ne.symm hqa, fun i hi => (up_ne (by omega)).trans (cpy0 hi), up_eq⟩
    · exact kput_fin hqa
    · rcases hcap with rfl | rfl <;> decide

/-- the list at a holds G 0 .. G (n - 1); e its array -/
def LR (X : KX) (h : AH) (a e n : Nat) (G : Nat → Nat) : Prop := (∃ md, h a = some (kO 13 [.int md, .ref e, .int (nI n)])) ∧ ((n = 0 ∧ e = X.2.2.2.1 2) ∨ ∃ cap F, h e = some (kQ 2 cap F) ∧ n ≤ cap ∧ (cap = 10 ∨ cap = 15 ∨ cap = 22) ∧ ∀ i, i < n → F i = some (G i))
theorem kput_fin2 {h : AH} {a q : Nat} {e1 e2 e3 : kE} (hn : q ≠ a) : kput (kput (kput h a e1) q e2) a e3 = kput (kput h q e2) a e3 := by
  rw [kput_comm (a := a) (b := q) (Ne.symm hn), kput_put]
set_option maxRecDepth 4000 in
theorem f_add {a v e n : Nat} {G : Nat → Nat} (hov : objAt h v) (hL : LR X h a e n G) (hG : ∀ i, i < n → objAt h (G i)) (hn15 : n ≤ 15) : Fn X 6 1 22 yJx4a65c_add_9ea2d cJx4a65c_add_9ea2d 2 (some .boolean) [.ref a, .ref v] h (fun rv hv => rv = some (.int (nI 1)) ∧ ∃ (md2 : Int32) (e2 cap2 : Nat) (F2 : Nat → Option Nat), ((e2 = e ∧ ∃ cap F, h e = some (kQ 2 cap F)) ∨ h e2 = none) ∧ hv = kput (kput h e2 (kQ 2 cap2 F2)) a (kO 13 [.int md2, .ref e2, .int (nI (n + 1))]) ∧ (cap2 = 10 ∨ cap2 = 15 ∨ cap2 = 22) ∧ n + 1 ≤ cap2 ∧ e2 ≠ a ∧ (∀ i, i < n → F2 i = some (G i)) ∧ F2 n = some v) := by
  refine fn_of (by decide) (Nat.le_of_ble_eq_true rfl) (fun M hM => ?_)
  obtain ⟨⟨md, ha⟩, hl⟩ := hL
  rcases hl with ⟨rfl, rfl⟩ | ⟨cap, F, he, hn, hcap, hF⟩
  · have ha : h a = some (kO 13 [.int md, .ref (X.2.2.2.1 2), .int (nI 0)]) := ha
    refine a_aload_n (pc := 0) dJx4a65c_add_9ea2d_0 rfl rfl ?_
    refine a_dup (pc := 1) dJx4a65c_add_9ea2d_1 rfl ?_
    refine a_getfield (pc := 2) kg_Jx4a65c_63 dJx4a65c_add_9ea2d_2 (ha) rfl ?_
    refine a_iconst (pc := 5) dJx4a65c_add_9ea2d_5 ic_1 ?_
    refine a_iadd (pc := 6) dJx4a65c_add_9ea2d_6 ?_
    refine a_putfield (pc := 7) kf_Jx4a65c_63 dJx4a65c_add_9ea2d_7 (ha) (rfl) (by rfl) (Nat.le_of_ble_eq_true rfl) ?_
    refine a_aload_n (pc := 10) dJx4a65c_add_9ea2d_10 rfl rfl ?_
    refine a_aload_n (pc := 11) dJx4a65c_add_9ea2d_11 rfl rfl ?_
    refine a_aload_n (pc := 12) dJx4a65c_add_9ea2d_12 rfl rfl ?_
    refine a_getfield (pc := 13) kg_Jx4a65c_9 dJx4a65c_add_9ea2d_13 (kput_eq) rfl ?_
    refine a_aload_n (pc := 16) dJx4a65c_add_9ea2d_16 rfl rfl ?_
    refine a_getfield (pc := 17) kg_Jx4a65c_48 dJx4a65c_add_9ea2d_17 (kput_eq) rfl ?_
    refine a_callV (pc := 20) km_Jx4a65c_131 dJx4a65c_add_9ea2d_20 (f_add3F (h := (kput h a (kO 13 [.int (md + nI 1), .ref (X.2.2.2.1 2), .int (nI 0)]))) (md := md + nI 1) (F := fun _ => none) hov.put2 kput_eq) rfl rfl (krecv_of (by rfl) kput_eq) (rok_of hM (by decide) (by decide) (by omega) (by omega)) (Nat.le_of_ble_eq_true rfl) (fun r20 h20 hp20 => ?_)
    obtain ⟨rfl, e2, cap2, F2, hee, rfl, hc2, hn2, hne, hFi, hF2⟩ := hp20
    refine a_iconst (pc := 23) dJx4a65c_add_9ea2d_23 ic_1 ?_
    refine a_ret_i (pc := 24) hM rfl (by decide +kernel) dJx4a65c_add_9ea2d_24 (by omega) (by omega) ?_
    exact ⟨rfl, md + nI 1, e2, cap2, F2, Or.inr ((kput_ne hne).symm.trans hee), by rw [kput_fin2 hne], hc2, hn2, hne, fun i hi => absurd hi (Nat.not_lt_zero _), hF2⟩
  · have hae := oq_ne ha he
    rcases Nat.lt_or_ge n cap with hlt | hge
    · skip
      refine a_aload_n (pc := 0) dJx4a65c_add_9ea2d_0 rfl rfl ?_
      refine a_dup (pc := 1) dJx4a65c_add_9ea2d_1 rfl ?_
      refine a_getfield (pc := 2) kg_Jx4a65c_63 dJx4a65c_add_9ea2d_2 (ha) rfl ?_
      refine a_iconst (pc := 5) dJx4a65c_add_9ea2d_5 ic_1 ?_
      refine a_iadd (pc := 6) dJx4a65c_add_9ea2d_6 ?_
      refine a_putfield (pc := 7) kf_Jx4a65c_63 dJx4a65c_add_9ea2d_7 (ha) (rfl) (by rfl) (Nat.le_of_ble_eq_true rfl) ?_
      refine a_aload_n (pc := 10) dJx4a65c_add_9ea2d_10 rfl rfl ?_
      refine a_aload_n (pc := 11) dJx4a65c_add_9ea2d_11 rfl rfl ?_
      refine a_aload_n (pc := 12) dJx4a65c_add_9ea2d_12 rfl rfl ?_
      refine a_getfield (pc := 13) kg_Jx4a65c_9 dJx4a65c_add_9ea2d_13 (kput_eq) rfl ?_
      refine a_aload_n (pc := 16) dJx4a65c_add_9ea2d_16 rfl rfl ?_
      refine a_getfield (pc := 17) kg_Jx4a65c_48 dJx4a65c_add_9ea2d_17 (kput_eq) rfl ?_
      refine a_callV (pc := 20) km_Jx4a65c_131 dJx4a65c_add_9ea2d_20 (f_add3R (h := (kput h a (kO 13 [.int (md + nI 1), .ref e, .int (nI n)]))) (md := md + nI 1) hov.put2 kput_eq ((kput_ne (Ne.symm hae)).trans he) hlt hcap) rfl rfl (krecv_of (by rfl) kput_eq) (rok_of hM (by decide) (by decide) (by omega) (by omega)) (Nat.le_of_ble_eq_true rfl) (fun r20 h20 hp20 => ?_)
      obtain ⟨rfl, e2, cap2, F2, hee, rfl, hc2, hn2, hne, hFi, hF2⟩ := hp20
      refine a_iconst (pc := 23) dJx4a65c_add_9ea2d_23 ic_1 ?_
      refine a_ret_i (pc := 24) hM rfl (by decide +kernel) dJx4a65c_add_9ea2d_24 (by omega) (by omega) ?_
      exact ⟨rfl, md + nI 1, e2, cap2, F2, Or.inl ⟨hee, cap, F, he⟩, by rw [kput_fin2 hne], hc2, hn2, hne, fun i hi => (hFi i hi).trans (hF i hi), hF2⟩
    · have hcn : cap = n := by omega
      subst hcn
      have hcap2 : cap = 10 ∨ cap = 15 := by omega
      refine a_aload_n (pc := 0) dJx4a65c_add_9ea2d_0 rfl rfl ?_
      refine a_dup (pc := 1) dJx4a65c_add_9ea2d_1 rfl ?_
      refine a_getfield (pc := 2) kg_Jx4a65c_63 dJx4a65c_add_9ea2d_2 (ha) rfl ?_
      refine a_iconst (pc := 5) dJx4a65c_add_9ea2d_5 ic_1 ?_
      refine a_iadd (pc := 6) dJx4a65c_add_9ea2d_6 ?_
      refine a_putfield (pc := 7) kf_Jx4a65c_63 dJx4a65c_add_9ea2d_7 (ha) (rfl) (by rfl) (Nat.le_of_ble_eq_true rfl) ?_
      refine a_aload_n (pc := 10) dJx4a65c_add_9ea2d_10 rfl rfl ?_
      refine a_aload_n (pc := 11) dJx4a65c_add_9ea2d_11 rfl rfl ?_
      refine a_aload_n (pc := 12) dJx4a65c_add_9ea2d_12 rfl rfl ?_
      refine a_getfield (pc := 13) kg_Jx4a65c_9 dJx4a65c_add_9ea2d_13 (kput_eq) rfl ?_
      refine a_aload_n (pc := 16) dJx4a65c_add_9ea2d_16 rfl rfl ?_
      refine a_getfield (pc := 17) kg_Jx4a65c_48 dJx4a65c_add_9ea2d_17 (kput_eq) rfl ?_
      refine a_callV (pc := 20) km_Jx4a65c_131 dJx4a65c_add_9ea2d_20 (f_add3G (F := F) (h := (kput h a (kO 13 [.int (md + nI 1), .ref e, .int (nI cap)]))) (md := md + nI 1) hov.put2 kput_eq ((kput_ne (Ne.symm hae)).trans he) (fun i hi v hv => by rw [hF i hi] at hv; rw [← Option.some.inj hv]; exact (hG i hi).put2) hcap2) rfl rfl (krecv_of (by rfl) kput_eq) (rok_of hM (by decide) (by decide) (by omega) (by omega)) (Nat.le_of_ble_eq_true rfl) (fun r20 h20 hp20 => ?_)
      obtain ⟨rfl, e2, cap2, F2, hee, rfl, hc2, hn2, hne, hFi, hF2⟩ := hp20
      refine a_iconst (pc := 23) dJx4a65c_add_9ea2d_23 ic_1 ?_
      refine a_ret_i (pc := 24) hM rfl (by decide +kernel) dJx4a65c_add_9ea2d_24 (by omega) (by omega) ?_
      exact ⟨rfl, md + nI 1, e2, cap2, F2, Or.inr ((kput_ne hne).symm.trans hee), by rw [kput_fin2 hne], hc2, hn2, hne, fun i hi => (hFi i hi).trans (hF i hi), hF2⟩


end LS

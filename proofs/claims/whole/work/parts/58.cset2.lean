/-! THE CLASS: LEAKS, RULE, SHEETS CHANGED -/
section CPF
variable {X : KX} {h : AH} {s : MST} {σ : Nat → Nat → Nat}
/-- the same places for another telling of the state -/
theorem CI_cg {s' : MST} (h1 : ∀ j, j ∈ pIl → s'.1 j = s.1 j) (h2 : ∀ a, a ∈ pAl → s'.2.1 a = s.2.1 a) (hI : CI X σ s h) : CS X σ s h s' h := by
  have hl : ∀ k i, clv s' k i ↔ clv s k i := clv_cg (fun j hj => h1 j (by revert hj; revert j; decide))
  have d1 : ∀ k, ∀ j, j ∈ cD1 k → j ∈ pIl := fun k => by
    match k with
    | 0 => exact (by decide)
    | 1 => exact (by decide)
    | 2 => exact (by decide)
    | 3 => exact (by decide)
    | 4 => exact (by decide)
    | 5 => exact (by decide)
    | 6 => exact (by decide)
    | 7 => exact (by decide)
    | 8 => exact (by decide)
    | 9 => exact (by decide)
    | 10 => exact (by decide)
    | 11 => exact (by decide)
    | 12 => exact (by decide)
    | 13 => exact (by decide)
    | 14 => exact (by decide)
    | 15 => exact (by decide)
    | 16 => exact (by decide)
    | 17 => exact (by decide)
    | 18 => exact (by decide)
    | 19 => exact (by decide)
    | 20 => exact (by decide)
    | 21 => exact (by decide)
    | 22 => exact (by decide)
    | 23 => exact (by decide)
    | 24 => exact (by decide)
    | 25 => exact (by decide)
    | 26 => exact (by decide)
    | 27 => exact (by decide)
    | 28 => exact (by decide)
    | 29 => exact (by decide)
    | 30 => exact (by decide)
    | n + 31 => exact fun j hj => absurd hj (by show ¬ j ∈ ([] : List Nat); simp)
  have d2 : ∀ k, ∀ j, j ∈ cDA k → j ∈ pAl := fun k => by
    match k with
    | 0 => exact (by decide)
    | 1 => exact (by decide)
    | 2 => exact (by decide)
    | 3 => exact (by decide)
    | 4 => exact (by decide)
    | 5 => exact (by decide)
    | 6 => exact (by decide)
    | 7 => exact (by decide)
    | 8 => exact (by decide)
    | 9 => exact (by decide)
    | 10 => exact (by decide)
    | 11 => exact (by decide)
    | 12 => exact (by decide)
    | 13 => exact (by decide)
    | 14 => exact (by decide)
    | 15 => exact (by decide)
    | 16 => exact (by decide)
    | 17 => exact (by decide)
    | 18 => exact (by decide)
    | 19 => exact (by decide)
    | 20 => exact (by decide)
    | 21 => exact (by decide)
    | 22 => exact (by decide)
    | 23 => exact (by decide)
    | 24 => exact (by decide)
    | 25 => exact (by decide)
    | 26 => exact (by decide)
    | 27 => exact (by decide)
    | 28 => exact (by decide)
    | 29 => exact (by decide)
    | 30 => exact (by decide)
    | n + 31 => exact fun j hj => absurd hj (by show ¬ j ∈ ([] : List Nat); simp)
  refine ⟨hl, ⟨fun k i k' i' a b => hI.1 k i k' i' ((hl k i).mp a) ((hl k' i').mp b), fun k i hk => ?_⟩, fun a _ hn => ⟨rfl, fun k i hk => hn k i ((hl k i).mp hk)⟩⟩
  obtain ⟨e, he, hc⟩ := hI.2 k i ((hl k i).mp hk)
  exact ⟨e, he, CP_cg (fun j hj => h1 j (d1 k j hj)) (fun a ha => h2 a (d2 k a ha)) hc⟩
theorem CI_sp {s' : MST} (hS : SP s s') (hI : CI X σ s h) : CS X σ s h s' h := CI_cg (fun j hj => (hS.1 j hj).symm) (fun a ha => (hS.2.1 a ha).symm) hI
theorem c_lk2 (hI : CI X σ s h) {k : Nat} (hk : k < vI s 28) : ∃ w : Bool, h (σ 24 k) = some (kO 1 [.int (s.2.1 24 k), .int (s.2.1 25 k), .int (s.2.1 26 k), .int (s.2.1 27 k), .int (bI w)]) ∧ (s.1 57 = nI 1 → k < vI s 59 → bI w = s.2.1 56 k) := by
  obtain ⟨e, he, w, rfl, hw⟩ := hI.2 24 k hk
  exact ⟨w, he, hw⟩
theorem st27 (hI : CI X σ s h) {k : Nat} {v : Int32} {w : Bool} (hk : k < vI s 28) (hw : s.1 57 = nI 1 → k < vI s 59 → bI w = s.2.1 56 k) : CS X σ s h (sa s 27 (upd (s.2.1 27) k v)) (kput h (σ 24 k) (kO 1 [.int (s.2.1 24 k), .int (s.2.1 25 k), .int (s.2.1 26 k), .int v, .int (bI w)])) :=
  CI.puts1 hI clv_sa (k1 := 24) (i1 := k) hk ⟨w, by show _ = kO 1 [_, _, _, .int (upd (s.2.1 27) k v k), _]; rw [pk_us]; rfl, hw⟩ (fun q i e hn _ hc => by
    by_cases z : q = 24
    · subst z
      obtain ⟨w2, rfl, hw2⟩ := hc
      refine ⟨w2, ?_, hw2⟩
      show _ = kO 1 [_, _, _, .int (upd (s.2.1 27) k v i), _]
      rw [pk_un (fun y => hn ⟨rfl, y⟩)]
      rfl
    · exact CP_sa (nD_27 q z) hc)
theorem st4 (hI : CI X σ s h) {v : Int32} : CS X σ s h (si s 4 v) (kput h (σ 0 0) (kO 11 ((cfl σ s).set 10 (.int v)))) :=
  CI.puts1 hI (clv_si (by decide)) (k1 := 0) (i1 := 0) Nat.zero_lt_one (by
    show _ = kO 11 (cfl σ (si s 4 v))
    unfold cfl
    rw [si_e, si_n (by decide), si_n (by decide), si_n (by decide), si_n (by decide)]
    rfl) (fun q i e hn hk hc => by
    by_cases z : q = 0
    · subst z
      exact absurd ⟨rfl, Nat.lt_one_iff.mp hk⟩ hn
    · exact CP_si (nd_4 q z) hc)
theorem ok1 {x : Int32} (ho : okV x 2) (h0 : ¬ x = 0) : nI 1 = x := by
  have e := ho.nI
  have h2 := ho.2
  rcases (by omega : x.toNatClampNeg = 0 ∨ x.toNatClampNeg = 1) with q | q
  · exact absurd (by rw [e, q]; rfl) h0
  · rw [e, q]
set_option maxRecDepth 4000 in
theorem f_cshut (hI : CI X σ s h) (hV : MV s) (x i : Int32) : Fn X 3 0 0 yX11_shut cX11_shut 5 (some .int) [.ref (σ 0 0), .int x, .int i] h (fun rv hv => rv = some (.int (R_shut s x i).1) ∧ CE X σ s h (R_shut s x i).2 hv) := by
  have b10 : vI s 10 ≤ 4 := hV.1.1.2
  have b18 : vI s 18 ≤ 16 := hV.2.1.1.2
  have b28 : vI s 28 ≤ 10 := hV.2.2.1.1.2
  have b31 : vI s 31 ≤ 6 := hV.2.2.2.1.1.2
  have b3 : vI s 3 ≤ 6 := hV.2.2.2.2.2.2.1.1.2
  refine fn_of (by decide) (Nat.le_of_ble_eq_true rfl) (fun M hM => ?_)
  refine a_iload_n (pc := 0) dX11_shut_0 rfl rfl ?_
  refine a_aload_n (pc := 1) dX11_shut_1 rfl rfl ?_
  refine a_getfield (pc := 2) kg_X11_19 dX11_shut_2 (c_fc hI) rfl ?_
  refine a_callV (pc := 5) km_X11_97 dX11_shut_5 (w_size hI (i := 2) (by decide)) rfl rfl (kr_l hI (i := 2) (by decide)) (rok_of hM (by decide) (by decide) (by omega) (by omega)) (Nat.le_of_ble_eq_true rfl) (fun r5 h5 hp5 => ?_)
  obtain ⟨rfl, rfl⟩ := And.intro hp5.1 hp5.2.symm
  refine a_topi (show _ = nI (vI s 28) from rfl) ?_
  refine a_callS (pc := 8) km_X11_103 dX11_shut_8 (f_among x (by omega)) rfl rfl (rok_of hM (by decide) (by decide) (by omega) (by omega)) (Nat.le_of_ble_eq_true rfl) (fun r8 h8 hp8 => ?_)
  obtain ⟨rfl, rfl⟩ := And.intro hp8.1 hp8.2.symm
  refine a_if_eqB (pc := 11) (tgt := 22) dX11_shut_11 (by decide) (fun c11 => ?_) (fun c11 => ?_)
  · have e : R_shut s x i = (-2, s) := by unfold R_shut; rw [c11]; rfl
    refine a_bipush (pc := 22) dX11_shut_22 ib_m2 ?_
    refine a_ret_i (pc := 24) hM rfl (rfl) dX11_shut_24 (by omega) (by omega) ?_
    exact pubI e rfl (CS.rf hI).ce
  · obtain ⟨k, hk, rfl⟩ := inN_of c11 (by omega)
    have ek : (nI k).toNatClampNeg = k := nI_clamp (by omega)
    obtain ⟨w, hw, hw2⟩ := c_lk2 hI hk
    have ok27 := (hV.2.2.1.2 k hk).2.2.2
    refine a_iload_n (pc := 14) dX11_shut_14 rfl rfl ?_
    refine a_iconst (pc := 15) dX11_shut_15 ic_2 ?_
    refine a_callS (pc := 16) km_X11_103 dX11_shut_16 (f_among i (by decide)) rfl rfl (rok_of hM (by decide) (by decide) (by omega) (by omega)) (Nat.le_of_ble_eq_true rfl) (fun r16 h16 hp16 => ?_)
    obtain ⟨rfl, rfl⟩ := And.intro hp16.1 hp16.2.symm
    refine a_if_neB (pc := 19) (tgt := 25) dX11_shut_19 (by decide) (fun c19 => ?_) (fun c19 => ?_)
    · obtain ⟨v, hv, rfl⟩ := inN_of c19 (by decide)
      have ev : (nI v).toNatClampNeg = v := nI_clamp (by omega)
      refine a_aload_n (pc := 25) dX11_shut_25 rfl rfl ?_
      refine a_getfield (pc := 26) kg_X11_19 dX11_shut_26 (c_fc hI) rfl ?_
      refine a_iload_n (pc := 29) dX11_shut_29 rfl rfl ?_
      refine a_callV (pc := 30) km_X11_109 dX11_shut_30 (w_get hI (i := 2) (j := k) (by decide) (show k < vI s 28 from hk)) rfl rfl (kr_l hI (i := 2) (by decide)) (rok_of hM (by decide) (by decide) (by omega) (by omega)) (Nat.le_of_ble_eq_true rfl) (fun r30 h30 hp30 => ?_)
      obtain ⟨rfl, rfl⟩ := And.intro hp30.1 hp30.2.symm
      refine a_topr (show _ = σ 24 k from rfl) ?_
      refine a_castE (pc := 33) kl_X11_194 rfl (c_isL hI (show k < vI s 28 from hk)) dX11_shut_33 ?_
      refine a_astore_n (pc := 36) dX11_shut_36 rfl (by decide) rfl ?_
      refine a_aload_n (pc := 37) dX11_shut_37 rfl rfl ?_
      refine a_getfield (pc := 38) kg_X11_199 dX11_shut_38 (hw) rfl ?_
      refine a_if_eq (pc := 41) (tgt := 48) dX11_shut_41 (by decide) (fun c41 => ?_) (fun c41 => ?_)
      · have ew : nI 0 = s.2.1 27 k := c41.symm
        refine a_iconst (pc := 48) dX11_shut_48 ic_0 ?_
        refine a_istore (pc := 49) dX11_shut_49 (by decide) rfl ?_
        refine a_aload_n (pc := 51) dX11_shut_51 rfl rfl ?_
        refine a_iload_n (pc := 52) dX11_shut_52 rfl rfl ?_
        refine a_iconst (pc := 53) dX11_shut_53 ic_1 ?_
        refine a_icmp_ne (pc := 54) (tgt := 61) dX11_shut_54 (by decide) (fun c54 => ?_) (fun c54 => ?_)
        · have e0 : nI v = nI 0 := by rcases (by omega : v = 0 ∨ v = 1) with rfl | rfl <;> first | rfl | exact absurd rfl c54
          rw [e0] at c19
          have hcs := (st27 (v := nI 0) hI hk hw2).ce
          refine a_iconst (pc := 61) dX11_shut_61 ic_0 ?_
          refine a_putfield (pc := 62) kf_X11_199 dX11_shut_62 (hw) (by decide +kernel) (by rfl) (Nat.le_of_ble_eq_true rfl) ?_
          refine a_iload (pc := 65) dX11_shut_65 rfl ?_
          refine a_ret_i (pc := 67) hM rfl (rfl) dX11_shut_67 (by omega) (by omega) ?_
          exact pubI (by rw [e0]; unfold R_shut; rw [c11, c19, ek]; rfl) (congrArg (fun t => some (Value.int t)) ew) hcs
        · rw [c54] at c19
          have e0 : nI v = nI 1 := c54
          have hcs := (st27 (v := nI 1) hI hk hw2).ce
          refine a_iconst (pc := 57) dX11_shut_57 ic_1 ?_
          refine a_goto (pc := 58) (tgt := 62) dX11_shut_58 (by decide) ?_
          refine a_putfield (pc := 62) kf_X11_199 dX11_shut_62 (hw) (by decide +kernel) (by rfl) (Nat.le_of_ble_eq_true rfl) ?_
          refine a_iload (pc := 65) dX11_shut_65 rfl ?_
          refine a_ret_i (pc := 67) hM rfl (rfl) dX11_shut_67 (by omega) (by omega) ?_
          exact pubI (by rw [e0]; unfold R_shut; rw [c11, c19, ek]; rfl) (congrArg (fun t => some (Value.int t)) ew) hcs
      · have ew : nI 1 = s.2.1 27 k := ok1 ok27 c41
        refine a_iconst (pc := 44) dX11_shut_44 ic_1 ?_
        refine a_goto (pc := 45) (tgt := 49) dX11_shut_45 (by decide) ?_
        refine a_istore (pc := 49) dX11_shut_49 (by decide) rfl ?_
        refine a_aload_n (pc := 51) dX11_shut_51 rfl rfl ?_
        refine a_iload_n (pc := 52) dX11_shut_52 rfl rfl ?_
        refine a_iconst (pc := 53) dX11_shut_53 ic_1 ?_
        refine a_icmp_ne (pc := 54) (tgt := 61) dX11_shut_54 (by decide) (fun c54 => ?_) (fun c54 => ?_)
        · have e0 : nI v = nI 0 := by rcases (by omega : v = 0 ∨ v = 1) with rfl | rfl <;> first | rfl | exact absurd rfl c54
          rw [e0] at c19
          have hcs := (st27 (v := nI 0) hI hk hw2).ce
          refine a_iconst (pc := 61) dX11_shut_61 ic_0 ?_
          refine a_putfield (pc := 62) kf_X11_199 dX11_shut_62 (hw) (by decide +kernel) (by rfl) (Nat.le_of_ble_eq_true rfl) ?_
          refine a_iload (pc := 65) dX11_shut_65 rfl ?_
          refine a_ret_i (pc := 67) hM rfl (rfl) dX11_shut_67 (by omega) (by omega) ?_
          exact pubI (by rw [e0]; unfold R_shut; rw [c11, c19, ek]; rfl) (congrArg (fun t => some (Value.int t)) ew) hcs
        · rw [c54] at c19
          have e0 : nI v = nI 1 := c54
          have hcs := (st27 (v := nI 1) hI hk hw2).ce
          refine a_iconst (pc := 57) dX11_shut_57 ic_1 ?_
          refine a_goto (pc := 58) (tgt := 62) dX11_shut_58 (by decide) ?_
          refine a_putfield (pc := 62) kf_X11_199 dX11_shut_62 (hw) (by decide +kernel) (by rfl) (Nat.le_of_ble_eq_true rfl) ?_
          refine a_iload (pc := 65) dX11_shut_65 rfl ?_
          refine a_ret_i (pc := 67) hM rfl (rfl) dX11_shut_67 (by omega) (by omega) ?_
          exact pubI (by rw [e0]; unfold R_shut; rw [c11, c19, ek]; rfl) (congrArg (fun t => some (Value.int t)) ew) hcs
    · have e : R_shut s (nI k) i = (-2, s) := by unfold R_shut; rw [c11, c19]; rfl
      refine a_bipush (pc := 22) dX11_shut_22 ib_m2 ?_
      refine a_ret_i (pc := 24) hM rfl (rfl) dX11_shut_24 (by omega) (by omega) ?_
      exact pubI e rfl (CS.rf hI).ce

set_option maxRecDepth 4000 in
theorem f_cforce (hI : CI X σ s h) (hV : MV s) (x : Int32) : Fn X 3 0 0 yX11_force cX11_force 3 (some .int) [.ref (σ 0 0), .int x] h (fun rv hv => rv = some (.int (R_force s x).1) ∧ CE X σ s h (R_force s x).2 hv) := by
  have b10 : vI s 10 ≤ 4 := hV.1.1.2
  have b18 : vI s 18 ≤ 16 := hV.2.1.1.2
  have b28 : vI s 28 ≤ 10 := hV.2.2.1.1.2
  have b31 : vI s 31 ≤ 6 := hV.2.2.2.1.1.2
  have b3 : vI s 3 ≤ 6 := hV.2.2.2.2.2.2.1.1.2
  refine fn_of (by decide) (Nat.le_of_ble_eq_true rfl) (fun M hM => ?_)
  refine a_iload_n (pc := 0) dX11_force_0 rfl rfl ?_
  refine a_aload_n (pc := 1) dX11_force_1 rfl rfl ?_
  refine a_getfield (pc := 2) kg_X11_25 dX11_force_2 (c_fc hI) rfl ?_
  refine a_callV (pc := 5) km_X11_97 dX11_force_5 (w_size hI (i := 4) (by decide)) rfl rfl (kr_l hI (i := 4) (by decide)) (rok_of hM (by decide) (by decide) (by omega) (by omega)) (Nat.le_of_ble_eq_true rfl) (fun r5 h5 hp5 => ?_)
  obtain ⟨rfl, rfl⟩ := And.intro hp5.1 hp5.2.symm
  refine a_topi (show _ = nI (vI s 3) from rfl) ?_
  refine a_callS (pc := 8) km_X11_103 dX11_force_8 (f_among x (by omega)) rfl rfl (rok_of hM (by decide) (by decide) (by omega) (by omega)) (Nat.le_of_ble_eq_true rfl) (fun r8 h8 hp8 => ?_)
  obtain ⟨rfl, rfl⟩ := And.intro hp8.1 hp8.2.symm
  refine a_if_neB (pc := 11) (tgt := 17) dX11_force_11 (by decide) (fun c11 => ?_) (fun c11 => ?_)
  · obtain ⟨k, hk, rfl⟩ := inN_of c11 (by omega)
    have ek : (nI k).toNatClampNeg = k := nI_clamp (by omega)
    refine a_aload_n (pc := 17) dX11_force_17 rfl rfl ?_
    refine a_getfield (pc := 18) kg_X11_232 dX11_force_18 (c_fc hI) rfl ?_
    refine a_istore_n (pc := 21) dX11_force_21 rfl (by decide) rfl ?_
    refine a_aload_n (pc := 22) dX11_force_22 rfl rfl ?_
    refine a_iload_n (pc := 23) dX11_force_23 rfl rfl ?_
    refine a_putfield (pc := 24) kf_X11_232 dX11_force_24 (c_fc hI) (rfl) (by rfl) (Nat.le_of_ble_eq_true rfl) ?_
    refine a_iload_n (pc := 27) dX11_force_27 rfl rfl ?_
    refine a_ret_i (pc := 28) hM rfl (rfl) dX11_force_28 (by omega) (by omega) ?_
    exact pubI (by unfold R_force; rw [c11]; rfl) rfl (st4 hI).ce
  · refine a_bipush (pc := 14) dX11_force_14 ib_m2 ?_
    refine a_ret_i (pc := 16) hM rfl (rfl) dX11_force_16 (by omega) (by omega) ?_
    exact pubI (by unfold R_force; rw [c11]; rfl) rfl (CS.rf hI).ce

theorem st_sh {s' : MST} {q : Nat} {e3 e4 : kE} (hI : CI X σ s h) (hq : q < 4) (h1 : ∀ j, s'.1 j = s.1 j) (h2 : ∀ a, a ≠ 61 → a ≠ 62 → a ≠ 63 → a ≠ 64 → s'.2.1 a = s.2.1 a) (h3 : ∀ i, i ≠ q → s'.2.1 61 i = s.2.1 61 i ∧ s'.2.1 62 i = s.2.1 62 i ∧ s'.2.1 63 i = s.2.1 63 i) (h4 : ∀ i j, i < 4 → i ≠ q → s.2.1 61 i = nI 1 → j < vA s 63 i → s'.2.1 64 (40 * i + j) = s.2.1 64 (40 * i + j)) (n3 : CP X σ s' 3 q e3) (n4 : CP X σ s' 4 q e4) : CS X σ s h s' (kput (kput h (σ 3 q) e3) (σ 4 q) e4) :=
  CI.puts2 hI (clv_cg (fun j _ => h1 j)) (k1 := 3) (i1 := q) (k2 := 4) (i2 := q) hq hq n3 n4 (fun k i e m1 m2 hk hc => by
    by_cases z3 : k = 3
    · subst z3
      have hi : i ≠ q := fun y => m1 ⟨rfl, y⟩
      obtain ⟨e1, e2, e3⟩ := h3 i hi
      have hc2 : ∃ so sz : Int32, e = kO 7 [.ref (σ 4 i), .int so, .int sz] ∧ (s.2.1 61 i = 0 → so = -1) ∧ (s.2.1 61 i = nI 1 → so = s.2.1 62 i ∧ sz = s.2.1 63 i) := hc
      show ∃ so sz : Int32, e = kO 7 [.ref (σ 4 i), .int so, .int sz] ∧ (s'.2.1 61 i = 0 → so = -1) ∧ (s'.2.1 61 i = nI 1 → so = s'.2.1 62 i ∧ sz = s'.2.1 63 i)
      rw [e1, e2, e3]
      exact hc2
    · by_cases z4 : k = 4
      · subst z4
        have hi : i ≠ q := fun y => m2 ⟨rfl, y⟩
        obtain ⟨e1, e2, e3⟩ := h3 i hi
        have hc2 : ∃ f : Nat → Int32, e = kI 40 f ∧ (s.2.1 61 i = nI 1 → ∀ j, j < (s.2.1 63 i).toNatClampNeg → f j = s.2.1 64 (40 * i + j)) := hc
        show ∃ f : Nat → Int32, e = kI 40 f ∧ (s'.2.1 61 i = nI 1 → ∀ j, j < (s'.2.1 63 i).toNatClampNeg → f j = s'.2.1 64 (40 * i + j))
        rw [e1, e3]
        obtain ⟨f, hf, hj⟩ := hc2
        exact ⟨f, hf, fun y j hjz => (hj y j hjz).trans (h4 i j hk hi y hjz).symm⟩
      · exact CP_cg (fun j _ => h1 j) (fun a ha => h2 a (fun y => nD_61 k z3 z4 (y ▸ ha)) (fun y => nD_62 k z3 (y ▸ ha)) (fun y => nD_63 k z3 z4 (y ▸ ha)) (fun y => nD_64 k z4 (y ▸ ha))) hc)
section NSH
variable {q : Nat} {so n : Int32}
theorem ns_1 (j : Nat) : (N_sheet s q so n).1 j = s.1 j := by unfold N_sheet; rw [sa_1, sa_1, sa_1, sa_1]
theorem ns_61 : (N_sheet s q so n).2.1 61 = upd (s.2.1 61) q (if so < 0 then nI 0 else nI 1) := by unfold N_sheet; rw [sa_n (by decide), sa_n (by decide), sa_n (by decide), sa_e]
theorem ns_62 : (N_sheet s q so n).2.1 62 = upd (s.2.1 62) q so := by unfold N_sheet; rw [sa_n (by decide), sa_n (by decide), sa_e]
theorem ns_63 : (N_sheet s q so n).2.1 63 = upd (s.2.1 63) q n := by unfold N_sheet; rw [sa_n (by decide), sa_e]
theorem ns_64 : (N_sheet s q so n).2.1 64 = if so < 0 then s.2.1 64 else fillO (fun _ => nI 0) (s.2.1 64) (40 * q) n.toNatClampNeg := by unfold N_sheet; rw [sa_e]
theorem ns_n {a : Nat} (h1 : a ≠ 61) (h2 : a ≠ 62) (h3 : a ≠ 63) (h4 : a ≠ 64) : (N_sheet s q so n).2.1 a = s.2.1 a := by unfold N_sheet; rw [sa_n h4, sa_n h3, sa_n h2, sa_n h1]
end NSH
theorem inM_of {so : Int32} (hm : inM so = true) : so = -1 ∨ ∃ v : Nat, v < 3 ∧ so = nI v := by
  unfold inM at hm
  rw [Bool.and_eq_true, decide_eq_true_eq, decide_eq_true_eq] at hm
  by_cases q : so.toInt = -1
  · exact Or.inl (Int32.toInt_inj.mp (q.trans (by decide)))
  · refine Or.inr ⟨so.toInt.toNat, by omega, ?_⟩
    rw [← Int32.toInt_inj, nI_toInt (by omega)]
    omega
theorem c40 {n : Int32} (h : n ≤ nI 40) : n.toNatClampNeg ≤ 40 := by
  rw [Int32.le_iff_toInt_le, nI_toInt (by decide)] at h
  show n.toInt.toNat ≤ 40
  omega
theorem m_lt {so : Int32} (hm : inM so = true) (h : so < 0) : so = -1 := by
  rcases inM_of hm with z | ⟨v, hv, rfl⟩
  · exact z
  · exact absurd h (nI_pos (by omega))
theorem sheet_cs (hI : CI X σ s h) (hV : MV s) {q : Nat} {so n z2 : Int32} {it : Nat → Int32} (hq : q < 4) (hm : inM so = true) (hz : so < 0 ∨ (z2 = n ∧ n ≤ nI 40)) : CS X σ s h (N_sheet s q so n) (kput (kput h (σ 3 q) (kO 7 [.ref (σ 4 q), .int so, .int z2])) (σ 4 q) (kI 40 (fillO (fun _ => nI 0) it 0 40))) := by
  refine st_sh hI hq ns_1 (fun a h1 h2 h3 h4 => ns_n h1 h2 h3 h4) (fun i hi => ⟨by rw [ns_61, pk_un hi], by rw [ns_62, pk_un hi], by rw [ns_63, pk_un hi]⟩) (fun i j h4 hi y hj => ?_) ?_ ?_
  · rw [ns_64]
    by_cases z : so < 0
    · rw [if_pos z]
    · rw [if_neg z]
      have hn := c40 (hz.resolve_left z).2
      have h40 := (MV_there hV h4 (by rw [y]; decide)).2.2.2
      unfold fillO
      rw [if_neg (by omega)]
  · show ∃ so' sz' : Int32, kO 7 [.ref (σ 4 q), .int so, .int z2] = kO 7 [.ref (σ 4 q), .int so', .int sz'] ∧ ((N_sheet s q so n).2.1 61 q = 0 → so' = -1) ∧ ((N_sheet s q so n).2.1 61 q = nI 1 → so' = (N_sheet s q so n).2.1 62 q ∧ sz' = (N_sheet s q so n).2.1 63 q)
    rw [ns_61, ns_62, ns_63, pk_us, pk_us, pk_us]
    by_cases z : so < 0
    · rw [if_pos z]
      exact ⟨so, z2, rfl, fun _ => m_lt hm z, fun y => absurd y (by decide)⟩
    · rw [if_neg z]
      exact ⟨so, z2, rfl, fun y => absurd y (by decide), fun _ => ⟨rfl, (hz.resolve_left z).1⟩⟩
  · show ∃ f : Nat → Int32, kI 40 (fillO (fun _ => nI 0) it 0 40) = kI 40 f ∧ ((N_sheet s q so n).2.1 61 q = nI 1 → ∀ j, j < ((N_sheet s q so n).2.1 63 q).toNatClampNeg → f j = (N_sheet s q so n).2.1 64 (40 * q + j))
    rw [ns_61, ns_63, ns_64, pk_us, pk_us]
    refine ⟨_, rfl, fun y j hj => ?_⟩
    by_cases z : so < 0
    · rw [if_pos z] at y
      exact absurd y (by decide)
    · have hn := c40 (hz.resolve_left z).2
      rw [if_neg z]
      unfold fillO
      rw [if_pos ⟨Nat.zero_le _, by omega⟩, if_pos ⟨by omega, by omega⟩]
theorem st64 (hI : CI X σ s h) (hV : MV s) {q : Nat} {F it' : Nat → Int32} (hq : q < 4) (h1 : ¬ s.2.1 61 q = 0 → ∀ j, j < vA s 63 q → it' j = F (40 * q + j)) (h2 : ∀ p, (p < 40 * q ∨ 40 * q + 40 ≤ p) → F p = s.2.1 64 p) : CS X σ s h (sa s 64 F) (kput h (σ 4 q) (kI 40 it')) :=
  CI.puts1 hI clv_sa (k1 := 4) (i1 := q) hq (by
    show ∃ f : Nat → Int32, kI 40 it' = kI 40 f ∧ ((sa s 64 F).2.1 61 q = nI 1 → ∀ j, j < ((sa s 64 F).2.1 63 q).toNatClampNeg → f j = (sa s 64 F).2.1 64 (40 * q + j))
    rw [sa_n (by decide), sa_n (by decide), sa_e]
    exact ⟨it', rfl, fun y j hj => h1 (by rw [y]; decide) j hj⟩) (fun k i e hn hk hc => by
    by_cases z : k = 4
    · subst z
      have hi : i ≠ q := fun y => hn ⟨rfl, y⟩
      have hc2 : ∃ f : Nat → Int32, e = kI 40 f ∧ (s.2.1 61 i = nI 1 → ∀ j, j < (s.2.1 63 i).toNatClampNeg → f j = s.2.1 64 (40 * i + j)) := hc
      show ∃ f : Nat → Int32, e = kI 40 f ∧ ((sa s 64 F).2.1 61 i = nI 1 → ∀ j, j < ((sa s 64 F).2.1 63 i).toNatClampNeg → f j = (sa s 64 F).2.1 64 (40 * i + j))
      rw [sa_n (by decide), sa_n (by decide), sa_e]
      obtain ⟨f, hf, hj⟩ := hc2
      refine ⟨f, hf, fun y j hjz => (hj y j hjz).trans (h2 _ ?_).symm⟩
      have h40 := (MV_there hV (show i < 4 from hk) (by rw [y]; decide)).2.2.2
      have hjz : j < vA s 63 i := hjz
      omega
    · exact CP_sa (nD_64 k z) hc)
theorem inM_w {so : Int32} : (decide ((-1 : Int32) ≤ so) && decide (so ≤ nI 2)) = inM so := by
  unfold inM
  rw [show decide ((-1 : Int32) ≤ so) = decide (-1 ≤ so.toInt) from by rw [decide_eq_decide, Int32.le_iff_toInt_le]; exact Iff.rfl, show decide (so ≤ nI 2) = decide (so.toInt ≤ 2) from by rw [decide_eq_decide, Int32.le_iff_toInt_le, nI_toInt (by decide)]; exact Iff.rfl]
set_option maxRecDepth 4000 in
theorem f_csheet (hI : CI X σ s h) (hV : MV s) (x so n : Int32) : Fn X 3 0 0 yX11_sheet cX11_sheet 5 (some .int) [.ref (σ 0 0), .int x, .int so, .int n] h (fun rv hv => rv = some (.int (R_sheet s x so n).1) ∧ CE X σ s h (R_sheet s x so n).2 hv) := by
  have b10 : vI s 10 ≤ 4 := hV.1.1.2
  have b18 : vI s 18 ≤ 16 := hV.2.1.1.2
  have b28 : vI s 28 ≤ 10 := hV.2.2.1.1.2
  have b31 : vI s 31 ≤ 6 := hV.2.2.2.1.1.2
  have b3 : vI s 3 ≤ 6 := hV.2.2.2.2.2.2.1.1.2
  refine fn_of (by decide) (Nat.le_of_ble_eq_true rfl) (fun M hM => ?_)
  refine a_iload_n (pc := 0) dX11_sheet_0 rfl rfl ?_
  refine a_iconst (pc := 1) dX11_sheet_1 ic_4 ?_
  refine a_callS (pc := 2) km_X11_103 dX11_sheet_2 (f_among x (by decide)) rfl rfl (rok_of hM (by decide) (by decide) (by omega) (by omega)) (Nat.le_of_ble_eq_true rfl) (fun r2 h2 hp2 => ?_)
  obtain ⟨rfl, rfl⟩ := And.intro hp2.1 hp2.2.symm
  refine a_if_eqB (pc := 5) (tgt := 17) dX11_sheet_5 (by decide) (fun c5 => ?_) (fun c5 => ?_)
  · have e : R_sheet s x so n = (-2, s) := by unfold R_sheet; rw [c5]; rfl
    refine a_bipush (pc := 17) dX11_sheet_17 ib_m2 ?_
    refine a_ret_i (pc := 19) hM rfl (rfl) dX11_sheet_19 (by omega) (by omega) ?_
    exact pubI e rfl (CS.rf hI).ce
  · obtain ⟨q, hq, rfl⟩ := inN_of c5 (by decide)
    have eq : (nI q).toNatClampNeg = q := nI_clamp (by omega)
    obtain ⟨so0, sz0, it, s1, s2, s3, s4⟩ := c_sh hI hV hq
    refine a_iload_n (pc := 8) dX11_sheet_8 rfl rfl ?_
    refine a_iconst (pc := 9) dX11_sheet_9 ic_m1 ?_
    refine a_iconst (pc := 10) dX11_sheet_10 ic_2 ?_
    refine a_callS (pc := 11) km_X11_86 dX11_sheet_11 (f_within so (-1) (nI 2)) rfl rfl (rok_of hM (by decide) (by decide) (by omega) (by omega)) (Nat.le_of_ble_eq_true rfl) (fun r11 h11 hp11 => ?_)
    obtain ⟨rfl, rfl⟩ := And.intro hp11.1 hp11.2.symm
    refine a_if_neB (pc := 14) (tgt := 20) dX11_sheet_14 (by decide) (fun c14 => ?_) (fun c14 => ?_)
    · have c14m : inM so = true := by rw [← inM_w]; exact c14
      refine a_iload_n (pc := 20) dX11_sheet_20 rfl rfl ?_
      refine a_iconst (pc := 21) dX11_sheet_21 ic_m1 ?_
      refine a_icmp_ne (pc := 22) (tgt := 29) dX11_sheet_22 (by decide) (fun c22 => ?_) (fun c22 => ?_)
      · have hs0 : ¬ so < 0 := fun z => c22 (m_lt c14m z)
        refine a_iload_n (pc := 29) dX11_sheet_29 rfl rfl ?_
        refine a_istore (pc := 30) dX11_sheet_30 (by decide) rfl ?_
        refine a_iload (pc := 32) dX11_sheet_32 rfl ?_
        refine a_bipush (pc := 34) dX11_sheet_34 ib_40 ?_
        refine a_icmp_le (pc := 36) (tgt := 42) dX11_sheet_36 (by decide) (fun c36 => ?_) (fun c36 => ?_)
        · refine a_iload (pc := 42) dX11_sheet_42 rfl ?_
          refine a_if_ge (pc := 44) (tgt := 50) dX11_sheet_44 (by decide) (fun c44 => ?_) (fun c44 => ?_)
          · refine a_aload_n (pc := 50) dX11_sheet_50 rfl rfl ?_
            refine a_getfield (pc := 51) kg_X11_30 dX11_sheet_51 (c_fc hI) rfl ?_
            refine a_iload_n (pc := 54) dX11_sheet_54 rfl rfl ?_
            refine a_shl (pc := 55) hI hq dX11_sheet_55 ?_
            refine a_iload_n (pc := 56) dX11_sheet_56 rfl rfl ?_
            refine a_iload (pc := 57) dX11_sheet_57 rfl ?_
            refine a_callV (pc := 59) km_X11_279 dX11_sheet_59 (f_become s1 s2 so _) rfl rfl (krecv_of (ci := 7) rfl s1) (rok_of hM (by decide) (by decide) (by omega) (by omega)) (Nat.le_of_ble_eq_true rfl) (fun r59 h59 hp59 => ?_)
            obtain ⟨rfl, rfl⟩ := And.intro hp59.1 hp59.2.symm
            refine a_iconst (pc := 62) dX11_sheet_62 ic_1 ?_
            refine a_ret_i (pc := 63) hM rfl (rfl) dX11_sheet_63 (by omega) (by omega) ?_
            first | exact pubI (by unfold R_sheet; rw [c5, c14m, eq]; exact if_pos hs0) rfl (sheet_cs hI hV hq c14m (Or.inl hs0)).ce | exact pubI (by unfold R_sheet; rw [c5, c14m, eq]; exact (if_neg hs0).trans ((if_pos c36).trans (if_neg (Int32.not_lt.mpr c44)))) rfl (sheet_cs hI hV hq c14m (Or.inr ⟨rfl, c36⟩)).ce
          · refine a_bipush (pc := 47) dX11_sheet_47 ib_m14 ?_
            refine a_ret_i (pc := 49) hM rfl (rfl) dX11_sheet_49 (by omega) (by omega) ?_
            first | exact absurd c44 (by decide) | exact pubI (by unfold R_sheet; rw [c5, c14m]; exact (if_neg hs0).trans ((if_pos c36).trans (if_pos (Int32.not_le.mp c44)))) rfl (CS.rf hI).ce
        · have e40 : so < 0 ∨ ¬ n ≤ nI 40 := by first | exact Or.inr c36 | exact Or.inl hs0
          refine a_bipush (pc := 39) dX11_sheet_39 ib_m2 ?_
          refine a_ret_i (pc := 41) hM rfl (rfl) dX11_sheet_41 (by omega) (by omega) ?_
          first | exact absurd (show nI 0 ≤ nI 40 by decide) c36 | exact pubI (by unfold R_sheet; rw [c5, c14m]; exact (if_neg hs0).trans (if_neg c36)) rfl (CS.rf hI).ce
      · have hs0 : so < 0 := by rw [c22]; decide
        refine a_iconst (pc := 25) dX11_sheet_25 ic_0 ?_
        refine a_goto (pc := 26) (tgt := 30) dX11_sheet_26 (by decide) ?_
        refine a_istore (pc := 30) dX11_sheet_30 (by decide) rfl ?_
        refine a_iload (pc := 32) dX11_sheet_32 rfl ?_
        refine a_bipush (pc := 34) dX11_sheet_34 ib_40 ?_
        refine a_icmp_le (pc := 36) (tgt := 42) dX11_sheet_36 (by decide) (fun c36 => ?_) (fun c36 => ?_)
        · refine a_iload (pc := 42) dX11_sheet_42 rfl ?_
          refine a_if_geN (pc := 44) (tgt := 50) dX11_sheet_44 (by decide) (by omega) (fun c44 => ?_) (fun c44 => ?_)
          · refine a_aload_n (pc := 50) dX11_sheet_50 rfl rfl ?_
            refine a_getfield (pc := 51) kg_X11_30 dX11_sheet_51 (c_fc hI) rfl ?_
            refine a_iload_n (pc := 54) dX11_sheet_54 rfl rfl ?_
            refine a_shl (pc := 55) hI hq dX11_sheet_55 ?_
            refine a_iload_n (pc := 56) dX11_sheet_56 rfl rfl ?_
            refine a_iload (pc := 57) dX11_sheet_57 rfl ?_
            refine a_callV (pc := 59) km_X11_279 dX11_sheet_59 (f_become s1 s2 so _) rfl rfl (krecv_of (ci := 7) rfl s1) (rok_of hM (by decide) (by decide) (by omega) (by omega)) (Nat.le_of_ble_eq_true rfl) (fun r59 h59 hp59 => ?_)
            obtain ⟨rfl, rfl⟩ := And.intro hp59.1 hp59.2.symm
            refine a_iconst (pc := 62) dX11_sheet_62 ic_1 ?_
            refine a_ret_i (pc := 63) hM rfl (rfl) dX11_sheet_63 (by omega) (by omega) ?_
            first | exact pubI (by unfold R_sheet; rw [c5, c14m, eq]; exact if_pos hs0) rfl (sheet_cs hI hV hq c14m (Or.inl hs0)).ce | exact pubI (by unfold R_sheet; rw [c5, c14m, eq]; exact (if_neg hs0).trans ((if_pos c36).trans (if_neg (Int32.not_lt.mpr c44)))) rfl (sheet_cs hI hV hq c14m (Or.inr ⟨rfl, c36⟩)).ce
          · refine a_bipush (pc := 47) dX11_sheet_47 ib_m14 ?_
            refine a_ret_i (pc := 49) hM rfl (rfl) dX11_sheet_49 (by omega) (by omega) ?_
            first | exact absurd c44 (by decide) | exact pubI (by unfold R_sheet; rw [c5, c14m]; exact (if_neg hs0).trans ((if_pos c36).trans (if_pos (Int32.not_le.mp c44)))) rfl (CS.rf hI).ce
        · have e40 : so < 0 ∨ ¬ n ≤ nI 40 := by first | exact Or.inr c36 | exact Or.inl hs0
          refine a_bipush (pc := 39) dX11_sheet_39 ib_m2 ?_
          refine a_ret_i (pc := 41) hM rfl (rfl) dX11_sheet_41 (by omega) (by omega) ?_
          first | exact absurd (show nI 0 ≤ nI 40 by decide) c36 | exact pubI (by unfold R_sheet; rw [c5, c14m]; exact (if_neg hs0).trans (if_neg c36)) rfl (CS.rf hI).ce
    · have c14m : inM so = false := by rw [← inM_w]; exact c14
      have e : R_sheet s (nI q) so n = (-2, s) := by unfold R_sheet; rw [c5, c14m]; rfl
      refine a_bipush (pc := 17) dX11_sheet_17 ib_m2 ?_
      refine a_ret_i (pc := 19) hM rfl (rfl) dX11_sheet_19 (by omega) (by omega) ?_
      exact pubI e rfl (CS.rf hI).ce

set_option maxRecDepth 4000 in
theorem f_ccell (hI : CI X σ s h) (hV : MV s) (x i v : Int32) : Fn X 3 0 0 yX11_cell cX11_cell 5 (some .int) [.ref (σ 0 0), .int x, .int i, .int v] h (fun rv hv => rv = some (.int (R_cell s x i v).1) ∧ CE X σ s h (R_cell s x i v).2 hv) := by
  have b10 : vI s 10 ≤ 4 := hV.1.1.2
  have b18 : vI s 18 ≤ 16 := hV.2.1.1.2
  have b28 : vI s 28 ≤ 10 := hV.2.2.1.1.2
  have b31 : vI s 31 ≤ 6 := hV.2.2.2.1.1.2
  have b3 : vI s 3 ≤ 6 := hV.2.2.2.2.2.2.1.1.2
  refine fn_of (by decide) (Nat.le_of_ble_eq_true rfl) (fun M hM => ?_)
  refine a_iload_n (pc := 0) dX11_cell_0 rfl rfl ?_
  refine a_iconst (pc := 1) dX11_cell_1 ic_4 ?_
  refine a_callS (pc := 2) km_X11_103 dX11_cell_2 (f_among x (by decide)) rfl rfl (rok_of hM (by decide) (by decide) (by omega) (by omega)) (Nat.le_of_ble_eq_true rfl) (fun r2 h2 hp2 => ?_)
  obtain ⟨rfl, rfl⟩ := And.intro hp2.1 hp2.2.symm
  refine a_if_neB (pc := 5) (tgt := 11) dX11_cell_5 (by decide) (fun c5 => ?_) (fun c5 => ?_)
  · obtain ⟨q, hq, rfl⟩ := inN_of c5 (by decide)
    have eq : (nI q).toNatClampNeg = q := nI_clamp (by omega)
    obtain ⟨so, sz, it, s1, s2, s3, s4⟩ := c_sh hI hV hq
    refine a_aload_n (pc := 11) dX11_cell_11 rfl rfl ?_
    refine a_getfield (pc := 12) kg_X11_30 dX11_cell_12 (c_fc hI) rfl ?_
    refine a_iload_n (pc := 15) dX11_cell_15 rfl rfl ?_
    refine a_shl (pc := 16) hI hq dX11_cell_16 ?_
    refine a_astore (pc := 17) dX11_cell_17 (by decide) rfl ?_
    refine a_aload (pc := 19) dX11_cell_19 rfl ?_
    refine a_callV (pc := 21) km_X11_124 dX11_cell_21 (f_isMiss (it := it) s1) rfl rfl (krecv_of (ci := 7) rfl s1) (rok_of hM (by decide) (by decide) (by omega) (by omega)) (Nat.le_of_ble_eq_true rfl) (fun r21 h21 hp21 => ?_)
    obtain ⟨rfl, rfl⟩ := And.intro hp21.1 hp21.2.symm
    refine a_if_eqB (pc := 24) (tgt := 30) dX11_cell_24 (by decide) (fun c24 => ?_) (fun c24 => ?_)
    · have t0 : ¬ s.2.1 61 q = 0 := fun z => absurd (s3 z) (of_decide_eq_false c24)
      obtain ⟨t1, -, t3, t4, t5⟩ := s4 t0
      refine a_iload_n (pc := 30) dX11_cell_30 rfl rfl ?_
      refine a_aload (pc := 31) dX11_cell_31 rfl ?_
      refine a_getfield (pc := 33) kg_X11_282 dX11_cell_33 (s1) rfl ?_
      refine a_topi (t3) ?_
      refine a_callS (pc := 36) km_X11_103 dX11_cell_36 (f_among i (by omega)) rfl rfl (rok_of hM (by decide) (by decide) (by omega) (by omega)) (Nat.le_of_ble_eq_true rfl) (fun r36 h36 hp36 => ?_)
      obtain ⟨rfl, rfl⟩ := And.intro hp36.1 hp36.2.symm
      refine a_if_neB (pc := 39) (tgt := 45) dX11_cell_39 (by decide) (fun c39 => ?_) (fun c39 => ?_)
      · obtain ⟨j, hj, rfl⟩ := inN_of c39 (by omega)
        have ej : (nI j).toNatClampNeg = j := nI_clamp (by omega)
        refine a_aload (pc := 45) dX11_cell_45 rfl ?_
        refine a_iload_n (pc := 47) dX11_cell_47 rfl rfl ?_
        refine a_iload_n (pc := 48) dX11_cell_48 rfl rfl ?_
        refine a_callV (pc := 49) km_X11_283 dX11_cell_49 (f_cwrite s1 s2 (by omega) v) rfl rfl (krecv_of (ci := 7) rfl s1) (rok_of hM (by decide) (by decide) (by omega) (by omega)) (Nat.le_of_ble_eq_true rfl) (fun r49 h49 hp49 => ?_)
        obtain ⟨rfl, rfl⟩ := And.intro hp49.1 hp49.2.symm
        refine a_iconst (pc := 52) dX11_cell_52 ic_1 ?_
        refine a_ret_i (pc := 53) hM rfl (rfl) dX11_cell_53 (by omega) (by omega) ?_
        exact pubI (by unfold R_cell; rw [c5, eq, ej]; exact (if_neg t0).trans (if_pos c39)) rfl (by rw [t1]; exact (st64 hI hV hq (fun _ k hk => if z : k = j then (by rw [z, pk_us, pk_us]) else (by rw [pk_un z, pk_un (by omega)]; exact t5 k hk)) (fun p hp => pk_un (by omega))).ce)
      · refine a_bipush (pc := 42) dX11_cell_42 ib_m12 ?_
        refine a_ret_i (pc := 44) hM rfl (rfl) dX11_cell_44 (by omega) (by omega) ?_
        exact pubI (by unfold R_cell; rw [c5, eq]; exact (if_neg t0).trans (if_neg (by rw [c39]; decide))) rfl (CS.rf hI).ce
    · have t0 : s.2.1 61 q = 0 := Decidable.byContradiction (fun z => (s4 z).2.1 (of_decide_eq_true c24))
      refine a_bipush (pc := 27) dX11_cell_27 ib_m11 ?_
      refine a_ret_i (pc := 29) hM rfl (rfl) dX11_cell_29 (by omega) (by omega) ?_
      exact pubI (by unfold R_cell; rw [c5, eq]; exact if_pos t0) rfl (CS.rf hI).ce
  · refine a_bipush (pc := 8) dX11_cell_8 ib_m2 ?_
    refine a_ret_i (pc := 10) hM rfl (rfl) dX11_cell_10 (by omega) (by omega) ?_
    exact pubI (by unfold R_cell; rw [c5]; rfl) rfl (CS.rf hI).ce

theorem hd_iff {z : Nat} {f n : Int32} (hz : z ≤ 40) : hdP (nI z) f n = true ↔ ¬ (n < 0 ∨ f < 0 ∨ nI z - n < f) := by
  unfold hdP
  simp only [Bool.and_eq_true, Bool.not_eq_true', decide_eq_true_eq, decide_eq_false_iff_not]
  constructor
  · rintro ⟨a, b, c, d⟩ e
    rcases e with e | e | e
    · exact b e
    · exact a e
    · exact absurd d (Int32.not_le.mpr e)
  · intro e
    have e1 : ¬ n < 0 := fun y => e (Or.inl y)
    have e2 : ¬ f < 0 := fun y => e (Or.inr (Or.inl y))
    have e3 : ¬ nI z - n < f := fun y => e (Or.inr (Or.inr y))
    refine ⟨e2, e1, ?_, Int32.not_lt.mp e3⟩
    have h1 := Int32.not_lt.mp e1
    have h2 := Int32.not_lt.mp e2
    have h3 := Int32.not_lt.mp e3
    rw [Int32.le_iff_toInt_le] at h1 h2 h3 ⊢
    rw [Int32.toInt_sub, nI_toInt (by omega)] at h3
    rw [nI_toInt (by omega)]
    have hb : Int.bmod ((z : Int) - n.toInt) (2 ^ 32) = (z : Int) - n.toInt := by
      have := n.toInt_lt
      have h1 : 0 ≤ n.toInt := h1
      rw [Int.bmod_eq_of_le] <;> omega
    rw [hb] at h3
    have h2 : 0 ≤ f.toInt := h2
    omega
theorem hd_nat {z : Nat} {f n : Int32} (hz : z ≤ 40) (hh : hdP (nI z) f n = true) : ∃ a b : Nat, f = nI a ∧ n = nI b ∧ a + b ≤ z := by
  unfold hdP at hh
  simp only [Bool.and_eq_true, Bool.not_eq_true', decide_eq_true_eq, decide_eq_false_iff_not] at hh
  obtain ⟨h2, h1, hc, h3⟩ := hh
  have h1 := Int32.not_lt.mp h1
  have h2 := Int32.not_lt.mp h2
  rw [Int32.le_iff_toInt_le] at h1 h2 h3 hc
  rw [Int32.toInt_sub, nI_toInt (by omega)] at h3
  rw [nI_toInt (by omega)] at hc
  have h1 : 0 ≤ n.toInt := h1
  have h2 : 0 ≤ f.toInt := h2
  have hb : Int.bmod ((z : Int) - n.toInt) (2 ^ 32) = (z : Int) - n.toInt := by
    rw [Int.bmod_eq_of_le] <;> omega
  rw [hb] at h3
  refine ⟨f.toInt.toNat, n.toInt.toNat, ?_, ?_, by omega⟩
  · rw [← Int32.toInt_inj, nI_toInt (by omega)]; omega
  · rw [← Int32.toInt_inj, nI_toInt (by omega)]; omega
theorem copy_cs (hI : CI X σ s h) (hV : MV s) {q p a a2 b : Nat} {it it2 : Nat → Int32} (hq : q < 4) (hp : p < 4) (t5 : ∀ j, j < vA s 63 q → it j = s.2.1 64 (40 * q + j)) (v5 : ∀ j, j < vA s 63 p → it2 j = s.2.1 64 (40 * p + j)) (h1 : a + b ≤ vA s 63 q) (h2 : a2 + b ≤ vA s 63 p) (t4 : vA s 63 q ≤ 40) (v4 : vA s 63 p ≤ 40) : CS X σ s h (sa s 64 (fillO (fun k => s.2.1 64 (40 * q + a + k)) (s.2.1 64) (40 * p + a2) b)) (kput h (σ 4 p) (kI 40 (va_cpy it it2 a a2 b))) := by
  refine st64 hI hV hp (fun _ k hk => ?_) (fun z hz => ?_)
  · unfold va_cpy fillO
    by_cases y : a2 ≤ k ∧ k < a2 + b
    · rw [if_pos y, if_pos (by omega), t5 _ (by omega)]
      refine congrArg (s.2.1 64) ?_
      omega
    · rw [if_neg y, if_neg (by omega)]
      exact v5 k hk
  · unfold fillO
    rw [if_neg (by omega)]
set_option maxRecDepth 4000 in
theorem f_ccopy (hI : CI X σ s h) (hV : MV s) (x i y j n : Int32) : Fn X 3 0 0 yX11_copy cX11_copy 8 (some .int) [.ref (σ 0 0), .int x, .int i, .int y, .int j, .int n] h (fun rv hv => rv = some (.int (R_copy s x i y j n).1) ∧ CE X σ s h (R_copy s x i y j n).2 hv) := by
  have b10 : vI s 10 ≤ 4 := hV.1.1.2
  have b18 : vI s 18 ≤ 16 := hV.2.1.1.2
  have b28 : vI s 28 ≤ 10 := hV.2.2.1.1.2
  have b31 : vI s 31 ≤ 6 := hV.2.2.2.1.1.2
  have b3 : vI s 3 ≤ 6 := hV.2.2.2.2.2.2.1.1.2
  refine fn_of (by decide) (Nat.le_of_ble_eq_true rfl) (fun M hM => ?_)
  refine a_iload_n (pc := 0) dX11_copy_0 rfl rfl ?_
  refine a_iconst (pc := 1) dX11_copy_1 ic_4 ?_
  refine a_callS (pc := 2) km_X11_103 dX11_copy_2 (f_among x (by decide)) rfl rfl (rok_of hM (by decide) (by decide) (by omega) (by omega)) (Nat.le_of_ble_eq_true rfl) (fun r2 h2 hp2 => ?_)
  obtain ⟨rfl, rfl⟩ := And.intro hp2.1 hp2.2.symm
  refine a_if_eqB (pc := 5) (tgt := 16) dX11_copy_5 (by decide) (fun c5 => ?_) (fun c5 => ?_)
  · have e : R_copy s x i y j n = (-2, s) := by unfold R_copy; rw [c5]; rfl
    refine a_bipush (pc := 16) dX11_copy_16 ib_m2 ?_
    refine a_ret_i (pc := 18) hM rfl (rfl) dX11_copy_18 (by omega) (by omega) ?_
    exact pubI e rfl (CS.rf hI).ce
  · obtain ⟨q, hq, rfl⟩ := inN_of c5 (by decide)
    have eq : (nI q).toNatClampNeg = q := nI_clamp (by omega)
    obtain ⟨so, sz, it, s1, s2, s3, s4⟩ := c_sh hI hV hq
    refine a_iload_n (pc := 8) dX11_copy_8 rfl rfl ?_
    refine a_iconst (pc := 9) dX11_copy_9 ic_4 ?_
    refine a_callS (pc := 10) km_X11_103 dX11_copy_10 (f_among y (by decide)) rfl rfl (rok_of hM (by decide) (by decide) (by omega) (by omega)) (Nat.le_of_ble_eq_true rfl) (fun r10 h10 hp10 => ?_)
    obtain ⟨rfl, rfl⟩ := And.intro hp10.1 hp10.2.symm
    refine a_if_neB (pc := 13) (tgt := 19) dX11_copy_13 (by decide) (fun c13 => ?_) (fun c13 => ?_)
    · obtain ⟨p, hp, rfl⟩ := inN_of c13 (by decide)
      have ep : (nI p).toNatClampNeg = p := nI_clamp (by omega)
      obtain ⟨so2, sz2, it2, u1, u2, u3, u4⟩ := c_sh hI hV hp
      refine a_aload_n (pc := 19) dX11_copy_19 rfl rfl ?_
      refine a_getfield (pc := 20) kg_X11_30 dX11_copy_20 (c_fc hI) rfl ?_
      refine a_iload_n (pc := 23) dX11_copy_23 rfl rfl ?_
      refine a_shl (pc := 24) hI hq dX11_copy_24 ?_
      refine a_astore (pc := 25) dX11_copy_25 (by decide) rfl ?_
      refine a_aload_n (pc := 27) dX11_copy_27 rfl rfl ?_
      refine a_getfield (pc := 28) kg_X11_30 dX11_copy_28 (c_fc hI) rfl ?_
      refine a_iload_n (pc := 31) dX11_copy_31 rfl rfl ?_
      refine a_shl (pc := 32) hI hp dX11_copy_32 ?_
      refine a_astore (pc := 33) dX11_copy_33 (by decide) rfl ?_
      refine a_aload (pc := 35) dX11_copy_35 rfl ?_
      refine a_callV (pc := 37) km_X11_124 dX11_copy_37 (f_isMiss (it := it) s1) rfl rfl (krecv_of (ci := 7) rfl s1) (rok_of hM (by decide) (by decide) (by omega) (by omega)) (Nat.le_of_ble_eq_true rfl) (fun r37 h37 hp37 => ?_)
      obtain ⟨rfl, rfl⟩ := And.intro hp37.1 hp37.2.symm
      refine a_if_neB (pc := 40) (tgt := 51) dX11_copy_40 (by decide) (fun c40 => ?_) (fun c40 => ?_)
      · have t0 : s.2.1 61 q = 0 := Decidable.byContradiction (fun z => (s4 z).2.1 (of_decide_eq_true c40))
        have e11 : R_copy s (nI q) i (nI p) j n = (-11, s) := by unfold R_copy; rw [c5, c13, eq, ep]; exact if_pos (Or.inl t0)
        refine a_bipush (pc := 51) dX11_copy_51 ib_m11 ?_
        refine a_ret_i (pc := 53) hM rfl (rfl) dX11_copy_53 (by omega) (by omega) ?_
        exact pubI e11 rfl (CS.rf hI).ce
      · have t0 : ¬ s.2.1 61 q = 0 := fun z => absurd (s3 z) (of_decide_eq_false c40)
        obtain ⟨t1, -, t3, t4, t5⟩ := s4 t0
        refine a_aload (pc := 43) dX11_copy_43 rfl ?_
        refine a_callV (pc := 45) km_X11_124 dX11_copy_45 (f_isMiss (it := it2) u1) rfl rfl (krecv_of (ci := 7) rfl u1) (rok_of hM (by decide) (by decide) (by omega) (by omega)) (Nat.le_of_ble_eq_true rfl) (fun r45 h45 hp45 => ?_)
        obtain ⟨rfl, rfl⟩ := And.intro hp45.1 hp45.2.symm
        refine a_if_eqB (pc := 48) (tgt := 54) dX11_copy_48 (by decide) (fun c48 => ?_) (fun c48 => ?_)
        · have v0 : ¬ s.2.1 61 p = 0 := fun z => absurd (u3 z) (of_decide_eq_false c48)
          obtain ⟨v1, -, v3, v4, v5⟩ := u4 v0
          have n0 : ¬ (s.2.1 61 q = 0 ∨ s.2.1 61 p = 0) := fun z => z.elim t0 v0
          have x3 := (MV_there hV hq t0).2.2.1
          have w3 := (MV_there hV hp v0).2.2.1
          refine a_aload (pc := 54) dX11_copy_54 rfl ?_
          refine a_getfield (pc := 56) kg_X11_286 dX11_copy_56 (s1) rfl ?_
          refine a_aload (pc := 59) dX11_copy_59 rfl ?_
          refine a_getfield (pc := 61) kg_X11_286 dX11_copy_61 (u1) rfl ?_
          refine a_icmp_eq (pc := 64) (tgt := 70) dX11_copy_64 (by decide) (fun c64 => ?_) (fun c64 => ?_)
          · have hso : s.2.1 62 q = s.2.1 62 p := by rw [← t1, ← v1]; exact c64
            refine a_aload (pc := 70) dX11_copy_70 rfl ?_
            refine a_iload_n (pc := 72) dX11_copy_72 rfl rfl ?_
            refine a_iload (pc := 73) dX11_copy_73 rfl ?_
            refine a_callV (pc := 75) km_X11_289 dX11_copy_75 (f_holds (it := it) s1 i n) rfl rfl (krecv_of (ci := 7) rfl s1) (rok_of hM (by decide) (by decide) (by omega) (by omega)) (Nat.le_of_ble_eq_true rfl) (fun r75 h75 hp75 => ?_)
            obtain ⟨rfl, rfl⟩ := And.intro hp75.1 hp75.2.symm
            refine a_if_eqB (pc := 78) (tgt := 93) dX11_copy_78 (by decide) (fun c78 => ?_) (fun c78 => ?_)
            · have hx : ¬ hdP (nI (vA s 63 q)) i n = true := by rw [← t3, show hdP sz i n = false from c78]; decide
              have e12 : R_copy s (nI q) i (nI p) j n = (-12, s) := by unfold R_copy; rw [c5, c13, eq, ep]; refine (if_neg n0).trans ((if_pos hso).trans (if_pos ?_)); rw [hd_iff t4] at hx; rw [x3]; have hx := Decidable.not_not.mp hx; exact hx.elim Or.inl (fun z => z.elim (fun a => Or.inr (Or.inl a)) (fun a => Or.inr (Or.inr (Or.inr (Or.inl a)))))
              refine a_bipush (pc := 93) dX11_copy_93 ib_m12 ?_
              refine a_ret_i (pc := 95) hM rfl (rfl) dX11_copy_95 (by omega) (by omega) ?_
              exact pubI e12 rfl (CS.rf hI).ce
            · have hx : hdP (nI (vA s 63 q)) i n = true := by rw [← t3]; exact c78
              refine a_aload (pc := 81) dX11_copy_81 rfl ?_
              refine a_iload (pc := 83) dX11_copy_83 rfl ?_
              refine a_iload (pc := 85) dX11_copy_85 rfl ?_
              refine a_callV (pc := 87) km_X11_289 dX11_copy_87 (f_holds (it := it2) u1 j n) rfl rfl (krecv_of (ci := 7) rfl u1) (rok_of hM (by decide) (by decide) (by omega) (by omega)) (Nat.le_of_ble_eq_true rfl) (fun r87 h87 hp87 => ?_)
              obtain ⟨rfl, rfl⟩ := And.intro hp87.1 hp87.2.symm
              refine a_if_neB (pc := 90) (tgt := 96) dX11_copy_90 (by decide) (fun c90 => ?_) (fun c90 => ?_)
              · have hy : hdP (nI (vA s 63 p)) j n = true := by rw [← v3]; exact c90
                obtain ⟨a, b, rfl, rfl, hab⟩ := hd_nat t4 hx
                obtain ⟨a2, b2, rfl, hb2, hab2⟩ := hd_nat v4 hy
                have hbb : b2 = b := (nI_inj (by omega) (by omega) hb2).symm
                subst hbb
                have ea : (nI a).toNatClampNeg = a := nI_clamp (by omega)
                have ea2 : (nI a2).toNatClampNeg = a2 := nI_clamp (by omega)
                have eb : (nI b2).toNatClampNeg = b2 := nI_clamp (by omega)
                refine a_aload (pc := 96) dX11_copy_96 rfl ?_
                refine a_getfield (pc := 98) kg_X11_292 dX11_copy_98 (s1) rfl ?_
                refine a_iload_n (pc := 101) dX11_copy_101 rfl rfl ?_
                refine a_aload (pc := 102) dX11_copy_102 rfl ?_
                refine a_getfield (pc := 104) kg_X11_292 dX11_copy_104 (u1) rfl ?_
                refine a_iload (pc := 107) dX11_copy_107 rfl ?_
                refine a_iload (pc := 109) dX11_copy_109 rfl ?_
                refine a_copyI (pc := 111) kcp_X11_295 dX11_copy_111 (s2) (u2) rfl rfl rfl (by omega) (by omega) (by omega) (by omega)  (by rw [hM.1]; simp only [rmd]; omega) (by rw [hM.1]; simp [rmd, Value.category] <;> omega) ?_
                refine a_iload (pc := 114) dX11_copy_114 rfl ?_
                refine a_ret_i (pc := 116) hM rfl (rfl) dX11_copy_116 (by omega) (by omega) ?_
                have hx2 := hx
                have hy2 := hy
                rw [hd_iff t4] at hx2
                rw [hd_iff v4] at hy2
                have nn : ¬ (nI b2 < 0 ∨ nI a < 0 ∨ nI a2 < 0 ∨ s.2.1 63 q - nI b2 < nI a ∨ s.2.1 63 p - nI b2 < nI a2) := by rw [x3, w3]; exact fun z => z.elim (fun y => hx2 (Or.inl y)) (fun z => z.elim (fun y => hx2 (Or.inr (Or.inl y))) (fun z => z.elim (fun y => hy2 (Or.inr (Or.inl y))) (fun z => z.elim (fun y => hx2 (Or.inr (Or.inr y))) (fun y => hy2 (Or.inr (Or.inr y))))))
                exact pubI (by unfold R_copy; rw [c5, c13, eq, ep, ea, ea2, eb]; exact (if_neg n0).trans ((if_pos hso).trans (if_neg nn))) rfl (copy_cs hI hV hq hp t5 v5 hab hab2 t4 v4).ce
              · have hy : ¬ hdP (nI (vA s 63 p)) j n = true := by rw [← v3, show hdP sz2 j n = false from c90]; decide
                have e12 : R_copy s (nI q) i (nI p) j n = (-12, s) := by unfold R_copy; rw [c5, c13, eq, ep]; refine (if_neg n0).trans ((if_pos hso).trans (if_pos ?_)); rw [hd_iff v4] at hy; rw [w3]; have hy := Decidable.not_not.mp hy; exact hy.elim Or.inl (fun z => z.elim (fun a => Or.inr (Or.inr (Or.inl a))) (fun a => Or.inr (Or.inr (Or.inr (Or.inr a)))))
                refine a_bipush (pc := 93) dX11_copy_93 ib_m12 ?_
                refine a_ret_i (pc := 95) hM rfl (rfl) dX11_copy_95 (by omega) (by omega) ?_
                exact pubI e12 rfl (CS.rf hI).ce
          · have hso : ¬ s.2.1 62 q = s.2.1 62 p := by rw [← t1, ← v1]; exact c64
            refine a_bipush (pc := 67) dX11_copy_67 ib_m13 ?_
            refine a_ret_i (pc := 69) hM rfl (rfl) dX11_copy_69 (by omega) (by omega) ?_
            exact pubI (by unfold R_copy; rw [c5, c13, eq, ep]; exact (if_neg n0).trans (if_neg hso)) rfl (CS.rf hI).ce
        · have v0 : s.2.1 61 p = 0 := Decidable.byContradiction (fun z => (u4 z).2.1 (of_decide_eq_true c48))
          have e11 : R_copy s (nI q) i (nI p) j n = (-11, s) := by unfold R_copy; rw [c5, c13, eq, ep]; exact if_pos (Or.inr v0)
          refine a_bipush (pc := 51) dX11_copy_51 ib_m11 ?_
          refine a_ret_i (pc := 53) hM rfl (rfl) dX11_copy_53 (by omega) (by omega) ?_
          exact pubI e11 rfl (CS.rf hI).ce
    · have e : R_copy s (nI q) i y j n = (-2, s) := by unfold R_copy; rw [c5, c13]; rfl
      refine a_bipush (pc := 16) dX11_copy_16 ib_m2 ?_
      refine a_ret_i (pc := 18) hM rfl (rfl) dX11_copy_18 (by omega) (by omega) ?_
      exact pubI e rfl (CS.rf hI).ce

end CPF

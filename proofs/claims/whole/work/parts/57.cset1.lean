/-! THE CLASS: CARDS AND GUESSES CHANGED -/
section CPE
variable {X : KX} {h : AH} {s : MST} {σ : Nat → Nat → Nat}
theorem slip_cs (hI : CI X σ s h) (hV : MV s) {r j : Nat} {x ks kp : Int32} {f g : Nat → Int32} (hr : r < vI s 18) (hj : j < rsz s r) (hf : ∀ j, j < rsz s r → f j = s.2.1 14 (25 * r + j)) (hg : ∀ j, j < rsz s r → g j = s.2.1 15 (25 * r + j)) (hkk : s.1 57 = nI 1 → r < vI s 58 → ks = s.2.1 54 r ∧ kp = s.2.1 55 r) : CS X σ s h (N_slip s r j x) (kput (kput h (σ 17 r) (rO (s.2.1 11 r) (s.2.1 12 r) (s.2.1 13 r) (s.2.1 16 r + nI 1) (s.2.1 17 r + (if x = f j then nI 1 else nI 0) - (if g j = f j then nI 1 else nI 0)) ks kp (σ 15 (vA s 11 r)) (σ 18 r) (σ 19 r) (σ 20 r) (σ 21 r) (σ 22 r) (σ 23 r))) (σ 19 r) (kI (rsz s r) (upd g j x))) := by
  have a15 := st15 (F := upd (s.2.1 15) (25 * r + j) x) (f' := upd g j x) hI hV hr (fun i hi => by
    by_cases q : i = j
    · rw [q, pk_us, pk_us]
    · rw [pk_un q, pk_un (by omega)]
      exact hg i hi) (fun q hq => pk_un (by omega))
  have a17 := st17 (r := r) (ks := ks) (kp := kp) (a := s.2.1 16 r + nI 1) (b := s.2.1 17 r - (if s.2.1 14 (25 * r + j) = s.2.1 15 (25 * r + j) then nI 1 else nI 0) + (if s.2.1 14 (25 * r + j) = x then nI 1 else nI 0)) a15.2.1 hr hkk
  have hne : σ 17 r ≠ σ 19 r := hI.ne (k := 17) (i := r) (k' := 19) (i' := r) hr hr (by omega)
  have e1 : s.2.1 17 r + (if x = f j then nI 1 else nI 0) - (if g j = f j then nI 1 else nI 0) = s.2.1 17 r - (if s.2.1 14 (25 * r + j) = s.2.1 15 (25 * r + j) then nI 1 else nI 0) + (if s.2.1 14 (25 * r + j) = x then nI 1 else nI 0) := by
    have fl : ∀ a b : Int32, (if a = b then nI 1 else nI 0) = (if b = a then nI 1 else nI 0) := fun a b => by
      by_cases q : a = b
      · rw [if_pos q, if_pos q.symm]
      · rw [if_neg q, if_neg (Ne.symm q)]
    rw [hf j hj, hg j hj, fl x, fl (s.2.1 15 (25 * r + j))]
    generalize (if s.2.1 14 (25 * r + j) = x then nI 1 else nI 0) = p1
    generalize (if s.2.1 14 (25 * r + j) = s.2.1 15 (25 * r + j) then nI 1 else nI 0) = p2
    rw [Int32.sub_eq_add_neg, Int32.sub_eq_add_neg, Int32.add_assoc, Int32.add_comm p1, ← Int32.add_assoc]
  rw [e1, kput_comm hne]
  exact a15.tr a17
set_option maxRecDepth 4000 in
theorem f_cslipX (hI : CI X σ s h) (hV : MV s) (x i w : Int32) : Fn X 4 0 0 yX11_slip cX11_slip 4 (some .int) [.ref (σ 0 0), .int x, .int i, .int w] h (fun rv hv => rv = some (.int (R_slip s x i w).1) ∧ CE X σ s h (R_slip s x i w).2 hv) := by
  have b10 : vI s 10 ≤ 4 := hV.1.1.2
  have b18 : vI s 18 ≤ 16 := hV.2.1.1.2
  have b28 : vI s 28 ≤ 10 := hV.2.2.1.1.2
  have b31 : vI s 31 ≤ 6 := hV.2.2.2.1.1.2
  have b3 : vI s 3 ≤ 6 := hV.2.2.2.2.2.2.1.1.2
  refine fn_of (by decide) (Nat.le_of_ble_eq_true rfl) (fun M hM => ?_)
  refine a_aload_n (pc := 0) dX11_slip_0 rfl rfl ?_
  refine a_iload_n (pc := 1) dX11_slip_1 rfl rfl ?_
  refine a_iload_n (pc := 2) dX11_slip_2 rfl rfl ?_
  refine a_callV (pc := 3) km_X11_116 dX11_slip_3 (f_isPlace hI hV x i) rfl rfl (kr_t hI) (rok_of hM (by decide) (by decide) (by omega) (by omega)) (Nat.le_of_ble_eq_true rfl) (fun r3 h3 hp3 => ?_)
  obtain ⟨rfl, rfl⟩ := And.intro hp3.1 hp3.2.symm
  refine a_if_eqB (pc := 6) (tgt := 17) dX11_slip_6 (by decide) (fun c6 => ?_) (fun c6 => ?_)
  · have e : R_slip s x i w = (-2, s) := by unfold R_slip; rw [c6]; rfl
    refine a_bipush (pc := 17) dX11_slip_17 ib_m2 ?_
    refine a_ret_i (pc := 19) hM rfl (rfl) dX11_slip_19 (by omega) (by omega) ?_
    exact pubI e rfl (CS.rf hI).ce
  · have c6p := c6
    rw [Bool.and_eq_true] at c6p
    obtain ⟨c6a, c6b⟩ := c6p
    obtain ⟨r, hr, rfl⟩ := inN_of c6a (by omega)
    have er : (nI r).toNatClampNeg = r := nI_clamp (by omega)
    rw [er] at c6b
    have hz0 := rz25 hV hr
    obtain ⟨j, hj, rfl⟩ := inN_of c6b (by omega)
    have ej : (nI j).toNatClampNeg = j := nI_clamp (by omega)
    obtain ⟨ks, kp, f, g, h1, h2, h3, hf, hg, hkk⟩ := c_run2 hI hr
    have hz := rz25 hV hr
    have hz1 := rz1 hV hr
    refine a_iload_n (pc := 9) dX11_slip_9 rfl rfl ?_
    refine a_iconst (pc := 10) dX11_slip_10 ic_5 ?_
    refine a_callS (pc := 11) km_X11_103 dX11_slip_11 (f_among w (by decide)) rfl rfl (rok_of hM (by decide) (by decide) (by omega) (by omega)) (Nat.le_of_ble_eq_true rfl) (fun r11 h11 hp11 => ?_)
    obtain ⟨rfl, rfl⟩ := And.intro hp11.1 hp11.2.symm
    refine a_if_neB (pc := 14) (tgt := 20) dX11_slip_14 (by decide) (fun c14 => ?_) (fun c14 => ?_)
    · refine a_aload_n (pc := 20) dX11_slip_20 rfl rfl ?_
      refine a_getfield (pc := 21) kg_X11_16 dX11_slip_21 (c_fc hI) rfl ?_
      refine a_iload_n (pc := 24) dX11_slip_24 rfl rfl ?_
      refine a_callV (pc := 25) km_X11_109 dX11_slip_25 (w_get hI (i := 1) (j := r) (by decide) (show r < vI s 18 from hr)) rfl rfl (kr_l hI (i := 1) (by decide)) (rok_of hM (by decide) (by decide) (by omega) (by omega)) (Nat.le_of_ble_eq_true rfl) (fun r25 h25 hp25 => ?_)
      obtain ⟨rfl, rfl⟩ := And.intro hp25.1 hp25.2.symm
      refine a_topr (show _ = σ 17 r from rfl) ?_
      refine a_castE (pc := 28) kl_X11_107 rfl (c_isR hI (show r < vI s 18 from hr)) dX11_slip_28 ?_
      refine a_iload_n (pc := 31) dX11_slip_31 rfl rfl ?_
      refine a_iload_n (pc := 32) dX11_slip_32 rfl rfl ?_
      refine a_callV (pc := 33) km_X11_132 dX11_slip_33 (f_cslip h1 h2 h3 hz hj w) rfl rfl (kr_r hI hr) (rok_of hM (by decide) (by decide) (by omega) (by omega)) (Nat.le_of_ble_eq_true rfl) (fun r33 h33 hp33 => ?_)
      obtain ⟨rfl, rfl⟩ := And.intro hp33.1 hp33.2.symm
      refine a_ret_i (pc := 36) hM rfl (rfl) dX11_slip_36 (by omega) (by omega) ?_
      exact pubI (by unfold R_slip; rw [c6, c14, er, ej]; rfl) (congrArg (fun t => some (Value.int t)) (hg j hj)) (slip_cs hI hV hr hj hf hg hkk).ce
    · have e : R_slip s (nI r) (nI j) w = (-2, s) := by unfold R_slip; rw [c6, c14]; rfl
      refine a_bipush (pc := 17) dX11_slip_17 ib_m2 ?_
      refine a_ret_i (pc := 19) hM rfl (rfl) dX11_slip_19 (by omega) (by omega) ?_
      exact pubI e rfl (CS.rf hI).ce

theorem c_sh (hI : CI X σ s h) (hV : MV s) {q : Nat} (hq : q < 4) : ∃ (so sz : Int32) (it : Nat → Int32), h (σ 3 q) = some (kO 7 [.ref (σ 4 q), .int so, .int sz]) ∧ h (σ 4 q) = some (kI 40 it) ∧ (s.2.1 61 q = 0 → so = -1) ∧ (¬ s.2.1 61 q = 0 → so = s.2.1 62 q ∧ ¬ so = -1 ∧ sz = nI (vA s 63 q) ∧ vA s 63 q ≤ 40 ∧ ∀ j, j < vA s 63 q → it j = s.2.1 64 (40 * q + j)) := by
  obtain ⟨e, he, so, sz, rfl, h1, h2⟩ := hI.2 3 q hq
  obtain ⟨e2, he2, it, rfl, h3⟩ := hI.2 4 q hq
  refine ⟨so, sz, it, he, he2, h1, fun z => ?_⟩
  obtain ⟨t1, t2, t3, t4⟩ := MV_there hV hq z
  obtain ⟨z1, z2⟩ := h2 t1
  refine ⟨z1, fun y => ?_, z2.trans t3, t4, h3 t1⟩
  rw [z1, t2.nI] at y
  have hb := t2.2
  generalize (s.2.1 62 q).toNatClampNeg = v at y hb
  rcases (by omega : v = 0 ∨ v = 1 ∨ v = 2) with rfl | rfl | rfl <;> exact absurd y (by decide)
theorem c_sa (hI : CI X σ s h) : ∃ F : Nat → Option Nat, h (σ 2 0) = some (kQ 3 4 F) ∧ ∀ j, j < 4 → F j = some (σ 3 j) := by
  obtain ⟨e, he, F, rfl, hF⟩ := hI.2 2 0 Nat.zero_lt_one
  exact ⟨F, he, hF⟩
section CST3
variable {M : MX} {y : MethodName} {cc : ByteArray} {nL : Nat} {rt : Option FieldType} {pc : Nat} {L : List (Nat × Value)} {st : List Value} {uc us : Nat}
theorem a_shl (hI : CI X σ s h) {q : Nat} (hq : q < 4) (hd : decode cc pc = .ok (.aaload, 1)) (kk : AJ X M y cc nL rt (pc + 1) L (.ref (σ 3 q) :: st) h uc us) : AJ X M y cc nL rt pc L (.int (nI q) :: .ref (σ 2 0) :: st) h uc us := by
  obtain ⟨F, hF, hj⟩ := c_sa hI
  refine a_aaload (t := 3) rfl hd hF q rfl hq (by omega) ?_
  rw [hj q hq]
  exact kk
end CST3
theorem tk_eq {r q j n z : Nat} {it : Nat → Int32} (hn : n = rsz s r) (hz : z = vA s 63 q) (hit : ∀ k, k < z → it k = s.2.1 64 (40 * q + k)) (k : Nat) : tkC z n j it k = gCond s r q j k := by
  subst hn; subst hz
  unfold tkC gCond
  by_cases h1 : k < vA s 63 q
  · rw [hit k h1]
  · rw [decide_eq_false h1]
    simp only [Bool.false_and]
theorem gLen_cg {p p' : Nat → Bool} (h : ∀ k, p k = p' k) : gLen p = gLen p' := by rw [show p = p' from funext h]
theorem gLen_lt {p : Nat → Bool} : ∀ (f n k : Nat), n ≤ k → k < gLen p f n → p k = true
  | 0, n, k, h1, h2 => by
    have h2 : k < n := h2
    omega
  | f + 1, n, k, h1, h2 => by
    unfold gLen at h2
    by_cases q : p n = true
    · rw [if_pos q] at h2
      rcases Nat.eq_or_lt_of_le h1 with z | z
      · rw [← z]; exact q
      · exact gLen_lt f (n + 1) k z h2
    · rw [if_neg q] at h2
      omega
theorem guess_cs (hI : CI X σ s h) (hV : MV s) {r q j : Nat} {g it : Nat → Int32} (hr : r < vI s 18) (hj : j < rsz s r) (hg : ∀ j, j < rsz s r → g j = s.2.1 15 (25 * r + j)) (hit : ∀ k, k < vA s 63 q → it k = s.2.1 64 (40 * q + k)) : CS X σ s h (gSt s r q j (gLen (gCond s r q j) 41 0)) (kput h (σ 19 r) (kI (rsz s r) (fillO it g j (gLen (gCond s r q j) 41 0)))) := by
  have hl : ∀ k, k < gLen (gCond s r q j) 41 0 → k < vA s 63 q ∧ j + k < rsz s r := fun k hk => by
    have := gLen_lt 41 0 k (Nat.zero_le _) hk
    unfold gCond at this
    rw [Bool.and_eq_true, Bool.and_eq_true, decide_eq_true_eq, decide_eq_true_eq] at this
    exact this.1
  generalize gLen (gCond s r q j) 41 0 = l at hl
  refine st15 hI hV hr (fun i hi => ?_) (fun p hp => ?_)
  · unfold fillO
    by_cases z : j ≤ i ∧ i < j + l
    · rw [if_pos z, if_pos (by omega), hit (i - j) (hl _ (by omega)).1, show 25 * r + i - (25 * r + j) = i - j by omega]
    · rw [if_neg z, if_neg (by omega)]
      exact hg i hi
  · unfold fillO
    rw [if_neg (fun z => ?_)]
    have := hl (p - (25 * r + j)) (by omega)
    omega
set_option maxRecDepth 4000 in
theorem f_cguess (hI : CI X σ s h) (hV : MV s) (x w i : Int32) : Fn X 4 0 0 yX11_guess cX11_guess 4 (some .int) [.ref (σ 0 0), .int x, .int w, .int i] h (fun rv hv => rv = some (.int (R_guess s x w i).1) ∧ CE X σ s h (R_guess s x w i).2 hv) := by
  have b10 : vI s 10 ≤ 4 := hV.1.1.2
  have b18 : vI s 18 ≤ 16 := hV.2.1.1.2
  have b28 : vI s 28 ≤ 10 := hV.2.2.1.1.2
  have b31 : vI s 31 ≤ 6 := hV.2.2.2.1.1.2
  have b3 : vI s 3 ≤ 6 := hV.2.2.2.2.2.2.1.1.2
  refine fn_of (by decide) (Nat.le_of_ble_eq_true rfl) (fun M hM => ?_)
  refine a_aload_n (pc := 0) dX11_guess_0 rfl rfl ?_
  refine a_iload_n (pc := 1) dX11_guess_1 rfl rfl ?_
  refine a_iload_n (pc := 2) dX11_guess_2 rfl rfl ?_
  refine a_callV (pc := 3) km_X11_116 dX11_guess_3 (f_isPlace hI hV x i) rfl rfl (kr_t hI) (rok_of hM (by decide) (by decide) (by omega) (by omega)) (Nat.le_of_ble_eq_true rfl) (fun r3 h3 hp3 => ?_)
  obtain ⟨rfl, rfl⟩ := And.intro hp3.1 hp3.2.symm
  refine a_if_eqB (pc := 6) (tgt := 17) dX11_guess_6 (by decide) (fun c6 => ?_) (fun c6 => ?_)
  · have e : R_guess s x w i = (-2, s) := by have cz := c6; unfold R_guess; generalize inN x (vI s 18) = b1 at cz ⊢; generalize inN i (rsz s x.toNatClampNeg) = b2 at cz ⊢; cases b1 <;> cases b2 <;> first | (exact absurd cz (by decide)) | (cases inN w 4 <;> rfl)
    refine a_bipush (pc := 17) dX11_guess_17 ib_m2 ?_
    refine a_ret_i (pc := 19) hM rfl (rfl) dX11_guess_19 (by omega) (by omega) ?_
    exact pubI e rfl (CS.rf hI).ce
  · have c6p := c6
    rw [Bool.and_eq_true] at c6p
    obtain ⟨c6a, c6b⟩ := c6p
    obtain ⟨r, hr, rfl⟩ := inN_of c6a (by omega)
    have er : (nI r).toNatClampNeg = r := nI_clamp (by omega)
    rw [er] at c6b
    have hz0 := rz25 hV hr
    obtain ⟨j, hj, rfl⟩ := inN_of c6b (by omega)
    have ej : (nI j).toNatClampNeg = j := nI_clamp (by omega)
    obtain ⟨ks, kp, f, g, h1, h2, h3, hf, hg, hkk⟩ := c_run2 hI hr
    have hz := rz25 hV hr
    have hz1 := rz1 hV hr
    refine a_iload_n (pc := 9) dX11_guess_9 rfl rfl ?_
    refine a_iconst (pc := 10) dX11_guess_10 ic_4 ?_
    refine a_callS (pc := 11) km_X11_103 dX11_guess_11 (f_among w (by decide)) rfl rfl (rok_of hM (by decide) (by decide) (by omega) (by omega)) (Nat.le_of_ble_eq_true rfl) (fun r11 h11 hp11 => ?_)
    obtain ⟨rfl, rfl⟩ := And.intro hp11.1 hp11.2.symm
    refine a_if_neB (pc := 14) (tgt := 20) dX11_guess_14 (by decide) (fun c14 => ?_) (fun c14 => ?_)
    · obtain ⟨q, hq, rfl⟩ := inN_of c14 (by decide)
      have eq : (nI q).toNatClampNeg = q := nI_clamp (by omega)
      obtain ⟨so, sz, it, s1, s2, s3, s4⟩ := c_sh hI hV hq
      refine a_aload_n (pc := 20) dX11_guess_20 rfl rfl ?_
      refine a_getfield (pc := 21) kg_X11_30 dX11_guess_21 (c_fc hI) rfl ?_
      refine a_iload_n (pc := 24) dX11_guess_24 rfl rfl ?_
      refine a_shl (pc := 25) hI hq dX11_guess_25 ?_
      refine a_callV (pc := 26) km_X11_124 dX11_guess_26 (f_isMiss (it := it) s1) rfl rfl (krecv_of (ci := 7) rfl s1) (rok_of hM (by decide) (by decide) (by omega) (by omega)) (Nat.le_of_ble_eq_true rfl) (fun r26 h26 hp26 => ?_)
      obtain ⟨rfl, rfl⟩ := And.intro hp26.1 hp26.2.symm
      refine a_if_eqB (pc := 29) (tgt := 35) dX11_guess_29 (by decide) (fun c29 => ?_) (fun c29 => ?_)
      · have t0 : ¬ s.2.1 61 q = 0 := fun z => absurd (s3 z) (of_decide_eq_false c29)
        obtain ⟨t1, -, t3, t4, t5⟩ := s4 t0
        refine a_aload_n (pc := 35) dX11_guess_35 rfl rfl ?_
        refine a_getfield (pc := 36) kg_X11_16 dX11_guess_36 (c_fc hI) rfl ?_
        refine a_iload_n (pc := 39) dX11_guess_39 rfl rfl ?_
        refine a_callV (pc := 40) km_X11_109 dX11_guess_40 (w_get hI (i := 1) (j := r) (by decide) (show r < vI s 18 from hr)) rfl rfl (kr_l hI (i := 1) (by decide)) (rok_of hM (by decide) (by decide) (by omega) (by omega)) (Nat.le_of_ble_eq_true rfl) (fun r40 h40 hp40 => ?_)
        obtain ⟨rfl, rfl⟩ := And.intro hp40.1 hp40.2.symm
        refine a_topr (show _ = σ 17 r from rfl) ?_
        refine a_castE (pc := 43) kl_X11_107 rfl (c_isR hI (show r < vI s 18 from hr)) dX11_guess_43 ?_
        refine a_aload_n (pc := 46) dX11_guess_46 rfl rfl ?_
        refine a_getfield (pc := 47) kg_X11_30 dX11_guess_47 (c_fc hI) rfl ?_
        refine a_iload_n (pc := 50) dX11_guess_50 rfl rfl ?_
        refine a_shl (pc := 51) hI hq dX11_guess_51 ?_
        refine a_iload_n (pc := 52) dX11_guess_52 rfl rfl ?_
        refine a_callV (pc := 53) km_X11_128 dX11_guess_53 (f_take h1 h2 h3 hz (s1.trans (by rw [t3])) s2 t4 (fun z => absurd (hI.1 4 q 19 r hq hr z).1 (by decide)) (by omega)) rfl rfl (kr_r hI hr) (rok_of hM (by decide) (by decide) (by omega) (by omega)) (Nat.le_of_ble_eq_true rfl) (fun r53 h53 hp53 => ?_)
        obtain ⟨rfl, rfl⟩ := And.intro hp53.1 hp53.2.symm
        refine a_ret_i (pc := 56) hM rfl (rfl) dX11_guess_56 (by omega) (by omega) ?_
        exact pubI (by unfold R_guess; rw [c6a, c14, er, eq, ej, c6b]; exact (if_neg t0)) (congrArg (fun t => some (Value.int (nI (t 41 0)))) (gLen_cg (tk_eq rfl rfl t5))) (by rw [gLen_cg (tk_eq (r := r) (q := q) (j := j) rfl rfl t5)]; exact (guess_cs hI hV hr hj hg t5).ce)
      · have t0 : s.2.1 61 q = 0 := Decidable.byContradiction (fun z => (s4 z).2.1 (of_decide_eq_true c29))
        refine a_bipush (pc := 32) dX11_guess_32 ib_m11 ?_
        refine a_ret_i (pc := 34) hM rfl (rfl) dX11_guess_34 (by omega) (by omega) ?_
        exact pubI (by unfold R_guess; rw [c6a, c14, er, eq, c6b, t0]; rfl) rfl (CS.rf hI).ce
    · have e : R_guess s (nI r) w (nI j) = (-2, s) := by unfold R_guess; rw [c14, Bool.and_false]; rfl
      refine a_bipush (pc := 17) dX11_guess_17 ib_m2 ?_
      refine a_ret_i (pc := 19) hM rfl (rfl) dX11_guess_19 (by omega) (by omega) ?_
      exact pubI e rfl (CS.rf hI).ce

theorem cut_cs (hI : CI X σ s h) (hV : MV s) {r k : Nat} {f s0 : Nat → Int32} (hr : r < vI s 18) (hk : k ≤ rsz s r) (hf : ∀ j, j < rsz s r → f j = s.2.1 14 (25 * r + j)) : CS X σ s h (sa s 14 (fillO (cutF s r k (rsz s r)) (s.2.1 14) (25 * r) (rsz s r))) (kput (kput h (σ 20 r) (kI (rsz s r) (va_cpy f s0 0 0 (rsz s r)))) (σ 18 r) (kI (rsz s r) (va_cpy (va_cpy f s0 0 0 (rsz s r)) (va_cpy (va_cpy f s0 0 0 (rsz s r)) f k 0 (rsz s r - k)) 0 (rsz s r - k) k))) := by
  have a1 : CS X σ s h s (kput h (σ 20 r) (kI (rsz s r) (va_cpy f s0 0 0 (rsz s r)))) := hI.put1 (k := 20) hr ⟨_, rfl⟩
  have hz1 := rz1 hV hr
  refine a1.tr (st14 a1.2.1 hV hr (fun i hi => ?_) (fun p hp => ?_))
  · unfold va_cpy fillO cutF
    rw [if_pos (by omega : 25 * r ≤ 25 * r + i ∧ 25 * r + i < 25 * r + rsz s r), show 25 * r + i - 25 * r = i by omega]
    by_cases z : rsz s r - k ≤ i
    · rw [if_pos ⟨z, by omega⟩, if_pos (by omega), hf _ (by omega)]
      refine congrArg (s.2.1 14) ?_
      have hz25 := rz25 hV hr
      have hm : (i + k) % rsz s r = i + k - rsz s r := by rw [Nat.mod_eq_sub_mod (by omega), Nat.mod_eq_of_lt (by omega)]
      omega
    · rw [if_neg (by omega), if_pos (by omega), if_pos (by omega), hf _ (by omega)]
      refine congrArg (s.2.1 14) ?_
      have hm : (i + k) % rsz s r = i + k := Nat.mod_eq_of_lt (by omega)
      omega
  · unfold fillO
    rw [if_neg (by omega)]
set_option maxRecDepth 4000 in
theorem f_ccutX (hI : CI X σ s h) (hV : MV s) (x i : Int32) : Fn X 4 0 0 yX11_cut cX11_cut 3 (some .int) [.ref (σ 0 0), .int x, .int i] h (fun rv hv => rv = some (.int (R_cut s x i).1) ∧ CE X σ s h (R_cut s x i).2 hv) := by
  have b10 : vI s 10 ≤ 4 := hV.1.1.2
  have b18 : vI s 18 ≤ 16 := hV.2.1.1.2
  have b28 : vI s 28 ≤ 10 := hV.2.2.1.1.2
  have b31 : vI s 31 ≤ 6 := hV.2.2.2.1.1.2
  have b3 : vI s 3 ≤ 6 := hV.2.2.2.2.2.2.1.1.2
  refine fn_of (by decide) (Nat.le_of_ble_eq_true rfl) (fun M hM => ?_)
  refine a_iload_n (pc := 0) dX11_cut_0 rfl rfl ?_
  refine a_aload_n (pc := 1) dX11_cut_1 rfl rfl ?_
  refine a_getfield (pc := 2) kg_X11_16 dX11_cut_2 (c_fc hI) rfl ?_
  refine a_callV (pc := 5) km_X11_97 dX11_cut_5 (w_size hI (i := 1) (by decide)) rfl rfl (kr_l hI (i := 1) (by decide)) (rok_of hM (by decide) (by decide) (by omega) (by omega)) (Nat.le_of_ble_eq_true rfl) (fun r5 h5 hp5 => ?_)
  obtain ⟨rfl, rfl⟩ := And.intro hp5.1 hp5.2.symm
  refine a_topi (show _ = nI (vI s 18) from rfl) ?_
  refine a_callS (pc := 8) km_X11_103 dX11_cut_8 (f_among x (by omega)) rfl rfl (rok_of hM (by decide) (by decide) (by omega) (by omega)) (Nat.le_of_ble_eq_true rfl) (fun r8 h8 hp8 => ?_)
  obtain ⟨rfl, rfl⟩ := And.intro hp8.1 hp8.2.symm
  refine a_if_eqB (pc := 11) (tgt := 37) dX11_cut_11 (by decide) (fun c11 => ?_) (fun c11 => ?_)
  · have e : R_cut s x i = (-2, s) := by unfold R_cut; rw [c11]; rfl
    refine a_bipush (pc := 37) dX11_cut_37 ib_m2 ?_
    refine a_ret_i (pc := 39) hM rfl (rfl) dX11_cut_39 (by omega) (by omega) ?_
    exact pubI e rfl (CS.rf hI).ce
  · obtain ⟨r, hr, rfl⟩ := inN_of c11 (by omega)
    have er : (nI r).toNatClampNeg = r := nI_clamp (by omega)
    obtain ⟨ks, kp, f, g, h1, h2, h3, hf, hg, hkk⟩ := c_run2 hI hr
    have hz := rz25 hV hr
    have hz1 := rz1 hV hr
    obtain ⟨e4, he4, s0, rfl⟩ := hI.2 20 r hr
    refine a_iload_n (pc := 14) dX11_cut_14 rfl rfl ?_
    refine a_iconst (pc := 15) dX11_cut_15 ic_0 ?_
    refine a_aload_n (pc := 16) dX11_cut_16 rfl rfl ?_
    refine a_getfield (pc := 17) kg_X11_16 dX11_cut_17 (c_fc hI) rfl ?_
    refine a_iload_n (pc := 20) dX11_cut_20 rfl rfl ?_
    refine a_callV (pc := 21) km_X11_109 dX11_cut_21 (w_get hI (i := 1) (j := r) (by decide) (show r < vI s 18 from hr)) rfl rfl (kr_l hI (i := 1) (by decide)) (rok_of hM (by decide) (by decide) (by omega) (by omega)) (Nat.le_of_ble_eq_true rfl) (fun r21 h21 hp21 => ?_)
    obtain ⟨rfl, rfl⟩ := And.intro hp21.1 hp21.2.symm
    refine a_topr (show _ = σ 17 r from rfl) ?_
    refine a_castE (pc := 24) kl_X11_107 rfl (c_isR hI (show r < vI s 18 from hr)) dX11_cut_24 ?_
    refine a_getfield (pc := 27) kg_X11_119 dX11_cut_27 (h1) rfl ?_
    refine a_alen (pc := 30) (t := 0) rfl dX11_cut_30 (h2) rfl ?_
    refine a_callS (pc := 31) km_X11_86 dX11_cut_31 (f_withN i (by decide) (by omega)) rfl rfl (rok_of hM (by decide) (by decide) (by omega) (by omega)) (Nat.le_of_ble_eq_true rfl) (fun r31 h31 hp31 => ?_)
    obtain ⟨rfl, rfl⟩ := And.intro hp31.1 hp31.2.symm
    refine a_if_neB (pc := 34) (tgt := 40) dX11_cut_34 (by decide) (fun c34 => ?_) (fun c34 => ?_)
    · obtain ⟨k, -, hk, rfl⟩ := inR1_of c34
      have ek : (nI k).toNatClampNeg = k := nI_clamp (by omega)
      refine a_aload_n (pc := 40) dX11_cut_40 rfl rfl ?_
      refine a_getfield (pc := 41) kg_X11_16 dX11_cut_41 (c_fc hI) rfl ?_
      refine a_iload_n (pc := 44) dX11_cut_44 rfl rfl ?_
      refine a_callV (pc := 45) km_X11_109 dX11_cut_45 (w_get hI (i := 1) (j := r) (by decide) (show r < vI s 18 from hr)) rfl rfl (kr_l hI (i := 1) (by decide)) (rok_of hM (by decide) (by decide) (by omega) (by omega)) (Nat.le_of_ble_eq_true rfl) (fun r45 h45 hp45 => ?_)
      obtain ⟨rfl, rfl⟩ := And.intro hp45.1 hp45.2.symm
      refine a_topr (show _ = σ 17 r from rfl) ?_
      refine a_castE (pc := 48) kl_X11_107 rfl (c_isR hI (show r < vI s 18 from hr)) dX11_cut_48 ?_
      refine a_iload_n (pc := 51) dX11_cut_51 rfl rfl ?_
      refine a_callV (pc := 52) km_X11_136 dX11_cut_52 (f_ccut h1 h2 h3 hz he4 (hI.ne (k := 18) (i := r) hr hr (by omega)) hk) rfl rfl (kr_r hI hr) (rok_of hM (by decide) (by decide) (by omega) (by omega)) (Nat.le_of_ble_eq_true rfl) (fun r52 h52 hp52 => ?_)
      obtain ⟨rfl, rfl⟩ := And.intro hp52.1 hp52.2.symm
      refine a_iconst (pc := 55) dX11_cut_55 ic_1 ?_
      refine a_ret_i (pc := 56) hM rfl (rfl) dX11_cut_56 (by omega) (by omega) ?_
      exact pubI (by unfold R_cut; rw [c11, er, ek, show inR (nI k) 0 (rsz s r) = true from c34]; rfl) rfl (cut_cs hI hV hr hk hf).ce
    · have e : R_cut s (nI r) i = (-2, s) := by unfold R_cut; rw [c11, er]; exact if_neg (by rw [Bool.true_and]; intro z; rw [show inR i 0 (rsz s r) = false from c34] at z; exact absurd z (by decide))
      refine a_bipush (pc := 37) dX11_cut_37 ib_m2 ?_
      refine a_ret_i (pc := 39) hM rfl (rfl) dX11_cut_39 (by omega) (by omega) ?_
      exact pubI e rfl (CS.rf hI).ce

theorem shuf_cs (hI : CI X σ s h) (hV : MV s) {r sd : Nat} {f : Nat → Int32} (hr : r < vI s 18) (hf : ∀ j, j < rsz s r → f j = s.2.1 14 (25 * r + j)) : CS X σ s h (sa s 14 (mixO (25 * r) (s.2.1 14) (rsz s r - 1) (sd + 1))) (kput h (σ 18 r) (kI (rsz s r) (mixO 0 f (rsz s r - 1) (sd + 1)))) := by
  have hz1 := rz1 hV hr
  refine st14 hI hV hr (fun i hi => mixO_sh _ _ _ _ (by omega) hf i hi) (fun p hp => mixO_out _ _ _ (by omega))
set_option maxRecDepth 4000 in
theorem f_cshuf (hI : CI X σ s h) (hV : MV s) (x d : Int32) : Fn X 4 0 0 yX11_shuffle cX11_shuffle 4 (some .int) [.ref (σ 0 0), .int x, .int d] h (fun rv hv => rv = some (.int (R_shuffle s x d).1) ∧ CE X σ s h (R_shuffle s x d).2 hv) := by
  have b10 : vI s 10 ≤ 4 := hV.1.1.2
  have b18 : vI s 18 ≤ 16 := hV.2.1.1.2
  have b28 : vI s 28 ≤ 10 := hV.2.2.1.1.2
  have b31 : vI s 31 ≤ 6 := hV.2.2.2.1.1.2
  have b3 : vI s 3 ≤ 6 := hV.2.2.2.2.2.2.1.1.2
  refine fn_of (by decide) (Nat.le_of_ble_eq_true rfl) (fun M hM => ?_)
  refine a_iload_n (pc := 0) dX11_shuffle_0 rfl rfl ?_
  refine a_aload_n (pc := 1) dX11_shuffle_1 rfl rfl ?_
  refine a_getfield (pc := 2) kg_X11_16 dX11_shuffle_2 (c_fc hI) rfl ?_
  refine a_callV (pc := 5) km_X11_97 dX11_shuffle_5 (w_size hI (i := 1) (by decide)) rfl rfl (kr_l hI (i := 1) (by decide)) (rok_of hM (by decide) (by decide) (by omega) (by omega)) (Nat.le_of_ble_eq_true rfl) (fun r5 h5 hp5 => ?_)
  obtain ⟨rfl, rfl⟩ := And.intro hp5.1 hp5.2.symm
  refine a_topi (show _ = nI (vI s 18) from rfl) ?_
  refine a_callS (pc := 8) km_X11_103 dX11_shuffle_8 (f_among x (by omega)) rfl rfl (rok_of hM (by decide) (by decide) (by omega) (by omega)) (Nat.le_of_ble_eq_true rfl) (fun r8 h8 hp8 => ?_)
  obtain ⟨rfl, rfl⟩ := And.intro hp8.1 hp8.2.symm
  refine a_if_eqB (pc := 11) (tgt := 24) dX11_shuffle_11 (by decide) (fun c11 => ?_) (fun c11 => ?_)
  · have e : R_shuffle s x d = (-2, s) := by unfold R_shuffle; rw [c11]; rfl
    refine a_bipush (pc := 24) dX11_shuffle_24 ib_m2 ?_
    refine a_ret_i (pc := 26) hM rfl (rfl) dX11_shuffle_26 (by omega) (by omega) ?_
    exact pubI e rfl (CS.rf hI).ce
  · obtain ⟨r, hr, rfl⟩ := inN_of c11 (by omega)
    have er : (nI r).toNatClampNeg = r := nI_clamp (by omega)
    obtain ⟨ks, kp, f, g, h1, h2, h3, hf, hg, hkk⟩ := c_run2 hI hr
    have hz := rz25 hV hr
    have hz1 := rz1 hV hr
    refine a_iload_n (pc := 14) dX11_shuffle_14 rfl rfl ?_
    refine a_iconst (pc := 15) dX11_shuffle_15 ic_0 ?_
    refine a_ldc (pc := 16) kc_X11_85 dX11_shuffle_16 ?_
    refine a_topi (show _ = nI 99999 from by decide) ?_
    refine a_callS (pc := 18) km_X11_86 dX11_shuffle_18 (f_withN d (by decide) (by decide)) rfl rfl (rok_of hM (by decide) (by decide) (by omega) (by omega)) (Nat.le_of_ble_eq_true rfl) (fun r18 h18 hp18 => ?_)
    obtain ⟨rfl, rfl⟩ := And.intro hp18.1 hp18.2.symm
    refine a_if_neB (pc := 21) (tgt := 27) dX11_shuffle_21 (by decide) (fun c21 => ?_) (fun c21 => ?_)
    · have e21 : inN d 100000 = true := by rw [← inR_N]; exact c21
      obtain ⟨sd, hsd, rfl⟩ := inN_of e21 (by decide)
      have esd : (nI sd).toNatClampNeg = sd := nI_clamp (by omega)
      have hcs := shuf_cs (sd := sd) hI hV hr hf
      have hI2 := hcs.2.1
      have hR : R_shuffle s (nI r) (nI sd) = (nI (hitsP (sa s 14 (mixO (25 * r) (s.2.1 14) (rsz s r - 1) (sd + 1))) r (rsz s r)), sa s 14 (mixO (25 * r) (s.2.1 14) (rsz s r - 1) (sd + 1))) := by unfold R_shuffle; rw [c11, e21, er, esd]; rfl
      have hV2 : MV (sa s 14 (mixO (25 * r) (s.2.1 14) (rsz s r - 1) (sd + 1))) := by have z := MV_shuffle hV (nI r) (nI sd); rw [hR] at z; exact z
      refine a_aload_n (pc := 27) dX11_shuffle_27 rfl rfl ?_
      refine a_getfield (pc := 28) kg_X11_16 dX11_shuffle_28 (c_fc hI) rfl ?_
      refine a_iload_n (pc := 31) dX11_shuffle_31 rfl rfl ?_
      refine a_callV (pc := 32) km_X11_109 dX11_shuffle_32 (w_get hI (i := 1) (j := r) (by decide) (show r < vI s 18 from hr)) rfl rfl (kr_l hI (i := 1) (by decide)) (rok_of hM (by decide) (by decide) (by omega) (by omega)) (Nat.le_of_ble_eq_true rfl) (fun r32 h32 hp32 => ?_)
      obtain ⟨rfl, rfl⟩ := And.intro hp32.1 hp32.2.symm
      refine a_topr (show _ = σ 17 r from rfl) ?_
      refine a_castE (pc := 35) kl_X11_107 rfl (c_isR hI (show r < vI s 18 from hr)) dX11_shuffle_35 ?_
      refine a_astore_n (pc := 38) dX11_shuffle_38 rfl (by decide) rfl ?_
      refine a_aload_n (pc := 39) dX11_shuffle_39 rfl rfl ?_
      refine a_getfield (pc := 40) kg_X11_119 dX11_shuffle_40 (h1) rfl ?_
      refine a_iload_n (pc := 43) dX11_shuffle_43 rfl rfl ?_
      refine a_callS (pc := 44) km_X11_139 dX11_shuffle_44 (f_cmix h2 hz1 hz (by omega)) rfl rfl (rok_of hM (by decide) (by decide) (by omega) (by omega)) (Nat.le_of_ble_eq_true rfl) (fun r44 h44 hp44 => ?_)
      obtain ⟨rfl, rfl⟩ := And.intro hp44.1 hp44.2.symm
      refine a_aload_n (pc := 47) dX11_shuffle_47 rfl rfl ?_
      refine a_callV (pc := 48) km_X11_143 dX11_shuffle_48 (w_hits hI2 hV2 hr) rfl rfl (kr_r hI2 hr) (rok_of hM (by decide) (by decide) (by omega) (by omega)) (Nat.le_of_ble_eq_true rfl) (fun r48 h48 hp48 => ?_)
      obtain ⟨rfl, rfl⟩ := And.intro hp48.1 hp48.2.symm
      refine a_ret_i (pc := 51) hM rfl (rfl) dX11_shuffle_51 (by omega) (by omega) ?_
      exact pubI hR rfl hcs.ce
    · have e21 : inN d 100000 = false := by rw [← inR_N]; exact c21
      have e : R_shuffle s (nI r) d = (-2, s) := by unfold R_shuffle; rw [c11, e21]; rfl
      refine a_bipush (pc := 24) dX11_shuffle_24 ib_m2 ?_
      refine a_ret_i (pc := 26) hM rfl (rfl) dX11_shuffle_26 (by omega) (by omega) ?_
      exact pubI e rfl (CS.rf hI).ce

end CPE

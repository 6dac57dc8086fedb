/-! THE CLASS: RUNS FROM A SHEET -/
section CPM
variable {X : KX} {h : AH} {s : MST} {σ : Nat → Nat → Nat}
theorem R_run_a (s : MST) (x g d : Int32) {a : Nat} (h : a = 61 ∨ a = 62 ∨ a = 63 ∨ a = 64) : (R_run s x g d).2.2.1 a = s.2.1 a := by
  unfold R_run
  split
  · split
    · rfl
    · rcases h with rfl | rfl | rfl | rfl <;> rfl
  · rfl
theorem runsS_a (s : MST) (q b k : Nat) {a : Nat} (h : a = 61 ∨ a = 62 ∨ a = 63 ∨ a = 64) : (runsS s q b k).2.2.1 a = s.2.1 a := by
  induction k with
  | zero => rfl
  | succ k ih => exact (R_run_a _ _ _ _ h).trans ih
theorem hd_ok {z a n : Nat} (hz : z ≤ 40) (h : a + n ≤ z) : hdP (nI z) (nI a) (nI n) = true := by
  rw [hd_iff hz]
  rintro (e | e | e)
  · rw [Int32.lt_iff_toInt_lt, nI_toInt (by omega)] at e
    have e : (n : Int) < 0 := e
    omega
  · rw [Int32.lt_iff_toInt_lt, nI_toInt (by omega)] at e
    have e : (a : Int) < 0 := e
    omega
  · rw [Int32.lt_iff_toInt_lt, Int32.toInt_sub, nI_toInt (by omega), nI_toInt (by omega), nI_toInt (by omega), Int.bmod_eq_of_le (by omega) (by omega)] at e
    omega
theorem hd_neg {z n f : Int32} (h : f < 0) : hdP z f n = false := by
  unfold hdP
  rw [decide_eq_true h]
  rfl
set_option maxRecDepth 4000 in
theorem f_cruns (hI : CI X σ s h) (hV : MV s) (x so at_ n : Int32) : Fn X 8 96 3000 yX11_runs cX11_runs 9 (some .int) [.ref (σ 0 0), .int x, .int so, .int at_, .int n] h (fun rv hv => rv = some (.int (R_runs s x so at_ n).1) ∧ CE X σ s h (R_runs s x so at_ n).2 hv) := by
  have b10 : vI s 10 ≤ 4 := hV.1.1.2
  have b18 : vI s 18 ≤ 16 := hV.2.1.1.2
  have b28 : vI s 28 ≤ 10 := hV.2.2.1.1.2
  have b31 : vI s 31 ≤ 6 := hV.2.2.2.1.1.2
  have b3 : vI s 3 ≤ 6 := hV.2.2.2.2.2.2.1.1.2
  refine fn_of (by decide) (Nat.le_of_ble_eq_true rfl) (fun M hM => ?_)
  refine a_iload_n (pc := 0) dX11_runs_0 rfl rfl ?_
  refine a_iconst (pc := 1) dX11_runs_1 ic_4 ?_
  refine a_callS (pc := 2) km_X11_103 dX11_runs_2 (f_among x (by decide)) rfl rfl (rok_of hM (by decide) (by decide) (by omega) (by omega)) (Nat.le_of_ble_eq_true rfl) (fun r2 h2 hp2 => ?_)
  obtain ⟨rfl, rfl⟩ := And.intro hp2.1 hp2.2.symm
  refine a_if_eqB (pc := 5) (tgt := 28) dX11_runs_5 (by decide) (fun c5 => ?_) (fun c5 => ?_)
  · have e : R_runs s x so at_ n = (-2, s) := by unfold R_runs; rw [c5]; rfl
    refine a_bipush (pc := 28) dX11_runs_28 ib_m2 ?_
    refine a_ret_i (pc := 30) hM rfl (rfl) dX11_runs_30 (by omega) (by omega) ?_
    exact pubI e rfl (CS.rf hI).ce
  · obtain ⟨q, hq, rfl⟩ := inN_of c5 (by decide)
    have eq : (nI q).toNatClampNeg = q := nI_clamp (by omega)
    obtain ⟨so0, sz0, it, s1, s2, s3, s4⟩ := c_sh hI hV hq
    refine a_iload_n (pc := 8) dX11_runs_8 rfl rfl ?_
    refine a_iconst (pc := 9) dX11_runs_9 ic_0 ?_
    refine a_iconst (pc := 10) dX11_runs_10 ic_2 ?_
    refine a_callS (pc := 11) km_X11_86 dX11_runs_11 (f_withN so (by decide) (by decide)) rfl rfl (rok_of hM (by decide) (by decide) (by omega) (by omega)) (Nat.le_of_ble_eq_true rfl) (fun r11 h11 hp11 => ?_)
    obtain ⟨rfl, rfl⟩ := And.intro hp11.1 hp11.2.symm
    refine a_if_eqB (pc := 14) (tgt := 28) dX11_runs_14 (by decide) (fun c14 => ?_) (fun c14 => ?_)
    · have c14 : inN so 3 = false := by rw [← inR_N]; exact c14
      have e : R_runs s (nI q) so at_ n = (-2, s) := by unfold R_runs; rw [c5, c14]; rfl
      refine a_bipush (pc := 28) dX11_runs_28 ib_m2 ?_
      refine a_ret_i (pc := 30) hM rfl (rfl) dX11_runs_30 (by omega) (by omega) ?_
      exact pubI e rfl (CS.rf hI).ce
    · have c14 : inN so 3 = true := by rw [← inR_N]; exact c14
      refine a_iload (pc := 17) dX11_runs_17 rfl ?_
      refine a_iconst (pc := 19) dX11_runs_19 ic_0 ?_
      refine a_bipush (pc := 20) dX11_runs_20 ib_12 ?_
      refine a_callS (pc := 22) km_X11_86 dX11_runs_22 (f_withN n (by decide) (by decide)) rfl rfl (rok_of hM (by decide) (by decide) (by omega) (by omega)) (Nat.le_of_ble_eq_true rfl) (fun r22 h22 hp22 => ?_)
      obtain ⟨rfl, rfl⟩ := And.intro hp22.1 hp22.2.symm
      refine a_if_neB (pc := 25) (tgt := 31) dX11_runs_25 (by decide) (fun c25 => ?_) (fun c25 => ?_)
      · have c25 : inN n 13 = true := by rw [← inR_N]; exact c25
        obtain ⟨n, hn, rfl⟩ := inN_of c25 (by decide)
        have en : (nI n).toNatClampNeg = n := nI_clamp (by omega)
        have hcc : (inN (nI q) 4 && inN so 3 && inN (nI n) 13) = true := by rw [c5, c14, c25]; rfl
        refine a_aload_n (pc := 31) dX11_runs_31 rfl rfl ?_
        refine a_getfield (pc := 32) kg_X11_30 dX11_runs_32 (c_fc hI) rfl ?_
        refine a_iload_n (pc := 35) dX11_runs_35 rfl rfl ?_
        refine a_shl (pc := 36) hI hq dX11_runs_36 ?_
        refine a_astore (pc := 37) dX11_runs_37 (by decide) rfl ?_
        refine a_aload (pc := 39) dX11_runs_39 rfl ?_
        refine a_callV (pc := 41) km_X11_124 dX11_runs_41 (f_isMiss (it := it) s1) rfl rfl (krecv_of (ci := 7) rfl s1) (rok_of hM (by decide) (by decide) (by omega) (by omega)) (Nat.le_of_ble_eq_true rfl) (fun r41 h41 hp41 => ?_)
        obtain ⟨rfl, rfl⟩ := And.intro hp41.1 hp41.2.symm
        refine a_if_neB (pc := 44) (tgt := 59) dX11_runs_44 (by decide) (fun c44 => ?_) (fun c44 => ?_)
        · have t0 : s.2.1 61 q = 0 := Decidable.byContradiction (fun z => (s4 z).2.1 (of_decide_eq_true c44))
          refine a_aload (pc := 59) dX11_runs_59 rfl ?_
          refine a_callV (pc := 61) km_X11_124 dX11_runs_61 (f_isMiss (it := it) s1) rfl rfl (krecv_of (ci := 7) rfl s1) (rok_of hM (by decide) (by decide) (by omega) (by omega)) (Nat.le_of_ble_eq_true rfl) (fun r61 h61 hp61 => ?_)
          obtain ⟨rfl, rfl⟩ := And.intro hp61.1 hp61.2.symm
          refine a_if_eq_f (pc := 64) (tgt := 70) dX11_runs_64 (by decide) (by rw [c44]; decide) ?_
          refine a_bipush (pc := 67) dX11_runs_67 ib_m11 ?_
          refine a_ret_i (pc := 69) hM rfl (rfl) dX11_runs_69 (by omega) (by omega) ?_
          exact pubI (by unfold R_runs; rw [hcc, eq]; exact (if_pos rfl).trans (if_pos t0)) rfl (CS.rf hI).ce
        · have t0 : ¬ s.2.1 61 q = 0 := fun z => absurd (s3 z) (of_decide_eq_false c44)
          obtain ⟨t1, -, t3, t4, t5⟩ := s4 t0
          refine a_aload (pc := 47) dX11_runs_47 rfl ?_
          refine a_getfield (pc := 49) kg_X11_286 dX11_runs_49 (s1) rfl ?_
          refine a_iload_n (pc := 52) dX11_runs_52 rfl rfl ?_
          refine a_icmp_eq (pc := 53) (tgt := 59) dX11_runs_53 (by decide) (fun c53 => ?_) (fun c53 => ?_)
          · have hso : s.2.1 62 q = so := by rw [← t1]; exact c53
            refine a_aload (pc := 59) dX11_runs_59 rfl ?_
            refine a_callV (pc := 61) km_X11_124 dX11_runs_61 (f_isMiss (it := it) s1) rfl rfl (krecv_of (ci := 7) rfl s1) (rok_of hM (by decide) (by decide) (by omega) (by omega)) (Nat.le_of_ble_eq_true rfl) (fun r61 h61 hp61 => ?_)
            obtain ⟨rfl, rfl⟩ := And.intro hp61.1 hp61.2.symm
            refine a_if_eq_t (pc := 64) (tgt := 70) dX11_runs_64 (by decide) (by rw [c44]; rfl) ?_
            by_cases hat : at_ < 0
            · skip
              refine a_iconst (pc := 70) dX11_runs_70 ic_0 ?_
              refine a_istore (pc := 71) dX11_runs_71 (by decide) rfl ?_
              refine a_iconst (pc := 73) dX11_runs_73 ic_0 ?_
              refine a_istore (pc := 74) dX11_runs_74 (by decide) rfl ?_
              refine a_iload (pc := 76) dX11_runs_76 rfl ?_
              refine a_iload (pc := 78) dX11_runs_78 rfl ?_
              refine a_icmp_geN (pc := 80) (tgt := 149) dX11_runs_80 (by decide) (by omega) (by omega) (fun c80 => ?_) (fun c80 => ?_)
              · have hn0 : n = 0 := by omega
                have hR : R_runs s (nI q) so at_ (nI n) = (nI 0, s) := by
                  unfold R_runs
                  rw [eq, en]
                  rw [hcc]; refine (if_pos rfl).trans ((if_neg t0).trans ((if_pos hso).trans ?_))
                  exact if_pos hn0
                refine a_iload (pc := 149) dX11_runs_149 rfl ?_
                refine a_ret_i (pc := 151) hM rfl (rfl) dX11_runs_151 (by omega) (by omega) ?_
                exact pubI hR rfl (CS.rf hI).ce
              · have hR : R_runs s (nI q) so at_ (nI n) = (-12, s) := by
                  unfold R_runs
                  rw [eq, en]
                  rw [hcc]; refine (if_pos rfl).trans ((if_neg t0).trans ((if_pos hso).trans ?_))
                  exact (if_neg (by omega)).trans (if_pos hat)
                refine a_iload_n (pc := 83) dX11_runs_83 rfl rfl ?_
                refine a_iconst (pc := 84) dX11_runs_84 ic_3 ?_
                refine a_iload (pc := 85) dX11_runs_85 rfl ?_
                refine a_imulN (pc := 87) dX11_runs_87 ?_
                refine a_iadd (pc := 88) dX11_runs_88 ?_
                refine a_istore (pc := 89) dX11_runs_89 (by decide) rfl ?_
                refine a_aload (pc := 91) dX11_runs_91 rfl ?_
                refine a_iload (pc := 93) dX11_runs_93 rfl ?_
                refine a_iconst (pc := 95) dX11_runs_95 ic_3 ?_
                refine a_callV (pc := 96) km_X11_289 dX11_runs_96 (f_holds (it := it) s1 _ (nI 3)) rfl rfl (krecv_of (ci := 7) rfl s1) (rok_of hM (by decide) (by decide) (by omega) (by omega)) (Nat.le_of_ble_eq_true rfl) (fun r96 h96 hp96 => ?_)
                obtain ⟨rfl, rfl⟩ := And.intro hp96.1 hp96.2.symm
                refine a_if_neB (pc := 99) (tgt := 105) dX11_runs_99 (by decide) (fun c99 => ?_) (fun c99 => ?_)
                · have z := hd_neg (z := sz0) (n := nI 3) (f := at_ + nI (3 * 0)) (by rw [show at_ + nI (3 * 0) = at_ from Int32.add_zero at_]; exact hat)
                  rw [z] at c99
                  exact absurd c99 (by decide)
                · refine a_bipush (pc := 102) dX11_runs_102 ib_m12 ?_
                  refine a_ret_i (pc := 104) hM rfl (rfl) dX11_runs_104 (by omega) (by omega) ?_
                  exact pubI hR rfl (CS.rf hI).ce
            · obtain ⟨b, hb, rfl⟩ := nn_of hat
              have eb : (nI b).toNatClampNeg = b := nI_clamp (by omega)
              have lp : ∀ (d k : Nat) (σ1 : Nat → Nat → Nat) (hh : AH), n - k = d → k ≤ n → (∀ k i, k ≤ 14 → σ1 k i = σ k i) → (CI X σ1 (runsS s q b k).2 hh) → (CFr σ s h σ1 (runsS s q b k).2 hh) → (k = 0 ∨ b + 3 * k ≤ vA s 63 q) → AJ X M yX11_runs cX11_runs 9 (some .int) 76 [(0, .ref (σ1 0 0)), (3, .int (nI b)), (4, .int (nI n)), (5, .ref (σ1 3 q)), (6, .int (nI (runsS s q b k).1)), (7, .int (nI k))] [] hh (8 * k) (240 * k) := by
                intro d
                induction d with
                | zero =>
                  intro k σ1 hh hd hle hz hJ hF hfit
                  have hVu := MV_runsS hV q b k
                  obtain ⟨so1, sz1, it, s1, s2, s3, s4⟩ := c_sh hJ hVu hq
                  have q61 : ¬ (runsS s q b k).2.2.1 61 q = 0 := by rw [runsS_a s q b k (Or.inl rfl)]; exact t0
                  obtain ⟨u1, -, u3, u4, u5⟩ := s4 q61
                  have q63 : vA (runsS s q b k).2 63 q = vA s 63 q := congrArg (fun t => (t q).toNatClampNeg) (runsS_a s q b k (Or.inr (Or.inr (Or.inl rfl))))
                  rw [q63] at u3 u4 u5
                  have hcl := runsS_le s q b k
                  refine a_iload (pc := 76) dX11_runs_76 rfl ?_
                  refine a_iload (pc := 78) dX11_runs_78 rfl ?_
                  refine a_icmp_geN (pc := 80) (tgt := 149) dX11_runs_80 (by decide) (by omega) (by omega) (fun c80 => ?_) (fun c80 => ?_)
                  · have hkn : k = n := by omega
                    subst hkn
                    have hR : R_runs s (nI q) so (nI b) (nI k) = (nI (runsS s q b k).1, (runsS s q b k).2) := by
                      unfold R_runs
                      rw [eq, eb, en]
                      rw [hcc]; refine (if_pos rfl).trans ((if_neg t0).trans ((if_pos hso).trans ?_))
                      by_cases h0k : k = 0
                      · subst h0k
                        rfl
                      · exact (if_neg h0k).trans ((if_neg hat).trans (if_pos (by omega)))
                    refine a_iload (pc := 149) dX11_runs_149 rfl ?_
                    refine a_ret_i (pc := 151) hM rfl (rfl) dX11_runs_151 (by omega) (by omega) ?_
                    exact pubI hR rfl ⟨σ1, hz, hJ, hF⟩
                  · exact absurd c80 (by omega)
                | succ d ih =>
                  intro k σ1 hh hd hle hz hJ hF hfit
                  have hVu := MV_runsS hV q b k
                  obtain ⟨so1, sz1, it, s1, s2, s3, s4⟩ := c_sh hJ hVu hq
                  have q61 : ¬ (runsS s q b k).2.2.1 61 q = 0 := by rw [runsS_a s q b k (Or.inl rfl)]; exact t0
                  obtain ⟨u1, -, u3, u4, u5⟩ := s4 q61
                  have q63 : vA (runsS s q b k).2 63 q = vA s 63 q := congrArg (fun t => (t q).toNatClampNeg) (runsS_a s q b k (Or.inr (Or.inr (Or.inl rfl))))
                  rw [q63] at u3 u4 u5
                  have hcl := runsS_le s q b k
                  refine a_iload (pc := 76) dX11_runs_76 rfl ?_
                  refine a_iload (pc := 78) dX11_runs_78 rfl ?_
                  refine a_icmp_geN (pc := 80) (tgt := 149) dX11_runs_80 (by decide) (by omega) (by omega) (fun c80 => ?_) (fun c80 => ?_)
                  · exact absurd c80 (by omega)
                  · refine a_iload_n (pc := 83) dX11_runs_83 rfl rfl ?_
                    refine a_iconst (pc := 84) dX11_runs_84 ic_3 ?_
                    refine a_iload (pc := 85) dX11_runs_85 rfl ?_
                    refine a_imulN (pc := 87) dX11_runs_87 ?_
                    refine a_iaddN (pc := 88) dX11_runs_88 ?_
                    refine a_istore (pc := 89) dX11_runs_89 (by decide) rfl ?_
                    refine a_aload (pc := 91) dX11_runs_91 rfl ?_
                    refine a_iload (pc := 93) dX11_runs_93 rfl ?_
                    refine a_iconst (pc := 95) dX11_runs_95 ic_3 ?_
                    refine a_callV (pc := 96) km_X11_289 dX11_runs_96 (f_holds (it := it) s1 (nI (b + 3 * k)) (nI 3)) rfl rfl (krecv_of (ci := 7) rfl s1) (rok_of hM (by decide) (by decide) (by omega) (by omega)) (Nat.le_of_ble_eq_true rfl) (fun r96 h96 hp96 => ?_)
                    obtain ⟨rfl, rfl⟩ := And.intro hp96.1 hp96.2.symm
                    refine a_if_neB (pc := 99) (tgt := 105) dX11_runs_99 (by decide) (fun c99 => ?_) (fun c99 => ?_)
                    · rw [u3] at c99
                      obtain ⟨a1, a2, w1, w2, w3⟩ := hd_nat u4 c99
                      have w1 := nI_inj (by omega) (by omega) w1
                      have w2 := nI_inj (by omega) (by omega) w2
                      have hf : b + 3 * k + 3 ≤ vA s 63 q := by omega
                      refine a_aload_n (pc := 105) dX11_runs_105 rfl rfl ?_
                      refine a_aload (pc := 106) dX11_runs_106 rfl ?_
                      refine a_getfield (pc := 108) kg_X11_292 dX11_runs_108 (s1) rfl ?_
                      refine a_iload (pc := 111) dX11_runs_111 rfl ?_
                      refine a_iaload (pc := 113) dX11_runs_113 (s2) (b + 3 * k) (rfl) (by omega) (by omega) ?_
                      refine a_topi ((show _ = (runsS s q b k).2.2.1 64 (40 * q + b + 3 * k) from (u5 _ (by omega)).trans (congrArg ((runsS s q b k).2.2.1 64) (by omega)))) ?_
                      refine a_aload (pc := 114) dX11_runs_114 rfl ?_
                      refine a_getfield (pc := 116) kg_X11_292 dX11_runs_116 (s1) rfl ?_
                      refine a_iload (pc := 119) dX11_runs_119 rfl ?_
                      refine a_iconst (pc := 121) dX11_runs_121 ic_1 ?_
                      refine a_iaddN (pc := 122) dX11_runs_122 ?_
                      refine a_iaload (pc := 123) dX11_runs_123 (s2) (b + 3 * k + 1) (rfl) (by omega) (by omega) ?_
                      refine a_topi ((show _ = (runsS s q b k).2.2.1 64 (40 * q + b + 3 * k + 1) from (u5 _ (by omega)).trans (congrArg ((runsS s q b k).2.2.1 64) (by omega)))) ?_
                      refine a_aload (pc := 124) dX11_runs_124 rfl ?_
                      refine a_getfield (pc := 126) kg_X11_292 dX11_runs_126 (s1) rfl ?_
                      refine a_iload (pc := 129) dX11_runs_129 rfl ?_
                      refine a_iconst (pc := 131) dX11_runs_131 ic_2 ?_
                      refine a_iaddN (pc := 132) dX11_runs_132 ?_
                      refine a_iaload (pc := 133) dX11_runs_133 (s2) (b + 3 * k + 2) (rfl) (by omega) (by omega) ?_
                      refine a_topi ((show _ = (runsS s q b k).2.2.1 64 (40 * q + b + 3 * k + 2) from (u5 _ (by omega)).trans (congrArg ((runsS s q b k).2.2.1 64) (by omega)))) ?_
                      refine a_callV (pc := 134) km_X11_301 dX11_runs_134 (f_crun hJ hVu _ _ _) rfl rfl (kr_t hJ) (rok_of hM (by decide) (by decide) (by omega) (by omega)) (Nat.le_of_ble_eq_true rfl) (fun r134 h134 hp134 => ?_)
                      obtain ⟨rfl, σ2, z2, hJ2, hF2⟩ := hp134
                      refine a_topi (show _ = (runsT (runsS s q b k).2 (40 * q + b + 3 * k)).1 from rfl) ?_
                      refine a_if_lt (pc := 137) (tgt := 143) dX11_runs_137 (by decide) (fun c137 => ?_) (fun c137 => ?_)
                      · have hs1 : (runsS s q b k).1 + 0 = (runsS s q b (k + 1)).1 := by rw [runsS_s, if_pos c137]
                        refine a_iincN (pc := 143) (n := 1) dX11_runs_143 (by decide) rfl (by decide) rfl ?_
                        refine a_goto (pc := 146) (tgt := 76) dX11_runs_146 (by decide) ?_
                        rw [← z2 0 0 (by decide), ← z2 3 q (by decide)]
                        exact a_wid (uc1 := 8 * (k + 1)) (us1 := 240 * (k + 1)) (by omega) (by omega) (a_locR (ih (k + 1) σ2 _ (by omega) (by omega) (fun x y hx => (z2 x y hx).trans (hz x y hx)) hJ2 (hF.tr hF2) (Or.inr (by omega))) ⟨rfl, rfl, rfl, rfl, congrArg (fun t => some (Value.int (nI t))) hs1, rfl, trivial⟩)
                      · have hs1 : (runsS s q b k).1 + 1 = (runsS s q b (k + 1)).1 := by rw [runsS_s, if_neg c137]
                        refine a_iincN (pc := 140) (n := 1) dX11_runs_140 (by decide) rfl (by decide) rfl ?_
                        refine a_iincN (pc := 143) (n := 1) dX11_runs_143 (by decide) rfl (by decide) rfl ?_
                        refine a_goto (pc := 146) (tgt := 76) dX11_runs_146 (by decide) ?_
                        rw [← z2 0 0 (by decide), ← z2 3 q (by decide)]
                        exact a_wid (uc1 := 8 * (k + 1)) (us1 := 240 * (k + 1)) (by omega) (by omega) (a_locR (ih (k + 1) σ2 _ (by omega) (by omega) (fun x y hx => (z2 x y hx).trans (hz x y hx)) hJ2 (hF.tr hF2) (Or.inr (by omega))) ⟨rfl, rfl, rfl, rfl, congrArg (fun t => some (Value.int (nI t))) hs1, rfl, trivial⟩)
                    · have hnf : ¬ b + 3 * k + 3 ≤ vA s 63 q := fun z => by rw [u3, hd_ok u4 z] at c99; exact absurd c99 (by decide)
                      have hkz : (vA s 63 q - b) / 3 = k := by omega
                      have hR : R_runs s (nI q) so (nI b) (nI n) = (-12, (runsS s q b k).2) := by
                        unfold R_runs
                        rw [eq, eb, en]
                        rw [hcc]; refine (if_pos rfl).trans ((if_neg t0).trans ((if_pos hso).trans ?_))
                        refine (if_neg (by omega)).trans ((if_neg hat).trans ((if_neg (by omega)).trans ?_))
                        rw [hkz]
                      refine a_bipush (pc := 102) dX11_runs_102 ib_m12 ?_
                      refine a_ret_i (pc := 104) hM rfl (rfl) dX11_runs_104 (by omega) (by omega) ?_
                      exact pubI hR rfl ⟨σ1, hz, hJ, hF⟩
              refine a_iconst (pc := 70) dX11_runs_70 ic_0 ?_
              refine a_istore (pc := 71) dX11_runs_71 (by decide) rfl ?_
              refine a_iconst (pc := 73) dX11_runs_73 ic_0 ?_
              refine a_istore (pc := 74) dX11_runs_74 (by decide) rfl ?_
              exact a_locR (lp _ 0 σ _ rfl (Nat.zero_le _) (fun _ _ _ => rfl) hI CFr.rf (Or.inl rfl)) ⟨rfl, rfl, rfl, rfl, rfl, rfl, trivial⟩
          · have hso : ¬ s.2.1 62 q = so := by rw [← t1]; exact c53
            refine a_bipush (pc := 56) dX11_runs_56 ib_m13 ?_
            refine a_ret_i (pc := 58) hM rfl (rfl) dX11_runs_58 (by omega) (by omega) ?_
            exact pubI (by unfold R_runs; rw [hcc, eq]; exact (if_pos rfl).trans ((if_neg t0).trans (if_neg hso))) rfl (CS.rf hI).ce
      · have c25 : inN n 13 = false := by rw [← inR_N]; exact c25
        have e : R_runs s (nI q) so at_ n = (-2, s) := by unfold R_runs; rw [c5, c14, c25]; rfl
        refine a_bipush (pc := 28) dX11_runs_28 ib_m2 ?_
        refine a_ret_i (pc := 30) hM rfl (rfl) dX11_runs_30 (by omega) (by omega) ?_
        exact pubI e rfl (CS.rf hI).ce

end CPM

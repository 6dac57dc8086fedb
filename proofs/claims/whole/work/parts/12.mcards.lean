/-! THE REFERENCE: cards and guesses, written -/
section MP2
variable {X : KX} {m : Nat → Nat} {s : MST} {h0 : AH}
def N_slip (s : MST) (r i : Nat) (g : Int32) : MST := sa (sa (sa s 15 (upd (s.2.1 15) (25 * r + i) g)) 17 (upd (s.2.1 17) r (s.2.1 17 r - (if s.2.1 14 (25 * r + i) = s.2.1 15 (25 * r + i) then nI 1 else nI 0) + (if s.2.1 14 (25 * r + i) = g then nI 1 else nI 0)))) 16 (upd (s.2.1 16) r (s.2.1 16 r + nI 1))
def R_slip (s : MST) (x i g : Int32) : Int32 × MST := if (inN x (vI s 18) && inN i (rsz s x.toNatClampNeg) && inN g 5) = true then (s.2.1 15 (25 * x.toNatClampNeg + i.toNatClampNeg), N_slip s x.toNatClampNeg i.toNatClampNeg g) else (-2, s)
theorem sa_3 {s : MST} {k j : Nat} {f g e : Nat → Int32} (h : k ≠ j) : sa (sa (sa s k f) j g) k e = sa (sa s j g) k e := by rw [sa_sw h, sa_sa]
theorem isH {p : Prop} [Decidable p] {b : Bool} (h : b = true) (e : b = decide p) : p := of_decide_eq_true (e ▸ h)
theorem isNH {p : Prop} [Decidable p] {b : Bool} (h : b = false) (e : b = decide p) : ¬ p := of_decide_eq_false (e ▸ h)
set_option maxRecDepth 4000 in
theorem f_slip (hm : MI m) (hV : MV s) (x i g : Int32) : Fn X 2 0 0 yX12_slip cX12_slip 5 (some .int) [.ref (m 65), .int x, .int i, .int g] (mh m s h0) (fun rv hv => rv = some (.int (R_slip s x i g).1) ∧ ∃ s' : MST, hv = mh m s' h0 ∧ SP s' (R_slip s x i g).2) := by
  obtain ⟨⟨hn18, hb18⟩, hl18⟩ := id hV.2.1
  refine fn_of (by decide) (Nat.le_of_ble_eq_true rfl) (fun M hM => ?_)
  refine a_aload_n (pc := 0) dX12_slip_0 rfl rfl ?_
  refine a_iload_n (pc := 1) dX12_slip_1 rfl rfl ?_
  refine a_callV (pc := 2) km_X12_157 dX12_slip_2 (f_isRun hm hn18 (by omega) _) rfl rfl (krecv_of (ci := 12) rfl (m_obj hm)) (rok_of hM (by decide) (by decide) (by omega) (by omega)) (Nat.le_of_ble_eq_true rfl) (fun r2 h2 hp2 => ?_)
  obtain ⟨rfl, rfl⟩ := hp2
  refine a_if_eqB (pc := 5) (tgt := 32) dX12_slip_5 (by decide) (fun c5 => ?_) (fun c5 => ?_)
  · refine a_bipush (pc := 32) dX12_slip_32 ib_m2 ?_
    refine a_ret_i (pc := 34) hM rfl (rfl) dX12_slip_34 (by omega) (by omega) ?_
    exact ⟨by first | simp only [R_slip, er, eq, c5, Bool.and_self, Bool.and_true, Bool.true_and, Bool.and_false, Bool.false_and, Bool.false_eq_true, Nat.add_sub_cancel, reduceIte] | simp only [R_slip, er, c5, Bool.and_self, Bool.and_true, Bool.true_and, Bool.and_false, Bool.false_and, Bool.false_eq_true, Nat.add_sub_cancel, reduceIte] | simp only [R_slip, c5, Bool.and_self, Bool.and_true, Bool.true_and, Bool.and_false, Bool.false_and, Bool.false_eq_true, Nat.add_sub_cancel, reduceIte], _, rfl, by first | (simp only [R_slip, er, eq, c5, Bool.and_self, Bool.and_true, Bool.true_and, Bool.and_false, Bool.false_and, Bool.false_eq_true, Nat.add_sub_cancel, reduceIte]; exact SP.rfl) | (simp only [R_slip, er, c5, Bool.and_self, Bool.and_true, Bool.true_and, Bool.and_false, Bool.false_and, Bool.false_eq_true, Nat.add_sub_cancel, reduceIte]; exact SP.rfl) | (simp only [R_slip, c5, Bool.and_self, Bool.and_true, Bool.true_and, Bool.and_false, Bool.false_and, Bool.false_eq_true, Nat.add_sub_cancel, reduceIte]; exact SP.rfl)⟩
  · obtain ⟨r, hr, rfl⟩ := inN_of c5 (by omega)
    obtain ⟨hr16, hz, hz1, hz2⟩ := MV_run hV hr
    have er : (nI r).toNatClampNeg = r := nI_clamp (by omega)
    refine a_iload_n (pc := 8) dX12_slip_8 rfl rfl ?_
    refine a_i2l (pc := 9) dX12_slip_9 ?_
    refine a_lconst (pc := 10) (v := lN 0) dX12_slip_10 rfl ?_
    refine a_aload_n (pc := 11) dX12_slip_11 rfl rfl ?_
    refine a_iload_n (pc := 12) dX12_slip_12 rfl rfl ?_
    refine a_callV (pc := 13) km_X12_161 dX12_slip_13 (f_sizeOf hm hr16 hz) rfl rfl (krecv_of (ci := 12) rfl (m_obj hm)) (rok_of hM (by decide) (by decide) (by omega) (by omega)) (Nat.le_of_ble_eq_true rfl) (fun r13 h13 hp13 => ?_)
    obtain ⟨rfl, rfl⟩ := hp13
    refine a_iconst (pc := 16) dX12_slip_16 ic_1 ?_
    refine a_isubN (pc := 17) dX12_slip_17 (by omega) ?_
    refine a_i2lN (pc := 18) dX12_slip_18 (by omega) ?_
    refine a_callS (pc := 19) km_X12_142 dX12_slip_19 (f_in _ _ _) rfl rfl (rok_of hM (by decide) (by decide) (by omega) (by omega)) (Nat.le_of_ble_eq_true rfl) (fun r19 h19 hp19 => ?_)
    obtain ⟨rfl, rfl⟩ := hp19
    refine a_topi (congrArg bI (in_rng2 (x := i) (n := rsz s r) (k := rsz s r - 1) (by omega) (by omega))) ?_
    refine a_if_eqB (pc := 22) (tgt := 32) dX12_slip_22 (by decide) (fun c22 => ?_) (fun c22 => ?_)
    · refine a_bipush (pc := 32) dX12_slip_32 ib_m2 ?_
      refine a_ret_i (pc := 34) hM rfl (rfl) dX12_slip_34 (by omega) (by omega) ?_
      exact ⟨by first | simp only [R_slip, er, eq, c5, c22, Bool.and_self, Bool.and_true, Bool.true_and, Bool.and_false, Bool.false_and, Bool.false_eq_true, Nat.add_sub_cancel, reduceIte] | simp only [R_slip, er, c5, c22, Bool.and_self, Bool.and_true, Bool.true_and, Bool.and_false, Bool.false_and, Bool.false_eq_true, Nat.add_sub_cancel, reduceIte] | simp only [R_slip, c5, c22, Bool.and_self, Bool.and_true, Bool.true_and, Bool.and_false, Bool.false_and, Bool.false_eq_true, Nat.add_sub_cancel, reduceIte], _, rfl, by first | (simp only [R_slip, er, eq, c5, c22, Bool.and_self, Bool.and_true, Bool.true_and, Bool.and_false, Bool.false_and, Bool.false_eq_true, Nat.add_sub_cancel, reduceIte]; exact SP.rfl) | (simp only [R_slip, er, c5, c22, Bool.and_self, Bool.and_true, Bool.true_and, Bool.and_false, Bool.false_and, Bool.false_eq_true, Nat.add_sub_cancel, reduceIte]; exact SP.rfl) | (simp only [R_slip, c5, c22, Bool.and_self, Bool.and_true, Bool.true_and, Bool.and_false, Bool.false_and, Bool.false_eq_true, Nat.add_sub_cancel, reduceIte]; exact SP.rfl)⟩
    · obtain ⟨q, hq, rfl⟩ := inN_of c22 (by omega)
      have eq : (nI q).toNatClampNeg = q := nI_clamp (by omega)
      refine a_iload_n (pc := 25) dX12_slip_25 rfl rfl ?_
      refine a_callS (pc := 26) km_X12_168 dX12_slip_26 (f_isSignOf _) rfl rfl (rok_of hM (by decide) (by decide) (by omega) (by omega)) (Nat.le_of_ble_eq_true rfl) (fun r26 h26 hp26 => ?_)
      obtain ⟨rfl, rfl⟩ := hp26
      refine a_if_neB (pc := 29) (tgt := 35) dX12_slip_29 (by decide) (fun c29 => ?_) (fun c29 => ?_)
      · refine a_aload_n (pc := 35) dX12_slip_35 rfl rfl ?_
        refine a_getfield (pc := 36) kg_X12_45 dX12_slip_36 (m_obj hm) rfl ?_
        refine a_bipush (pc := 39) dX12_slip_39 ib_25 ?_
        refine a_iload_n (pc := 41) dX12_slip_41 rfl rfl ?_
        refine a_imulN (pc := 42) dX12_slip_42 ?_
        refine a_iload_n (pc := 43) dX12_slip_43 rfl rfl ?_
        refine a_iaddN (pc := 44) dX12_slip_44 ?_
        refine a_iaload (pc := 45) dX12_slip_45 (m_a15 hm) (_) (rfl) (by omega) (by omega) ?_
        refine a_istore (pc := 46) dX12_slip_46 (by decide) rfl ?_
        refine a_aload_n (pc := 48) dX12_slip_48 rfl rfl ?_
        refine a_getfield (pc := 49) kg_X12_51 dX12_slip_49 (m_obj hm) rfl ?_
        refine a_iload_n (pc := 52) dX12_slip_52 rfl rfl ?_
        refine a_dup2 (pc := 53) dX12_slip_53 rfl rfl ?_
        refine a_iaload (pc := 54) dX12_slip_54 (m_a17 hm) (_) (rfl) (by omega) (by omega) ?_
        refine a_aload_n (pc := 55) dX12_slip_55 rfl rfl ?_
        refine a_iload_n (pc := 56) dX12_slip_56 rfl rfl ?_
        refine a_iload_n (pc := 57) dX12_slip_57 rfl rfl ?_
        refine a_callV (pc := 58) km_X12_171 dX12_slip_58 (f_isHit hm hr16 (by omega)) rfl rfl (krecv_of (ci := 12) rfl (m_obj hm)) (rok_of hM (by decide) (by decide) (by omega) (by omega)) (Nat.le_of_ble_eq_true rfl) (fun r58 h58 hp58 => ?_)
        obtain ⟨rfl, rfl⟩ := hp58
        refine a_if_eqB (pc := 61) (tgt := 68) dX12_slip_61 (by decide) (fun c61 => ?_) (fun c61 => ?_)
        · have ch : ¬ s.2.1 14 (25 * r + q) = s.2.1 15 (25 * r + q) := of_decide_eq_false c61
          have v1 : nI 0 = (if s.2.1 14 (25 * r + q) = s.2.1 15 (25 * r + q) then nI 1 else nI 0) := (if_neg ch).symm
          refine a_iconst (pc := 68) dX12_slip_68 ic_0 ?_
          refine a_topi v1 ?_
          refine a_isub (pc := 69) dX12_slip_69 ?_
          refine a_iastore (pc := 70) dX12_slip_70 (m_a17 hm) (_) (rfl) (by omega) (by omega) ?_
          refine a_hp (m_p17 hm) ?_
          refine a_aload_n (pc := 71) dX12_slip_71 rfl rfl ?_
          refine a_getfield (pc := 72) kg_X12_45 dX12_slip_72 (m_obj hm) rfl ?_
          refine a_bipush (pc := 75) dX12_slip_75 ib_25 ?_
          refine a_iload_n (pc := 77) dX12_slip_77 rfl rfl ?_
          refine a_imulN (pc := 78) dX12_slip_78 ?_
          refine a_iload_n (pc := 79) dX12_slip_79 rfl rfl ?_
          refine a_iaddN (pc := 80) dX12_slip_80 ?_
          refine a_iload_n (pc := 81) dX12_slip_81 rfl rfl ?_
          refine a_iastore (pc := 82) dX12_slip_82 (m_a15 hm) (_) (rfl) (by omega) (by omega) ?_
          refine a_hp (m_p15 hm) ?_
          refine a_aload_n (pc := 83) dX12_slip_83 rfl rfl ?_
          refine a_getfield (pc := 84) kg_X12_51 dX12_slip_84 (m_obj hm) rfl ?_
          refine a_iload_n (pc := 87) dX12_slip_87 rfl rfl ?_
          refine a_dup2 (pc := 88) dX12_slip_88 rfl rfl ?_
          refine a_iaload (pc := 89) dX12_slip_89 (m_a17 hm) (_) (rfl) (by omega) (by omega) ?_
          refine a_aload_n (pc := 90) dX12_slip_90 rfl rfl ?_
          refine a_iload_n (pc := 91) dX12_slip_91 rfl rfl ?_
          refine a_iload_n (pc := 92) dX12_slip_92 rfl rfl ?_
          refine a_callV (pc := 93) km_X12_171 dX12_slip_93 (f_isHit hm hr16 (by omega)) rfl rfl (krecv_of (ci := 12) rfl (m_obj hm)) (rok_of hM (by decide) (by decide) (by omega) (by omega)) (Nat.le_of_ble_eq_true rfl) (fun r93 h93 hp93 => ?_)
          obtain ⟨rfl, rfl⟩ := hp93
          refine a_if_eqB (pc := 96) (tgt := 103) dX12_slip_96 (by decide) (fun c96 => ?_) (fun c96 => ?_)
          · have ch2 : ¬ s.2.1 14 (25 * r + q) = g := fun z => of_decide_eq_false c96 (z.trans pk_us.symm)
            have v2 : nI 0 = (if s.2.1 14 (25 * r + q) = g then nI 1 else nI 0) := (if_neg ch2).symm
            refine a_iconst (pc := 103) dX12_slip_103 ic_0 ?_
            refine a_topi v2 ?_
            refine a_2nd (show _ = s.2.1 17 r - (if s.2.1 14 (25 * r + q) = s.2.1 15 (25 * r + q) then nI 1 else nI 0) from pk_us) ?_
            refine a_iadd (pc := 104) dX12_slip_104 ?_
            refine a_iastore (pc := 105) dX12_slip_105 (m_a17 hm) (_) (rfl) (by omega) (by omega) ?_
            refine a_hp (m_p17 hm) ?_
            refine a_hp (show _ = mh m (sa (sa s 15 (upd (s.2.1 15) (25 * r + q) g)) 17 (upd (s.2.1 17) r (s.2.1 17 r - (if s.2.1 14 (25 * r + q) = s.2.1 15 (25 * r + q) then nI 1 else nI 0) + (if s.2.1 14 (25 * r + q) = g then nI 1 else nI 0)))) h0 from congrArg (fun t => mh m t h0) ((sa_3 (by decide)).trans (congrArg (sa _ 17) (fa_upd_twice _ _ _ _)))) ?_
            refine a_aload_n (pc := 106) dX12_slip_106 rfl rfl ?_
            refine a_getfield (pc := 107) kg_X12_48 dX12_slip_107 (m_obj hm) rfl ?_
            refine a_iload_n (pc := 110) dX12_slip_110 rfl rfl ?_
            refine a_dup2 (pc := 111) dX12_slip_111 rfl rfl ?_
            refine a_iaload (pc := 112) dX12_slip_112 (m_a16 hm) (_) (rfl) (by omega) (by omega) ?_
            refine a_iconst (pc := 113) dX12_slip_113 ic_1 ?_
            refine a_iadd (pc := 114) dX12_slip_114 ?_
            refine a_iastore (pc := 115) dX12_slip_115 (m_a16 hm) (_) (rfl) (by omega) (by omega) ?_
            refine a_hp (m_p16 hm) ?_
            refine a_iload (pc := 116) dX12_slip_116 rfl ?_
            refine a_ret_i (pc := 118) hM rfl (rfl) dX12_slip_118 (by omega) (by omega) ?_
            exact ⟨by first | simp only [R_slip, er, eq, c5, c22, c29, Bool.and_self, Bool.and_true, Bool.true_and, Bool.and_false, Bool.false_and, Bool.false_eq_true, Nat.add_sub_cancel, reduceIte] | simp only [R_slip, er, c5, c22, c29, Bool.and_self, Bool.and_true, Bool.true_and, Bool.and_false, Bool.false_and, Bool.false_eq_true, Nat.add_sub_cancel, reduceIte] | simp only [R_slip, c5, c22, c29, Bool.and_self, Bool.and_true, Bool.true_and, Bool.and_false, Bool.false_and, Bool.false_eq_true, Nat.add_sub_cancel, reduceIte], _, rfl, by first | (simp only [R_slip, er, eq, c5, c22, c29, Bool.and_self, Bool.and_true, Bool.true_and, Bool.and_false, Bool.false_and, Bool.false_eq_true, Nat.add_sub_cancel, reduceIte]; exact SP.rfl) | (simp only [R_slip, er, c5, c22, c29, Bool.and_self, Bool.and_true, Bool.true_and, Bool.and_false, Bool.false_and, Bool.false_eq_true, Nat.add_sub_cancel, reduceIte]; exact SP.rfl) | (simp only [R_slip, c5, c22, c29, Bool.and_self, Bool.and_true, Bool.true_and, Bool.and_false, Bool.false_and, Bool.false_eq_true, Nat.add_sub_cancel, reduceIte]; exact SP.rfl)⟩
          · have ch2 : s.2.1 14 (25 * r + q) = g := (of_decide_eq_true c96).trans pk_us
            have v2 : nI 1 = (if s.2.1 14 (25 * r + q) = g then nI 1 else nI 0) := (if_pos ch2).symm
            refine a_iconst (pc := 99) dX12_slip_99 ic_1 ?_
            refine a_goto (pc := 100) (tgt := 104) dX12_slip_100 (by decide) ?_
            refine a_topi v2 ?_
            refine a_2nd (show _ = s.2.1 17 r - (if s.2.1 14 (25 * r + q) = s.2.1 15 (25 * r + q) then nI 1 else nI 0) from pk_us) ?_
            refine a_iadd (pc := 104) dX12_slip_104 ?_
            refine a_iastore (pc := 105) dX12_slip_105 (m_a17 hm) (_) (rfl) (by omega) (by omega) ?_
            refine a_hp (m_p17 hm) ?_
            refine a_hp (show _ = mh m (sa (sa s 15 (upd (s.2.1 15) (25 * r + q) g)) 17 (upd (s.2.1 17) r (s.2.1 17 r - (if s.2.1 14 (25 * r + q) = s.2.1 15 (25 * r + q) then nI 1 else nI 0) + (if s.2.1 14 (25 * r + q) = g then nI 1 else nI 0)))) h0 from congrArg (fun t => mh m t h0) ((sa_3 (by decide)).trans (congrArg (sa _ 17) (fa_upd_twice _ _ _ _)))) ?_
            refine a_aload_n (pc := 106) dX12_slip_106 rfl rfl ?_
            refine a_getfield (pc := 107) kg_X12_48 dX12_slip_107 (m_obj hm) rfl ?_
            refine a_iload_n (pc := 110) dX12_slip_110 rfl rfl ?_
            refine a_dup2 (pc := 111) dX12_slip_111 rfl rfl ?_
            refine a_iaload (pc := 112) dX12_slip_112 (m_a16 hm) (_) (rfl) (by omega) (by omega) ?_
            refine a_iconst (pc := 113) dX12_slip_113 ic_1 ?_
            refine a_iadd (pc := 114) dX12_slip_114 ?_
            refine a_iastore (pc := 115) dX12_slip_115 (m_a16 hm) (_) (rfl) (by omega) (by omega) ?_
            refine a_hp (m_p16 hm) ?_
            refine a_iload (pc := 116) dX12_slip_116 rfl ?_
            refine a_ret_i (pc := 118) hM rfl (rfl) dX12_slip_118 (by omega) (by omega) ?_
            exact ⟨by first | simp only [R_slip, er, eq, c5, c22, c29, Bool.and_self, Bool.and_true, Bool.true_and, Bool.and_false, Bool.false_and, Bool.false_eq_true, Nat.add_sub_cancel, reduceIte] | simp only [R_slip, er, c5, c22, c29, Bool.and_self, Bool.and_true, Bool.true_and, Bool.and_false, Bool.false_and, Bool.false_eq_true, Nat.add_sub_cancel, reduceIte] | simp only [R_slip, c5, c22, c29, Bool.and_self, Bool.and_true, Bool.true_and, Bool.and_false, Bool.false_and, Bool.false_eq_true, Nat.add_sub_cancel, reduceIte], _, rfl, by first | (simp only [R_slip, er, eq, c5, c22, c29, Bool.and_self, Bool.and_true, Bool.true_and, Bool.and_false, Bool.false_and, Bool.false_eq_true, Nat.add_sub_cancel, reduceIte]; exact SP.rfl) | (simp only [R_slip, er, c5, c22, c29, Bool.and_self, Bool.and_true, Bool.true_and, Bool.and_false, Bool.false_and, Bool.false_eq_true, Nat.add_sub_cancel, reduceIte]; exact SP.rfl) | (simp only [R_slip, c5, c22, c29, Bool.and_self, Bool.and_true, Bool.true_and, Bool.and_false, Bool.false_and, Bool.false_eq_true, Nat.add_sub_cancel, reduceIte]; exact SP.rfl)⟩
        · have ch : s.2.1 14 (25 * r + q) = s.2.1 15 (25 * r + q) := of_decide_eq_true c61
          have v1 : nI 1 = (if s.2.1 14 (25 * r + q) = s.2.1 15 (25 * r + q) then nI 1 else nI 0) := (if_pos ch).symm
          refine a_iconst (pc := 64) dX12_slip_64 ic_1 ?_
          refine a_goto (pc := 65) (tgt := 69) dX12_slip_65 (by decide) ?_
          refine a_topi v1 ?_
          refine a_isub (pc := 69) dX12_slip_69 ?_
          refine a_iastore (pc := 70) dX12_slip_70 (m_a17 hm) (_) (rfl) (by omega) (by omega) ?_
          refine a_hp (m_p17 hm) ?_
          refine a_aload_n (pc := 71) dX12_slip_71 rfl rfl ?_
          refine a_getfield (pc := 72) kg_X12_45 dX12_slip_72 (m_obj hm) rfl ?_
          refine a_bipush (pc := 75) dX12_slip_75 ib_25 ?_
          refine a_iload_n (pc := 77) dX12_slip_77 rfl rfl ?_
          refine a_imulN (pc := 78) dX12_slip_78 ?_
          refine a_iload_n (pc := 79) dX12_slip_79 rfl rfl ?_
          refine a_iaddN (pc := 80) dX12_slip_80 ?_
          refine a_iload_n (pc := 81) dX12_slip_81 rfl rfl ?_
          refine a_iastore (pc := 82) dX12_slip_82 (m_a15 hm) (_) (rfl) (by omega) (by omega) ?_
          refine a_hp (m_p15 hm) ?_
          refine a_aload_n (pc := 83) dX12_slip_83 rfl rfl ?_
          refine a_getfield (pc := 84) kg_X12_51 dX12_slip_84 (m_obj hm) rfl ?_
          refine a_iload_n (pc := 87) dX12_slip_87 rfl rfl ?_
          refine a_dup2 (pc := 88) dX12_slip_88 rfl rfl ?_
          refine a_iaload (pc := 89) dX12_slip_89 (m_a17 hm) (_) (rfl) (by omega) (by omega) ?_
          refine a_aload_n (pc := 90) dX12_slip_90 rfl rfl ?_
          refine a_iload_n (pc := 91) dX12_slip_91 rfl rfl ?_
          refine a_iload_n (pc := 92) dX12_slip_92 rfl rfl ?_
          refine a_callV (pc := 93) km_X12_171 dX12_slip_93 (f_isHit hm hr16 (by omega)) rfl rfl (krecv_of (ci := 12) rfl (m_obj hm)) (rok_of hM (by decide) (by decide) (by omega) (by omega)) (Nat.le_of_ble_eq_true rfl) (fun r93 h93 hp93 => ?_)
          obtain ⟨rfl, rfl⟩ := hp93
          refine a_if_eqB (pc := 96) (tgt := 103) dX12_slip_96 (by decide) (fun c96 => ?_) (fun c96 => ?_)
          · have ch2 : ¬ s.2.1 14 (25 * r + q) = g := fun z => of_decide_eq_false c96 (z.trans pk_us.symm)
            have v2 : nI 0 = (if s.2.1 14 (25 * r + q) = g then nI 1 else nI 0) := (if_neg ch2).symm
            refine a_iconst (pc := 103) dX12_slip_103 ic_0 ?_
            refine a_topi v2 ?_
            refine a_2nd (show _ = s.2.1 17 r - (if s.2.1 14 (25 * r + q) = s.2.1 15 (25 * r + q) then nI 1 else nI 0) from pk_us) ?_
            refine a_iadd (pc := 104) dX12_slip_104 ?_
            refine a_iastore (pc := 105) dX12_slip_105 (m_a17 hm) (_) (rfl) (by omega) (by omega) ?_
            refine a_hp (m_p17 hm) ?_
            refine a_hp (show _ = mh m (sa (sa s 15 (upd (s.2.1 15) (25 * r + q) g)) 17 (upd (s.2.1 17) r (s.2.1 17 r - (if s.2.1 14 (25 * r + q) = s.2.1 15 (25 * r + q) then nI 1 else nI 0) + (if s.2.1 14 (25 * r + q) = g then nI 1 else nI 0)))) h0 from congrArg (fun t => mh m t h0) ((sa_3 (by decide)).trans (congrArg (sa _ 17) (fa_upd_twice _ _ _ _)))) ?_
            refine a_aload_n (pc := 106) dX12_slip_106 rfl rfl ?_
            refine a_getfield (pc := 107) kg_X12_48 dX12_slip_107 (m_obj hm) rfl ?_
            refine a_iload_n (pc := 110) dX12_slip_110 rfl rfl ?_
            refine a_dup2 (pc := 111) dX12_slip_111 rfl rfl ?_
            refine a_iaload (pc := 112) dX12_slip_112 (m_a16 hm) (_) (rfl) (by omega) (by omega) ?_
            refine a_iconst (pc := 113) dX12_slip_113 ic_1 ?_
            refine a_iadd (pc := 114) dX12_slip_114 ?_
            refine a_iastore (pc := 115) dX12_slip_115 (m_a16 hm) (_) (rfl) (by omega) (by omega) ?_
            refine a_hp (m_p16 hm) ?_
            refine a_iload (pc := 116) dX12_slip_116 rfl ?_
            refine a_ret_i (pc := 118) hM rfl (rfl) dX12_slip_118 (by omega) (by omega) ?_
            exact ⟨by first | simp only [R_slip, er, eq, c5, c22, c29, Bool.and_self, Bool.and_true, Bool.true_and, Bool.and_false, Bool.false_and, Bool.false_eq_true, Nat.add_sub_cancel, reduceIte] | simp only [R_slip, er, c5, c22, c29, Bool.and_self, Bool.and_true, Bool.true_and, Bool.and_false, Bool.false_and, Bool.false_eq_true, Nat.add_sub_cancel, reduceIte] | simp only [R_slip, c5, c22, c29, Bool.and_self, Bool.and_true, Bool.true_and, Bool.and_false, Bool.false_and, Bool.false_eq_true, Nat.add_sub_cancel, reduceIte], _, rfl, by first | (simp only [R_slip, er, eq, c5, c22, c29, Bool.and_self, Bool.and_true, Bool.true_and, Bool.and_false, Bool.false_and, Bool.false_eq_true, Nat.add_sub_cancel, reduceIte]; exact SP.rfl) | (simp only [R_slip, er, c5, c22, c29, Bool.and_self, Bool.and_true, Bool.true_and, Bool.and_false, Bool.false_and, Bool.false_eq_true, Nat.add_sub_cancel, reduceIte]; exact SP.rfl) | (simp only [R_slip, c5, c22, c29, Bool.and_self, Bool.and_true, Bool.true_and, Bool.and_false, Bool.false_and, Bool.false_eq_true, Nat.add_sub_cancel, reduceIte]; exact SP.rfl)⟩
          · have ch2 : s.2.1 14 (25 * r + q) = g := (of_decide_eq_true c96).trans pk_us
            have v2 : nI 1 = (if s.2.1 14 (25 * r + q) = g then nI 1 else nI 0) := (if_pos ch2).symm
            refine a_iconst (pc := 99) dX12_slip_99 ic_1 ?_
            refine a_goto (pc := 100) (tgt := 104) dX12_slip_100 (by decide) ?_
            refine a_topi v2 ?_
            refine a_2nd (show _ = s.2.1 17 r - (if s.2.1 14 (25 * r + q) = s.2.1 15 (25 * r + q) then nI 1 else nI 0) from pk_us) ?_
            refine a_iadd (pc := 104) dX12_slip_104 ?_
            refine a_iastore (pc := 105) dX12_slip_105 (m_a17 hm) (_) (rfl) (by omega) (by omega) ?_
            refine a_hp (m_p17 hm) ?_
            refine a_hp (show _ = mh m (sa (sa s 15 (upd (s.2.1 15) (25 * r + q) g)) 17 (upd (s.2.1 17) r (s.2.1 17 r - (if s.2.1 14 (25 * r + q) = s.2.1 15 (25 * r + q) then nI 1 else nI 0) + (if s.2.1 14 (25 * r + q) = g then nI 1 else nI 0)))) h0 from congrArg (fun t => mh m t h0) ((sa_3 (by decide)).trans (congrArg (sa _ 17) (fa_upd_twice _ _ _ _)))) ?_
            refine a_aload_n (pc := 106) dX12_slip_106 rfl rfl ?_
            refine a_getfield (pc := 107) kg_X12_48 dX12_slip_107 (m_obj hm) rfl ?_
            refine a_iload_n (pc := 110) dX12_slip_110 rfl rfl ?_
            refine a_dup2 (pc := 111) dX12_slip_111 rfl rfl ?_
            refine a_iaload (pc := 112) dX12_slip_112 (m_a16 hm) (_) (rfl) (by omega) (by omega) ?_
            refine a_iconst (pc := 113) dX12_slip_113 ic_1 ?_
            refine a_iadd (pc := 114) dX12_slip_114 ?_
            refine a_iastore (pc := 115) dX12_slip_115 (m_a16 hm) (_) (rfl) (by omega) (by omega) ?_
            refine a_hp (m_p16 hm) ?_
            refine a_iload (pc := 116) dX12_slip_116 rfl ?_
            refine a_ret_i (pc := 118) hM rfl (rfl) dX12_slip_118 (by omega) (by omega) ?_
            exact ⟨by first | simp only [R_slip, er, eq, c5, c22, c29, Bool.and_self, Bool.and_true, Bool.true_and, Bool.and_false, Bool.false_and, Bool.false_eq_true, Nat.add_sub_cancel, reduceIte] | simp only [R_slip, er, c5, c22, c29, Bool.and_self, Bool.and_true, Bool.true_and, Bool.and_false, Bool.false_and, Bool.false_eq_true, Nat.add_sub_cancel, reduceIte] | simp only [R_slip, c5, c22, c29, Bool.and_self, Bool.and_true, Bool.true_and, Bool.and_false, Bool.false_and, Bool.false_eq_true, Nat.add_sub_cancel, reduceIte], _, rfl, by first | (simp only [R_slip, er, eq, c5, c22, c29, Bool.and_self, Bool.and_true, Bool.true_and, Bool.and_false, Bool.false_and, Bool.false_eq_true, Nat.add_sub_cancel, reduceIte]; exact SP.rfl) | (simp only [R_slip, er, c5, c22, c29, Bool.and_self, Bool.and_true, Bool.true_and, Bool.and_false, Bool.false_and, Bool.false_eq_true, Nat.add_sub_cancel, reduceIte]; exact SP.rfl) | (simp only [R_slip, c5, c22, c29, Bool.and_self, Bool.and_true, Bool.true_and, Bool.and_false, Bool.false_and, Bool.false_eq_true, Nat.add_sub_cancel, reduceIte]; exact SP.rfl)⟩
      · refine a_bipush (pc := 32) dX12_slip_32 ib_m2 ?_
        refine a_ret_i (pc := 34) hM rfl (rfl) dX12_slip_34 (by omega) (by omega) ?_
        exact ⟨by first | simp only [R_slip, er, eq, c5, c22, c29, Bool.and_self, Bool.and_true, Bool.true_and, Bool.and_false, Bool.false_and, Bool.false_eq_true, Nat.add_sub_cancel, reduceIte] | simp only [R_slip, er, c5, c22, c29, Bool.and_self, Bool.and_true, Bool.true_and, Bool.and_false, Bool.false_and, Bool.false_eq_true, Nat.add_sub_cancel, reduceIte] | simp only [R_slip, c5, c22, c29, Bool.and_self, Bool.and_true, Bool.true_and, Bool.and_false, Bool.false_and, Bool.false_eq_true, Nat.add_sub_cancel, reduceIte], _, rfl, by first | (simp only [R_slip, er, eq, c5, c22, c29, Bool.and_self, Bool.and_true, Bool.true_and, Bool.and_false, Bool.false_and, Bool.false_eq_true, Nat.add_sub_cancel, reduceIte]; exact SP.rfl) | (simp only [R_slip, er, c5, c22, c29, Bool.and_self, Bool.and_true, Bool.true_and, Bool.and_false, Bool.false_and, Bool.false_eq_true, Nat.add_sub_cancel, reduceIte]; exact SP.rfl) | (simp only [R_slip, c5, c22, c29, Bool.and_self, Bool.and_true, Bool.true_and, Bool.and_false, Bool.false_and, Bool.false_eq_true, Nat.add_sub_cancel, reduceIte]; exact SP.rfl)⟩

def mixO (off : Nat) (f : Nat → Int32) : Nat → Nat → (Nat → Int32)
  | 0, _ => f
  | i + 1, lot => mixO off (upd (upd f (off + (i + 1)) (f (off + lot * 48271 % 2147483647 % (i + 1 + 1)))) (off + lot * 48271 % 2147483647 % (i + 1 + 1)) (f (off + (i + 1)))) i (lot * 48271 % 2147483647)
theorem mixO_0 {off : Nat} {f : Nat → Int32} {lot : Nat} : mixO off f 0 lot = f := by unfold mixO; rfl
theorem mixO_s {off i lot : Nat} {f : Nat → Int32} : mixO off f (i + 1) lot = mixO off (upd (upd f (off + (i + 1)) (f (off + lot * 48271 % 2147483647 % (i + 1 + 1)))) (off + lot * 48271 % 2147483647 % (i + 1 + 1)) (f (off + (i + 1)))) i (lot * 48271 % 2147483647) := by conv => lhs; unfold mixO
set_option maxRecDepth 4000 in
theorem f_mixes (hm : MI m) {r n sd : Nat} (hr : r < 16) (hz : Rz s r n) (hn1 : 1 ≤ n) (hsd : sd ≤ 1000000) : Fn X 1 0 0 yX12_mixes cX12_mixes 8 none [.ref (m 65), .int (nI r), .int (nI sd)] (mh m s h0) (fun rv hv => rv = none ∧ hv = mh m (sa s 14 (mixO (25 * r) (s.2.1 14) (n - 1) (sd + 1))) h0) := by
  refine fn_of (by decide) (Nat.le_of_ble_eq_true rfl) (fun M hM => ?_)
  have hle : n ≤ 25 := hz.choose_spec.2.2.2
  have loop : ∀ i : Nat, i < n → ∀ (f : Nat → Int32) (lot : Nat), lot < 2147483648 → ∀ M : MX, MSp X M 1 0 0 (fun rv hv => rv = none ∧ hv = mh m (sa s 14 (mixO (25 * r) f i lot)) h0) → AJ X M yX12_mixes cX12_mixes 8 none 14 [(0, .ref (m 65)), (1, .int (nI r)), (3, .long (lN lot)), (5, .int (nI i))] [] (mh m (sa s 14 f) h0) 0 0 := by
    intro i
    induction i with
    | zero =>
      intro hi f lot hlot M hM
      refine a_iload (pc := 14) dX12_mixes_14 rfl ?_
      refine a_if_leN (pc := 16) (tgt := 92) dX12_mixes_16 (by decide) (by omega) (fun c16 => ?_) (fun c16 => ?_)
      · refine a_ret_v (pc := 92) hM rfl dX12_mixes_92 (by omega) (by omega) ?_
        exact ⟨rfl, by rw [mixO_0]⟩
      · exact absurd c16 (by omega)
    | succ i ih =>
      intro hi f lot hlot M hM
      refine a_iload (pc := 14) dX12_mixes_14 rfl ?_
      refine a_if_leN (pc := 16) (tgt := 92) dX12_mixes_16 (by decide) (by omega) (fun c16 => ?_) (fun c16 => ?_)
      · exact absurd c16 (by omega)
      · have hl2 : lot * 48271 % 2147483647 < 2147483647 := Nat.mod_lt _ (by omega)
        have ho : lot * 48271 % 2147483647 % (i + 1 + 1) < i + 1 + 1 := Nat.mod_lt _ (by omega)
        refine a_lload_n (pc := 19) dX12_mixes_19 rfl rfl ?_
        refine a_ldc2 (pc := 20) kc_X12_175 dX12_mixes_20 ?_
        refine a_topl (z := lN 48271) rfl ?_
        refine a_lmulN (pc := 23) dX12_mixes_23 ?_
        refine a_ldc2 (pc := 24) kc_X12_177 dX12_mixes_24 ?_
        refine a_topl (z := lN 2147483647) rfl ?_
        refine a_lremN (pc := 27) dX12_mixes_27 (by omega) (by omega) (by omega) ?_
        refine a_lstore_n (pc := 28) dX12_mixes_28 rfl (by decide) rfl ?_
        refine a_bipush (pc := 29) dX12_mixes_29 ib_25 ?_
        refine a_iload_n (pc := 31) dX12_mixes_31 rfl rfl ?_
        refine a_imulN (pc := 32) dX12_mixes_32 ?_
        refine a_lload_n (pc := 33) dX12_mixes_33 rfl rfl ?_
        refine a_iload (pc := 34) dX12_mixes_34 rfl ?_
        refine a_iconst (pc := 36) dX12_mixes_36 ic_1 ?_
        refine a_iaddN (pc := 37) dX12_mixes_37 ?_
        refine a_i2lN (pc := 38) dX12_mixes_38 (by omega) ?_
        refine a_lremN (pc := 39) dX12_mixes_39 (by omega) (by omega) (by omega) ?_
        refine a_l2iN (pc := 40) dX12_mixes_40 ?_
        refine a_iaddN (pc := 41) dX12_mixes_41 ?_
        refine a_istore (pc := 42) dX12_mixes_42 (by decide) rfl ?_
        refine a_aload_n (pc := 44) dX12_mixes_44 rfl rfl ?_
        refine a_getfield (pc := 45) kg_X12_42 dX12_mixes_45 (m_obj hm) rfl ?_
        refine a_bipush (pc := 48) dX12_mixes_48 ib_25 ?_
        refine a_iload_n (pc := 50) dX12_mixes_50 rfl rfl ?_
        refine a_imulN (pc := 51) dX12_mixes_51 ?_
        refine a_iload (pc := 52) dX12_mixes_52 rfl ?_
        refine a_iaddN (pc := 54) dX12_mixes_54 ?_
        refine a_iaload (pc := 55) dX12_mixes_55 (m_a14 hm) (_) (rfl) (by omega) (by omega) ?_
        refine a_istore (pc := 56) dX12_mixes_56 (by decide) rfl ?_
        refine a_aload_n (pc := 58) dX12_mixes_58 rfl rfl ?_
        refine a_getfield (pc := 59) kg_X12_42 dX12_mixes_59 (m_obj hm) rfl ?_
        refine a_bipush (pc := 62) dX12_mixes_62 ib_25 ?_
        refine a_iload_n (pc := 64) dX12_mixes_64 rfl rfl ?_
        refine a_imulN (pc := 65) dX12_mixes_65 ?_
        refine a_iload (pc := 66) dX12_mixes_66 rfl ?_
        refine a_iaddN (pc := 68) dX12_mixes_68 ?_
        refine a_aload_n (pc := 69) dX12_mixes_69 rfl rfl ?_
        refine a_getfield (pc := 70) kg_X12_42 dX12_mixes_70 (m_obj hm) rfl ?_
        refine a_iload (pc := 73) dX12_mixes_73 rfl ?_
        refine a_iaload (pc := 75) dX12_mixes_75 (m_a14 hm) (_) (rfl) (by omega) (by omega) ?_
        refine a_iastore (pc := 76) dX12_mixes_76 (m_a14 hm) (_) (rfl) (by omega) (by omega) ?_
        refine a_hp (m_p14 hm) ?_
        refine a_hp (show _ = mh m (sa s 14 (upd f (25 * r + (i + 1)) (f (25 * r + lot * 48271 % 2147483647 % (i + 1 + 1))))) h0 from congrArg (fun t => mh m t h0) (sa_sa)) ?_
        refine a_aload_n (pc := 77) dX12_mixes_77 rfl rfl ?_
        refine a_getfield (pc := 78) kg_X12_42 dX12_mixes_78 (m_obj hm) rfl ?_
        refine a_iload (pc := 81) dX12_mixes_81 rfl ?_
        refine a_iload (pc := 83) dX12_mixes_83 rfl ?_
        refine a_iastore (pc := 85) dX12_mixes_85 (m_a14 hm) (_) (rfl) (by omega) (by omega) ?_
        refine a_hp (m_p14 hm) ?_
        refine a_hp (show _ = mh m (sa s 14 (upd (upd f (25 * r + (i + 1)) (f (25 * r + lot * 48271 % 2147483647 % (i + 1 + 1)))) (25 * r + lot * 48271 % 2147483647 % (i + 1 + 1)) (f (25 * r + (i + 1))))) h0 from congrArg (fun t => mh m t h0) (sa_sa)) ?_
        refine a_iinc (pc := 86) dX12_mixes_86 rfl (pk_m1 _) (by decide) rfl ?_
        refine a_goto (pc := 89) (tgt := 14) dX12_mixes_89 (by decide) ?_
        rw [mixO_s] at hM
        exact a_locR (ih (by omega) (upd (upd f (25 * r + (i + 1)) (f (25 * r + lot * 48271 % 2147483647 % (i + 1 + 1)))) (25 * r + lot * 48271 % 2147483647 % (i + 1 + 1)) (f (25 * r + (i + 1)))) (lot * 48271 % 2147483647) (by omega) M hM) ⟨rfl, rfl, rfl, rfl, trivial⟩
  refine a_iload_n (pc := 0) dX12_mixes_0 rfl rfl ?_
  refine a_i2lN (pc := 1) dX12_mixes_1 (by omega) ?_
  refine a_lconst (pc := 2) (v := lN 1) dX12_mixes_2 rfl ?_
  refine a_laddN (pc := 3) dX12_mixes_3 ?_
  refine a_lstore_n (pc := 4) dX12_mixes_4 rfl (by decide) rfl ?_
  refine a_aload_n (pc := 5) dX12_mixes_5 rfl rfl ?_
  refine a_iload_n (pc := 6) dX12_mixes_6 rfl rfl ?_
  refine a_callV (pc := 7) km_X12_161 dX12_mixes_7 (f_sizeOf hm hr hz) rfl rfl (krecv_of (ci := 12) rfl (m_obj hm)) (rok_of hM (by decide) (by decide) (by omega) (by omega)) (Nat.le_of_ble_eq_true rfl) (fun r7 h7 hp7 => ?_)
  obtain ⟨rfl, rfl⟩ := hp7
  refine a_iconst (pc := 10) dX12_mixes_10 ic_1 ?_
  refine a_isubN (pc := 11) dX12_mixes_11 (by omega) ?_
  refine a_istore (pc := 12) dX12_mixes_12 (by decide) rfl ?_
  have hs0 : mh m s h0 = mh m (sa s 14 (s.2.1 14)) h0 := by rw [sa_id]
  refine a_hp hs0 ?_
  exact a_locR (loop (n - 1) (by omega) (s.2.1 14) (sd + 1) (by omega) M hM) ⟨rfl, rfl, rfl, rfl, trivial⟩

def R_shuffle (s : MST) (x d : Int32) : Int32 × MST := if (inN x (vI s 18) && inN d 100000) = true then (nI (hitsP (sa s 14 (mixO (25 * x.toNatClampNeg) (s.2.1 14) (rsz s x.toNatClampNeg - 1) (d.toNatClampNeg + 1))) x.toNatClampNeg (rsz s x.toNatClampNeg)), sa s 14 (mixO (25 * x.toNatClampNeg) (s.2.1 14) (rsz s x.toNatClampNeg - 1) (d.toNatClampNeg + 1))) else (-2, s)
set_option maxRecDepth 4000 in
theorem f_shuffle (hm : MI m) (hV : MV s) (x d : Int32) : Fn X 2 0 0 yX12_shuffle cX12_shuffle 3 (some .int) [.ref (m 65), .int x, .int d] (mh m s h0) (fun rv hv => rv = some (.int (R_shuffle s x d).1) ∧ ∃ s' : MST, hv = mh m s' h0 ∧ SP s' (R_shuffle s x d).2) := by
  obtain ⟨⟨hn18, hb18⟩, hl18⟩ := id hV.2.1
  refine fn_of (by decide) (Nat.le_of_ble_eq_true rfl) (fun M hM => ?_)
  refine a_aload_n (pc := 0) dX12_shuffle_0 rfl rfl ?_
  refine a_iload_n (pc := 1) dX12_shuffle_1 rfl rfl ?_
  refine a_callV (pc := 2) km_X12_157 dX12_shuffle_2 (f_isRun hm hn18 (by omega) _) rfl rfl (krecv_of (ci := 12) rfl (m_obj hm)) (rok_of hM (by decide) (by decide) (by omega) (by omega)) (Nat.le_of_ble_eq_true rfl) (fun r2 h2 hp2 => ?_)
  obtain ⟨rfl, rfl⟩ := hp2
  refine a_if_eqB (pc := 5) (tgt := 20) dX12_shuffle_5 (by decide) (fun c5 => ?_) (fun c5 => ?_)
  · refine a_bipush (pc := 20) dX12_shuffle_20 ib_m2 ?_
    refine a_ret_i (pc := 22) hM rfl (rfl) dX12_shuffle_22 (by omega) (by omega) ?_
    exact ⟨by first | simp only [R_shuffle, er, esd, c5, Bool.and_self, Bool.and_true, Bool.true_and, Bool.and_false, Bool.false_and, Bool.false_eq_true, Nat.add_sub_cancel, reduceIte] | simp only [R_shuffle, er, c5, Bool.and_self, Bool.and_true, Bool.true_and, Bool.and_false, Bool.false_and, Bool.false_eq_true, Nat.add_sub_cancel, reduceIte] | simp only [R_shuffle, c5, Bool.and_self, Bool.and_true, Bool.true_and, Bool.and_false, Bool.false_and, Bool.false_eq_true, Nat.add_sub_cancel, reduceIte], _, rfl, by first | (simp only [R_shuffle, er, esd, c5, Bool.and_self, Bool.and_true, Bool.true_and, Bool.and_false, Bool.false_and, Bool.false_eq_true, Nat.add_sub_cancel, reduceIte]; exact SP.rfl) | (simp only [R_shuffle, er, c5, Bool.and_self, Bool.and_true, Bool.true_and, Bool.and_false, Bool.false_and, Bool.false_eq_true, Nat.add_sub_cancel, reduceIte]; exact SP.rfl) | (simp only [R_shuffle, c5, Bool.and_self, Bool.and_true, Bool.true_and, Bool.and_false, Bool.false_and, Bool.false_eq_true, Nat.add_sub_cancel, reduceIte]; exact SP.rfl)⟩
  · obtain ⟨r, hr, rfl⟩ := inN_of c5 (by omega)
    obtain ⟨hr16, hz, hz1, hz2⟩ := MV_run hV hr
    have er : (nI r).toNatClampNeg = r := nI_clamp (by omega)
    refine a_iload_n (pc := 8) dX12_shuffle_8 rfl rfl ?_
    refine a_i2l (pc := 9) dX12_shuffle_9 ?_
    refine a_lconst (pc := 10) (v := lN 0) dX12_shuffle_10 rfl ?_
    refine a_ldc2 (pc := 11) kc_X12_148 dX12_shuffle_11 ?_
    refine a_topl (z := lN 99999) rfl ?_
    refine a_callS (pc := 14) km_X12_142 dX12_shuffle_14 (f_in _ _ _) rfl rfl (rok_of hM (by decide) (by decide) (by omega) (by omega)) (Nat.le_of_ble_eq_true rfl) (fun r14 h14 hp14 => ?_)
    obtain ⟨rfl, rfl⟩ := hp14
    refine a_topi (congrArg bI (in_rng2 (x := d) (n := 100000) (k := 99999) (by omega) (by omega))) ?_
    refine a_if_neB (pc := 17) (tgt := 23) dX12_shuffle_17 (by decide) (fun c17 => ?_) (fun c17 => ?_)
    · obtain ⟨sd, hsd, rfl⟩ := inN_of c17 (by omega)
      have esd : (nI sd).toNatClampNeg = sd := nI_clamp (by omega)
      refine a_aload_n (pc := 23) dX12_shuffle_23 rfl rfl ?_
      refine a_iload_n (pc := 24) dX12_shuffle_24 rfl rfl ?_
      refine a_iload_n (pc := 25) dX12_shuffle_25 rfl rfl ?_
      refine a_callV (pc := 26) km_X12_179 dX12_shuffle_26 (f_mixes hm hr16 hz hz1 (by omega)) rfl rfl (krecv_of (ci := 12) rfl (m_obj hm)) (rok_of hM (by decide) (by decide) (by omega) (by omega)) (Nat.le_of_ble_eq_true rfl) (fun r26 h26 hp26 => ?_)
      obtain ⟨rfl, rfl⟩ := hp26
      refine a_aload_n (pc := 29) dX12_shuffle_29 rfl rfl ?_
      refine a_iload_n (pc := 30) dX12_shuffle_30 rfl rfl ?_
      refine a_callV (pc := 31) km_X12_183 dX12_shuffle_31 (f_hitsOf hm hr16 hz) rfl rfl (krecv_of (ci := 12) rfl (m_obj hm)) (rok_of hM (by decide) (by decide) (by omega) (by omega)) (Nat.le_of_ble_eq_true rfl) (fun r31 h31 hp31 => ?_)
      obtain ⟨rfl, rfl⟩ := hp31
      refine a_ret_i (pc := 34) hM rfl (rfl) dX12_shuffle_34 (by omega) (by omega) ?_
      exact ⟨by first | simp only [R_shuffle, er, esd, c5, c17, Bool.and_self, Bool.and_true, Bool.true_and, Bool.and_false, Bool.false_and, Bool.false_eq_true, Nat.add_sub_cancel, reduceIte] | simp only [R_shuffle, er, c5, c17, Bool.and_self, Bool.and_true, Bool.true_and, Bool.and_false, Bool.false_and, Bool.false_eq_true, Nat.add_sub_cancel, reduceIte] | simp only [R_shuffle, c5, c17, Bool.and_self, Bool.and_true, Bool.true_and, Bool.and_false, Bool.false_and, Bool.false_eq_true, Nat.add_sub_cancel, reduceIte], _, rfl, by first | (simp only [R_shuffle, er, esd, c5, c17, Bool.and_self, Bool.and_true, Bool.true_and, Bool.and_false, Bool.false_and, Bool.false_eq_true, Nat.add_sub_cancel, reduceIte]; exact SP.rfl) | (simp only [R_shuffle, er, c5, c17, Bool.and_self, Bool.and_true, Bool.true_and, Bool.and_false, Bool.false_and, Bool.false_eq_true, Nat.add_sub_cancel, reduceIte]; exact SP.rfl) | (simp only [R_shuffle, c5, c17, Bool.and_self, Bool.and_true, Bool.true_and, Bool.and_false, Bool.false_and, Bool.false_eq_true, Nat.add_sub_cancel, reduceIte]; exact SP.rfl)⟩
    · refine a_bipush (pc := 20) dX12_shuffle_20 ib_m2 ?_
      refine a_ret_i (pc := 22) hM rfl (rfl) dX12_shuffle_22 (by omega) (by omega) ?_
      exact ⟨by first | simp only [R_shuffle, er, esd, c5, c17, Bool.and_self, Bool.and_true, Bool.true_and, Bool.and_false, Bool.false_and, Bool.false_eq_true, Nat.add_sub_cancel, reduceIte] | simp only [R_shuffle, er, c5, c17, Bool.and_self, Bool.and_true, Bool.true_and, Bool.and_false, Bool.false_and, Bool.false_eq_true, Nat.add_sub_cancel, reduceIte] | simp only [R_shuffle, c5, c17, Bool.and_self, Bool.and_true, Bool.true_and, Bool.and_false, Bool.false_and, Bool.false_eq_true, Nat.add_sub_cancel, reduceIte], _, rfl, by first | (simp only [R_shuffle, er, esd, c5, c17, Bool.and_self, Bool.and_true, Bool.true_and, Bool.and_false, Bool.false_and, Bool.false_eq_true, Nat.add_sub_cancel, reduceIte]; exact SP.rfl) | (simp only [R_shuffle, er, c5, c17, Bool.and_self, Bool.and_true, Bool.true_and, Bool.and_false, Bool.false_and, Bool.false_eq_true, Nat.add_sub_cancel, reduceIte]; exact SP.rfl) | (simp only [R_shuffle, c5, c17, Bool.and_self, Bool.and_true, Bool.true_and, Bool.and_false, Bool.false_and, Bool.false_eq_true, Nat.add_sub_cancel, reduceIte]; exact SP.rfl)⟩

def fillO {α : Type} (f g : Nat → α) (off i : Nat) : Nat → α := fun j => if off ≤ j ∧ j < off + i then f (j - off) else g j
theorem fillO_0 {α : Type} {f g : Nat → α} {off : Nat} : fillO f g off 0 = g := by
  funext j
  exact if_neg (by omega)
theorem fillO_s {f g : Nat → Int32} {off i : Nat} : upd (fillO f g off i) (off + i) (f i) = fillO f g off (i + 1) := by
  funext j
  by_cases h : j = off + i
  · subst h
    rw [pk_us]
    exact ((if_pos ⟨by omega, by omega⟩).trans (by rw [Nat.add_sub_cancel_left])).symm
  · rw [pk_un h]
    unfold fillO
    by_cases h2 : off ≤ j ∧ j < off + i
    · rw [if_pos h2, if_pos ⟨h2.1, by omega⟩]
    · rw [if_neg h2, if_neg (by omega)]
theorem fillO_in {α : Type} {f g : Nat → α} {off i j : Nat} (h : off ≤ j) (h2 : j < off + i) : fillO f g off i j = f (j - off) := if_pos ⟨h, h2⟩
theorem fillO_out {α : Type} {f g : Nat → α} {off i j : Nat} (h : j < off ∨ off + i ≤ j) : fillO f g off i j = g j := if_neg (by omega)
def cutF (s : MST) (r k n : Nat) : Nat → Int32 := fun i => s.2.1 14 (25 * r + (i + k) % n)
def R_cut (s : MST) (x k : Int32) : Int32 × MST := if (inN x (vI s 18) && inR k 0 (rsz s x.toNatClampNeg)) = true then (nI 1, sa s 14 (fillO (cutF s x.toNatClampNeg k.toNatClampNeg (rsz s x.toNatClampNeg)) (s.2.1 14) (25 * x.toNatClampNeg) (rsz s x.toNatClampNeg))) else (-2, s)
set_option maxRecDepth 4000 in
theorem f_cut (hm : MI m) (hV : MV s) (x k : Int32) : Fn X 2 0 0 yX12_cut cX12_cut 5 (some .int) [.ref (m 65), .int x, .int k] (mh m s h0) (fun rv hv => rv = some (.int (R_cut s x k).1) ∧ ∃ s' : MST, hv = mh m s' h0 ∧ SP s' (R_cut s x k).2) := by
  obtain ⟨⟨hn18, hb18⟩, hl18⟩ := id hV.2.1
  refine fn_of (by decide) (Nat.le_of_ble_eq_true rfl) (fun M hM => ?_)
  refine a_aload_n (pc := 0) dX12_cut_0 rfl rfl ?_
  refine a_iload_n (pc := 1) dX12_cut_1 rfl rfl ?_
  refine a_callV (pc := 2) km_X12_157 dX12_cut_2 (f_isRun hm hn18 (by omega) _) rfl rfl (krecv_of (ci := 12) rfl (m_obj hm)) (rok_of hM (by decide) (by decide) (by omega) (by omega)) (Nat.le_of_ble_eq_true rfl) (fun r2 h2 hp2 => ?_)
  obtain ⟨rfl, rfl⟩ := hp2
  refine a_if_eqB (pc := 5) (tgt := 23) dX12_cut_5 (by decide) (fun c5 => ?_) (fun c5 => ?_)
  · refine a_bipush (pc := 23) dX12_cut_23 ib_m2 ?_
    refine a_ret_i (pc := 25) hM rfl (rfl) dX12_cut_25 (by omega) (by omega) ?_
    exact ⟨by first | simp only [R_cut, er, c5, Bool.and_self, Bool.and_true, Bool.true_and, Bool.and_false, Bool.false_and, Bool.false_eq_true, Nat.add_sub_cancel, reduceIte] | simp only [R_cut, c5, Bool.and_self, Bool.and_true, Bool.true_and, Bool.and_false, Bool.false_and, Bool.false_eq_true, Nat.add_sub_cancel, reduceIte], _, rfl, by first | (simp only [R_cut, er, c5, Bool.and_self, Bool.and_true, Bool.true_and, Bool.and_false, Bool.false_and, Bool.false_eq_true, Nat.add_sub_cancel, reduceIte]; exact SP.rfl) | (simp only [R_cut, c5, Bool.and_self, Bool.and_true, Bool.true_and, Bool.and_false, Bool.false_and, Bool.false_eq_true, Nat.add_sub_cancel, reduceIte]; exact SP.rfl)⟩
  · obtain ⟨r, hr, rfl⟩ := inN_of c5 (by omega)
    obtain ⟨hr16, hz, hz1, hz2⟩ := MV_run hV hr
    have er : (nI r).toNatClampNeg = r := nI_clamp (by omega)
    refine a_iload_n (pc := 8) dX12_cut_8 rfl rfl ?_
    refine a_i2l (pc := 9) dX12_cut_9 ?_
    refine a_lconst (pc := 10) (v := lN 0) dX12_cut_10 rfl ?_
    refine a_aload_n (pc := 11) dX12_cut_11 rfl rfl ?_
    refine a_iload_n (pc := 12) dX12_cut_12 rfl rfl ?_
    refine a_callV (pc := 13) km_X12_161 dX12_cut_13 (f_sizeOf hm hr16 hz) rfl rfl (krecv_of (ci := 12) rfl (m_obj hm)) (rok_of hM (by decide) (by decide) (by omega) (by omega)) (Nat.le_of_ble_eq_true rfl) (fun r13 h13 hp13 => ?_)
    obtain ⟨rfl, rfl⟩ := hp13
    refine a_i2lN (pc := 16) dX12_cut_16 (by omega) ?_
    refine a_callS (pc := 17) km_X12_142 dX12_cut_17 (f_in _ _ _) rfl rfl (rok_of hM (by decide) (by decide) (by omega) (by omega)) (Nat.le_of_ble_eq_true rfl) (fun r17 h17 hp17 => ?_)
    obtain ⟨rfl, rfl⟩ := hp17
    refine a_topi (congrArg bI (in_rng3 (x := k) (a := 0) (b := rsz s r) (by decide) (by omega))) ?_
    refine a_if_neB (pc := 20) (tgt := 26) dX12_cut_20 (by decide) (fun c20 => ?_) (fun c20 => ?_)
    · obtain ⟨q, -, hq, rfl⟩ := inR_of c20 (by omega)
      have eq : (nI q).toNatClampNeg = q := nI_clamp (by omega)
      refine a_aload_n (pc := 26) dX12_cut_26 rfl rfl ?_
      refine a_iload_n (pc := 27) dX12_cut_27 rfl rfl ?_
      refine a_callV (pc := 28) km_X12_161 dX12_cut_28 (f_sizeOf hm hr16 hz) rfl rfl (krecv_of (ci := 12) rfl (m_obj hm)) (rok_of hM (by decide) (by decide) (by omega) (by omega)) (Nat.le_of_ble_eq_true rfl) (fun r28 h28 hp28 => ?_)
      obtain ⟨rfl, rfl⟩ := hp28
      refine a_istore_n (pc := 31) dX12_cut_31 rfl (by decide) rfl ?_
      refine a_iconst (pc := 32) dX12_cut_32 ic_0 ?_
      refine a_istore (pc := 33) dX12_cut_33 (by decide) rfl ?_
      have loop : ∀ j i : Nat, rsz s r - i = j → i ≤ rsz s r → AJ X M yX12_cut cX12_cut 5 (some .int) 35 [(0, .ref (m 65)), (1, .int (nI r)), (2, .int (nI q)), (3, .int (nI (rsz s r))), (4, .int (nI i))] [] (mh m (sa s 19 (fillO (cutF s r q (rsz s r)) (s.2.1 19) 0 i)) h0) 0 0 := by
        intro j
        induction j with
        | zero =>
          intro i hk hkl
          refine a_iload (pc := 35) dX12_cut_35 rfl ?_
          refine a_iload_n (pc := 37) dX12_cut_37 rfl rfl ?_
          refine a_icmp_geN (pc := 38) (tgt := 70) dX12_cut_38 (by decide) (by omega) (by omega) (fun c38 => ?_) (fun c38 => ?_)
          · have hin : i = rsz s r := by omega
            subst hin
            obtain ⟨C, hCe⟩ : ∃ C, C = fillO (cutF s r q (rsz s r)) (s.2.1 19) 0 (rsz s r) := ⟨_, rfl⟩
            have hC : ∀ i, i < rsz s r → C i = cutF s r q (rsz s r) i := fun i hi => by rw [hCe, fillO_in (Nat.zero_le _) (by omega), Nat.sub_zero]
            rw [← hCe]
            have loop2 : ∀ j i : Nat, rsz s r - i = j → i ≤ rsz s r → AJ X M yX12_cut cX12_cut 5 (some .int) 73 [(0, .ref (m 65)), (1, .int (nI r)), (2, .int (nI q)), (3, .int (nI (rsz s r))), (4, .int (nI i))] [] (mh m (sa (sa s 14 (fillO (cutF s r q (rsz s r)) (s.2.1 14) (25 * r) i)) 19 C) h0) 0 0 := by
              intro j
              induction j with
              | zero =>
                intro i hk hkl
                refine a_iload (pc := 73) dX12_cut_73 rfl ?_
                refine a_iload_n (pc := 75) dX12_cut_75 rfl rfl ?_
                refine a_icmp_geN (pc := 76) (tgt := 104) dX12_cut_76 (by decide) (by omega) (by omega) (fun c76 => ?_) (fun c76 => ?_)
                · have hin : i = rsz s r := by omega
                  subst hin
                  refine a_iconst (pc := 104) dX12_cut_104 ic_1 ?_
                  refine a_ret_i (pc := 105) hM rfl (rfl) dX12_cut_105 (by omega) (by omega) ?_
                  exact ⟨by simp only [R_cut, er, eq, c5, c20, Bool.and_self, reduceIte], _, rfl, by simp only [R_cut, er, eq, c5, c20, Bool.and_self, reduceIte]; exact SP.sa (by decide) SP.rfl⟩
                · exact absurd c76 (by omega)
              | succ j ih =>
                intro i hk hkl
                refine a_iload (pc := 73) dX12_cut_73 rfl ?_
                refine a_iload_n (pc := 75) dX12_cut_75 rfl rfl ?_
                refine a_icmp_geN (pc := 76) (tgt := 104) dX12_cut_76 (by decide) (by omega) (by omega) (fun c76 => ?_) (fun c76 => ?_)
                · exact absurd c76 (by omega)
                · refine a_aload_n (pc := 79) dX12_cut_79 rfl rfl ?_
                  refine a_getfield (pc := 80) kg_X12_42 dX12_cut_80 (m_obj hm) rfl ?_
                  refine a_bipush (pc := 83) dX12_cut_83 ib_25 ?_
                  refine a_iload_n (pc := 85) dX12_cut_85 rfl rfl ?_
                  refine a_imulN (pc := 86) dX12_cut_86 ?_
                  refine a_iload (pc := 87) dX12_cut_87 rfl ?_
                  refine a_iaddN (pc := 89) dX12_cut_89 ?_
                  refine a_aload_n (pc := 90) dX12_cut_90 rfl rfl ?_
                  refine a_getfield (pc := 91) kg_X12_54 dX12_cut_91 (m_obj hm) rfl ?_
                  refine a_iload (pc := 94) dX12_cut_94 rfl ?_
                  refine a_iaload (pc := 96) dX12_cut_96 (m_a19 hm) (_) (rfl) (by omega) (by omega) ?_
                  refine a_topi (hC i (by omega)) ?_
                  refine a_iastore (pc := 97) dX12_cut_97 (m_a14 hm) (_) (rfl) (by omega) (by omega) ?_
                  refine a_hp (m_p14 hm) ?_
                  refine a_hp (show _ = mh m (sa (sa s 14 (fillO (cutF s r q (rsz s r)) (s.2.1 14) (25 * r) (i + 1))) 19 C) h0 from congrArg (fun t => mh m t h0) ((sa_sw (by decide)).symm.trans ((congrArg (fun t => sa t 19 C) sa_sa).trans (congrArg (fun g => sa (sa s 14 g) 19 C) fillO_s)) )) ?_
                  refine a_iincN (pc := 98) (n := 1) dX12_cut_98 (by decide) rfl (by decide) rfl ?_
                  refine a_goto (pc := 101) (tgt := 73) dX12_cut_101 (by decide) ?_
                  exact a_locR (ih (i + 1) (by omega) (by omega)) ⟨rfl, rfl, rfl, rfl, rfl, trivial⟩
            refine a_iconst (pc := 70) dX12_cut_70 ic_0 ?_
            refine a_istore (pc := 71) dX12_cut_71 (by decide) rfl ?_
            refine a_hp (show _ = mh m (sa (sa s 14 (fillO (cutF s r q (rsz s r)) (s.2.1 14) (25 * r) 0)) 19 C) h0 by rw [fillO_0, sa_id]) ?_
            exact a_locR (loop2 _ 0 rfl (Nat.zero_le _)) ⟨rfl, rfl, rfl, rfl, rfl, trivial⟩
          · exact absurd c38 (by omega)
        | succ j ih =>
          intro i hk hkl
          refine a_iload (pc := 35) dX12_cut_35 rfl ?_
          refine a_iload_n (pc := 37) dX12_cut_37 rfl rfl ?_
          refine a_icmp_geN (pc := 38) (tgt := 70) dX12_cut_38 (by decide) (by omega) (by omega) (fun c38 => ?_) (fun c38 => ?_)
          · exact absurd c38 (by omega)
          · have hmod : (i + q) % (rsz s r) < rsz s r := Nat.mod_lt _ (by omega)
            refine a_aload_n (pc := 41) dX12_cut_41 rfl rfl ?_
            refine a_getfield (pc := 42) kg_X12_54 dX12_cut_42 (m_obj hm) rfl ?_
            refine a_iload (pc := 45) dX12_cut_45 rfl ?_
            refine a_aload_n (pc := 47) dX12_cut_47 rfl rfl ?_
            refine a_getfield (pc := 48) kg_X12_42 dX12_cut_48 (m_obj hm) rfl ?_
            refine a_bipush (pc := 51) dX12_cut_51 ib_25 ?_
            refine a_iload_n (pc := 53) dX12_cut_53 rfl rfl ?_
            refine a_imulN (pc := 54) dX12_cut_54 ?_
            refine a_iload (pc := 55) dX12_cut_55 rfl ?_
            refine a_iload_n (pc := 57) dX12_cut_57 rfl rfl ?_
            refine a_iaddN (pc := 58) dX12_cut_58 ?_
            refine a_iload_n (pc := 59) dX12_cut_59 rfl rfl ?_
            refine a_iremN (pc := 60) dX12_cut_60 (by omega) (by omega) (by omega) ?_
            refine a_iaddN (pc := 61) dX12_cut_61 ?_
            refine a_iaload (pc := 62) dX12_cut_62 (m_a14 hm) (_) (rfl) (by omega) (by omega) ?_
            refine a_iastore (pc := 63) dX12_cut_63 (m_a19 hm) (0 + i) (by rw [Nat.zero_add]) (by omega) (by omega) ?_
            refine a_hp (m_p19 hm) ?_
            refine a_hp (show _ = mh m (sa s 19 (fillO (cutF s r q (rsz s r)) (s.2.1 19) 0 (i + 1))) h0 from congrArg (fun t => mh m t h0) (sa_sa.trans (congrArg (sa s 19) fillO_s))) ?_
            refine a_iincN (pc := 64) (n := 1) dX12_cut_64 (by decide) rfl (by decide) rfl ?_
            refine a_goto (pc := 67) (tgt := 35) dX12_cut_67 (by decide) ?_
            exact a_locR (ih (i + 1) (by omega) (by omega)) ⟨rfl, rfl, rfl, rfl, rfl, trivial⟩
      refine a_hp (show _ = mh m (sa s 19 (fillO (cutF s r q (rsz s r)) (s.2.1 19) 0 0)) h0 by rw [fillO_0, sa_id]) ?_
      exact a_locR (loop _ 0 rfl (Nat.zero_le _)) ⟨rfl, rfl, rfl, rfl, rfl, trivial⟩
    · refine a_bipush (pc := 23) dX12_cut_23 ib_m2 ?_
      refine a_ret_i (pc := 25) hM rfl (rfl) dX12_cut_25 (by omega) (by omega) ?_
      exact ⟨by first | simp only [R_cut, er, c5, c20, Bool.and_self, Bool.and_true, Bool.true_and, Bool.and_false, Bool.false_and, Bool.false_eq_true, Nat.add_sub_cancel, reduceIte] | simp only [R_cut, c5, c20, Bool.and_self, Bool.and_true, Bool.true_and, Bool.and_false, Bool.false_and, Bool.false_eq_true, Nat.add_sub_cancel, reduceIte], _, rfl, by first | (simp only [R_cut, er, c5, c20, Bool.and_self, Bool.and_true, Bool.true_and, Bool.and_false, Bool.false_and, Bool.false_eq_true, Nat.add_sub_cancel, reduceIte]; exact SP.rfl) | (simp only [R_cut, c5, c20, Bool.and_self, Bool.and_true, Bool.true_and, Bool.and_false, Bool.false_and, Bool.false_eq_true, Nat.add_sub_cancel, reduceIte]; exact SP.rfl)⟩

end MP2

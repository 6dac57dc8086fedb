/-! THE REFERENCE: guesses by a sheet, sheets, mixed -/
section MP6
variable {X : KX} {m : Nat → Nat} {s : MST} {h0 : AH}
def gLen (p : Nat → Bool) : Nat → Nat → Nat
  | 0, n => n
  | f + 1, n => if p n = true then gLen p f (n + 1) else n
def gCond (s : MST) (r q i n : Nat) : Bool := decide (n < vA s 63 q) && decide (i + n < rsz s r) && inN (s.2.1 64 (40 * q + n)) 5
def gSt (s : MST) (r q i n : Nat) : MST := sa s 15 (fillO (fun k => s.2.1 64 (40 * q + k)) (s.2.1 15) (25 * r + i) n)
def R_guess (s : MST) (x sh i : Int32) : Int32 × MST := if (inN x (vI s 18) && inN sh 4 && inN i (rsz s x.toNatClampNeg)) = true then (if s.2.1 61 sh.toNatClampNeg = 0 then (-11, s) else (nI (gLen (gCond s x.toNatClampNeg sh.toNatClampNeg i.toNatClampNeg) 41 0), gSt s x.toNatClampNeg sh.toNatClampNeg i.toNatClampNeg (gLen (gCond s x.toNatClampNeg sh.toNatClampNeg i.toNatClampNeg) 41 0))) else (-2, s)
set_option maxRecDepth 4000 in
theorem f_guess (hm : MI m) (hV : MV s) (x sh i : Int32) : Fn X 2 0 0 yX12_guess cX12_guess 5 (some .int) [.ref (m 65), .int x, .int sh, .int i] (mh m s h0) (fun rv hv => rv = some (.int (R_guess s x sh i).1) ∧ ∃ s' : MST, hv = mh m s' h0 ∧ SP s' (R_guess s x sh i).2) := by
  obtain ⟨⟨hn18, hb18⟩, hl18⟩ := id hV.2.1
  refine fn_of (by decide) (Nat.le_of_ble_eq_true rfl) (fun M hM => ?_)
  refine a_aload_n (pc := 0) dX12_guess_0 rfl rfl ?_
  refine a_iload_n (pc := 1) dX12_guess_1 rfl rfl ?_
  refine a_callV (pc := 2) km_X12_157 dX12_guess_2 (f_isRun hm hn18 (by omega) _) rfl rfl (krecv_of (ci := 12) rfl (m_obj hm)) (rok_of hM (by decide) (by decide) (by omega) (by omega)) (Nat.le_of_ble_eq_true rfl) (fun r2 h2 hp2 => ?_)
  obtain ⟨rfl, rfl⟩ := hp2
  refine a_if_eqB (pc := 5) (tgt := 32) dX12_guess_5 (by decide) (fun c5 => ?_) (fun c5 => ?_)
  · refine a_bipush (pc := 32) dX12_guess_32 ib_m2 ?_
    refine a_ret_i (pc := 34) hM rfl (rfl) dX12_guess_34 (by omega) (by omega) ?_
    exact ⟨by first | simp only [R_guess, er, eq, c5, Bool.and_self, Bool.and_true, Bool.true_and, Bool.and_false, Bool.false_and, Bool.false_eq_true, Nat.add_sub_cancel, reduceIte] | simp only [R_guess, er, c5, Bool.and_self, Bool.and_true, Bool.true_and, Bool.and_false, Bool.false_and, Bool.false_eq_true, Nat.add_sub_cancel, reduceIte] | simp only [R_guess, c5, Bool.and_self, Bool.and_true, Bool.true_and, Bool.and_false, Bool.false_and, Bool.false_eq_true, Nat.add_sub_cancel, reduceIte], _, rfl, by first | (simp only [R_guess, er, eq, c5, Bool.and_self, Bool.and_true, Bool.true_and, Bool.and_false, Bool.false_and, Bool.false_eq_true, Nat.add_sub_cancel, reduceIte]; exact SP.rfl) | (simp only [R_guess, er, c5, Bool.and_self, Bool.and_true, Bool.true_and, Bool.and_false, Bool.false_and, Bool.false_eq_true, Nat.add_sub_cancel, reduceIte]; exact SP.rfl) | (simp only [R_guess, c5, Bool.and_self, Bool.and_true, Bool.true_and, Bool.and_false, Bool.false_and, Bool.false_eq_true, Nat.add_sub_cancel, reduceIte]; exact SP.rfl)⟩
  · obtain ⟨r, hr, rfl⟩ := inN_of c5 (by omega)
    obtain ⟨hr16, hz, hz1, hz2⟩ := MV_run hV hr
    have er : (nI r).toNatClampNeg = r := nI_clamp (by omega)
    refine a_iload_n (pc := 8) dX12_guess_8 rfl rfl ?_
    refine a_callS (pc := 9) km_X12_165 dX12_guess_9 (f_isSheet _) rfl rfl (rok_of hM (by decide) (by decide) (by omega) (by omega)) (Nat.le_of_ble_eq_true rfl) (fun r9 h9 hp9 => ?_)
    obtain ⟨rfl, rfl⟩ := hp9
    refine a_if_eqB (pc := 12) (tgt := 32) dX12_guess_12 (by decide) (fun c12 => ?_) (fun c12 => ?_)
    · refine a_bipush (pc := 32) dX12_guess_32 ib_m2 ?_
      refine a_ret_i (pc := 34) hM rfl (rfl) dX12_guess_34 (by omega) (by omega) ?_
      exact ⟨by first | simp only [R_guess, er, eq, c5, c12, Bool.and_self, Bool.and_true, Bool.true_and, Bool.and_false, Bool.false_and, Bool.false_eq_true, Nat.add_sub_cancel, reduceIte] | simp only [R_guess, er, c5, c12, Bool.and_self, Bool.and_true, Bool.true_and, Bool.and_false, Bool.false_and, Bool.false_eq_true, Nat.add_sub_cancel, reduceIte] | simp only [R_guess, c5, c12, Bool.and_self, Bool.and_true, Bool.true_and, Bool.and_false, Bool.false_and, Bool.false_eq_true, Nat.add_sub_cancel, reduceIte], _, rfl, by first | (simp only [R_guess, er, eq, c5, c12, Bool.and_self, Bool.and_true, Bool.true_and, Bool.and_false, Bool.false_and, Bool.false_eq_true, Nat.add_sub_cancel, reduceIte]; exact SP.rfl) | (simp only [R_guess, er, c5, c12, Bool.and_self, Bool.and_true, Bool.true_and, Bool.and_false, Bool.false_and, Bool.false_eq_true, Nat.add_sub_cancel, reduceIte]; exact SP.rfl) | (simp only [R_guess, c5, c12, Bool.and_self, Bool.and_true, Bool.true_and, Bool.and_false, Bool.false_and, Bool.false_eq_true, Nat.add_sub_cancel, reduceIte]; exact SP.rfl)⟩
    · obtain ⟨q, hq, rfl⟩ := inN_of c12 (by omega)
      have eq : (nI q).toNatClampNeg = q := nI_clamp (by omega)
      refine a_iload_n (pc := 15) dX12_guess_15 rfl rfl ?_
      refine a_i2l (pc := 16) dX12_guess_16 ?_
      refine a_lconst (pc := 17) (v := lN 0) dX12_guess_17 rfl ?_
      refine a_aload_n (pc := 18) dX12_guess_18 rfl rfl ?_
      refine a_iload_n (pc := 19) dX12_guess_19 rfl rfl ?_
      refine a_callV (pc := 20) km_X12_161 dX12_guess_20 (f_sizeOf hm hr16 hz) rfl rfl (krecv_of (ci := 12) rfl (m_obj hm)) (rok_of hM (by decide) (by decide) (by omega) (by omega)) (Nat.le_of_ble_eq_true rfl) (fun r20 h20 hp20 => ?_)
      obtain ⟨rfl, rfl⟩ := hp20
      refine a_iconst (pc := 23) dX12_guess_23 ic_1 ?_
      refine a_isubN (pc := 24) dX12_guess_24 (by omega) ?_
      refine a_i2lN (pc := 25) dX12_guess_25 (by omega) ?_
      refine a_callS (pc := 26) km_X12_142 dX12_guess_26 (f_in _ _ _) rfl rfl (rok_of hM (by decide) (by decide) (by omega) (by omega)) (Nat.le_of_ble_eq_true rfl) (fun r26 h26 hp26 => ?_)
      obtain ⟨rfl, rfl⟩ := hp26
      refine a_topi (congrArg bI (in_rng2 (x := i) (n := rsz s r) (k := rsz s r - 1) (by omega) (by omega))) ?_
      refine a_if_neB (pc := 29) (tgt := 35) dX12_guess_29 (by decide) (fun c29 => ?_) (fun c29 => ?_)
      · obtain ⟨j, hj, rfl⟩ := inN_of c29 (by omega)
        have ej : (nI j).toNatClampNeg = j := nI_clamp (by omega)
        have hcc : (inN (nI r) (vI s 18) && inN (nI q) 4 && inN (nI j) (rsz s (nI r).toNatClampNeg)) = true := by rw [er, c5, c12, c29]; rfl
        rw [er] at hcc
        refine a_aload_n (pc := 35) dX12_guess_35 rfl rfl ?_
        refine a_getfield (pc := 36) kg_X12_105 dX12_guess_36 (m_obj hm) rfl ?_
        refine a_iload_n (pc := 39) dX12_guess_39 rfl rfl ?_
        refine a_baload (pc := 40) dX12_guess_40 (m_a61 hm) (_) (rfl) (by omega) (by omega) ?_
        refine a_if_ne (pc := 41) (tgt := 47) dX12_guess_41 (by decide) (fun c41 => ?_) (fun c41 => ?_)
        · obtain ⟨ht1, ht2, ht3, ht4⟩ := MV_there hV hq c41
          refine a_iconst (pc := 47) dX12_guess_47 ic_0 ?_
          refine a_istore (pc := 48) dX12_guess_48 (by decide) rfl ?_
          have loop : ∀ f n : Nat, f + n = 41 → gLen (gCond s r q j) 41 0 = gLen (gCond s r q j) f n → AJ X M yX12_guess cX12_guess 5 (some .int) 50 [(0, .ref (m 65)), (1, .int (nI r)), (2, .int (nI q)), (3, .int (nI j)), (4, .int (nI n))] [] (mh m (gSt s r q j n) h0) 0 0 := by
            intro f
            induction f with
            | zero =>
              intro n hf hg
              refine a_iload (pc := 50) dX12_guess_50 rfl ?_
              refine a_aload_n (pc := 52) dX12_guess_52 rfl rfl ?_
              refine a_getfield (pc := 53) kg_X12_112 dX12_guess_53 (m_obj hm) rfl ?_
              refine a_iload_n (pc := 56) dX12_guess_56 rfl rfl ?_
              refine a_iaload (pc := 57) dX12_guess_57 (m_a63 hm) (_) (rfl) (by omega) (by omega) ?_
              refine a_topi (ht3) ?_
              refine a_icmp_geN (pc := 58) (tgt := 123) dX12_guess_58 (by decide) (by omega) (by omega) (fun c58 => ?_) (fun c58 => ?_)
              · have hgn : gLen (gCond s r q j) 41 0 = n := hg
                have hg := hgn
                refine a_iload (pc := 123) dX12_guess_123 rfl ?_
                refine a_ret_i (pc := 125) hM rfl (rfl) dX12_guess_125 (by omega) (by omega) ?_
                exact ⟨by rw [R_guess, er, eq, ej, if_pos hcc, if_neg c41, hg], _, rfl, by rw [R_guess, er, eq, ej, if_pos hcc, if_neg c41, hg]; exact SP.rfl⟩
              · exact absurd c58 (by omega)
            | succ f ih =>
              intro n hf hg
              refine a_iload (pc := 50) dX12_guess_50 rfl ?_
              refine a_aload_n (pc := 52) dX12_guess_52 rfl rfl ?_
              refine a_getfield (pc := 53) kg_X12_112 dX12_guess_53 (m_obj hm) rfl ?_
              refine a_iload_n (pc := 56) dX12_guess_56 rfl rfl ?_
              refine a_iaload (pc := 57) dX12_guess_57 (m_a63 hm) (_) (rfl) (by omega) (by omega) ?_
              refine a_topi (ht3) ?_
              refine a_icmp_geN (pc := 58) (tgt := 123) dX12_guess_58 (by decide) (by omega) (by omega) (fun c58 => ?_) (fun c58 => ?_)
              · have hcf : gCond s r q j n = false := by unfold gCond; rw [decide_eq_false (Nat.not_lt.mpr c58)]; rfl
                have hgn : gLen (gCond s r q j) 41 0 = n := by rw [hg]; exact if_neg (by rw [hcf]; decide)
                have hg := hgn
                refine a_iload (pc := 123) dX12_guess_123 rfl ?_
                refine a_ret_i (pc := 125) hM rfl (rfl) dX12_guess_125 (by omega) (by omega) ?_
                exact ⟨by rw [R_guess, er, eq, ej, if_pos hcc, if_neg c41, hg], _, rfl, by rw [R_guess, er, eq, ej, if_pos hcc, if_neg c41, hg]; exact SP.rfl⟩
              · refine a_iload_n (pc := 61) dX12_guess_61 rfl rfl ?_
                refine a_iload (pc := 62) dX12_guess_62 rfl ?_
                refine a_iaddN (pc := 64) dX12_guess_64 ?_
                refine a_aload_n (pc := 65) dX12_guess_65 rfl rfl ?_
                refine a_iload_n (pc := 66) dX12_guess_66 rfl rfl ?_
                refine a_callV (pc := 67) km_X12_161 dX12_guess_67 (f_sizeOf (s := gSt s r q j n) hm hr16 hz) rfl rfl (krecv_of (ci := 12) rfl (m_obj hm)) (rok_of hM (by decide) (by decide) (by omega) (by omega)) (Nat.le_of_ble_eq_true rfl) (fun r67 h67 hp67 => ?_)
                obtain ⟨rfl, rfl⟩ := hp67
                refine a_icmp_geN (pc := 70) (tgt := 123) dX12_guess_70 (by decide) (by omega) (by omega) (fun c70 => ?_) (fun c70 => ?_)
                · have hcf : gCond s r q j n = false := by unfold gCond; rw [decide_eq_false (Nat.not_lt.mpr c70), Bool.and_false]; rfl
                  have hgn : gLen (gCond s r q j) 41 0 = n := by rw [hg]; exact if_neg (by rw [hcf]; decide)
                  have hg := hgn
                  refine a_iload (pc := 123) dX12_guess_123 rfl ?_
                  refine a_ret_i (pc := 125) hM rfl (rfl) dX12_guess_125 (by omega) (by omega) ?_
                  exact ⟨by rw [R_guess, er, eq, ej, if_pos hcc, if_neg c41, hg], _, rfl, by rw [R_guess, er, eq, ej, if_pos hcc, if_neg c41, hg]; exact SP.rfl⟩
                · refine a_aload_n (pc := 73) dX12_guess_73 rfl rfl ?_
                  refine a_getfield (pc := 74) kg_X12_115 dX12_guess_74 (m_obj hm) rfl ?_
                  refine a_bipush (pc := 77) dX12_guess_77 ib_40 ?_
                  refine a_iload_n (pc := 79) dX12_guess_79 rfl rfl ?_
                  refine a_imulN (pc := 80) dX12_guess_80 ?_
                  refine a_iload (pc := 81) dX12_guess_81 rfl ?_
                  refine a_iaddN (pc := 83) dX12_guess_83 ?_
                  refine a_iaload (pc := 84) dX12_guess_84 (m_a64 hm) (_) (rfl) (by omega) (by omega) ?_
                  refine a_callS (pc := 85) km_X12_168 dX12_guess_85 (f_isSignOf _) rfl rfl (rok_of hM (by decide) (by decide) (by omega) (by omega)) (Nat.le_of_ble_eq_true rfl) (fun r85 h85 hp85 => ?_)
                  obtain ⟨rfl, rfl⟩ := hp85
                  refine a_if_eqB (pc := 88) (tgt := 123) dX12_guess_88 (by decide) (fun c88 => ?_) (fun c88 => ?_)
                  · have hcf : gCond s r q j n = false := by unfold gCond; rw [show inN (s.2.1 64 (40 * q + n)) 5 = false from c88, Bool.and_false]
                    have hgn : gLen (gCond s r q j) 41 0 = n := by rw [hg]; exact if_neg (by rw [hcf]; decide)
                    have hg := hgn
                    refine a_iload (pc := 123) dX12_guess_123 rfl ?_
                    refine a_ret_i (pc := 125) hM rfl (rfl) dX12_guess_125 (by omega) (by omega) ?_
                    exact ⟨by rw [R_guess, er, eq, ej, if_pos hcc, if_neg c41, hg], _, rfl, by rw [R_guess, er, eq, ej, if_pos hcc, if_neg c41, hg]; exact SP.rfl⟩
                  · have hct : gCond s r q j n = true := by unfold gCond; rw [decide_eq_true c58, decide_eq_true c70, show inN (s.2.1 64 (40 * q + n)) 5 = true from c88]; rfl
                    have hgn : gLen (gCond s r q j) 41 0 = gLen (gCond s r q j) f (n + 1) := by rw [hg]; exact if_pos hct
                    refine a_aload_n (pc := 91) dX12_guess_91 rfl rfl ?_
                    refine a_getfield (pc := 92) kg_X12_45 dX12_guess_92 (m_obj hm) rfl ?_
                    refine a_bipush (pc := 95) dX12_guess_95 ib_25 ?_
                    refine a_iload_n (pc := 97) dX12_guess_97 rfl rfl ?_
                    refine a_imulN (pc := 98) dX12_guess_98 ?_
                    refine a_iload_n (pc := 99) dX12_guess_99 rfl rfl ?_
                    refine a_iaddN (pc := 100) dX12_guess_100 ?_
                    refine a_iload (pc := 101) dX12_guess_101 rfl ?_
                    refine a_iaddN (pc := 103) dX12_guess_103 ?_
                    refine a_aload_n (pc := 104) dX12_guess_104 rfl rfl ?_
                    refine a_getfield (pc := 105) kg_X12_115 dX12_guess_105 (m_obj hm) rfl ?_
                    refine a_bipush (pc := 108) dX12_guess_108 ib_40 ?_
                    refine a_iload_n (pc := 110) dX12_guess_110 rfl rfl ?_
                    refine a_imulN (pc := 111) dX12_guess_111 ?_
                    refine a_iload (pc := 112) dX12_guess_112 rfl ?_
                    refine a_iaddN (pc := 114) dX12_guess_114 ?_
                    refine a_iaload (pc := 115) dX12_guess_115 (m_a64 hm) (_) (rfl) (by omega) (by omega) ?_
                    refine a_iastore (pc := 116) dX12_guess_116 (m_a15 hm) (_) (rfl) (by omega) (by omega) ?_
                    refine a_hp (m_p15 hm) ?_
                    refine a_hp (show _ = mh m (gSt s r q j (n + 1)) h0 from congrArg (fun t => mh m t h0) (sa_sa.trans (congrArg (sa s 15) (fillO_s (f := fun k => s.2.1 64 (40 * q + k)))))) ?_
                    refine a_iincN (pc := 117) (n := 1) dX12_guess_117 (by decide) rfl (by decide) rfl ?_
                    refine a_goto (pc := 120) (tgt := 50) dX12_guess_120 (by decide) ?_
                    exact a_locR (ih (n + 1) (by omega) hgn) ⟨rfl, rfl, rfl, rfl, rfl, trivial⟩
          refine a_hp (show _ = mh m (gSt s r q j 0) h0 by rw [gSt, fillO_0, sa_id]) ?_
          exact a_locR (loop 41 0 rfl rfl) ⟨rfl, rfl, rfl, rfl, rfl, trivial⟩
        · refine a_bipush (pc := 44) dX12_guess_44 ib_m11 ?_
          refine a_ret_i (pc := 46) hM rfl (rfl) dX12_guess_46 (by omega) (by omega) ?_
          exact ⟨by rw [R_guess, er, eq, if_pos hcc, if_pos c41], _, rfl, by rw [R_guess, er, eq, if_pos hcc, if_pos c41]; exact SP.rfl⟩
      · refine a_bipush (pc := 32) dX12_guess_32 ib_m2 ?_
        refine a_ret_i (pc := 34) hM rfl (rfl) dX12_guess_34 (by omega) (by omega) ?_
        exact ⟨by first | simp only [R_guess, er, eq, c5, c12, c29, Bool.and_self, Bool.and_true, Bool.true_and, Bool.and_false, Bool.false_and, Bool.false_eq_true, Nat.add_sub_cancel, reduceIte] | simp only [R_guess, er, c5, c12, c29, Bool.and_self, Bool.and_true, Bool.true_and, Bool.and_false, Bool.false_and, Bool.false_eq_true, Nat.add_sub_cancel, reduceIte] | simp only [R_guess, c5, c12, c29, Bool.and_self, Bool.and_true, Bool.true_and, Bool.and_false, Bool.false_and, Bool.false_eq_true, Nat.add_sub_cancel, reduceIte], _, rfl, by first | (simp only [R_guess, er, eq, c5, c12, c29, Bool.and_self, Bool.and_true, Bool.true_and, Bool.and_false, Bool.false_and, Bool.false_eq_true, Nat.add_sub_cancel, reduceIte]; exact SP.rfl) | (simp only [R_guess, er, c5, c12, c29, Bool.and_self, Bool.and_true, Bool.true_and, Bool.and_false, Bool.false_and, Bool.false_eq_true, Nat.add_sub_cancel, reduceIte]; exact SP.rfl) | (simp only [R_guess, c5, c12, c29, Bool.and_self, Bool.and_true, Bool.true_and, Bool.and_false, Bool.false_and, Bool.false_eq_true, Nat.add_sub_cancel, reduceIte]; exact SP.rfl)⟩

def inM (x : Int32) : Bool := decide (-1 ≤ x.toInt) && decide (x.toInt ≤ 2)
theorem in_rngM {x : Int32} : (decide ((-1 : Int64) ≤ x.toInt64 ∧ x.toInt64 ≤ lN 2)) = inM x := by
  rw [inM, Bool.eq_iff_iff]
  simp only [decide_eq_true_eq, Bool.and_eq_true]
  rw [show (-1 : Int64) = (-1 : Int32).toInt64 by decide, show lN 2 = (nI 2).toInt64 by decide, fa_wide_le, fa_wide_le, Int32.le_iff_toInt_le, Int32.le_iff_toInt_le, show (-1 : Int32).toInt = -1 by decide, show (nI 2).toInt = 2 by decide]
def N_sheet (s : MST) (q : Nat) (so n : Int32) : MST := sa (sa (sa (sa s 61 (upd (s.2.1 61) q (if so < 0 then nI 0 else nI 1))) 62 (upd (s.2.1 62) q so)) 63 (upd (s.2.1 63) q n)) 64 (if so < 0 then s.2.1 64 else fillO (fun _ => nI 0) (s.2.1 64) (40 * q) n.toNatClampNeg)
def R_sheet (s : MST) (x so n : Int32) : Int32 × MST := if (inN x 4 && inM so) = true then (if so < 0 then (nI 1, N_sheet s x.toNatClampNeg so n) else if n ≤ nI 40 then (if n < 0 then (-14, s) else (nI 1, N_sheet s x.toNatClampNeg so n)) else (-2, s)) else (-2, s)
set_option maxRecDepth 4000 in
theorem f_sheet (hm : MI m) (hV : MV s) (x so n : Int32) : Fn X 2 0 0 yX12_sheet cX12_sheet 5 (some .int) [.ref (m 65), .int x, .int so, .int n] (mh m s h0) (fun rv hv => rv = some (.int (R_sheet s x so n).1) ∧ ∃ s' : MST, hv = mh m s' h0 ∧ SP s' (R_sheet s x so n).2) := by
  refine fn_of (by decide) (Nat.le_of_ble_eq_true rfl) (fun M hM => ?_)
  refine a_iload_n (pc := 0) dX12_sheet_0 rfl rfl ?_
  refine a_callS (pc := 1) km_X12_165 dX12_sheet_1 (f_isSheet _) rfl rfl (rok_of hM (by decide) (by decide) (by omega) (by omega)) (Nat.le_of_ble_eq_true rfl) (fun r1 h1 hp1 => ?_)
  obtain ⟨rfl, rfl⟩ := hp1
  refine a_if_eqB (pc := 4) (tgt := 31) dX12_sheet_4 (by decide) (fun c4 => ?_) (fun c4 => ?_)
  · refine a_bipush (pc := 31) dX12_sheet_31 ib_m2 ?_
    refine a_ret_i (pc := 33) hM rfl (rfl) dX12_sheet_33 (by omega) (by omega) ?_
    exact ⟨by rw [R_sheet, if_neg (by simp [c4])], _, rfl, by rw [R_sheet, if_neg (by simp [c4])]; exact SP.rfl⟩
  · obtain ⟨q, hq, rfl⟩ := inN_of c4 (by omega)
    have eq : (nI q).toNatClampNeg = q := nI_clamp (by omega)
    refine a_iload_n (pc := 7) dX12_sheet_7 rfl rfl ?_
    refine a_i2l (pc := 8) dX12_sheet_8 ?_
    refine a_ldc2 (pc := 9) kc_X12_211 dX12_sheet_9 ?_
    refine a_ldc2 (pc := 12) kc_X12_432 dX12_sheet_12 ?_
    refine a_topl (z := lN 2) rfl ?_
    refine a_callS (pc := 15) km_X12_142 dX12_sheet_15 (f_in _ _ _) rfl rfl (rok_of hM (by decide) (by decide) (by omega) (by omega)) (Nat.le_of_ble_eq_true rfl) (fun r15 h15 hp15 => ?_)
    obtain ⟨rfl, rfl⟩ := hp15
    refine a_topi (congrArg bI (in_rngM (x := so))) ?_
    refine a_if_eqB (pc := 18) (tgt := 31) dX12_sheet_18 (by decide) (fun c18 => ?_) (fun c18 => ?_)
    · refine a_bipush (pc := 31) dX12_sheet_31 ib_m2 ?_
      refine a_ret_i (pc := 33) hM rfl (rfl) dX12_sheet_33 (by omega) (by omega) ?_
      exact ⟨by rw [R_sheet, if_neg (by simp [c4, c18])], _, rfl, by rw [R_sheet, if_neg (by simp [c4, c18])]; exact SP.rfl⟩
    · have hcc : (inN (nI q) 4 && inM so) = true := by rw [c4, c18]; rfl
      by_cases hso : so < 0
      · refine a_iload_n (pc := 21) dX12_sheet_21 rfl rfl ?_
        refine a_if_lt_t (pc := 22) (tgt := 34) dX12_sheet_22 (by decide) (hso) ?_
        refine a_iload_n (pc := 34) dX12_sheet_34 rfl rfl ?_
        refine a_if_lt_t (pc := 35) (tgt := 45) dX12_sheet_35 (by decide) (hso) ?_
        refine a_aload_n (pc := 45) dX12_sheet_45 rfl rfl ?_
        refine a_getfield (pc := 46) kg_X12_105 dX12_sheet_46 (m_obj hm) rfl ?_
        refine a_iload_n (pc := 49) dX12_sheet_49 rfl rfl ?_
        refine a_iload_n (pc := 50) dX12_sheet_50 rfl rfl ?_
        refine a_if_lt_t (pc := 51) (tgt := 58) dX12_sheet_51 (by decide) (hso) ?_
        refine a_iconst (pc := 58) dX12_sheet_58 ic_0 ?_
        refine a_bastore (pc := 59) dX12_sheet_59 (m_a61 hm) (_) (rfl) (by omega) (by omega) (by decide +kernel) ?_
        refine a_hp (m_p61 hm) ?_
        refine a_aload_n (pc := 60) dX12_sheet_60 rfl rfl ?_
        refine a_getfield (pc := 61) kg_X12_109 dX12_sheet_61 (m_obj hm) rfl ?_
        refine a_iload_n (pc := 64) dX12_sheet_64 rfl rfl ?_
        refine a_iload_n (pc := 65) dX12_sheet_65 rfl rfl ?_
        refine a_iastore (pc := 66) dX12_sheet_66 (m_a62 hm) (_) (rfl) (by omega) (by omega) ?_
        refine a_hp (m_p62 hm) ?_
        refine a_aload_n (pc := 67) dX12_sheet_67 rfl rfl ?_
        refine a_getfield (pc := 68) kg_X12_112 dX12_sheet_68 (m_obj hm) rfl ?_
        refine a_iload_n (pc := 71) dX12_sheet_71 rfl rfl ?_
        refine a_iload_n (pc := 72) dX12_sheet_72 rfl rfl ?_
        refine a_iastore (pc := 73) dX12_sheet_73 (m_a63 hm) (_) (rfl) (by omega) (by omega) ?_
        refine a_hp (m_p63 hm) ?_
        refine a_iconst (pc := 74) dX12_sheet_74 ic_0 ?_
        refine a_istore (pc := 75) dX12_sheet_75 (by decide) rfl ?_
        refine a_iload (pc := 77) dX12_sheet_77 rfl ?_
        refine a_iload_n (pc := 79) dX12_sheet_79 rfl rfl ?_
        refine a_icmp_ge (pc := 80) (tgt := 106) dX12_sheet_80 (by decide) (fun c80 => ?_) (fun c80 => ?_)
        · refine a_iconst (pc := 106) dX12_sheet_106 ic_1 ?_
          refine a_ret_i (pc := 107) hM rfl (rfl) dX12_sheet_107 (by omega) (by omega) ?_
          exact ⟨by rw [R_sheet, if_pos hcc, if_pos hso], _, rfl, by rw [R_sheet, if_pos hcc, if_pos hso, N_sheet, if_pos hso, if_pos hso, eq]; exact SP.of (sa_id (s := sa (sa (sa s 61 (upd (s.2.1 61) q (nI 0))) 62 (upd (s.2.1 62) q so)) 63 (upd (s.2.1 63) q n)) (k := 64)).symm⟩
        · refine a_iload_n (pc := 83) dX12_sheet_83 rfl rfl ?_
          refine a_if_lt_t (pc := 84) (tgt := 106) dX12_sheet_84 (by decide) (hso) ?_
          refine a_iconst (pc := 106) dX12_sheet_106 ic_1 ?_
          refine a_ret_i (pc := 107) hM rfl (rfl) dX12_sheet_107 (by omega) (by omega) ?_
          exact ⟨by rw [R_sheet, if_pos hcc, if_pos hso], _, rfl, by rw [R_sheet, if_pos hcc, if_pos hso, N_sheet, if_pos hso, if_pos hso, eq]; exact SP.of (sa_id (s := sa (sa (sa s 61 (upd (s.2.1 61) q (nI 0))) 62 (upd (s.2.1 62) q so)) 63 (upd (s.2.1 63) q n)) (k := 64)).symm⟩
      · refine a_iload_n (pc := 21) dX12_sheet_21 rfl rfl ?_
        refine a_if_lt_f (pc := 22) (tgt := 34) dX12_sheet_22 (by decide) (hso) ?_
        refine a_iload_n (pc := 25) dX12_sheet_25 rfl rfl ?_
        refine a_bipush (pc := 26) dX12_sheet_26 ib_40 ?_
        refine a_icmp_le (pc := 28) (tgt := 34) dX12_sheet_28 (by decide) (fun c28 => ?_) (fun c28 => ?_)
        · refine a_iload_n (pc := 34) dX12_sheet_34 rfl rfl ?_
          refine a_if_lt_f (pc := 35) (tgt := 45) dX12_sheet_35 (by decide) (hso) ?_
          refine a_iload_n (pc := 38) dX12_sheet_38 rfl rfl ?_
          refine a_if_ge (pc := 39) (tgt := 45) dX12_sheet_39 (by decide) (fun c39 => ?_) (fun c39 => ?_)
          · obtain ⟨nn, hnn, rfl⟩ := nI_of2 (M := nI 40) (n := 40) (by decide) (Int32.not_lt.mpr c39) c28
            have hn0 : ¬ nI nn < 0 := nI_pos (by omega)
            refine a_aload_n (pc := 45) dX12_sheet_45 rfl rfl ?_
            refine a_getfield (pc := 46) kg_X12_105 dX12_sheet_46 (m_obj hm) rfl ?_
            refine a_iload_n (pc := 49) dX12_sheet_49 rfl rfl ?_
            refine a_iload_n (pc := 50) dX12_sheet_50 rfl rfl ?_
            refine a_if_lt_f (pc := 51) (tgt := 58) dX12_sheet_51 (by decide) (hso) ?_
            refine a_iconst (pc := 54) dX12_sheet_54 ic_1 ?_
            refine a_goto (pc := 55) (tgt := 59) dX12_sheet_55 (by decide) ?_
            refine a_bastore (pc := 59) dX12_sheet_59 (m_a61 hm) (_) (rfl) (by omega) (by omega) (by decide +kernel) ?_
            refine a_hp (m_p61 hm) ?_
            refine a_aload_n (pc := 60) dX12_sheet_60 rfl rfl ?_
            refine a_getfield (pc := 61) kg_X12_109 dX12_sheet_61 (m_obj hm) rfl ?_
            refine a_iload_n (pc := 64) dX12_sheet_64 rfl rfl ?_
            refine a_iload_n (pc := 65) dX12_sheet_65 rfl rfl ?_
            refine a_iastore (pc := 66) dX12_sheet_66 (m_a62 hm) (_) (rfl) (by omega) (by omega) ?_
            refine a_hp (m_p62 hm) ?_
            refine a_aload_n (pc := 67) dX12_sheet_67 rfl rfl ?_
            refine a_getfield (pc := 68) kg_X12_112 dX12_sheet_68 (m_obj hm) rfl ?_
            refine a_iload_n (pc := 71) dX12_sheet_71 rfl rfl ?_
            refine a_iload_n (pc := 72) dX12_sheet_72 rfl rfl ?_
            refine a_iastore (pc := 73) dX12_sheet_73 (m_a63 hm) (_) (rfl) (by omega) (by omega) ?_
            refine a_hp (m_p63 hm) ?_
            refine a_iconst (pc := 74) dX12_sheet_74 ic_0 ?_
            refine a_istore (pc := 75) dX12_sheet_75 (by decide) rfl ?_
            have loop : ∀ j i : Nat, nn - i = j → i ≤ nn →  AJ X M yX12_sheet cX12_sheet 5 (some .int) 77 [(0, .ref (m 65)), (1, .int (nI q)), (2, .int so), (3, .int (nI nn)), (4, .int (nI i))] [] (mh m (sa (sa (sa (sa s 61 (upd (s.2.1 61) q (nI 1))) 62 (upd (s.2.1 62) q so)) 63 (upd (s.2.1 63) q (nI nn))) 64 (fillO (fun _ => nI 0) (s.2.1 64) (40 * q) i)) h0) 0 0 := by
              intro j
              induction j with
              | zero =>
                intro i hjk hkN
                refine a_iload (pc := 77) dX12_sheet_77 rfl ?_
                refine a_iload_n (pc := 79) dX12_sheet_79 rfl rfl ?_
                refine a_icmp_geN (pc := 80) (tgt := 106) dX12_sheet_80 (by decide) (by omega) (by omega) (fun c80 => ?_) (fun c80 => ?_)
                · have hin : i = nn := by omega
                  subst hin
                  have en : (nI i).toNatClampNeg = i := nI_clamp (by omega)
                  refine a_iconst (pc := 106) dX12_sheet_106 ic_1 ?_
                  refine a_ret_i (pc := 107) hM rfl (rfl) dX12_sheet_107 (by omega) (by omega) ?_
                  exact ⟨by rw [R_sheet, if_pos hcc, if_neg hso, if_pos c28, if_neg hn0], _, rfl, by rw [R_sheet, if_pos hcc, if_neg hso, if_pos c28, if_neg hn0, N_sheet, if_neg hso, if_neg hso, eq, en]; exact SP.rfl⟩
                · exact absurd c80 (by omega)
              | succ j ih =>
                intro i hjk hkN
                refine a_iload (pc := 77) dX12_sheet_77 rfl ?_
                refine a_iload_n (pc := 79) dX12_sheet_79 rfl rfl ?_
                refine a_icmp_geN (pc := 80) (tgt := 106) dX12_sheet_80 (by decide) (by omega) (by omega) (fun c80 => ?_) (fun c80 => ?_)
                · exact absurd c80 (by omega)
                · refine a_iload_n (pc := 83) dX12_sheet_83 rfl rfl ?_
                  refine a_if_lt (pc := 84) (tgt := 106) dX12_sheet_84 (by decide) (fun c84 => ?_) (fun c84 => ?_)
                  · exact absurd c84 hso
                  · refine a_aload_n (pc := 87) dX12_sheet_87 rfl rfl ?_
                    refine a_getfield (pc := 88) kg_X12_115 dX12_sheet_88 (m_obj hm) rfl ?_
                    refine a_bipush (pc := 91) dX12_sheet_91 ib_40 ?_
                    refine a_iload_n (pc := 93) dX12_sheet_93 rfl rfl ?_
                    refine a_imulN (pc := 94) dX12_sheet_94 ?_
                    refine a_iload (pc := 95) dX12_sheet_95 rfl ?_
                    refine a_iaddN (pc := 97) dX12_sheet_97 ?_
                    refine a_iconst (pc := 98) dX12_sheet_98 ic_0 ?_
                    refine a_iastore (pc := 99) dX12_sheet_99 (m_a64 hm) (_) (rfl) (by omega) (by omega) ?_
                    refine a_hp (m_p64 hm) ?_
                    refine a_hp (show _ = mh m (sa (sa (sa (sa s 61 (upd (s.2.1 61) q (nI 1))) 62 (upd (s.2.1 62) q so)) 63 (upd (s.2.1 63) q (nI nn))) 64 (fillO (fun _ => nI 0) (s.2.1 64) (40 * q) (i + 1))) h0 from congrArg (fun t => mh m t h0) (sa_sa.trans (congrArg (sa _ 64) (fillO_s (f := fun _ => nI 0))))) ?_
                    refine a_iincN (pc := 100) (n := 1) dX12_sheet_100 (by decide) rfl (by decide) rfl ?_
                    refine a_goto (pc := 103) (tgt := 77) dX12_sheet_103 (by decide) ?_
                    exact a_locR (ih (i + 1) (by omega) (by omega)) ⟨rfl, rfl, rfl, rfl, rfl, trivial⟩
            refine a_hp (show _ = mh m (sa (sa (sa (sa s 61 (upd (s.2.1 61) q (nI 1))) 62 (upd (s.2.1 62) q so)) 63 (upd (s.2.1 63) q (nI nn))) 64 (fillO (fun _ => nI 0) (s.2.1 64) (40 * q) 0)) h0 by rw [fillO_0]; exact congrArg (fun t => mh m t h0) (sa_id (s := sa (sa (sa s 61 (upd (s.2.1 61) q (nI 1))) 62 (upd (s.2.1 62) q so)) 63 (upd (s.2.1 63) q (nI nn))) (k := 64)).symm) ?_
            exact a_locR (loop _ 0 rfl (Nat.zero_le _)) ⟨rfl, rfl, rfl, rfl, rfl, trivial⟩
          · refine a_bipush (pc := 42) dX12_sheet_42 ib_m14 ?_
            refine a_ret_i (pc := 44) hM rfl (rfl) dX12_sheet_44 (by omega) (by omega) ?_
            exact ⟨by rw [R_sheet, if_pos hcc, if_neg hso, if_pos c28, if_pos (Int32.not_le.mp c39)], _, rfl, by rw [R_sheet, if_pos hcc, if_neg hso, if_pos c28, if_pos (Int32.not_le.mp c39)]; exact SP.rfl⟩
        · refine a_bipush (pc := 31) dX12_sheet_31 ib_m2 ?_
          refine a_ret_i (pc := 33) hM rfl (rfl) dX12_sheet_33 (by omega) (by omega) ?_
          exact ⟨by rw [R_sheet, if_pos hcc, if_neg hso, if_neg c28], _, rfl, by rw [R_sheet, if_pos hcc, if_neg hso, if_neg c28]; exact SP.rfl⟩

theorem mixO_out {off : Nat} {j : Nat} : ∀ (i lot : Nat) (f : Nat → Int32), (j < off ∨ off + i < j) → mixO off f i lot j = f j := by
  intro i
  induction i with
  | zero => intro lot f _; rw [mixO_0]
  | succ i ih =>
    intro lot f h
    have ho : lot * 48271 % 2147483647 % (i + 1 + 1) < i + 1 + 1 := Nat.mod_lt _ (by omega)
    rw [mixO_s, ih _ _ (by omega), pk_un (by omega), pk_un (by omega)]
def mixT (s : MST) (r n sd : Nat) : Nat → Int32 := mixO (25 * r) (s.2.1 14) (n - 1) (sd + 1)
def mixS (s : MST) (r n sd : Nat) : Nat → Nat := sumN (fun k => if hitsP s r n ≤ hitsP (sa s 14 (mixT s r n (sd + k))) r n then 1 else 0)
theorem mixS_s (s : MST) (r n sd k : Nat) : mixS s r n sd (k + 1) = mixS s r n sd k + (if hitsP s r n ≤ hitsP (sa s 14 (mixT s r n (sd + k))) r n then 1 else 0) := rfl
def R_mixed (s : MST) (x d n : Int32) : Int32 × MST := if (inN x (vI s 18) && inN d 100000 && inR n 1 50) = true then (nI (mixS s x.toNatClampNeg (rsz s x.toNatClampNeg) d.toNatClampNeg n.toNatClampNeg), s) else (-2, s)
set_option maxRecDepth 4000 in
theorem f_mixed (hm : MI m) (hV : MV s) (x d n : Int32) : Fn X 2 0 0 yX12_mixed cX12_mixed 8 (some .int) [.ref (m 65), .int x, .int d, .int n] (mh m s h0) (fun rv hv => rv = some (.int (R_mixed s x d n).1) ∧ ∃ s' : MST, hv = mh m s' h0 ∧ SP s' (R_mixed s x d n).2) := by
  obtain ⟨⟨hn18, hb18⟩, hl18⟩ := id hV.2.1
  refine fn_of (by decide) (Nat.le_of_ble_eq_true rfl) (fun M hM => ?_)
  refine a_aload_n (pc := 0) dX12_mixed_0 rfl rfl ?_
  refine a_iload_n (pc := 1) dX12_mixed_1 rfl rfl ?_
  refine a_callV (pc := 2) km_X12_157 dX12_mixed_2 (f_isRun hm hn18 (by omega) _) rfl rfl (krecv_of (ci := 12) rfl (m_obj hm)) (rok_of hM (by decide) (by decide) (by omega) (by omega)) (Nat.le_of_ble_eq_true rfl) (fun r2 h2 hp2 => ?_)
  obtain ⟨rfl, rfl⟩ := hp2
  refine a_if_eqB (pc := 5) (tgt := 32) dX12_mixed_5 (by decide) (fun c5 => ?_) (fun c5 => ?_)
  · refine a_bipush (pc := 32) dX12_mixed_32 ib_m2 ?_
    refine a_ret_i (pc := 34) hM rfl (rfl) dX12_mixed_34 (by omega) (by omega) ?_
    exact ⟨by first | simp only [R_mixed, er, c5, Bool.and_self, Bool.and_true, Bool.true_and, Bool.and_false, Bool.false_and, Bool.false_eq_true, Nat.add_sub_cancel, reduceIte] | simp only [R_mixed, c5, Bool.and_self, Bool.and_true, Bool.true_and, Bool.and_false, Bool.false_and, Bool.false_eq_true, Nat.add_sub_cancel, reduceIte], _, rfl, by first | (simp only [R_mixed, er, c5, Bool.and_self, Bool.and_true, Bool.true_and, Bool.and_false, Bool.false_and, Bool.false_eq_true, Nat.add_sub_cancel, reduceIte]; exact SP.rfl) | (simp only [R_mixed, c5, Bool.and_self, Bool.and_true, Bool.true_and, Bool.and_false, Bool.false_and, Bool.false_eq_true, Nat.add_sub_cancel, reduceIte]; exact SP.rfl)⟩
  · obtain ⟨r, hr, rfl⟩ := inN_of c5 (by omega)
    obtain ⟨hr16, hz, hz1, hz2⟩ := MV_run hV hr
    have er : (nI r).toNatClampNeg = r := nI_clamp (by omega)
    refine a_iload_n (pc := 8) dX12_mixed_8 rfl rfl ?_
    refine a_i2l (pc := 9) dX12_mixed_9 ?_
    refine a_lconst (pc := 10) (v := lN 0) dX12_mixed_10 rfl ?_
    refine a_ldc2 (pc := 11) kc_X12_148 dX12_mixed_11 ?_
    refine a_topl (z := lN 99999) rfl ?_
    refine a_callS (pc := 14) km_X12_142 dX12_mixed_14 (f_in _ _ _) rfl rfl (rok_of hM (by decide) (by decide) (by omega) (by omega)) (Nat.le_of_ble_eq_true rfl) (fun r14 h14 hp14 => ?_)
    obtain ⟨rfl, rfl⟩ := hp14
    refine a_topi (congrArg bI (in_rng2 (x := d) (n := 100000) (k := 99999) (by omega) (by omega))) ?_
    refine a_if_eqB (pc := 17) (tgt := 32) dX12_mixed_17 (by decide) (fun c17 => ?_) (fun c17 => ?_)
    · refine a_bipush (pc := 32) dX12_mixed_32 ib_m2 ?_
      refine a_ret_i (pc := 34) hM rfl (rfl) dX12_mixed_34 (by omega) (by omega) ?_
      exact ⟨by first | simp only [R_mixed, er, c5, c17, Bool.and_self, Bool.and_true, Bool.true_and, Bool.and_false, Bool.false_and, Bool.false_eq_true, Nat.add_sub_cancel, reduceIte] | simp only [R_mixed, c5, c17, Bool.and_self, Bool.and_true, Bool.true_and, Bool.and_false, Bool.false_and, Bool.false_eq_true, Nat.add_sub_cancel, reduceIte], _, rfl, by first | (simp only [R_mixed, er, c5, c17, Bool.and_self, Bool.and_true, Bool.true_and, Bool.and_false, Bool.false_and, Bool.false_eq_true, Nat.add_sub_cancel, reduceIte]; exact SP.rfl) | (simp only [R_mixed, c5, c17, Bool.and_self, Bool.and_true, Bool.true_and, Bool.and_false, Bool.false_and, Bool.false_eq_true, Nat.add_sub_cancel, reduceIte]; exact SP.rfl)⟩
    · refine a_iload_n (pc := 20) dX12_mixed_20 rfl rfl ?_
      refine a_i2l (pc := 21) dX12_mixed_21 ?_
      refine a_lconst (pc := 22) (v := lN 1) dX12_mixed_22 rfl ?_
      refine a_ldc2 (pc := 23) kc_X12_227 dX12_mixed_23 ?_
      refine a_topl (z := lN 50) rfl ?_
      refine a_callS (pc := 26) km_X12_142 dX12_mixed_26 (f_in _ _ _) rfl rfl (rok_of hM (by decide) (by decide) (by omega) (by omega)) (Nat.le_of_ble_eq_true rfl) (fun r26 h26 hp26 => ?_)
      obtain ⟨rfl, rfl⟩ := hp26
      refine a_topi (congrArg bI (in_rng3 (x := n) (a := 1) (b := 50) (by decide) (by decide))) ?_
      refine a_if_neB (pc := 29) (tgt := 35) dX12_mixed_29 (by decide) (fun c29 => ?_) (fun c29 => ?_)
      · obtain ⟨sd, hsd, rfl⟩ := inN_of c17 (by omega)
        have esd : (nI sd).toNatClampNeg = sd := nI_clamp (by omega)
        obtain ⟨n, hn1, hn50, rfl⟩ := inR_of c29 (by omega)
        have en : (nI n).toNatClampNeg = n := nI_clamp (by omega)
        have hcc : (inN (nI r) (vI s 18) && inN (nI sd) 100000 && inR (nI n) 1 50) = true := by rw [c5, c17, c29]; rfl
        have hh1 : hitsP s r (rsz s r) ≤ rsz s r := cntN_le _ _
        refine a_aload_n (pc := 35) dX12_mixed_35 rfl rfl ?_
        refine a_iload_n (pc := 36) dX12_mixed_36 rfl rfl ?_
        refine a_callV (pc := 37) km_X12_183 dX12_mixed_37 (f_hitsOf hm hr16 hz) rfl rfl (krecv_of (ci := 12) rfl (m_obj hm)) (rok_of hM (by decide) (by decide) (by omega) (by omega)) (Nat.le_of_ble_eq_true rfl) (fun r37 h37 hp37 => ?_)
        obtain ⟨rfl, rfl⟩ := hp37
        refine a_istore (pc := 40) dX12_mixed_40 (by decide) rfl ?_
        refine a_iconst (pc := 42) dX12_mixed_42 ic_0 ?_
        refine a_istore (pc := 43) dX12_mixed_43 (by decide) rfl ?_
        have loop1 : ∀ j i : Nat, rsz s r - i = j → i ≤ rsz s r →  AJ X M yX12_mixed cX12_mixed 8 (some .int) 45 [(0, .ref (m 65)), (1, .int (nI r)), (2, .int (nI sd)), (3, .int (nI n)), (4, .int (nI (hitsP s r (rsz s r)))), (5, .int (nI i))] [] (mh m (sa s 51 (fillO (fun j => s.2.1 14 (25 * r + j)) (s.2.1 51) 0 i)) h0) 0 0 := by
          intro j
          induction j with
          | zero =>
            intro i hjk hkN
            refine a_iload (pc := 45) dX12_mixed_45 rfl ?_
            refine a_aload_n (pc := 47) dX12_mixed_47 rfl rfl ?_
            refine a_iload_n (pc := 48) dX12_mixed_48 rfl rfl ?_
            refine a_callV (pc := 49) km_X12_161 dX12_mixed_49 (f_sizeOf (s := sa s 51 (fillO (fun j => s.2.1 14 (25 * r + j)) (s.2.1 51) 0 i)) hm hr16 hz) rfl rfl (krecv_of (ci := 12) rfl (m_obj hm)) (rok_of hM (by decide) (by decide) (by omega) (by omega)) (Nat.le_of_ble_eq_true rfl) (fun r49 h49 hp49 => ?_)
            obtain ⟨rfl, rfl⟩ := hp49
            refine a_icmp_geN (pc := 52) (tgt := 80) dX12_mixed_52 (by decide) (by omega) (by omega) (fun c52 => ?_) (fun c52 => ?_)
            · have hin : i = rsz s r := by omega
              subst hin
              obtain ⟨C, hCe⟩ : ∃ C, C = fillO (fun j => s.2.1 14 (25 * r + j)) (s.2.1 51) 0 (rsz s r) := ⟨_, rfl⟩
              have hC : ∀ i, i < rsz s r → C i = s.2.1 14 (25 * r + i) := fun i hi => by rw [hCe, fillO_in (Nat.zero_le _) (by omega), Nat.sub_zero]
              rw [← hCe]
              refine a_iconst (pc := 80) dX12_mixed_80 ic_0 ?_
              refine a_istore (pc := 81) dX12_mixed_81 (by decide) rfl ?_
              refine a_iconst (pc := 83) dX12_mixed_83 ic_0 ?_
              refine a_istore (pc := 84) dX12_mixed_84 (by decide) rfl ?_
              have outer : ∀ j k : Nat, n - k = j → k ≤ n →  AJ X M yX12_mixed cX12_mixed 8 (some .int) 86 [(0, .ref (m 65)), (1, .int (nI r)), (2, .int (nI sd)), (3, .int (nI n)), (4, .int (nI (hitsP s r (rsz s r)))), (5, .int (nI (mixS s r (rsz s r) sd k))), (6, .int (nI k))] [] (mh m (sa s 51 C) h0) 0 0 := by
                intro j
                induction j with
                | zero =>
                  intro k hjk hkN
                  have hmx : mixS s r (rsz s r) sd k ≤ 1 * k := sumN_le (fun j => by show (if _ then 1 else 0) ≤ 1; split <;> omega) k
                  refine a_iload (pc := 86) dX12_mixed_86 rfl ?_
                  refine a_iload_n (pc := 88) dX12_mixed_88 rfl rfl ?_
                  refine a_icmp_geN (pc := 89) (tgt := 165) dX12_mixed_89 (by decide) (by omega) (by omega) (fun c89 => ?_) (fun c89 => ?_)
                  · have hkn : k = n := by omega
                    subst hkn
                    refine a_iload (pc := 165) dX12_mixed_165 rfl ?_
                    refine a_ret_i (pc := 167) hM rfl (rfl) dX12_mixed_167 (by omega) (by omega) ?_
                    exact ⟨by rw [R_mixed, er, esd, en, if_pos hcc], _, rfl, by rw [R_mixed, er, if_pos hcc]; exact SP.sa (by decide) SP.rfl⟩
                  · exact absurd c89 (by omega)
                | succ j ih =>
                  intro k hjk hkN
                  have hmx : mixS s r (rsz s r) sd k ≤ 1 * k := sumN_le (fun j => by show (if _ then 1 else 0) ≤ 1; split <;> omega) k
                  refine a_iload (pc := 86) dX12_mixed_86 rfl ?_
                  refine a_iload_n (pc := 88) dX12_mixed_88 rfl rfl ?_
                  refine a_icmp_geN (pc := 89) (tgt := 165) dX12_mixed_89 (by decide) (by omega) (by omega) (fun c89 => ?_) (fun c89 => ?_)
                  · exact absurd c89 (by omega)
                  · refine a_aload_n (pc := 92) dX12_mixed_92 rfl rfl ?_
                    refine a_iload_n (pc := 93) dX12_mixed_93 rfl rfl ?_
                    refine a_iload_n (pc := 94) dX12_mixed_94 rfl rfl ?_
                    refine a_iload (pc := 95) dX12_mixed_95 rfl ?_
                    refine a_iaddN (pc := 97) dX12_mixed_97 ?_
                    refine a_callV (pc := 98) km_X12_179 dX12_mixed_98 (f_mixes (s := sa s 51 C) hm hr16 hz hz1 (by omega)) rfl rfl (krecv_of (ci := 12) rfl (m_obj hm)) (rok_of hM (by decide) (by decide) (by omega) (by omega)) (Nat.le_of_ble_eq_true rfl) (fun r98 h98 hp98 => ?_)
                    obtain ⟨rfl, rfl⟩ := hp98
                    refine a_hp (show _ = mh m (sa (sa s 51 C) 14 (mixT s r (rsz s r) (sd + k))) h0 from rfl) ?_
                    refine a_iload (pc := 101) dX12_mixed_101 rfl ?_
                    refine a_aload_n (pc := 103) dX12_mixed_103 rfl rfl ?_
                    refine a_iload_n (pc := 104) dX12_mixed_104 rfl rfl ?_
                    refine a_callV (pc := 105) km_X12_183 dX12_mixed_105 (f_hitsOf (s := (sa (sa s 51 C) 14 (mixT s r (rsz s r) (sd + k)))) hm hr16 hz) rfl rfl (krecv_of (ci := 12) rfl (m_obj hm)) (rok_of hM (by decide) (by decide) (by omega) (by omega)) (Nat.le_of_ble_eq_true rfl) (fun r105 h105 hp105 => ?_)
                    obtain ⟨rfl, rfl⟩ := hp105
                    refine a_topi (show _ = nI (hitsP (sa s 14 (mixT s r (rsz s r) (sd + k))) r (rsz s r)) from rfl) ?_
                    have hh1 : hitsP s r (rsz s r) ≤ rsz s r := cntN_le _ _
                    have hh2 : hitsP (sa s 14 (mixT s r (rsz s r) (sd + k))) r (rsz s r) ≤ rsz s r := cntN_le _ _
                    refine a_iload (pc := 108) dX12_mixed_108 rfl ?_
                    refine a_icmp_ltN (pc := 110) (tgt := 117) dX12_mixed_110 (by decide) (by omega) (by omega) (fun c110 => ?_) (fun c110 => ?_)
                    · have hs1 : mixS s r (rsz s r) sd k + 0 = mixS s r (rsz s r) sd (k + 1) := by rw [mixS_s, if_neg (Nat.not_le.mpr c110)]
                      refine a_iconst (pc := 117) dX12_mixed_117 ic_0 ?_
                      refine a_iaddN (pc := 118) dX12_mixed_118 ?_
                      refine a_topi (congrArg nI hs1) ?_
                      refine a_istore (pc := 119) dX12_mixed_119 (by decide) rfl ?_
                      refine a_iconst (pc := 121) dX12_mixed_121 ic_0 ?_
                      refine a_istore (pc := 122) dX12_mixed_122 (by decide) rfl ?_
                      have inner : ∀ j i : Nat, rsz s r - i = j → i ≤ rsz s r →  AJ X M yX12_mixed cX12_mixed 8 (some .int) 124 [(0, .ref (m 65)), (1, .int (nI r)), (2, .int (nI sd)), (3, .int (nI n)), (4, .int (nI (hitsP s r (rsz s r)))), (5, .int (nI (mixS s r (rsz s r) sd (k + 1)))), (6, .int (nI k)), (7, .int (nI i))] [] (mh m (sa (sa s 51 C) 14 (fillO (fun j => s.2.1 14 (25 * r + j)) (mixT s r (rsz s r) (sd + k)) (25 * r) i)) h0) 0 0 := by
                        intro j
                        induction j with
                        | zero =>
                          intro i hjk hkN
                          refine a_iload (pc := 124) dX12_mixed_124 rfl ?_
                          refine a_aload_n (pc := 126) dX12_mixed_126 rfl rfl ?_
                          refine a_iload_n (pc := 127) dX12_mixed_127 rfl rfl ?_
                          refine a_callV (pc := 128) km_X12_161 dX12_mixed_128 (f_sizeOf (s := sa (sa s 51 C) 14 (fillO (fun j => s.2.1 14 (25 * r + j)) (mixT s r (rsz s r) (sd + k)) (25 * r) i)) hm hr16 hz) rfl rfl (krecv_of (ci := 12) rfl (m_obj hm)) (rok_of hM (by decide) (by decide) (by omega) (by omega)) (Nat.le_of_ble_eq_true rfl) (fun r128 h128 hp128 => ?_)
                          obtain ⟨rfl, rfl⟩ := hp128
                          refine a_icmp_geN (pc := 131) (tgt := 159) dX12_mixed_131 (by decide) (by omega) (by omega) (fun c131 => ?_) (fun c131 => ?_)
                          · have hin : i = rsz s r := by omega
                            subst hin
                            have hback : sa (sa s 51 C) 14 (fillO (fun j => s.2.1 14 (25 * r + j)) (mixT s r (rsz s r) (sd + k)) (25 * r) (rsz s r)) = sa s 51 C := by
                              have e : fillO (fun j => s.2.1 14 (25 * r + j)) (mixT s r (rsz s r) (sd + k)) (25 * r) (rsz s r) = s.2.1 14 := by
                                funext j
                                by_cases hj : 25 * r ≤ j ∧ j < 25 * r + rsz s r
                                · rw [fillO_in hj.1 hj.2]
                                  show s.2.1 14 (25 * r + (j - 25 * r)) = _
                                  rw [Nat.add_sub_of_le hj.1]
                                · rw [fillO_out (by omega)]
                                  exact mixO_out _ _ _ (by omega)
                              rw [e]
                              exact sa_id (s := sa s 51 C) (k := 14)
                            refine a_hp (congrArg (fun t => mh m t h0) hback) ?_
                            refine a_iincN (pc := 159) (n := 1) dX12_mixed_159 (by decide) rfl (by decide) rfl ?_
                            refine a_goto (pc := 162) (tgt := 86) dX12_mixed_162 (by decide) ?_
                            exact a_locR (ih (k + 1) (by omega) (by omega)) ⟨rfl, rfl, rfl, rfl, rfl, rfl, rfl, trivial⟩
                          · exact absurd c131 (by omega)
                        | succ j ih =>
                          intro i hjk hkN
                          refine a_iload (pc := 124) dX12_mixed_124 rfl ?_
                          refine a_aload_n (pc := 126) dX12_mixed_126 rfl rfl ?_
                          refine a_iload_n (pc := 127) dX12_mixed_127 rfl rfl ?_
                          refine a_callV (pc := 128) km_X12_161 dX12_mixed_128 (f_sizeOf (s := sa (sa s 51 C) 14 (fillO (fun j => s.2.1 14 (25 * r + j)) (mixT s r (rsz s r) (sd + k)) (25 * r) i)) hm hr16 hz) rfl rfl (krecv_of (ci := 12) rfl (m_obj hm)) (rok_of hM (by decide) (by decide) (by omega) (by omega)) (Nat.le_of_ble_eq_true rfl) (fun r128 h128 hp128 => ?_)
                          obtain ⟨rfl, rfl⟩ := hp128
                          refine a_icmp_geN (pc := 131) (tgt := 159) dX12_mixed_131 (by decide) (by omega) (by omega) (fun c131 => ?_) (fun c131 => ?_)
                          · exact absurd c131 (by omega)
                          · refine a_aload_n (pc := 134) dX12_mixed_134 rfl rfl ?_
                            refine a_getfield (pc := 135) kg_X12_42 dX12_mixed_135 (m_obj hm) rfl ?_
                            refine a_bipush (pc := 138) dX12_mixed_138 ib_25 ?_
                            refine a_iload_n (pc := 140) dX12_mixed_140 rfl rfl ?_
                            refine a_imulN (pc := 141) dX12_mixed_141 ?_
                            refine a_iload (pc := 142) dX12_mixed_142 rfl ?_
                            refine a_iaddN (pc := 144) dX12_mixed_144 ?_
                            refine a_aload_n (pc := 145) dX12_mixed_145 rfl rfl ?_
                            refine a_getfield (pc := 146) kg_X12_87 dX12_mixed_146 (m_obj hm) rfl ?_
                            refine a_iload (pc := 149) dX12_mixed_149 rfl ?_
                            refine a_iaload (pc := 151) dX12_mixed_151 (m_a51 hm) (_) (rfl) (by omega) (by omega) ?_
                            refine a_topi (hC i (by omega)) ?_
                            refine a_iastore (pc := 152) dX12_mixed_152 (m_a14 hm) (_) (rfl) (by omega) (by omega) ?_
                            refine a_hp (m_p14 hm) ?_
                            refine a_hp (show _ = mh m (sa (sa s 51 C) 14 (fillO (fun j => s.2.1 14 (25 * r + j)) (mixT s r (rsz s r) (sd + k)) (25 * r) (i + 1))) h0 from congrArg (fun t => mh m t h0) (sa_sa.trans (congrArg (sa _ 14) (fillO_s (f := fun j => s.2.1 14 (25 * r + j)))))) ?_
                            refine a_iincN (pc := 153) (n := 1) dX12_mixed_153 (by decide) rfl (by decide) rfl ?_
                            refine a_goto (pc := 156) (tgt := 124) dX12_mixed_156 (by decide) ?_
                            exact a_locR (ih (i + 1) (by omega) (by omega)) ⟨rfl, rfl, rfl, rfl, rfl, rfl, rfl, rfl, trivial⟩
                      refine a_hp (show _ = mh m (sa (sa s 51 C) 14 (fillO (fun j => s.2.1 14 (25 * r + j)) (mixT s r (rsz s r) (sd + k)) (25 * r) 0)) h0 by rw [fillO_0]) ?_
                      exact a_locR (inner _ 0 rfl (Nat.zero_le _)) ⟨rfl, rfl, rfl, rfl, rfl, rfl, rfl, rfl, trivial⟩
                    · have hs1 : mixS s r (rsz s r) sd k + 1 = mixS s r (rsz s r) sd (k + 1) := by rw [mixS_s, if_pos c110]
                      refine a_iconst (pc := 113) dX12_mixed_113 ic_1 ?_
                      refine a_goto (pc := 114) (tgt := 118) dX12_mixed_114 (by decide) ?_
                      refine a_iaddN (pc := 118) dX12_mixed_118 ?_
                      refine a_topi (congrArg nI hs1) ?_
                      refine a_istore (pc := 119) dX12_mixed_119 (by decide) rfl ?_
                      refine a_iconst (pc := 121) dX12_mixed_121 ic_0 ?_
                      refine a_istore (pc := 122) dX12_mixed_122 (by decide) rfl ?_
                      have inner : ∀ j i : Nat, rsz s r - i = j → i ≤ rsz s r →  AJ X M yX12_mixed cX12_mixed 8 (some .int) 124 [(0, .ref (m 65)), (1, .int (nI r)), (2, .int (nI sd)), (3, .int (nI n)), (4, .int (nI (hitsP s r (rsz s r)))), (5, .int (nI (mixS s r (rsz s r) sd (k + 1)))), (6, .int (nI k)), (7, .int (nI i))] [] (mh m (sa (sa s 51 C) 14 (fillO (fun j => s.2.1 14 (25 * r + j)) (mixT s r (rsz s r) (sd + k)) (25 * r) i)) h0) 0 0 := by
                        intro j
                        induction j with
                        | zero =>
                          intro i hjk hkN
                          refine a_iload (pc := 124) dX12_mixed_124 rfl ?_
                          refine a_aload_n (pc := 126) dX12_mixed_126 rfl rfl ?_
                          refine a_iload_n (pc := 127) dX12_mixed_127 rfl rfl ?_
                          refine a_callV (pc := 128) km_X12_161 dX12_mixed_128 (f_sizeOf (s := sa (sa s 51 C) 14 (fillO (fun j => s.2.1 14 (25 * r + j)) (mixT s r (rsz s r) (sd + k)) (25 * r) i)) hm hr16 hz) rfl rfl (krecv_of (ci := 12) rfl (m_obj hm)) (rok_of hM (by decide) (by decide) (by omega) (by omega)) (Nat.le_of_ble_eq_true rfl) (fun r128 h128 hp128 => ?_)
                          obtain ⟨rfl, rfl⟩ := hp128
                          refine a_icmp_geN (pc := 131) (tgt := 159) dX12_mixed_131 (by decide) (by omega) (by omega) (fun c131 => ?_) (fun c131 => ?_)
                          · have hin : i = rsz s r := by omega
                            subst hin
                            have hback : sa (sa s 51 C) 14 (fillO (fun j => s.2.1 14 (25 * r + j)) (mixT s r (rsz s r) (sd + k)) (25 * r) (rsz s r)) = sa s 51 C := by
                              have e : fillO (fun j => s.2.1 14 (25 * r + j)) (mixT s r (rsz s r) (sd + k)) (25 * r) (rsz s r) = s.2.1 14 := by
                                funext j
                                by_cases hj : 25 * r ≤ j ∧ j < 25 * r + rsz s r
                                · rw [fillO_in hj.1 hj.2]
                                  show s.2.1 14 (25 * r + (j - 25 * r)) = _
                                  rw [Nat.add_sub_of_le hj.1]
                                · rw [fillO_out (by omega)]
                                  exact mixO_out _ _ _ (by omega)
                              rw [e]
                              exact sa_id (s := sa s 51 C) (k := 14)
                            refine a_hp (congrArg (fun t => mh m t h0) hback) ?_
                            refine a_iincN (pc := 159) (n := 1) dX12_mixed_159 (by decide) rfl (by decide) rfl ?_
                            refine a_goto (pc := 162) (tgt := 86) dX12_mixed_162 (by decide) ?_
                            exact a_locR (ih (k + 1) (by omega) (by omega)) ⟨rfl, rfl, rfl, rfl, rfl, rfl, rfl, trivial⟩
                          · exact absurd c131 (by omega)
                        | succ j ih =>
                          intro i hjk hkN
                          refine a_iload (pc := 124) dX12_mixed_124 rfl ?_
                          refine a_aload_n (pc := 126) dX12_mixed_126 rfl rfl ?_
                          refine a_iload_n (pc := 127) dX12_mixed_127 rfl rfl ?_
                          refine a_callV (pc := 128) km_X12_161 dX12_mixed_128 (f_sizeOf (s := sa (sa s 51 C) 14 (fillO (fun j => s.2.1 14 (25 * r + j)) (mixT s r (rsz s r) (sd + k)) (25 * r) i)) hm hr16 hz) rfl rfl (krecv_of (ci := 12) rfl (m_obj hm)) (rok_of hM (by decide) (by decide) (by omega) (by omega)) (Nat.le_of_ble_eq_true rfl) (fun r128 h128 hp128 => ?_)
                          obtain ⟨rfl, rfl⟩ := hp128
                          refine a_icmp_geN (pc := 131) (tgt := 159) dX12_mixed_131 (by decide) (by omega) (by omega) (fun c131 => ?_) (fun c131 => ?_)
                          · exact absurd c131 (by omega)
                          · refine a_aload_n (pc := 134) dX12_mixed_134 rfl rfl ?_
                            refine a_getfield (pc := 135) kg_X12_42 dX12_mixed_135 (m_obj hm) rfl ?_
                            refine a_bipush (pc := 138) dX12_mixed_138 ib_25 ?_
                            refine a_iload_n (pc := 140) dX12_mixed_140 rfl rfl ?_
                            refine a_imulN (pc := 141) dX12_mixed_141 ?_
                            refine a_iload (pc := 142) dX12_mixed_142 rfl ?_
                            refine a_iaddN (pc := 144) dX12_mixed_144 ?_
                            refine a_aload_n (pc := 145) dX12_mixed_145 rfl rfl ?_
                            refine a_getfield (pc := 146) kg_X12_87 dX12_mixed_146 (m_obj hm) rfl ?_
                            refine a_iload (pc := 149) dX12_mixed_149 rfl ?_
                            refine a_iaload (pc := 151) dX12_mixed_151 (m_a51 hm) (_) (rfl) (by omega) (by omega) ?_
                            refine a_topi (hC i (by omega)) ?_
                            refine a_iastore (pc := 152) dX12_mixed_152 (m_a14 hm) (_) (rfl) (by omega) (by omega) ?_
                            refine a_hp (m_p14 hm) ?_
                            refine a_hp (show _ = mh m (sa (sa s 51 C) 14 (fillO (fun j => s.2.1 14 (25 * r + j)) (mixT s r (rsz s r) (sd + k)) (25 * r) (i + 1))) h0 from congrArg (fun t => mh m t h0) (sa_sa.trans (congrArg (sa _ 14) (fillO_s (f := fun j => s.2.1 14 (25 * r + j)))))) ?_
                            refine a_iincN (pc := 153) (n := 1) dX12_mixed_153 (by decide) rfl (by decide) rfl ?_
                            refine a_goto (pc := 156) (tgt := 124) dX12_mixed_156 (by decide) ?_
                            exact a_locR (ih (i + 1) (by omega) (by omega)) ⟨rfl, rfl, rfl, rfl, rfl, rfl, rfl, rfl, trivial⟩
                      refine a_hp (show _ = mh m (sa (sa s 51 C) 14 (fillO (fun j => s.2.1 14 (25 * r + j)) (mixT s r (rsz s r) (sd + k)) (25 * r) 0)) h0 by rw [fillO_0]) ?_
                      exact a_locR (inner _ 0 rfl (Nat.zero_le _)) ⟨rfl, rfl, rfl, rfl, rfl, rfl, rfl, rfl, trivial⟩
              exact a_locR (outer _ 0 rfl (Nat.zero_le _)) ⟨rfl, rfl, rfl, rfl, rfl, rfl, rfl, trivial⟩
            · exact absurd c52 (by omega)
          | succ j ih =>
            intro i hjk hkN
            refine a_iload (pc := 45) dX12_mixed_45 rfl ?_
            refine a_aload_n (pc := 47) dX12_mixed_47 rfl rfl ?_
            refine a_iload_n (pc := 48) dX12_mixed_48 rfl rfl ?_
            refine a_callV (pc := 49) km_X12_161 dX12_mixed_49 (f_sizeOf (s := sa s 51 (fillO (fun j => s.2.1 14 (25 * r + j)) (s.2.1 51) 0 i)) hm hr16 hz) rfl rfl (krecv_of (ci := 12) rfl (m_obj hm)) (rok_of hM (by decide) (by decide) (by omega) (by omega)) (Nat.le_of_ble_eq_true rfl) (fun r49 h49 hp49 => ?_)
            obtain ⟨rfl, rfl⟩ := hp49
            refine a_icmp_geN (pc := 52) (tgt := 80) dX12_mixed_52 (by decide) (by omega) (by omega) (fun c52 => ?_) (fun c52 => ?_)
            · exact absurd c52 (by omega)
            · refine a_aload_n (pc := 55) dX12_mixed_55 rfl rfl ?_
              refine a_getfield (pc := 56) kg_X12_87 dX12_mixed_56 (m_obj hm) rfl ?_
              refine a_iload (pc := 59) dX12_mixed_59 rfl ?_
              refine a_aload_n (pc := 61) dX12_mixed_61 rfl rfl ?_
              refine a_getfield (pc := 62) kg_X12_42 dX12_mixed_62 (m_obj hm) rfl ?_
              refine a_bipush (pc := 65) dX12_mixed_65 ib_25 ?_
              refine a_iload_n (pc := 67) dX12_mixed_67 rfl rfl ?_
              refine a_imulN (pc := 68) dX12_mixed_68 ?_
              refine a_iload (pc := 69) dX12_mixed_69 rfl ?_
              refine a_iaddN (pc := 71) dX12_mixed_71 ?_
              refine a_iaload (pc := 72) dX12_mixed_72 (m_a14 hm) (_) (rfl) (by omega) (by omega) ?_
              refine a_iastore (pc := 73) dX12_mixed_73 (m_a51 hm) (0 + i) (by rw [Nat.zero_add]) (by omega) (by omega) ?_
              refine a_hp (m_p51 hm) ?_
              refine a_hp (show _ = mh m (sa s 51 (fillO (fun j => s.2.1 14 (25 * r + j)) (s.2.1 51) 0 (i + 1))) h0 from congrArg (fun t => mh m t h0) (sa_sa.trans (congrArg (sa s 51) (fillO_s (f := fun j => s.2.1 14 (25 * r + j)))))) ?_
              refine a_iincN (pc := 74) (n := 1) dX12_mixed_74 (by decide) rfl (by decide) rfl ?_
              refine a_goto (pc := 77) (tgt := 45) dX12_mixed_77 (by decide) ?_
              exact a_locR (ih (i + 1) (by omega) (by omega)) ⟨rfl, rfl, rfl, rfl, rfl, rfl, trivial⟩
        refine a_hp (show _ = mh m (sa s 51 (fillO (fun j => s.2.1 14 (25 * r + j)) (s.2.1 51) 0 0)) h0 by rw [fillO_0, sa_id]) ?_
        exact a_locR (loop1 _ 0 rfl (Nat.zero_le _)) ⟨rfl, rfl, rfl, rfl, rfl, rfl, trivial⟩
      · refine a_bipush (pc := 32) dX12_mixed_32 ib_m2 ?_
        refine a_ret_i (pc := 34) hM rfl (rfl) dX12_mixed_34 (by omega) (by omega) ?_
        exact ⟨by first | simp only [R_mixed, er, c5, c17, c29, Bool.and_self, Bool.and_true, Bool.true_and, Bool.and_false, Bool.false_and, Bool.false_eq_true, Nat.add_sub_cancel, reduceIte] | simp only [R_mixed, c5, c17, c29, Bool.and_self, Bool.and_true, Bool.true_and, Bool.and_false, Bool.false_and, Bool.false_eq_true, Nat.add_sub_cancel, reduceIte], _, rfl, by first | (simp only [R_mixed, er, c5, c17, c29, Bool.and_self, Bool.and_true, Bool.true_and, Bool.and_false, Bool.false_and, Bool.false_eq_true, Nat.add_sub_cancel, reduceIte]; exact SP.rfl) | (simp only [R_mixed, c5, c17, c29, Bool.and_self, Bool.and_true, Bool.true_and, Bool.and_false, Bool.false_and, Bool.false_eq_true, Nat.add_sub_cancel, reduceIte]; exact SP.rfl)⟩

end MP6

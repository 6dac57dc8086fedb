/-! THE CLASS: TAPE FED, IMAGE MADE AND LAID BACK -/
section CPG
variable {X : KX} {h : AH} {s : MST} {σ : Nat → Nat → Nat}
theorem b255 (i : Nat) : Nat.testBit 255 i = decide (i < 8) := by
  by_cases q : i < 8
  · rcases (by omega : i = 0 ∨ i = 1 ∨ i = 2 ∨ i = 3 ∨ i = 4 ∨ i = 5 ∨ i = 6 ∨ i = 7) with rfl | rfl | rfl | rfl | rfl | rfl | rfl | rfl <;> rfl
  · rw [decide_eq_false q]
    exact Nat.testBit_lt_two_pow (Nat.lt_of_lt_of_le (by decide : 255 < 2 ^ 8) (Nat.pow_le_pow_right (by decide) (by omega)))
theorem c255 {w : Nat} (hw : 8 ≤ w) (i : Nat) : (BitVec.ofNat w 255).getLsbD i = decide (i < 8) := by
  rw [BitVec.getLsbD_ofNat, b255]
  by_cases q : i < 8
  · rw [decide_eq_true (show i < w by omega), Bool.true_and]
  · rw [decide_eq_false q, Bool.and_false]
theorem bvS (x : BitVec 64) (n : Nat) (hn : n ≤ 56) : (x >>> n).signExtend 32 &&& 255#32 = ((x.sshiftRight n) &&& 255#64).signExtend 32 := by
  apply BitVec.eq_of_getLsbD_eq
  intro i hi
  rw [BitVec.getLsbD_and, BitVec.getLsbD_signExtend, BitVec.getLsbD_signExtend, BitVec.getLsbD_and, c255 (by decide), c255 (by decide), BitVec.getLsbD_ushiftRight, BitVec.getLsbD_sshiftRight]
  rw [decide_eq_true hi, if_pos (show i < 64 by omega), if_pos (show i < 64 by omega), Bool.true_and, Bool.true_and]
  by_cases q : i < 8
  · rw [decide_eq_true q, if_pos (show n + i < 64 by omega), decide_eq_false (show ¬ 64 ≤ i by omega)]
    simp
  · rw [decide_eq_false q, Bool.and_false, Bool.and_false]
theorem byte_eq (b : Int64) {i : Nat} (hi : i < 8) : (b.toUInt64 >>> ((nI (8 * i)).toInt64.toUInt64 &&& Int64.toUInt64 63)).toInt64.toInt32 &&& nI 255 = byteP b i := by
  rcases (by omega : i = 0 ∨ i = 1 ∨ i = 2 ∨ i = 3 ∨ i = 4 ∨ i = 5 ∨ i = 6 ∨ i = 7) with rfl | rfl | rfl | rfl | rfl | rfl | rfl | rfl <;> rw [← Int32.toBitVec_inj]
  · exact bvS b.toBitVec 0 (by decide)
  · exact bvS b.toBitVec 8 (by decide)
  · exact bvS b.toBitVec 16 (by decide)
  · exact bvS b.toBitVec 24 (by decide)
  · exact bvS b.toBitVec 32 (by decide)
  · exact bvS b.toBitVec 40 (by decide)
  · exact bvS b.toBitVec 48 (by decide)
  · exact bvS b.toBitVec 56 (by decide)
/-- a byte more on the tape -/
theorem st56 (hI : CI X σ s h) {z : Nat} {v : Int32} {f : Nat → Int32} (hz : vI s 6 = z) (hz2 : z < 160) (hf : ∀ j, j < z → f j = s.2.1 5 j) : CS X σ s h (si (sa s 5 (upd (s.2.1 5) z v)) 6 (nI (z + 1))) (kput (kput h (σ 6 0) (kI 160 (upd f z v))) (σ 5 0) (kO 8 [.ref (σ 6 0), .int (nI (z + 1))])) := by
  have e6 : vI (si (sa s 5 (upd (s.2.1 5) z v)) 6 (nI (z + 1))) 6 = z + 1 := by
    show ((si (sa s 5 (upd (s.2.1 5) z v)) 6 (nI (z + 1))).1 6).toNatClampNeg = z + 1
    rw [si_e, nI_clamp (by omega)]
  refine CI.puts2 hI (fun k i => (clv_si (by decide) k i).trans (clv_sa k i)) (k1 := 6) (i1 := 0) (k2 := 5) (i2 := 0) Nat.zero_lt_one Nat.zero_lt_one ⟨upd f z v, rfl, fun j hj => ?_⟩ ?_ (fun k i e n1 n2 hk hc => ?_)
  · rw [e6] at hj
    show upd f z v j = (si (sa s 5 (upd (s.2.1 5) z v)) 6 (nI (z + 1))).2.1 5 j
    rw [si_2, sa_e]
    by_cases q : j = z
    · rw [q, pk_us, pk_us]
    · rw [pk_un q, pk_un q]
      exact hf j (by omega)
  · show kO 8 [.ref (σ 6 0), .int (nI (z + 1))] = kO 8 [.ref (σ 6 0), .int ((si (sa s 5 (upd (s.2.1 5) z v)) 6 (nI (z + 1))).1 6)]
    rw [si_e]
  · have q6 : k ≠ 6 := fun y => n1 ⟨y, by subst y; exact Nat.lt_one_iff.mp hk⟩
    have q5 : k ≠ 5 := fun y => n2 ⟨y, by subst y; exact Nat.lt_one_iff.mp hk⟩
    exact CP_si (nd_6 k q5 q6) (CP_sa (nD_5 k q6) hc)
theorem fd_0 (b : Int64) (h6 : s.1 6 = nI (vI s 6)) : N_feed s 0 b = s := by
  unfold N_feed feedF
  rw [sa_id, Nat.add_zero, ← h6, si_id]
theorem fd_s (b : Int64) (k : Nat) : si (sa (N_feed s k b) 5 (upd ((N_feed s k b).2.1 5) (vI s 6 + k) (byteP b k))) 6 (nI (vI s 6 + k + 1)) = N_feed s (k + 1) b := by
  have e5 : (N_feed s k b).2.1 5 = feedF (s.2.1 5) (vI s 6) b k := by unfold N_feed; rw [si_2, sa_e]
  rw [e5]
  unfold N_feed
  rw [sa_si, si_si, sa_sa]
  rfl
theorem c_tp (hI : CI X σ s h) {z : Nat} (hz : vI s 6 = z) (h6 : s.1 6 = nI z) (hb : z ≤ 160) : ∃ f : Nat → Int32, TP h (σ 5 0) (σ 6 0) z f ∧ ∀ j, j < z → f j = s.2.1 5 j := by
  obtain ⟨e, he, hc⟩ := hI.2 5 0 Nat.zero_lt_one
  obtain ⟨e2, he2, f, rfl, hf⟩ := hI.2 6 0 Nat.zero_lt_one
  have hc : e = kO 8 [.ref (σ 6 0), .int (s.1 6)] := hc
  rw [h6] at hc
  exact ⟨f, ⟨hc ▸ he, he2, hb⟩, fun j hj => hf j (by rw [hz]; exact hj)⟩
set_option maxRecDepth 4000 in
theorem f_cfeed (hI : CI X σ s h) (hV : MV s) (n : Int32) (b : Int64) : Fn X 3 0 0 yX11_feed cX11_feed 5 (some .int) [.ref (σ 0 0), .int n, .long b] h (fun rv hv => rv = some (.int (R_feed s n b).1) ∧ CE X σ s h (R_feed s n b).2 hv) := by
  obtain ⟨hn6, hb6⟩ := id hV.2.2.2.2.2.2.1.2.2.2.1
  obtain ⟨f0, hT0, hf0⟩ := c_tp hI rfl hn6 hb6
  refine fn_of (by decide) (Nat.le_of_ble_eq_true rfl) (fun M hM => ?_)
  refine a_iload_n (pc := 0) dX11_feed_0 rfl rfl ?_
  refine a_iconst (pc := 1) dX11_feed_1 ic_1 ?_
  refine a_bipush (pc := 2) dX11_feed_2 ib_8 ?_
  refine a_callS (pc := 4) km_X11_86 dX11_feed_4 (f_withN n (by decide) (by decide)) rfl rfl (rok_of hM (by decide) (by decide) (by omega) (by omega)) (Nat.le_of_ble_eq_true rfl) (fun r4 h4 hp4 => ?_)
  obtain ⟨rfl, rfl⟩ := And.intro hp4.1 hp4.2.symm
  refine a_if_neB (pc := 7) (tgt := 13) dX11_feed_7 (by decide) (fun c7 => ?_) (fun c7 => ?_)
  · obtain ⟨n, hn1, hn8, rfl⟩ := inR1_of c7
    have ej : (nI n).toNatClampNeg = n := nI_clamp (by omega)
    refine a_aload_n (pc := 13) dX11_feed_13 rfl rfl ?_
    refine a_getfield (pc := 14) kg_X11_37 dX11_feed_14 (c_fc hI) rfl ?_
    refine a_getfield (pc := 17) kg_X11_230 dX11_feed_17 (hT0.1) rfl ?_
    refine a_topi (show nI (vI s 6) = nI (vI s 6) from rfl) ?_
    refine a_iload_n (pc := 20) dX11_feed_20 rfl rfl ?_
    refine a_iaddN (pc := 21) dX11_feed_21 ?_
    refine a_sipush (pc := 22) dX11_feed_22 is_160 ?_
    refine a_icmp_leN (pc := 25) (tgt := 31) dX11_feed_25 (by decide) (by omega) (by omega) (fun c25 => ?_) (fun c25 => ?_)
    · refine a_iconst (pc := 31) dX11_feed_31 ic_0 ?_
      refine a_istore (pc := 32) dX11_feed_32 (by decide) rfl ?_
      have lp : ∀ (d k : Nat) (hh : AH), n - k = d → k ≤ n → (CS X σ s h (N_feed s k b) hh) → AJ X M yX11_feed cX11_feed 5 (some .int) 34 [(0, .ref (σ 0 0)), (1, .int (nI n)), (2, .long b), (4, .int (nI k))] [] hh 0 0 := by
        intro d
        induction d with
        | zero =>
          intro k hh hd hle hJ
          have e6 : vI (N_feed s k b) 6 = vI s 6 + k := by show ((N_feed s k b).1 6).toNatClampNeg = _; unfold N_feed; rw [si_e, nI_clamp (by omega)]
          have h6 : (N_feed s k b).1 6 = nI (vI s 6 + k) := by unfold N_feed; rw [si_e]
          obtain ⟨f, hT, hf⟩ := c_tp hJ.2.1 e6 h6 (by omega)
          refine a_iload (pc := 34) dX11_feed_34 rfl ?_
          refine a_iload_n (pc := 36) dX11_feed_36 rfl rfl ?_
          refine a_icmp_geN (pc := 37) (tgt := 65) dX11_feed_37 (by decide) (by omega) (by omega) (fun c37 => ?_) (fun c37 => ?_)
          · have hkn : k = n := by omega
            subst hkn
            refine a_aload_n (pc := 65) dX11_feed_65 rfl rfl ?_
            refine a_getfield (pc := 66) kg_X11_37 dX11_feed_66 (c_fc hJ.2.1) rfl ?_
            refine a_getfield (pc := 69) kg_X11_230 dX11_feed_69 (hT.1) rfl ?_
            refine a_topi (show nI (vI s 6 + k) = nI (vI s 6 + k) from rfl) ?_
            refine a_ret_i (pc := 72) hM rfl (rfl) dX11_feed_72 (by omega) (by omega) ?_
            exact pubI (by unfold R_feed; rw [c7, ej]; exact (if_pos rfl).trans (if_pos c25)) rfl hJ.ce
          · exact absurd c37 (by omega)
        | succ d ih =>
          intro k hh hd hle hJ
          have e6 : vI (N_feed s k b) 6 = vI s 6 + k := by show ((N_feed s k b).1 6).toNatClampNeg = _; unfold N_feed; rw [si_e, nI_clamp (by omega)]
          have h6 : (N_feed s k b).1 6 = nI (vI s 6 + k) := by unfold N_feed; rw [si_e]
          obtain ⟨f, hT, hf⟩ := c_tp hJ.2.1 e6 h6 (by omega)
          refine a_iload (pc := 34) dX11_feed_34 rfl ?_
          refine a_iload_n (pc := 36) dX11_feed_36 rfl rfl ?_
          refine a_icmp_geN (pc := 37) (tgt := 65) dX11_feed_37 (by decide) (by omega) (by omega) (fun c37 => ?_) (fun c37 => ?_)
          · exact absurd c37 (by omega)
          · refine a_aload_n (pc := 40) dX11_feed_40 rfl rfl ?_
            refine a_getfield (pc := 41) kg_X11_37 dX11_feed_41 (c_fc hJ.2.1) rfl ?_
            refine a_lload_n (pc := 44) dX11_feed_44 rfl rfl ?_
            refine a_bipush (pc := 45) dX11_feed_45 ib_8 ?_
            refine a_iload (pc := 47) dX11_feed_47 rfl ?_
            refine a_imulN (pc := 49) dX11_feed_49 ?_
            refine a_lushr (pc := 50) dX11_feed_50 ?_
            refine a_l2i (pc := 51) dX11_feed_51 ?_
            refine a_sipush (pc := 52) dX11_feed_52 is_255 ?_
            refine a_iand (pc := 55) dX11_feed_55 ?_
            refine a_topi (byte_eq b (by omega)) ?_
            refine a_callV (pc := 56) km_X11_78 dX11_feed_56 (f_tadd hT (byteP b k) (by omega)) rfl rfl (krecv_of (ci := 8) rfl hT.1) (rok_of hM (by decide) (by decide) (by omega) (by omega)) (Nat.le_of_ble_eq_true rfl) (fun r56 h56 hp56 => ?_)
            obtain ⟨rfl, rfl⟩ := And.intro hp56.1 hp56.2.symm
            refine a_iincN (pc := 59) (n := 1) dX11_feed_59 (by decide) rfl (by decide) rfl ?_
            refine a_goto (pc := 62) (tgt := 34) dX11_feed_62 (by decide) ?_
            have hN := hJ.tr (st56 (v := byteP b k) hJ.2.1 e6 (by omega) hf)
            rw [fd_s] at hN
            exact a_locR (ih (k + 1) _ (by omega) (by omega) hN) ⟨rfl, rfl, rfl, rfl, trivial⟩
      exact a_locR (lp _ 0 _ rfl (Nat.zero_le _) (by rw [fd_0 b hn6]; exact CS.rf hI)) ⟨rfl, rfl, rfl, rfl, trivial⟩
    · refine a_bipush (pc := 28) dX11_feed_28 ib_m4 ?_
      refine a_ret_i (pc := 30) hM rfl (rfl) dX11_feed_30 (by omega) (by omega) ?_
      exact pubI (by unfold R_feed; rw [c7, ej]; exact (if_pos rfl).trans (if_neg (by omega))) rfl (CS.rf hI).ce
  · refine a_bipush (pc := 10) dX11_feed_10 ib_m2 ?_
    refine a_ret_i (pc := 12) hM rfl (rfl) dX11_feed_12 (by omega) (by omega) ?_
    exact pubI (by unfold R_feed; rw [c7]; rfl) rfl (CS.rf hI).ce

def N_u1 (s : MST) : MST := si (si s 57 (nI 2)) 58 (nI (vI s 18))
def N_u2 (s : MST) : MST := si (N_u1 s) 59 (nI (vI s 28))
def N_u3 (s : MST) : MST := si (N_u2 s) 60 (s.1 4)
theorem u3_2 : (N_u3 s).2 = s.2 := rfl
theorem u3_57 : (N_u3 s).1 57 = nI 2 := by unfold N_u3 N_u2 N_u1; rw [si_n (by decide), si_n (by decide), si_n (by decide), si_e]
theorem u2_57 : (N_u2 s).1 57 = nI 2 := by unfold N_u2 N_u1; rw [si_n (by decide), si_n (by decide), si_e]
theorem u1_57 : (N_u1 s).1 57 = nI 2 := by unfold N_u1; rw [si_n (by decide), si_e]
theorem u3_58 : (N_u3 s).1 58 = nI (vI s 18) := by unfold N_u3 N_u2 N_u1; rw [si_n (by decide), si_n (by decide), si_e]
theorem u3_59 : (N_u3 s).1 59 = nI (vI s 28) := by unfold N_u3 N_u2; rw [si_n (by decide), si_e]
theorem u3_60 : (N_u3 s).1 60 = s.1 4 := by unfold N_u3; rw [si_e]
theorem u3_o {j : Nat} (h1 : j ≠ 57) (h2 : j ≠ 58) (h3 : j ≠ 59) (h4 : j ≠ 60) : (N_u3 s).1 j = s.1 j := by unfold N_u3 N_u2 N_u1; rw [si_n h4, si_n h3, si_n h2, si_n h1]
theorem no2 {x : Int32} (h : x = nI 2) (z : x = nI 1) : False := by rw [h] at z; exact absurd z (by decide)
theorem stI1 (hI : CI X σ s h) : CS X σ s h (N_u1 s) (kput h (σ 0 0) (kO 11 ((cfl σ s).set 11 (.int (nI (vI s 18)))))) :=
  CI.puts1 hI (fun k i => (clv_si (by decide) k i).trans (clv_si (by decide) k i)) (k1 := 0) (i1 := 0) Nat.zero_lt_one (by
    show _ = kO 11 (cfl σ (N_u1 s))
    unfold cfl
    rw [u1_57, if_neg (show ¬ nI 2 = 0 by decide)]
    unfold N_u1
    rw [si_e, si_n (by decide), si_n (by decide), si_n (by decide), si_n (by decide), si_n (by decide), si_n (by decide)]
    rfl) (fun q i e hn hk hc => by
    by_cases z : q = 0
    · subst z
      exact absurd ⟨rfl, Nat.lt_one_iff.mp hk⟩ hn
    · by_cases z1 : q = 17
      · subst z1
        obtain ⟨a, b, rfl, -⟩ := hc
        exact ⟨a, b, rfl, fun y => (no2 u1_57 y).elim⟩
      · by_cases z2 : q = 22
        · subst z2
          obtain ⟨a, rfl, -⟩ := hc
          exact ⟨a, rfl, fun y => (no2 u1_57 y).elim⟩
        · by_cases z3 : q = 23
          · subst z3
            obtain ⟨a, rfl, -⟩ := hc
            exact ⟨a, rfl, fun y => (no2 u1_57 y).elim⟩
          · by_cases z4 : q = 24
            · subst z4
              obtain ⟨a, rfl, -⟩ := hc
              exact ⟨a, rfl, fun y => (no2 u1_57 y).elim⟩
            · exact CP_si (nd_58 q z z1 z2 z3) (CP_si (nd_57 q z z1 z2 z3 z4) hc))
theorem stI2 (hI : CI X σ (N_u1 s) h) : CS X σ (N_u1 s) h (N_u2 s) (kput h (σ 0 0) (kO 11 ((cfl σ (N_u1 s)).set 12 (.int (nI (vI s 28)))))) :=
  CI.puts1 hI (fun k i => clv_si (by decide) k i) (k1 := 0) (i1 := 0) Nat.zero_lt_one (by
    show _ = kO 11 (cfl σ (N_u2 s))
    unfold cfl
    unfold N_u2
    rw [si_e, si_n (by decide), si_n (by decide), si_n (by decide), si_n (by decide)]
    rfl) (fun q i e hn hk hc => by
    by_cases z : q = 0
    · subst z
      exact absurd ⟨rfl, Nat.lt_one_iff.mp hk⟩ hn
    · by_cases z4 : q = 24
      · subst z4
        obtain ⟨a, rfl, -⟩ := hc
        exact ⟨a, rfl, fun y => (no2 u2_57 y).elim⟩
      · exact CP_si (nd_59 q z z4) hc)
theorem stI3 (hI : CI X σ (N_u2 s) h) : CS X σ (N_u2 s) h (N_u3 s) (kput h (σ 0 0) (kO 11 ((cfl σ (N_u2 s)).set 13 (.int (s.1 4))))) :=
  CI.puts1 hI (fun k i => clv_si (by decide) k i) (k1 := 0) (i1 := 0) Nat.zero_lt_one (by
    show _ = kO 11 (cfl σ (N_u3 s))
    unfold cfl
    unfold N_u3
    rw [si_e, si_n (by decide), si_n (by decide), si_n (by decide), si_n (by decide)]
    rfl) (fun q i e hn hk hc => by
    by_cases z : q = 0
    · subst z
      exact absurd ⟨rfl, Nat.lt_one_iff.mp hk⟩ hn
    · exact CP_si (nd_60 q z) hc)
/-- the image, in the end -/
def N_T (s : MST) : MST := N_im3 s (vI s 28)
theorem T_57 : (N_T s).1 57 = nI 1 := by unfold N_T N_im3 N_im2 N_im1 N_im0; simp only [sa_1]; rw [si_n (by decide), si_n (by decide), si_n (by decide), si_e]
theorem T_58 : (N_T s).1 58 = nI (vI s 18) := by unfold N_T N_im3 N_im2 N_im1 N_im0; simp only [sa_1]; rw [si_n (by decide), si_n (by decide), si_e]
theorem T_59 : (N_T s).1 59 = nI (vI s 28) := by unfold N_T N_im3 N_im2 N_im1 N_im0; simp only [sa_1]; rw [si_n (by decide), si_e]
theorem T_60 : (N_T s).1 60 = s.1 4 := by unfold N_T N_im3 N_im2 N_im1 N_im0; simp only [sa_1]; rw [si_e]
theorem T_o {j : Nat} (h1 : j ≠ 57) (h2 : j ≠ 58) (h3 : j ≠ 59) (h4 : j ≠ 60) : (N_T s).1 j = s.1 j := by unfold N_T N_im3 N_im2 N_im1 N_im0; simp only [sa_1]; rw [si_n h4, si_n h3, si_n h2, si_n h1]
theorem T_a {j : Nat} (h2 : j ≠ 52) (h3 : j ≠ 53) (h4 : j ≠ 54) (h5 : j ≠ 55) (h6 : j ≠ 56) : (N_T s).2.1 j = s.2.1 j := by unfold N_T N_im3 N_im2 N_im1 N_im0; rw [sa_n h6, sa_n h5, sa_n h4, sa_n h3, sa_n h2]; rfl
theorem T_52 : (N_T s).2.1 52 = fillO (s.2.1 14) (s.2.1 52) 0 (25 * vI s 18) := by unfold N_T N_im3 N_im2 N_im1; rw [sa_n (by decide), sa_n (by decide), sa_n (by decide), sa_n (by decide), sa_e]
theorem T_53 : (N_T s).2.1 53 = fillO (s.2.1 15) (s.2.1 53) 0 (25 * vI s 18) := by unfold N_T N_im3 N_im2 N_im1; rw [sa_n (by decide), sa_n (by decide), sa_n (by decide), sa_e]
theorem T_54 : (N_T s).2.1 54 = fillO (s.2.1 16) (s.2.1 54) 0 (vI s 18) := by unfold N_T N_im3 N_im2; rw [sa_n (by decide), sa_n (by decide), sa_e]
theorem T_55 : (N_T s).2.1 55 = fillO (s.2.1 17) (s.2.1 55) 0 (vI s 18) := by unfold N_T N_im3 N_im2; rw [sa_n (by decide), sa_e]
theorem T_56 : (N_T s).2.1 56 = fillO (s.2.1 27) (s.2.1 56) 0 (vI s 28) := by unfold N_T N_im3; rw [sa_e]
/-- what is kept of a run, of a leak -/
def KR (X : KX) (σ : Nat → Nat → Nat) (s : MST) (h : AH) (r : Nat) : Prop := (∃ e, h (σ 17 r) = some e ∧ CP X σ (N_T s) 17 r e) ∧ (∃ e, h (σ 22 r) = some e ∧ CP X σ (N_T s) 22 r e) ∧ ∃ e, h (σ 23 r) = some e ∧ CP X σ (N_T s) 23 r e
def KL (X : KX) (σ : Nat → Nat → Nat) (s : MST) (h : AH) (r : Nat) : Prop := ∃ e, h (σ 24 r) = some e ∧ CP X σ (N_T s) 24 r e
theorem im_run (hJ : CI X σ (N_u3 s) h) {i : Nat} {ks kp : Int32} {f g f2 g2 : Nat → Int32} (hi : i < vI s 18) (hf : ∀ j, j < rsz s i → f j = s.2.1 14 (25 * i + j)) (hg : ∀ j, j < rsz s i → g j = s.2.1 15 (25 * i + j)) (h25 : rsz s i ≤ 25) (hK : ∀ r, r < i → KR X σ s h r) : CS X σ (N_u3 s) h (N_u3 s) (kput (kput (kput h (σ 22 i) (kI (rsz s i) (va_cpy f f2 0 0 (rsz s i)))) (σ 23 i) (kI (rsz s i) (va_cpy g g2 0 0 (rsz s i)))) (σ 17 i) (rO (s.2.1 11 i) (s.2.1 12 i) (s.2.1 13 i) (s.2.1 16 i) (s.2.1 17 i) (s.2.1 16 i) (s.2.1 17 i) (σ 15 (vA s 11 i)) (σ 18 i) (σ 19 i) (σ 20 i) (σ 21 i) (σ 22 i) (σ 23 i))) ∧ ∀ r, r < i + 1 → KR X σ s (kput (kput (kput h (σ 22 i) (kI (rsz s i) (va_cpy f f2 0 0 (rsz s i)))) (σ 23 i) (kI (rsz s i) (va_cpy g g2 0 0 (rsz s i)))) (σ 17 i) (rO (s.2.1 11 i) (s.2.1 12 i) (s.2.1 13 i) (s.2.1 16 i) (s.2.1 17 i) (s.2.1 16 i) (s.2.1 17 i) (σ 15 (vA s 11 i)) (σ 18 i) (σ 19 i) (σ 20 i) (σ 21 i) (σ 22 i) (σ 23 i))) r := by
  have hi3 : i < vI (N_u3 s) 18 := by
    have e : vI (N_u3 s) 18 = vI s 18 := congrArg Int32.toNatClampNeg (u3_o (by decide) (by decide) (by decide) (by decide))
    rw [e]; exact hi
  have er : rsz (N_u3 s) i = rsz s i := rfl
  have eT : rsz (N_T s) i = rsz s i := rsz_cg (T_a (by decide) (by decide) (by decide) (by decide) (by decide)) (T_a (by decide) (by decide) (by decide) (by decide) (by decide)) i
  have c17 : clv (N_u3 s) 17 i := hi3
  have c22 : clv (N_u3 s) 22 i := hi3
  have c23 : clv (N_u3 s) 23 i := hi3
  have n1 : σ 17 i ≠ σ 22 i := hJ.ne c17 c22 (by omega)
  have n2 : σ 17 i ≠ σ 23 i := hJ.ne c17 c23 (by omega)
  have n3 : σ 22 i ≠ σ 23 i := hJ.ne c22 c23 (by omega)
  refine ⟨CI.puts3 hJ (fun _ _ => Iff.rfl) (k1 := 22) (i1 := i) (k2 := 23) (i2 := i) (k3 := 17) (i3 := i) c22 c23 c17 ⟨_, rfl, fun y => (no2 u3_57 y).elim⟩ ⟨_, rfl, fun y => (no2 u3_57 y).elim⟩ ⟨_, _, rfl, fun y => (no2 u3_57 y).elim⟩ (fun _ _ _ _ _ _ _ hc => hc), fun r hr => ?_⟩
  by_cases q : r = i
  · subst q
    refine ⟨⟨_, kput_eq, s.2.1 16 r, s.2.1 17 r, ?_, fun _ _ => ⟨?_, ?_⟩⟩, ⟨_, (kput_ne n1.symm).trans ((kput_ne n3).trans kput_eq), va_cpy f f2 0 0 (rsz s r), ?_, fun _ _ j hj => ?_⟩, ⟨_, (kput_ne n2.symm).trans kput_eq, va_cpy g g2 0 0 (rsz s r), ?_, fun _ _ j hj => ?_⟩⟩
    · have e11 : vA (N_T s) 11 r = vA s 11 r := congrArg (fun t => (t r).toNatClampNeg) (T_a (s := s) (j := 11) (by decide) (by decide) (by decide) (by decide) (by decide))
      rw [T_a (by decide) (by decide) (by decide) (by decide) (by decide), T_a (by decide) (by decide) (by decide) (by decide) (by decide), T_a (by decide) (by decide) (by decide) (by decide) (by decide), T_a (by decide) (by decide) (by decide) (by decide) (by decide), T_a (by decide) (by decide) (by decide) (by decide) (by decide), e11]
    · rw [T_54, fillO_in (by omega) (by omega)]; rfl
    · rw [T_55, fillO_in (by omega) (by omega)]; rfl
    · rw [eT]
    · rw [eT] at hj
      rw [T_52, fillO_in (by omega) (by omega)]
      refine (if_pos (by omega)).trans ?_
      rw [show 0 + (j - 0) = j by omega]
      exact hf j hj
    · rw [eT]
    · rw [eT] at hj
      rw [T_53, fillO_in (by omega) (by omega)]
      refine (if_pos (by omega)).trans ?_
      rw [show 0 + (j - 0) = j by omega]
      exact hg j hj
  · have hr3 : r < vI (N_u3 s) 18 := by omega
    have b17 : clv (N_u3 s) 17 r := hr3
    have b22 : clv (N_u3 s) 22 r := hr3
    have b23 : clv (N_u3 s) 23 r := hr3
    obtain ⟨⟨e1, a1, a2⟩, ⟨e2, a3, a4⟩, ⟨e3, a5, a6⟩⟩ := hK r (by omega)
    exact ⟨⟨e1, (kput_ne (hJ.ne b17 c17 (by omega))).trans ((kput_ne (hJ.ne b17 c23 (by omega))).trans ((kput_ne (hJ.ne b17 c22 (by omega))).trans a1)), a2⟩, ⟨e2, (kput_ne (hJ.ne b22 c17 (by omega))).trans ((kput_ne (hJ.ne b22 c23 (by omega))).trans ((kput_ne (hJ.ne b22 c22 (by omega))).trans a3)), a4⟩, ⟨e3, (kput_ne (hJ.ne b23 c17 (by omega))).trans ((kput_ne (hJ.ne b23 c23 (by omega))).trans ((kput_ne (hJ.ne b23 c22 (by omega))).trans a5)), a6⟩⟩
theorem im_leak (hJ : CI X σ (N_u3 s) h) {i : Nat} {w : Bool} (hi : i < vI s 28) (hw : bI w = s.2.1 27 i) (hK : ∀ r, r < vI s 18 → KR X σ s h r) (hL : ∀ r, r < i → KL X σ s h r) : CS X σ (N_u3 s) h (N_u3 s) (kput h (σ 24 i) (kO 1 [.int (s.2.1 24 i), .int (s.2.1 25 i), .int (s.2.1 26 i), .int (s.2.1 27 i), .int (bI w)])) ∧ (∀ r, r < vI s 18 → KR X σ s (kput h (σ 24 i) (kO 1 [.int (s.2.1 24 i), .int (s.2.1 25 i), .int (s.2.1 26 i), .int (s.2.1 27 i), .int (bI w)])) r) ∧ ∀ r, r < i + 1 → KL X σ s (kput h (σ 24 i) (kO 1 [.int (s.2.1 24 i), .int (s.2.1 25 i), .int (s.2.1 26 i), .int (s.2.1 27 i), .int (bI w)])) r := by
  have e18 : vI (N_u3 s) 18 = vI s 18 := congrArg Int32.toNatClampNeg (u3_o (by decide) (by decide) (by decide) (by decide))
  have e28 : vI (N_u3 s) 28 = vI s 28 := congrArg Int32.toNatClampNeg (u3_o (by decide) (by decide) (by decide) (by decide))
  have c24 : clv (N_u3 s) 24 i := show i < vI (N_u3 s) 28 by rw [e28]; exact hi
  refine ⟨CI.puts1 hJ (fun _ _ => Iff.rfl) (k1 := 24) (i1 := i) c24 ⟨w, rfl, fun y => (no2 u3_57 y).elim⟩ (fun _ _ _ _ _ hc => hc), fun r hr => ?_, fun r hr => ?_⟩
  · have b17 : clv (N_u3 s) 17 r := show r < vI (N_u3 s) 18 by rw [e18]; exact hr
    have b22 : clv (N_u3 s) 22 r := show r < vI (N_u3 s) 18 by rw [e18]; exact hr
    have b23 : clv (N_u3 s) 23 r := show r < vI (N_u3 s) 18 by rw [e18]; exact hr
    obtain ⟨⟨e1, a1, a2⟩, ⟨e2, a3, a4⟩, ⟨e3, a5, a6⟩⟩ := hK r hr
    exact ⟨⟨e1, (kput_ne (hJ.ne b17 c24 (by omega))).trans a1, a2⟩, ⟨e2, (kput_ne (hJ.ne b22 c24 (by omega))).trans a3, a4⟩, ⟨e3, (kput_ne (hJ.ne b23 c24 (by omega))).trans a5, a6⟩⟩
  · by_cases q : r = i
    · subst q
      refine ⟨_, kput_eq, w, ?_, fun _ _ => ?_⟩
      · rw [T_a (by decide) (by decide) (by decide) (by decide) (by decide), T_a (by decide) (by decide) (by decide) (by decide) (by decide), T_a (by decide) (by decide) (by decide) (by decide) (by decide), T_a (by decide) (by decide) (by decide) (by decide) (by decide)]
      · rw [T_56, fillO_in (by omega) (by omega)]; exact hw
    · have b24 : clv (N_u3 s) 24 r := show r < vI (N_u3 s) 28 by omega
      obtain ⟨e1, a1, a2⟩ := hL r (by omega)
      exact ⟨e1, (kput_ne (hJ.ne b24 c24 (by omega))).trans a1, a2⟩
theorem im_end (hJ : CI X σ (N_u3 s) h) (hK : ∀ r, r < vI s 18 → KR X σ s h r) (hL : ∀ r, r < vI s 28 → KL X σ s h r) : CS X σ (N_u3 s) h (N_T s) h := by
  have e18 : vI (N_u3 s) 18 = vI s 18 := congrArg Int32.toNatClampNeg (u3_o (by decide) (by decide) (by decide) (by decide))
  have e28 : vI (N_u3 s) 28 = vI s 28 := congrArg Int32.toNatClampNeg (u3_o (by decide) (by decide) (by decide) (by decide))
  have o1 : ∀ j, j ≠ 57 → (N_T s).1 j = (N_u3 s).1 j := fun j hj => by
    by_cases z2 : j = 58
    · rw [z2, T_58, u3_58]
    · by_cases z3 : j = 59
      · rw [z3, T_59, u3_59]
      · by_cases z4 : j = 60
        · rw [z4, T_60, u3_60]
        · rw [T_o hj z2 z3 z4, u3_o hj z2 z3 z4]
  have hl : ∀ k i, clv (N_T s) k i ↔ clv (N_u3 s) k i := clv_cg (fun j hj => o1 j (by revert hj; revert j; decide))
  refine ⟨hl, ⟨fun k i k' i' a b => hJ.1 k i k' i' ((hl k i).mp a) ((hl k' i').mp b), fun k i hk => ?_⟩, fun a _ hn => ⟨rfl, fun k i hk => hn k i ((hl k i).mp hk)⟩⟩
  have hk := (hl k i).mp hk
  by_cases z1 : k = 17
  · subst z1
    exact (hK i (by rw [← e18]; exact hk)).1
  · by_cases z2 : k = 22
    · subst z2
      exact (hK i (by rw [← e18]; exact hk)).2.1
    · by_cases z3 : k = 23
      · subst z3
        exact (hK i (by rw [← e18]; exact hk)).2.2
      · by_cases z4 : k = 24
        · subst z4
          exact hL i (by rw [← e28]; exact hk)
        · obtain ⟨e, he, hc⟩ := hJ.2 k i hk
          by_cases z0 : k = 0
          · subst z0
            refine ⟨e, he, ?_⟩
            have hc : e = kO 11 (cfl σ (N_u3 s)) := hc
            show e = kO 11 (cfl σ (N_T s))
            rw [hc]
            unfold cfl
            rw [u3_57, T_57, if_neg (show ¬ nI 2 = 0 by decide), if_neg (show ¬ nI 1 = 0 by decide), o1 4 (by decide), o1 58 (by decide), o1 59 (by decide), o1 60 (by decide)]
          · refine ⟨e, he, CP_cg (fun j hj => o1 j (fun y => nd_57 k z0 z1 z2 z3 z4 (y ▸ hj))) (fun a ha => ?_) hc⟩
            exact T_a (fun y => nD_52 k z2 (y ▸ ha)) (fun y => nD_53 k z3 (y ▸ ha)) (fun y => nD_54 k z1 (y ▸ ha)) (fun y => nD_55 k z1 (y ▸ ha)) (fun y => nD_56 k z4 (y ▸ ha))
theorem narB (w : Bool) : narrow .boolean (.int (bI w)) = .int (bI w) := by cases w <;> decide +kernel
theorem fitB (w : Bool) : fits .boolean (.int (bI w)) = true := by cases w <;> decide +kernel
theorem ok_bI {x : Int32} (ho : okV x 2) : ∃ w : Bool, x = bI w := by
  by_cases q : x = 0
  · exact ⟨false, q⟩
  · exact ⟨true, (ok1 ho q).symm⟩
set_option maxRecDepth 4000 in
theorem f_cimage (hI : CI X σ s h) (hV : MV s) : Fn X 3 0 0 yX11_image cX11_image 2 (some .int) [.ref (σ 0 0)] h (fun rv hv => rv = some (.int (R_image s).1) ∧ CE X σ s h (R_image s).2 hv) := by
  have b10 : vI s 10 ≤ 4 := hV.1.1.2
  have b18 : vI s 18 ≤ 16 := hV.2.1.1.2
  have b28 : vI s 28 ≤ 10 := hV.2.2.1.1.2
  have b31 : vI s 31 ≤ 6 := hV.2.2.2.1.1.2
  have b3 : vI s 3 ≤ 6 := hV.2.2.2.2.2.2.1.1.2
  refine fn_of (by decide) (Nat.le_of_ble_eq_true rfl) (fun M hM => ?_)
  have lp2 : ∀ (d k : Nat) (hh : AH), (vI s 28) - k = d → k ≤ (vI s 28) → (CS X σ s h (N_u3 s) hh) → (∀ r, r < vI s 18 → KR X σ s hh r) → (∀ r, r < k → KL X σ s hh r) → AJ X M yX11_image cX11_image 2 (some .int) 62 [(0, .ref (σ 0 0)), (1, .int (nI k))] [] hh 0 0 := by
    intro d
    induction d with
    | zero =>
      intro k hh hd hle hJ hK hL
      have v58 : (if (N_u3 s).1 57 = 0 then (-1 : Int32) else (N_u3 s).1 58) = nI (vI s 18) := by rw [u3_57, u3_58]; exact if_neg (by decide)
      refine a_iload_n (pc := 62) dX11_image_62 rfl rfl ?_
      refine a_aload_n (pc := 63) dX11_image_63 rfl rfl ?_
      refine a_getfield (pc := 64) kg_X11_261 dX11_image_64 (c_fc hJ.2.1) rfl ?_
      refine a_topi (show _ = nI (vI s 28) from u3_59) ?_
      refine a_icmp_geN (pc := 67) (tgt := 104) dX11_image_67 (by decide) (by omega) (by omega) (fun c67 => ?_) (fun c67 => ?_)
      · have hkn : k = vI s 28 := by omega
        subst hkn
        refine a_aload_n (pc := 104) dX11_image_104 rfl rfl ?_
        refine a_getfield (pc := 105) kg_X11_61 dX11_image_105 (c_fc hJ.2.1) rfl ?_
        refine a_ret_i (pc := 108) hM rfl (rfl) dX11_image_108 (by omega) (by omega) ?_
        exact ⟨congrArg (fun t => some (Value.int t)) v58, (hJ.tr (im_end hJ.2.1 hK hL)).ce⟩
      · exact absurd c67 (by omega)
    | succ d ih =>
      intro k hh hd hle hJ hK hL
      have e28 : vI (N_u3 s) 28 = vI s 28 := congrArg Int32.toNatClampNeg (u3_o (by decide) (by decide) (by decide) (by decide))
      refine a_iload_n (pc := 62) dX11_image_62 rfl rfl ?_
      refine a_aload_n (pc := 63) dX11_image_63 rfl rfl ?_
      refine a_getfield (pc := 64) kg_X11_261 dX11_image_64 (c_fc hJ.2.1) rfl ?_
      refine a_topi (show _ = nI (vI s 28) from u3_59) ?_
      refine a_icmp_geN (pc := 67) (tgt := 104) dX11_image_67 (by decide) (by omega) (by omega) (fun c67 => ?_) (fun c67 => ?_)
      · exact absurd c67 (by omega)
      · obtain ⟨w0, hw0, -⟩ := c_lk2 hJ.2.1 (k := k) (by rw [e28]; omega)
        obtain ⟨w, hw⟩ := ok_bI (hV.2.2.1.2 k (by omega)).2.2.2
        refine a_aload_n (pc := 70) dX11_image_70 rfl rfl ?_
        refine a_getfield (pc := 71) kg_X11_19 dX11_image_71 (c_fc hJ.2.1) rfl ?_
        refine a_iload_n (pc := 74) dX11_image_74 rfl rfl ?_
        refine a_callV (pc := 75) km_X11_109 dX11_image_75 (w_get hJ.2.1 (i := 2) (j := k) (by decide) (show k < vI s 28 from (by omega))) rfl rfl (kr_l hJ.2.1 (i := 2) (by decide)) (rok_of hM (by decide) (by decide) (by omega) (by omega)) (Nat.le_of_ble_eq_true rfl) (fun r75 h75 hp75 => ?_)
        obtain ⟨rfl, rfl⟩ := And.intro hp75.1 hp75.2.symm
        refine a_topr (show _ = σ 24 k from rfl) ?_
        refine a_castE (pc := 78) kl_X11_194 rfl (c_isL hJ.2.1 (show k < vI s 28 from (by omega))) dX11_image_78 ?_
        refine a_aload_n (pc := 81) dX11_image_81 rfl rfl ?_
        refine a_getfield (pc := 82) kg_X11_19 dX11_image_82 (c_fc hJ.2.1) rfl ?_
        refine a_iload_n (pc := 85) dX11_image_85 rfl rfl ?_
        refine a_callV (pc := 86) km_X11_109 dX11_image_86 (w_get hJ.2.1 (i := 2) (j := k) (by decide) (show k < vI s 28 from (by omega))) rfl rfl (kr_l hJ.2.1 (i := 2) (by decide)) (rok_of hM (by decide) (by decide) (by omega) (by omega)) (Nat.le_of_ble_eq_true rfl) (fun r86 h86 hp86 => ?_)
        obtain ⟨rfl, rfl⟩ := And.intro hp86.1 hp86.2.symm
        refine a_topr (show _ = σ 24 k from rfl) ?_
        refine a_castE (pc := 89) kl_X11_194 rfl (c_isL hJ.2.1 (show k < vI s 28 from (by omega))) dX11_image_89 ?_
        refine a_getfield (pc := 92) kg_X11_199 dX11_image_92 (hw0) rfl ?_
        refine a_topi (show _ = bI w from hw) ?_
        refine a_putfield (pc := 95) kf_X11_270 dX11_image_95 (hw0) (narB w) (fitB w) (Nat.le_of_ble_eq_true rfl) ?_
        refine a_iincN (pc := 98) (n := 1) dX11_image_98 (by decide) rfl (by decide) rfl ?_
        refine a_goto (pc := 101) (tgt := 62) dX11_image_101 (by decide) ?_
        obtain ⟨hN, hK2, hL2⟩ := im_leak hJ.2.1 (i := k) (by omega) hw.symm hK hL
        exact a_locR (ih (k + 1) _ (by omega) (by omega) (hJ.tr hN) hK2 hL2) ⟨rfl, rfl, trivial⟩
  have lp1 : ∀ (d k : Nat) (hh : AH), (vI s 18) - k = d → k ≤ (vI s 18) → (CS X σ s h (N_u3 s) hh) → (∀ r, r < k → KR X σ s hh r) → AJ X M yX11_image cX11_image 2 (some .int) 32 [(0, .ref (σ 0 0)), (1, .int (nI k))] [] hh 0 0 := by
    intro d
    induction d with
    | zero =>
      intro k hh hd hle hJ hK
      have v58 : (if (N_u3 s).1 57 = 0 then (-1 : Int32) else (N_u3 s).1 58) = nI (vI s 18) := by rw [u3_57, u3_58]; exact if_neg (by decide)
      refine a_iload_n (pc := 32) dX11_image_32 rfl rfl ?_
      refine a_aload_n (pc := 33) dX11_image_33 rfl rfl ?_
      refine a_getfield (pc := 34) kg_X11_61 dX11_image_34 (c_fc hJ.2.1) rfl ?_
      refine a_topi (show _ = nI (vI s 18) from v58) ?_
      refine a_icmp_geN (pc := 37) (tgt := 60) dX11_image_37 (by decide) (by omega) (by omega) (fun c37 => ?_) (fun c37 => ?_)
      · have hkn : k = vI s 18 := by omega
        subst hkn
        refine a_iconst (pc := 60) dX11_image_60 ic_0 ?_
        refine a_istore_n (pc := 61) dX11_image_61 rfl (by decide) rfl ?_
        exact a_locR (lp2 _ 0 _ rfl (Nat.zero_le _) hJ hK (fun r hr => absurd hr (Nat.not_lt_zero r))) ⟨rfl, rfl, trivial⟩
      · exact absurd c37 (by omega)
    | succ d ih =>
      intro k hh hd hle hJ hK
      have v58 : (if (N_u3 s).1 57 = 0 then (-1 : Int32) else (N_u3 s).1 58) = nI (vI s 18) := by rw [u3_57, u3_58]; exact if_neg (by decide)
      have e18 : vI (N_u3 s) 18 = vI s 18 := congrArg Int32.toNatClampNeg (u3_o (by decide) (by decide) (by decide) (by decide))
      refine a_iload_n (pc := 32) dX11_image_32 rfl rfl ?_
      refine a_aload_n (pc := 33) dX11_image_33 rfl rfl ?_
      refine a_getfield (pc := 34) kg_X11_61 dX11_image_34 (c_fc hJ.2.1) rfl ?_
      refine a_topi (show _ = nI (vI s 18) from v58) ?_
      refine a_icmp_geN (pc := 37) (tgt := 60) dX11_image_37 (by decide) (by omega) (by omega) (fun c37 => ?_) (fun c37 => ?_)
      · exact absurd c37 (by omega)
      · have hk : k < vI s 18 := by omega
        have hk3 : k < vI (N_u3 s) 18 := by rw [e18]; exact hk
        obtain ⟨ks, kp, f, g, h1, h2, h3, hf, hg⟩ := c_run hJ.2.1 hk3
        obtain ⟨x1, y1, f2, rfl, -⟩ := hJ.2.1.2 22 k hk3
        obtain ⟨x2, y2, g2, rfl, -⟩ := hJ.2.1.2 23 k hk3
        have h25 := rz25 hV hk
        have ne1 : σ 19 k ≠ σ 22 k := hJ.2.1.ne (show clv (N_u3 s) 19 k from hk3) (show clv (N_u3 s) 22 k from hk3) (by omega)
        have ne2 : σ 23 k ≠ σ 22 k := hJ.2.1.ne (show clv (N_u3 s) 23 k from hk3) (show clv (N_u3 s) 22 k from hk3) (by omega)
        refine a_aload_n (pc := 40) dX11_image_40 rfl rfl ?_
        refine a_getfield (pc := 41) kg_X11_16 dX11_image_41 (c_fc hJ.2.1) rfl ?_
        refine a_iload_n (pc := 44) dX11_image_44 rfl rfl ?_
        refine a_callV (pc := 45) km_X11_109 dX11_image_45 (w_get hJ.2.1 (i := 1) (j := k) (by decide) (show k < vI s 18 from (by omega))) rfl rfl (kr_l hJ.2.1 (i := 1) (by decide)) (rok_of hM (by decide) (by decide) (by omega) (by omega)) (Nat.le_of_ble_eq_true rfl) (fun r45 h45 hp45 => ?_)
        obtain ⟨rfl, rfl⟩ := And.intro hp45.1 hp45.2.symm
        refine a_topr (show _ = σ 17 k from rfl) ?_
        refine a_castE (pc := 48) kl_X11_107 rfl (c_isR hJ.2.1 (show k < vI s 18 from (by omega))) dX11_image_48 ?_
        refine a_callV (pc := 51) km_X11_267 dX11_image_51 (f_keep h1 h2 h3 h25 y1 y2 ne1 ne2) rfl rfl (kr_r hJ.2.1 hk3) (rok_of hM (by decide) (by decide) (by omega) (by omega)) (Nat.le_of_ble_eq_true rfl) (fun r51 h51 hp51 => ?_)
        obtain ⟨rfl, rfl⟩ := And.intro hp51.1 hp51.2.symm
        refine a_iincN (pc := 54) (n := 1) dX11_image_54 (by decide) rfl (by decide) rfl ?_
        refine a_goto (pc := 57) (tgt := 32) dX11_image_57 (by decide) ?_
        obtain ⟨hN, hK2⟩ := im_run (ks := ks) (kp := kp) (f2 := f2) (g2 := g2) hJ.2.1 hk hf hg h25 hK
        exact a_locR (ih (k + 1) _ (by omega) (by omega) (hJ.tr hN) hK2) ⟨rfl, rfl, trivial⟩
  refine a_aload_n (pc := 0) dX11_image_0 rfl rfl ?_
  refine a_aload_n (pc := 1) dX11_image_1 rfl rfl ?_
  refine a_getfield (pc := 2) kg_X11_16 dX11_image_2 (c_fc hI) rfl ?_
  refine a_callV (pc := 5) km_X11_97 dX11_image_5 (w_size hI (i := 1) (by decide)) rfl rfl (kr_l hI (i := 1) (by decide)) (rok_of hM (by decide) (by decide) (by omega) (by omega)) (Nat.le_of_ble_eq_true rfl) (fun r5 h5 hp5 => ?_)
  obtain ⟨rfl, rfl⟩ := And.intro hp5.1 hp5.2.symm
  refine a_topi (show _ = nI (vI s 18) from rfl) ?_
  refine a_putfield (pc := 8) kf_X11_61 dX11_image_8 (c_fc hI) (rfl) (by rfl) (Nat.le_of_ble_eq_true rfl) ?_
  have j1 := stI1 hI
  refine a_aload_n (pc := 11) dX11_image_11 rfl rfl ?_
  refine a_aload_n (pc := 12) dX11_image_12 rfl rfl ?_
  refine a_getfield (pc := 13) kg_X11_19 dX11_image_13 (c_fc j1.2.1) rfl ?_
  refine a_callV (pc := 16) km_X11_97 dX11_image_16 (w_size j1.2.1 (i := 2) (by decide)) rfl rfl (kr_l j1.2.1 (i := 2) (by decide)) (rok_of hM (by decide) (by decide) (by omega) (by omega)) (Nat.le_of_ble_eq_true rfl) (fun r16 h16 hp16 => ?_)
  obtain ⟨rfl, rfl⟩ := And.intro hp16.1 hp16.2.symm
  refine a_topi (show _ = nI (vI s 28) from rfl) ?_
  refine a_putfield (pc := 19) kf_X11_261 dX11_image_19 (c_fc j1.2.1) (rfl) (by rfl) (Nat.le_of_ble_eq_true rfl) ?_
  have j2 := j1.tr (stI2 j1.2.1)
  refine a_aload_n (pc := 22) dX11_image_22 rfl rfl ?_
  refine a_aload_n (pc := 23) dX11_image_23 rfl rfl ?_
  refine a_getfield (pc := 24) kg_X11_232 dX11_image_24 (c_fc j2.2.1) rfl ?_
  refine a_topi (show _ = s.1 4 from rfl) ?_
  refine a_putfield (pc := 27) kf_X11_264 dX11_image_27 (c_fc j2.2.1) (rfl) (by rfl) (Nat.le_of_ble_eq_true rfl) ?_
  have j3 := j2.tr (stI3 j2.2.1)
  refine a_iconst (pc := 30) dX11_image_30 ic_0 ?_
  refine a_istore_n (pc := 31) dX11_image_31 rfl (by decide) rfl ?_
  exact a_locR (lp1 _ 0 _ rfl (Nat.zero_le _) j3 (fun r hr => absurd hr (Nat.not_lt_zero r))) ⟨rfl, rfl, trivial⟩

end CPG

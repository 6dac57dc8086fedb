/-! THE REFERENCE: the tape, guessers, images, counts, cells -/
section MP4
variable {X : KX} {m : Nat → Nat} {s : MST} {h0 : AH}
def byteP (b : Int64) (i : Nat) : Int32 := (b >>> ((nI (8 * i)).toInt64 &&& 63) &&& lN 255).toInt32
def feedF (f : Nat → Int32) (t : Nat) (b : Int64) : Nat → (Nat → Int32)
  | 0 => f
  | i + 1 => upd (feedF f t b i) (t + i) (byteP b i)
def N_feed (s : MST) (n : Nat) (b : Int64) : MST := si (sa s 5 (feedF (s.2.1 5) (vI s 6) b n)) 6 (nI (vI s 6 + n))
def R_feed (s : MST) (n : Int32) (b : Int64) : Int32 × MST := if inR n 1 8 = true then (if vI s 6 + n.toNatClampNeg ≤ 160 then (nI (vI s 6 + n.toNatClampNeg), N_feed s n.toNatClampNeg b) else (-4, s)) else (-2, s)
theorem si_3 {s : MST} {k j : Nat} {f g e : Int32} (h : k ≠ j) : si (si (si s k f) j g) k e = si (si s k e) j g := by rw [si_sw h, si_si, si_sw (Ne.symm h)]
theorem sa_3' {s : MST} {k j : Nat} {f g e : Nat → Int32} (h : k ≠ j) : sa (sa (sa s k f) j g) k e = sa (sa s k e) j g := by rw [sa_sw h, sa_sa, sa_sw (Ne.symm h)]
set_option maxRecDepth 4000 in
theorem f_feed (hm : MI m) (hV : MV s) (n : Int32) (b : Int64) : Fn X 1 0 0 yX12_feed cX12_feed 5 (some .int) [.ref (m 65), .int n, .long b] (mh m s h0) (fun rv hv => rv = some (.int (R_feed s n b).1) ∧ ∃ s' : MST, hv = mh m s' h0 ∧ SP s' (R_feed s n b).2) := by
  obtain ⟨hn6, hb6⟩ := id hV.2.2.2.2.2.2.1.2.2.2.1
  refine fn_of (by decide) (Nat.le_of_ble_eq_true rfl) (fun M hM => ?_)
  refine a_iload_n (pc := 0) dX12_feed_0 rfl rfl ?_
  refine a_i2l (pc := 1) dX12_feed_1 ?_
  refine a_lconst (pc := 2) (v := lN 1) dX12_feed_2 rfl ?_
  refine a_ldc2 (pc := 3) kc_X12_237 dX12_feed_3 ?_
  refine a_topl (z := lN 8) rfl ?_
  refine a_callS (pc := 6) km_X12_142 dX12_feed_6 (f_in _ _ _) rfl rfl (rok_of hM (by decide) (by decide) (by omega) (by omega)) (Nat.le_of_ble_eq_true rfl) (fun r6 h6 hp6 => ?_)
  obtain ⟨rfl, rfl⟩ := hp6
  refine a_topi (congrArg bI (in_rng3 (x := n) (a := 1) (b := 8) (by decide) (by decide))) ?_
  refine a_if_neB (pc := 9) (tgt := 15) dX12_feed_9 (by decide) (fun c9 => ?_) (fun c9 => ?_)
  · obtain ⟨q, hq1, hq8, rfl⟩ := inR_of c9 (by omega)
    have eq : (nI q).toNatClampNeg = q := nI_clamp (by omega)
    refine a_aload_n (pc := 15) dX12_feed_15 rfl rfl ?_
    refine a_getfield (pc := 16) kg_X12_239 dX12_feed_16 (m_obj hm) rfl ?_
    refine a_topi (hn6) ?_
    refine a_iload_n (pc := 19) dX12_feed_19 rfl rfl ?_
    refine a_iaddN (pc := 20) dX12_feed_20 ?_
    refine a_sipush (pc := 21) dX12_feed_21 is_160 ?_
    refine a_icmp_leN (pc := 24) (tgt := 30) dX12_feed_24 (by decide) (by omega) (by omega) (fun c24 => ?_) (fun c24 => ?_)
    · refine a_iconst (pc := 30) dX12_feed_30 ic_0 ?_
      refine a_istore (pc := 31) dX12_feed_31 (by decide) rfl ?_
      have loop : ∀ j i : Nat, q - i = j → i ≤ q →  AJ X M yX12_feed cX12_feed 5 (some .int) 33 [(0, .ref (m 65)), (1, .int (nI q)), (2, .long b), (4, .int (nI i))] [] (mh m (N_feed s i b) h0) 0 0 := by
        intro j
        induction j with
        | zero =>
          intro i hjk hkN
          refine a_iload (pc := 33) dX12_feed_33 rfl ?_
          refine a_iload_n (pc := 35) dX12_feed_35 rfl rfl ?_
          refine a_icmp_geN (pc := 36) (tgt := 76) dX12_feed_36 (by decide) (by omega) (by omega) (fun c36 => ?_) (fun c36 => ?_)
          · have hin : i = q := by omega
            subst hin
            refine a_aload_n (pc := 76) dX12_feed_76 rfl rfl ?_
            refine a_getfield (pc := 77) kg_X12_239 dX12_feed_77 (m_obj hm) rfl ?_
            refine a_topi ((show _ = nI (vI s 6 + i) from rfl)) ?_
            refine a_ret_i (pc := 80) hM rfl (rfl) dX12_feed_80 (by omega) (by omega) ?_
            exact ⟨by simp only [R_feed, eq, c9, reduceIte, if_pos c24], _, rfl, by simp only [R_feed, eq, c9, reduceIte, if_pos c24]; exact SP.rfl⟩
          · exact absurd c36 (by omega)
        | succ j ih =>
          intro i hjk hkN
          refine a_iload (pc := 33) dX12_feed_33 rfl ?_
          refine a_iload_n (pc := 35) dX12_feed_35 rfl rfl ?_
          refine a_icmp_geN (pc := 36) (tgt := 76) dX12_feed_36 (by decide) (by omega) (by omega) (fun c36 => ?_) (fun c36 => ?_)
          · exact absurd c36 (by omega)
          · refine a_aload_n (pc := 39) dX12_feed_39 rfl rfl ?_
            refine a_getfield (pc := 40) kg_X12_20 dX12_feed_40 (m_obj hm) rfl ?_
            refine a_aload_n (pc := 43) dX12_feed_43 rfl rfl ?_
            refine a_getfield (pc := 44) kg_X12_239 dX12_feed_44 (m_obj hm) rfl ?_
            refine a_topi ((show _ = nI (vI s 6 + i) from rfl)) ?_
            refine a_lload_n (pc := 47) dX12_feed_47 rfl rfl ?_
            refine a_bipush (pc := 48) dX12_feed_48 ib_8 ?_
            refine a_iload (pc := 50) dX12_feed_50 rfl ?_
            refine a_imulN (pc := 52) dX12_feed_52 ?_
            refine a_lshr (pc := 53) dX12_feed_53 ?_
            refine a_ldc2 (pc := 54) kc_X12_137 dX12_feed_54 ?_
            refine a_topl (z := lN 255) rfl ?_
            refine a_land (pc := 57) dX12_feed_57 ?_
            refine a_l2i (pc := 58) dX12_feed_58 ?_
            refine a_iastore (pc := 59) dX12_feed_59 (m_a5 hm) (_) (rfl) (by omega) (by omega) ?_
            refine a_hp (m_p5 hm) ?_
            refine a_hp (show _ = mh m (si (sa s 5 (feedF (s.2.1 5) (vI s 6) b (i + 1))) 6 (nI (vI s 6 + i))) h0 from congrArg (fun t => mh m t h0) (congrArg (fun z => si z 6 (nI (vI s 6 + i))) sa_sa)) ?_
            refine a_aload_n (pc := 60) dX12_feed_60 rfl rfl ?_
            refine a_dup (pc := 61) dX12_feed_61 rfl ?_
            refine a_getfield (pc := 62) kg_X12_239 dX12_feed_62 (m_obj hm) rfl ?_
            refine a_topi ((show _ = nI (vI s 6 + i) from rfl)) ?_
            refine a_iconst (pc := 65) dX12_feed_65 ic_1 ?_
            refine a_iaddN (pc := 66) dX12_feed_66 ?_
            refine a_putfield (pc := 67) kf_X12_239 dX12_feed_67 (m_obj hm) (rfl) (by rfl) (Nat.le_of_ble_eq_true rfl) ?_
            refine a_hp (m_p6 hm) ?_
            refine a_hp (show _ = mh m (N_feed s (i + 1) b) h0 from congrArg (fun t => mh m t h0) (si_si)) ?_
            refine a_iincN (pc := 70) (n := 1) dX12_feed_70 (by decide) rfl (by decide) rfl ?_
            refine a_goto (pc := 73) (tgt := 33) dX12_feed_73 (by decide) ?_
            exact a_locR (ih (i + 1) (by omega) (by omega)) ⟨rfl, rfl, rfl, rfl, trivial⟩
      refine a_hp (show _ = mh m (N_feed s 0 b) h0 by rw [N_feed, feedF, sa_id, Nat.add_zero, ← hn6, si_id]) ?_
      exact a_locR (loop _ 0 rfl (Nat.zero_le _)) ⟨rfl, rfl, rfl, rfl, trivial⟩
    · refine a_bipush (pc := 27) dX12_feed_27 ib_m4 ?_
      refine a_ret_i (pc := 29) hM rfl (rfl) dX12_feed_29 (by omega) (by omega) ?_
      exact ⟨by simp only [R_feed, eq, c9, reduceIte, if_neg (Nat.not_le.mpr c24)], _, rfl, by simp only [R_feed, eq, c9, reduceIte, if_neg (Nat.not_le.mpr c24)]; exact SP.rfl⟩
  · refine a_bipush (pc := 12) dX12_feed_12 ib_m2 ?_
    refine a_ret_i (pc := 14) hM rfl (rfl) dX12_feed_14 (by omega) (by omega) ?_
    exact ⟨by first | simp only [R_feed, c9, Bool.and_self, Bool.and_true, Bool.true_and, Bool.and_false, Bool.false_and, Bool.false_eq_true, Nat.add_sub_cancel, reduceIte], _, rfl, by first | (simp only [R_feed, c9, Bool.and_self, Bool.and_true, Bool.true_and, Bool.and_false, Bool.false_and, Bool.false_eq_true, Nat.add_sub_cancel, reduceIte]; exact SP.rfl)⟩

def inDay (s : MST) (g a b : Int32) (k : Nat) : Bool := decide (s.2.1 12 k = g) && !decide (s.2.1 13 k < a) && decide (s.2.1 13 k < b)
def sumN (f : Nat → Nat) : Nat → Nat
  | 0 => 0
  | n + 1 => sumN f n + f n
theorem sumN_le {f : Nat → Nat} {b : Nat} (h : ∀ k, f k ≤ b) (n : Nat) : sumN f n ≤ b * n := by
  induction n with
  | zero => exact Nat.zero_le _
  | succ n ih =>
    have := h n
    show sumN f n + f n ≤ b * (n + 1)
    rw [Nat.mul_succ]
    omega
theorem sumN_congr {f g : Nat → Nat} {n : Nat} (h : ∀ k, k < n → f k = g k) : sumN f n = sumN g n := by
  induction n with
  | zero => rfl
  | succ n ih => rw [sumN, sumN, ih (fun k hk => h k (by omega)), h n (by omega)]
def ranM (s : MST) (g a b : Int32) : Nat → Nat := sumN (fun k => if inDay s g a b k = true then 1 else 0)
def ranH (s : MST) (g a b : Int32) : Nat → Nat := sumN (fun k => if inDay s g a b k = true then hitsP s k (rsz s k) else 0)
theorem ranM_le (s : MST) (g a b : Int32) (n : Nat) : ranM s g a b n ≤ n := by
  have := sumN_le (f := fun k => if inDay s g a b k = true then 1 else 0) (b := 1) (fun k => by show (if _ then 1 else 0) ≤ 1; split <;> omega) n
  unfold ranM
  omega
theorem ranM_s (s : MST) (g a b : Int32) (n : Nat) : ranM s g a b (n + 1) = ranM s g a b n + (if inDay s g a b n = true then 1 else 0) := rfl
theorem ranH_s (s : MST) (g a b : Int32) (n : Nat) : ranH s g a b (n + 1) = ranH s g a b n + (if inDay s g a b n = true then hitsP s n (rsz s n) else 0) := rfl
def N_ran (s : MST) (g a b : Int32) (n : Nat) : MST := si (si s 49 (nI (ranM s g a b n))) 50 (nI (ranH s g a b n))
set_option maxRecDepth 4000 in
theorem f_ran (hm : MI m) (hV : MV s) (g a b : Int32) : Fn X 2 0 0 yX12_ran cX12_ran 5 none [.ref (m 65), .int g, .int a, .int b] (mh m s h0) (fun rv hv => rv = none ∧ hv = mh m (N_ran s g a b (vI s 18)) h0) := by
  obtain ⟨⟨hn18, hb18⟩, hl18⟩ := id hV.2.1
  refine fn_of (by decide) (Nat.le_of_ble_eq_true rfl) (fun M hM => ?_)
  have loop : ∀ j k : Nat, vI s 18 - k = j → k ≤ vI s 18 →  AJ X M yX12_ran cX12_ran 5 none 13 [(0, .ref (m 65)), (1, .int g), (2, .int a), (3, .int b), (4, .int (nI k))] [] (mh m (N_ran s g a b k) h0) 0 0 := by
    intro j
    induction j with
    | zero =>
      intro k hjk hkN
      refine a_iload (pc := 13) dX12_ran_13 rfl ?_
      refine a_aload_n (pc := 15) dX12_ran_15 rfl rfl ?_
      refine a_getfield (pc := 16) kg_X12_139 dX12_ran_16 (m_obj hm) rfl ?_
      refine a_topi (hn18) ?_
      refine a_icmp_geN (pc := 19) (tgt := 89) dX12_ran_19 (by decide) (by omega) (by omega) (fun c19 => ?_) (fun c19 => ?_)
      · have hkn : k = vI s 18 := by omega
        subst hkn
        refine a_ret_v (pc := 89) hM rfl dX12_ran_89 (by omega) (by omega) ?_
        exact ⟨rfl, rfl⟩
      · exact absurd c19 (by omega)
    | succ j ih =>
      intro k hjk hkN
      refine a_iload (pc := 13) dX12_ran_13 rfl ?_
      refine a_aload_n (pc := 15) dX12_ran_15 rfl rfl ?_
      refine a_getfield (pc := 16) kg_X12_139 dX12_ran_16 (m_obj hm) rfl ?_
      refine a_topi (hn18) ?_
      refine a_icmp_geN (pc := 19) (tgt := 89) dX12_ran_19 (by decide) (by omega) (by omega) (fun c19 => ?_) (fun c19 => ?_)
      · exact absurd c19 (by omega)
      · refine a_aload_n (pc := 22) dX12_ran_22 rfl rfl ?_
        refine a_getfield (pc := 23) kg_X12_36 dX12_ran_23 (m_obj hm) rfl ?_
        refine a_iload (pc := 26) dX12_ran_26 rfl ?_
        refine a_iaload (pc := 28) dX12_ran_28 (m_a12 hm) (_) (rfl) (by omega) (by omega) ?_
        refine a_iload_n (pc := 29) dX12_ran_29 rfl rfl ?_
        refine a_icmp_ne (pc := 30) (tgt := 83) dX12_ran_30 (by decide) (fun c30 => ?_) (fun c30 => ?_)
        · have c30 : ¬ s.2.1 12 k = g := c30
          have hd : inDay s g a b k = false := by unfold inDay; rw [decide_eq_false c30]; rfl
          have e1 : ranM s g a b (k + 1) = ranM s g a b k := by rw [ranM_s, hd]; rfl
          have e2 : ranH s g a b (k + 1) = ranH s g a b k := by rw [ranH_s, hd]; rfl
          have eS : N_ran s g a b k = N_ran s g a b (k + 1) := by rw [N_ran, N_ran, e1, e2]
          refine a_hp (congrArg (fun t => mh m t h0) eS) ?_
          refine a_iincN (pc := 83) (n := 1) dX12_ran_83 (by decide) rfl (by decide) rfl ?_
          refine a_goto (pc := 86) (tgt := 13) dX12_ran_86 (by decide) ?_
          exact a_locR (ih (k + 1) (by omega) (by omega)) ⟨rfl, rfl, rfl, rfl, rfl, trivial⟩
        · have c30 : s.2.1 12 k = g := c30
          refine a_aload_n (pc := 33) dX12_ran_33 rfl rfl ?_
          refine a_getfield (pc := 34) kg_X12_39 dX12_ran_34 (m_obj hm) rfl ?_
          refine a_iload (pc := 37) dX12_ran_37 rfl ?_
          refine a_iaload (pc := 39) dX12_ran_39 (m_a13 hm) (_) (rfl) (by omega) (by omega) ?_
          refine a_iload_n (pc := 40) dX12_ran_40 rfl rfl ?_
          refine a_icmp_lt (pc := 41) (tgt := 83) dX12_ran_41 (by decide) (fun c41 => ?_) (fun c41 => ?_)
          · have c41 : s.2.1 13 k < a := c41
            have hd : inDay s g a b k = false := by unfold inDay; rw [decide_eq_true c41]; simp
            have e1 : ranM s g a b (k + 1) = ranM s g a b k := by rw [ranM_s, hd]; rfl
            have e2 : ranH s g a b (k + 1) = ranH s g a b k := by rw [ranH_s, hd]; rfl
            have eS : N_ran s g a b k = N_ran s g a b (k + 1) := by rw [N_ran, N_ran, e1, e2]
            refine a_hp (congrArg (fun t => mh m t h0) eS) ?_
            refine a_iincN (pc := 83) (n := 1) dX12_ran_83 (by decide) rfl (by decide) rfl ?_
            refine a_goto (pc := 86) (tgt := 13) dX12_ran_86 (by decide) ?_
            exact a_locR (ih (k + 1) (by omega) (by omega)) ⟨rfl, rfl, rfl, rfl, rfl, trivial⟩
          · have c41 : ¬ s.2.1 13 k < a := c41
            refine a_aload_n (pc := 44) dX12_ran_44 rfl rfl ?_
            refine a_getfield (pc := 45) kg_X12_39 dX12_ran_45 (m_obj hm) rfl ?_
            refine a_iload (pc := 48) dX12_ran_48 rfl ?_
            refine a_iaload (pc := 50) dX12_ran_50 (m_a13 hm) (_) (rfl) (by omega) (by omega) ?_
            refine a_iload_n (pc := 51) dX12_ran_51 rfl rfl ?_
            refine a_icmp_lt (pc := 52) (tgt := 58) dX12_ran_52 (by decide) (fun c52 => ?_) (fun c52 => ?_)
            · have c52 : s.2.1 13 k < b := c52
              have hd : inDay s g a b k = true := by unfold inDay; rw [decide_eq_true c30, decide_eq_false c41, decide_eq_true c52]; rfl
              have e1 : ranM s g a b (k + 1) = ranM s g a b k + 1 := by rw [ranM_s, hd]; rfl
              have e2 : ranH s g a b (k + 1) = ranH s g a b k + hitsP s k (rsz s k) := by rw [ranH_s, hd]; rfl
              obtain ⟨hk16, hz, hz1, hz2⟩ := MV_run hV (r := k) (by omega)
              have hh25 : hitsP s k (rsz s k) ≤ rsz s k := cntN_le _ _
              refine a_aload_n (pc := 58) dX12_ran_58 rfl rfl ?_
              refine a_dup (pc := 59) dX12_ran_59 rfl ?_
              refine a_getfield (pc := 60) kg_X12_406 dX12_ran_60 (m_obj hm) rfl ?_
              refine a_topi ((show _ = nI (ranM s g a b k) from rfl)) ?_
              refine a_iconst (pc := 63) dX12_ran_63 ic_1 ?_
              refine a_iaddN (pc := 64) dX12_ran_64 ?_
              refine a_putfield (pc := 65) kf_X12_406 dX12_ran_65 (m_obj hm) (rfl) (by rfl) (Nat.le_of_ble_eq_true rfl) ?_
              refine a_hp (m_p49 hm) ?_
              refine a_hp (show _ = mh m (si (si s 49 (nI (ranM s g a b k + 1))) 50 (nI (ranH s g a b k))) h0 from congrArg (fun t => mh m t h0) (si_3 (by decide))) ?_
              refine a_aload_n (pc := 68) dX12_ran_68 rfl rfl ?_
              refine a_dup (pc := 69) dX12_ran_69 rfl ?_
              refine a_getfield (pc := 70) kg_X12_409 dX12_ran_70 (m_obj hm) rfl ?_
              refine a_topi ((show _ = nI (ranH s g a b k) from rfl)) ?_
              refine a_aload_n (pc := 73) dX12_ran_73 rfl rfl ?_
              refine a_iload (pc := 74) dX12_ran_74 rfl ?_
              refine a_callV (pc := 76) km_X12_183 dX12_ran_76 (f_hitsOf (s := si (si s 49 (nI (ranM s g a b k + 1))) 50 (nI (ranH s g a b k))) hm hk16 hz) rfl rfl (krecv_of (ci := 12) rfl (m_obj hm)) (rok_of hM (by decide) (by decide) (by omega) (by omega)) (Nat.le_of_ble_eq_true rfl) (fun r76 h76 hp76 => ?_)
              obtain ⟨rfl, rfl⟩ := hp76
              refine a_iaddN (pc := 79) dX12_ran_79 ?_
              refine a_putfield (pc := 80) kf_X12_409 dX12_ran_80 (m_obj hm) (rfl) (by rfl) (Nat.le_of_ble_eq_true rfl) ?_
              refine a_hp (m_p50 hm) ?_
              refine a_hp (show _ = mh m (N_ran s g a b (k + 1)) h0 from congrArg (fun t => mh m t h0) (si_si.trans (by rw [N_ran, e1, e2]; rfl))) ?_
              refine a_iincN (pc := 83) (n := 1) dX12_ran_83 (by decide) rfl (by decide) rfl ?_
              refine a_goto (pc := 86) (tgt := 13) dX12_ran_86 (by decide) ?_
              exact a_locR (ih (k + 1) (by omega) (by omega)) ⟨rfl, rfl, rfl, rfl, rfl, trivial⟩
            · have c52 : ¬ s.2.1 13 k < b := c52
              have hd : inDay s g a b k = false := by unfold inDay; rw [decide_eq_false c52, Bool.and_false]
              have e1 : ranM s g a b (k + 1) = ranM s g a b k := by rw [ranM_s, hd]; rfl
              have e2 : ranH s g a b (k + 1) = ranH s g a b k := by rw [ranH_s, hd]; rfl
              have eS : N_ran s g a b k = N_ran s g a b (k + 1) := by rw [N_ran, N_ran, e1, e2]
              refine a_hp (congrArg (fun t => mh m t h0) eS) ?_
              refine a_goto (pc := 55) (tgt := 83) dX12_ran_55 (by decide) ?_
              refine a_iincN (pc := 83) (n := 1) dX12_ran_83 (by decide) rfl (by decide) rfl ?_
              refine a_goto (pc := 86) (tgt := 13) dX12_ran_86 (by decide) ?_
              exact a_locR (ih (k + 1) (by omega) (by omega)) ⟨rfl, rfl, rfl, rfl, rfl, trivial⟩
  refine a_aload_n (pc := 0) dX12_ran_0 rfl rfl ?_
  refine a_iconst (pc := 1) dX12_ran_1 ic_0 ?_
  refine a_putfield (pc := 2) kf_X12_406 dX12_ran_2 (m_obj hm) (rfl) (by rfl) (Nat.le_of_ble_eq_true rfl) ?_
  refine a_hp (m_p49 hm) ?_
  refine a_aload_n (pc := 5) dX12_ran_5 rfl rfl ?_
  refine a_iconst (pc := 6) dX12_ran_6 ic_0 ?_
  refine a_putfield (pc := 7) kf_X12_409 dX12_ran_7 (m_obj hm) (rfl) (by rfl) (Nat.le_of_ble_eq_true rfl) ?_
  refine a_hp (m_p50 hm) ?_
  refine a_iconst (pc := 10) dX12_ran_10 ic_0 ?_
  refine a_istore (pc := 11) dX12_ran_11 (by decide) rfl ?_
  refine a_hp (show _ = mh m (N_ran s g a b 0) h0 from rfl) ?_
  exact a_locR (loop _ 0 rfl (Nat.zero_le _)) ⟨rfl, rfl, rfl, rfl, rfl, trivial⟩

def N_im0 (s : MST) : MST := si (si (si (si s 57 (nI 1)) 58 (nI (vI s 18))) 59 (nI (vI s 28))) 60 (s.1 4)
def N_im1 (s : MST) (i : Nat) : MST := sa (sa (N_im0 s) 52 (fillO (s.2.1 14) (s.2.1 52) 0 i)) 53 (fillO (s.2.1 15) (s.2.1 53) 0 i)
def N_im2 (s : MST) (i : Nat) : MST := sa (sa (N_im1 s (25 * vI s 18)) 54 (fillO (s.2.1 16) (s.2.1 54) 0 i)) 55 (fillO (s.2.1 17) (s.2.1 55) 0 i)
def N_im3 (s : MST) (i : Nat) : MST := sa (N_im2 s (vI s 18)) 56 (fillO (s.2.1 27) (s.2.1 56) 0 i)
def R_image (s : MST) : Int32 × MST := (nI (vI s 18), N_im3 s (vI s 28))
set_option maxRecDepth 4000 in
theorem f_image (hm : MI m) (hV : MV s) : Fn X 0 0 0 yX12_image cX12_image 2 (some .int) [.ref (m 65)] (mh m s h0) (fun rv hv => rv = some (.int (R_image s).1) ∧ ∃ s' : MST, hv = mh m s' h0 ∧ SP s' (R_image s).2) := by
  obtain ⟨⟨hn18, hb18⟩, hl18⟩ := id hV.2.1
  obtain ⟨⟨hn28, hb28⟩, hl28⟩ := id hV.2.2.1
  refine fn_of (by decide) (Nat.le_of_ble_eq_true rfl) (fun M hM => ?_)
  refine a_aload_n (pc := 0) dX12_image_0 rfl rfl ?_
  refine a_iconst (pc := 1) dX12_image_1 ic_1 ?_
  refine a_putfield (pc := 2) kf_X12_418 dX12_image_2 (m_obj hm) (rfl) (by rfl) (Nat.le_of_ble_eq_true rfl) ?_
  refine a_hp (m_p57 hm) ?_
  refine a_aload_n (pc := 5) dX12_image_5 rfl rfl ?_
  refine a_aload_n (pc := 6) dX12_image_6 rfl rfl ?_
  refine a_getfield (pc := 7) kg_X12_139 dX12_image_7 (m_obj hm) rfl ?_
  refine a_topi (hn18) ?_
  refine a_putfield (pc := 10) kf_X12_421 dX12_image_10 (m_obj hm) (rfl) (by rfl) (Nat.le_of_ble_eq_true rfl) ?_
  refine a_hp (m_p58 hm) ?_
  refine a_aload_n (pc := 13) dX12_image_13 rfl rfl ?_
  refine a_aload_n (pc := 14) dX12_image_14 rfl rfl ?_
  refine a_getfield (pc := 15) kg_X12_213 dX12_image_15 (m_obj hm) rfl ?_
  refine a_topi (hn28) ?_
  refine a_putfield (pc := 18) kf_X12_424 dX12_image_18 (m_obj hm) (rfl) (by rfl) (Nat.le_of_ble_eq_true rfl) ?_
  refine a_hp (m_p59 hm) ?_
  refine a_aload_n (pc := 21) dX12_image_21 rfl rfl ?_
  refine a_aload_n (pc := 22) dX12_image_22 rfl rfl ?_
  refine a_getfield (pc := 23) kg_X12_380 dX12_image_23 (m_obj hm) rfl ?_
  refine a_putfield (pc := 26) kf_X12_427 dX12_image_26 (m_obj hm) (rfl) (by rfl) (Nat.le_of_ble_eq_true rfl) ?_
  refine a_hp (m_p60 hm) ?_
  refine a_iconst (pc := 29) dX12_image_29 ic_0 ?_
  refine a_istore_n (pc := 30) dX12_image_30 rfl (by decide) rfl ?_
  have loop1 : ∀ j i : Nat, 25 * vI s 18 - i = j → i ≤ 25 * vI s 18 →  AJ X M yX12_image cX12_image 2 (some .int) 31 [(0, .ref (m 65)), (1, .int (nI i))] [] (mh m (N_im1 s i) h0) 0 0 := by
    intro j
    induction j with
    | zero =>
      intro i hjk hkN
      refine a_iload_n (pc := 31) dX12_image_31 rfl rfl ?_
      refine a_bipush (pc := 32) dX12_image_32 ib_25 ?_
      refine a_aload_n (pc := 34) dX12_image_34 rfl rfl ?_
      refine a_getfield (pc := 35) kg_X12_139 dX12_image_35 (m_obj hm) rfl ?_
      refine a_topi (hn18) ?_
      refine a_imulN (pc := 38) dX12_image_38 ?_
      refine a_icmp_geN (pc := 39) (tgt := 72) dX12_image_39 (by decide) (by omega) (by omega) (fun c39 => ?_) (fun c39 => ?_)
      · have hin : i = 25 * vI s 18 := by omega
        subst hin
        refine a_iconst (pc := 72) dX12_image_72 ic_0 ?_
        refine a_istore_n (pc := 73) dX12_image_73 rfl (by decide) rfl ?_
        have loop2 : ∀ j i : Nat, vI s 18 - i = j → i ≤ vI s 18 →  AJ X M yX12_image cX12_image 2 (some .int) 74 [(0, .ref (m 65)), (1, .int (nI i))] [] (mh m (N_im2 s i) h0) 0 0 := by
          intro j
          induction j with
          | zero =>
            intro i hjk hkN
            refine a_iload_n (pc := 74) dX12_image_74 rfl rfl ?_
            refine a_aload_n (pc := 75) dX12_image_75 rfl rfl ?_
            refine a_getfield (pc := 76) kg_X12_139 dX12_image_76 (m_obj hm) rfl ?_
            refine a_topi (hn18) ?_
            refine a_icmp_geN (pc := 79) (tgt := 112) dX12_image_79 (by decide) (by omega) (by omega) (fun c79 => ?_) (fun c79 => ?_)
            · have hin : i = vI s 18 := by omega
              subst hin
              refine a_iconst (pc := 112) dX12_image_112 ic_0 ?_
              refine a_istore_n (pc := 113) dX12_image_113 rfl (by decide) rfl ?_
              have loop3 : ∀ j i : Nat, vI s 28 - i = j → i ≤ vI s 28 →  AJ X M yX12_image cX12_image 2 (some .int) 114 [(0, .ref (m 65)), (1, .int (nI i))] [] (mh m (N_im3 s i) h0) 0 0 := by
                intro j
                induction j with
                | zero =>
                  intro i hjk hkN
                  refine a_iload_n (pc := 114) dX12_image_114 rfl rfl ?_
                  refine a_aload_n (pc := 115) dX12_image_115 rfl rfl ?_
                  refine a_getfield (pc := 116) kg_X12_213 dX12_image_116 (m_obj hm) rfl ?_
                  refine a_topi (hn28) ?_
                  refine a_icmp_geN (pc := 119) (tgt := 140) dX12_image_119 (by decide) (by omega) (by omega) (fun c119 => ?_) (fun c119 => ?_)
                  · have hin : i = vI s 28 := by omega
                    subst hin
                    refine a_aload_n (pc := 140) dX12_image_140 rfl rfl ?_
                    refine a_getfield (pc := 141) kg_X12_139 dX12_image_141 (m_obj hm) rfl ?_
                    refine a_topi (hn18) ?_
                    refine a_ret_i (pc := 144) hM rfl (rfl) dX12_image_144 (by omega) (by omega) ?_
                    exact ⟨rfl, _, rfl, SP.rfl⟩
                  · exact absurd c119 (by omega)
                | succ j ih =>
                  intro i hjk hkN
                  refine a_iload_n (pc := 114) dX12_image_114 rfl rfl ?_
                  refine a_aload_n (pc := 115) dX12_image_115 rfl rfl ?_
                  refine a_getfield (pc := 116) kg_X12_213 dX12_image_116 (m_obj hm) rfl ?_
                  refine a_topi (hn28) ?_
                  refine a_icmp_geN (pc := 119) (tgt := 140) dX12_image_119 (by decide) (by omega) (by omega) (fun c119 => ?_) (fun c119 => ?_)
                  · exact absurd c119 (by omega)
                  · refine a_aload_n (pc := 122) dX12_image_122 rfl rfl ?_
                    refine a_getfield (pc := 123) kg_X12_102 dX12_image_123 (m_obj hm) rfl ?_
                    refine a_iload_n (pc := 126) dX12_image_126 rfl rfl ?_
                    refine a_aload_n (pc := 127) dX12_image_127 rfl rfl ?_
                    refine a_getfield (pc := 128) kg_X12_78 dX12_image_128 (m_obj hm) rfl ?_
                    refine a_iload_n (pc := 131) dX12_image_131 rfl rfl ?_
                    refine a_iaload (pc := 132) dX12_image_132 (m_a27 hm) (_) (rfl) (by omega) (by omega) ?_
                    refine a_iastore (pc := 133) dX12_image_133 (m_a56 hm) (0 + i) (by rw [Nat.zero_add]) (by omega) (by omega) ?_
                    refine a_hp (m_p56 hm) ?_
                    refine a_hp (show _ = mh m (N_im3 s (i + 1)) h0 from congrArg (fun t => mh m t h0) (sa_sa.trans (congrArg (sa _ 56) (fillO_s (f := s.2.1 27))))) ?_
                    refine a_iincN (pc := 134) (n := 1) dX12_image_134 (by decide) rfl (by decide) rfl ?_
                    refine a_goto (pc := 137) (tgt := 114) dX12_image_137 (by decide) ?_
                    exact a_locR (ih (i + 1) (by omega) (by omega)) ⟨rfl, rfl, trivial⟩
              refine a_hp (show _ = mh m (N_im3 s 0) h0 by rw [N_im3, fillO_0]; exact congrArg (fun t => mh m t h0) (sa_id (s := N_im2 s _) (k := 56)).symm) ?_
              exact a_locR (loop3 _ 0 rfl (Nat.zero_le _)) ⟨rfl, rfl, trivial⟩
            · exact absurd c79 (by omega)
          | succ j ih =>
            intro i hjk hkN
            refine a_iload_n (pc := 74) dX12_image_74 rfl rfl ?_
            refine a_aload_n (pc := 75) dX12_image_75 rfl rfl ?_
            refine a_getfield (pc := 76) kg_X12_139 dX12_image_76 (m_obj hm) rfl ?_
            refine a_topi (hn18) ?_
            refine a_icmp_geN (pc := 79) (tgt := 112) dX12_image_79 (by decide) (by omega) (by omega) (fun c79 => ?_) (fun c79 => ?_)
            · exact absurd c79 (by omega)
            · refine a_aload_n (pc := 82) dX12_image_82 rfl rfl ?_
              refine a_getfield (pc := 83) kg_X12_96 dX12_image_83 (m_obj hm) rfl ?_
              refine a_iload_n (pc := 86) dX12_image_86 rfl rfl ?_
              refine a_aload_n (pc := 87) dX12_image_87 rfl rfl ?_
              refine a_getfield (pc := 88) kg_X12_48 dX12_image_88 (m_obj hm) rfl ?_
              refine a_iload_n (pc := 91) dX12_image_91 rfl rfl ?_
              refine a_iaload (pc := 92) dX12_image_92 (m_a16 hm) (_) (rfl) (by omega) (by omega) ?_
              refine a_iastore (pc := 93) dX12_image_93 (m_a54 hm) (0 + i) (by rw [Nat.zero_add]) (by omega) (by omega) ?_
              refine a_hp (m_p54 hm) ?_
              refine a_hp (show _ = mh m (sa (sa (N_im1 s (25 * vI s 18)) 54 (fillO (s.2.1 16) (s.2.1 54) 0 (i + 1))) 55 (fillO (s.2.1 17) (s.2.1 55) 0 i)) h0 from congrArg (fun t => mh m t h0) ((sa_3' (by decide)).trans (congrArg (fun z => sa (sa _ 54 z) 55 _) (fillO_s (f := s.2.1 16))))) ?_
              refine a_aload_n (pc := 94) dX12_image_94 rfl rfl ?_
              refine a_getfield (pc := 95) kg_X12_99 dX12_image_95 (m_obj hm) rfl ?_
              refine a_iload_n (pc := 98) dX12_image_98 rfl rfl ?_
              refine a_aload_n (pc := 99) dX12_image_99 rfl rfl ?_
              refine a_getfield (pc := 100) kg_X12_51 dX12_image_100 (m_obj hm) rfl ?_
              refine a_iload_n (pc := 103) dX12_image_103 rfl rfl ?_
              refine a_iaload (pc := 104) dX12_image_104 (m_a17 hm) (_) (rfl) (by omega) (by omega) ?_
              refine a_iastore (pc := 105) dX12_image_105 (m_a55 hm) (0 + i) (by rw [Nat.zero_add]) (by omega) (by omega) ?_
              refine a_hp (m_p55 hm) ?_
              refine a_hp (show _ = mh m (N_im2 s (i + 1)) h0 from congrArg (fun t => mh m t h0) (sa_sa.trans (congrArg (sa _ 55) (fillO_s (f := s.2.1 17))))) ?_
              refine a_iincN (pc := 106) (n := 1) dX12_image_106 (by decide) rfl (by decide) rfl ?_
              refine a_goto (pc := 109) (tgt := 74) dX12_image_109 (by decide) ?_
              exact a_locR (ih (i + 1) (by omega) (by omega)) ⟨rfl, rfl, trivial⟩
        refine a_hp (show _ = mh m (N_im2 s 0) h0 by rw [N_im2, fillO_0, fillO_0]; exact congrArg (fun t => mh m t h0) ((sa_id (s := N_im1 s _) (k := 54)).symm.trans (congrArg (fun z => sa z 54 (s.2.1 54)) (sa_id (s := N_im1 s _) (k := 55)).symm |>.trans (sa_sw (by decide)))) ) ?_
        exact a_locR (loop2 _ 0 rfl (Nat.zero_le _)) ⟨rfl, rfl, trivial⟩
      · exact absurd c39 (by omega)
    | succ j ih =>
      intro i hjk hkN
      refine a_iload_n (pc := 31) dX12_image_31 rfl rfl ?_
      refine a_bipush (pc := 32) dX12_image_32 ib_25 ?_
      refine a_aload_n (pc := 34) dX12_image_34 rfl rfl ?_
      refine a_getfield (pc := 35) kg_X12_139 dX12_image_35 (m_obj hm) rfl ?_
      refine a_topi (hn18) ?_
      refine a_imulN (pc := 38) dX12_image_38 ?_
      refine a_icmp_geN (pc := 39) (tgt := 72) dX12_image_39 (by decide) (by omega) (by omega) (fun c39 => ?_) (fun c39 => ?_)
      · exact absurd c39 (by omega)
      · refine a_aload_n (pc := 42) dX12_image_42 rfl rfl ?_
        refine a_getfield (pc := 43) kg_X12_90 dX12_image_43 (m_obj hm) rfl ?_
        refine a_iload_n (pc := 46) dX12_image_46 rfl rfl ?_
        refine a_aload_n (pc := 47) dX12_image_47 rfl rfl ?_
        refine a_getfield (pc := 48) kg_X12_42 dX12_image_48 (m_obj hm) rfl ?_
        refine a_iload_n (pc := 51) dX12_image_51 rfl rfl ?_
        refine a_iaload (pc := 52) dX12_image_52 (m_a14 hm) (_) (rfl) (by omega) (by omega) ?_
        refine a_iastore (pc := 53) dX12_image_53 (m_a52 hm) (0 + i) (by rw [Nat.zero_add]) (by omega) (by omega) ?_
        refine a_hp (m_p52 hm) ?_
        refine a_hp (show _ = mh m (sa (sa (N_im0 s) 52 (fillO (s.2.1 14) (s.2.1 52) 0 (i + 1))) 53 (fillO (s.2.1 15) (s.2.1 53) 0 i)) h0 from congrArg (fun t => mh m t h0) ((sa_3' (by decide)).trans (congrArg (fun z => sa (sa _ 52 z) 53 _) (fillO_s (f := s.2.1 14))))) ?_
        refine a_aload_n (pc := 54) dX12_image_54 rfl rfl ?_
        refine a_getfield (pc := 55) kg_X12_93 dX12_image_55 (m_obj hm) rfl ?_
        refine a_iload_n (pc := 58) dX12_image_58 rfl rfl ?_
        refine a_aload_n (pc := 59) dX12_image_59 rfl rfl ?_
        refine a_getfield (pc := 60) kg_X12_45 dX12_image_60 (m_obj hm) rfl ?_
        refine a_iload_n (pc := 63) dX12_image_63 rfl rfl ?_
        refine a_iaload (pc := 64) dX12_image_64 (m_a15 hm) (_) (rfl) (by omega) (by omega) ?_
        refine a_iastore (pc := 65) dX12_image_65 (m_a53 hm) (0 + i) (by rw [Nat.zero_add]) (by omega) (by omega) ?_
        refine a_hp (m_p53 hm) ?_
        refine a_hp (show _ = mh m (N_im1 s (i + 1)) h0 from congrArg (fun t => mh m t h0) (sa_sa.trans (congrArg (sa _ 53) (fillO_s (f := s.2.1 15))))) ?_
        refine a_iincN (pc := 66) (n := 1) dX12_image_66 (by decide) rfl (by decide) rfl ?_
        refine a_goto (pc := 69) (tgt := 31) dX12_image_69 (by decide) ?_
        exact a_locR (ih (i + 1) (by omega) (by omega)) ⟨rfl, rfl, trivial⟩
  refine a_hp (show _ = mh m (N_im1 s 0) h0 by rw [N_im1, fillO_0, fillO_0]; exact congrArg (fun t => mh m t h0) ((sa_id (s := N_im0 s) (k := 52)).symm.trans (congrArg (fun z => sa z 52 (s.2.1 52)) (sa_id (s := N_im0 s) (k := 53)).symm |>.trans (sa_sw (by decide)))) ) ?_
  exact a_locR (loop1 _ 0 rfl (Nat.zero_le _)) ⟨rfl, rfl, trivial⟩

def N_bk1 (s : MST) (i : Nat) : MST := sa (sa (si s 4 (s.1 60)) 14 (fillO (s.2.1 52) (s.2.1 14) 0 i)) 15 (fillO (s.2.1 53) (s.2.1 15) 0 i)
def N_bk2 (s : MST) (i : Nat) : MST := sa (sa (N_bk1 s (25 * vI s 58)) 16 (fillO (s.2.1 54) (s.2.1 16) 0 i)) 17 (fillO (s.2.1 55) (s.2.1 17) 0 i)
def N_bk3 (s : MST) (i : Nat) : MST := sa (N_bk2 s (vI s 58)) 27 (fillO (s.2.1 56) (s.2.1 27) 0 i)
def R_back (s : MST) : Int32 × MST := if s.1 57 = 0 then (-3, s) else (nI (vI s 18), N_bk3 s (vI s 59))
set_option maxRecDepth 4000 in
theorem f_back (hm : MI m) (hV : MV s) : Fn X 0 0 0 yX12_back cX12_back 2 (some .int) [.ref (m 65)] (mh m s h0) (fun rv hv => rv = some (.int (R_back s).1) ∧ ∃ s' : MST, hv = mh m s' h0 ∧ SP s' (R_back s).2) := by
  obtain ⟨⟨hn18, hb18⟩, hl18⟩ := id hV.2.1
  obtain ⟨⟨hn28, hb28⟩, hl28⟩ := id hV.2.2.1
  refine fn_of (by decide) (Nat.le_of_ble_eq_true rfl) (fun M hM => ?_)
  refine a_aload_n (pc := 0) dX12_back_0 rfl rfl ?_
  refine a_getfield (pc := 1) kg_X12_418 dX12_back_1 (m_obj hm) rfl ?_
  refine a_if_ne (pc := 4) (tgt := 10) dX12_back_4 (by decide) (fun c4 => ?_) (fun c4 => ?_)
  · obtain ⟨q57, hq57, h57⟩ := (show ∃ q, q < 2 ∧ s.1 57 = nI q from ⟨_, hV.2.2.2.2.1.1.2, hV.2.2.2.2.1.1.1⟩)
    have h571 : s.1 57 = nI 1 := by rcases (by omega : q57 = 0 ∨ q57 = 1) with rfl | rfl; exact absurd h57 c4; exact h57
    obtain ⟨⟨hn58, hb58⟩, ⟨hn59, hb59⟩, -⟩ := hV.2.2.2.2.1.2 h571
    refine a_aload_n (pc := 10) dX12_back_10 rfl rfl ?_
    refine a_aload_n (pc := 11) dX12_back_11 rfl rfl ?_
    refine a_getfield (pc := 12) kg_X12_427 dX12_back_12 (m_obj hm) rfl ?_
    refine a_putfield (pc := 15) kf_X12_380 dX12_back_15 (m_obj hm) (rfl) (by rfl) (Nat.le_of_ble_eq_true rfl) ?_
    refine a_hp (m_p4 hm) ?_
    refine a_iconst (pc := 18) dX12_back_18 ic_0 ?_
    refine a_istore_n (pc := 19) dX12_back_19 rfl (by decide) rfl ?_
    have loop1 : ∀ j i : Nat, 25 * vI s 58 - i = j → i ≤ 25 * vI s 58 →  AJ X M yX12_back cX12_back 2 (some .int) 20 [(0, .ref (m 65)), (1, .int (nI i))] [] (mh m (N_bk1 s i) h0) 0 0 := by
      intro j
      induction j with
      | zero =>
        intro i hjk hkN
        refine a_iload_n (pc := 20) dX12_back_20 rfl rfl ?_
        refine a_bipush (pc := 21) dX12_back_21 ib_25 ?_
        refine a_aload_n (pc := 23) dX12_back_23 rfl rfl ?_
        refine a_getfield (pc := 24) kg_X12_421 dX12_back_24 (m_obj hm) rfl ?_
        refine a_topi (hn58) ?_
        refine a_imulN (pc := 27) dX12_back_27 ?_
        refine a_icmp_geN (pc := 28) (tgt := 61) dX12_back_28 (by decide) (by omega) (by omega) (fun c28 => ?_) (fun c28 => ?_)
        · have hin : i = 25 * vI s 58 := by omega
          subst hin
          refine a_iconst (pc := 61) dX12_back_61 ic_0 ?_
          refine a_istore_n (pc := 62) dX12_back_62 rfl (by decide) rfl ?_
          have loop2 : ∀ j i : Nat, vI s 58 - i = j → i ≤ vI s 58 →  AJ X M yX12_back cX12_back 2 (some .int) 63 [(0, .ref (m 65)), (1, .int (nI i))] [] (mh m (N_bk2 s i) h0) 0 0 := by
            intro j
            induction j with
            | zero =>
              intro i hjk hkN
              refine a_iload_n (pc := 63) dX12_back_63 rfl rfl ?_
              refine a_aload_n (pc := 64) dX12_back_64 rfl rfl ?_
              refine a_getfield (pc := 65) kg_X12_421 dX12_back_65 (m_obj hm) rfl ?_
              refine a_topi (hn58) ?_
              refine a_icmp_geN (pc := 68) (tgt := 101) dX12_back_68 (by decide) (by omega) (by omega) (fun c68 => ?_) (fun c68 => ?_)
              · have hin : i = vI s 58 := by omega
                subst hin
                refine a_iconst (pc := 101) dX12_back_101 ic_0 ?_
                refine a_istore_n (pc := 102) dX12_back_102 rfl (by decide) rfl ?_
                have loop3 : ∀ j i : Nat, vI s 59 - i = j → i ≤ vI s 59 →  AJ X M yX12_back cX12_back 2 (some .int) 103 [(0, .ref (m 65)), (1, .int (nI i))] [] (mh m (N_bk3 s i) h0) 0 0 := by
                  intro j
                  induction j with
                  | zero =>
                    intro i hjk hkN
                    refine a_iload_n (pc := 103) dX12_back_103 rfl rfl ?_
                    refine a_aload_n (pc := 104) dX12_back_104 rfl rfl ?_
                    refine a_getfield (pc := 105) kg_X12_424 dX12_back_105 (m_obj hm) rfl ?_
                    refine a_topi (hn59) ?_
                    refine a_icmp_geN (pc := 108) (tgt := 129) dX12_back_108 (by decide) (by omega) (by omega) (fun c108 => ?_) (fun c108 => ?_)
                    · have hin : i = vI s 59 := by omega
                      subst hin
                      refine a_aload_n (pc := 129) dX12_back_129 rfl rfl ?_
                      refine a_getfield (pc := 130) kg_X12_139 dX12_back_130 (m_obj hm) rfl ?_
                      refine a_topi (hn18) ?_
                      refine a_ret_i (pc := 133) hM rfl (rfl) dX12_back_133 (by omega) (by omega) ?_
                      exact ⟨by rw [R_back, if_neg c4], _, rfl, by rw [R_back, if_neg c4]; exact SP.rfl⟩
                    · exact absurd c108 (by omega)
                  | succ j ih =>
                    intro i hjk hkN
                    refine a_iload_n (pc := 103) dX12_back_103 rfl rfl ?_
                    refine a_aload_n (pc := 104) dX12_back_104 rfl rfl ?_
                    refine a_getfield (pc := 105) kg_X12_424 dX12_back_105 (m_obj hm) rfl ?_
                    refine a_topi (hn59) ?_
                    refine a_icmp_geN (pc := 108) (tgt := 129) dX12_back_108 (by decide) (by omega) (by omega) (fun c108 => ?_) (fun c108 => ?_)
                    · exact absurd c108 (by omega)
                    · refine a_aload_n (pc := 111) dX12_back_111 rfl rfl ?_
                      refine a_getfield (pc := 112) kg_X12_78 dX12_back_112 (m_obj hm) rfl ?_
                      refine a_iload_n (pc := 115) dX12_back_115 rfl rfl ?_
                      refine a_aload_n (pc := 116) dX12_back_116 rfl rfl ?_
                      refine a_getfield (pc := 117) kg_X12_102 dX12_back_117 (m_obj hm) rfl ?_
                      refine a_iload_n (pc := 120) dX12_back_120 rfl rfl ?_
                      refine a_iaload (pc := 121) dX12_back_121 (m_a56 hm) (_) (rfl) (by omega) (by omega) ?_
                      refine a_iastore (pc := 122) dX12_back_122 (m_a27 hm) (0 + i) (by rw [Nat.zero_add]) (by omega) (by omega) ?_
                      refine a_hp (m_p27 hm) ?_
                      refine a_hp (show _ = mh m (N_bk3 s (i + 1)) h0 from congrArg (fun t => mh m t h0) (sa_sa.trans (congrArg (sa _ 27) (fillO_s (f := s.2.1 56))))) ?_
                      refine a_iincN (pc := 123) (n := 1) dX12_back_123 (by decide) rfl (by decide) rfl ?_
                      refine a_goto (pc := 126) (tgt := 103) dX12_back_126 (by decide) ?_
                      exact a_locR (ih (i + 1) (by omega) (by omega)) ⟨rfl, rfl, trivial⟩
                refine a_hp (show _ = mh m (N_bk3 s 0) h0 by rw [N_bk3, fillO_0]; exact congrArg (fun t => mh m t h0) (sa_id (s := N_bk2 s _) (k := 27)).symm) ?_
                exact a_locR (loop3 _ 0 rfl (Nat.zero_le _)) ⟨rfl, rfl, trivial⟩
              · exact absurd c68 (by omega)
            | succ j ih =>
              intro i hjk hkN
              refine a_iload_n (pc := 63) dX12_back_63 rfl rfl ?_
              refine a_aload_n (pc := 64) dX12_back_64 rfl rfl ?_
              refine a_getfield (pc := 65) kg_X12_421 dX12_back_65 (m_obj hm) rfl ?_
              refine a_topi (hn58) ?_
              refine a_icmp_geN (pc := 68) (tgt := 101) dX12_back_68 (by decide) (by omega) (by omega) (fun c68 => ?_) (fun c68 => ?_)
              · exact absurd c68 (by omega)
              · refine a_aload_n (pc := 71) dX12_back_71 rfl rfl ?_
                refine a_getfield (pc := 72) kg_X12_48 dX12_back_72 (m_obj hm) rfl ?_
                refine a_iload_n (pc := 75) dX12_back_75 rfl rfl ?_
                refine a_aload_n (pc := 76) dX12_back_76 rfl rfl ?_
                refine a_getfield (pc := 77) kg_X12_96 dX12_back_77 (m_obj hm) rfl ?_
                refine a_iload_n (pc := 80) dX12_back_80 rfl rfl ?_
                refine a_iaload (pc := 81) dX12_back_81 (m_a54 hm) (_) (rfl) (by omega) (by omega) ?_
                refine a_iastore (pc := 82) dX12_back_82 (m_a16 hm) (0 + i) (by rw [Nat.zero_add]) (by omega) (by omega) ?_
                refine a_hp (m_p16 hm) ?_
                refine a_hp (show _ = mh m (sa (sa (N_bk1 s (25 * vI s 58)) 16 (fillO (s.2.1 54) (s.2.1 16) 0 (i + 1))) 17 (fillO (s.2.1 55) (s.2.1 17) 0 i)) h0 from congrArg (fun t => mh m t h0) ((sa_3' (by decide)).trans (congrArg (fun z => sa (sa _ 16 z) 17 _) (fillO_s (f := s.2.1 54))))) ?_
                refine a_aload_n (pc := 83) dX12_back_83 rfl rfl ?_
                refine a_getfield (pc := 84) kg_X12_51 dX12_back_84 (m_obj hm) rfl ?_
                refine a_iload_n (pc := 87) dX12_back_87 rfl rfl ?_
                refine a_aload_n (pc := 88) dX12_back_88 rfl rfl ?_
                refine a_getfield (pc := 89) kg_X12_99 dX12_back_89 (m_obj hm) rfl ?_
                refine a_iload_n (pc := 92) dX12_back_92 rfl rfl ?_
                refine a_iaload (pc := 93) dX12_back_93 (m_a55 hm) (_) (rfl) (by omega) (by omega) ?_
                refine a_iastore (pc := 94) dX12_back_94 (m_a17 hm) (0 + i) (by rw [Nat.zero_add]) (by omega) (by omega) ?_
                refine a_hp (m_p17 hm) ?_
                refine a_hp (show _ = mh m (N_bk2 s (i + 1)) h0 from congrArg (fun t => mh m t h0) (sa_sa.trans (congrArg (sa _ 17) (fillO_s (f := s.2.1 55))))) ?_
                refine a_iincN (pc := 95) (n := 1) dX12_back_95 (by decide) rfl (by decide) rfl ?_
                refine a_goto (pc := 98) (tgt := 63) dX12_back_98 (by decide) ?_
                exact a_locR (ih (i + 1) (by omega) (by omega)) ⟨rfl, rfl, trivial⟩
          refine a_hp (show _ = mh m (N_bk2 s 0) h0 by rw [N_bk2, fillO_0, fillO_0]; exact congrArg (fun t => mh m t h0) ((sa_id (s := N_bk1 s _) (k := 16)).symm.trans (congrArg (fun z => sa z 16 (s.2.1 16)) (sa_id (s := N_bk1 s _) (k := 17)).symm |>.trans (sa_sw (by decide)))) ) ?_
          exact a_locR (loop2 _ 0 rfl (Nat.zero_le _)) ⟨rfl, rfl, trivial⟩
        · exact absurd c28 (by omega)
      | succ j ih =>
        intro i hjk hkN
        refine a_iload_n (pc := 20) dX12_back_20 rfl rfl ?_
        refine a_bipush (pc := 21) dX12_back_21 ib_25 ?_
        refine a_aload_n (pc := 23) dX12_back_23 rfl rfl ?_
        refine a_getfield (pc := 24) kg_X12_421 dX12_back_24 (m_obj hm) rfl ?_
        refine a_topi (hn58) ?_
        refine a_imulN (pc := 27) dX12_back_27 ?_
        refine a_icmp_geN (pc := 28) (tgt := 61) dX12_back_28 (by decide) (by omega) (by omega) (fun c28 => ?_) (fun c28 => ?_)
        · exact absurd c28 (by omega)
        · refine a_aload_n (pc := 31) dX12_back_31 rfl rfl ?_
          refine a_getfield (pc := 32) kg_X12_42 dX12_back_32 (m_obj hm) rfl ?_
          refine a_iload_n (pc := 35) dX12_back_35 rfl rfl ?_
          refine a_aload_n (pc := 36) dX12_back_36 rfl rfl ?_
          refine a_getfield (pc := 37) kg_X12_90 dX12_back_37 (m_obj hm) rfl ?_
          refine a_iload_n (pc := 40) dX12_back_40 rfl rfl ?_
          refine a_iaload (pc := 41) dX12_back_41 (m_a52 hm) (_) (rfl) (by omega) (by omega) ?_
          refine a_iastore (pc := 42) dX12_back_42 (m_a14 hm) (0 + i) (by rw [Nat.zero_add]) (by omega) (by omega) ?_
          refine a_hp (m_p14 hm) ?_
          refine a_hp (show _ = mh m (sa (sa (si s 4 (s.1 60)) 14 (fillO (s.2.1 52) (s.2.1 14) 0 (i + 1))) 15 (fillO (s.2.1 53) (s.2.1 15) 0 i)) h0 from congrArg (fun t => mh m t h0) ((sa_3' (by decide)).trans (congrArg (fun z => sa (sa _ 14 z) 15 _) (fillO_s (f := s.2.1 52))))) ?_
          refine a_aload_n (pc := 43) dX12_back_43 rfl rfl ?_
          refine a_getfield (pc := 44) kg_X12_45 dX12_back_44 (m_obj hm) rfl ?_
          refine a_iload_n (pc := 47) dX12_back_47 rfl rfl ?_
          refine a_aload_n (pc := 48) dX12_back_48 rfl rfl ?_
          refine a_getfield (pc := 49) kg_X12_93 dX12_back_49 (m_obj hm) rfl ?_
          refine a_iload_n (pc := 52) dX12_back_52 rfl rfl ?_
          refine a_iaload (pc := 53) dX12_back_53 (m_a53 hm) (_) (rfl) (by omega) (by omega) ?_
          refine a_iastore (pc := 54) dX12_back_54 (m_a15 hm) (0 + i) (by rw [Nat.zero_add]) (by omega) (by omega) ?_
          refine a_hp (m_p15 hm) ?_
          refine a_hp (show _ = mh m (N_bk1 s (i + 1)) h0 from congrArg (fun t => mh m t h0) (sa_sa.trans (congrArg (sa _ 15) (fillO_s (f := s.2.1 53))))) ?_
          refine a_iincN (pc := 55) (n := 1) dX12_back_55 (by decide) rfl (by decide) rfl ?_
          refine a_goto (pc := 58) (tgt := 20) dX12_back_58 (by decide) ?_
          exact a_locR (ih (i + 1) (by omega) (by omega)) ⟨rfl, rfl, trivial⟩
    refine a_hp (show _ = mh m (N_bk1 s 0) h0 by rw [N_bk1, fillO_0, fillO_0]; exact congrArg (fun t => mh m t h0) ((sa_id (s := si s 4 (s.1 60)) (k := 14)).symm.trans (congrArg (fun z => sa z 14 (s.2.1 14)) (sa_id (s := si s 4 (s.1 60)) (k := 15)).symm |>.trans (sa_sw (by decide)))) ) ?_
    exact a_locR (loop1 _ 0 rfl (Nat.zero_le _)) ⟨rfl, rfl, trivial⟩
  · refine a_bipush (pc := 7) dX12_back_7 ib_m3 ?_
    refine a_ret_i (pc := 9) hM rfl (rfl) dX12_back_9 (by omega) (by omega) ?_
    exact ⟨by rw [R_back, if_pos c4], _, rfl, by rw [R_back, if_pos c4]; exact SP.rfl⟩

def hitsAll (s : MST) : Nat → Nat := sumN (fun k => hitsP s k (rsz s k))
def cntV (s : MST) (k : Nat) : Int32 := match k with
  | 0 => s.1 10
  | 1 => s.1 18
  | 2 => s.1 28
  | 3 => s.1 31
  | 4 => s.1 3
  | 5 => s.1 6
  | 6 => s.1 4
  | _ => nI (hitsAll s (vI s 18))
def R_count (s : MST) (x : Int32) : Int32 × MST := if inN x 8 = true then (cntV s x.toNatClampNeg, s) else (-2, s)
theorem hitsAll_le (s : MST) (n : Nat) (h : ∀ k, k < n → rsz s k ≤ 25) : hitsAll s n ≤ 25 * n := by
  induction n with
  | zero => exact Nat.zero_le _
  | succ n ih =>
    have h1 := ih (fun k hk => h k (by omega))
    have h2 : hitsP s n (rsz s n) ≤ rsz s n := cntN_le _ _
    have h3 := h n (by omega)
    show hitsAll s n + hitsP s n (rsz s n) ≤ 25 * (n + 1)
    omega
set_option maxRecDepth 4000 in
theorem f_count (hm : MI m) (hV : MV s) (x : Int32) : Fn X 2 0 0 yX12_count cX12_count 4 (some .int) [.ref (m 65), .int x] (mh m s h0) (fun rv hv => rv = some (.int (R_count s x).1) ∧ ∃ s' : MST, hv = mh m s' h0 ∧ SP s' (R_count s x).2) := by
  obtain ⟨⟨hn18, hb18⟩, hl18⟩ := id hV.2.1
  refine fn_of (by decide) (Nat.le_of_ble_eq_true rfl) (fun M hM => ?_)
  refine a_iconst (pc := 0) dX12_count_0 ic_0 ?_
  refine a_istore_n (pc := 1) dX12_count_1 rfl (by decide) rfl ?_
  refine a_iload_n (pc := 2) dX12_count_2 rfl rfl ?_
  by_cases hx : inN x 8 = true
  · obtain ⟨v, hv, rfl⟩ := inN_of hx (by omega)
    rcases (by omega : v = 0 ∨ v = 1 ∨ v = 2 ∨ v = 3 ∨ v = 4 ∨ v = 5 ∨ v = 6 ∨ v = 7) with rfl | rfl | rfl | rfl | rfl | rfl | rfl | rfl
    · refine a_tabIn (pc := 3) (off := 45) (tgt := 48) dX12_count_3 (by decide) (by decide) rfl (by decide) ?_
      refine a_aload_n (pc := 48) dX12_count_48 rfl rfl ?_
      refine a_getfield (pc := 49) kg_X12_150 dX12_count_49 (m_obj hm) rfl ?_
      refine a_ret_i (pc := 52) hM rfl (rfl) dX12_count_52 (by omega) (by omega) ?_
      exact ⟨by rw [R_count, if_pos hx]; rfl, _, rfl, by rw [R_count, if_pos hx]; exact SP.rfl⟩
    · refine a_tabIn (pc := 3) (off := 50) (tgt := 53) dX12_count_3 (by decide) (by decide) rfl (by decide) ?_
      refine a_aload_n (pc := 53) dX12_count_53 rfl rfl ?_
      refine a_getfield (pc := 54) kg_X12_139 dX12_count_54 (m_obj hm) rfl ?_
      refine a_ret_i (pc := 57) hM rfl (rfl) dX12_count_57 (by omega) (by omega) ?_
      exact ⟨by rw [R_count, if_pos hx]; rfl, _, rfl, by rw [R_count, if_pos hx]; exact SP.rfl⟩
    · refine a_tabIn (pc := 3) (off := 55) (tgt := 58) dX12_count_3 (by decide) (by decide) rfl (by decide) ?_
      refine a_aload_n (pc := 58) dX12_count_58 rfl rfl ?_
      refine a_getfield (pc := 59) kg_X12_213 dX12_count_59 (m_obj hm) rfl ?_
      refine a_ret_i (pc := 62) hM rfl (rfl) dX12_count_62 (by omega) (by omega) ?_
      exact ⟨by rw [R_count, if_pos hx]; rfl, _, rfl, by rw [R_count, if_pos hx]; exact SP.rfl⟩
    · refine a_tabIn (pc := 3) (off := 60) (tgt := 63) dX12_count_3 (by decide) (by decide) rfl (by decide) ?_
      refine a_aload_n (pc := 63) dX12_count_63 rfl rfl ?_
      refine a_getfield (pc := 64) kg_X12_231 dX12_count_64 (m_obj hm) rfl ?_
      refine a_ret_i (pc := 67) hM rfl (rfl) dX12_count_67 (by omega) (by omega) ?_
      exact ⟨by rw [R_count, if_pos hx]; rfl, _, rfl, by rw [R_count, if_pos hx]; exact SP.rfl⟩
    · refine a_tabIn (pc := 3) (off := 65) (tgt := 68) dX12_count_3 (by decide) (by decide) rfl (by decide) ?_
      refine a_aload_n (pc := 68) dX12_count_68 rfl rfl ?_
      refine a_getfield (pc := 69) kg_X12_134 dX12_count_69 (m_obj hm) rfl ?_
      refine a_ret_i (pc := 72) hM rfl (rfl) dX12_count_72 (by omega) (by omega) ?_
      exact ⟨by rw [R_count, if_pos hx]; rfl, _, rfl, by rw [R_count, if_pos hx]; exact SP.rfl⟩
    · refine a_tabIn (pc := 3) (off := 70) (tgt := 73) dX12_count_3 (by decide) (by decide) rfl (by decide) ?_
      refine a_aload_n (pc := 73) dX12_count_73 rfl rfl ?_
      refine a_getfield (pc := 74) kg_X12_239 dX12_count_74 (m_obj hm) rfl ?_
      refine a_ret_i (pc := 77) hM rfl (rfl) dX12_count_77 (by omega) (by omega) ?_
      exact ⟨by rw [R_count, if_pos hx]; rfl, _, rfl, by rw [R_count, if_pos hx]; exact SP.rfl⟩
    · refine a_tabIn (pc := 3) (off := 75) (tgt := 78) dX12_count_3 (by decide) (by decide) rfl (by decide) ?_
      refine a_aload_n (pc := 78) dX12_count_78 rfl rfl ?_
      refine a_getfield (pc := 79) kg_X12_380 dX12_count_79 (m_obj hm) rfl ?_
      refine a_ret_i (pc := 82) hM rfl (rfl) dX12_count_82 (by omega) (by omega) ?_
      exact ⟨by rw [R_count, if_pos hx]; rfl, _, rfl, by rw [R_count, if_pos hx]; exact SP.rfl⟩
    · refine a_tabIn (pc := 3) (off := 80) (tgt := 83) dX12_count_3 (by decide) (by decide) rfl (by decide) ?_
      refine a_iconst (pc := 83) dX12_count_83 ic_0 ?_
      refine a_istore_n (pc := 84) dX12_count_84 rfl (by decide) rfl ?_
      have loop : ∀ j k : Nat, vI s 18 - k = j → k ≤ vI s 18 →  AJ X M yX12_count cX12_count 4 (some .int) 85 [(0, .ref (m 65)), (2, .int (nI (hitsAll s k))), (3, .int (nI k))] [] (mh m s h0) 0 0 := by
        intro j
        induction j with
        | zero =>
          intro k hjk hkN
          have hle := hitsAll_le s k (fun j hj => (MV_run hV (r := j) (by omega)).2.2.2)
          refine a_iload_n (pc := 85) dX12_count_85 rfl rfl ?_
          refine a_aload_n (pc := 86) dX12_count_86 rfl rfl ?_
          refine a_getfield (pc := 87) kg_X12_139 dX12_count_87 (m_obj hm) rfl ?_
          refine a_topi (hn18) ?_
          refine a_icmp_geN (pc := 90) (tgt := 107) dX12_count_90 (by decide) (by omega) (by omega) (fun c90 => ?_) (fun c90 => ?_)
          · have hkn : k = vI s 18 := by omega
            subst hkn
            refine a_iload_n (pc := 107) dX12_count_107 rfl rfl ?_
            refine a_ret_i (pc := 108) hM rfl (rfl) dX12_count_108 (by omega) (by omega) ?_
            exact ⟨by rw [R_count, if_pos hx]; rfl, _, rfl, by rw [R_count, if_pos hx]; exact SP.rfl⟩
          · exact absurd c90 (by omega)
        | succ j ih =>
          intro k hjk hkN
          have hle := hitsAll_le s k (fun j hj => (MV_run hV (r := j) (by omega)).2.2.2)
          refine a_iload_n (pc := 85) dX12_count_85 rfl rfl ?_
          refine a_aload_n (pc := 86) dX12_count_86 rfl rfl ?_
          refine a_getfield (pc := 87) kg_X12_139 dX12_count_87 (m_obj hm) rfl ?_
          refine a_topi (hn18) ?_
          refine a_icmp_geN (pc := 90) (tgt := 107) dX12_count_90 (by decide) (by omega) (by omega) (fun c90 => ?_) (fun c90 => ?_)
          · exact absurd c90 (by omega)
          · obtain ⟨hk16, hz, hz1, hz2⟩ := MV_run hV (r := k) (by omega)
            refine a_iload_n (pc := 93) dX12_count_93 rfl rfl ?_
            refine a_aload_n (pc := 94) dX12_count_94 rfl rfl ?_
            refine a_iload_n (pc := 95) dX12_count_95 rfl rfl ?_
            refine a_callV (pc := 96) km_X12_183 dX12_count_96 (f_hitsOf hm hk16 hz) rfl rfl (krecv_of (ci := 12) rfl (m_obj hm)) (rok_of hM (by decide) (by decide) (by omega) (by omega)) (Nat.le_of_ble_eq_true rfl) (fun r96 h96 hp96 => ?_)
            obtain ⟨rfl, rfl⟩ := hp96
            refine a_iaddN (pc := 99) dX12_count_99 ?_
            refine a_istore_n (pc := 100) dX12_count_100 rfl (by decide) rfl ?_
            refine a_iincN (pc := 101) (n := 1) dX12_count_101 (by decide) rfl (by decide) rfl ?_
            refine a_goto (pc := 104) (tgt := 85) dX12_count_104 (by decide) ?_
            exact a_locR (ih (k + 1) (by omega) (by omega)) ⟨rfl, rfl, rfl, trivial⟩
      exact a_locR (loop _ 0 rfl (Nat.zero_le _)) ⟨rfl, rfl, rfl, trivial⟩
  · refine a_tabOut (pc := 3) (tgt := 109) dX12_count_3 (by simp only [inN, Bool.and_eq_true, decide_eq_true_eq] at hx; omega) (by decide) ?_
    refine a_bipush (pc := 109) dX12_count_109 ib_m2 ?_
    refine a_ret_i (pc := 111) hM rfl (rfl) dX12_count_111 (by omega) (by omega) ?_
    exact ⟨by rw [R_count, if_neg hx], _, rfl, by rw [R_count, if_neg hx]; exact SP.rfl⟩

def cellV (so v : Int32) : Int32 := if so = 0 then v.toInt8.toInt32 else if so = nI 1 then v.toInt16.toInt32 else v
def R_cell (s : MST) (x i v : Int32) : Int32 × MST := if inN x 4 = true then (if s.2.1 61 x.toNatClampNeg = 0 then (-11, s) else if inN i (vA s 63 x.toNatClampNeg) = true then (nI 1, sa s 64 (upd (s.2.1 64) (40 * x.toNatClampNeg + i.toNatClampNeg) (cellV (s.2.1 62 x.toNatClampNeg) v))) else (-12, s)) else (-2, s)
theorem MV_there {s : MST} (hV : MV s) {q : Nat} (hq : q < 4) (h : ¬ s.2.1 61 q = 0) : s.2.1 61 q = nI 1 ∧ okV (s.2.1 62 q) 3 ∧ s.2.1 63 q = nI (vA s 63 q) ∧ vA s 63 q ≤ 40 := by
  obtain ⟨h1, h2⟩ := hV.2.2.2.2.2.1 q hq
  have h3 : s.2.1 61 q = nI 1 := by
    have e := h1.1
    have l := h1.2
    rcases (by omega : (s.2.1 61 q).toNatClampNeg = 0 ∨ (s.2.1 61 q).toNatClampNeg = 1) with z | z
    · rw [z] at e; exact absurd e h
    · rw [z] at e; exact e
  obtain ⟨a, b⟩ := h2 h3
  have hl : vA s 63 q < 41 := b.2
  exact ⟨h3, a, b.1, by omega⟩
set_option maxRecDepth 4000 in
theorem f_cell (hm : MI m) (hV : MV s) (x i v : Int32) : Fn X 2 0 0 yX12_cell cX12_cell 4 (some .int) [.ref (m 65), .int x, .int i, .int v] (mh m s h0) (fun rv hv => rv = some (.int (R_cell s x i v).1) ∧ ∃ s' : MST, hv = mh m s' h0 ∧ SP s' (R_cell s x i v).2) := by
  refine fn_of (by decide) (Nat.le_of_ble_eq_true rfl) (fun M hM => ?_)
  refine a_iload_n (pc := 0) dX12_cell_0 rfl rfl ?_
  refine a_callS (pc := 1) km_X12_165 dX12_cell_1 (f_isSheet _) rfl rfl (rok_of hM (by decide) (by decide) (by omega) (by omega)) (Nat.le_of_ble_eq_true rfl) (fun r1 h1 hp1 => ?_)
  obtain ⟨rfl, rfl⟩ := hp1
  refine a_if_neB (pc := 4) (tgt := 10) dX12_cell_4 (by decide) (fun c4 => ?_) (fun c4 => ?_)
  · obtain ⟨q, hq, rfl⟩ := inN_of c4 (by omega)
    have eq : (nI q).toNatClampNeg = q := nI_clamp (by omega)
    refine a_aload_n (pc := 10) dX12_cell_10 rfl rfl ?_
    refine a_getfield (pc := 11) kg_X12_105 dX12_cell_11 (m_obj hm) rfl ?_
    refine a_iload_n (pc := 14) dX12_cell_14 rfl rfl ?_
    refine a_baload (pc := 15) dX12_cell_15 (m_a61 hm) (_) (rfl) (by omega) (by omega) ?_
    refine a_if_ne (pc := 16) (tgt := 22) dX12_cell_16 (by decide) (fun c16 => ?_) (fun c16 => ?_)
    · obtain ⟨ht1, ht2, ht3, ht4⟩ := MV_there hV hq c16
      refine a_iload_n (pc := 22) dX12_cell_22 rfl rfl ?_
      refine a_i2l (pc := 23) dX12_cell_23 ?_
      refine a_lconst (pc := 24) (v := lN 0) dX12_cell_24 rfl ?_
      refine a_aload_n (pc := 25) dX12_cell_25 rfl rfl ?_
      refine a_getfield (pc := 26) kg_X12_112 dX12_cell_26 (m_obj hm) rfl ?_
      refine a_iload_n (pc := 29) dX12_cell_29 rfl rfl ?_
      refine a_iaload (pc := 30) dX12_cell_30 (m_a63 hm) (_) (rfl) (by omega) (by omega) ?_
      refine a_topi (ht3) ?_
      refine a_iconst (pc := 31) dX12_cell_31 ic_1 ?_
      refine a_isub (pc := 32) dX12_cell_32 ?_
      refine a_i2l (pc := 33) dX12_cell_33 ?_
      refine a_callS (pc := 34) km_X12_142 dX12_cell_34 (f_in _ _ _) rfl rfl (rok_of hM (by decide) (by decide) (by omega) (by omega)) (Nat.le_of_ble_eq_true rfl) (fun r34 h34 hp34 => ?_)
      obtain ⟨rfl, rfl⟩ := hp34
      refine a_topi (congrArg bI (in_rng (x := i) (n := vA s 63 q) (by omega))) ?_
      refine a_if_neB (pc := 37) (tgt := 43) dX12_cell_37 (by decide) (fun c37 => ?_) (fun c37 => ?_)
      · obtain ⟨j, hj, rfl⟩ := inN_of c37 (by omega)
        have ej : (nI j).toNatClampNeg = j := nI_clamp (by omega)
        refine a_aload_n (pc := 43) dX12_cell_43 rfl rfl ?_
        refine a_getfield (pc := 44) kg_X12_115 dX12_cell_44 (m_obj hm) rfl ?_
        refine a_bipush (pc := 47) dX12_cell_47 ib_40 ?_
        refine a_iload_n (pc := 49) dX12_cell_49 rfl rfl ?_
        refine a_imulN (pc := 50) dX12_cell_50 ?_
        refine a_iload_n (pc := 51) dX12_cell_51 rfl rfl ?_
        refine a_iaddN (pc := 52) dX12_cell_52 ?_
        refine a_aload_n (pc := 53) dX12_cell_53 rfl rfl ?_
        refine a_getfield (pc := 54) kg_X12_109 dX12_cell_54 (m_obj hm) rfl ?_
        refine a_iload_n (pc := 57) dX12_cell_57 rfl rfl ?_
        refine a_iaload (pc := 58) dX12_cell_58 (m_a62 hm) (_) (rfl) (by omega) (by omega) ?_
        refine a_if_ne (pc := 59) (tgt := 67) dX12_cell_59 (by decide) (fun c59 => ?_) (fun c59 => ?_)
        · have v59 : True := trivial
          refine a_aload_n (pc := 67) dX12_cell_67 rfl rfl ?_
          refine a_getfield (pc := 68) kg_X12_109 dX12_cell_68 (m_obj hm) rfl ?_
          refine a_iload_n (pc := 71) dX12_cell_71 rfl rfl ?_
          refine a_iaload (pc := 72) dX12_cell_72 (m_a62 hm) (_) (rfl) (by omega) (by omega) ?_
          refine a_iconst (pc := 73) dX12_cell_73 ic_1 ?_
          refine a_icmp_ne (pc := 74) (tgt := 82) dX12_cell_74 (by decide) (fun c74 => ?_) (fun c74 => ?_)
          · have cv : v = cellV (s.2.1 62 q) v := by rw [cellV, if_neg c59, if_neg c74]
            refine a_iload_n (pc := 82) dX12_cell_82 rfl rfl ?_
            refine a_topi cv ?_
            refine a_iastore (pc := 83) dX12_cell_83 (m_a64 hm) (_) (rfl) (by omega) (by omega) ?_
            refine a_hp (m_p64 hm) ?_
            refine a_iconst (pc := 84) dX12_cell_84 ic_1 ?_
            refine a_ret_i (pc := 85) hM rfl (rfl) dX12_cell_85 (by omega) (by omega) ?_
            exact ⟨by rw [R_cell, if_pos c4, eq, if_neg c16, if_pos c37], _, rfl, by rw [R_cell, if_pos c4, eq, if_neg c16, if_pos c37, ej]; exact SP.rfl⟩
          · have cv : v.toInt16.toInt32 = cellV (s.2.1 62 q) v := by rw [cellV, if_neg c59, if_pos c74]
            refine a_iload_n (pc := 77) dX12_cell_77 rfl rfl ?_
            refine a_i2s (pc := 78) dX12_cell_78 ?_
            refine a_goto (pc := 79) (tgt := 83) dX12_cell_79 (by decide) ?_
            refine a_topi cv ?_
            refine a_iastore (pc := 83) dX12_cell_83 (m_a64 hm) (_) (rfl) (by omega) (by omega) ?_
            refine a_hp (m_p64 hm) ?_
            refine a_iconst (pc := 84) dX12_cell_84 ic_1 ?_
            refine a_ret_i (pc := 85) hM rfl (rfl) dX12_cell_85 (by omega) (by omega) ?_
            exact ⟨by rw [R_cell, if_pos c4, eq, if_neg c16, if_pos c37], _, rfl, by rw [R_cell, if_pos c4, eq, if_neg c16, if_pos c37, ej]; exact SP.rfl⟩
        · have cv : v.toInt8.toInt32 = cellV (s.2.1 62 q) v := by rw [cellV, if_pos c59]
          refine a_iload_n (pc := 62) dX12_cell_62 rfl rfl ?_
          refine a_i2b (pc := 63) dX12_cell_63 ?_
          refine a_goto (pc := 64) (tgt := 83) dX12_cell_64 (by decide) ?_
          refine a_topi cv ?_
          refine a_iastore (pc := 83) dX12_cell_83 (m_a64 hm) (_) (rfl) (by omega) (by omega) ?_
          refine a_hp (m_p64 hm) ?_
          refine a_iconst (pc := 84) dX12_cell_84 ic_1 ?_
          refine a_ret_i (pc := 85) hM rfl (rfl) dX12_cell_85 (by omega) (by omega) ?_
          exact ⟨by rw [R_cell, if_pos c4, eq, if_neg c16, if_pos c37], _, rfl, by rw [R_cell, if_pos c4, eq, if_neg c16, if_pos c37, ej]; exact SP.rfl⟩
      · refine a_bipush (pc := 40) dX12_cell_40 ib_m12 ?_
        refine a_ret_i (pc := 42) hM rfl (rfl) dX12_cell_42 (by omega) (by omega) ?_
        exact ⟨by rw [R_cell, if_pos c4, eq, if_neg c16, if_neg (by rw [c37]; decide)], _, rfl, by rw [R_cell, if_pos c4, eq, if_neg c16, if_neg (by rw [c37]; decide)]; exact SP.rfl⟩
    · refine a_bipush (pc := 19) dX12_cell_19 ib_m11 ?_
      refine a_ret_i (pc := 21) hM rfl (rfl) dX12_cell_21 (by omega) (by omega) ?_
      exact ⟨by rw [R_cell, if_pos c4, eq, if_pos c16], _, rfl, by rw [R_cell, if_pos c4, eq, if_pos c16]; exact SP.rfl⟩
  · refine a_bipush (pc := 7) dX12_cell_7 ib_m2 ?_
    refine a_ret_i (pc := 9) hM rfl (rfl) dX12_cell_9 (by omega) (by omega) ?_
    exact ⟨by rw [R_cell, if_neg (by rw [c4]; decide)], _, rfl, by rw [R_cell, if_neg (by rw [c4]; decide)]; exact SP.rfl⟩

end MP4

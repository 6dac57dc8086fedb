/-! THE REFERENCE: by what is left, what is guessed, screens, the tape, images -/
section MP3
variable {X : KX} {m : Nat → Nat} {s : MST} {h0 : AH}
def mostL (l : Nat → Int32) : Nat → Nat
  | 0 => 0
  | k + 1 => if l (k + 1) ≤ l (mostL l k) then mostL l k else k + 1
theorem mostL_le (l : Nat → Int32) (k : Nat) : mostL l k ≤ k := by
  induction k with
  | zero => exact Nat.le_refl 0
  | succ k ih =>
    unfold mostL
    split <;> omega
def byL (l0 : Nat → Int32) (cn : Nat → Nat) : Nat → (Nat → Int32) × Nat
  | 0 => (l0, 0)
  | i + 1 => (upd (byL l0 cn i).1 (cn i) ((byL l0 cn i).1 (cn i) - nI 1), (byL l0 cn i).2 + (if cn i = mostL (byL l0 cn i).1 4 then 1 else 0))
theorem byL_le (l0 : Nat → Int32) (cn : Nat → Nat) (n : Nat) : (byL l0 cn n).2 ≤ n := by
  induction n with
  | zero => exact Nat.le_refl 0
  | succ n ih =>
    unfold byL
    show (byL l0 cn n).2 + (if _ then 1 else 0) ≤ n + 1
    split <;> omega
def leftF (s : MST) (p : Nat) : Nat → Int32 := fillO (fun j => s.2.1 8 (5 * p + j)) (s.2.1 20) 0 5
def cnOf (s : MST) (a r : Nat) : Nat → Nat := fun i => vA s a (25 * r + i)
set_option maxRecDepth 4000 in
theorem f_byLeft (hm : MI m) {r n p : Nat} (hr : r < 16) (hz : Rz s r n) (hp1 : s.2.1 11 r = nI p) (hp4 : p < 4) (hrow : ∀ i, i < n → okV (s.2.1 14 (25 * r + i)) 5) : Fn X 1 0 0 yX12_byLeft cX12_byLeft 6 (some .int) [.ref (m 65), .int (nI r)] (mh m s h0) (fun rv hv => rv = some (.int (nI (byL (leftF s p) (cnOf s 14 r) n).2)) ∧ hv = mh m (sa s 20 (byL (leftF s p) (cnOf s 14 r) n).1) h0) := by
  refine fn_of (by decide) (Nat.le_of_ble_eq_true rfl) (fun M hM => ?_)
  have hle : n ≤ 25 := hz.choose_spec.2.2.2
  have loop2 : ∀ j i : Nat, n - i = j → i ≤ n →  AJ X M yX12_byLeft cX12_byLeft 6 (some .int) 38 [(0, .ref (m 65)), (1, .int (nI r)), (2, .int (nI (byL (leftF s p) (cnOf s 14 r) i).2)), (3, .int (nI i))] [] (mh m (sa s 20 (byL (leftF s p) (cnOf s 14 r) i).1) h0) 0 0 := by
    intro j
    induction j with
    | zero =>
      intro i hjk hkN
      have hby := byL_le (leftF s p) (cnOf s 14 r) i
      refine a_iload_n (pc := 38) dX12_byLeft_38 rfl rfl ?_
      refine a_aload_n (pc := 39) dX12_byLeft_39 rfl rfl ?_
      refine a_iload_n (pc := 40) dX12_byLeft_40 rfl rfl ?_
      refine a_callV (pc := 41) km_X12_161 dX12_byLeft_41 (f_sizeOf (s := sa s 20 (byL (leftF s p) (cnOf s 14 r) i).1) hm hr hz) rfl rfl (krecv_of (ci := 12) rfl (m_obj hm)) (rok_of hM (by decide) (by decide) (by omega) (by omega)) (Nat.le_of_ble_eq_true rfl) (fun r41 h41 hp41 => ?_)
      obtain ⟨rfl, rfl⟩ := hp41
      refine a_icmp_geN (pc := 44) (tgt := 136) dX12_byLeft_44 (by decide) (by omega) (by omega) (fun c44 => ?_) (fun c44 => ?_)
      · have hin : i = n := by omega
        subst hin
        refine a_iload_n (pc := 136) dX12_byLeft_136 rfl rfl ?_
        refine a_ret_i (pc := 137) hM rfl (rfl) dX12_byLeft_137 (by omega) (by omega) ?_
        exact ⟨rfl, rfl⟩
      · exact absurd c44 (by omega)
    | succ j ih =>
      intro i hjk hkN
      have hby := byL_le (leftF s p) (cnOf s 14 r) i
      refine a_iload_n (pc := 38) dX12_byLeft_38 rfl rfl ?_
      refine a_aload_n (pc := 39) dX12_byLeft_39 rfl rfl ?_
      refine a_iload_n (pc := 40) dX12_byLeft_40 rfl rfl ?_
      refine a_callV (pc := 41) km_X12_161 dX12_byLeft_41 (f_sizeOf (s := sa s 20 (byL (leftF s p) (cnOf s 14 r) i).1) hm hr hz) rfl rfl (krecv_of (ci := 12) rfl (m_obj hm)) (rok_of hM (by decide) (by decide) (by omega) (by omega)) (Nat.le_of_ble_eq_true rfl) (fun r41 h41 hp41 => ?_)
      obtain ⟨rfl, rfl⟩ := hp41
      refine a_icmp_geN (pc := 44) (tgt := 136) dX12_byLeft_44 (by decide) (by omega) (by omega) (fun c44 => ?_) (fun c44 => ?_)
      · exact absurd c44 (by omega)
      · refine a_iconst (pc := 47) dX12_byLeft_47 ic_0 ?_
        refine a_istore (pc := 48) dX12_byLeft_48 (by decide) rfl ?_
        refine a_iconst (pc := 50) dX12_byLeft_50 ic_1 ?_
        refine a_istore (pc := 51) dX12_byLeft_51 (by decide) rfl ?_
        have inner : ∀ j k : Nat, 4 - k = j → k ≤ 4 →  AJ X M yX12_byLeft cX12_byLeft 6 (some .int) 53 [(0, .ref (m 65)), (1, .int (nI r)), (2, .int (nI (byL (leftF s p) (cnOf s 14 r) i).2)), (3, .int (nI i)), (4, .int (nI (mostL (byL (leftF s p) (cnOf s 14 r) i).1 k))), (5, .int (nI (k + 1)))] [] (mh m (sa s 20 (byL (leftF s p) (cnOf s 14 r) i).1) h0) 0 0 := by
          intro j
          induction j with
          | zero =>
            intro k hjk hkN
            refine a_iload (pc := 53) dX12_byLeft_53 rfl ?_
            refine a_iconst (pc := 55) dX12_byLeft_55 ic_5 ?_
            refine a_icmp_geN (pc := 56) (tgt := 91) dX12_byLeft_56 (by decide) (by omega) (by omega) (fun c56 => ?_) (fun c56 => ?_)
            · have hk4 : k = 4 := by omega
              subst hk4
              have hcard := hrow i (by omega)
              have hcv : s.2.1 14 (25 * r + i) = nI (cnOf s 14 r i) := hcard.1
              have hcl : cnOf s 14 r i < 5 := hcard.2
              have hml := mostL_le (byL (leftF s p) (cnOf s 14 r) i).1 4
              refine a_aload_n (pc := 91) dX12_byLeft_91 rfl rfl ?_
              refine a_getfield (pc := 92) kg_X12_42 dX12_byLeft_92 (m_obj hm) rfl ?_
              refine a_bipush (pc := 95) dX12_byLeft_95 ib_25 ?_
              refine a_iload_n (pc := 97) dX12_byLeft_97 rfl rfl ?_
              refine a_imulN (pc := 98) dX12_byLeft_98 ?_
              refine a_iload_n (pc := 99) dX12_byLeft_99 rfl rfl ?_
              refine a_iaddN (pc := 100) dX12_byLeft_100 ?_
              refine a_iaload (pc := 101) dX12_byLeft_101 (m_a14 hm) (_) (rfl) (by omega) (by omega) ?_
              refine a_topi (hcv) ?_
              refine a_istore (pc := 102) dX12_byLeft_102 (by decide) rfl ?_
              refine a_iload_n (pc := 104) dX12_byLeft_104 rfl rfl ?_
              refine a_iload (pc := 105) dX12_byLeft_105 rfl ?_
              refine a_iload (pc := 107) dX12_byLeft_107 rfl ?_
              refine a_icmp_neN (pc := 109) (tgt := 116) dX12_byLeft_109 (by decide) (by omega) (by omega) (fun c109 => ?_) (fun c109 => ?_)
              · have hcc : (byL (leftF s p) (cnOf s 14 r) i).2 + 0 = (byL (leftF s p) (cnOf s 14 r) (i + 1)).2 := (congrArg (_ + ·) (if_neg c109).symm : _)
                refine a_iconst (pc := 116) dX12_byLeft_116 ic_0 ?_
                refine a_iaddN (pc := 117) dX12_byLeft_117 ?_
                refine a_topi (congrArg nI hcc) ?_
                refine a_istore_n (pc := 118) dX12_byLeft_118 rfl (by decide) rfl ?_
                refine a_aload_n (pc := 119) dX12_byLeft_119 rfl rfl ?_
                refine a_getfield (pc := 120) kg_X12_57 dX12_byLeft_120 (m_obj hm) rfl ?_
                refine a_iload (pc := 123) dX12_byLeft_123 rfl ?_
                refine a_dup2 (pc := 125) dX12_byLeft_125 rfl rfl ?_
                refine a_iaload (pc := 126) dX12_byLeft_126 (m_a20 hm) (_) (rfl) (by omega) (by omega) ?_
                refine a_iconst (pc := 127) dX12_byLeft_127 ic_1 ?_
                refine a_isub (pc := 128) dX12_byLeft_128 ?_
                refine a_iastore (pc := 129) dX12_byLeft_129 (m_a20 hm) (_) (rfl) (by omega) (by omega) ?_
                refine a_hp (m_p20 hm) ?_
                refine a_hp (show _ = mh m (sa s 20 (byL (leftF s p) (cnOf s 14 r) (i + 1)).1) h0 from congrArg (fun t => mh m t h0) (sa_sa)) ?_
                refine a_iincN (pc := 130) (n := 1) dX12_byLeft_130 (by decide) rfl (by decide) rfl ?_
                refine a_goto (pc := 133) (tgt := 38) dX12_byLeft_133 (by decide) ?_
                exact a_locR (ih (i + 1) (by omega) (by omega)) ⟨rfl, rfl, rfl, rfl, trivial⟩
              · have hcc : (byL (leftF s p) (cnOf s 14 r) i).2 + 1 = (byL (leftF s p) (cnOf s 14 r) (i + 1)).2 := (congrArg (_ + ·) (if_pos c109).symm : _)
                refine a_iconst (pc := 112) dX12_byLeft_112 ic_1 ?_
                refine a_goto (pc := 113) (tgt := 117) dX12_byLeft_113 (by decide) ?_
                refine a_iaddN (pc := 117) dX12_byLeft_117 ?_
                refine a_topi (congrArg nI hcc) ?_
                refine a_istore_n (pc := 118) dX12_byLeft_118 rfl (by decide) rfl ?_
                refine a_aload_n (pc := 119) dX12_byLeft_119 rfl rfl ?_
                refine a_getfield (pc := 120) kg_X12_57 dX12_byLeft_120 (m_obj hm) rfl ?_
                refine a_iload (pc := 123) dX12_byLeft_123 rfl ?_
                refine a_dup2 (pc := 125) dX12_byLeft_125 rfl rfl ?_
                refine a_iaload (pc := 126) dX12_byLeft_126 (m_a20 hm) (_) (rfl) (by omega) (by omega) ?_
                refine a_iconst (pc := 127) dX12_byLeft_127 ic_1 ?_
                refine a_isub (pc := 128) dX12_byLeft_128 ?_
                refine a_iastore (pc := 129) dX12_byLeft_129 (m_a20 hm) (_) (rfl) (by omega) (by omega) ?_
                refine a_hp (m_p20 hm) ?_
                refine a_hp (show _ = mh m (sa s 20 (byL (leftF s p) (cnOf s 14 r) (i + 1)).1) h0 from congrArg (fun t => mh m t h0) (sa_sa)) ?_
                refine a_iincN (pc := 130) (n := 1) dX12_byLeft_130 (by decide) rfl (by decide) rfl ?_
                refine a_goto (pc := 133) (tgt := 38) dX12_byLeft_133 (by decide) ?_
                exact a_locR (ih (i + 1) (by omega) (by omega)) ⟨rfl, rfl, rfl, rfl, trivial⟩
            · exact absurd c56 (by omega)
          | succ j ih =>
            intro k hjk hkN
            refine a_iload (pc := 53) dX12_byLeft_53 rfl ?_
            refine a_iconst (pc := 55) dX12_byLeft_55 ic_5 ?_
            refine a_icmp_geN (pc := 56) (tgt := 91) dX12_byLeft_56 (by decide) (by omega) (by omega) (fun c56 => ?_) (fun c56 => ?_)
            · exact absurd c56 (by omega)
            · have hml := mostL_le (byL (leftF s p) (cnOf s 14 r) i).1 k
              refine a_aload_n (pc := 59) dX12_byLeft_59 rfl rfl ?_
              refine a_getfield (pc := 60) kg_X12_57 dX12_byLeft_60 (m_obj hm) rfl ?_
              refine a_iload (pc := 63) dX12_byLeft_63 rfl ?_
              refine a_iaload (pc := 65) dX12_byLeft_65 (m_a20 hm) (_) (rfl) (by omega) (by omega) ?_
              refine a_aload_n (pc := 66) dX12_byLeft_66 rfl rfl ?_
              refine a_getfield (pc := 67) kg_X12_57 dX12_byLeft_67 (m_obj hm) rfl ?_
              refine a_iload (pc := 70) dX12_byLeft_70 rfl ?_
              refine a_iaload (pc := 72) dX12_byLeft_72 (m_a20 hm) (_) (rfl) (by omega) (by omega) ?_
              refine a_icmp_le (pc := 73) (tgt := 81) dX12_byLeft_73 (by decide) (fun c73 => ?_) (fun c73 => ?_)
              · have hmm : mostL (byL (leftF s p) (cnOf s 14 r) i).1 k = mostL (byL (leftF s p) (cnOf s 14 r) i).1 (k + 1) := (if_pos c73).symm
                refine a_iload (pc := 81) dX12_byLeft_81 rfl ?_
                refine a_topi (congrArg nI hmm) ?_
                refine a_istore (pc := 83) dX12_byLeft_83 (by decide) rfl ?_
                refine a_iincN (pc := 85) (n := 1) dX12_byLeft_85 (by decide) rfl (by decide) rfl ?_
                refine a_goto (pc := 88) (tgt := 53) dX12_byLeft_88 (by decide) ?_
                exact a_locR (ih (k + 1) (by omega) (by omega)) ⟨rfl, rfl, rfl, rfl, rfl, rfl, trivial⟩
              · have hmm : k + 1 = mostL (byL (leftF s p) (cnOf s 14 r) i).1 (k + 1) := (if_neg c73).symm
                refine a_iload (pc := 76) dX12_byLeft_76 rfl ?_
                refine a_goto (pc := 78) (tgt := 83) dX12_byLeft_78 (by decide) ?_
                refine a_topi (congrArg nI hmm) ?_
                refine a_istore (pc := 83) dX12_byLeft_83 (by decide) rfl ?_
                refine a_iincN (pc := 85) (n := 1) dX12_byLeft_85 (by decide) rfl (by decide) rfl ?_
                refine a_goto (pc := 88) (tgt := 53) dX12_byLeft_88 (by decide) ?_
                exact a_locR (ih (k + 1) (by omega) (by omega)) ⟨rfl, rfl, rfl, rfl, rfl, rfl, trivial⟩
        exact a_locR (inner _ 0 rfl (by omega)) ⟨rfl, rfl, rfl, rfl, rfl, rfl, trivial⟩
  have loop1 : ∀ j k : Nat, 5 - k = j → k ≤ 5 →  AJ X M yX12_byLeft cX12_byLeft 6 (some .int) 2 [(0, .ref (m 65)), (1, .int (nI r)), (2, .int (nI k))] [] (mh m (sa s 20 (fillO (fun j => s.2.1 8 (5 * p + j)) (s.2.1 20) 0 k)) h0) 0 0 := by
    intro j
    induction j with
    | zero =>
      intro k hjk hkN
      refine a_iload_n (pc := 2) dX12_byLeft_2 rfl rfl ?_
      refine a_iconst (pc := 3) dX12_byLeft_3 ic_5 ?_
      refine a_icmp_geN (pc := 4) (tgt := 34) dX12_byLeft_4 (by decide) (by omega) (by omega) (fun c4 => ?_) (fun c4 => ?_)
      · have hk5 : k = 5 := by omega
        subst hk5
        refine a_iconst (pc := 34) dX12_byLeft_34 ic_0 ?_
        refine a_istore_n (pc := 35) dX12_byLeft_35 rfl (by decide) rfl ?_
        refine a_iconst (pc := 36) dX12_byLeft_36 ic_0 ?_
        refine a_istore_n (pc := 37) dX12_byLeft_37 rfl (by decide) rfl ?_
        exact a_locR (loop2 _ 0 rfl (by omega)) ⟨rfl, rfl, rfl, rfl, trivial⟩
      · exact absurd c4 (by omega)
    | succ j ih =>
      intro k hjk hkN
      refine a_iload_n (pc := 2) dX12_byLeft_2 rfl rfl ?_
      refine a_iconst (pc := 3) dX12_byLeft_3 ic_5 ?_
      refine a_icmp_geN (pc := 4) (tgt := 34) dX12_byLeft_4 (by decide) (by omega) (by omega) (fun c4 => ?_) (fun c4 => ?_)
      · exact absurd c4 (by omega)
      · refine a_aload_n (pc := 7) dX12_byLeft_7 rfl rfl ?_
        refine a_getfield (pc := 8) kg_X12_57 dX12_byLeft_8 (m_obj hm) rfl ?_
        refine a_iload_n (pc := 11) dX12_byLeft_11 rfl rfl ?_
        refine a_aload_n (pc := 12) dX12_byLeft_12 rfl rfl ?_
        refine a_getfield (pc := 13) kg_X12_27 dX12_byLeft_13 (m_obj hm) rfl ?_
        refine a_iconst (pc := 16) dX12_byLeft_16 ic_5 ?_
        refine a_aload_n (pc := 17) dX12_byLeft_17 rfl rfl ?_
        refine a_getfield (pc := 18) kg_X12_33 dX12_byLeft_18 (m_obj hm) rfl ?_
        refine a_iload_n (pc := 21) dX12_byLeft_21 rfl rfl ?_
        refine a_iaload (pc := 22) dX12_byLeft_22 (m_a11 hm) (_) (rfl) (by omega) (by omega) ?_
        refine a_topi (hp1) ?_
        refine a_imulN (pc := 23) dX12_byLeft_23 ?_
        refine a_iload_n (pc := 24) dX12_byLeft_24 rfl rfl ?_
        refine a_iaddN (pc := 25) dX12_byLeft_25 ?_
        refine a_iaload (pc := 26) dX12_byLeft_26 (m_a8 hm) (_) (rfl) (by omega) (by omega) ?_
        refine a_iastore (pc := 27) dX12_byLeft_27 (m_a20 hm) (0 + k) (by rw [Nat.zero_add]) (by omega) (by omega) ?_
        refine a_hp (m_p20 hm) ?_
        refine a_hp (show _ = mh m (sa s 20 (fillO (fun j => s.2.1 8 (5 * p + j)) (s.2.1 20) 0 (k + 1))) h0 from congrArg (fun t => mh m t h0) (sa_sa.trans (congrArg (sa s 20) (fillO_s (f := (fun j => s.2.1 8 (5 * p + j))))))) ?_
        refine a_iincN (pc := 28) (n := 1) dX12_byLeft_28 (by decide) rfl (by decide) rfl ?_
        refine a_goto (pc := 31) (tgt := 2) dX12_byLeft_31 (by decide) ?_
        exact a_locR (ih (k + 1) (by omega) (by omega)) ⟨rfl, rfl, rfl, trivial⟩
  refine a_iconst (pc := 0) dX12_byLeft_0 ic_0 ?_
  refine a_istore_n (pc := 1) dX12_byLeft_1 rfl (by decide) rfl ?_
  refine a_hp (show _ = mh m (sa s 20 (fillO (fun j => s.2.1 8 (5 * p + j)) (s.2.1 20) 0 0)) h0 by rw [fillO_0, sa_id]) ?_
  exact a_locR (loop1 _ 0 rfl (by omega)) ⟨rfl, rfl, rfl, trivial⟩

def gsF (z : Nat → Int32) (gn : Nat → Nat) : Nat → (Nat → Int32)
  | 0 => z
  | i + 1 => upd (gsF z gn i) (gn i) (gsF z gn i (gn i) + nI 1)
def gs0 (s : MST) : Nat → Int32 := fillO (fun _ => nI 0) (s.2.1 23) 0 5
theorem gsF_cnt {z : Nat → Int32} {gn : Nat → Nat} {g : Nat} (hz : z g = nI 0) (n : Nat) : gsF z gn n g = nI (cntN (fun i => decide (gn i = g)) n) := by
  induction n with
  | zero => exact hz
  | succ n ih =>
    unfold gsF
    by_cases h : gn n = g
    · subst h
      rw [pk_us, ih, nI_add, cntN_t (decide_eq_true rfl)]
    · rw [pk_un (fun z => h z.symm), ih, cntN_f (decide_eq_false h)]
theorem gs0_z {s : MST} {g : Nat} (hg : g < 5) : gs0 s g = nI 0 := fillO_in (Nat.zero_le _) (by omega)
set_option maxRecDepth 4000 in
theorem f_counts1 (hm : MI m) {r n : Nat} (hr : r < 16) (hz : Rz s r n) (hrow : ∀ i, i < n → okV (s.2.1 15 (25 * r + i)) 5) : Fn X 1 0 0 yX12_counts1 cX12_counts1 3 none [.ref (m 65), .int (nI r)] (mh m s h0) (fun rv hv => rv = none ∧ hv = mh m (sa s 23 (gsF (gs0 s) (cnOf s 15 r) n)) h0) := by
  refine fn_of (by decide) (Nat.le_of_ble_eq_true rfl) (fun M hM => ?_)
  have hle : n ≤ 25 := hz.choose_spec.2.2.2
  have loop2 : ∀ j i : Nat, n - i = j → i ≤ n →  AJ X M yX12_counts1 cX12_counts1 3 none 22 [(0, .ref (m 65)), (1, .int (nI r)), (2, .int (nI i))] [] (mh m (sa s 23 (gsF (gs0 s) (cnOf s 15 r) i)) h0) 0 0 := by
    intro j
    induction j with
    | zero =>
      intro i hjk hkN
      refine a_iload_n (pc := 22) dX12_counts1_22 rfl rfl ?_
      refine a_aload_n (pc := 23) dX12_counts1_23 rfl rfl ?_
      refine a_iload_n (pc := 24) dX12_counts1_24 rfl rfl ?_
      refine a_callV (pc := 25) km_X12_161 dX12_counts1_25 (f_sizeOf (s := sa s 23 (gsF (gs0 s) (cnOf s 15 r) i)) hm hr hz) rfl rfl (krecv_of (ci := 12) rfl (m_obj hm)) (rok_of hM (by decide) (by decide) (by omega) (by omega)) (Nat.le_of_ble_eq_true rfl) (fun r25 h25 hp25 => ?_)
      obtain ⟨rfl, rfl⟩ := hp25
      refine a_icmp_geN (pc := 28) (tgt := 57) dX12_counts1_28 (by decide) (by omega) (by omega) (fun c28 => ?_) (fun c28 => ?_)
      · have hin : i = n := by omega
        subst hin
        refine a_ret_v (pc := 57) hM rfl dX12_counts1_57 (by omega) (by omega) ?_
        exact ⟨rfl, rfl⟩
      · exact absurd c28 (by omega)
    | succ j ih =>
      intro i hjk hkN
      refine a_iload_n (pc := 22) dX12_counts1_22 rfl rfl ?_
      refine a_aload_n (pc := 23) dX12_counts1_23 rfl rfl ?_
      refine a_iload_n (pc := 24) dX12_counts1_24 rfl rfl ?_
      refine a_callV (pc := 25) km_X12_161 dX12_counts1_25 (f_sizeOf (s := sa s 23 (gsF (gs0 s) (cnOf s 15 r) i)) hm hr hz) rfl rfl (krecv_of (ci := 12) rfl (m_obj hm)) (rok_of hM (by decide) (by decide) (by omega) (by omega)) (Nat.le_of_ble_eq_true rfl) (fun r25 h25 hp25 => ?_)
      obtain ⟨rfl, rfl⟩ := hp25
      refine a_icmp_geN (pc := 28) (tgt := 57) dX12_counts1_28 (by decide) (by omega) (by omega) (fun c28 => ?_) (fun c28 => ?_)
      · exact absurd c28 (by omega)
      · have hcard := hrow i (by omega)
        have hcv : s.2.1 15 (25 * r + i) = nI (cnOf s 15 r i) := hcard.1
        have hcl : cnOf s 15 r i < 5 := hcard.2
        refine a_aload_n (pc := 31) dX12_counts1_31 rfl rfl ?_
        refine a_getfield (pc := 32) kg_X12_66 dX12_counts1_32 (m_obj hm) rfl ?_
        refine a_aload_n (pc := 35) dX12_counts1_35 rfl rfl ?_
        refine a_getfield (pc := 36) kg_X12_45 dX12_counts1_36 (m_obj hm) rfl ?_
        refine a_bipush (pc := 39) dX12_counts1_39 ib_25 ?_
        refine a_iload_n (pc := 41) dX12_counts1_41 rfl rfl ?_
        refine a_imulN (pc := 42) dX12_counts1_42 ?_
        refine a_iload_n (pc := 43) dX12_counts1_43 rfl rfl ?_
        refine a_iaddN (pc := 44) dX12_counts1_44 ?_
        refine a_iaload (pc := 45) dX12_counts1_45 (m_a15 hm) (_) (rfl) (by omega) (by omega) ?_
        refine a_topi (hcv) ?_
        refine a_dup2 (pc := 46) dX12_counts1_46 rfl rfl ?_
        refine a_iaload (pc := 47) dX12_counts1_47 (m_a23 hm) (_) (rfl) (by omega) (by omega) ?_
        refine a_iconst (pc := 48) dX12_counts1_48 ic_1 ?_
        refine a_iadd (pc := 49) dX12_counts1_49 ?_
        refine a_iastore (pc := 50) dX12_counts1_50 (m_a23 hm) (_) (rfl) (by omega) (by omega) ?_
        refine a_hp (m_p23 hm) ?_
        refine a_hp (show _ = mh m (sa s 23 (gsF (gs0 s) (cnOf s 15 r) (i + 1))) h0 from congrArg (fun t => mh m t h0) (sa_sa)) ?_
        refine a_iincN (pc := 51) (n := 1) dX12_counts1_51 (by decide) rfl (by decide) rfl ?_
        refine a_goto (pc := 54) (tgt := 22) dX12_counts1_54 (by decide) ?_
        exact a_locR (ih (i + 1) (by omega) (by omega)) ⟨rfl, rfl, rfl, trivial⟩
  have loop1 : ∀ j k : Nat, 5 - k = j → k ≤ 5 →  AJ X M yX12_counts1 cX12_counts1 3 none 2 [(0, .ref (m 65)), (1, .int (nI r)), (2, .int (nI k))] [] (mh m (sa s 23 (fillO (fun _ => nI 0) (s.2.1 23) 0 k)) h0) 0 0 := by
    intro j
    induction j with
    | zero =>
      intro k hjk hkN
      refine a_iload_n (pc := 2) dX12_counts1_2 rfl rfl ?_
      refine a_iconst (pc := 3) dX12_counts1_3 ic_5 ?_
      refine a_icmp_geN (pc := 4) (tgt := 20) dX12_counts1_4 (by decide) (by omega) (by omega) (fun c4 => ?_) (fun c4 => ?_)
      · have hk5 : k = 5 := by omega
        subst hk5
        refine a_iconst (pc := 20) dX12_counts1_20 ic_0 ?_
        refine a_istore_n (pc := 21) dX12_counts1_21 rfl (by decide) rfl ?_
        exact a_locR (loop2 _ 0 rfl (by omega)) ⟨rfl, rfl, rfl, trivial⟩
      · exact absurd c4 (by omega)
    | succ j ih =>
      intro k hjk hkN
      refine a_iload_n (pc := 2) dX12_counts1_2 rfl rfl ?_
      refine a_iconst (pc := 3) dX12_counts1_3 ic_5 ?_
      refine a_icmp_geN (pc := 4) (tgt := 20) dX12_counts1_4 (by decide) (by omega) (by omega) (fun c4 => ?_) (fun c4 => ?_)
      · exact absurd c4 (by omega)
      · refine a_aload_n (pc := 7) dX12_counts1_7 rfl rfl ?_
        refine a_getfield (pc := 8) kg_X12_66 dX12_counts1_8 (m_obj hm) rfl ?_
        refine a_iload_n (pc := 11) dX12_counts1_11 rfl rfl ?_
        refine a_iconst (pc := 12) dX12_counts1_12 ic_0 ?_
        refine a_iastore (pc := 13) dX12_counts1_13 (m_a23 hm) (0 + k) (by rw [Nat.zero_add]) (by omega) (by omega) ?_
        refine a_hp (m_p23 hm) ?_
        refine a_hp (show _ = mh m (sa s 23 (fillO (fun _ => nI 0) (s.2.1 23) 0 (k + 1))) h0 from congrArg (fun t => mh m t h0) (sa_sa.trans (congrArg (sa s 23) (fillO_s (f := fun _ => nI 0))))) ?_
        refine a_iincN (pc := 14) (n := 1) dX12_counts1_14 (by decide) rfl (by decide) rfl ?_
        refine a_goto (pc := 17) (tgt := 2) dX12_counts1_17 (by decide) ?_
        exact a_locR (ih (k + 1) (by omega) (by omega)) ⟨rfl, rfl, rfl, trivial⟩
  refine a_iconst (pc := 0) dX12_counts1_0 ic_0 ?_
  refine a_istore_n (pc := 1) dX12_counts1_1 rfl (by decide) rfl ?_
  refine a_hp (show _ = mh m (sa s 23 (fillO (fun _ => nI 0) (s.2.1 23) 0 0)) h0 by rw [fillO_0, sa_id]) ?_
  exact a_locR (loop1 _ 0 rfl (by omega)) ⟨rfl, rfl, rfl, trivial⟩

def weighS (s : MST) (sk : Int32) : Nat → Int32
  | 0 => nI 0
  | k + 1 => weighS s sk k + (if sk >>> (s.2.1 24 k &&& 31) &&& nI 1 = 0 then cntsP (s.2.1 24 k) else nI 0)
def R_weighs (s : MST) (x : Int32) : Int32 × MST := if inN x (2 ^ vI s 31) = true then (weighS s (kindsP s x (vI s 31)) (vI s 28), s) else (-2, s)
theorem in_shl {x : Int32} {n : Nat} (hn : n ≤ 10) : (decide (lN 0 ≤ x.toInt64 ∧ x.toInt64 ≤ (nI 1 <<< (nI n &&& 31) - nI 1).toInt64)) = inN x (2 ^ n) := by
  have hp : 2 ^ n ≤ 1024 := Nat.pow_le_pow_right (n := 2) (by omega) hn
  rw [shl1 hn, in_rng (by omega)]
set_option maxRecDepth 4000 in
theorem f_weighs (hm : MI m) (hV : MV s) (x : Int32) : Fn X 1 0 0 yX12_weighs cX12_weighs 5 (some .int) [.ref (m 65), .int x] (mh m s h0) (fun rv hv => rv = some (.int (R_weighs s x).1) ∧ ∃ s' : MST, hv = mh m s' h0 ∧ SP s' (R_weighs s x).2) := by
  obtain ⟨⟨hn28, hb28⟩, hl28⟩ := id hV.2.2.1
  obtain ⟨⟨hn31, hb31⟩, hl31⟩ := id hV.2.2.2.1
  refine fn_of (by decide) (Nat.le_of_ble_eq_true rfl) (fun M hM => ?_)
  refine a_iload_n (pc := 0) dX12_weighs_0 rfl rfl ?_
  refine a_i2l (pc := 1) dX12_weighs_1 ?_
  refine a_lconst (pc := 2) (v := lN 0) dX12_weighs_2 rfl ?_
  refine a_iconst (pc := 3) dX12_weighs_3 ic_1 ?_
  refine a_aload_n (pc := 4) dX12_weighs_4 rfl rfl ?_
  refine a_getfield (pc := 5) kg_X12_231 dX12_weighs_5 (m_obj hm) rfl ?_
  refine a_topi (hn31) ?_
  refine a_ishl (pc := 8) dX12_weighs_8 ?_
  refine a_iconst (pc := 9) dX12_weighs_9 ic_1 ?_
  refine a_isub (pc := 10) dX12_weighs_10 ?_
  refine a_i2l (pc := 11) dX12_weighs_11 ?_
  refine a_callS (pc := 12) km_X12_142 dX12_weighs_12 (f_in _ _ _) rfl rfl (rok_of hM (by decide) (by decide) (by omega) (by omega)) (Nat.le_of_ble_eq_true rfl) (fun r12 h12 hp12 => ?_)
  obtain ⟨rfl, rfl⟩ := hp12
  refine a_topi (congrArg bI (in_shl (x := x) (n := vI s 31) (by omega))) ?_
  refine a_if_neB (pc := 15) (tgt := 21) dX12_weighs_15 (by decide) (fun c15 => ?_) (fun c15 => ?_)
  · refine a_aload_n (pc := 21) dX12_weighs_21 rfl rfl ?_
    refine a_iload_n (pc := 22) dX12_weighs_22 rfl rfl ?_
    refine a_callV (pc := 23) km_X12_234 dX12_weighs_23 (f_kindsBy hm hn31 hb31 x) rfl rfl (krecv_of (ci := 12) rfl (m_obj hm)) (rok_of hM (by decide) (by decide) (by omega) (by omega)) (Nat.le_of_ble_eq_true rfl) (fun r23 h23 hp23 => ?_)
    obtain ⟨rfl, rfl⟩ := hp23
    refine a_istore_n (pc := 26) dX12_weighs_26 rfl (by decide) rfl ?_
    refine a_iconst (pc := 27) dX12_weighs_27 ic_0 ?_
    refine a_istore_n (pc := 28) dX12_weighs_28 rfl (by decide) rfl ?_
    refine a_iconst (pc := 29) dX12_weighs_29 ic_0 ?_
    refine a_istore (pc := 30) dX12_weighs_30 (by decide) rfl ?_
    have loop : ∀ j k : Nat, vI s 28 - k = j → k ≤ vI s 28 → ∀ c : Int32, c = weighS s (kindsP s x (vI s 31)) k → AJ X M yX12_weighs cX12_weighs 5 (some .int) 32 [(0, .ref (m 65)), (2, .int (kindsP s x (vI s 31))), (3, .int c), (4, .int (nI k))] [] (mh m s h0) 0 0 := by
      intro j
      induction j with
      | zero =>
        intro k hjk hkN c hc
        refine a_iload (pc := 32) dX12_weighs_32 rfl ?_
        refine a_aload_n (pc := 34) dX12_weighs_34 rfl rfl ?_
        refine a_getfield (pc := 35) kg_X12_213 dX12_weighs_35 (m_obj hm) rfl ?_
        refine a_topi (hn28) ?_
        refine a_icmp_geN (pc := 38) (tgt := 74) dX12_weighs_38 (by decide) (by omega) (by omega) (fun c38 => ?_) (fun c38 => ?_)
        · have hkn : k = vI s 28 := by omega
          subst hkn
          subst hc
          refine a_iload_n (pc := 74) dX12_weighs_74 rfl rfl ?_
          refine a_ret_i (pc := 75) hM rfl (rfl) dX12_weighs_75 (by omega) (by omega) ?_
          exact ⟨by simp only [R_weighs, c15, reduceIte], _, rfl, by simp only [R_weighs, c15, reduceIte]; exact SP.rfl⟩
        · exact absurd c38 (by omega)
      | succ j ih =>
        intro k hjk hkN c hc
        refine a_iload (pc := 32) dX12_weighs_32 rfl ?_
        refine a_aload_n (pc := 34) dX12_weighs_34 rfl rfl ?_
        refine a_getfield (pc := 35) kg_X12_213 dX12_weighs_35 (m_obj hm) rfl ?_
        refine a_topi (hn28) ?_
        refine a_icmp_geN (pc := 38) (tgt := 74) dX12_weighs_38 (by decide) (by omega) (by omega) (fun c38 => ?_) (fun c38 => ?_)
        · exact absurd c38 (by omega)
        · refine a_iload_n (pc := 41) dX12_weighs_41 rfl rfl ?_
          refine a_iload_n (pc := 42) dX12_weighs_42 rfl rfl ?_
          refine a_aload_n (pc := 43) dX12_weighs_43 rfl rfl ?_
          refine a_getfield (pc := 44) kg_X12_69 dX12_weighs_44 (m_obj hm) rfl ?_
          refine a_iload (pc := 47) dX12_weighs_47 rfl ?_
          refine a_iaload (pc := 49) dX12_weighs_49 (m_a24 hm) (_) (rfl) (by omega) (by omega) ?_
          refine a_ishr (pc := 50) dX12_weighs_50 ?_
          refine a_iconst (pc := 51) dX12_weighs_51 ic_1 ?_
          refine a_iand (pc := 52) dX12_weighs_52 ?_
          refine a_if_ne (pc := 53) (tgt := 65) dX12_weighs_53 (by decide) (fun c53 => ?_) (fun c53 => ?_)
          · have hc1 : c + nI 0 = weighS s (kindsP s x (vI s 31)) (k + 1) := by rw [hc, weighS, if_neg c53]
            refine a_iconst (pc := 65) dX12_weighs_65 ic_0 ?_
            refine a_iadd (pc := 66) dX12_weighs_66 ?_
            refine a_istore_n (pc := 67) dX12_weighs_67 rfl (by decide) rfl ?_
            refine a_iincN (pc := 68) (n := 1) dX12_weighs_68 (by decide) rfl (by decide) rfl ?_
            refine a_goto (pc := 71) (tgt := 32) dX12_weighs_71 (by decide) ?_
            exact a_locR (ih (k + 1) (by omega) (by omega) _ hc1) ⟨rfl, rfl, rfl, rfl, trivial⟩
          · have hc1 : c + cntsP (s.2.1 24 k) = weighS s (kindsP s x (vI s 31)) (k + 1) := by rw [hc, weighS, if_pos c53]
            refine a_aload_n (pc := 56) dX12_weighs_56 rfl rfl ?_
            refine a_iload (pc := 57) dX12_weighs_57 rfl ?_
            refine a_callV (pc := 59) km_X12_224 dX12_weighs_59 (f_countsOf hm (by omega)) rfl rfl (krecv_of (ci := 12) rfl (m_obj hm)) (rok_of hM (by decide) (by decide) (by omega) (by omega)) (Nat.le_of_ble_eq_true rfl) (fun r59 h59 hp59 => ?_)
            obtain ⟨rfl, rfl⟩ := hp59
            refine a_goto (pc := 62) (tgt := 66) dX12_weighs_62 (by decide) ?_
            refine a_iadd (pc := 66) dX12_weighs_66 ?_
            refine a_istore_n (pc := 67) dX12_weighs_67 rfl (by decide) rfl ?_
            refine a_iincN (pc := 68) (n := 1) dX12_weighs_68 (by decide) rfl (by decide) rfl ?_
            refine a_goto (pc := 71) (tgt := 32) dX12_weighs_71 (by decide) ?_
            exact a_locR (ih (k + 1) (by omega) (by omega) _ hc1) ⟨rfl, rfl, rfl, rfl, trivial⟩
    exact a_locR (loop _ 0 rfl (Nat.zero_le _) _ rfl) ⟨rfl, rfl, rfl, rfl, trivial⟩
  · refine a_bipush (pc := 18) dX12_weighs_18 ib_m2 ?_
    refine a_ret_i (pc := 20) hM rfl (rfl) dX12_weighs_20 (by omega) (by omega) ?_
    exact ⟨by first | simp only [R_weighs, c15, Bool.and_self, Bool.and_true, Bool.true_and, Bool.and_false, Bool.false_and, Bool.false_eq_true, Nat.add_sub_cancel, reduceIte], _, rfl, by first | (simp only [R_weighs, c15, Bool.and_self, Bool.and_true, Bool.true_and, Bool.and_false, Bool.false_and, Bool.false_eq_true, Nat.add_sub_cancel, reduceIte]; exact SP.rfl)⟩

def needS (s : MST) (x : Int32) : Nat → Int32
  | 0 => nI 0
  | k + 1 => needS s x k ||| (if x >>> (nI k &&& 31) &&& nI 1 = nI 1 then nI 1 <<< (s.2.1 24 k &&& 31) else nI 0)
def hourS (s : MST) (x : Int32) : Nat → Int32
  | 0 => nI 0
  | k + 1 => hourS s x k + (if x >>> (nI k &&& 31) &&& nI 1 = nI 1 then s.2.1 29 k else nI 0)
def planS (s : MST) (need : Int32) : Nat → Int32 × Int32
  | 0 => (-1, nI 0)
  | q + 1 => if need &&& (kindsP s (nI q) (vI s 31) ^^^ -1) = 0 ∧ ((planS s need q).1 = -1 ∨ hourS s (nI q) (vI s 31) < (planS s need q).2) then (nI q, hourS s (nI q) (vI s 31)) else planS s need q
def planR (b l what : Int32) : Int32 := if b = -1 then b else if what = 0 then b else l
def R_plan (s : MST) (x w : Int32) : Int32 × MST := if (inN x (2 ^ vI s 28) && inN w 2) = true then (planR (planS s (needS s x (vI s 28)) (2 ^ vI s 31)).1 (planS s (needS s x (vI s 28)) (2 ^ vI s 31)).2 w, s) else (-2, s)
set_option maxRecDepth 4000 in
theorem f_plan (hm : MI m) (hV : MV s) (x w : Int32) : Fn X 1 0 0 yX12_plan cX12_plan 9 (some .int) [.ref (m 65), .int x, .int w] (mh m s h0) (fun rv hv => rv = some (.int (R_plan s x w).1) ∧ ∃ s' : MST, hv = mh m s' h0 ∧ SP s' (R_plan s x w).2) := by
  obtain ⟨⟨hn28, hb28⟩, hl28⟩ := id hV.2.2.1
  obtain ⟨⟨hn31, hb31⟩, hl31⟩ := id hV.2.2.2.1
  refine fn_of (by decide) (Nat.le_of_ble_eq_true rfl) (fun M hM => ?_)
  refine a_iload_n (pc := 0) dX12_plan_0 rfl rfl ?_
  refine a_i2l (pc := 1) dX12_plan_1 ?_
  refine a_lconst (pc := 2) (v := lN 0) dX12_plan_2 rfl ?_
  refine a_iconst (pc := 3) dX12_plan_3 ic_1 ?_
  refine a_aload_n (pc := 4) dX12_plan_4 rfl rfl ?_
  refine a_getfield (pc := 5) kg_X12_213 dX12_plan_5 (m_obj hm) rfl ?_
  refine a_topi (hn28) ?_
  refine a_ishl (pc := 8) dX12_plan_8 ?_
  refine a_iconst (pc := 9) dX12_plan_9 ic_1 ?_
  refine a_isub (pc := 10) dX12_plan_10 ?_
  refine a_i2l (pc := 11) dX12_plan_11 ?_
  refine a_callS (pc := 12) km_X12_142 dX12_plan_12 (f_in _ _ _) rfl rfl (rok_of hM (by decide) (by decide) (by omega) (by omega)) (Nat.le_of_ble_eq_true rfl) (fun r12 h12 hp12 => ?_)
  obtain ⟨rfl, rfl⟩ := hp12
  refine a_topi (congrArg bI (in_shl (x := x) (n := vI s 28) (by omega))) ?_
  refine a_if_eqB (pc := 15) (tgt := 28) dX12_plan_15 (by decide) (fun c15 => ?_) (fun c15 => ?_)
  · refine a_bipush (pc := 28) dX12_plan_28 ib_m2 ?_
    refine a_ret_i (pc := 30) hM rfl (rfl) dX12_plan_30 (by omega) (by omega) ?_
    exact ⟨by first | simp only [R_plan, c15, Bool.and_self, Bool.and_true, Bool.true_and, Bool.and_false, Bool.false_and, Bool.false_eq_true, Nat.add_sub_cancel, reduceIte], _, rfl, by first | (simp only [R_plan, c15, Bool.and_self, Bool.and_true, Bool.true_and, Bool.and_false, Bool.false_and, Bool.false_eq_true, Nat.add_sub_cancel, reduceIte]; exact SP.rfl)⟩
  · refine a_iload_n (pc := 18) dX12_plan_18 rfl rfl ?_
    refine a_i2l (pc := 19) dX12_plan_19 ?_
    refine a_lconst (pc := 20) (v := lN 0) dX12_plan_20 rfl ?_
    refine a_lconst (pc := 21) (v := lN 1) dX12_plan_21 rfl ?_
    refine a_callS (pc := 22) km_X12_142 dX12_plan_22 (f_in _ _ _) rfl rfl (rok_of hM (by decide) (by decide) (by omega) (by omega)) (Nat.le_of_ble_eq_true rfl) (fun r22 h22 hp22 => ?_)
    obtain ⟨rfl, rfl⟩ := hp22
    refine a_topi (congrArg bI (in_rng2 (x := w) (n := 2) (k := 1) (by omega) (by omega))) ?_
    refine a_if_neB (pc := 25) (tgt := 31) dX12_plan_25 (by decide) (fun c25 => ?_) (fun c25 => ?_)
    · refine a_iconst (pc := 31) dX12_plan_31 ic_0 ?_
      refine a_istore_n (pc := 32) dX12_plan_32 rfl (by decide) rfl ?_
      refine a_iconst (pc := 33) dX12_plan_33 ic_0 ?_
      refine a_istore (pc := 34) dX12_plan_34 (by decide) rfl ?_
      have hp31 : 2 ^ vI s 31 ≤ 64 := Nat.pow_le_pow_right (n := 2) (by omega) hb31
      have loop1 : ∀ j k : Nat, vI s 28 - k = j → k ≤ vI s 28 →  AJ X M yX12_plan cX12_plan 9 (some .int) 36 [(0, .ref (m 65)), (1, .int x), (2, .int w), (3, .int (needS s x k)), (4, .int (nI k))] [] (mh m s h0) 0 0 := by
        intro j
        induction j with
        | zero =>
          intro k hjk hkN
          refine a_iload (pc := 36) dX12_plan_36 rfl ?_
          refine a_aload_n (pc := 38) dX12_plan_38 rfl rfl ?_
          refine a_getfield (pc := 39) kg_X12_213 dX12_plan_39 (m_obj hm) rfl ?_
          refine a_topi (hn28) ?_
          refine a_icmp_geN (pc := 42) (tgt := 77) dX12_plan_42 (by decide) (by omega) (by omega) (fun c42 => ?_) (fun c42 => ?_)
          · have hkn : k = vI s 28 := by omega
            subst hkn
            refine a_iconst (pc := 77) dX12_plan_77 ic_m1 ?_
            refine a_istore (pc := 78) dX12_plan_78 (by decide) rfl ?_
            refine a_iconst (pc := 80) dX12_plan_80 ic_0 ?_
            refine a_istore (pc := 81) dX12_plan_81 (by decide) rfl ?_
            refine a_iconst (pc := 83) dX12_plan_83 ic_0 ?_
            refine a_istore (pc := 84) dX12_plan_84 (by decide) rfl ?_
            have outer : ∀ j q : Nat, 2 ^ vI s 31 - q = j → q ≤ 2 ^ vI s 31 →  AJ X M yX12_plan cX12_plan 9 (some .int) 86 [(0, .ref (m 65)), (2, .int w), (3, .int (needS s x (vI s 28))), (4, .int (planS s (needS s x (vI s 28)) q).1), (5, .int (planS s (needS s x (vI s 28)) q).2), (6, .int (nI q))] [] (mh m s h0) 0 0 := by
              intro j
              induction j with
              | zero =>
                intro q hjk hkN
                refine a_iload (pc := 86) dX12_plan_86 rfl ?_
                refine a_iconst (pc := 88) dX12_plan_88 ic_1 ?_
                refine a_aload_n (pc := 89) dX12_plan_89 rfl rfl ?_
                refine a_getfield (pc := 90) kg_X12_231 dX12_plan_90 (m_obj hm) rfl ?_
                refine a_topi (hn31) ?_
                refine a_ishl (pc := 93) dX12_plan_93 ?_
                refine a_topi (shl1 (by omega)) ?_
                refine a_icmp_geN (pc := 94) (tgt := 188) dX12_plan_94 (by decide) (by omega) (by omega) (fun c94 => ?_) (fun c94 => ?_)
                · have hqn : q = 2 ^ vI s 31 := by omega
                  subst hqn
                  refine a_iload (pc := 188) dX12_plan_188 rfl ?_
                  refine a_iconst (pc := 190) dX12_plan_190 ic_m1 ?_
                  refine a_icmp_eq (pc := 191) (tgt := 198) dX12_plan_191 (by decide) (fun c191 => ?_) (fun c191 => ?_)
                  · refine a_iload (pc := 198) dX12_plan_198 rfl ?_
                    refine a_goto (pc := 200) (tgt := 205) dX12_plan_200 (by decide) ?_
                    refine a_ret_i (pc := 205) hM rfl (rfl) dX12_plan_205 (by omega) (by omega) ?_
                    exact ⟨by simp only [R_plan, c15, c25, Bool.and_self, reduceIte]; unfold planR; repeat (first | rw [if_pos (by first | assumption | exact Or.inl (by assumption) | exact Or.inr (by assumption) | exact ⟨by assumption, by assumption⟩)] | rw [if_neg (by first | assumption | (intro z; rcases z with z | z <;> exact absurd z (by assumption)) | (intro z; exact absurd z.1 (by assumption)) | (intro z; exact absurd z.2 (by assumption)))]), _, rfl, by simp only [R_plan, c15, c25, Bool.and_self, reduceIte]; exact SP.rfl⟩
                  · refine a_iload_n (pc := 194) dX12_plan_194 rfl rfl ?_
                    refine a_if_ne (pc := 195) (tgt := 203) dX12_plan_195 (by decide) (fun c195 => ?_) (fun c195 => ?_)
                    · refine a_iload (pc := 203) dX12_plan_203 rfl ?_
                      refine a_ret_i (pc := 205) hM rfl (rfl) dX12_plan_205 (by omega) (by omega) ?_
                      exact ⟨by simp only [R_plan, c15, c25, Bool.and_self, reduceIte]; unfold planR; repeat (first | rw [if_pos (by first | assumption | exact Or.inl (by assumption) | exact Or.inr (by assumption) | exact ⟨by assumption, by assumption⟩)] | rw [if_neg (by first | assumption | (intro z; rcases z with z | z <;> exact absurd z (by assumption)) | (intro z; exact absurd z.1 (by assumption)) | (intro z; exact absurd z.2 (by assumption)))]), _, rfl, by simp only [R_plan, c15, c25, Bool.and_self, reduceIte]; exact SP.rfl⟩
                    · refine a_iload (pc := 198) dX12_plan_198 rfl ?_
                      refine a_goto (pc := 200) (tgt := 205) dX12_plan_200 (by decide) ?_
                      refine a_ret_i (pc := 205) hM rfl (rfl) dX12_plan_205 (by omega) (by omega) ?_
                      exact ⟨by simp only [R_plan, c15, c25, Bool.and_self, reduceIte]; unfold planR; repeat (first | rw [if_pos (by first | assumption | exact Or.inl (by assumption) | exact Or.inr (by assumption) | exact ⟨by assumption, by assumption⟩)] | rw [if_neg (by first | assumption | (intro z; rcases z with z | z <;> exact absurd z (by assumption)) | (intro z; exact absurd z.1 (by assumption)) | (intro z; exact absurd z.2 (by assumption)))]), _, rfl, by simp only [R_plan, c15, c25, Bool.and_self, reduceIte]; exact SP.rfl⟩
                · exact absurd c94 (by omega)
              | succ j ih =>
                intro q hjk hkN
                refine a_iload (pc := 86) dX12_plan_86 rfl ?_
                refine a_iconst (pc := 88) dX12_plan_88 ic_1 ?_
                refine a_aload_n (pc := 89) dX12_plan_89 rfl rfl ?_
                refine a_getfield (pc := 90) kg_X12_231 dX12_plan_90 (m_obj hm) rfl ?_
                refine a_topi (hn31) ?_
                refine a_ishl (pc := 93) dX12_plan_93 ?_
                refine a_topi (shl1 (by omega)) ?_
                refine a_icmp_geN (pc := 94) (tgt := 188) dX12_plan_94 (by decide) (by omega) (by omega) (fun c94 => ?_) (fun c94 => ?_)
                · exact absurd c94 (by omega)
                · refine a_iconst (pc := 97) dX12_plan_97 ic_0 ?_
                  refine a_istore (pc := 98) dX12_plan_98 (by decide) rfl ?_
                  refine a_iconst (pc := 100) dX12_plan_100 ic_0 ?_
                  refine a_istore (pc := 101) dX12_plan_101 (by decide) rfl ?_
                  have inner : ∀ j k : Nat, vI s 31 - k = j → k ≤ vI s 31 →  AJ X M yX12_plan cX12_plan 9 (some .int) 103 [(0, .ref (m 65)), (2, .int w), (3, .int (needS s x (vI s 28))), (4, .int (planS s (needS s x (vI s 28)) q).1), (5, .int (planS s (needS s x (vI s 28)) q).2), (6, .int (nI q)), (7, .int (hourS s (nI q) k)), (8, .int (nI k))] [] (mh m s h0) 0 0 := by
                    intro j
                    induction j with
                    | zero =>
                      intro k hjk hkN
                      refine a_iload (pc := 103) dX12_plan_103 rfl ?_
                      refine a_aload_n (pc := 105) dX12_plan_105 rfl rfl ?_
                      refine a_getfield (pc := 106) kg_X12_231 dX12_plan_106 (m_obj hm) rfl ?_
                      refine a_topi (hn31) ?_
                      refine a_icmp_geN (pc := 109) (tgt := 145) dX12_plan_109 (by decide) (by omega) (by omega) (fun c109 => ?_) (fun c109 => ?_)
                      · have hkn : k = vI s 31 := by omega
                        subst hkn
                        refine a_iload_n (pc := 145) dX12_plan_145 rfl rfl ?_
                        refine a_aload_n (pc := 146) dX12_plan_146 rfl rfl ?_
                        refine a_iload (pc := 147) dX12_plan_147 rfl ?_
                        refine a_callV (pc := 149) km_X12_234 dX12_plan_149 (f_kindsBy hm hn31 hb31 (nI q)) rfl rfl (krecv_of (ci := 12) rfl (m_obj hm)) (rok_of hM (by decide) (by decide) (by omega) (by omega)) (Nat.le_of_ble_eq_true rfl) (fun r149 h149 hp149 => ?_)
                        obtain ⟨rfl, rfl⟩ := hp149
                        refine a_iconst (pc := 152) dX12_plan_152 ic_m1 ?_
                        refine a_ixor (pc := 153) dX12_plan_153 ?_
                        refine a_iand (pc := 154) dX12_plan_154 ?_
                        refine a_if_ne (pc := 155) (tgt := 182) dX12_plan_155 (by decide) (fun c155 => ?_) (fun c155 => ?_)
                        · have hpl : planS s (needS s x (vI s 28)) q = planS s (needS s x (vI s 28)) (q + 1) := (if_neg (fun z => c155 z.1)).symm
                          refine a_iincN (pc := 182) (n := 1) dX12_plan_182 (by decide) rfl (by decide) rfl ?_
                          refine a_goto (pc := 185) (tgt := 86) dX12_plan_185 (by decide) ?_
                          exact a_locR (ih (q + 1) (by omega) (by omega)) ⟨rfl, rfl, rfl, by first | rfl | exact congrArg (fun z => some (Value.int z)) (congrArg Prod.fst hpl), by first | rfl | exact congrArg (fun z => some (Value.int z)) (congrArg Prod.snd hpl), rfl, trivial⟩
                        · refine a_iload (pc := 158) dX12_plan_158 rfl ?_
                          refine a_iconst (pc := 160) dX12_plan_160 ic_m1 ?_
                          refine a_icmp_eq (pc := 161) (tgt := 174) dX12_plan_161 (by decide) (fun c161 => ?_) (fun c161 => ?_)
                          · have hpl : (nI q, hourS s (nI q) (vI s 31)) = planS s (needS s x (vI s 28)) (q + 1) := (if_pos ⟨c155, Or.inl c161⟩).symm
                            refine a_iload (pc := 174) dX12_plan_174 rfl ?_
                            refine a_topi (congrArg Prod.fst hpl) ?_
                            refine a_istore (pc := 176) dX12_plan_176 (by decide) rfl ?_
                            refine a_iload (pc := 178) dX12_plan_178 rfl ?_
                            refine a_topi (congrArg Prod.snd hpl) ?_
                            refine a_istore (pc := 180) dX12_plan_180 (by decide) rfl ?_
                            refine a_iincN (pc := 182) (n := 1) dX12_plan_182 (by decide) rfl (by decide) rfl ?_
                            refine a_goto (pc := 185) (tgt := 86) dX12_plan_185 (by decide) ?_
                            exact a_locR (ih (q + 1) (by omega) (by omega)) ⟨rfl, rfl, rfl, by first | rfl | exact congrArg (fun z => some (Value.int z)) (congrArg Prod.fst hpl), by first | rfl | exact congrArg (fun z => some (Value.int z)) (congrArg Prod.snd hpl), rfl, trivial⟩
                          · refine a_iload (pc := 164) dX12_plan_164 rfl ?_
                            refine a_iload (pc := 166) dX12_plan_166 rfl ?_
                            refine a_icmp_lt (pc := 168) (tgt := 174) dX12_plan_168 (by decide) (fun c168 => ?_) (fun c168 => ?_)
                            · have hpl : (nI q, hourS s (nI q) (vI s 31)) = planS s (needS s x (vI s 28)) (q + 1) := (if_pos ⟨c155, Or.inr c168⟩).symm
                              refine a_iload (pc := 174) dX12_plan_174 rfl ?_
                              refine a_topi (congrArg Prod.fst hpl) ?_
                              refine a_istore (pc := 176) dX12_plan_176 (by decide) rfl ?_
                              refine a_iload (pc := 178) dX12_plan_178 rfl ?_
                              refine a_topi (congrArg Prod.snd hpl) ?_
                              refine a_istore (pc := 180) dX12_plan_180 (by decide) rfl ?_
                              refine a_iincN (pc := 182) (n := 1) dX12_plan_182 (by decide) rfl (by decide) rfl ?_
                              refine a_goto (pc := 185) (tgt := 86) dX12_plan_185 (by decide) ?_
                              exact a_locR (ih (q + 1) (by omega) (by omega)) ⟨rfl, rfl, rfl, by first | rfl | exact congrArg (fun z => some (Value.int z)) (congrArg Prod.fst hpl), by first | rfl | exact congrArg (fun z => some (Value.int z)) (congrArg Prod.snd hpl), rfl, trivial⟩
                            · have hpl : planS s (needS s x (vI s 28)) q = planS s (needS s x (vI s 28)) (q + 1) := (if_neg (fun z => z.2.elim c161 c168)).symm
                              refine a_goto (pc := 171) (tgt := 182) dX12_plan_171 (by decide) ?_
                              refine a_iincN (pc := 182) (n := 1) dX12_plan_182 (by decide) rfl (by decide) rfl ?_
                              refine a_goto (pc := 185) (tgt := 86) dX12_plan_185 (by decide) ?_
                              exact a_locR (ih (q + 1) (by omega) (by omega)) ⟨rfl, rfl, rfl, by first | rfl | exact congrArg (fun z => some (Value.int z)) (congrArg Prod.fst hpl), by first | rfl | exact congrArg (fun z => some (Value.int z)) (congrArg Prod.snd hpl), rfl, trivial⟩
                      · exact absurd c109 (by omega)
                    | succ j ih =>
                      intro k hjk hkN
                      refine a_iload (pc := 103) dX12_plan_103 rfl ?_
                      refine a_aload_n (pc := 105) dX12_plan_105 rfl rfl ?_
                      refine a_getfield (pc := 106) kg_X12_231 dX12_plan_106 (m_obj hm) rfl ?_
                      refine a_topi (hn31) ?_
                      refine a_icmp_geN (pc := 109) (tgt := 145) dX12_plan_109 (by decide) (by omega) (by omega) (fun c109 => ?_) (fun c109 => ?_)
                      · exact absurd c109 (by omega)
                      · refine a_iload (pc := 112) dX12_plan_112 rfl ?_
                        refine a_iload (pc := 114) dX12_plan_114 rfl ?_
                        refine a_iload (pc := 116) dX12_plan_116 rfl ?_
                        refine a_ishr (pc := 118) dX12_plan_118 ?_
                        refine a_iconst (pc := 119) dX12_plan_119 ic_1 ?_
                        refine a_iand (pc := 120) dX12_plan_120 ?_
                        refine a_iconst (pc := 121) dX12_plan_121 ic_1 ?_
                        refine a_icmp_ne (pc := 122) (tgt := 135) dX12_plan_122 (by decide) (fun c122 => ?_) (fun c122 => ?_)
                        · have hh : hourS s (nI q) k + nI 0 = hourS s (nI q) (k + 1) := by rw [hourS, if_neg c122]
                          refine a_iconst (pc := 135) dX12_plan_135 ic_0 ?_
                          refine a_iadd (pc := 136) dX12_plan_136 ?_
                          refine a_topi hh ?_
                          refine a_istore (pc := 137) dX12_plan_137 (by decide) rfl ?_
                          refine a_iincN (pc := 139) (n := 1) dX12_plan_139 (by decide) rfl (by decide) rfl ?_
                          refine a_goto (pc := 142) (tgt := 103) dX12_plan_142 (by decide) ?_
                          exact a_locR (ih (k + 1) (by omega) (by omega)) ⟨rfl, rfl, rfl, rfl, rfl, rfl, rfl, rfl, trivial⟩
                        · have hh : hourS s (nI q) k + s.2.1 29 k = hourS s (nI q) (k + 1) := by rw [hourS, if_pos c122]
                          refine a_aload_n (pc := 125) dX12_plan_125 rfl rfl ?_
                          refine a_getfield (pc := 126) kg_X12_81 dX12_plan_126 (m_obj hm) rfl ?_
                          refine a_iload (pc := 129) dX12_plan_129 rfl ?_
                          refine a_iaload (pc := 131) dX12_plan_131 (m_a29 hm) (_) (rfl) (by omega) (by omega) ?_
                          refine a_goto (pc := 132) (tgt := 136) dX12_plan_132 (by decide) ?_
                          refine a_iadd (pc := 136) dX12_plan_136 ?_
                          refine a_topi hh ?_
                          refine a_istore (pc := 137) dX12_plan_137 (by decide) rfl ?_
                          refine a_iincN (pc := 139) (n := 1) dX12_plan_139 (by decide) rfl (by decide) rfl ?_
                          refine a_goto (pc := 142) (tgt := 103) dX12_plan_142 (by decide) ?_
                          exact a_locR (ih (k + 1) (by omega) (by omega)) ⟨rfl, rfl, rfl, rfl, rfl, rfl, rfl, rfl, trivial⟩
                  exact a_locR (inner _ 0 rfl (Nat.zero_le _)) ⟨rfl, rfl, rfl, rfl, rfl, rfl, rfl, rfl, trivial⟩
            exact a_locR (outer _ 0 rfl (Nat.zero_le _)) ⟨rfl, rfl, rfl, rfl, rfl, rfl, trivial⟩
          · exact absurd c42 (by omega)
        | succ j ih =>
          intro k hjk hkN
          refine a_iload (pc := 36) dX12_plan_36 rfl ?_
          refine a_aload_n (pc := 38) dX12_plan_38 rfl rfl ?_
          refine a_getfield (pc := 39) kg_X12_213 dX12_plan_39 (m_obj hm) rfl ?_
          refine a_topi (hn28) ?_
          refine a_icmp_geN (pc := 42) (tgt := 77) dX12_plan_42 (by decide) (by omega) (by omega) (fun c42 => ?_) (fun c42 => ?_)
          · exact absurd c42 (by omega)
          · refine a_iload_n (pc := 45) dX12_plan_45 rfl rfl ?_
            refine a_iload_n (pc := 46) dX12_plan_46 rfl rfl ?_
            refine a_iload (pc := 47) dX12_plan_47 rfl ?_
            refine a_ishr (pc := 49) dX12_plan_49 ?_
            refine a_iconst (pc := 50) dX12_plan_50 ic_1 ?_
            refine a_iand (pc := 51) dX12_plan_51 ?_
            refine a_iconst (pc := 52) dX12_plan_52 ic_1 ?_
            refine a_icmp_ne (pc := 53) (tgt := 68) dX12_plan_53 (by decide) (fun c53 => ?_) (fun c53 => ?_)
            · have hh : needS s x k ||| nI 0 = needS s x (k + 1) := by rw [needS, if_neg c53]
              refine a_iconst (pc := 68) dX12_plan_68 ic_0 ?_
              refine a_ior (pc := 69) dX12_plan_69 ?_
              refine a_topi hh ?_
              refine a_istore_n (pc := 70) dX12_plan_70 rfl (by decide) rfl ?_
              refine a_iincN (pc := 71) (n := 1) dX12_plan_71 (by decide) rfl (by decide) rfl ?_
              refine a_goto (pc := 74) (tgt := 36) dX12_plan_74 (by decide) ?_
              exact a_locR (ih (k + 1) (by omega) (by omega)) ⟨rfl, rfl, rfl, rfl, rfl, trivial⟩
            · have hh : needS s x k ||| nI 1 <<< (s.2.1 24 k &&& 31) = needS s x (k + 1) := by rw [needS, if_pos c53]
              refine a_iconst (pc := 56) dX12_plan_56 ic_1 ?_
              refine a_aload_n (pc := 57) dX12_plan_57 rfl rfl ?_
              refine a_getfield (pc := 58) kg_X12_69 dX12_plan_58 (m_obj hm) rfl ?_
              refine a_iload (pc := 61) dX12_plan_61 rfl ?_
              refine a_iaload (pc := 63) dX12_plan_63 (m_a24 hm) (_) (rfl) (by omega) (by omega) ?_
              refine a_ishl (pc := 64) dX12_plan_64 ?_
              refine a_goto (pc := 65) (tgt := 69) dX12_plan_65 (by decide) ?_
              refine a_ior (pc := 69) dX12_plan_69 ?_
              refine a_topi hh ?_
              refine a_istore_n (pc := 70) dX12_plan_70 rfl (by decide) rfl ?_
              refine a_iincN (pc := 71) (n := 1) dX12_plan_71 (by decide) rfl (by decide) rfl ?_
              refine a_goto (pc := 74) (tgt := 36) dX12_plan_74 (by decide) ?_
              exact a_locR (ih (k + 1) (by omega) (by omega)) ⟨rfl, rfl, rfl, rfl, rfl, trivial⟩
      exact a_locR (loop1 _ 0 rfl (Nat.zero_le _)) ⟨rfl, rfl, rfl, rfl, rfl, trivial⟩
    · refine a_bipush (pc := 28) dX12_plan_28 ib_m2 ?_
      refine a_ret_i (pc := 30) hM rfl (rfl) dX12_plan_30 (by omega) (by omega) ?_
      exact ⟨by first | simp only [R_plan, c15, c25, Bool.and_self, Bool.and_true, Bool.true_and, Bool.and_false, Bool.false_and, Bool.false_eq_true, Nat.add_sub_cancel, reduceIte], _, rfl, by first | (simp only [R_plan, c15, c25, Bool.and_self, Bool.and_true, Bool.true_and, Bool.and_false, Bool.false_and, Bool.false_eq_true, Nat.add_sub_cancel, reduceIte]; exact SP.rfl)⟩

end MP3

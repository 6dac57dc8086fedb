/-! THE REFERENCE: series -/
section MP11
variable {X : KX} {m : Nat → Nat} {s : MST} {h0 : AH}
theorem byP_sp {s t : MST} (h : SP s t) (F Z : Nat) : byP s F Z = byP t F Z := by
  funext i
  unfold byP
  rw [h.2.1 1 (by decide)]
theorem ruleE_sp {s t : MST} (h : SP s t) : ruleE s = ruleE t := by
  unfold ruleE
  rw [byP_sp h, vI_sp h (by decide), vA_sp h (by decide)]
theorem sameG_sp {s t : MST} (h : SP s t) (r k : Nat) : sameG s r k = sameG t r k := by unfold sameG; rw [h.2.1 12 (by decide)]
theorem runP_sp {s t : MST} (h : SP s t) (r n : Nat) : runP s r n = runP t r n := by
  unfold runP
  rw [show sameG s r = sameG t r from funext (sameG_sp h r)]
theorem allP_sp {s t : MST} (h : SP s t) (r n : Nat) : allP s r n = allP t r n := sumN_congr (fun k _ => by rw [sameG_sp h, hitsP_sp h, rsz_sp h])
theorem abF_sp {s t : MST} (h : SP s t) (r w : Nat) : abF s r w = abF t r w := by
  funext k
  unfold abF
  rw [hitsP_sp h, rsz_sp h, runP_sp h, allP_sp h, boundP_sp h, vI_sp h (by decide), h.2.1 13 (by decide), nextP_sp h]
theorem saysV_sp {s t : MST} (h : SP s t) (r w : Nat) : saysV s r w = saysV t r w := by
  unfold saysV
  rw [ruleE_sp h, abF_sp h]
theorem cnOf_sp {s t : MST} (h : SP s t) {a : Nat} (ha : a ∈ pAl) (r : Nat) : cnOf s a r = cnOf t a r := by
  unfold cnOf
  funext i
  exact vA_sp h ha
theorem expP_sp {s t : MST} (h : SP s t) (r p n g : Nat) : expP s r p n g = expP t r p n g := sumN_congr (fun k _ => by rw [cnOf_sp h (by decide), vA_sp h (by decide)])
theorem cnt5_le (c : Nat → Nat) (n : Nat) : sumN (fun g => cntN (fun i => decide (c i = g)) n) 5 ≤ n := by
  induction n with
  | zero => exact Nat.le_refl 0
  | succ n ih =>
    simp only [sumN, cntN, decide_eq_true_eq] at ih ⊢
    repeat' split
    all_goals omega
theorem expP_le {s : MST} {r p n : Nat} (hpo : ∀ g, g < 5 → okV (s.2.1 8 (5 * p + g)) 10) : expP s r p n 5 ≤ 25 * n := by
  have h1 := cnt5_le (cnOf s 15 r) n
  have h2 : expP s r p n 5 ≤ sumN (fun g => cntN (fun i => decide (cnOf s 15 r i = g)) n * 10) 5 := by
    unfold expP sumN
    have q : ∀ g, g < 5 → cntN (fun i => decide (cnOf s 15 r i = g)) n * vA s 8 (5 * p + g) ≤ cntN (fun i => decide (cnOf s 15 r i = g)) n * 10 := fun g hg => Nat.mul_le_mul_left _ (Nat.le_of_lt (hpo g hg).2)
    have q0 := q 0 (by decide)
    have q1 := q 1 (by decide)
    have q2 := q 2 (by decide)
    have q3 := q 3 (by decide)
    have q4 := q 4 (by decide)
    simp only [sumN]
    omega
  simp only [sumN] at h1 h2
  omega
/-- how many, their hits, the fraction, whether it stopped -/
abbrev SR : Type := Nat × Nat × Int × Nat × Bool
def serF (s : MST) (g : Int32) (q : Nat) : Nat → SR
  | 0 => (0, 0, 0, 1, false)
  | k + 1 => if (serF s g q k).2.2.2.2 = true then serF s g q k
    else if ¬ s.2.1 12 k = g ∨ (q = 1 ∧ saysV s k 1 = 0) then serF s g q k
    else ((serF s g q k).1 + 1, (serF s g q k).2.1 + hitsP s k (rsz s k), frA (serF s g q k).2.2.1 (serF s g q k).2.2.2.1 (expP s k (vA s 11 k) (rsz s k) 5 : Nat) (rsz s k), frB (serF s g q k).2.2.1 (serF s g q k).2.2.2.1 (expP s k (vA s 11 k) (rsz s k) 5 : Nat) (rsz s k), decide (q = 0 ∧ ¬ saysV s k 0 = 0))
theorem serF_stop {s : MST} {g : Int32} {q k : Nat} (h : (serF s g q k).2.2.2.2 = true) (j : Nat) : serF s g q (k + j) = serF s g q k := by
  induction j with
  | zero => rfl
  | succ j ih => 
    show serF s g q (k + j + 1) = _
    rw [serF, ih, if_pos h]
def serV (t : SR) (k : Nat) : Int64 := match k with
  | 0 => lN t.1
  | 1 => lN t.2.1
  | 2 => lZ t.2.2.1
  | 3 => lN t.2.2.2.1
  | 4 => lN (t.2.1 * t.2.2.2.1) - lZ t.2.2.1
  | _ => lN t.2.2.2.1
def R_series (s : MST) (g kept w : Int32) : Int64 × MST := if (inN g 8 && inN kept 2 && inR w 0 5) = true then (serV (serF s g kept.toNatClampNeg (vI s 18)) w.toNatClampNeg, s) else (-4611686018427387904, s)
theorem Rz_sp {s t : MST} (h : SP s t) {r n : Nat} (hz : Rz s r n) : Rz t r n := by
  unfold Rz at hz ⊢
  rw [← h.2.1 11 (by decide), ← h.2.1 9 (by decide)]
  exact hz
set_option maxRecDepth 4000 in
theorem f_series (hm : MI m) (hV : MV s) (g kept w : Int32) : Fn X 42 0 0 yX12_series cX12_series 8 (some .long) [.ref (m 65), .int g, .int kept, .int w] (mh m s h0) (fun rv hv => rv = some (.long (R_series s g kept w).1) ∧ ∃ s' : MST, hv = mh m s' h0 ∧ SP s' (R_series s g kept w).2) := by
  obtain ⟨⟨hn18, hb18⟩, hl18⟩ := id hV.2.1
  refine fn_of (by decide) (Nat.le_of_ble_eq_true rfl) (fun M hM => ?_)
  refine a_iload_n (pc := 0) dX12_series_0 rfl rfl ?_
  refine a_callS (pc := 1) km_X12_393 dX12_series_1 (f_isGuesser _) rfl rfl (rok_of hM (by decide) (by decide) (by omega) (by omega)) (Nat.le_of_ble_eq_true rfl) (fun r1 h1 hp1 => ?_)
  obtain ⟨rfl, rfl⟩ := hp1
  refine a_if_eqB (pc := 4) (tgt := 29) dX12_series_4 (by decide) (fun c4 => ?_) (fun c4 => ?_)
  · refine a_ldc2 (pc := 29) kc_X12_205 dX12_series_29 ?_
    refine a_ret_l (pc := 32) hM rfl dX12_series_32 (by omega) (by omega) ?_
    exact ⟨by rw [R_series, if_neg (by rw [c4]; simp)], _, rfl, by rw [R_series, if_neg (by rw [c4]; simp)]; exact SP.rfl⟩
  · refine a_iload_n (pc := 7) dX12_series_7 rfl rfl ?_
    refine a_i2l (pc := 8) dX12_series_8 ?_
    refine a_lconst (pc := 9) (v := lN 0) dX12_series_9 rfl ?_
    refine a_lconst (pc := 10) (v := lN 1) dX12_series_10 rfl ?_
    refine a_callS (pc := 11) km_X12_142 dX12_series_11 (f_in _ _ _) rfl rfl (rok_of hM (by decide) (by decide) (by omega) (by omega)) (Nat.le_of_ble_eq_true rfl) (fun r11 h11 hp11 => ?_)
    obtain ⟨rfl, rfl⟩ := hp11
    refine a_topi (congrArg bI (in_rng2 (x := kept) (n := 2) (k := 1) (by omega) (by omega))) ?_
    refine a_if_eqB (pc := 14) (tgt := 29) dX12_series_14 (by decide) (fun c14 => ?_) (fun c14 => ?_)
    · refine a_ldc2 (pc := 29) kc_X12_205 dX12_series_29 ?_
      refine a_ret_l (pc := 32) hM rfl dX12_series_32 (by omega) (by omega) ?_
      exact ⟨by rw [R_series, if_neg (by rw [c14, Bool.and_false]; simp)], _, rfl, by rw [R_series, if_neg (by rw [c14, Bool.and_false]; simp)]; exact SP.rfl⟩
    · refine a_iload_n (pc := 17) dX12_series_17 rfl rfl ?_
      refine a_i2l (pc := 18) dX12_series_18 ?_
      refine a_lconst (pc := 19) (v := lN 0) dX12_series_19 rfl ?_
      refine a_ldc2 (pc := 20) kc_X12_216 dX12_series_20 ?_
      refine a_topl (z := lN 5) rfl ?_
      refine a_callS (pc := 23) km_X12_142 dX12_series_23 (f_in _ _ _) rfl rfl (rok_of hM (by decide) (by decide) (by omega) (by omega)) (Nat.le_of_ble_eq_true rfl) (fun r23 h23 hp23 => ?_)
      obtain ⟨rfl, rfl⟩ := hp23
      refine a_topi (congrArg bI (in_rng3 (x := w) (a := 0) (b := 5) (by decide) (by decide))) ?_
      refine a_if_neB (pc := 26) (tgt := 33) dX12_series_26 (by decide) (fun c26 => ?_) (fun c26 => ?_)
      · have hcc : (inN g 8 && inN kept 2 && inR w 0 5) = true := by rw [c4, c14, c26]; rfl
        obtain ⟨q, hq, rfl⟩ := inN_of c14 (by omega)
        have eq : (nI q).toNatClampNeg = q := nI_clamp (by omega)
        obtain ⟨v, hv0, hv5, rfl⟩ := inR_of c26 (by omega)
        have ev : (nI v).toNatClampNeg = v := nI_clamp (by omega)
        refine a_aload_n (pc := 33) dX12_series_33 rfl rfl ?_
        refine a_callV (pc := 34) km_X12_396 dX12_series_34 (f_zero hm) rfl rfl (krecv_of (ci := 12) rfl (m_obj hm)) (rok_of hM (by decide) (by decide) (by omega) (by omega)) (Nat.le_of_ble_eq_true rfl) (fun r34 h34 hp34 => ?_)
        obtain ⟨rfl, rfl⟩ := hp34
        refine a_iconst (pc := 37) dX12_series_37 ic_0 ?_
        refine a_istore (pc := 38) dX12_series_38 (by decide) rfl ?_
        refine a_iconst (pc := 40) dX12_series_40 ic_0 ?_
        refine a_istore (pc := 41) dX12_series_41 (by decide) rfl ?_
        refine a_iconst (pc := 43) dX12_series_43 ic_0 ?_
        refine a_istore (pc := 44) dX12_series_44 (by decide) rfl ?_
        refine a_iconst (pc := 46) dX12_series_46 ic_0 ?_
        refine a_istore (pc := 47) dX12_series_47 (by decide) rfl ?_
        have fin : ∀ (t : SR) (k : Nat) (s' : MST), t = serF s g q (vI s 18) → SP s' s → s'.2.2.1 47 = lZ t.2.2.1 → s'.2.2.1 48 = lN t.2.2.2.1 → t.1 ≤ 16 → t.2.1 ≤ 400 → AJ X M yX12_series cX12_series 8 (some .long) 151 [(0, .ref (m 65)), (1, .int g), (2, .int (nI q)), (3, .int (nI v)), (4, .int (nI t.1)), (5, .int (nI t.2.1)), (6, .int (bI t.2.2.2.2)), (7, .int (nI k))] [] (mh m s' h0) 0 0 := by
          intro t k s' ht hs h47 h48 hm1 hm2
          refine a_iload_n (pc := 151) dX12_series_151 rfl rfl ?_
          rcases (by omega : v = 0 ∨ v = 1 ∨ v = 2 ∨ v = 3 ∨ v = 4 ∨ v = 5) with rfl | rfl | rfl | rfl | rfl | rfl
          · refine a_tabIn (pc := 152) (off := 36) (tgt := 188) dX12_series_152 (by decide) (by decide) rfl (by decide) ?_
            refine a_iload (pc := 188) dX12_series_188 rfl ?_
            refine a_i2lN (pc := 190) dX12_series_190 (by omega) ?_
            refine a_ret_l (pc := 191) hM rfl dX12_series_191 (by omega) (by omega) ?_
            exact ⟨by rw [R_series, if_pos hcc, eq, ev, ← ht]; rfl, _, rfl, by rw [R_series, if_pos hcc]; exact hs⟩
          · refine a_tabIn (pc := 152) (off := 40) (tgt := 192) dX12_series_152 (by decide) (by decide) rfl (by decide) ?_
            refine a_iload (pc := 192) dX12_series_192 rfl ?_
            refine a_i2lN (pc := 194) dX12_series_194 (by omega) ?_
            refine a_ret_l (pc := 195) hM rfl dX12_series_195 (by omega) (by omega) ?_
            exact ⟨by rw [R_series, if_pos hcc, eq, ev, ← ht]; rfl, _, rfl, by rw [R_series, if_pos hcc]; exact hs⟩
          · refine a_tabIn (pc := 152) (off := 44) (tgt := 196) dX12_series_152 (by decide) (by decide) rfl (by decide) ?_
            refine a_aload_n (pc := 196) dX12_series_196 rfl rfl ?_
            refine a_getfield (pc := 197) kg_X12_383 dX12_series_197 (m_obj hm) rfl ?_
            refine a_topl (h47) ?_
            refine a_ret_l (pc := 200) hM rfl dX12_series_200 (by omega) (by omega) ?_
            exact ⟨by rw [R_series, if_pos hcc, eq, ev, ← ht]; rfl, _, rfl, by rw [R_series, if_pos hcc]; exact hs⟩
          · refine a_tabIn (pc := 152) (off := 49) (tgt := 201) dX12_series_152 (by decide) (by decide) rfl (by decide) ?_
            refine a_aload_n (pc := 201) dX12_series_201 rfl rfl ?_
            refine a_getfield (pc := 202) kg_X12_386 dX12_series_202 (m_obj hm) rfl ?_
            refine a_topl (h48) ?_
            refine a_ret_l (pc := 205) hM rfl dX12_series_205 (by omega) (by omega) ?_
            exact ⟨by rw [R_series, if_pos hcc, eq, ev, ← ht]; rfl, _, rfl, by rw [R_series, if_pos hcc]; exact hs⟩
          · refine a_tabIn (pc := 152) (off := 54) (tgt := 206) dX12_series_152 (by decide) (by decide) rfl (by decide) ?_
            refine a_iload (pc := 206) dX12_series_206 rfl ?_
            refine a_i2lN (pc := 208) dX12_series_208 (by omega) ?_
            refine a_aload_n (pc := 209) dX12_series_209 rfl rfl ?_
            refine a_getfield (pc := 210) kg_X12_386 dX12_series_210 (m_obj hm) rfl ?_
            refine a_topl (h48) ?_
            refine a_lmulN (pc := 213) dX12_series_213 ?_
            refine a_aload_n (pc := 214) dX12_series_214 rfl rfl ?_
            refine a_getfield (pc := 215) kg_X12_383 dX12_series_215 (m_obj hm) rfl ?_
            refine a_topl (h47) ?_
            refine a_lsub (pc := 218) dX12_series_218 ?_
            refine a_ret_l (pc := 219) hM rfl dX12_series_219 (by omega) (by omega) ?_
            exact ⟨by rw [R_series, if_pos hcc, eq, ev, ← ht]; rfl, _, rfl, by rw [R_series, if_pos hcc]; exact hs⟩
          · refine a_tabOut (pc := 152) (tgt := 220) dX12_series_152 (by decide) (by decide) ?_
            refine a_aload_n (pc := 220) dX12_series_220 rfl rfl ?_
            refine a_getfield (pc := 221) kg_X12_386 dX12_series_221 (m_obj hm) rfl ?_
            refine a_topl (h48) ?_
            refine a_ret_l (pc := 224) hM rfl dX12_series_224 (by omega) (by omega) ?_
            exact ⟨by rw [R_series, if_pos hcc, eq, ev, ← ht]; rfl, _, rfl, by rw [R_series, if_pos hcc]; exact hs⟩
        have step : ∀ (j k : Nat) (t : SR) (u : MST), (∀ (k : Nat) (t : SR) (s' : MST), vI s 18 - k = j → k ≤ vI s 18 → t = serF s g q k → SP s' s → s'.2.2.1 47 = lZ t.2.2.1 → s'.2.2.1 48 = lN t.2.2.2.1 → FrOk (25 * t.1) t.2.2.1 t.2.2.2.1 → t.1 ≤ k → t.2.1 ≤ 25 * k → AJ X M yX12_series cX12_series 8 (some .long) 49 [(0, .ref (m 65)), (1, .int g), (2, .int (nI q)), (3, .int (nI v)), (4, .int (nI t.1)), (5, .int (nI t.2.1)), (6, .int (bI t.2.2.2.2)), (7, .int (nI k))] [] (mh m s' h0) 0 0) → vI s 18 - k = j + 1 → k < vI s 18 → t = serF s g q k → t.2.2.2.2 = false → ¬ (¬ s.2.1 12 k = g ∨ (q = 1 ∧ saysV s k 1 = 0)) → SP u s → u.2.2.1 47 = lZ t.2.2.1 → u.2.2.1 48 = lN t.2.2.2.1 → FrOk (25 * t.1) t.2.2.1 t.2.2.2.1 → t.1 ≤ k → t.2.1 ≤ 25 * k → AJ X M yX12_series cX12_series 8 (some .long) 92 [(0, .ref (m 65)), (1, .int g), (2, .int (nI q)), (3, .int (nI v)), (4, .int (nI t.1)), (5, .int (nI t.2.1)), (6, .int (bI t.2.2.2.2)), (7, .int (nI k))] [] (mh m u h0) 0 0 := by
          intro j k t u ih hjk hk18 ht hst hcond hu u47 u48 hF htk hth
          obtain ⟨hk16, hkz, hkz1, hkz2⟩ := MV_run hV (r := k) (by omega)
          have hh25 : hitsP s k (rsz s k) ≤ rsz s k := cntN_le _ _
          obtain ⟨hp11, hp12⟩ := (hV.2.1.2 k (by omega)).1
          have hp10 : vI s 10 ≤ 4 := hV.1.1.2
          have hp4 : vA s 11 k < 4 := Nat.lt_of_lt_of_le hp12 hp10
          have hpo : ∀ g, g < 5 → okV (s.2.1 8 (5 * vA s 11 k + g)) 10 := (hV.1.2 (vA s 11 k) hp12).2.2.1
          have hrow : ∀ i, i < rsz s k → okV (s.2.1 15 (25 * k + i)) 5 := (hV.2.1.2 k (by omega)).2.2.2.2.1
          have hex := expP_le (r := k) (n := rsz s k) hpo
          have hok := fr_ok hF (a := (expP s k (vA s 11 k) (rsz s k) 5 : Nat)) (by omega) (by omega : rsz s k < 26) (cast_le hex)
          have e : serF s g q (k + 1) = (t.1 + 1, t.2.1 + hitsP s k (rsz s k), (frA t.2.2.1 t.2.2.2.1 (expP s k (vA s 11 k) (rsz s k) 5 : Nat) (rsz s k)), (frB t.2.2.1 t.2.2.2.1 (expP s k (vA s 11 k) (rsz s k) 5 : Nat) (rsz s k)), decide (q = 0 ∧ ¬ saysV s k 0 = 0)) := by rw [serF, ← ht, if_neg (by rw [hst]; decide), if_neg hcond]
          refine a_iincN (pc := 92) (n := 1) dX12_series_92 (by decide) rfl (by decide) rfl ?_
          refine a_iload (pc := 95) dX12_series_95 rfl ?_
          refine a_aload_n (pc := 97) dX12_series_97 rfl rfl ?_
          refine a_iload (pc := 98) dX12_series_98 rfl ?_
          refine a_callV (pc := 100) km_X12_183 dX12_series_100 (f_hitsOf (s := u) hm hk16 (Rz_sp (SP.sym hu) hkz)) rfl rfl (krecv_of (ci := 12) rfl (m_obj hm)) (rok_of hM (by decide) (by decide) (by omega) (by omega)) (Nat.le_of_ble_eq_true rfl) (fun r100 h100 hp100 => ?_)
          obtain ⟨rfl, rfl⟩ := hp100
          refine a_topi (show _ = nI (hitsP s k (rsz s k)) by rw [hitsP_sp hu]) ?_
          refine a_iaddN (pc := 103) dX12_series_103 ?_
          refine a_istore (pc := 104) dX12_series_104 (by decide) rfl ?_
          refine a_aload_n (pc := 106) dX12_series_106 rfl rfl ?_
          refine a_aload_n (pc := 107) dX12_series_107 rfl rfl ?_
          refine a_iload (pc := 108) dX12_series_108 rfl ?_
          refine a_callV (pc := 110) km_X12_399 dX12_series_110 (f_expected (s := u) (p := vA s 11 k) hm hk16 (Rz_sp (SP.sym hu) hkz) ((congrFun (hu.2.1 11 (by decide)) k).trans hp11) hp4 (fun i hi => by rw [hu.2.1 15 (by decide)]; exact hrow i hi) (fun g hg => by rw [hu.2.1 8 (by decide)]; exact hpo g hg)) rfl rfl (krecv_of (ci := 12) rfl (m_obj hm)) (rok_of hM (by decide) (by decide) (by omega) (by omega)) (Nat.le_of_ble_eq_true rfl) (fun r110 h110 hp110 => ?_)
          obtain ⟨rfl, rfl⟩ := hp110
          refine a_topi (show _ = nI (expP s k (vA s 11 k) (rsz s k) 5) by rw [expP_sp hu]) ?_
          have hs1 : SP (sa u 23 (gsF (gs0 u) (cnOf u 15 k) (rsz s k))) s := SP.sa (by decide) hu
          refine a_i2lN (pc := 113) dX12_series_113 (by omega) ?_
          refine a_aload_n (pc := 114) dX12_series_114 rfl rfl ?_
          refine a_iload (pc := 115) dX12_series_115 rfl ?_
          refine a_callV (pc := 117) km_X12_161 dX12_series_117 (f_sizeOf (s := (sa u 23 (gsF (gs0 u) (cnOf u 15 k) (rsz s k)))) hm hk16 (Rz_sp (SP.sym hs1) hkz)) rfl rfl (krecv_of (ci := 12) rfl (m_obj hm)) (rok_of hM (by decide) (by decide) (by omega) (by omega)) (Nat.le_of_ble_eq_true rfl) (fun r117 h117 hp117 => ?_)
          obtain ⟨rfl, rfl⟩ := hp117
          refine a_i2lN (pc := 120) dX12_series_120 (by omega) ?_
          refine a_2nd_l (z := lZ ((expP s k (vA s 11 k) (rsz s k) 5 : Nat) : Int)) (lZ_N (expP s k (vA s 11 k) (rsz s k) 5)).symm ?_
          refine a_callV (pc := 121) km_X12_402 dX12_series_121 (f_adds (s := (sa u 23 (gsF (gs0 u) (cnOf u 15 k) (rsz s k)))) (A := t.2.2.1) (B := t.2.2.2.1) (a := ((expP s k (vA s 11 k) (rsz s k) 5 : Nat) : Int)) (b := rsz s k) hm u47 u48 hF (by omega) (by omega) (by omega) (cast_le hex)) rfl rfl (krecv_of (ci := 12) rfl (m_obj hm)) (rok_of hM (by decide) (by decide) (by omega) (by omega)) (Nat.le_of_ble_eq_true rfl) (fun r121 h121 hp121 => ?_)
          obtain ⟨rfl, rfl⟩ := hp121
          obtain ⟨u2, hu2⟩ : ∃ u2, u2 = (N_fr (sa u 23 (gsF (gs0 u) (cnOf u 15 k) (rsz s k))) (frA t.2.2.1 t.2.2.2.1 (expP s k (vA s 11 k) (rsz s k) 5 : Nat) (rsz s k)) (frB t.2.2.1 t.2.2.2.1 (expP s k (vA s 11 k) (rsz s k) 5 : Nat) (rsz s k))) := ⟨_, rfl⟩
          refine a_hp (show _ = mh m u2 h0 by rw [hu2]) ?_
          have hs' : SP u2 s := by rw [hu2]; exact SP.tr SP_fr hs1
          have k47 : u2.2.2.1 47 = lZ (frA t.2.2.1 t.2.2.2.1 (expP s k (vA s 11 k) (rsz s k) 5 : Nat) (rsz s k)) := by rw [hu2]; rfl
          have k48 : u2.2.2.1 48 = lN (frB t.2.2.1 t.2.2.2.1 (expP s k (vA s 11 k) (rsz s k) 5 : Nat) (rsz s k)) := by rw [hu2]; rfl
          refine a_iload_n (pc := 124) dX12_series_124 rfl rfl ?_
          refine a_if_neN (pc := 125) (tgt := 142) dX12_series_125 (by decide) (by omega) (fun c125 => ?_) (fun c125 => ?_)
          · have hv : nI 0 = bI (decide (q = 0 ∧ ¬ saysV s k 0 = 0)) := by rw [decide_eq_false (fun z => absurd z.1 (by omega))]; rfl
            refine a_iconst (pc := 142) dX12_series_142 ic_0 ?_
            refine a_topi hv ?_
            refine a_istore (pc := 143) dX12_series_143 (by decide) rfl ?_
            refine a_iincN (pc := 145) (n := 1) dX12_series_145 (by decide) rfl (by decide) rfl ?_
            refine a_goto (pc := 148) (tgt := 49) dX12_series_148 (by decide) ?_
            exact a_locR (ih (k + 1) (serF s g q (k + 1)) _ (by omega) (by omega) rfl hs' (by rw [e]; exact k47) (by rw [e]; exact k48) (by rw [e]; show FrOk (25 * (t.1 + 1)) _ _; rw [Nat.mul_succ]; exact hok) (by rw [e]; show t.1 + 1 ≤ k + 1; omega) (by rw [e]; show t.2.1 + hitsP s k (rsz s k) ≤ 25 * (k + 1); omega)) (by rw [e]; exact ⟨rfl, rfl, rfl, rfl, rfl, rfl, rfl, rfl, trivial⟩)
          · have hq0 : q = 0 := by omega
            refine a_aload_n (pc := 128) dX12_series_128 rfl rfl ?_
            refine a_iload (pc := 129) dX12_series_129 rfl ?_
            refine a_iconst (pc := 131) dX12_series_131 ic_0 ?_
            refine a_callV (pc := 132) km_X12_199 dX12_series_132 (f_saysOf (s := u2) hm (MV_sp (SP.sym hs') hV) (r := k) (w := 0) (by rw [vI_sp hs' (by decide)]; exact hk18) (by decide)) rfl rfl (krecv_of (ci := 12) rfl (m_obj hm)) (rok_of hM (by decide) (by decide) (by omega) (by omega)) (Nat.le_of_ble_eq_true rfl) (fun r132 h132 hp132 => ?_)
            obtain ⟨rfl, s132, rfl, x132, y132⟩ := hp132
            refine a_topi (show _ = saysV s k 0 from saysV_sp hs' k 0) ?_
            have k47 := (y132 47 (by decide)).trans k47
            have k48 := (y132 48 (by decide)).trans k48
            have hs' : SP s132 s := SP.tr x132 hs'
            refine a_if_eq (pc := 135) (tgt := 142) dX12_series_135 (by decide) (fun c135 => ?_) (fun c135 => ?_)
            · have hv : nI 0 = bI (decide (q = 0 ∧ ¬ saysV s k 0 = 0)) := by rw [decide_eq_false (fun z => z.2 c135)]; rfl
              refine a_iconst (pc := 142) dX12_series_142 ic_0 ?_
              refine a_topi hv ?_
              refine a_istore (pc := 143) dX12_series_143 (by decide) rfl ?_
              refine a_iincN (pc := 145) (n := 1) dX12_series_145 (by decide) rfl (by decide) rfl ?_
              refine a_goto (pc := 148) (tgt := 49) dX12_series_148 (by decide) ?_
              exact a_locR (ih (k + 1) (serF s g q (k + 1)) _ (by omega) (by omega) rfl hs' (by rw [e]; exact k47) (by rw [e]; exact k48) (by rw [e]; show FrOk (25 * (t.1 + 1)) _ _; rw [Nat.mul_succ]; exact hok) (by rw [e]; show t.1 + 1 ≤ k + 1; omega) (by rw [e]; show t.2.1 + hitsP s k (rsz s k) ≤ 25 * (k + 1); omega)) (by rw [e]; exact ⟨rfl, rfl, rfl, rfl, rfl, rfl, rfl, rfl, trivial⟩)
            · have hv : nI 1 = bI (decide (q = 0 ∧ ¬ saysV s k 0 = 0)) := by rw [decide_eq_true ⟨hq0, c135⟩]; rfl
              refine a_iconst (pc := 138) dX12_series_138 ic_1 ?_
              refine a_goto (pc := 139) (tgt := 143) dX12_series_139 (by decide) ?_
              refine a_topi hv ?_
              refine a_istore (pc := 143) dX12_series_143 (by decide) rfl ?_
              refine a_iincN (pc := 145) (n := 1) dX12_series_145 (by decide) rfl (by decide) rfl ?_
              refine a_goto (pc := 148) (tgt := 49) dX12_series_148 (by decide) ?_
              exact a_locR (ih (k + 1) (serF s g q (k + 1)) _ (by omega) (by omega) rfl hs' (by rw [e]; exact k47) (by rw [e]; exact k48) (by rw [e]; show FrOk (25 * (t.1 + 1)) _ _; rw [Nat.mul_succ]; exact hok) (by rw [e]; show t.1 + 1 ≤ k + 1; omega) (by rw [e]; show t.2.1 + hitsP s k (rsz s k) ≤ 25 * (k + 1); omega)) (by rw [e]; exact ⟨rfl, rfl, rfl, rfl, rfl, rfl, rfl, rfl, trivial⟩)
        have loop : ∀ (j k : Nat) (t : SR) (s' : MST), vI s 18 - k = j → k ≤ vI s 18 → t = serF s g q k → SP s' s → s'.2.2.1 47 = lZ t.2.2.1 → s'.2.2.1 48 = lN t.2.2.2.1 → FrOk (25 * t.1) t.2.2.1 t.2.2.2.1 → t.1 ≤ k → t.2.1 ≤ 25 * k → AJ X M yX12_series cX12_series 8 (some .long) 49 [(0, .ref (m 65)), (1, .int g), (2, .int (nI q)), (3, .int (nI v)), (4, .int (nI t.1)), (5, .int (nI t.2.1)), (6, .int (bI t.2.2.2.2)), (7, .int (nI k))] [] (mh m s' h0) 0 0 := by
          intro j
          induction j with
          | zero =>
            intro k t s' hjk hkn ht hs k47 k48 hF htm hth
            refine a_iload (pc := 49) dX12_series_49 rfl ?_
            refine a_aload_n (pc := 51) dX12_series_51 rfl rfl ?_
            refine a_getfield (pc := 52) kg_X12_139 dX12_series_52 (m_obj hm) rfl ?_
            refine a_topi ((show _ = nI (vI s 18) from (hs.1 18 (by decide)).trans hn18)) ?_
            refine a_icmp_geN (pc := 55) (tgt := 151) dX12_series_55 (by decide) (by omega) (by omega) (fun c55 => ?_) (fun c55 => ?_)
            · have hkk : k = vI s 18 := by omega
              subst hkk
              exact a_locR (fin t _ s' ht hs k47 k48 (by omega) (by omega)) ⟨rfl, rfl, rfl, rfl, rfl, rfl, rfl, rfl, trivial⟩
            · exact absurd c55 (by omega)
          | succ j ih =>
            intro k t s' hjk hkn ht hs k47 k48 hF htm hth
            refine a_iload (pc := 49) dX12_series_49 rfl ?_
            refine a_aload_n (pc := 51) dX12_series_51 rfl rfl ?_
            refine a_getfield (pc := 52) kg_X12_139 dX12_series_52 (m_obj hm) rfl ?_
            refine a_topi ((show _ = nI (vI s 18) from (hs.1 18 (by decide)).trans hn18)) ?_
            refine a_icmp_geN (pc := 55) (tgt := 151) dX12_series_55 (by decide) (by omega) (by omega) (fun c55 => ?_) (fun c55 => ?_)
            · exact absurd c55 (by omega)
            · have hk18 : k < vI s 18 := by omega
              obtain ⟨hk16, hkz, hkz1, hkz2⟩ := MV_run hV (r := k) (by omega)
              have hh25 : hitsP s k (rsz s k) ≤ rsz s k := cntN_le _ _
              refine a_iload (pc := 58) dX12_series_58 rfl ?_
              refine a_if_neB (pc := 60) (tgt := 151) dX12_series_60 (by decide) (fun c60 => ?_) (fun c60 => ?_)
              · have e := serF_stop (s := s) (g := g) (q := q) (k := k) (by rw [← ht]; exact c60) (vI s 18 - k)
                rw [show k + (vI s 18 - k) = vI s 18 by omega, ← ht] at e
                exact a_locR (fin t k s' e.symm hs k47 k48 (by omega) (by omega)) ⟨rfl, rfl, rfl, rfl, rfl, rfl, rfl, rfl, trivial⟩
              · have hst : t.2.2.2.2 = false := c60
                refine a_aload_n (pc := 63) dX12_series_63 rfl rfl ?_
                refine a_getfield (pc := 64) kg_X12_36 dX12_series_64 (m_obj hm) rfl ?_
                refine a_iload (pc := 67) dX12_series_67 rfl ?_
                refine a_iaload (pc := 69) dX12_series_69 (m_a12 hm) (_) (rfl) (by omega) (by omega) ?_
                refine a_iload_n (pc := 70) dX12_series_70 rfl rfl ?_
                refine a_icmp_ne (pc := 71) (tgt := 145) dX12_series_71 (by decide) (fun c71 => ?_) (fun c71 => ?_)
                · have c71 : ¬ s.2.1 12 k = g := by rw [← congrFun (hs.2.1 12 (by decide)) k]; exact c71
                  have e : serF s g q (k + 1) = t := by rw [serF, ← ht, if_neg (by rw [hst]; decide), if_pos (Or.inl c71)]
                  refine a_iincN (pc := 145) (n := 1) dX12_series_145 (by decide) rfl (by decide) rfl ?_
                  refine a_goto (pc := 148) (tgt := 49) dX12_series_148 (by decide) ?_
                  first | exact a_locR (ih (k + 1) t s' (by omega) (by omega) e.symm hs k47 k48 hF (by omega) (by omega)) ⟨rfl, rfl, rfl, rfl, rfl, rfl, rfl, rfl, trivial⟩ | exact a_locR (ih (k + 1) t s83 (by omega) (by omega) e.symm hs3 z47 z48 hF (by omega) (by omega)) ⟨rfl, rfl, rfl, rfl, rfl, rfl, rfl, rfl, trivial⟩
                · have hg : s.2.1 12 k = g := by rw [← congrFun (hs.2.1 12 (by decide)) k]; exact c71
                  refine a_iload_n (pc := 74) dX12_series_74 rfl rfl ?_
                  refine a_iconst (pc := 75) dX12_series_75 ic_1 ?_
                  refine a_icmp_neN (pc := 76) (tgt := 92) dX12_series_76 (by decide) (by omega) (by omega) (fun c76 => ?_) (fun c76 => ?_)
                  · have hcond : ¬ (¬ s.2.1 12 k = g ∨ (q = 1 ∧ saysV s k 1 = 0)) := fun z => z.elim (fun y => y hg) (fun y => c76 y.1)
                    first | exact a_locR (step j k t s' ih hjk hk18 ht hst hcond hs k47 k48 hF htm hth) ⟨rfl, rfl, rfl, rfl, rfl, rfl, rfl, rfl, trivial⟩ | exact a_locR (step j k t s83 ih hjk hk18 ht hst hcond hs3 z47 z48 hF htm hth) ⟨rfl, rfl, rfl, rfl, rfl, rfl, rfl, rfl, trivial⟩
                  · refine a_aload_n (pc := 79) dX12_series_79 rfl rfl ?_
                    refine a_iload (pc := 80) dX12_series_80 rfl ?_
                    refine a_iconst (pc := 82) dX12_series_82 ic_1 ?_
                    refine a_callV (pc := 83) km_X12_199 dX12_series_83 (f_saysOf (s := s') hm (MV_sp (SP.sym hs) hV) (r := k) (w := 1) (by rw [vI_sp hs (by decide)]; exact hk18) (by decide)) rfl rfl (krecv_of (ci := 12) rfl (m_obj hm)) (rok_of hM (by decide) (by decide) (by omega) (by omega)) (Nat.le_of_ble_eq_true rfl) (fun r83 h83 hp83 => ?_)
                    obtain ⟨rfl, s83, rfl, x83, y83⟩ := hp83
                    refine a_topi (show _ = saysV s k 1 from saysV_sp hs k 1) ?_
                    have hs3 : SP s83 s := SP.tr x83 hs
                    have z47 := (y83 47 (by decide)).trans k47
                    have z48 := (y83 48 (by decide)).trans k48
                    refine a_if_ne (pc := 86) (tgt := 92) dX12_series_86 (by decide) (fun c86 => ?_) (fun c86 => ?_)
                    · have hcond : ¬ (¬ s.2.1 12 k = g ∨ (q = 1 ∧ saysV s k 1 = 0)) := fun z => z.elim (fun y => y hg) (fun y => c86 y.2)
                      first | exact a_locR (step j k t s' ih hjk hk18 ht hst hcond hs k47 k48 hF htm hth) ⟨rfl, rfl, rfl, rfl, rfl, rfl, rfl, rfl, trivial⟩ | exact a_locR (step j k t s83 ih hjk hk18 ht hst hcond hs3 z47 z48 hF htm hth) ⟨rfl, rfl, rfl, rfl, rfl, rfl, rfl, rfl, trivial⟩
                    · have e : serF s g q (k + 1) = t := by rw [serF, ← ht, if_neg (by rw [hst]; decide), if_pos (Or.inr ⟨c76, c86⟩)]
                      refine a_goto (pc := 89) (tgt := 145) dX12_series_89 (by decide) ?_
                      refine a_iincN (pc := 145) (n := 1) dX12_series_145 (by decide) rfl (by decide) rfl ?_
                      refine a_goto (pc := 148) (tgt := 49) dX12_series_148 (by decide) ?_
                      first | exact a_locR (ih (k + 1) t s' (by omega) (by omega) e.symm hs k47 k48 hF (by omega) (by omega)) ⟨rfl, rfl, rfl, rfl, rfl, rfl, rfl, rfl, trivial⟩ | exact a_locR (ih (k + 1) t s83 (by omega) (by omega) e.symm hs3 z47 z48 hF (by omega) (by omega)) ⟨rfl, rfl, rfl, rfl, rfl, rfl, rfl, rfl, trivial⟩
        refine a_hp (show _ = mh m (N_fr s 0 1) h0 from rfl) ?_
        exact a_locR (loop _ 0 (0, 0, 0, 1, false) _ rfl (Nat.zero_le _) rfl SP_fr rfl rfl fr_0 (Nat.zero_le _) (Nat.zero_le _)) ⟨rfl, rfl, rfl, rfl, rfl, rfl, rfl, rfl, trivial⟩
      · refine a_ldc2 (pc := 29) kc_X12_205 dX12_series_29 ?_
        refine a_ret_l (pc := 32) hM rfl dX12_series_32 (by omega) (by omega) ?_
        exact ⟨by rw [R_series, if_neg (by rw [c26, Bool.and_false]; simp)], _, rfl, by rw [R_series, if_neg (by rw [c26, Bool.and_false]; simp)]; exact SP.rfl⟩

end MP11

/-! THE LAW: its loop and its entry -/
section LWP
variable {X : KX} {M : MX} {b L a : Nat} {xs : Nat → Int32} {m : Nat → Nat} {s t : MST} {σ : Nat → Nat → Nat} {h : AH}
theorem and31 (x : Int32) : ∃ v : Nat, v < 32 ∧ x &&& nI 31 = nI v := by
  refine ⟨(x.toBitVec &&& 31#32).toNat, ?_, ?_⟩
  · rw [BitVec.toNat_and]
    exact Nat.lt_of_le_of_lt Nat.and_le_right (by decide)
  · rw [← Int32.toBitVec_inj]
    show x.toBitVec &&& 31#32 = BitVec.ofNat 32 (x.toBitVec &&& 31#32).toNat
    rw [BitVec.ofNat_toNat, BitVec.setWidth_eq]
theorem sub6 {k : Nat} (hL : L ≤ 3072) (hk : k ≤ 512) : nI L - nI 6 < nI (6 * k) ↔ L < 6 * k + 6 := by
  rw [Int32.lt_iff_toInt_lt, Int32.toInt_sub, nI_toInt (by omega), nI_toInt (by omega), nI_toInt (by omega), Int.bmod_eq_of_le (by omega) (by omega)]
  omega
theorem fP_0 {r : Nat} : fP [] (fun _ => r) sZ = [.int 0, .null, .null, .int 0, .int 0, .null, .int 0, .null, .null, .null, .int 0, .null, .null, .null, .null, .null, .null, .null, .int 0, .null, .null, .null, .null, .null, .null, .null, .null, .null, .int 0, .null, .null, .int 0, .int 0, .int 0, .int 0, .int 0, .long 0, .int 0, .int 0, .int 0, .int 0, .int 0, .int 0, .int 0, .int 0, .int 0, .int 0, .long 0, .long 0, .int 0, .int 0, .null, .null, .null, .null, .null, .null, .int 0, .int 0, .int 0, .int 0, .null, .null, .null, .null] := by rfl
theorem li_0 {h4 : AH} {x0 : Nat} {e : kE} (hm : MI m) (hI : CI X σ s h4) (hr0 : h4 (m 65) = none) (hfr : ∀ r, mliv r → r ≠ 65 → (kput h4 (m 65) e) (m r) = none) (hB : Beg s) (z : σ 0 0 = x0) : LI X m s σ (mh m s (kput h4 (m 65) e)) x0 := by
  have no : ∀ r, mliv r → h4 (m r) = none := fun r hr => by
    by_cases q : r = 65
    · rw [q]; exact hr0
    · exact (kput_none (hfr r hr q)).2
  have ne : ∀ r, mliv r → ∀ k i, clv s k i → m r ≠ σ k i := fun r hr k i hk y => by
    obtain ⟨e', he, -⟩ := hI.2 k i hk
    rw [← y, no r hr] at he
    exact Option.some_ne_none _ he.symm
  refine ⟨hm, MV_Beg hB, ⟨hI.1, fun k i hk => ?_⟩, fun r hr => ov_get hm hr, ne, z⟩
  obtain ⟨e', he, hc⟩ := hI.2 k i hk
  exact ⟨e', (ov_out (fun r hr => ne r hr k i hk)).trans ((kput_ne (fun y => ne 65 (by decide) k i hk y.symm)).trans he), hc⟩
set_option maxRecDepth 4000 in
theorem law_loop {nm ds : String} (hC : LC M b L xs) (hL3 : L ≤ 3072) (fin : ∀ (h : AH) (uc us : Nat), uc ≤ 500000 → us ≤ 7000000 → AJ X M ⟨RL, nm, ds⟩ cL_law 4 ret 1275 [] [.int (nI 1)] h uc us) : ∀ (d k : Nat) (t : MST) (σ : Nat → Nat → Nat) (h : AH), 512 - k = d → k ≤ 512 → LI X m t σ h a → AJ X M ⟨RL, nm, ds⟩ cL_law 4 ret 18 [(0, .ref b), (1, .ref a), (2, .ref (m 65)), (3, .int (nI (6 * k)))] [] h (100 + 200 * k) (10000 + 10000 * k) := by
  intro d
  induction d with
  | zero =>
    intro k t σ h hd hk5 hI
    refine a_iload_n (pc := 18) dL_law_18 rfl rfl ?_
    refine a_aload_n (pc := 19) dL_law_19 rfl rfl ?_
    refine a_slen (pc := 20) hC dL_law_20 ?_
    refine a_bipush (pc := 21) dL_law_21 ib_6 ?_
    refine a_isub (pc := 23) dL_law_23 ?_
    refine a_icmp_gt (pc := 24) (tgt := 1274) dL_law_24 (by decide) (fun c24 => ?_) (fun c24 => ?_)
    · refine a_iconst (pc := 1274) dL_law_1274 ic_1 ?_
      exact a_locR (fin h _ _ (by omega) (by omega)) (by exact trivial)
    · exact absurd ((sub6 hL3 hk5).mpr (by omega)) c24
  | succ d ih =>
    intro k t σ h hd hk5 hI
    have kk : ∀ t2 s2 h2, LI X m t2 s2 h2 a → AJ X M ⟨RL, nm, ds⟩ cL_law 4 ret 1268 [(0, .ref b), (1, .ref a), (2, .ref (m 65)), (3, .int (nI (6 * k)))] [] h2 (100 + 200 * k + 200) (10000 + 10000 * k + 10000) := by
      intro t2 s2 h2 hI2
      refine a_iincN (pc := 1268) (n := 6) dL_law_1268 (by decide) rfl (by decide) rfl ?_
      refine a_goto (pc := 1271) (tgt := 18) dL_law_1271 (by decide) ?_
      exact a_wid (by omega) (by omega) (a_locR (ih (k + 1) t2 s2 h2 (by omega) (by omega) hI2) ⟨rfl, rfl, rfl, rfl, trivial⟩)
    refine a_iload_n (pc := 18) dL_law_18 rfl rfl ?_
    refine a_aload_n (pc := 19) dL_law_19 rfl rfl ?_
    refine a_slen (pc := 20) hC dL_law_20 ?_
    refine a_bipush (pc := 21) dL_law_21 ib_6 ?_
    refine a_isub (pc := 23) dL_law_23 ?_
    refine a_icmp_gt (pc := 24) (tgt := 1274) dL_law_24 (by decide) (fun c24 => ?_) (fun c24 => ?_)
    · refine a_iconst (pc := 1274) dL_law_1274 ic_1 ?_
      exact a_locR (fin h _ _ (by omega) (by omega)) (by exact trivial)
    · have hk6 : 6 * k + 6 ≤ L := by
        have : ¬ L < 6 * k + 6 := fun z => c24 ((sub6 hL3 hk5).mpr z)
        omega
      refine a_aload_n (pc := 27) dL_law_27 rfl rfl ?_
      refine a_iload_n (pc := 28) dL_law_28 rfl rfl ?_
      refine a_sld (pc := 29) (i := 6 * k) hC hL3 (by omega) dL_law_29 ?_
      refine a_bipush (pc := 30) dL_law_30 ib_31 ?_
      refine a_iand (pc := 32) dL_law_32 ?_
      obtain ⟨v, hv, ev⟩ := and31 (xs (6 * k))
      refine a_topi ev ?_
      rcases (by omega : v = 0 ∨ v = 1 ∨ v = 2 ∨ v = 3 ∨ v = 4 ∨ v = 5 ∨ v = 6 ∨ v = 7 ∨ v = 8 ∨ v = 9 ∨ v = 10 ∨ v = 11 ∨ v = 12 ∨ v = 13 ∨ v = 14 ∨ v = 15 ∨ v = 16 ∨ v = 17 ∨ v = 18 ∨ v = 19 ∨ v = 20 ∨ v = 21 ∨ v = 22 ∨ v = 23 ∨ v = 24 ∨ v = 25 ∨ v = 26 ∨ v = 27 ∨ v = 28 ∨ v = 29 ∨ v = 30 ∨ v = 31) with rfl | rfl | rfl | rfl | rfl | rfl | rfl | rfl | rfl | rfl | rfl | rfl | rfl | rfl | rfl | rfl | rfl | rfl | rfl | rfl | rfl | rfl | rfl | rfl | rfl | rfl | rfl | rfl | rfl | rfl | rfl | rfl
      · exact a_tabIn (pc := 33) (off := 139) (tgt := 172) dL_law_33 (by decide) (by decide) rfl (by decide) (law_pack hC hL3 hk6 (by omega) (by omega) hI kk)
      · exact a_tabIn (pc := 33) (off := 162) (tgt := 195) dL_law_33 (by decide) (by decide) rfl (by decide) (law_run hC hL3 hk6 (by omega) (by omega) hI kk)
      · exact a_tabIn (pc := 33) (off := 205) (tgt := 238) dL_law_33 (by decide) (by decide) rfl (by decide) (law_at hC hL3 hk6 (by omega) (by omega) hI kk)
      · exact a_tabIn (pc := 33) (off := 248) (tgt := 281) dL_law_33 (by decide) (by decide) rfl (by decide) (law_guess hC hL3 hk6 (by omega) (by omega) hI kk)
      · exact a_tabIn (pc := 33) (off := 291) (tgt := 324) dL_law_33 (by decide) (by decide) rfl (by decide) (law_slip hC hL3 hk6 (by omega) (by omega) hI kk)
      · exact a_tabIn (pc := 33) (off := 334) (tgt := 367) dL_law_33 (by decide) (by decide) rfl (by decide) (law_cut hC hL3 hk6 (by omega) (by omega) hI kk)
      · exact a_tabIn (pc := 33) (off := 367) (tgt := 400) dL_law_33 (by decide) (by decide) rfl (by decide) (law_shuffle hC hL3 hk6 (by omega) (by omega) hI kk)
      · exact a_tabIn (pc := 33) (off := 400) (tgt := 433) dL_law_33 (by decide) (by decide) rfl (by decide) (law_told hC hL3 hk6 (by omega) (by omega) hI kk)
      · exact a_tabIn (pc := 33) (off := 433) (tgt := 466) dL_law_33 (by decide) (by decide) rfl (by decide) (law_exact hC hL3 hk6 (by omega) (by omega) hI kk)
      · exact a_tabIn (pc := 33) (off := 477) (tgt := 510) dL_law_33 (by decide) (by decide) rfl (by decide) (law_leak hC hL3 hk6 (by omega) (by omega) hI kk)
      · exact a_tabIn (pc := 33) (off := 520) (tgt := 553) dL_law_33 (by decide) (by decide) rfl (by decide) (law_shut hC hL3 hk6 (by omega) (by omega) hI kk)
      · exact a_tabIn (pc := 33) (off := 553) (tgt := 586) dL_law_33 (by decide) (by decide) rfl (by decide) (law_gives hC hL3 hk6 (by omega) (by omega) hI kk)
      · exact a_tabIn (pc := 33) (off := 586) (tgt := 619) dL_law_33 (by decide) (by decide) rfl (by decide) (law_counts hC hL3 hk6 (by omega) (by omega) hI kk)
      · exact a_tabIn (pc := 33) (off := 609) (tgt := 642) dL_law_33 (by decide) (by decide) rfl (by decide) (law_screen hC hL3 hk6 (by omega) (by omega) hI kk)
      · exact a_tabIn (pc := 33) (off := 642) (tgt := 675) dL_law_33 (by decide) (by decide) rfl (by decide) (law_plan hC hL3 hk6 (by omega) (by omega) hI kk)
      · exact a_tabIn (pc := 33) (off := 675) (tgt := 708) dL_law_33 (by decide) (by decide) rfl (by decide) (law_weighs hC hL3 hk6 (by omega) (by omega) hI kk)
      · exact a_tabIn (pc := 33) (off := 698) (tgt := 731) dL_law_33 (by decide) (by decide) rfl (by decide) (law_feed hC hL3 hk6 (by omega) (by omega) hI kk)
      · exact a_tabIn (pc := 33) (off := 761) (tgt := 794) dL_law_33 (by decide) (by decide) rfl (by decide) (law_text hC hL3 hk6 (by omega) (by omega) hI kk)
      · exact a_tabIn (pc := 33) (off := 774) (tgt := 807) dL_law_33 (by decide) (by decide) rfl (by decide) (law_force hC hL3 hk6 (by omega) (by omega) hI kk)
      · exact a_tabIn (pc := 33) (off := 797) (tgt := 830) dL_law_33 (by decide) (by decide) rfl (by decide) (law_series hC hL3 hk6 (by omega) (by omega) hI kk)
      · exact a_tabIn (pc := 33) (off := 841) (tgt := 874) dL_law_33 (by decide) (by decide) rfl (by decide) (law_best hC hL3 hk6 (by omega) (by omega) hI kk)
      · exact a_tabIn (pc := 33) (off := 864) (tgt := 897) dL_law_33 (by decide) (by decide) rfl (by decide) (law_falls hC hL3 hk6 (by omega) (by omega) hI kk)
      · exact a_tabIn (pc := 33) (off := 908) (tgt := 941) dL_law_33 (by decide) (by decide) rfl (by decide) (law_mixed hC hL3 hk6 (by omega) (by omega) hI kk)
      · exact a_tabIn (pc := 33) (off := 951) (tgt := 984) dL_law_33 (by decide) (by decide) rfl (by decide) (law_image hC hL3 hk6 (by omega) (by omega) hI kk)
      · exact a_tabIn (pc := 33) (off := 964) (tgt := 997) dL_law_33 (by decide) (by decide) rfl (by decide) (law_back hC hL3 hk6 (by omega) (by omega) hI kk)
      · exact a_tabIn (pc := 33) (off := 977) (tgt := 1010) dL_law_33 (by decide) (by decide) rfl (by decide) (law_count hC hL3 hk6 (by omega) (by omega) hI kk)
      · exact a_tabIn (pc := 33) (off := 1000) (tgt := 1033) dL_law_33 (by decide) (by decide) rfl (by decide) (law_sheet hC hL3 hk6 (by omega) (by omega) hI kk)
      · exact a_tabIn (pc := 33) (off := 1043) (tgt := 1076) dL_law_33 (by decide) (by decide) rfl (by decide) (law_cell hC hL3 hk6 (by omega) (by omega) hI kk)
      · exact a_tabIn (pc := 33) (off := 1086) (tgt := 1119) dL_law_33 (by decide) (by decide) rfl (by decide) (law_copy hC hL3 hk6 (by omega) (by omega) hI kk)
      · exact a_tabIn (pc := 33) (off := 1149) (tgt := 1182) dL_law_33 (by decide) (by decide) rfl (by decide) (law_runs hC hL3 hk6 (by omega) (by omega) hI kk)
      · exact a_tabIn (pc := 33) (off := 1202) (tgt := 1235) dL_law_33 (by decide) (by decide) rfl (by decide) (law_taken hC hL3 hk6 (by omega) (by omega) hI kk)
      · exact a_tabOut (pc := 33) (tgt := 1268) dL_law_33 (by decide) (by decide) (a_wid (by omega) (by omega) (kk t σ h hI))
set_option maxRecDepth 4000 in
theorem law_entry {nm ds : String} (hC : LC M b L xs) (hL3 : L ≤ 3072) (fin : ∀ (h : AH) (uc us : Nat), uc ≤ 500000 → us ≤ 7000000 → AJ X M ⟨RL, nm, ds⟩ cL_law 4 ret 1275 [] [.int (nI 1)] h uc us) : AJ X M ⟨RL, nm, ds⟩ cL_law 4 ret 0 [(0, .ref b)] [] (fun _ => none) 0 0 := by
  refine a_new (pc := 0) kn_L_7 dL_law_0 (by rw [hC.1]; exact Nat.le_of_ble_eq_true rfl) (by rw [hC.1]; exact Nat.le_of_ble_eq_true rfl) (fun x0 hx0 => ?_)
  refine a_dup (pc := 3) dL_law_3 rfl ?_
  refine a_callI (pc := 4) km_L_9 dL_law_4 (f_cnew kput_eq) rfl rfl (rok_law hC (by decide) (by decide) (by omega) (by omega)) (Nat.le_of_ble_eq_true rfl) (fun r4 h4 hp4 => ?_)
  obtain ⟨rfl, σ, z, hB⟩ := hp4
  refine a_astore_n (pc := 7) dL_law_7 rfl (by decide) rfl ?_
  refine a_new (pc := 8) kn_L_10 dL_law_8 (by rw [hC.1]; exact Nat.le_of_ble_eq_true rfl) (by rw [hC.1]; exact Nat.le_of_ble_eq_true rfl) (fun r0 hr0 => ?_)
  refine a_dup (pc := 11) dL_law_11 rfl ?_
  refine a_callI (pc := 12) km_L_12 dL_law_12 (f_init (kput_eq.trans (by rw [fP_0]))) rfl rfl (rok_law hC (by decide) (by decide) (by omega) (by omega)) (Nat.le_of_ble_eq_true rfl) (fun r12 h12 hp12 => ?_)
  obtain ⟨rfl, m, s, hm65, hm, rfl, hBg, hfr⟩ := hp12
  subst hm65
  have hI := li_0 hm (hB s hBg).1 hr0 hfr hBg z
  refine a_astore_n (pc := 15) dL_law_15 rfl (by decide) rfl ?_
  refine a_iconst (pc := 16) dL_law_16 ic_0 ?_
  refine a_istore_n (pc := 17) dL_law_17 rfl (by decide) rfl ?_
  exact a_wid (by omega) (by omega) (a_locR (law_loop hC hL3 fin _ 0 s σ _ rfl (Nat.zero_le _) hI) ⟨rfl, rfl, rfl, rfl, trivial⟩)
end LWP

/-! THE CLASS: A LEAK MORE, A SCREEN MORE -/
theorem lof_0 {k : Nat} (h : lof k = 0) : k = 15 ∨ k = 16 := by
  match k, h with
  | 0, h => exact absurd h (by decide)
  | 1, h => exact absurd h (by decide)
  | 2, h => exact absurd h (by decide)
  | 3, h => exact absurd h (by decide)
  | 4, h => exact absurd h (by decide)
  | 5, h => exact absurd h (by decide)
  | 6, h => exact absurd h (by decide)
  | 7, h => exact absurd h (by decide)
  | 8, h => exact absurd h (by decide)
  | 9, h => exact absurd h (by decide)
  | 10, h => exact absurd h (by decide)
  | 11, h => exact absurd h (by decide)
  | 12, h => exact absurd h (by decide)
  | 13, h => exact absurd h (by decide)
  | 14, h => exact absurd h (by decide)
  | 15, _ => exact Or.inl rfl
  | 16, _ => exact Or.inr (rfl)
  | 17, h => exact absurd h (by decide)
  | 18, h => exact absurd h (by decide)
  | 19, h => exact absurd h (by decide)
  | 20, h => exact absurd h (by decide)
  | 21, h => exact absurd h (by decide)
  | 22, h => exact absurd h (by decide)
  | 23, h => exact absurd h (by decide)
  | 24, h => exact absurd h (by decide)
  | 25, h => exact absurd h (by decide)
  | 26, h => exact absurd h (by decide)
  | 27, h => exact absurd h (by decide)
  | 28, h => exact absurd h (by decide)
  | 29, h => exact absurd h (by decide)
  | 30, h => exact absurd h (by decide)
  | n + 31, h => exact absurd (show 5 = 0 from h) (by decide)
theorem lof_1 {k : Nat} (h : lof k = 1) : k = 17 ∨ k = 18 ∨ k = 19 ∨ k = 20 ∨ k = 21 ∨ k = 22 ∨ k = 23 := by
  match k, h with
  | 0, h => exact absurd h (by decide)
  | 1, h => exact absurd h (by decide)
  | 2, h => exact absurd h (by decide)
  | 3, h => exact absurd h (by decide)
  | 4, h => exact absurd h (by decide)
  | 5, h => exact absurd h (by decide)
  | 6, h => exact absurd h (by decide)
  | 7, h => exact absurd h (by decide)
  | 8, h => exact absurd h (by decide)
  | 9, h => exact absurd h (by decide)
  | 10, h => exact absurd h (by decide)
  | 11, h => exact absurd h (by decide)
  | 12, h => exact absurd h (by decide)
  | 13, h => exact absurd h (by decide)
  | 14, h => exact absurd h (by decide)
  | 15, h => exact absurd h (by decide)
  | 16, h => exact absurd h (by decide)
  | 17, _ => exact Or.inl rfl
  | 18, _ => exact Or.inr (Or.inl rfl)
  | 19, _ => exact Or.inr (Or.inr (Or.inl rfl))
  | 20, _ => exact Or.inr (Or.inr (Or.inr (Or.inl rfl)))
  | 21, _ => exact Or.inr (Or.inr (Or.inr (Or.inr (Or.inl rfl))))
  | 22, _ => exact Or.inr (Or.inr (Or.inr (Or.inr (Or.inr (Or.inl rfl)))))
  | 23, _ => exact Or.inr (Or.inr (Or.inr (Or.inr (Or.inr (Or.inr (rfl))))))
  | 24, h => exact absurd h (by decide)
  | 25, h => exact absurd h (by decide)
  | 26, h => exact absurd h (by decide)
  | 27, h => exact absurd h (by decide)
  | 28, h => exact absurd h (by decide)
  | 29, h => exact absurd h (by decide)
  | 30, h => exact absurd h (by decide)
  | n + 31, h => exact absurd (show 5 = 1 from h) (by decide)
theorem lof_2 {k : Nat} (h : lof k = 2) : k = 24 := by
  match k, h with
  | 0, h => exact absurd h (by decide)
  | 1, h => exact absurd h (by decide)
  | 2, h => exact absurd h (by decide)
  | 3, h => exact absurd h (by decide)
  | 4, h => exact absurd h (by decide)
  | 5, h => exact absurd h (by decide)
  | 6, h => exact absurd h (by decide)
  | 7, h => exact absurd h (by decide)
  | 8, h => exact absurd h (by decide)
  | 9, h => exact absurd h (by decide)
  | 10, h => exact absurd h (by decide)
  | 11, h => exact absurd h (by decide)
  | 12, h => exact absurd h (by decide)
  | 13, h => exact absurd h (by decide)
  | 14, h => exact absurd h (by decide)
  | 15, h => exact absurd h (by decide)
  | 16, h => exact absurd h (by decide)
  | 17, h => exact absurd h (by decide)
  | 18, h => exact absurd h (by decide)
  | 19, h => exact absurd h (by decide)
  | 20, h => exact absurd h (by decide)
  | 21, h => exact absurd h (by decide)
  | 22, h => exact absurd h (by decide)
  | 23, h => exact absurd h (by decide)
  | 24, _ => exact rfl
  | 25, h => exact absurd h (by decide)
  | 26, h => exact absurd h (by decide)
  | 27, h => exact absurd h (by decide)
  | 28, h => exact absurd h (by decide)
  | 29, h => exact absurd h (by decide)
  | 30, h => exact absurd h (by decide)
  | n + 31, h => exact absurd (show 5 = 2 from h) (by decide)
theorem lof_3 {k : Nat} (h : lof k = 3) : k = 25 := by
  match k, h with
  | 0, h => exact absurd h (by decide)
  | 1, h => exact absurd h (by decide)
  | 2, h => exact absurd h (by decide)
  | 3, h => exact absurd h (by decide)
  | 4, h => exact absurd h (by decide)
  | 5, h => exact absurd h (by decide)
  | 6, h => exact absurd h (by decide)
  | 7, h => exact absurd h (by decide)
  | 8, h => exact absurd h (by decide)
  | 9, h => exact absurd h (by decide)
  | 10, h => exact absurd h (by decide)
  | 11, h => exact absurd h (by decide)
  | 12, h => exact absurd h (by decide)
  | 13, h => exact absurd h (by decide)
  | 14, h => exact absurd h (by decide)
  | 15, h => exact absurd h (by decide)
  | 16, h => exact absurd h (by decide)
  | 17, h => exact absurd h (by decide)
  | 18, h => exact absurd h (by decide)
  | 19, h => exact absurd h (by decide)
  | 20, h => exact absurd h (by decide)
  | 21, h => exact absurd h (by decide)
  | 22, h => exact absurd h (by decide)
  | 23, h => exact absurd h (by decide)
  | 24, h => exact absurd h (by decide)
  | 25, _ => exact rfl
  | 26, h => exact absurd h (by decide)
  | 27, h => exact absurd h (by decide)
  | 28, h => exact absurd h (by decide)
  | 29, h => exact absurd h (by decide)
  | 30, h => exact absurd h (by decide)
  | n + 31, h => exact absurd (show 5 = 3 from h) (by decide)
theorem lof_4 {k : Nat} (h : lof k = 4) : k = 26 ∨ k = 27 ∨ k = 28 ∨ k = 29 := by
  match k, h with
  | 0, h => exact absurd h (by decide)
  | 1, h => exact absurd h (by decide)
  | 2, h => exact absurd h (by decide)
  | 3, h => exact absurd h (by decide)
  | 4, h => exact absurd h (by decide)
  | 5, h => exact absurd h (by decide)
  | 6, h => exact absurd h (by decide)
  | 7, h => exact absurd h (by decide)
  | 8, h => exact absurd h (by decide)
  | 9, h => exact absurd h (by decide)
  | 10, h => exact absurd h (by decide)
  | 11, h => exact absurd h (by decide)
  | 12, h => exact absurd h (by decide)
  | 13, h => exact absurd h (by decide)
  | 14, h => exact absurd h (by decide)
  | 15, h => exact absurd h (by decide)
  | 16, h => exact absurd h (by decide)
  | 17, h => exact absurd h (by decide)
  | 18, h => exact absurd h (by decide)
  | 19, h => exact absurd h (by decide)
  | 20, h => exact absurd h (by decide)
  | 21, h => exact absurd h (by decide)
  | 22, h => exact absurd h (by decide)
  | 23, h => exact absurd h (by decide)
  | 24, h => exact absurd h (by decide)
  | 25, h => exact absurd h (by decide)
  | 26, _ => exact Or.inl rfl
  | 27, _ => exact Or.inr (Or.inl rfl)
  | 28, _ => exact Or.inr (Or.inr (Or.inl rfl))
  | 29, _ => exact Or.inr (Or.inr (Or.inr (rfl)))
  | 30, h => exact absurd h (by decide)
  | n + 31, h => exact absurd (show 5 = 4 from h) (by decide)
section CPJ
variable {X : KX} {h : AH} {s : MST} {σ : Nat → Nat → Nat}
set_option maxRecDepth 4000 in
theorem f_add0 {a v : Nat} {md : Int32} (hov : objAt h v) (ha : h a = some (kO 13 [.int md, .ref (X.2.2.2.1 2), .int (nI 0)])) : Fn X 6 1 22 yJx4a65c_add_9ea2d cJx4a65c_add_9ea2d 2 (some .boolean) [.ref a, .ref v] h (fun rv hv => rv = some (.int (nI 1)) ∧ ∃ (md2 : Int32) (e2 cap2 : Nat) (F2 : Nat → Option Nat), h e2 = none ∧ hv = kput (kput h e2 (kQ 2 cap2 F2)) a (kO 13 [.int md2, .ref e2, .int (nI (0 + 1))]) ∧ (cap2 = 10 ∨ cap2 = 15 ∨ cap2 = 22) ∧ 0 + 1 ≤ cap2 ∧ e2 ≠ a ∧ F2 0 = some v) := by
  refine fn_of (by decide) (Nat.le_of_ble_eq_true rfl) (fun M hM => ?_)
  refine a_aload_n (pc := 0) dJx4a65c_add_9ea2d_0 rfl rfl ?_
  refine a_dup (pc := 1) dJx4a65c_add_9ea2d_1 rfl ?_
  refine a_getfield (pc := 2) kg_Jx4a65c_63 dJx4a65c_add_9ea2d_2 (ha) rfl ?_
  refine a_iconst (pc := 5) dJx4a65c_add_9ea2d_5 ic_1 ?_
  refine a_iadd (pc := 6) dJx4a65c_add_9ea2d_6 ?_
  refine a_putfield (pc := 7) kf_Jx4a65c_63 dJx4a65c_add_9ea2d_7 (ha) (rfl) (by rfl) (Nat.le_of_ble_eq_true rfl) ?_
  refine a_aload_n (pc := 10) dJx4a65c_add_9ea2d_10 rfl rfl ?_
  refine a_aload_n (pc := 11) dJx4a65c_add_9ea2d_11 rfl rfl ?_
  refine a_aload_n (pc := 12) dJx4a65c_add_9ea2d_12 rfl rfl ?_
  refine a_getfield (pc := 13) kg_Jx4a65c_9 dJx4a65c_add_9ea2d_13 (kput_eq) rfl ?_
  refine a_aload_n (pc := 16) dJx4a65c_add_9ea2d_16 rfl rfl ?_
  refine a_getfield (pc := 17) kg_Jx4a65c_48 dJx4a65c_add_9ea2d_17 (kput_eq) rfl ?_
  refine a_callV (pc := 20) km_Jx4a65c_131 dJx4a65c_add_9ea2d_20 (f_add3F (h := (kput h a (kO 13 [.int (md + nI 1), .ref (X.2.2.2.1 2), .int (nI 0)]))) (md := md + nI 1) (F := fun _ => none) hov.put2 kput_eq) rfl rfl (krecv_of (by rfl) kput_eq) (rok_of hM (by decide) (by decide) (by omega) (by omega)) (Nat.le_of_ble_eq_true rfl) (fun r20 h20 hp20 => ?_)
  obtain ⟨rfl, e2, cap2, F2, hee, rfl, hc2, hn2, hne, hFi, hF2⟩ := hp20
  refine a_iconst (pc := 23) dJx4a65c_add_9ea2d_23 ic_1 ?_
  refine a_ret_i (pc := 24) hM rfl (by decide +kernel) dJx4a65c_add_9ea2d_24 (by omega) (by omega) ?_
  exact ⟨rfl, md + nI 1, e2, cap2, F2, (kput_ne hne).symm.trans hee, by rw [kput_fin2 hne], hc2, hn2, hne, hF2⟩

theorem c_el (hI : CI X σ s h) {i0 i : Nat} (h5 : i0 < 5) (hi : i < lsz s i0) : objAt h (σ (lek i0) i) := by
  rcases (by omega : i0 = 0 ∨ i0 = 1 ∨ i0 = 2 ∨ i0 = 3 ∨ i0 = 4) with rfl | rfl | rfl | rfl | rfl
  · have hi : i < vI s 10 := hi
    obtain ⟨e, he, hc⟩ := hI.2 15 i hi
    have hc : e = kO 3 [.ref (σ 16 i), .int (s.2.1 9 i)] := hc
    subst hc
    exact ⟨3, _, _, rfl, he⟩
  · have hi : i < vI s 18 := hi
    obtain ⟨ks, kp, f, g, h1, -⟩ := c_run2 hI hi
    exact ⟨5, _, _, rfl, h1⟩
  · have hi : i < vI s 28 := hi
    obtain ⟨w, h1, -⟩ := c_lk2 hI hi
    exact ⟨1, _, _, rfl, h1⟩
  · have hi : i < vI s 31 := hi
    obtain ⟨e, he, hc⟩ := hI.2 25 i hi
    have hc : e = kO 6 [.int (s.2.1 29 i), .int (s.2.1 30 i)] := hc
    subst hc
    exact ⟨6, _, _, rfl, he⟩
  · have hi : i < vI s 3 := hi
    obtain ⟨e, he, hc⟩ := hI.2 26 i hi
    have hc : e = kO 9 [.ref (σ 27 i), .ref (σ 28 i), .ref (σ 29 i)] := hc
    subst hc
    exact ⟨9, _, _, rfl, he⟩
/-- adding to one of the class's lists -/
theorem f_app {i0 v : Nat} (hI : CI X σ s h) (h5 : i0 < 5) (hov : objAt h v) (hn15 : lsz s i0 ≤ 15) : Fn X 6 1 22 yJx4a65c_add_9ea2d cJx4a65c_add_9ea2d 2 (some .boolean) [.ref (σ 1 i0), .ref v] h (fun rv hv => rv = some (.int (nI 1)) ∧ ∃ (md2 : Int32) (e2 cap2 : Nat) (F2 : Nat → Option Nat), ((0 < lsz s i0 ∧ e2 = σ 30 i0) ∨ h e2 = none) ∧ hv = kput (kput h e2 (kQ 2 cap2 F2)) (σ 1 i0) (kO 13 [.int md2, .ref e2, .int (nI (lsz s i0 + 1))]) ∧ (cap2 = 10 ∨ cap2 = 15 ∨ cap2 = 22) ∧ lsz s i0 + 1 ≤ cap2 ∧ (∀ i, i < lsz s i0 → F2 i = some (σ (lek i0) i)) ∧ F2 (lsz s i0) = some v) := by
  by_cases q : lsz s i0 = 0
  · obtain ⟨e, he, md, hc⟩ := hI.2 1 i0 h5
    rw [if_pos q, q] at hc
    rw [hc] at he
    refine (f_add0 hov he).imp (fun rv hv hp => ?_)
    obtain ⟨hr, md2, e2, cap2, F2, hee, hv2, hc2, hn2, hne, hF2⟩ := hp
    rw [q]
    exact ⟨hr, md2, e2, cap2, F2, Or.inr hee, hv2, hc2, hn2, fun i hi => absurd hi (Nat.not_lt_zero i), hF2⟩
  · have hL := c_LR hI h5
    rw [if_neg q] at hL
    refine (f_add hov hL (fun i hi => c_el hI h5 hi) hn15).imp (fun rv hv hp => ?_)
    obtain ⟨hr, md2, e2, cap2, F2, hee, hv2, hc2, hn2, hne, hF1, hF2⟩ := hp
    exact ⟨hr, md2, e2, cap2, F2, hee.elim (fun z => Or.inl ⟨Nat.pos_of_ne_zero q, z.1⟩) Or.inr, hv2, hc2, hn2, hF1, hF2⟩
section LKS
variable {a b c : Int32}
theorem nl_1 {j : Nat} (hj : j ≠ 28) : (N_leak s a b c).1 j = s.1 j := si_n hj
theorem nl_28 : vI (N_leak s a b c) 28 = (nI (vI s 28 + 1)).toNatClampNeg := congrArg Int32.toNatClampNeg si_e
theorem nl_a {j : Nat} (h1 : j ≠ 24) (h2 : j ≠ 25) (h3 : j ≠ 26) (h4 : j ≠ 27) : (N_leak s a b c).2.1 j = s.2.1 j := by unfold N_leak; rw [si_2, sa_n h4, sa_n h3, sa_n h2, sa_n h1]
theorem nl_24 : (N_leak s a b c).2.1 24 = upd (s.2.1 24) (vI s 28) a := by unfold N_leak; rw [si_2, sa_n (by decide), sa_n (by decide), sa_n (by decide), sa_e]
theorem nl_25 : (N_leak s a b c).2.1 25 = upd (s.2.1 25) (vI s 28) b := by unfold N_leak; rw [si_2, sa_n (by decide), sa_n (by decide), sa_e]
theorem nl_26 : (N_leak s a b c).2.1 26 = upd (s.2.1 26) (vI s 28) c := by unfold N_leak; rw [si_2, sa_n (by decide), sa_e]
theorem nl_27 : (N_leak s a b c).2.1 27 = upd (s.2.1 27) (vI s 28) (nI 0) := by unfold N_leak; rw [si_2, sa_e]
theorem SQ_leak : SQ s (N_leak s a b c) := by
  refine ⟨fun j hj => nl_1 (by revert hj; revert j; decide), fun q hq => nl_a (by revert hq; revert q; decide) (by revert hq; revert q; decide) (by revert hq; revert q; decide) (by revert hq; revert q; decide), fun i hi => ⟨?_, fun j hj => ?_⟩, fun i hi => ⟨fun q hq => ?_, ?_, fun j hj => ?_⟩, fun i hi q hq => ?_, fun i hi => ?_, fun i hi => ?_⟩
  · rw [nl_a (by decide) (by decide) (by decide) (by decide)]
  · rw [nl_a (by decide) (by decide) (by decide) (by decide)]
  · rw [nl_a (by revert hq; revert q; decide) (by revert hq; revert q; decide) (by revert hq; revert q; decide) (by revert hq; revert q; decide)]
  · exact rsz_cg (nl_a (by decide) (by decide) (by decide) (by decide)) (nl_a (by decide) (by decide) (by decide) (by decide)) i
  · rw [nl_a (by decide) (by decide) (by decide) (by decide), nl_a (by decide) (by decide) (by decide) (by decide)]
    exact ⟨rfl, rfl⟩
  · have hin : i ≠ vI s 28 := by omega
    have hq : q = 24 ∨ q = 25 ∨ q = 26 ∨ q = 27 := by simpa using hq
    rcases hq with rfl | rfl | rfl | rfl
    · rw [nl_24, pk_un hin]
    · rw [nl_25, pk_un hin]
    · rw [nl_26, pk_un hin]
    · rw [nl_27, pk_un hin]
  · rw [nl_a (by decide) (by decide) (by decide) (by decide), nl_a (by decide) (by decide) (by decide) (by decide)]
    exact ⟨rfl, rfl⟩
  · exact txE_cg (nl_a (by decide) (by decide) (by decide) (by decide)) (nl_a (by decide) (by decide) (by decide) (by decide)) i
theorem app_leak {e2 cap2 x : Nat} {F2 : Nat → Option Nat} {md2 : Int32} (hI : CI X σ s h) (hV : MV s) (hx : h x = none) (h10 : vI s 28 < 10) (he : (0 < lsz s 2 ∧ e2 = σ 30 2) ∨ kput h x (kO 1 [.int a, .int b, .int c, .int 0, .int 0]) e2 = none) (hc2 : cap2 = 10 ∨ cap2 = 15 ∨ cap2 = 22) (hn2 : lsz s 2 + 1 ≤ cap2) (hF1 : ∀ i, i < lsz s 2 → F2 i = some (σ (lek 2) i)) (hF2 : F2 (lsz s 2) = some x) : CE X σ s h (N_leak s a b c) (kput (kput (kput h x (kO 1 [.int a, .int b, .int c, .int 0, .int 0])) e2 (kQ 2 cap2 F2)) (σ 1 2) (kO 13 [.int md2, .ref e2, .int (nI (lsz s 2 + 1))])) := by
  have e28 : vI (N_leak s a b c) 28 = vI s 28 + 1 := nl_28.trans (nI_clamp (by omega))
  refine CI.app (A := fun _ => x) hI (MV.pk hV) (CI.new hI hx).2.1 (fun q hq => kput_ne (fun z => hq (by rw [z]; exact hx))) SQ_leak (by decide) (show lsz (N_leak s a b c) 2 = lsz s 2 + 1 from e28) (fun i hi h5 => ?_) (fun k hk => ⟨hx, _, kput_eq, ?_⟩) (fun k k' hk hk' _ => ?_) he hc2 hn2 hF1 hF2
  · rcases (by omega : i = 0 ∨ i = 1 ∨ i = 3 ∨ i = 4) with rfl | rfl | rfl | rfl
    · exact congrArg Int32.toNatClampNeg (nl_1 (by decide))
    · exact congrArg Int32.toNatClampNeg (nl_1 (by decide))
    · exact congrArg Int32.toNatClampNeg (nl_1 (by decide))
    · exact congrArg Int32.toNatClampNeg (nl_1 (by decide))
  · have hk : k = 24 := lof_2 hk
    subst hk
    refine ⟨false, ?_, fun y1 y2 => ?_⟩
    · rw [nl_24, nl_25, nl_26, nl_27]
      show _ = kO 1 [.int (upd (s.2.1 24) (vI s 28) a (vI s 28)), .int (upd (s.2.1 25) (vI s 28) b (vI s 28)), .int (upd (s.2.1 26) (vI s 28) c (vI s 28)), .int (upd (s.2.1 27) (vI s 28) (nI 0) (vI s 28)), .int (bI false)]
      rw [pk_us, pk_us, pk_us, pk_us]
      rfl
    · have y1 : (N_leak s a b c).1 57 = nI 1 := y1
      rw [nl_1 (by decide)] at y1
      have y2 : vI s 28 < vI (N_leak s a b c) 59 := y2
      have e59 : vI (N_leak s a b c) 59 = vI s 59 := congrArg Int32.toNatClampNeg (nl_1 (by decide))
      have hm : vI s 59 ≤ vI s 28 := (hV.2.2.2.2.1.2 y1).2.1.2
      omega
  · rw [lof_2 hk, lof_2 hk']
end LKS
set_option maxRecDepth 4000 in
theorem f_cleak (hI : CI X σ s h) (hV : MV s) (x y z : Int32) : Fn X 7 2 60 yX11_leak cX11_leak 4 (some .int) [.ref (σ 0 0), .int x, .int y, .int z] h (fun rv hv => rv = some (.int (R_leak s x y z).1) ∧ CE X σ s h (R_leak s x y z).2 hv) := by
  have b10 : vI s 10 ≤ 4 := hV.1.1.2
  have b18 : vI s 18 ≤ 16 := hV.2.1.1.2
  have b28 : vI s 28 ≤ 10 := hV.2.2.1.1.2
  have b31 : vI s 31 ≤ 6 := hV.2.2.2.1.1.2
  have b3 : vI s 3 ≤ 6 := hV.2.2.2.2.2.2.1.1.2
  refine fn_of (by decide) (Nat.le_of_ble_eq_true rfl) (fun M hM => ?_)
  refine a_iload_n (pc := 0) dX11_leak_0 rfl rfl ?_
  refine a_bipush (pc := 1) dX11_leak_1 ib_6 ?_
  refine a_callS (pc := 3) km_X11_103 dX11_leak_3 (f_among x (by decide)) rfl rfl (rok_of hM (by decide) (by decide) (by omega) (by omega)) (Nat.le_of_ble_eq_true rfl) (fun r3 h3 hp3 => ?_)
  obtain ⟨rfl, rfl⟩ := And.intro hp3.1 hp3.2.symm
  refine a_if_eqB (pc := 6) (tgt := 27) dX11_leak_6 (by decide) (fun c6 => ?_) (fun c6 => ?_)
  · have e : R_leak s x y z = (-2, s) := by unfold R_leak; rw [c6]; rfl
    refine a_bipush (pc := 27) dX11_leak_27 ib_m2 ?_
    refine a_ret_i (pc := 29) hM rfl (rfl) dX11_leak_29 (by omega) (by omega) ?_
    exact pubI e rfl (CS.rf hI).ce
  · refine a_iload_n (pc := 9) dX11_leak_9 rfl rfl ?_
    refine a_iconst (pc := 10) dX11_leak_10 ic_0 ?_
    refine a_bipush (pc := 11) dX11_leak_11 ib_25 ?_
    refine a_callS (pc := 13) km_X11_86 dX11_leak_13 (f_withN y (by decide) (by decide)) rfl rfl (rok_of hM (by decide) (by decide) (by omega) (by omega)) (Nat.le_of_ble_eq_true rfl) (fun r13 h13 hp13 => ?_)
    obtain ⟨rfl, rfl⟩ := And.intro hp13.1 hp13.2.symm
    refine a_if_eqB (pc := 16) (tgt := 27) dX11_leak_16 (by decide) (fun c16 => ?_) (fun c16 => ?_)
    · have c16 : inN y 26 = false := by rw [← inR_N]; exact c16
      have e : R_leak s x y z = (-2, s) := by unfold R_leak; rw [c6, c16]; rfl
      refine a_bipush (pc := 27) dX11_leak_27 ib_m2 ?_
      refine a_ret_i (pc := 29) hM rfl (rfl) dX11_leak_29 (by omega) (by omega) ?_
      exact pubI e rfl (CS.rf hI).ce
    · have c16 : inN y 26 = true := by rw [← inR_N]; exact c16
      refine a_iload_n (pc := 19) dX11_leak_19 rfl rfl ?_
      refine a_iconst (pc := 20) dX11_leak_20 ic_5 ?_
      refine a_callS (pc := 21) km_X11_103 dX11_leak_21 (f_among z (by decide)) rfl rfl (rok_of hM (by decide) (by decide) (by omega) (by omega)) (Nat.le_of_ble_eq_true rfl) (fun r21 h21 hp21 => ?_)
      obtain ⟨rfl, rfl⟩ := And.intro hp21.1 hp21.2.symm
      refine a_if_neB (pc := 24) (tgt := 30) dX11_leak_24 (by decide) (fun c24 => ?_) (fun c24 => ?_)
      · have e : R_leak s x y z = (nI (vI s 28), N_leak s x y z) ∨ vI s 28 = 10 := by unfold R_leak; rw [c6, c16, c24]; exact (Decidable.em (vI s 28 = 10)).elim Or.inr (fun q => Or.inl ((if_pos rfl).trans (if_neg q)))
        refine a_aload_n (pc := 30) dX11_leak_30 rfl rfl ?_
        refine a_getfield (pc := 31) kg_X11_19 dX11_leak_31 (c_fc hI) rfl ?_
        refine a_callV (pc := 34) km_X11_97 dX11_leak_34 (w_size hI (i := 2) (by decide)) rfl rfl (kr_l hI (i := 2) (by decide)) (rok_of hM (by decide) (by decide) (by omega) (by omega)) (Nat.le_of_ble_eq_true rfl) (fun r34 h34 hp34 => ?_)
        obtain ⟨rfl, rfl⟩ := And.intro hp34.1 hp34.2.symm
        refine a_topi (show _ = nI (vI s 28) from rfl) ?_
        refine a_bipush (pc := 37) dX11_leak_37 ib_10 ?_
        refine a_icmp_ltN (pc := 39) (tgt := 45) dX11_leak_39 (by decide) (by omega) (by omega) (fun c39 => ?_) (fun c39 => ?_)
        · have h10 : vI s 28 < 10 := c39
          refine a_aload_n (pc := 45) dX11_leak_45 rfl rfl ?_
          refine a_getfield (pc := 46) kg_X11_19 dX11_leak_46 (c_fc hI) rfl ?_
          refine a_new (pc := 49) kn_X11_194 dX11_leak_49 (by rw [hM.1]; simp only [rmd]; omega) (by rw [hM.1]; simp only [rmd]; omega) (fun x0 hx0 => ?_)
          refine a_dup (pc := 52) dX11_leak_52 rfl ?_
          refine a_iload_n (pc := 53) dX11_leak_53 rfl rfl ?_
          refine a_iload_n (pc := 54) dX11_leak_54 rfl rfl ?_
          refine a_iload_n (pc := 55) dX11_leak_55 rfl rfl ?_
          refine a_callI (pc := 56) km_X11_196 dX11_leak_56 (f_leInit kput_eq x y z) rfl rfl (rok_of hM (by decide) (by decide) (by omega) (by omega)) (Nat.le_of_ble_eq_true rfl) (fun r56 h56 hp56 => ?_)
          obtain ⟨rfl, rfl⟩ := And.intro hp56.1 hp56.2.symm
          refine a_hp kput_put ?_
          refine a_callV (pc := 59) km_X11_100 dX11_leak_59 (f_app (CI.new hI hx0).2.1 (i0 := 2) (by decide) ⟨1, _, _, rfl, kput_eq⟩ (show vI s 28 ≤ 15 by omega)) rfl rfl (kr_l (CI.new hI hx0).2.1 (i := 2) (by decide)) (rok_of hM (by decide) (by decide) (by omega) (by omega)) (Nat.le_of_ble_eq_true rfl) (fun r59 h59 hp59 => ?_)
          obtain ⟨rfl, md2, e2, cap2, F2, hee, rfl, hc2, hn2, hF1, hF2⟩ := hp59
          have hE := app_leak (md2 := md2) (a := x) (b := y) (c := z) hI hV hx0 h10 hee hc2 hn2 hF1 hF2
          obtain ⟨σ', z0, hI', hF'⟩ := hE
          have e28 : vI (N_leak s x y z) 28 = vI s 28 + 1 := nl_28.trans (nI_clamp (by omega))
          have fc' := c_fc hI'
          rw [z0 0 0 (by decide)] at fc'
          refine a_pop (pc := 62) dX11_leak_62 rfl ?_
          refine a_aload_n (pc := 63) dX11_leak_63 rfl rfl ?_
          refine a_getfield (pc := 64) kg_X11_19 dX11_leak_64 (fc') rfl ?_
          refine a_callV (pc := 67) km_X11_97 dX11_leak_67 (w_size hI' (i := 2) (by decide)) rfl rfl (kr_l hI' (i := 2) (by decide)) (rok_of hM (by decide) (by decide) (by omega) (by omega)) (Nat.le_of_ble_eq_true rfl) (fun r67 h67 hp67 => ?_)
          obtain ⟨rfl, rfl⟩ := And.intro hp67.1 hp67.2.symm
          refine a_topi (show _ = nI (vI s 28 + 1) from congrArg nI e28) ?_
          refine a_iconst (pc := 70) dX11_leak_70 ic_1 ?_
          refine a_isubN (pc := 71) dX11_leak_71 (by omega) ?_
          refine a_ret_i (pc := 72) hM rfl (rfl) dX11_leak_72 (by omega) (by omega) ?_
          exact pubI (e.resolve_right (by omega)) rfl ⟨σ', z0, hI', hF'⟩
        · have h10 : vI s 28 = 10 := by omega
          have e2 : R_leak s x y z = (-4, s) := by unfold R_leak; rw [c6, c16, c24]; exact (if_pos rfl).trans (if_pos h10)
          refine a_bipush (pc := 42) dX11_leak_42 ib_m4 ?_
          refine a_ret_i (pc := 44) hM rfl (rfl) dX11_leak_44 (by omega) (by omega) ?_
          exact pubI e2 rfl (CS.rf hI).ce
      · have e : R_leak s x y z = (-2, s) := by unfold R_leak; rw [c6, c16, c24]; rfl
        refine a_bipush (pc := 27) dX11_leak_27 ib_m2 ?_
        refine a_ret_i (pc := 29) hM rfl (rfl) dX11_leak_29 (by omega) (by omega) ?_
        exact pubI e rfl (CS.rf hI).ce

end CPJ

/-! THE CLASS: ITS CONSTRUCTOR -/
section CPR
variable {X : KX} {h : AH} {s : MST} {σ : Nat → Nat → Nat}
theorem u6 : vI uB 6 = 54 := by decide +kernel
theorem tape_u : tapeB uB = tcB := by
  funext i
  unfold tapeB tcB
  rw [u6]
  rfl
theorem tp_u : pBad (tapeP uB) = false := by
  unfold tapeP
  rw [tape_u, u6]
  exact tcB_ok
theorem RT_u : RTp uB := by
  refine ⟨by rw [u6]; rfl, by rw [u6]; decide, fun i hi => ?_, fun t ht => absurd (show t < 0 from ht) (Nat.not_lt_zero t), fun i hi => absurd (show i < 0 from hi) (Nat.not_lt_zero i), by decide +kernel⟩
  rw [u6] at hi
  exact sB_okd i hi
theorem S1_1 {j : Nat} (h : j ≠ 3) : (si (N_txt uB) 3 (nI (vI uB 3 + 1))).1 j = 0 := by
  rw [si_n h]
  show (if j = 6 then nI 0 else if j = 6 then nI 54 else (0 : Int32)) = 0
  by_cases q : j = 6
  · rw [if_pos q]; rfl
  · rw [if_neg q, if_neg q]
theorem S1_3 : (si (N_txt uB) 3 (nI (vI uB 3 + 1))).1 3 = nI 1 := by
  rw [si_e]
  rfl
theorem S1_a {a : Nat} (h1 : a ≠ 1) (h2 : a ≠ 2) (h5 : a ≠ 5) : (si (N_txt uB) 3 (nI (vI uB 3 + 1))).2.1 a = fun _ => 0 := by
  show (N_txt uB).2.1 a = _
  rw [nt3 h1 h2]
  unfold uB
  rw [si_2, sa_n h5]
  rfl
theorem cD_t (k : Nat) (h6 : k ≠ 6) (h27 : k ≠ 27) (h28 : k ≠ 28) (h29 : k ≠ 29) : ∀ a, a ∈ cDA k → a ≠ 1 ∧ a ≠ 2 ∧ a ≠ 5 := by
  match k with
  | 0 => decide
  | 1 => decide
  | 2 => decide
  | 3 => decide
  | 4 => decide
  | 5 => decide
  | 6 => exact absurd rfl h6
  | 7 => decide
  | 8 => decide
  | 9 => decide
  | 10 => decide
  | 11 => decide
  | 12 => decide
  | 13 => decide
  | 14 => decide
  | 15 => decide
  | 16 => decide
  | 17 => decide
  | 18 => decide
  | 19 => decide
  | 20 => decide
  | 21 => decide
  | 22 => decide
  | 23 => decide
  | 24 => decide
  | 25 => decide
  | 26 => decide
  | 27 => exact absurd rfl h27
  | 28 => exact absurd rfl h28
  | 29 => exact absurd rfl h29
  | 30 => decide
  | n + 31 => exact fun a ha => absurd ha (by show ¬ a ∈ ([] : List Nat); simp)
theorem txE_b {s : MST} (hB : Beg s) : txE s 0 = readE tbB 56 c0 := by
  obtain ⟨-, -, ⟨-, b2, b3⟩, -⟩ := hB
  have e2 : vA s 2 0 = 56 := by
    show (s.2.1 2 0).toNatClampNeg = 56
    rw [b3]
    rfl
  unfold txE
  rw [e2]
  have eb : byP s (160 * 0) 56 = tbB := by
    funext i
    unfold byP tbB
    rw [b2, Nat.mul_zero, Nat.zero_add]
  rw [eb]
theorem txE_u : txE (si (N_txt uB) 3 (nI (vI uB 3 + 1))) 0 = readE tcB 54 c0 := by
  have e := tx_new (s := uB) (s' := (si (N_txt uB) 3 (nI (vI uB 3 + 1)))) RT_u nt1 nt2
  rw [show vI uB 3 = 0 from rfl] at e
  refine e.trans ?_
  unfold tapeE
  rw [tape_u, u6]
theorem beg_ci {s : MST} (hB : Beg s) (hI : CI X σ (si (N_txt uB) 3 (nI (vI uB 3 + 1))) h) : CS X σ (si (N_txt uB) 3 (nI (vI uB 3 + 1))) h s h := by
  have e1 : ∀ j, s.1 j = (si (N_txt uB) 3 (nI (vI uB 3 + 1))).1 j := fun j => by
    by_cases q : j = 3
    · rw [q, S1_3]; exact hB.2.2.1.1
    · rw [S1_1 q]; exact hB.1 j q
  have e2 : ∀ a, a ≠ 1 → a ≠ 2 → a ≠ 5 → s.2.1 a = (si (N_txt uB) 3 (nI (vI uB 3 + 1))).2.1 a := fun a h1 h2 h5 => by
    rw [S1_a h1 h2 h5]
    funext i
    exact hB.2.1 a i h1 h2
  have tE := txE_b hB
  have tU := txE_u
  have q1 : tx1 s 0 = tx1 (si (N_txt uB) 3 (nI (vI uB 3 + 1))) 0 := by unfold tx1; rw [tE, tU, tl1]
  have q2 : tx2 s 0 = tx2 (si (N_txt uB) 3 (nI (vI uB 3 + 1))) 0 := by unfold tx2; rw [q1, tE, tU, tl2]
  have q3 : tx3 s 0 = tx3 (si (N_txt uB) 3 (nI (vI uB 3 + 1))) 0 := by unfold tx3; rw [q2, tE, tU, tl3]
  have z1 : ∀ i, i < vI (si (N_txt uB) 3 (nI (vI uB 3 + 1))) 3 → i = 0 := fun i hi => by
    have e : vI (si (N_txt uB) 3 (nI (vI uB 3 + 1))) 3 = 1 := by show ((si (N_txt uB) 3 (nI (vI uB 3 + 1))).1 3).toNatClampNeg = 1; rw [S1_3]; rfl
    rw [e] at hi
    omega
  refine CI.puts (l := []) hI (fun k i => clv_cg (fun j _ => e1 j) k i) (fun p hp => absurd hp (by simp)) (fun k i e _ hk hc => ?_)
  by_cases k6 : k = 6
  · subst k6
    obtain ⟨f, rfl, -⟩ := hc
    refine ⟨f, rfl, fun j hj => ?_⟩
    have hj : j < (s.1 6).toNatClampNeg := hj
    rw [hB.1 6 (by decide)] at hj
    exact absurd hj (Nat.not_lt_zero j)
  · by_cases k27 : k = 27
    · subst k27
      have hi := z1 i hk
      subst hi
      have hc2 : ∃ f : Nat → Int32, e = kI (tx3 (si (N_txt uB) 3 (nI (vI uB 3 + 1))) 0) f ∧ tx3 (si (N_txt uB) 3 (nI (vI uB 3 + 1))) 0 ≤ 160 ∧ cod f 0 (txE (si (N_txt uB) 3 (nI (vI uB 3 + 1))) 0).1.1.1 ∧ cod f (tx1 (si (N_txt uB) 3 (nI (vI uB 3 + 1))) 0) (txE (si (N_txt uB) 3 (nI (vI uB 3 + 1))) 0).2.1.1.1 ∧ cod f (tx2 (si (N_txt uB) 3 (nI (vI uB 3 + 1))) 0) (txE (si (N_txt uB) 3 (nI (vI uB 3 + 1))) 0).2.2.1.1 := hc
      have hf : ∃ f : Nat → Int32, e = kI (tx3 s 0) f ∧ tx3 s 0 ≤ 160 ∧ cod f 0 (txE s 0).1.1.1 ∧ cod f (tx1 s 0) (txE s 0).2.1.1.1 ∧ cod f (tx2 s 0) (txE s 0).2.2.1.1 := by
        rw [q3, q1, q2, tE, tl1, tl2, tl3]
        rw [tU] at hc2
        exact hc2
      exact hf
    · by_cases k28 : k = 28
      · subst k28
        have hi := z1 i hk
        subst hi
        have hc2 : ∃ g : Nat → Int32, e = kI 3 g ∧ g 0 = nI (tx1 (si (N_txt uB) 3 (nI (vI uB 3 + 1))) 0) ∧ g 1 = nI (tx2 (si (N_txt uB) 3 (nI (vI uB 3 + 1))) 0) ∧ g 2 = nI (tx3 (si (N_txt uB) 3 (nI (vI uB 3 + 1))) 0) := hc
        have hf : ∃ g : Nat → Int32, e = kI 3 g ∧ g 0 = nI (tx1 s 0) ∧ g 1 = nI (tx2 s 0) ∧ g 2 = nI (tx3 s 0) := by
          rw [q3, q1, q2]
          exact hc2
        exact hf
      · by_cases k29 : k = 29
        · subst k29
          have hi := z1 i hk
          subst hi
          have hc2 : ∃ f : Nat → Int32, e = kI (tx3 (si (N_txt uB) 3 (nI (vI uB 3 + 1))) 0) f := hc
          have hf : ∃ f : Nat → Int32, e = kI (tx3 s 0) f := by
            rw [q3]
            exact hc2
          exact hf
        · exact CP_cg (fun j _ => e1 j) (fun a ha => (cD_t k k6 k27 k28 k29 a ha).elim (fun a1 a2 => e2 a a1 a2.1 a2.2)) hc
theorem sg_mem {D : List Nat} (hl : D.length = 27) {k i : Nat} (hk : clv uB k i) : sgI D k i ∈ D := by
  obtain ⟨a1, a2⟩ := clvB hk
  have hx := ix_lt k a1 i a2
  unfold sgI
  rw [List.getD_eq_getElem?_getD, List.getElem?_eq_getElem (by omega)]
  exact List.getElem_mem _
set_option maxRecDepth 4000 in
theorem f_cnew {a : Nat} (ha : h a = some (kO 11 [.null, .null, .null, .null, .null, .null, .null, .null, .null, .null, .int 0, .int 0, .int 0, .int 0])) : Fn X 70 40 2000 yX11_init cX11_init 2 none [.ref a] h (fun rv hv => rv = none ∧ ∃ σ : Nat → Nat → Nat, σ 0 0 = a ∧ ∀ s, Beg s → CI X σ s hv ∧ ∀ x, h x ≠ none → x ≠ a → hv x = h x ∧ ∀ k i, clv s k i → x ≠ σ k i) := by
  refine fn_of (by decide) (Nat.le_of_ble_eq_true rfl) (fun M hM => ?_)
  refine a_hp (show h = (hL [(a, kO 11 [.null, .null, .null, .null, .null, .null, .null, .null, .null, .null, .int 0, .int 0, .int 0, .int 0])] h) from (kput_self ha).symm) ?_
  have nd0 : (([(a, kO 11 [.null, .null, .null, .null, .null, .null, .null, .null, .null, .null, .int 0, .int 0, .int 0, .int 0])] : List (Nat × kE)).map Prod.fst).Nodup := by simp
  have fr0 : ∀ x, x ∈ (([(a, kO 11 [.null, .null, .null, .null, .null, .null, .null, .null, .null, .null, .int 0, .int 0, .int 0, .int 0])] : List (Nat × kE)).map Prod.fst) → x = a ∨ h x = none := fun x hx => Or.inl (List.mem_singleton.mp hx)
  refine a_aload_n (pc := 0) dX11_init_0 rfl rfl ?_
  refine a_objInit (pc := 1) ko_X11_1 ko_im ko_co dX11_init_1 (by rw [hM.1]; simp only [rmd]; omega) (by rw [hM.1]; simp [rmd, Value.category] <;> omega) ?_
  refine a_aload_n (pc := 4) dX11_init_4 rfl rfl ?_
  refine a_new (pc := 5) kn_X11_7 dX11_init_5 (by rw [hM.1]; simp only [rmd]; omega) (by rw [hM.1]; simp only [rmd]; omega) (fun l0 hl0 => ?_)
  have nd1 := hL_nd (e := kO 13 [.int 0, .null, .int 0]) hl0 nd0
  have fr1 := hL_fr (e := kO 13 [.int 0, .null, .int 0]) hl0 fr0
  refine a_hp (show _ = (hL [(l0, kO 13 [.int 0, .null, .int 0]), (a, kO 11 [.null, .null, .null, .null, .null, .null, .null, .null, .null, .null, .int 0, .int 0, .int 0, .int 0])] h) from rfl) ?_
  refine a_dup (pc := 8) dX11_init_8 rfl ?_
  refine a_callI (pc := 9) km_X11_9 dX11_init_9 (f_linit (hL_get (j := 0) nd1 rfl)) rfl rfl (rok_of hM (by decide) (by decide) (by omega) (by omega)) (Nat.le_of_ble_eq_true rfl) (fun r9 h9 hp9 => ?_)
  obtain ⟨rfl, rfl⟩ := hp9
  refine a_hp (show _ = (hL [(l0, kO 13 [.int 0, .ref (X.2.2.2.1 2), .int 0]), (a, kO 11 [.null, .null, .null, .null, .null, .null, .null, .null, .null, .null, .int 0, .int 0, .int 0, .int 0])] h) from hL_put (j := 0) nd1 rfl) ?_
  refine a_putfieldF (pc := 12) kf_X11_10 rfl dX11_init_12 (hL_get (j := 1) nd1 rfl) (rfl) (by rfl) (Nat.le_of_ble_eq_true rfl) ?_
  refine a_hp (show _ = (hL [(l0, kO 13 [.int 0, .ref (X.2.2.2.1 2), .int 0]), (a, kO 11 [.ref l0, .null, .null, .null, .null, .null, .null, .null, .null, .null, .int 0, .int 0, .int 0, .int 0])] h) from hL_put (j := 1) nd1 rfl) ?_
  refine a_aload_n (pc := 15) dX11_init_15 rfl rfl ?_
  refine a_new (pc := 16) kn_X11_7 dX11_init_16 (by rw [hM.1]; simp only [rmd]; omega) (by rw [hM.1]; simp only [rmd]; omega) (fun l1 hl1 => ?_)
  have nd2 := hL_nd (e := kO 13 [.int 0, .null, .int 0]) hl1 nd1
  have fr2 := hL_fr (e := kO 13 [.int 0, .null, .int 0]) hl1 fr1
  refine a_hp (show _ = (hL [(l1, kO 13 [.int 0, .null, .int 0]), (l0, kO 13 [.int 0, .ref (X.2.2.2.1 2), .int 0]), (a, kO 11 [.ref l0, .null, .null, .null, .null, .null, .null, .null, .null, .null, .int 0, .int 0, .int 0, .int 0])] h) from rfl) ?_
  refine a_dup (pc := 19) dX11_init_19 rfl ?_
  refine a_callI (pc := 20) km_X11_9 dX11_init_20 (f_linit (hL_get (j := 0) nd2 rfl)) rfl rfl (rok_of hM (by decide) (by decide) (by omega) (by omega)) (Nat.le_of_ble_eq_true rfl) (fun r20 h20 hp20 => ?_)
  obtain ⟨rfl, rfl⟩ := hp20
  refine a_hp (show _ = (hL [(l1, kO 13 [.int 0, .ref (X.2.2.2.1 2), .int 0]), (l0, kO 13 [.int 0, .ref (X.2.2.2.1 2), .int 0]), (a, kO 11 [.ref l0, .null, .null, .null, .null, .null, .null, .null, .null, .null, .int 0, .int 0, .int 0, .int 0])] h) from hL_put (j := 0) nd2 rfl) ?_
  refine a_putfieldF (pc := 23) kf_X11_16 rfl dX11_init_23 (hL_get (j := 2) nd2 rfl) (rfl) (by rfl) (Nat.le_of_ble_eq_true rfl) ?_
  refine a_hp (show _ = (hL [(l1, kO 13 [.int 0, .ref (X.2.2.2.1 2), .int 0]), (l0, kO 13 [.int 0, .ref (X.2.2.2.1 2), .int 0]), (a, kO 11 [.ref l0, .ref l1, .null, .null, .null, .null, .null, .null, .null, .null, .int 0, .int 0, .int 0, .int 0])] h) from hL_put (j := 2) nd2 rfl) ?_
  refine a_aload_n (pc := 26) dX11_init_26 rfl rfl ?_
  refine a_new (pc := 27) kn_X11_7 dX11_init_27 (by rw [hM.1]; simp only [rmd]; omega) (by rw [hM.1]; simp only [rmd]; omega) (fun l2 hl2 => ?_)
  have nd3 := hL_nd (e := kO 13 [.int 0, .null, .int 0]) hl2 nd2
  have fr3 := hL_fr (e := kO 13 [.int 0, .null, .int 0]) hl2 fr2
  refine a_hp (show _ = (hL [(l2, kO 13 [.int 0, .null, .int 0]), (l1, kO 13 [.int 0, .ref (X.2.2.2.1 2), .int 0]), (l0, kO 13 [.int 0, .ref (X.2.2.2.1 2), .int 0]), (a, kO 11 [.ref l0, .ref l1, .null, .null, .null, .null, .null, .null, .null, .null, .int 0, .int 0, .int 0, .int 0])] h) from rfl) ?_
  refine a_dup (pc := 30) dX11_init_30 rfl ?_
  refine a_callI (pc := 31) km_X11_9 dX11_init_31 (f_linit (hL_get (j := 0) nd3 rfl)) rfl rfl (rok_of hM (by decide) (by decide) (by omega) (by omega)) (Nat.le_of_ble_eq_true rfl) (fun r31 h31 hp31 => ?_)
  obtain ⟨rfl, rfl⟩ := hp31
  refine a_hp (show _ = (hL [(l2, kO 13 [.int 0, .ref (X.2.2.2.1 2), .int 0]), (l1, kO 13 [.int 0, .ref (X.2.2.2.1 2), .int 0]), (l0, kO 13 [.int 0, .ref (X.2.2.2.1 2), .int 0]), (a, kO 11 [.ref l0, .ref l1, .null, .null, .null, .null, .null, .null, .null, .null, .int 0, .int 0, .int 0, .int 0])] h) from hL_put (j := 0) nd3 rfl) ?_
  refine a_putfieldF (pc := 34) kf_X11_19 rfl dX11_init_34 (hL_get (j := 3) nd3 rfl) (rfl) (by rfl) (Nat.le_of_ble_eq_true rfl) ?_
  refine a_hp (show _ = (hL [(l2, kO 13 [.int 0, .ref (X.2.2.2.1 2), .int 0]), (l1, kO 13 [.int 0, .ref (X.2.2.2.1 2), .int 0]), (l0, kO 13 [.int 0, .ref (X.2.2.2.1 2), .int 0]), (a, kO 11 [.ref l0, .ref l1, .ref l2, .null, .null, .null, .null, .null, .null, .null, .int 0, .int 0, .int 0, .int 0])] h) from hL_put (j := 3) nd3 rfl) ?_
  refine a_aload_n (pc := 37) dX11_init_37 rfl rfl ?_
  refine a_new (pc := 38) kn_X11_7 dX11_init_38 (by rw [hM.1]; simp only [rmd]; omega) (by rw [hM.1]; simp only [rmd]; omega) (fun l3 hl3 => ?_)
  have nd4 := hL_nd (e := kO 13 [.int 0, .null, .int 0]) hl3 nd3
  have fr4 := hL_fr (e := kO 13 [.int 0, .null, .int 0]) hl3 fr3
  refine a_hp (show _ = (hL [(l3, kO 13 [.int 0, .null, .int 0]), (l2, kO 13 [.int 0, .ref (X.2.2.2.1 2), .int 0]), (l1, kO 13 [.int 0, .ref (X.2.2.2.1 2), .int 0]), (l0, kO 13 [.int 0, .ref (X.2.2.2.1 2), .int 0]), (a, kO 11 [.ref l0, .ref l1, .ref l2, .null, .null, .null, .null, .null, .null, .null, .int 0, .int 0, .int 0, .int 0])] h) from rfl) ?_
  refine a_dup (pc := 41) dX11_init_41 rfl ?_
  refine a_callI (pc := 42) km_X11_9 dX11_init_42 (f_linit (hL_get (j := 0) nd4 rfl)) rfl rfl (rok_of hM (by decide) (by decide) (by omega) (by omega)) (Nat.le_of_ble_eq_true rfl) (fun r42 h42 hp42 => ?_)
  obtain ⟨rfl, rfl⟩ := hp42
  refine a_hp (show _ = (hL [(l3, kO 13 [.int 0, .ref (X.2.2.2.1 2), .int 0]), (l2, kO 13 [.int 0, .ref (X.2.2.2.1 2), .int 0]), (l1, kO 13 [.int 0, .ref (X.2.2.2.1 2), .int 0]), (l0, kO 13 [.int 0, .ref (X.2.2.2.1 2), .int 0]), (a, kO 11 [.ref l0, .ref l1, .ref l2, .null, .null, .null, .null, .null, .null, .null, .int 0, .int 0, .int 0, .int 0])] h) from hL_put (j := 0) nd4 rfl) ?_
  refine a_putfieldF (pc := 45) kf_X11_22 rfl dX11_init_45 (hL_get (j := 4) nd4 rfl) (rfl) (by rfl) (Nat.le_of_ble_eq_true rfl) ?_
  refine a_hp (show _ = (hL [(l3, kO 13 [.int 0, .ref (X.2.2.2.1 2), .int 0]), (l2, kO 13 [.int 0, .ref (X.2.2.2.1 2), .int 0]), (l1, kO 13 [.int 0, .ref (X.2.2.2.1 2), .int 0]), (l0, kO 13 [.int 0, .ref (X.2.2.2.1 2), .int 0]), (a, kO 11 [.ref l0, .ref l1, .ref l2, .ref l3, .null, .null, .null, .null, .null, .null, .int 0, .int 0, .int 0, .int 0])] h) from hL_put (j := 4) nd4 rfl) ?_
  refine a_aload_n (pc := 48) dX11_init_48 rfl rfl ?_
  refine a_new (pc := 49) kn_X11_7 dX11_init_49 (by rw [hM.1]; simp only [rmd]; omega) (by rw [hM.1]; simp only [rmd]; omega) (fun l4 hl4 => ?_)
  have nd5 := hL_nd (e := kO 13 [.int 0, .null, .int 0]) hl4 nd4
  have fr5 := hL_fr (e := kO 13 [.int 0, .null, .int 0]) hl4 fr4
  refine a_hp (show _ = (hL [(l4, kO 13 [.int 0, .null, .int 0]), (l3, kO 13 [.int 0, .ref (X.2.2.2.1 2), .int 0]), (l2, kO 13 [.int 0, .ref (X.2.2.2.1 2), .int 0]), (l1, kO 13 [.int 0, .ref (X.2.2.2.1 2), .int 0]), (l0, kO 13 [.int 0, .ref (X.2.2.2.1 2), .int 0]), (a, kO 11 [.ref l0, .ref l1, .ref l2, .ref l3, .null, .null, .null, .null, .null, .null, .int 0, .int 0, .int 0, .int 0])] h) from rfl) ?_
  refine a_dup (pc := 52) dX11_init_52 rfl ?_
  refine a_callI (pc := 53) km_X11_9 dX11_init_53 (f_linit (hL_get (j := 0) nd5 rfl)) rfl rfl (rok_of hM (by decide) (by decide) (by omega) (by omega)) (Nat.le_of_ble_eq_true rfl) (fun r53 h53 hp53 => ?_)
  obtain ⟨rfl, rfl⟩ := hp53
  refine a_hp (show _ = (hL [(l4, kO 13 [.int 0, .ref (X.2.2.2.1 2), .int 0]), (l3, kO 13 [.int 0, .ref (X.2.2.2.1 2), .int 0]), (l2, kO 13 [.int 0, .ref (X.2.2.2.1 2), .int 0]), (l1, kO 13 [.int 0, .ref (X.2.2.2.1 2), .int 0]), (l0, kO 13 [.int 0, .ref (X.2.2.2.1 2), .int 0]), (a, kO 11 [.ref l0, .ref l1, .ref l2, .ref l3, .null, .null, .null, .null, .null, .null, .int 0, .int 0, .int 0, .int 0])] h) from hL_put (j := 0) nd5 rfl) ?_
  refine a_putfieldF (pc := 56) kf_X11_25 rfl dX11_init_56 (hL_get (j := 5) nd5 rfl) (rfl) (by rfl) (Nat.le_of_ble_eq_true rfl) ?_
  refine a_hp (show _ = (hL [(l4, kO 13 [.int 0, .ref (X.2.2.2.1 2), .int 0]), (l3, kO 13 [.int 0, .ref (X.2.2.2.1 2), .int 0]), (l2, kO 13 [.int 0, .ref (X.2.2.2.1 2), .int 0]), (l1, kO 13 [.int 0, .ref (X.2.2.2.1 2), .int 0]), (l0, kO 13 [.int 0, .ref (X.2.2.2.1 2), .int 0]), (a, kO 11 [.ref l0, .ref l1, .ref l2, .ref l3, .ref l4, .null, .null, .null, .null, .null, .int 0, .int 0, .int 0, .int 0])] h) from hL_put (j := 5) nd5 rfl) ?_
  refine a_aload_n (pc := 59) dX11_init_59 rfl rfl ?_
  refine a_iconst (pc := 60) dX11_init_60 ic_4 ?_
  refine a_newQ (pc := 61) (t := 3) rfl (Or.inl rfl) kl_X11_28 dX11_init_61 rfl (by omega) (by rw [hM.1]; simp only [rmd]; omega) (by rw [hM.1]; simp only [rmd]; omega) (fun sh hsh => ?_)
  have nd6 := hL_nd (e := kQ 3 4 (fun _ => none)) hsh nd5
  have fr6 := hL_fr (e := kQ 3 4 (fun _ => none)) hsh fr5
  refine a_hp (show _ = (hL [(sh, kQ 3 4 (fun _ => none)), (l4, kO 13 [.int 0, .ref (X.2.2.2.1 2), .int 0]), (l3, kO 13 [.int 0, .ref (X.2.2.2.1 2), .int 0]), (l2, kO 13 [.int 0, .ref (X.2.2.2.1 2), .int 0]), (l1, kO 13 [.int 0, .ref (X.2.2.2.1 2), .int 0]), (l0, kO 13 [.int 0, .ref (X.2.2.2.1 2), .int 0]), (a, kO 11 [.ref l0, .ref l1, .ref l2, .ref l3, .ref l4, .null, .null, .null, .null, .null, .int 0, .int 0, .int 0, .int 0])] h) from rfl) ?_
  refine a_putfieldF (pc := 64) kf_X11_30 rfl dX11_init_64 (hL_get (j := 6) nd6 rfl) (rfl) (by rfl) (Nat.le_of_ble_eq_true rfl) ?_
  refine a_hp (show _ = (hL [(sh, kQ 3 4 (fun _ => none)), (l4, kO 13 [.int 0, .ref (X.2.2.2.1 2), .int 0]), (l3, kO 13 [.int 0, .ref (X.2.2.2.1 2), .int 0]), (l2, kO 13 [.int 0, .ref (X.2.2.2.1 2), .int 0]), (l1, kO 13 [.int 0, .ref (X.2.2.2.1 2), .int 0]), (l0, kO 13 [.int 0, .ref (X.2.2.2.1 2), .int 0]), (a, kO 11 [.ref l0, .ref l1, .ref l2, .ref l3, .ref l4, .ref sh, .null, .null, .null, .null, .int 0, .int 0, .int 0, .int 0])] h) from hL_put (j := 6) nd6 rfl) ?_
  refine a_aload_n (pc := 67) dX11_init_67 rfl rfl ?_
  refine a_new (pc := 68) kn_X11_34 dX11_init_68 (by rw [hM.1]; simp only [rmd]; omega) (by rw [hM.1]; simp only [rmd]; omega) (fun tp htp => ?_)
  have nd7 := hL_nd (e := kO 8 [.null, .int 0]) htp nd6
  have fr7 := hL_fr (e := kO 8 [.null, .int 0]) htp fr6
  refine a_hp (show _ = (hL [(tp, kO 8 [.null, .int 0]), (sh, kQ 3 4 (fun _ => none)), (l4, kO 13 [.int 0, .ref (X.2.2.2.1 2), .int 0]), (l3, kO 13 [.int 0, .ref (X.2.2.2.1 2), .int 0]), (l2, kO 13 [.int 0, .ref (X.2.2.2.1 2), .int 0]), (l1, kO 13 [.int 0, .ref (X.2.2.2.1 2), .int 0]), (l0, kO 13 [.int 0, .ref (X.2.2.2.1 2), .int 0]), (a, kO 11 [.ref l0, .ref l1, .ref l2, .ref l3, .ref l4, .ref sh, .null, .null, .null, .null, .int 0, .int 0, .int 0, .int 0])] h) from rfl) ?_
  refine a_dup (pc := 71) dX11_init_71 rfl ?_
  refine a_callI (pc := 72) km_X11_36 dX11_init_72 (f_tpInit (hL_get (j := 0) nd7 rfl)) rfl rfl (rok_of hM (by decide) (by decide) (by omega) (by omega)) (Nat.le_of_ble_eq_true rfl) (fun r72 h72 hp72 => ?_)
  obtain ⟨rfl, ta, hta, rfl⟩ := hp72
  have nd8 := hL_nd (e := kI 160 (fun _ => 0)) hta nd7
  have fr8 := hL_fr (e := kI 160 (fun _ => 0)) hta fr7
  refine a_hp (show _ = (hL [(ta, kI 160 (fun _ => 0)), (tp, kO 8 [.ref ta, .int 0]), (sh, kQ 3 4 (fun _ => none)), (l4, kO 13 [.int 0, .ref (X.2.2.2.1 2), .int 0]), (l3, kO 13 [.int 0, .ref (X.2.2.2.1 2), .int 0]), (l2, kO 13 [.int 0, .ref (X.2.2.2.1 2), .int 0]), (l1, kO 13 [.int 0, .ref (X.2.2.2.1 2), .int 0]), (l0, kO 13 [.int 0, .ref (X.2.2.2.1 2), .int 0]), (a, kO 11 [.ref l0, .ref l1, .ref l2, .ref l3, .ref l4, .ref sh, .null, .null, .null, .null, .int 0, .int 0, .int 0, .int 0])] h) from hL_put (j := 1) nd8 rfl) ?_
  refine a_putfieldF (pc := 75) kf_X11_37 rfl dX11_init_75 (hL_get (j := 8) nd8 rfl) (rfl) (by rfl) (Nat.le_of_ble_eq_true rfl) ?_
  refine a_hp (show _ = (hL [(ta, kI 160 (fun _ => 0)), (tp, kO 8 [.ref ta, .int 0]), (sh, kQ 3 4 (fun _ => none)), (l4, kO 13 [.int 0, .ref (X.2.2.2.1 2), .int 0]), (l3, kO 13 [.int 0, .ref (X.2.2.2.1 2), .int 0]), (l2, kO 13 [.int 0, .ref (X.2.2.2.1 2), .int 0]), (l1, kO 13 [.int 0, .ref (X.2.2.2.1 2), .int 0]), (l0, kO 13 [.int 0, .ref (X.2.2.2.1 2), .int 0]), (a, kO 11 [.ref l0, .ref l1, .ref l2, .ref l3, .ref l4, .ref sh, .ref tp, .null, .null, .null, .int 0, .int 0, .int 0, .int 0])] h) from hL_put (j := 8) nd8 rfl) ?_
  refine a_aload_n (pc := 78) dX11_init_78 rfl rfl ?_
  refine a_new (pc := 79) kn_X11_41 dX11_init_79 (by rw [hM.1]; simp only [rmd]; omega) (by rw [hM.1]; simp only [rmd]; omega) (fun rd hrd => ?_)
  have nd9 := hL_nd (e := kO 4 [.null, .null, .null, .int 0, .int 0, .int 0, .int 0]) hrd nd8
  have fr9 := hL_fr (e := kO 4 [.null, .null, .null, .int 0, .int 0, .int 0, .int 0]) hrd fr8
  refine a_hp (show _ = (hL [(rd, kO 4 [.null, .null, .null, .int 0, .int 0, .int 0, .int 0]), (ta, kI 160 (fun _ => 0)), (tp, kO 8 [.ref ta, .int 0]), (sh, kQ 3 4 (fun _ => none)), (l4, kO 13 [.int 0, .ref (X.2.2.2.1 2), .int 0]), (l3, kO 13 [.int 0, .ref (X.2.2.2.1 2), .int 0]), (l2, kO 13 [.int 0, .ref (X.2.2.2.1 2), .int 0]), (l1, kO 13 [.int 0, .ref (X.2.2.2.1 2), .int 0]), (l0, kO 13 [.int 0, .ref (X.2.2.2.1 2), .int 0]), (a, kO 11 [.ref l0, .ref l1, .ref l2, .ref l3, .ref l4, .ref sh, .ref tp, .null, .null, .null, .int 0, .int 0, .int 0, .int 0])] h) from rfl) ?_
  refine a_dup (pc := 82) dX11_init_82 rfl ?_
  refine a_callI (pc := 83) km_X11_43 dX11_init_83 (f_rdInit (hL_get (j := 0) nd9 rfl)) rfl rfl (rok_of hM (by decide) (by decide) (by omega) (by omega)) (Nat.le_of_ble_eq_true rfl) (fun r83 h83 hp83 => ?_)
  obtain ⟨rfl, tk, k1, k2, k3, cd, en, hk1, hk2, hk3, htk, hcd, hen, rfl⟩ := hp83
  have gk1 : (hL [(rd, kO 4 [.null, .null, .null, .int 0, .int 0, .int 0, .int 0]), (ta, kI 160 (fun _ => 0)), (tp, kO 8 [.ref ta, .int 0]), (sh, kQ 3 4 (fun _ => none)), (l4, kO 13 [.int 0, .ref (X.2.2.2.1 2), .int 0]), (l3, kO 13 [.int 0, .ref (X.2.2.2.1 2), .int 0]), (l2, kO 13 [.int 0, .ref (X.2.2.2.1 2), .int 0]), (l1, kO 13 [.int 0, .ref (X.2.2.2.1 2), .int 0]), (l0, kO 13 [.int 0, .ref (X.2.2.2.1 2), .int 0]), (a, kO 11 [.ref l0, .ref l1, .ref l2, .ref l3, .ref l4, .ref sh, .ref tp, .null, .null, .null, .int 0, .int 0, .int 0, .int 0])] h) k1 = none := hk1
  have nd10 := hL_nd (e := kI 161 (fun _ => 0)) gk1 nd9
  have fr10 := hL_fr (e := kI 161 (fun _ => 0)) gk1 fr9
  have gk2 : (hL [(k1, kI 161 (fun _ => 0)), (rd, kO 4 [.null, .null, .null, .int 0, .int 0, .int 0, .int 0]), (ta, kI 160 (fun _ => 0)), (tp, kO 8 [.ref ta, .int 0]), (sh, kQ 3 4 (fun _ => none)), (l4, kO 13 [.int 0, .ref (X.2.2.2.1 2), .int 0]), (l3, kO 13 [.int 0, .ref (X.2.2.2.1 2), .int 0]), (l2, kO 13 [.int 0, .ref (X.2.2.2.1 2), .int 0]), (l1, kO 13 [.int 0, .ref (X.2.2.2.1 2), .int 0]), (l0, kO 13 [.int 0, .ref (X.2.2.2.1 2), .int 0]), (a, kO 11 [.ref l0, .ref l1, .ref l2, .ref l3, .ref l4, .ref sh, .ref tp, .null, .null, .null, .int 0, .int 0, .int 0, .int 0])] h) k2 = none := hk2
  have nd11 := hL_nd (e := kI 161 (fun _ => 0)) gk2 nd10
  have fr11 := hL_fr (e := kI 161 (fun _ => 0)) gk2 fr10
  have gk3 : (hL [(k2, kI 161 (fun _ => 0)), (k1, kI 161 (fun _ => 0)), (rd, kO 4 [.null, .null, .null, .int 0, .int 0, .int 0, .int 0]), (ta, kI 160 (fun _ => 0)), (tp, kO 8 [.ref ta, .int 0]), (sh, kQ 3 4 (fun _ => none)), (l4, kO 13 [.int 0, .ref (X.2.2.2.1 2), .int 0]), (l3, kO 13 [.int 0, .ref (X.2.2.2.1 2), .int 0]), (l2, kO 13 [.int 0, .ref (X.2.2.2.1 2), .int 0]), (l1, kO 13 [.int 0, .ref (X.2.2.2.1 2), .int 0]), (l0, kO 13 [.int 0, .ref (X.2.2.2.1 2), .int 0]), (a, kO 11 [.ref l0, .ref l1, .ref l2, .ref l3, .ref l4, .ref sh, .ref tp, .null, .null, .null, .int 0, .int 0, .int 0, .int 0])] h) k3 = none := hk3
  have nd12 := hL_nd (e := kI 161 (fun _ => 0)) gk3 nd11
  have fr12 := hL_fr (e := kI 161 (fun _ => 0)) gk3 fr11
  have gtk : (hL [(k3, kI 161 (fun _ => 0)), (k2, kI 161 (fun _ => 0)), (k1, kI 161 (fun _ => 0)), (rd, kO 4 [.null, .null, .null, .int 0, .int 0, .int 0, .int 0]), (ta, kI 160 (fun _ => 0)), (tp, kO 8 [.ref ta, .int 0]), (sh, kQ 3 4 (fun _ => none)), (l4, kO 13 [.int 0, .ref (X.2.2.2.1 2), .int 0]), (l3, kO 13 [.int 0, .ref (X.2.2.2.1 2), .int 0]), (l2, kO 13 [.int 0, .ref (X.2.2.2.1 2), .int 0]), (l1, kO 13 [.int 0, .ref (X.2.2.2.1 2), .int 0]), (l0, kO 13 [.int 0, .ref (X.2.2.2.1 2), .int 0]), (a, kO 11 [.ref l0, .ref l1, .ref l2, .ref l3, .ref l4, .ref sh, .ref tp, .null, .null, .null, .int 0, .int 0, .int 0, .int 0])] h) tk = none := htk
  have nd13 := hL_nd (e := kO 10 [.ref k1, .ref k2, .ref k3, .int 0]) gtk nd12
  have fr13 := hL_fr (e := kO 10 [.ref k1, .ref k2, .ref k3, .int 0]) gtk fr12
  have gcd : (hL [(tk, kO 10 [.ref k1, .ref k2, .ref k3, .int 0]), (k3, kI 161 (fun _ => 0)), (k2, kI 161 (fun _ => 0)), (k1, kI 161 (fun _ => 0)), (rd, kO 4 [.null, .null, .null, .int 0, .int 0, .int 0, .int 0]), (ta, kI 160 (fun _ => 0)), (tp, kO 8 [.ref ta, .int 0]), (sh, kQ 3 4 (fun _ => none)), (l4, kO 13 [.int 0, .ref (X.2.2.2.1 2), .int 0]), (l3, kO 13 [.int 0, .ref (X.2.2.2.1 2), .int 0]), (l2, kO 13 [.int 0, .ref (X.2.2.2.1 2), .int 0]), (l1, kO 13 [.int 0, .ref (X.2.2.2.1 2), .int 0]), (l0, kO 13 [.int 0, .ref (X.2.2.2.1 2), .int 0]), (a, kO 11 [.ref l0, .ref l1, .ref l2, .ref l3, .ref l4, .ref sh, .ref tp, .null, .null, .null, .int 0, .int 0, .int 0, .int 0])] h) cd = none := hcd
  have nd14 := hL_nd (e := kI 160 (fun _ => 0)) gcd nd13
  have fr14 := hL_fr (e := kI 160 (fun _ => 0)) gcd fr13
  have gen : (hL [(cd, kI 160 (fun _ => 0)), (tk, kO 10 [.ref k1, .ref k2, .ref k3, .int 0]), (k3, kI 161 (fun _ => 0)), (k2, kI 161 (fun _ => 0)), (k1, kI 161 (fun _ => 0)), (rd, kO 4 [.null, .null, .null, .int 0, .int 0, .int 0, .int 0]), (ta, kI 160 (fun _ => 0)), (tp, kO 8 [.ref ta, .int 0]), (sh, kQ 3 4 (fun _ => none)), (l4, kO 13 [.int 0, .ref (X.2.2.2.1 2), .int 0]), (l3, kO 13 [.int 0, .ref (X.2.2.2.1 2), .int 0]), (l2, kO 13 [.int 0, .ref (X.2.2.2.1 2), .int 0]), (l1, kO 13 [.int 0, .ref (X.2.2.2.1 2), .int 0]), (l0, kO 13 [.int 0, .ref (X.2.2.2.1 2), .int 0]), (a, kO 11 [.ref l0, .ref l1, .ref l2, .ref l3, .ref l4, .ref sh, .ref tp, .null, .null, .null, .int 0, .int 0, .int 0, .int 0])] h) en = none := hen
  have nd15 := hL_nd (e := kI 3 (fun _ => 0)) gen nd14
  have fr15 := hL_fr (e := kI 3 (fun _ => 0)) gen fr14
  refine a_hp (show _ = (hL [(en, kI 3 (fun _ => 0)), (cd, kI 160 (fun _ => 0)), (tk, kO 10 [.ref k1, .ref k2, .ref k3, .int 0]), (k3, kI 161 (fun _ => 0)), (k2, kI 161 (fun _ => 0)), (k1, kI 161 (fun _ => 0)), (rd, kO 4 [.ref tk, .ref cd, .ref en, .int 0, .int 0, .int 0, .int 0]), (ta, kI 160 (fun _ => 0)), (tp, kO 8 [.ref ta, .int 0]), (sh, kQ 3 4 (fun _ => none)), (l4, kO 13 [.int 0, .ref (X.2.2.2.1 2), .int 0]), (l3, kO 13 [.int 0, .ref (X.2.2.2.1 2), .int 0]), (l2, kO 13 [.int 0, .ref (X.2.2.2.1 2), .int 0]), (l1, kO 13 [.int 0, .ref (X.2.2.2.1 2), .int 0]), (l0, kO 13 [.int 0, .ref (X.2.2.2.1 2), .int 0]), (a, kO 11 [.ref l0, .ref l1, .ref l2, .ref l3, .ref l4, .ref sh, .ref tp, .null, .null, .null, .int 0, .int 0, .int 0, .int 0])] h) from hL_put (j := 6) nd15 rfl) ?_
  refine a_putfieldF (pc := 86) kf_X11_44 rfl dX11_init_86 (hL_get (j := 15) nd15 rfl) (rfl) (by rfl) (Nat.le_of_ble_eq_true rfl) ?_
  refine a_hp (show _ = (hL [(en, kI 3 (fun _ => 0)), (cd, kI 160 (fun _ => 0)), (tk, kO 10 [.ref k1, .ref k2, .ref k3, .int 0]), (k3, kI 161 (fun _ => 0)), (k2, kI 161 (fun _ => 0)), (k1, kI 161 (fun _ => 0)), (rd, kO 4 [.ref tk, .ref cd, .ref en, .int 0, .int 0, .int 0, .int 0]), (ta, kI 160 (fun _ => 0)), (tp, kO 8 [.ref ta, .int 0]), (sh, kQ 3 4 (fun _ => none)), (l4, kO 13 [.int 0, .ref (X.2.2.2.1 2), .int 0]), (l3, kO 13 [.int 0, .ref (X.2.2.2.1 2), .int 0]), (l2, kO 13 [.int 0, .ref (X.2.2.2.1 2), .int 0]), (l1, kO 13 [.int 0, .ref (X.2.2.2.1 2), .int 0]), (l0, kO 13 [.int 0, .ref (X.2.2.2.1 2), .int 0]), (a, kO 11 [.ref l0, .ref l1, .ref l2, .ref l3, .ref l4, .ref sh, .ref tp, .ref rd, .null, .null, .int 0, .int 0, .int 0, .int 0])] h) from hL_put (j := 15) nd15 rfl) ?_
  refine a_aload_n (pc := 89) dX11_init_89 rfl rfl ?_
  refine a_new (pc := 90) kn_X11_48 dX11_init_90 (by rw [hM.1]; simp only [rmd]; omega) (by rw [hM.1]; simp only [rmd]; omega) (fun od hod => ?_)
  have nd16 := hL_nd (e := kO 2 [.null]) hod nd15
  have fr16 := hL_fr (e := kO 2 [.null]) hod fr15
  refine a_hp (show _ = (hL [(od, kO 2 [.null]), (en, kI 3 (fun _ => 0)), (cd, kI 160 (fun _ => 0)), (tk, kO 10 [.ref k1, .ref k2, .ref k3, .int 0]), (k3, kI 161 (fun _ => 0)), (k2, kI 161 (fun _ => 0)), (k1, kI 161 (fun _ => 0)), (rd, kO 4 [.ref tk, .ref cd, .ref en, .int 0, .int 0, .int 0, .int 0]), (ta, kI 160 (fun _ => 0)), (tp, kO 8 [.ref ta, .int 0]), (sh, kQ 3 4 (fun _ => none)), (l4, kO 13 [.int 0, .ref (X.2.2.2.1 2), .int 0]), (l3, kO 13 [.int 0, .ref (X.2.2.2.1 2), .int 0]), (l2, kO 13 [.int 0, .ref (X.2.2.2.1 2), .int 0]), (l1, kO 13 [.int 0, .ref (X.2.2.2.1 2), .int 0]), (l0, kO 13 [.int 0, .ref (X.2.2.2.1 2), .int 0]), (a, kO 11 [.ref l0, .ref l1, .ref l2, .ref l3, .ref l4, .ref sh, .ref tp, .ref rd, .null, .null, .int 0, .int 0, .int 0, .int 0])] h) from rfl) ?_
  refine a_dup (pc := 93) dX11_init_93 rfl ?_
  refine a_callI (pc := 94) km_X11_50 dX11_init_94 (f_odInit (hL_get (j := 0) nd16 rfl)) rfl rfl (rok_of hM (by decide) (by decide) (by omega) (by omega)) (Nat.le_of_ble_eq_true rfl) (fun r94 h94 hp94 => ?_)
  obtain ⟨rfl, oa, hoa, rfl⟩ := hp94
  have nd17 := hL_nd (e := kL 26 (fun _ => 0)) hoa nd16
  have fr17 := hL_fr (e := kL 26 (fun _ => 0)) hoa fr16
  refine a_hp (show _ = (hL [(oa, kL 26 (fun _ => 0)), (od, kO 2 [.ref oa]), (en, kI 3 (fun _ => 0)), (cd, kI 160 (fun _ => 0)), (tk, kO 10 [.ref k1, .ref k2, .ref k3, .int 0]), (k3, kI 161 (fun _ => 0)), (k2, kI 161 (fun _ => 0)), (k1, kI 161 (fun _ => 0)), (rd, kO 4 [.ref tk, .ref cd, .ref en, .int 0, .int 0, .int 0, .int 0]), (ta, kI 160 (fun _ => 0)), (tp, kO 8 [.ref ta, .int 0]), (sh, kQ 3 4 (fun _ => none)), (l4, kO 13 [.int 0, .ref (X.2.2.2.1 2), .int 0]), (l3, kO 13 [.int 0, .ref (X.2.2.2.1 2), .int 0]), (l2, kO 13 [.int 0, .ref (X.2.2.2.1 2), .int 0]), (l1, kO 13 [.int 0, .ref (X.2.2.2.1 2), .int 0]), (l0, kO 13 [.int 0, .ref (X.2.2.2.1 2), .int 0]), (a, kO 11 [.ref l0, .ref l1, .ref l2, .ref l3, .ref l4, .ref sh, .ref tp, .ref rd, .null, .null, .int 0, .int 0, .int 0, .int 0])] h) from hL_put (j := 1) nd17 rfl) ?_
  refine a_putfieldF (pc := 97) kf_X11_51 rfl dX11_init_97 (hL_get (j := 17) nd17 rfl) (rfl) (by rfl) (Nat.le_of_ble_eq_true rfl) ?_
  refine a_hp (show _ = (hL [(oa, kL 26 (fun _ => 0)), (od, kO 2 [.ref oa]), (en, kI 3 (fun _ => 0)), (cd, kI 160 (fun _ => 0)), (tk, kO 10 [.ref k1, .ref k2, .ref k3, .int 0]), (k3, kI 161 (fun _ => 0)), (k2, kI 161 (fun _ => 0)), (k1, kI 161 (fun _ => 0)), (rd, kO 4 [.ref tk, .ref cd, .ref en, .int 0, .int 0, .int 0, .int 0]), (ta, kI 160 (fun _ => 0)), (tp, kO 8 [.ref ta, .int 0]), (sh, kQ 3 4 (fun _ => none)), (l4, kO 13 [.int 0, .ref (X.2.2.2.1 2), .int 0]), (l3, kO 13 [.int 0, .ref (X.2.2.2.1 2), .int 0]), (l2, kO 13 [.int 0, .ref (X.2.2.2.1 2), .int 0]), (l1, kO 13 [.int 0, .ref (X.2.2.2.1 2), .int 0]), (l0, kO 13 [.int 0, .ref (X.2.2.2.1 2), .int 0]), (a, kO 11 [.ref l0, .ref l1, .ref l2, .ref l3, .ref l4, .ref sh, .ref tp, .ref rd, .ref od, .null, .int 0, .int 0, .int 0, .int 0])] h) from hL_put (j := 17) nd17 rfl) ?_
  refine a_aload_n (pc := 100) dX11_init_100 rfl rfl ?_
  refine a_bipush (pc := 101) dX11_init_101 ib_6 ?_
  refine a_newI (pc := 103) ka_int dX11_init_103 rfl (by omega) (by rw [hM.1]; simp only [rmd]; omega) (by rw [hM.1]; simp only [rmd]; omega) (fun nm hnm => ?_)
  have nd18 := hL_nd (e := kI 6 (fun _ => 0)) hnm nd17
  have fr18 := hL_fr (e := kI 6 (fun _ => 0)) hnm fr17
  refine a_hp (show _ = (hL [(nm, kI 6 (fun _ => 0)), (oa, kL 26 (fun _ => 0)), (od, kO 2 [.ref oa]), (en, kI 3 (fun _ => 0)), (cd, kI 160 (fun _ => 0)), (tk, kO 10 [.ref k1, .ref k2, .ref k3, .int 0]), (k3, kI 161 (fun _ => 0)), (k2, kI 161 (fun _ => 0)), (k1, kI 161 (fun _ => 0)), (rd, kO 4 [.ref tk, .ref cd, .ref en, .int 0, .int 0, .int 0, .int 0]), (ta, kI 160 (fun _ => 0)), (tp, kO 8 [.ref ta, .int 0]), (sh, kQ 3 4 (fun _ => none)), (l4, kO 13 [.int 0, .ref (X.2.2.2.1 2), .int 0]), (l3, kO 13 [.int 0, .ref (X.2.2.2.1 2), .int 0]), (l2, kO 13 [.int 0, .ref (X.2.2.2.1 2), .int 0]), (l1, kO 13 [.int 0, .ref (X.2.2.2.1 2), .int 0]), (l0, kO 13 [.int 0, .ref (X.2.2.2.1 2), .int 0]), (a, kO 11 [.ref l0, .ref l1, .ref l2, .ref l3, .ref l4, .ref sh, .ref tp, .ref rd, .ref od, .null, .int 0, .int 0, .int 0, .int 0])] h) from rfl) ?_
  refine a_putfieldF (pc := 105) kf_X11_57 rfl dX11_init_105 (hL_get (j := 18) nd18 rfl) (rfl) (by rfl) (Nat.le_of_ble_eq_true rfl) ?_
  refine a_hp (show _ = (hL [(nm, kI 6 (fun _ => 0)), (oa, kL 26 (fun _ => 0)), (od, kO 2 [.ref oa]), (en, kI 3 (fun _ => 0)), (cd, kI 160 (fun _ => 0)), (tk, kO 10 [.ref k1, .ref k2, .ref k3, .int 0]), (k3, kI 161 (fun _ => 0)), (k2, kI 161 (fun _ => 0)), (k1, kI 161 (fun _ => 0)), (rd, kO 4 [.ref tk, .ref cd, .ref en, .int 0, .int 0, .int 0, .int 0]), (ta, kI 160 (fun _ => 0)), (tp, kO 8 [.ref ta, .int 0]), (sh, kQ 3 4 (fun _ => none)), (l4, kO 13 [.int 0, .ref (X.2.2.2.1 2), .int 0]), (l3, kO 13 [.int 0, .ref (X.2.2.2.1 2), .int 0]), (l2, kO 13 [.int 0, .ref (X.2.2.2.1 2), .int 0]), (l1, kO 13 [.int 0, .ref (X.2.2.2.1 2), .int 0]), (l0, kO 13 [.int 0, .ref (X.2.2.2.1 2), .int 0]), (a, kO 11 [.ref l0, .ref l1, .ref l2, .ref l3, .ref l4, .ref sh, .ref tp, .ref rd, .ref od, .ref nm, .int 0, .int 0, .int 0, .int 0])] h) from hL_put (j := 18) nd18 rfl) ?_
  refine a_aload_n (pc := 108) dX11_init_108 rfl rfl ?_
  refine a_iconst (pc := 109) dX11_init_109 ic_m1 ?_
  refine a_putfield (pc := 110) kf_X11_61 dX11_init_110 (hL_get (j := 18) nd18 rfl) (rfl) (by rfl) (Nat.le_of_ble_eq_true rfl) ?_
  refine a_hp (show _ = (hL [(nm, kI 6 (fun _ => 0)), (oa, kL 26 (fun _ => 0)), (od, kO 2 [.ref oa]), (en, kI 3 (fun _ => 0)), (cd, kI 160 (fun _ => 0)), (tk, kO 10 [.ref k1, .ref k2, .ref k3, .int 0]), (k3, kI 161 (fun _ => 0)), (k2, kI 161 (fun _ => 0)), (k1, kI 161 (fun _ => 0)), (rd, kO 4 [.ref tk, .ref cd, .ref en, .int 0, .int 0, .int 0, .int 0]), (ta, kI 160 (fun _ => 0)), (tp, kO 8 [.ref ta, .int 0]), (sh, kQ 3 4 (fun _ => none)), (l4, kO 13 [.int 0, .ref (X.2.2.2.1 2), .int 0]), (l3, kO 13 [.int 0, .ref (X.2.2.2.1 2), .int 0]), (l2, kO 13 [.int 0, .ref (X.2.2.2.1 2), .int 0]), (l1, kO 13 [.int 0, .ref (X.2.2.2.1 2), .int 0]), (l0, kO 13 [.int 0, .ref (X.2.2.2.1 2), .int 0]), (a, kO 11 [.ref l0, .ref l1, .ref l2, .ref l3, .ref l4, .ref sh, .ref tp, .ref rd, .ref od, .ref nm, .int 0, .int (-1), .int 0, .int 0])] h) from hL_put (j := 18) nd18 rfl) ?_
  refine a_iconst (pc := 113) dX11_init_113 ic_0 ?_
  refine a_istore_n (pc := 114) dX11_init_114 rfl (by decide) rfl ?_
  refine a_iload_n (pc := 115) dX11_init_115 rfl rfl ?_
  refine a_iconst (pc := 116) dX11_init_116 ic_4 ?_
  refine a_icmp_geN (pc := 117) (tgt := 139) dX11_init_117 (by decide) (by omega) (by omega) (fun c117 => ?_) (fun c117 => ?_)
  · exact absurd c117 (by decide)
  · refine a_aload_n (pc := 120) dX11_init_120 rfl rfl ?_
    refine a_getfield (pc := 121) kg_X11_30 dX11_init_121 (hL_get (j := 18) nd18 rfl) rfl ?_
    refine a_iload_n (pc := 124) dX11_init_124 rfl rfl ?_
    refine a_new (pc := 125) kn_X11_28 dX11_init_125 (by rw [hM.1]; simp only [rmd]; omega) (by rw [hM.1]; simp only [rmd]; omega) (fun s0 hs0 => ?_)
    have nd19 := hL_nd (e := kO 7 [.null, .int 0, .int 0]) hs0 nd18
    have fr19 := hL_fr (e := kO 7 [.null, .int 0, .int 0]) hs0 fr18
    refine a_hp (show _ = (hL [(s0, kO 7 [.null, .int 0, .int 0]), (nm, kI 6 (fun _ => 0)), (oa, kL 26 (fun _ => 0)), (od, kO 2 [.ref oa]), (en, kI 3 (fun _ => 0)), (cd, kI 160 (fun _ => 0)), (tk, kO 10 [.ref k1, .ref k2, .ref k3, .int 0]), (k3, kI 161 (fun _ => 0)), (k2, kI 161 (fun _ => 0)), (k1, kI 161 (fun _ => 0)), (rd, kO 4 [.ref tk, .ref cd, .ref en, .int 0, .int 0, .int 0, .int 0]), (ta, kI 160 (fun _ => 0)), (tp, kO 8 [.ref ta, .int 0]), (sh, kQ 3 4 (fun _ => none)), (l4, kO 13 [.int 0, .ref (X.2.2.2.1 2), .int 0]), (l3, kO 13 [.int 0, .ref (X.2.2.2.1 2), .int 0]), (l2, kO 13 [.int 0, .ref (X.2.2.2.1 2), .int 0]), (l1, kO 13 [.int 0, .ref (X.2.2.2.1 2), .int 0]), (l0, kO 13 [.int 0, .ref (X.2.2.2.1 2), .int 0]), (a, kO 11 [.ref l0, .ref l1, .ref l2, .ref l3, .ref l4, .ref sh, .ref tp, .ref rd, .ref od, .ref nm, .int 0, .int (-1), .int 0, .int 0])] h) from rfl) ?_
    refine a_dup (pc := 128) dX11_init_128 rfl ?_
    refine a_callI (pc := 129) km_X11_65 dX11_init_129 (f_shInit (hL_get (j := 0) nd19 rfl)) rfl rfl (rok_of hM (by decide) (by decide) (by omega) (by omega)) (Nat.le_of_ble_eq_true rfl) (fun r129 h129 hp129 => ?_)
    obtain ⟨rfl, i0, hi0, rfl⟩ := hp129
    have nd20 := hL_nd (e := kI 40 (fun _ => 0)) hi0 nd19
    have fr20 := hL_fr (e := kI 40 (fun _ => 0)) hi0 fr19
    refine a_hp (show _ = (hL [(i0, kI 40 (fun _ => 0)), (s0, kO 7 [.ref i0, .int (-1), .int 0]), (nm, kI 6 (fun _ => 0)), (oa, kL 26 (fun _ => 0)), (od, kO 2 [.ref oa]), (en, kI 3 (fun _ => 0)), (cd, kI 160 (fun _ => 0)), (tk, kO 10 [.ref k1, .ref k2, .ref k3, .int 0]), (k3, kI 161 (fun _ => 0)), (k2, kI 161 (fun _ => 0)), (k1, kI 161 (fun _ => 0)), (rd, kO 4 [.ref tk, .ref cd, .ref en, .int 0, .int 0, .int 0, .int 0]), (ta, kI 160 (fun _ => 0)), (tp, kO 8 [.ref ta, .int 0]), (sh, kQ 3 4 (fun _ => none)), (l4, kO 13 [.int 0, .ref (X.2.2.2.1 2), .int 0]), (l3, kO 13 [.int 0, .ref (X.2.2.2.1 2), .int 0]), (l2, kO 13 [.int 0, .ref (X.2.2.2.1 2), .int 0]), (l1, kO 13 [.int 0, .ref (X.2.2.2.1 2), .int 0]), (l0, kO 13 [.int 0, .ref (X.2.2.2.1 2), .int 0]), (a, kO 11 [.ref l0, .ref l1, .ref l2, .ref l3, .ref l4, .ref sh, .ref tp, .ref rd, .ref od, .ref nm, .int 0, .int (-1), .int 0, .int 0])] h) from hL_put (j := 1) nd20 rfl) ?_
    refine a_aastoreE (pc := 132) (t := 3) (ci := 7) rfl rfl dX11_init_132 (hL_get (j := 14) nd20 rfl) (hL_get (j := 1) nd20 rfl) (0) (rfl) (by decide) (by decide) ?_
    refine a_hp (show _ = (hL [(i0, kI 40 (fun _ => 0)), (s0, kO 7 [.ref i0, .int (-1), .int 0]), (nm, kI 6 (fun _ => 0)), (oa, kL 26 (fun _ => 0)), (od, kO 2 [.ref oa]), (en, kI 3 (fun _ => 0)), (cd, kI 160 (fun _ => 0)), (tk, kO 10 [.ref k1, .ref k2, .ref k3, .int 0]), (k3, kI 161 (fun _ => 0)), (k2, kI 161 (fun _ => 0)), (k1, kI 161 (fun _ => 0)), (rd, kO 4 [.ref tk, .ref cd, .ref en, .int 0, .int 0, .int 0, .int 0]), (ta, kI 160 (fun _ => 0)), (tp, kO 8 [.ref ta, .int 0]), (sh, kQ 3 4 (va_up (fun _ => none) 0 (some s0))), (l4, kO 13 [.int 0, .ref (X.2.2.2.1 2), .int 0]), (l3, kO 13 [.int 0, .ref (X.2.2.2.1 2), .int 0]), (l2, kO 13 [.int 0, .ref (X.2.2.2.1 2), .int 0]), (l1, kO 13 [.int 0, .ref (X.2.2.2.1 2), .int 0]), (l0, kO 13 [.int 0, .ref (X.2.2.2.1 2), .int 0]), (a, kO 11 [.ref l0, .ref l1, .ref l2, .ref l3, .ref l4, .ref sh, .ref tp, .ref rd, .ref od, .ref nm, .int 0, .int (-1), .int 0, .int 0])] h) from hL_put (j := 14) nd20 rfl) ?_
    refine a_iincN (pc := 133) (n := 1) dX11_init_133 (by decide) rfl (by decide) rfl ?_
    refine a_goto (pc := 136) (tgt := 115) dX11_init_136 (by decide) ?_
    refine a_iload_n (pc := 115) dX11_init_115 rfl rfl ?_
    refine a_iconst (pc := 116) dX11_init_116 ic_4 ?_
    refine a_icmp_geN (pc := 117) (tgt := 139) dX11_init_117 (by decide) (by omega) (by omega) (fun c117 => ?_) (fun c117 => ?_)
    · exact absurd c117 (by decide)
    · refine a_aload_n (pc := 120) dX11_init_120 rfl rfl ?_
      refine a_getfield (pc := 121) kg_X11_30 dX11_init_121 (hL_get (j := 20) nd20 rfl) rfl ?_
      refine a_iload_n (pc := 124) dX11_init_124 rfl rfl ?_
      refine a_new (pc := 125) kn_X11_28 dX11_init_125 (by rw [hM.1]; simp only [rmd]; omega) (by rw [hM.1]; simp only [rmd]; omega) (fun s1 hs1 => ?_)
      have nd21 := hL_nd (e := kO 7 [.null, .int 0, .int 0]) hs1 nd20
      have fr21 := hL_fr (e := kO 7 [.null, .int 0, .int 0]) hs1 fr20
      refine a_hp (show _ = (hL [(s1, kO 7 [.null, .int 0, .int 0]), (i0, kI 40 (fun _ => 0)), (s0, kO 7 [.ref i0, .int (-1), .int 0]), (nm, kI 6 (fun _ => 0)), (oa, kL 26 (fun _ => 0)), (od, kO 2 [.ref oa]), (en, kI 3 (fun _ => 0)), (cd, kI 160 (fun _ => 0)), (tk, kO 10 [.ref k1, .ref k2, .ref k3, .int 0]), (k3, kI 161 (fun _ => 0)), (k2, kI 161 (fun _ => 0)), (k1, kI 161 (fun _ => 0)), (rd, kO 4 [.ref tk, .ref cd, .ref en, .int 0, .int 0, .int 0, .int 0]), (ta, kI 160 (fun _ => 0)), (tp, kO 8 [.ref ta, .int 0]), (sh, kQ 3 4 (va_up (fun _ => none) 0 (some s0))), (l4, kO 13 [.int 0, .ref (X.2.2.2.1 2), .int 0]), (l3, kO 13 [.int 0, .ref (X.2.2.2.1 2), .int 0]), (l2, kO 13 [.int 0, .ref (X.2.2.2.1 2), .int 0]), (l1, kO 13 [.int 0, .ref (X.2.2.2.1 2), .int 0]), (l0, kO 13 [.int 0, .ref (X.2.2.2.1 2), .int 0]), (a, kO 11 [.ref l0, .ref l1, .ref l2, .ref l3, .ref l4, .ref sh, .ref tp, .ref rd, .ref od, .ref nm, .int 0, .int (-1), .int 0, .int 0])] h) from rfl) ?_
      refine a_dup (pc := 128) dX11_init_128 rfl ?_
      refine a_callI (pc := 129) km_X11_65 dX11_init_129 (f_shInit (hL_get (j := 0) nd21 rfl)) rfl rfl (rok_of hM (by decide) (by decide) (by omega) (by omega)) (Nat.le_of_ble_eq_true rfl) (fun r129 h129 hp129 => ?_)
      obtain ⟨rfl, i1, hi1, rfl⟩ := hp129
      have nd22 := hL_nd (e := kI 40 (fun _ => 0)) hi1 nd21
      have fr22 := hL_fr (e := kI 40 (fun _ => 0)) hi1 fr21
      refine a_hp (show _ = (hL [(i1, kI 40 (fun _ => 0)), (s1, kO 7 [.ref i1, .int (-1), .int 0]), (i0, kI 40 (fun _ => 0)), (s0, kO 7 [.ref i0, .int (-1), .int 0]), (nm, kI 6 (fun _ => 0)), (oa, kL 26 (fun _ => 0)), (od, kO 2 [.ref oa]), (en, kI 3 (fun _ => 0)), (cd, kI 160 (fun _ => 0)), (tk, kO 10 [.ref k1, .ref k2, .ref k3, .int 0]), (k3, kI 161 (fun _ => 0)), (k2, kI 161 (fun _ => 0)), (k1, kI 161 (fun _ => 0)), (rd, kO 4 [.ref tk, .ref cd, .ref en, .int 0, .int 0, .int 0, .int 0]), (ta, kI 160 (fun _ => 0)), (tp, kO 8 [.ref ta, .int 0]), (sh, kQ 3 4 (va_up (fun _ => none) 0 (some s0))), (l4, kO 13 [.int 0, .ref (X.2.2.2.1 2), .int 0]), (l3, kO 13 [.int 0, .ref (X.2.2.2.1 2), .int 0]), (l2, kO 13 [.int 0, .ref (X.2.2.2.1 2), .int 0]), (l1, kO 13 [.int 0, .ref (X.2.2.2.1 2), .int 0]), (l0, kO 13 [.int 0, .ref (X.2.2.2.1 2), .int 0]), (a, kO 11 [.ref l0, .ref l1, .ref l2, .ref l3, .ref l4, .ref sh, .ref tp, .ref rd, .ref od, .ref nm, .int 0, .int (-1), .int 0, .int 0])] h) from hL_put (j := 1) nd22 rfl) ?_
      refine a_aastoreE (pc := 132) (t := 3) (ci := 7) rfl rfl dX11_init_132 (hL_get (j := 16) nd22 rfl) (hL_get (j := 1) nd22 rfl) (1) (rfl) (by decide) (by decide) ?_
      refine a_hp (show _ = (hL [(i1, kI 40 (fun _ => 0)), (s1, kO 7 [.ref i1, .int (-1), .int 0]), (i0, kI 40 (fun _ => 0)), (s0, kO 7 [.ref i0, .int (-1), .int 0]), (nm, kI 6 (fun _ => 0)), (oa, kL 26 (fun _ => 0)), (od, kO 2 [.ref oa]), (en, kI 3 (fun _ => 0)), (cd, kI 160 (fun _ => 0)), (tk, kO 10 [.ref k1, .ref k2, .ref k3, .int 0]), (k3, kI 161 (fun _ => 0)), (k2, kI 161 (fun _ => 0)), (k1, kI 161 (fun _ => 0)), (rd, kO 4 [.ref tk, .ref cd, .ref en, .int 0, .int 0, .int 0, .int 0]), (ta, kI 160 (fun _ => 0)), (tp, kO 8 [.ref ta, .int 0]), (sh, kQ 3 4 (va_up (va_up (fun _ => none) 0 (some s0)) 1 (some s1))), (l4, kO 13 [.int 0, .ref (X.2.2.2.1 2), .int 0]), (l3, kO 13 [.int 0, .ref (X.2.2.2.1 2), .int 0]), (l2, kO 13 [.int 0, .ref (X.2.2.2.1 2), .int 0]), (l1, kO 13 [.int 0, .ref (X.2.2.2.1 2), .int 0]), (l0, kO 13 [.int 0, .ref (X.2.2.2.1 2), .int 0]), (a, kO 11 [.ref l0, .ref l1, .ref l2, .ref l3, .ref l4, .ref sh, .ref tp, .ref rd, .ref od, .ref nm, .int 0, .int (-1), .int 0, .int 0])] h) from hL_put (j := 16) nd22 rfl) ?_
      refine a_iincN (pc := 133) (n := 1) dX11_init_133 (by decide) rfl (by decide) rfl ?_
      refine a_goto (pc := 136) (tgt := 115) dX11_init_136 (by decide) ?_
      refine a_iload_n (pc := 115) dX11_init_115 rfl rfl ?_
      refine a_iconst (pc := 116) dX11_init_116 ic_4 ?_
      refine a_icmp_geN (pc := 117) (tgt := 139) dX11_init_117 (by decide) (by omega) (by omega) (fun c117 => ?_) (fun c117 => ?_)
      · exact absurd c117 (by decide)
      · refine a_aload_n (pc := 120) dX11_init_120 rfl rfl ?_
        refine a_getfield (pc := 121) kg_X11_30 dX11_init_121 (hL_get (j := 22) nd22 rfl) rfl ?_
        refine a_iload_n (pc := 124) dX11_init_124 rfl rfl ?_
        refine a_new (pc := 125) kn_X11_28 dX11_init_125 (by rw [hM.1]; simp only [rmd]; omega) (by rw [hM.1]; simp only [rmd]; omega) (fun s2 hs2 => ?_)
        have nd23 := hL_nd (e := kO 7 [.null, .int 0, .int 0]) hs2 nd22
        have fr23 := hL_fr (e := kO 7 [.null, .int 0, .int 0]) hs2 fr22
        refine a_hp (show _ = (hL [(s2, kO 7 [.null, .int 0, .int 0]), (i1, kI 40 (fun _ => 0)), (s1, kO 7 [.ref i1, .int (-1), .int 0]), (i0, kI 40 (fun _ => 0)), (s0, kO 7 [.ref i0, .int (-1), .int 0]), (nm, kI 6 (fun _ => 0)), (oa, kL 26 (fun _ => 0)), (od, kO 2 [.ref oa]), (en, kI 3 (fun _ => 0)), (cd, kI 160 (fun _ => 0)), (tk, kO 10 [.ref k1, .ref k2, .ref k3, .int 0]), (k3, kI 161 (fun _ => 0)), (k2, kI 161 (fun _ => 0)), (k1, kI 161 (fun _ => 0)), (rd, kO 4 [.ref tk, .ref cd, .ref en, .int 0, .int 0, .int 0, .int 0]), (ta, kI 160 (fun _ => 0)), (tp, kO 8 [.ref ta, .int 0]), (sh, kQ 3 4 (va_up (va_up (fun _ => none) 0 (some s0)) 1 (some s1))), (l4, kO 13 [.int 0, .ref (X.2.2.2.1 2), .int 0]), (l3, kO 13 [.int 0, .ref (X.2.2.2.1 2), .int 0]), (l2, kO 13 [.int 0, .ref (X.2.2.2.1 2), .int 0]), (l1, kO 13 [.int 0, .ref (X.2.2.2.1 2), .int 0]), (l0, kO 13 [.int 0, .ref (X.2.2.2.1 2), .int 0]), (a, kO 11 [.ref l0, .ref l1, .ref l2, .ref l3, .ref l4, .ref sh, .ref tp, .ref rd, .ref od, .ref nm, .int 0, .int (-1), .int 0, .int 0])] h) from rfl) ?_
        refine a_dup (pc := 128) dX11_init_128 rfl ?_
        refine a_callI (pc := 129) km_X11_65 dX11_init_129 (f_shInit (hL_get (j := 0) nd23 rfl)) rfl rfl (rok_of hM (by decide) (by decide) (by omega) (by omega)) (Nat.le_of_ble_eq_true rfl) (fun r129 h129 hp129 => ?_)
        obtain ⟨rfl, i2, hi2, rfl⟩ := hp129
        have nd24 := hL_nd (e := kI 40 (fun _ => 0)) hi2 nd23
        have fr24 := hL_fr (e := kI 40 (fun _ => 0)) hi2 fr23
        refine a_hp (show _ = (hL [(i2, kI 40 (fun _ => 0)), (s2, kO 7 [.ref i2, .int (-1), .int 0]), (i1, kI 40 (fun _ => 0)), (s1, kO 7 [.ref i1, .int (-1), .int 0]), (i0, kI 40 (fun _ => 0)), (s0, kO 7 [.ref i0, .int (-1), .int 0]), (nm, kI 6 (fun _ => 0)), (oa, kL 26 (fun _ => 0)), (od, kO 2 [.ref oa]), (en, kI 3 (fun _ => 0)), (cd, kI 160 (fun _ => 0)), (tk, kO 10 [.ref k1, .ref k2, .ref k3, .int 0]), (k3, kI 161 (fun _ => 0)), (k2, kI 161 (fun _ => 0)), (k1, kI 161 (fun _ => 0)), (rd, kO 4 [.ref tk, .ref cd, .ref en, .int 0, .int 0, .int 0, .int 0]), (ta, kI 160 (fun _ => 0)), (tp, kO 8 [.ref ta, .int 0]), (sh, kQ 3 4 (va_up (va_up (fun _ => none) 0 (some s0)) 1 (some s1))), (l4, kO 13 [.int 0, .ref (X.2.2.2.1 2), .int 0]), (l3, kO 13 [.int 0, .ref (X.2.2.2.1 2), .int 0]), (l2, kO 13 [.int 0, .ref (X.2.2.2.1 2), .int 0]), (l1, kO 13 [.int 0, .ref (X.2.2.2.1 2), .int 0]), (l0, kO 13 [.int 0, .ref (X.2.2.2.1 2), .int 0]), (a, kO 11 [.ref l0, .ref l1, .ref l2, .ref l3, .ref l4, .ref sh, .ref tp, .ref rd, .ref od, .ref nm, .int 0, .int (-1), .int 0, .int 0])] h) from hL_put (j := 1) nd24 rfl) ?_
        refine a_aastoreE (pc := 132) (t := 3) (ci := 7) rfl rfl dX11_init_132 (hL_get (j := 18) nd24 rfl) (hL_get (j := 1) nd24 rfl) (2) (rfl) (by decide) (by decide) ?_
        refine a_hp (show _ = (hL [(i2, kI 40 (fun _ => 0)), (s2, kO 7 [.ref i2, .int (-1), .int 0]), (i1, kI 40 (fun _ => 0)), (s1, kO 7 [.ref i1, .int (-1), .int 0]), (i0, kI 40 (fun _ => 0)), (s0, kO 7 [.ref i0, .int (-1), .int 0]), (nm, kI 6 (fun _ => 0)), (oa, kL 26 (fun _ => 0)), (od, kO 2 [.ref oa]), (en, kI 3 (fun _ => 0)), (cd, kI 160 (fun _ => 0)), (tk, kO 10 [.ref k1, .ref k2, .ref k3, .int 0]), (k3, kI 161 (fun _ => 0)), (k2, kI 161 (fun _ => 0)), (k1, kI 161 (fun _ => 0)), (rd, kO 4 [.ref tk, .ref cd, .ref en, .int 0, .int 0, .int 0, .int 0]), (ta, kI 160 (fun _ => 0)), (tp, kO 8 [.ref ta, .int 0]), (sh, kQ 3 4 (va_up (va_up (va_up (fun _ => none) 0 (some s0)) 1 (some s1)) 2 (some s2))), (l4, kO 13 [.int 0, .ref (X.2.2.2.1 2), .int 0]), (l3, kO 13 [.int 0, .ref (X.2.2.2.1 2), .int 0]), (l2, kO 13 [.int 0, .ref (X.2.2.2.1 2), .int 0]), (l1, kO 13 [.int 0, .ref (X.2.2.2.1 2), .int 0]), (l0, kO 13 [.int 0, .ref (X.2.2.2.1 2), .int 0]), (a, kO 11 [.ref l0, .ref l1, .ref l2, .ref l3, .ref l4, .ref sh, .ref tp, .ref rd, .ref od, .ref nm, .int 0, .int (-1), .int 0, .int 0])] h) from hL_put (j := 18) nd24 rfl) ?_
        refine a_iincN (pc := 133) (n := 1) dX11_init_133 (by decide) rfl (by decide) rfl ?_
        refine a_goto (pc := 136) (tgt := 115) dX11_init_136 (by decide) ?_
        refine a_iload_n (pc := 115) dX11_init_115 rfl rfl ?_
        refine a_iconst (pc := 116) dX11_init_116 ic_4 ?_
        refine a_icmp_geN (pc := 117) (tgt := 139) dX11_init_117 (by decide) (by omega) (by omega) (fun c117 => ?_) (fun c117 => ?_)
        · exact absurd c117 (by decide)
        · refine a_aload_n (pc := 120) dX11_init_120 rfl rfl ?_
          refine a_getfield (pc := 121) kg_X11_30 dX11_init_121 (hL_get (j := 24) nd24 rfl) rfl ?_
          refine a_iload_n (pc := 124) dX11_init_124 rfl rfl ?_
          refine a_new (pc := 125) kn_X11_28 dX11_init_125 (by rw [hM.1]; simp only [rmd]; omega) (by rw [hM.1]; simp only [rmd]; omega) (fun s3 hs3 => ?_)
          have nd25 := hL_nd (e := kO 7 [.null, .int 0, .int 0]) hs3 nd24
          have fr25 := hL_fr (e := kO 7 [.null, .int 0, .int 0]) hs3 fr24
          refine a_hp (show _ = (hL [(s3, kO 7 [.null, .int 0, .int 0]), (i2, kI 40 (fun _ => 0)), (s2, kO 7 [.ref i2, .int (-1), .int 0]), (i1, kI 40 (fun _ => 0)), (s1, kO 7 [.ref i1, .int (-1), .int 0]), (i0, kI 40 (fun _ => 0)), (s0, kO 7 [.ref i0, .int (-1), .int 0]), (nm, kI 6 (fun _ => 0)), (oa, kL 26 (fun _ => 0)), (od, kO 2 [.ref oa]), (en, kI 3 (fun _ => 0)), (cd, kI 160 (fun _ => 0)), (tk, kO 10 [.ref k1, .ref k2, .ref k3, .int 0]), (k3, kI 161 (fun _ => 0)), (k2, kI 161 (fun _ => 0)), (k1, kI 161 (fun _ => 0)), (rd, kO 4 [.ref tk, .ref cd, .ref en, .int 0, .int 0, .int 0, .int 0]), (ta, kI 160 (fun _ => 0)), (tp, kO 8 [.ref ta, .int 0]), (sh, kQ 3 4 (va_up (va_up (va_up (fun _ => none) 0 (some s0)) 1 (some s1)) 2 (some s2))), (l4, kO 13 [.int 0, .ref (X.2.2.2.1 2), .int 0]), (l3, kO 13 [.int 0, .ref (X.2.2.2.1 2), .int 0]), (l2, kO 13 [.int 0, .ref (X.2.2.2.1 2), .int 0]), (l1, kO 13 [.int 0, .ref (X.2.2.2.1 2), .int 0]), (l0, kO 13 [.int 0, .ref (X.2.2.2.1 2), .int 0]), (a, kO 11 [.ref l0, .ref l1, .ref l2, .ref l3, .ref l4, .ref sh, .ref tp, .ref rd, .ref od, .ref nm, .int 0, .int (-1), .int 0, .int 0])] h) from rfl) ?_
          refine a_dup (pc := 128) dX11_init_128 rfl ?_
          refine a_callI (pc := 129) km_X11_65 dX11_init_129 (f_shInit (hL_get (j := 0) nd25 rfl)) rfl rfl (rok_of hM (by decide) (by decide) (by omega) (by omega)) (Nat.le_of_ble_eq_true rfl) (fun r129 h129 hp129 => ?_)
          obtain ⟨rfl, i3, hi3, rfl⟩ := hp129
          have nd26 := hL_nd (e := kI 40 (fun _ => 0)) hi3 nd25
          have fr26 := hL_fr (e := kI 40 (fun _ => 0)) hi3 fr25
          refine a_hp (show _ = (hL [(i3, kI 40 (fun _ => 0)), (s3, kO 7 [.ref i3, .int (-1), .int 0]), (i2, kI 40 (fun _ => 0)), (s2, kO 7 [.ref i2, .int (-1), .int 0]), (i1, kI 40 (fun _ => 0)), (s1, kO 7 [.ref i1, .int (-1), .int 0]), (i0, kI 40 (fun _ => 0)), (s0, kO 7 [.ref i0, .int (-1), .int 0]), (nm, kI 6 (fun _ => 0)), (oa, kL 26 (fun _ => 0)), (od, kO 2 [.ref oa]), (en, kI 3 (fun _ => 0)), (cd, kI 160 (fun _ => 0)), (tk, kO 10 [.ref k1, .ref k2, .ref k3, .int 0]), (k3, kI 161 (fun _ => 0)), (k2, kI 161 (fun _ => 0)), (k1, kI 161 (fun _ => 0)), (rd, kO 4 [.ref tk, .ref cd, .ref en, .int 0, .int 0, .int 0, .int 0]), (ta, kI 160 (fun _ => 0)), (tp, kO 8 [.ref ta, .int 0]), (sh, kQ 3 4 (va_up (va_up (va_up (fun _ => none) 0 (some s0)) 1 (some s1)) 2 (some s2))), (l4, kO 13 [.int 0, .ref (X.2.2.2.1 2), .int 0]), (l3, kO 13 [.int 0, .ref (X.2.2.2.1 2), .int 0]), (l2, kO 13 [.int 0, .ref (X.2.2.2.1 2), .int 0]), (l1, kO 13 [.int 0, .ref (X.2.2.2.1 2), .int 0]), (l0, kO 13 [.int 0, .ref (X.2.2.2.1 2), .int 0]), (a, kO 11 [.ref l0, .ref l1, .ref l2, .ref l3, .ref l4, .ref sh, .ref tp, .ref rd, .ref od, .ref nm, .int 0, .int (-1), .int 0, .int 0])] h) from hL_put (j := 1) nd26 rfl) ?_
          refine a_aastoreE (pc := 132) (t := 3) (ci := 7) rfl rfl dX11_init_132 (hL_get (j := 20) nd26 rfl) (hL_get (j := 1) nd26 rfl) (3) (rfl) (by decide) (by decide) ?_
          refine a_hp (show _ = (hL [(i3, kI 40 (fun _ => 0)), (s3, kO 7 [.ref i3, .int (-1), .int 0]), (i2, kI 40 (fun _ => 0)), (s2, kO 7 [.ref i2, .int (-1), .int 0]), (i1, kI 40 (fun _ => 0)), (s1, kO 7 [.ref i1, .int (-1), .int 0]), (i0, kI 40 (fun _ => 0)), (s0, kO 7 [.ref i0, .int (-1), .int 0]), (nm, kI 6 (fun _ => 0)), (oa, kL 26 (fun _ => 0)), (od, kO 2 [.ref oa]), (en, kI 3 (fun _ => 0)), (cd, kI 160 (fun _ => 0)), (tk, kO 10 [.ref k1, .ref k2, .ref k3, .int 0]), (k3, kI 161 (fun _ => 0)), (k2, kI 161 (fun _ => 0)), (k1, kI 161 (fun _ => 0)), (rd, kO 4 [.ref tk, .ref cd, .ref en, .int 0, .int 0, .int 0, .int 0]), (ta, kI 160 (fun _ => 0)), (tp, kO 8 [.ref ta, .int 0]), (sh, kQ 3 4 (va_up (va_up (va_up (va_up (fun _ => none) 0 (some s0)) 1 (some s1)) 2 (some s2)) 3 (some s3))), (l4, kO 13 [.int 0, .ref (X.2.2.2.1 2), .int 0]), (l3, kO 13 [.int 0, .ref (X.2.2.2.1 2), .int 0]), (l2, kO 13 [.int 0, .ref (X.2.2.2.1 2), .int 0]), (l1, kO 13 [.int 0, .ref (X.2.2.2.1 2), .int 0]), (l0, kO 13 [.int 0, .ref (X.2.2.2.1 2), .int 0]), (a, kO 11 [.ref l0, .ref l1, .ref l2, .ref l3, .ref l4, .ref sh, .ref tp, .ref rd, .ref od, .ref nm, .int 0, .int (-1), .int 0, .int 0])] h) from hL_put (j := 20) nd26 rfl) ?_
          refine a_iincN (pc := 133) (n := 1) dX11_init_133 (by decide) rfl (by decide) rfl ?_
          refine a_goto (pc := 136) (tgt := 115) dX11_init_136 (by decide) ?_
          refine a_iload_n (pc := 115) dX11_init_115 rfl rfl ?_
          refine a_iconst (pc := 116) dX11_init_116 ic_4 ?_
          refine a_icmp_geN (pc := 117) (tgt := 139) dX11_init_117 (by decide) (by omega) (by omega) (fun c117 => ?_) (fun c117 => ?_)
          · refine a_iconst (pc := 139) dX11_init_139 ic_0 ?_
            refine a_istore_n (pc := 140) dX11_init_140 rfl (by decide) rfl ?_
            have ndX : ∀ k : Nat, (([(i3, kI 40 (fun _ => 0)), (s3, kO 7 [.ref i3, .int (-1), .int 0]), (i2, kI 40 (fun _ => 0)), (s2, kO 7 [.ref i2, .int (-1), .int 0]), (i1, kI 40 (fun _ => 0)), (s1, kO 7 [.ref i1, .int (-1), .int 0]), (i0, kI 40 (fun _ => 0)), (s0, kO 7 [.ref i0, .int (-1), .int 0]), (nm, kI 6 (fun _ => 0)), (oa, kL 26 (fun _ => 0)), (od, kO 2 [.ref oa]), (en, kI 3 (fun _ => 0)), (cd, kI 160 (fun _ => 0)), (tk, kO 10 [.ref k1, .ref k2, .ref k3, .int 0]), (k3, kI 161 (fun _ => 0)), (k2, kI 161 (fun _ => 0)), (k1, kI 161 (fun _ => 0)), (rd, kO 4 [.ref tk, .ref cd, .ref en, .int 0, .int 0, .int 0, .int 0]), (ta, kI 160 (fillO (sB 0) (fun _ => 0) 0 k)), (tp, kO 8 [.ref ta, .int (nI k)]), (sh, kQ 3 4 (va_up (va_up (va_up (va_up (fun _ => none) 0 (some s0)) 1 (some s1)) 2 (some s2)) 3 (some s3))), (l4, kO 13 [.int 0, .ref (X.2.2.2.1 2), .int 0]), (l3, kO 13 [.int 0, .ref (X.2.2.2.1 2), .int 0]), (l2, kO 13 [.int 0, .ref (X.2.2.2.1 2), .int 0]), (l1, kO 13 [.int 0, .ref (X.2.2.2.1 2), .int 0]), (l0, kO 13 [.int 0, .ref (X.2.2.2.1 2), .int 0]), (a, kO 11 [.ref l0, .ref l1, .ref l2, .ref l3, .ref l4, .ref sh, .ref tp, .ref rd, .ref od, .ref nm, .int 0, .int (-1), .int 0, .int 0])] : List (Nat × kE)).map Prod.fst).Nodup := fun _ => nd26
            have lp : ∀ (d k : Nat), 54 - k = d → k ≤ 54 → AJ X M yX11_init cX11_init 2 none 141 [(0, .ref a), (1, .int (nI k))] [] (hL [(i3, kI 40 (fun _ => 0)), (s3, kO 7 [.ref i3, .int (-1), .int 0]), (i2, kI 40 (fun _ => 0)), (s2, kO 7 [.ref i2, .int (-1), .int 0]), (i1, kI 40 (fun _ => 0)), (s1, kO 7 [.ref i1, .int (-1), .int 0]), (i0, kI 40 (fun _ => 0)), (s0, kO 7 [.ref i0, .int (-1), .int 0]), (nm, kI 6 (fun _ => 0)), (oa, kL 26 (fun _ => 0)), (od, kO 2 [.ref oa]), (en, kI 3 (fun _ => 0)), (cd, kI 160 (fun _ => 0)), (tk, kO 10 [.ref k1, .ref k2, .ref k3, .int 0]), (k3, kI 161 (fun _ => 0)), (k2, kI 161 (fun _ => 0)), (k1, kI 161 (fun _ => 0)), (rd, kO 4 [.ref tk, .ref cd, .ref en, .int 0, .int 0, .int 0, .int 0]), (ta, kI 160 (fillO (sB 0) (fun _ => 0) 0 k)), (tp, kO 8 [.ref ta, .int (nI k)]), (sh, kQ 3 4 (va_up (va_up (va_up (va_up (fun _ => none) 0 (some s0)) 1 (some s1)) 2 (some s2)) 3 (some s3))), (l4, kO 13 [.int 0, .ref (X.2.2.2.1 2), .int 0]), (l3, kO 13 [.int 0, .ref (X.2.2.2.1 2), .int 0]), (l2, kO 13 [.int 0, .ref (X.2.2.2.1 2), .int 0]), (l1, kO 13 [.int 0, .ref (X.2.2.2.1 2), .int 0]), (l0, kO 13 [.int 0, .ref (X.2.2.2.1 2), .int 0]), (a, kO 11 [.ref l0, .ref l1, .ref l2, .ref l3, .ref l4, .ref sh, .ref tp, .ref rd, .ref od, .ref nm, .int 0, .int (-1), .int 0, .int 0])] h) 27 1500 := by
              intro d
              induction d with
              | zero =>
                intro k hd hle
                refine a_iload_n (pc := 141) dX11_init_141 rfl rfl ?_
                refine a_ldcS (pc := 142) (q := ("FiveCards", 66, "stop 8 < hits ; keep 4 < hits ; say hits - leaks - 5 ;", 0)) (by decide +kernel) rfl dX11_init_142 ?_
                refine a_callV (pc := 144) km_X11_68 dX11_init_144 (f_slen (i := 0) (by decide)) rfl rfl (krecv_str (i := 0) (by decide)) (rok_of hM (by decide) (by decide) (by omega) (by omega)) (Nat.le_of_ble_eq_true rfl) (fun r144 h144 hp144 => ?_)
                obtain ⟨rfl, rfl⟩ := And.intro hp144.1 hp144.2.symm
                refine a_topi (show _ = nI 54 from rfl) ?_
                refine a_icmp_geN (pc := 147) (tgt := 169) dX11_init_147 (by decide) (by omega) (by omega) (fun c147 => ?_) (fun c147 => ?_)
                · have hk : k = 54 := by omega
                  subst hk
                  refine a_aload_n (pc := 169) dX11_init_169 rfl rfl ?_
                  refine a_callV (pc := 170) km_X11_82 dX11_init_170 (f_creadTape (CI_init nd26) RT_u) rfl rfl (kr_t (CI_init nd26)) (rok_of hM (by decide) (by decide) (by omega) (by omega)) (Nat.le_of_ble_eq_true rfl) (fun r170 h170 hp170 => ?_)
                  obtain ⟨rfl, -, hE⟩ := hp170
                  rw [if_neg (by rw [tp_u]; decide)] at hE
                  refine a_pop (pc := 173) dX11_init_173 rfl ?_
                  refine a_ret_v (pc := 174) hM rfl dX11_init_174 (by omega) (by omega) ?_
                  obtain ⟨σ', z0, hI', hF'⟩ := hE
                  refine ⟨rfl, σ', (z0 0 0 (by decide)).trans rfl, fun s hB => ?_⟩
                  have hS := beg_ci hB hI'
                  refine ⟨hS.2.1, fun x hx hxa => ?_⟩
                  have hk : x ∉ [i3, s3, i2, s2, i1, s1, i0, s0, nm, oa, od, en, cd, tk, k3, k2, k1, rd, ta, tp, sh, l4, l3, l2, l1, l0, a] := fun z => (fr26 x z).elim hxa hx
                  have hx1 : (hL [(i3, kI 40 (fun _ => 0)), (s3, kO 7 [.ref i3, .int (-1), .int 0]), (i2, kI 40 (fun _ => 0)), (s2, kO 7 [.ref i2, .int (-1), .int 0]), (i1, kI 40 (fun _ => 0)), (s1, kO 7 [.ref i1, .int (-1), .int 0]), (i0, kI 40 (fun _ => 0)), (s0, kO 7 [.ref i0, .int (-1), .int 0]), (nm, kI 6 (fun _ => 0)), (oa, kL 26 (fun _ => 0)), (od, kO 2 [.ref oa]), (en, kI 3 (fun _ => 0)), (cd, kI 160 (fun _ => 0)), (tk, kO 10 [.ref k1, .ref k2, .ref k3, .int 0]), (k3, kI 161 (fun _ => 0)), (k2, kI 161 (fun _ => 0)), (k1, kI 161 (fun _ => 0)), (rd, kO 4 [.ref tk, .ref cd, .ref en, .int 0, .int 0, .int 0, .int 0]), (ta, kI 160 (fillO (sB 0) (fun _ => 0) 0 54)), (tp, kO 8 [.ref ta, .int (nI 54)]), (sh, kQ 3 4 (va_up (va_up (va_up (va_up (fun _ => none) 0 (some s0)) 1 (some s1)) 2 (some s2)) 3 (some s3))), (l4, kO 13 [.int 0, .ref (X.2.2.2.1 2), .int 0]), (l3, kO 13 [.int 0, .ref (X.2.2.2.1 2), .int 0]), (l2, kO 13 [.int 0, .ref (X.2.2.2.1 2), .int 0]), (l1, kO 13 [.int 0, .ref (X.2.2.2.1 2), .int 0]), (l0, kO 13 [.int 0, .ref (X.2.2.2.1 2), .int 0]), (a, kO 11 [.ref l0, .ref l1, .ref l2, .ref l3, .ref l4, .ref sh, .ref tp, .ref rd, .ref od, .ref nm, .int 0, .int (-1), .int 0, .int 0])] h) x = h x := hL_out hk
                  obtain ⟨f1, f2⟩ := hF' x (by rw [hx1]; exact hx) (fun k i hc z => hk (by rw [z]; exact sg_mem rfl hc))
                  exact ⟨f1.trans hx1, fun k i hc => f2 k i ((hS.1 k i).mp hc)⟩
                · exact absurd c147 (by omega)
              | succ d ih =>
                intro k hd hle
                refine a_iload_n (pc := 141) dX11_init_141 rfl rfl ?_
                refine a_ldcS (pc := 142) (q := ("FiveCards", 66, "stop 8 < hits ; keep 4 < hits ; say hits - leaks - 5 ;", 0)) (by decide +kernel) rfl dX11_init_142 ?_
                refine a_callV (pc := 144) km_X11_68 dX11_init_144 (f_slen (i := 0) (by decide)) rfl rfl (krecv_str (i := 0) (by decide)) (rok_of hM (by decide) (by decide) (by omega) (by omega)) (Nat.le_of_ble_eq_true rfl) (fun r144 h144 hp144 => ?_)
                obtain ⟨rfl, rfl⟩ := And.intro hp144.1 hp144.2.symm
                refine a_topi (show _ = nI 54 from rfl) ?_
                refine a_icmp_geN (pc := 147) (tgt := 169) dX11_init_147 (by decide) (by omega) (by omega) (fun c147 => ?_) (fun c147 => ?_)
                · exact absurd c147 (by omega)
                · refine a_aload_n (pc := 150) dX11_init_150 rfl rfl ?_
                  refine a_getfield (pc := 151) kg_X11_37 dX11_init_151 (hL_get (j := 26) (ndX k) rfl) rfl ?_
                  refine a_ldcS (pc := 154) (q := ("FiveCards", 66, "stop 8 < hits ; keep 4 < hits ; say hits - leaks - 5 ;", 0)) (by decide +kernel) rfl dX11_init_154 ?_
                  refine a_iload_n (pc := 156) dX11_init_156 rfl rfl ?_
                  refine a_callV (pc := 157) km_X11_74 dX11_init_157 (f_charAt (i := 0) (j := k) (by decide) (show k < 54 by omega)) rfl rfl (krecv_str (i := 0) (by decide)) (rok_of hM (by decide) (by decide) (by omega) (by omega)) (Nat.le_of_ble_eq_true rfl) (fun r157 h157 hp157 => ?_)
                  obtain ⟨rfl, rfl⟩ := And.intro hp157.1 hp157.2.symm
                  refine a_callV (pc := 160) km_X11_78 dX11_init_160 (f_tadd (z := k) ⟨hL_get (j := 19) (ndX k) rfl, hL_get (j := 18) (ndX k) rfl, by omega⟩ (sB 0 k) (by omega)) rfl rfl (krecv_of (ci := 8) rfl (hL_get (j := 19) (ndX k) rfl)) (rok_of hM (by decide) (by decide) (by omega) (by omega)) (Nat.le_of_ble_eq_true rfl) (fun r160 h160 hp160 => ?_)
                  obtain ⟨rfl, rfl⟩ := hp160
                  refine a_hp (bytes_put (j1 := 18) (j2 := 19) (ndX k) rfl rfl) ?_
                  refine a_hp (show _ = (hL [(i3, kI 40 (fun _ => 0)), (s3, kO 7 [.ref i3, .int (-1), .int 0]), (i2, kI 40 (fun _ => 0)), (s2, kO 7 [.ref i2, .int (-1), .int 0]), (i1, kI 40 (fun _ => 0)), (s1, kO 7 [.ref i1, .int (-1), .int 0]), (i0, kI 40 (fun _ => 0)), (s0, kO 7 [.ref i0, .int (-1), .int 0]), (nm, kI 6 (fun _ => 0)), (oa, kL 26 (fun _ => 0)), (od, kO 2 [.ref oa]), (en, kI 3 (fun _ => 0)), (cd, kI 160 (fun _ => 0)), (tk, kO 10 [.ref k1, .ref k2, .ref k3, .int 0]), (k3, kI 161 (fun _ => 0)), (k2, kI 161 (fun _ => 0)), (k1, kI 161 (fun _ => 0)), (rd, kO 4 [.ref tk, .ref cd, .ref en, .int 0, .int 0, .int 0, .int 0]), (ta, kI 160 (fillO (sB 0) (fun _ => 0) 0 (k + 1))), (tp, kO 8 [.ref ta, .int (nI (k + 1))]), (sh, kQ 3 4 (va_up (va_up (va_up (va_up (fun _ => none) 0 (some s0)) 1 (some s1)) 2 (some s2)) 3 (some s3))), (l4, kO 13 [.int 0, .ref (X.2.2.2.1 2), .int 0]), (l3, kO 13 [.int 0, .ref (X.2.2.2.1 2), .int 0]), (l2, kO 13 [.int 0, .ref (X.2.2.2.1 2), .int 0]), (l1, kO 13 [.int 0, .ref (X.2.2.2.1 2), .int 0]), (l0, kO 13 [.int 0, .ref (X.2.2.2.1 2), .int 0]), (a, kO 11 [.ref l0, .ref l1, .ref l2, .ref l3, .ref l4, .ref sh, .ref tp, .ref rd, .ref od, .ref nm, .int 0, .int (-1), .int 0, .int 0])] h) from by rw [← fill0_s]; rfl) ?_
                  refine a_iincN (pc := 163) (n := 1) dX11_init_163 (by decide) rfl (by decide) rfl ?_
                  refine a_goto (pc := 166) (tgt := 141) dX11_init_166 (by decide) ?_
                  exact a_locR (ih (k + 1) (by omega) (by omega)) ⟨rfl, rfl, trivial⟩
            refine a_hp (show _ = (hL [(i3, kI 40 (fun _ => 0)), (s3, kO 7 [.ref i3, .int (-1), .int 0]), (i2, kI 40 (fun _ => 0)), (s2, kO 7 [.ref i2, .int (-1), .int 0]), (i1, kI 40 (fun _ => 0)), (s1, kO 7 [.ref i1, .int (-1), .int 0]), (i0, kI 40 (fun _ => 0)), (s0, kO 7 [.ref i0, .int (-1), .int 0]), (nm, kI 6 (fun _ => 0)), (oa, kL 26 (fun _ => 0)), (od, kO 2 [.ref oa]), (en, kI 3 (fun _ => 0)), (cd, kI 160 (fun _ => 0)), (tk, kO 10 [.ref k1, .ref k2, .ref k3, .int 0]), (k3, kI 161 (fun _ => 0)), (k2, kI 161 (fun _ => 0)), (k1, kI 161 (fun _ => 0)), (rd, kO 4 [.ref tk, .ref cd, .ref en, .int 0, .int 0, .int 0, .int 0]), (ta, kI 160 (fillO (sB 0) (fun _ => 0) 0 0)), (tp, kO 8 [.ref ta, .int (nI 0)]), (sh, kQ 3 4 (va_up (va_up (va_up (va_up (fun _ => none) 0 (some s0)) 1 (some s1)) 2 (some s2)) 3 (some s3))), (l4, kO 13 [.int 0, .ref (X.2.2.2.1 2), .int 0]), (l3, kO 13 [.int 0, .ref (X.2.2.2.1 2), .int 0]), (l2, kO 13 [.int 0, .ref (X.2.2.2.1 2), .int 0]), (l1, kO 13 [.int 0, .ref (X.2.2.2.1 2), .int 0]), (l0, kO 13 [.int 0, .ref (X.2.2.2.1 2), .int 0]), (a, kO 11 [.ref l0, .ref l1, .ref l2, .ref l3, .ref l4, .ref sh, .ref tp, .ref rd, .ref od, .ref nm, .int 0, .int (-1), .int 0, .int 0])] h) from by rw [fillO_0]; rfl) ?_
            exact a_wid (by omega) (by omega) (a_locR (lp _ 0 rfl (Nat.zero_le _)) ⟨rfl, rfl, trivial⟩)
          · exact absurd c117 (by decide)

end CPR

/-! THE CLASS READS: parts and chains -/
section CRP
variable {X : KX} {h : AH} {s : MST}
theorem lv_cases (x : Int32) : (x = nI 9 ∧ lvI x = nI 0) ∨ (x = nI 10 ∧ lvI x = nI 1) ∨ ((x = nI 60 ∨ x = nI 61) ∧ lvI x = nI 2) ∨ ((x = nI 43 ∨ x = nI 45) ∧ lvI x = nI 3) ∨ (x = nI 42 ∧ lvI x = nI 4) ∨ (lvI x = -1 ∧ x ≠ nI 9 ∧ x ≠ nI 10 ∧ x ≠ nI 60 ∧ x ≠ nI 61 ∧ x ≠ nI 43 ∧ x ≠ nI 45 ∧ x ≠ nI 42) := by
  by_cases h9 : x = nI 9
  · subst h9; exact Or.inl ⟨rfl, by decide +kernel⟩
  by_cases h10 : x = nI 10
  · subst h10; exact Or.inr (Or.inl ⟨rfl, by decide +kernel⟩)
  by_cases h60 : x = nI 60
  · subst h60; exact Or.inr (Or.inr (Or.inl ⟨Or.inl rfl, by decide +kernel⟩))
  by_cases h61 : x = nI 61
  · subst h61; exact Or.inr (Or.inr (Or.inl ⟨Or.inr rfl, by decide +kernel⟩))
  by_cases h43 : x = nI 43
  · subst h43; exact Or.inr (Or.inr (Or.inr (Or.inl ⟨Or.inl rfl, by decide +kernel⟩)))
  by_cases h45 : x = nI 45
  · subst h45; exact Or.inr (Or.inr (Or.inr (Or.inl ⟨Or.inr rfl, by decide +kernel⟩)))
  by_cases h42 : x = nI 42
  · subst h42; exact Or.inr (Or.inr (Or.inr (Or.inr (Or.inl ⟨rfl, by decide +kernel⟩))))
  exact Or.inr (Or.inr (Or.inr (Or.inr (Or.inr ⟨by rw [lvI, if_neg h9, if_neg h10, if_neg (fun q => q.elim h60 h61), if_neg (fun q => q.elim h43 h45), if_neg h42], h9, h10, h60, h61, h43, h45, h42⟩))))
theorem lv_0 {x : Int32} : lvI x = nI 0 ↔ x = nI 9 := by
  constructor
  · intro e
    rcases lv_cases x with ⟨q, z⟩ | ⟨q, z⟩ | ⟨q, z⟩ | ⟨q, z⟩ | ⟨q, z⟩ | ⟨z, q⟩
    · exact q
    all_goals exact absurd (z.symm.trans e) (by decide)
  · intro e; rw [e]; decide +kernel
theorem lv_1 {x : Int32} : lvI x = nI 1 ↔ x = nI 10 := by
  constructor
  · intro e
    rcases lv_cases x with ⟨q, z⟩ | ⟨q, z⟩ | ⟨q, z⟩ | ⟨q, z⟩ | ⟨q, z⟩ | ⟨z, q⟩
    · exact absurd (z.symm.trans e) (by decide)
    · exact q
    all_goals exact absurd (z.symm.trans e) (by decide)
  · intro e; rw [e]; decide +kernel
theorem lv_2 {x : Int32} : lvI x = nI 2 ↔ x = nI 60 ∨ x = nI 61 := by
  constructor
  · intro e
    rcases lv_cases x with ⟨q, z⟩ | ⟨q, z⟩ | ⟨q, z⟩ | ⟨q, z⟩ | ⟨q, z⟩ | ⟨z, q⟩
    · exact absurd (z.symm.trans e) (by decide)
    · exact absurd (z.symm.trans e) (by decide)
    · exact q
    all_goals exact absurd (z.symm.trans e) (by decide)
  · rintro (e | e) <;> rw [e] <;> decide +kernel
theorem lv_3 {x : Int32} : lvI x = nI 3 ↔ x = nI 43 ∨ x = nI 45 := by
  constructor
  · intro e
    rcases lv_cases x with ⟨q, z⟩ | ⟨q, z⟩ | ⟨q, z⟩ | ⟨q, z⟩ | ⟨q, z⟩ | ⟨z, q⟩
    · exact absurd (z.symm.trans e) (by decide)
    · exact absurd (z.symm.trans e) (by decide)
    · exact absurd (z.symm.trans e) (by decide)
    · exact q
    all_goals exact absurd (z.symm.trans e) (by decide)
  · rintro (e | e) <;> rw [e] <;> decide +kernel
theorem lv_4 {x : Int32} : lvI x = nI 4 ↔ x = nI 42 := by
  constructor
  · intro e
    rcases lv_cases x with ⟨q, z⟩ | ⟨q, z⟩ | ⟨q, z⟩ | ⟨q, z⟩ | ⟨q, z⟩ | ⟨z, q⟩
    · exact absurd (z.symm.trans e) (by decide)
    · exact absurd (z.symm.trans e) (by decide)
    · exact absurd (z.symm.trans e) (by decide)
    · exact absurd (z.symm.trans e) (by decide)
    · exact q
    · exact absurd (z.symm.trans e) (by decide)
  · intro e; rw [e]; decide +kernel
theorem tk_or {p : PS} (hw : wtP p) : tkOf p = nI 9 ↔ isW p (lN 423) = true := by
  have := tk_W hw (w := 9) (by decide)
  rwa [show wV 9 = 423 by decide +kernel] at this
theorem tk_and {p : PS} (hw : wtP p) : tkOf p = nI 10 ↔ isW p (lN 1111) = true := by
  have := tk_W hw (w := 10) (by decide)
  rwa [show wV 10 = 1111 by decide +kernel] at this
theorem tk_not {p : PS} (hw : wtP p) : tkOf p = nI 11 ↔ isW p (lN 10631) = true := by
  have := tk_W hw (w := 11) (by decide)
  rwa [show wV 11 = 10631 by decide +kernel] at this
def cmpF (b : Nat → Int32) (Z : Nat) (ad : PS → Rs) (p : PS) : Rs :=
  if isS (ad p).2 60 = true then (eBin 6 fLt (ad p).1 (ad (nextF b Z (ad p).2)).1, (ad (nextF b Z (ad p).2)).2)
  else if isS (ad p).2 61 = true then (eBin 7 fEq (ad p).1 (ad (nextF b Z (ad p).2)).1, (ad (nextF b Z (ad p).2)).2)
  else ad p
theorem gd_S {p : PS} {c : Nat} (h : isS p c = true) : pBad p = false ∧ gdT p := by
  have := isS_3 h
  exact ⟨this.1, by omega, by omega⟩
theorem gd_W {p : PS} {x : Int64} (h : isW p x = true) : pBad p = false ∧ gdT p := by
  have := isW_1 h
  exact ⟨this.1, by omega, by omega⟩
theorem c_part4 {F Z r t kk pp nn cd en c : Nat} {fk fp fn : Nat → Int32} (d : RF h r t kk pp nn cd c fk fp fn) (hT : TokOk (byP s F Z) Z c fk fp fn) (hZ : Z ≤ 160) {j dd d1 : Nat} (hd1 : d1 + 1 ≤ dd) {on : PS → Rs} (hon : crC X h r t cd en c (byP s F Z) Z d1 j yX4_one cX4_one 3 [.int (nI (5 - j))] (on)) : crC X h r t cd en c (byP s F Z) Z dd j yX4_part cX4_part 3 [.int (nI 4), .int (nI (5 - j))] (on) := by
  intro p L k tk ft fc hg hj hR hL hLk
  refine fn_of (by decide) (Nat.le_of_ble_eq_true rfl) (fun M hM => ?_)
  refine a_iload_n (pc := 0) dX4_part_0 rfl rfl ?_
  refine a_iconst (pc := 1) dX4_part_1 ic_4 ?_
  refine a_icmp_ltN (pc := 2) (tgt := 13) dX4_part_2 (by decide) (by omega) (by omega) (fun c2 => ?_) (fun c2 => ?_)
  · exact absurd c2 (by omega)
  · refine a_aload_n (pc := 5) dX4_part_5 rfl rfl ?_
    refine a_iload_n (pc := 6) dX4_part_6 rfl rfl ?_
    refine a_callV (pc := 7) km_X4_91 dX4_part_7 (hon p L k tk ft fc hg hj hR hL hLk) rfl rfl (krecv_of (by rfl) RH_r) (rok_of hM (by omega) (by decide) (by omega) (by omega)) (Nat.le_of_ble_eq_true rfl) (fun r7 h7 hp7 => ?_)
    obtain ⟨rfl, hP⟩ := hp7
    refine a_goto (pc := 10) (tgt := 43) dX4_part_10 (by decide) ?_
    refine a_ret_v (pc := 43) hM rfl dX4_part_43 (by omega) (by omega) ?_
    exact ⟨rfl, hP⟩
theorem c_part0 {F Z r t kk pp nn cd en c : Nat} {fk fp fn : Nat → Int32} (d : RF h r t kk pp nn cd c fk fp fn) (hT : TokOk (byP s F Z) Z c fk fp fn) (hZ : Z ≤ 160) {j dd d1 : Nat} (hd1 : d1 + 1 ≤ dd) {G : PS → Rs} (hG : crC X h r t cd en c (byP s F Z) Z d1 j yX4_chain cX4_chain 5 [.int (nI 1), .int (nI (5 - j))] (G)) : crC X h r t cd en c (byP s F Z) Z dd j yX4_part cX4_part 3 [.int (nI 0), .int (nI (5 - j))] (G) := by
  intro p L k tk ft fc hg hj hR hL hLk
  refine fn_of (by decide) (Nat.le_of_ble_eq_true rfl) (fun M hM => ?_)
  refine a_iload_n (pc := 0) dX4_part_0 rfl rfl ?_
  refine a_iconst (pc := 1) dX4_part_1 ic_4 ?_
  refine a_icmp_ltN (pc := 2) (tgt := 13) dX4_part_2 (by decide) (by omega) (by omega) (fun c2 => ?_) (fun c2 => ?_)
  · refine a_iload_n (pc := 13) dX4_part_13 rfl rfl ?_
    refine a_iconst (pc := 14) dX4_part_14 ic_1 ?_
    refine a_icmp_neN (pc := 15) (tgt := 35) dX4_part_15 (by decide) (by omega) (by omega) (fun c15 => ?_) (fun c15 => ?_)
    · refine a_aload_n (pc := 35) dX4_part_35 rfl rfl ?_
      refine a_iload_n (pc := 36) dX4_part_36 rfl rfl ?_
      refine a_iconst (pc := 37) dX4_part_37 ic_1 ?_
      refine a_iaddN (pc := 38) dX4_part_38 ?_
      refine a_iload_n (pc := 39) dX4_part_39 rfl rfl ?_
      refine a_callV (pc := 40) km_X4_51 dX4_part_40 (hG p L k tk ft fc hg hj hR hL hLk) rfl rfl (krecv_of (by rfl) RH_r) (rok_of hM (by omega) (by decide) (by omega) (by omega)) (Nat.le_of_ble_eq_true rfl) (fun r40 h40 hp40 => ?_)
      obtain ⟨rfl, hP⟩ := hp40
      refine a_ret_v (pc := 43) hM rfl dX4_part_43 (by omega) (by omega) ?_
      exact ⟨rfl, hP⟩
    · exact absurd c15 (by omega)
  · exact absurd c2 (by omega)
theorem c_part2 {F Z r t kk pp nn cd en c : Nat} {fk fp fn : Nat → Int32} (d : RF h r t kk pp nn cd c fk fp fn) (hT : TokOk (byP s F Z) Z c fk fp fn) (hZ : Z ≤ 160) {j dd d1 : Nat} (hd1 : d1 + 1 ≤ dd) {G : PS → Rs} (hG : crC X h r t cd en c (byP s F Z) Z d1 j yX4_chain cX4_chain 5 [.int (nI 3), .int (nI (5 - j))] (G)) : crC X h r t cd en c (byP s F Z) Z dd j yX4_part cX4_part 3 [.int (nI 2), .int (nI (5 - j))] (G) := by
  intro p L k tk ft fc hg hj hR hL hLk
  refine fn_of (by decide) (Nat.le_of_ble_eq_true rfl) (fun M hM => ?_)
  refine a_iload_n (pc := 0) dX4_part_0 rfl rfl ?_
  refine a_iconst (pc := 1) dX4_part_1 ic_4 ?_
  refine a_icmp_ltN (pc := 2) (tgt := 13) dX4_part_2 (by decide) (by omega) (by omega) (fun c2 => ?_) (fun c2 => ?_)
  · refine a_iload_n (pc := 13) dX4_part_13 rfl rfl ?_
    refine a_iconst (pc := 14) dX4_part_14 ic_1 ?_
    refine a_icmp_neN (pc := 15) (tgt := 35) dX4_part_15 (by decide) (by omega) (by omega) (fun c15 => ?_) (fun c15 => ?_)
    · refine a_aload_n (pc := 35) dX4_part_35 rfl rfl ?_
      refine a_iload_n (pc := 36) dX4_part_36 rfl rfl ?_
      refine a_iconst (pc := 37) dX4_part_37 ic_1 ?_
      refine a_iaddN (pc := 38) dX4_part_38 ?_
      refine a_iload_n (pc := 39) dX4_part_39 rfl rfl ?_
      refine a_callV (pc := 40) km_X4_51 dX4_part_40 (hG p L k tk ft fc hg hj hR hL hLk) rfl rfl (krecv_of (by rfl) RH_r) (rok_of hM (by omega) (by decide) (by omega) (by omega)) (Nat.le_of_ble_eq_true rfl) (fun r40 h40 hp40 => ?_)
      obtain ⟨rfl, hP⟩ := hp40
      refine a_ret_v (pc := 43) hM rfl dX4_part_43 (by omega) (by omega) ?_
      exact ⟨rfl, hP⟩
    · exact absurd c15 (by omega)
  · exact absurd c2 (by omega)
theorem c_part3 {F Z r t kk pp nn cd en c : Nat} {fk fp fn : Nat → Int32} (d : RF h r t kk pp nn cd c fk fp fn) (hT : TokOk (byP s F Z) Z c fk fp fn) (hZ : Z ≤ 160) {j dd d1 : Nat} (hd1 : d1 + 1 ≤ dd) {G : PS → Rs} (hG : crC X h r t cd en c (byP s F Z) Z d1 j yX4_chain cX4_chain 5 [.int (nI 4), .int (nI (5 - j))] (G)) : crC X h r t cd en c (byP s F Z) Z dd j yX4_part cX4_part 3 [.int (nI 3), .int (nI (5 - j))] (G) := by
  intro p L k tk ft fc hg hj hR hL hLk
  refine fn_of (by decide) (Nat.le_of_ble_eq_true rfl) (fun M hM => ?_)
  refine a_iload_n (pc := 0) dX4_part_0 rfl rfl ?_
  refine a_iconst (pc := 1) dX4_part_1 ic_4 ?_
  refine a_icmp_ltN (pc := 2) (tgt := 13) dX4_part_2 (by decide) (by omega) (by omega) (fun c2 => ?_) (fun c2 => ?_)
  · refine a_iload_n (pc := 13) dX4_part_13 rfl rfl ?_
    refine a_iconst (pc := 14) dX4_part_14 ic_1 ?_
    refine a_icmp_neN (pc := 15) (tgt := 35) dX4_part_15 (by decide) (by omega) (by omega) (fun c15 => ?_) (fun c15 => ?_)
    · refine a_aload_n (pc := 35) dX4_part_35 rfl rfl ?_
      refine a_iload_n (pc := 36) dX4_part_36 rfl rfl ?_
      refine a_iconst (pc := 37) dX4_part_37 ic_1 ?_
      refine a_iaddN (pc := 38) dX4_part_38 ?_
      refine a_iload_n (pc := 39) dX4_part_39 rfl rfl ?_
      refine a_callV (pc := 40) km_X4_51 dX4_part_40 (hG p L k tk ft fc hg hj hR hL hLk) rfl rfl (krecv_of (by rfl) RH_r) (rok_of hM (by omega) (by decide) (by omega) (by omega)) (Nat.le_of_ble_eq_true rfl) (fun r40 h40 hp40 => ?_)
      obtain ⟨rfl, hP⟩ := hp40
      refine a_ret_v (pc := 43) hM rfl dX4_part_43 (by omega) (by omega) ?_
      exact ⟨rfl, hP⟩
    · exact absurd c15 (by omega)
  · exact absurd c2 (by omega)
theorem c_denial {F Z r t kk pp nn cd en c : Nat} {fk fp fn : Nat → Int32} (d : RF h r t kk pp nn cd c fk fp fn) (hT : TokOk (byP s F Z) Z c fk fp fn) (hZ : Z ≤ 160) {j dd dp : Nat} (hdp : dp + 1 ≤ dd) (hd2 : 2 ≤ dd) {ad no : PS → Rs} (hno : ∀ i, j = i + 1 → crC X h r t cd en c (byP s F Z) Z dp i yX4_part cX4_part 3 [.int (nI 1), .int (nI (5 - i))] (no)) (p : PS) (L k : Nat) (tk ft : Int32) (fc : Nat → Int32) (hg : gP Z p) (hj : pOp p + j = 5) (hR : RelR (byP s F Z) Z c p k tk ft) (hL : L ≤ 160) (hLk : pBad p = false → L ≤ k) (hW : isW p (lN 10631) = true) : Fn X dd 0 0 yX4_denial cX4_denial 2 none [.ref r, .int (nI (5 - j))] (RH h r t cd en L k tk ft fc) (fun rv hv => rv = none ∧ crP h r t cd en c (byP s F Z) Z (notL (byP s F Z) Z ad no p) L k fc hv) := by
  have hk := hR.1
  obtain ⟨hb, ht⟩ := isW_1 hW
  have hopj : pOp p = 5 - j := by omega
  rw [show 5 - j = pOp p from hopj.symm]
  refine fn_of (by decide) (Nat.le_of_ble_eq_true rfl) (fun M hM => ?_)
  by_cases hop : pOp p = 5
  · have e : notL (byP s F Z) Z ad no p = (eNum 0, failP p) := by rw [notL, if_pos hW, if_pos hop]
    refine a_iload_n (pc := 0) dX4_denial_0 rfl rfl ?_
    refine a_iconst (pc := 1) dX4_denial_1 ic_5 ?_
    refine a_icmp_ltN (pc := 2) (tgt := 10) dX4_denial_2 (by decide) (by omega) (by omega) (fun c2 => ?_) (fun c2 => ?_)
    · exact absurd c2 (by omega)
    · refine a_aload_n (pc := 5) dX4_denial_5 rfl rfl ?_
      refine a_callV (pc := 6) km_X4_72 dX4_denial_6 (f_refuse d hk) rfl rfl (krecv_of (by rfl) RH_r) (rok_of hM (by omega) (by decide) (by omega) (by omega)) (Nat.le_of_ble_eq_true rfl) (fun r6 h6 hp6 => ?_)
      obtain ⟨rfl, rfl⟩ := hp6
      refine a_ret_v (pc := 9) hM rfl dX4_denial_9 (by omega) (by omega) ?_
      exact ⟨rfl, by rw [e]; exact ⟨L, k, (-2), (rfF fp k ft), fc, rfl, hL, Rel_fail hT hZ hR hg, Gd_bad (fail_bad p)⟩⟩
  · have hope : opensF (byP s F Z) Z p = nextF (byP s F Z) Z (uOp p (pOp p + 1)) := if_neg hop
    obtain ⟨hs, hR1⟩ := Rel_step hT (Rel_op (v := pOp p + 1) hR) hb ⟨fun z => by have z : pTk p = 0 := z; omega, fun z => by have z : pTk p = 4 := z; omega⟩
    obtain ⟨a1, a2, a3⟩ := opens_g (s := s) (F := F) hg (by omega) (by omega) hop
    have e : notL (byP s F Z) Z ad no p = (eNot (no (nextF (byP s F Z) Z (uOp p (pOp p + 1)))).1, clP (no (nextF (byP s F Z) Z (uOp p (pOp p + 1)))).2) := by rw [notL, if_pos hW, if_neg hop, hope]
    refine a_iload_n (pc := 0) dX4_denial_0 rfl rfl ?_
    refine a_iconst (pc := 1) dX4_denial_1 ic_5 ?_
    refine a_icmp_ltN (pc := 2) (tgt := 10) dX4_denial_2 (by decide) (by omega) (by omega) (fun c2 => ?_) (fun c2 => ?_)
    · refine a_aload_n (pc := 10) dX4_denial_10 rfl rfl ?_
      refine a_callV (pc := 11) km_X4_69 dX4_denial_11 (f_step d hk) rfl rfl (krecv_of (by rfl) RH_r) (rok_of hM (by omega) (by decide) (by omega) (by omega)) (Nat.le_of_ble_eq_true rfl) (fun r11 h11 hp11 => ?_)
      obtain ⟨rfl, rfl⟩ := hp11
      refine a_hp (show _ = (RH h r t cd en L (k + 1) (fk (k + 1)) ft fc) by rw [hs]) ?_
      refine a_aload_n (pc := 14) dX4_denial_14 rfl rfl ?_
      refine a_iconst (pc := 15) dX4_denial_15 ic_1 ?_
      refine a_iload_n (pc := 16) dX4_denial_16 rfl rfl ?_
      refine a_iconst (pc := 17) dX4_denial_17 ic_1 ?_
      refine a_iaddN (pc := 18) dX4_denial_18 ?_
      refine a_topi (show _ = nI (5 - (j - 1)) by rw [show 5 - (j - 1) = pOp p + 1 by omega]) ?_
      refine a_callV (pc := 19) km_X4_81 dX4_denial_19 (hno (j - 1) (by omega) _ L (k + 1) (fk (k + 1)) ft fc (hope ▸ a1) (by rw [← hope]; omega) hR1 hL (fun z => by have := hLk hb; omega)) rfl rfl (krecv_of (by rfl) RH_r) (rok_of hM (by omega) (by decide) (by omega) (by omega)) (Nat.le_of_ble_eq_true rfl) (fun r19 h19 hp19 => ?_)
      obtain ⟨rfl, L2, k2, tk2, ft2, fc2, rfl, hL2, hR2, hG2⟩ := hp19
      refine a_aload_n (pc := 22) dX4_denial_22 rfl rfl ?_
      refine a_bipush (pc := 23) dX4_denial_23 ib_m12 ?_
      refine a_callV (pc := 25) km_X4_88 dX4_denial_25 (f_put d hL2 (-12)) rfl rfl (krecv_of (by rfl) RH_r) (rok_of hM (by omega) (by decide) (by omega) (by omega)) (Nat.le_of_ble_eq_true rfl) (fun r25 h25 hp25 => ?_)
      obtain ⟨rfl, rfl⟩ := hp25
      refine a_ret_v (pc := 28) hM rfl dX4_denial_28 (by omega) (by omega) ?_
      exact ⟨rfl, by rw [e]; exact ⟨(puL L2), k2, tk2, ft2, (puF L2 fc2 (-12)), rfl, puL_le hL2, Rel_op hR2, Gd_put (Gd_w hG2) id (by have := hR2.1; have := d.c161; omega) (fun z => hLk hb) (fun z => by have := (hG2 z).2.2.2; omega) rfl⟩⟩
    · exact absurd c2 (by omega)
theorem c_part1 {F Z r t kk pp nn cd en c : Nat} {fk fp fn : Nat → Int32} (d : RF h r t kk pp nn cd c fk fp fn) (hT : TokOk (byP s F Z) Z c fk fp fn) (hZ : Z ≤ 160) {j dd dp d1 : Nat} (hdp : dp + 2 ≤ dd) (hd1 : d1 + 1 ≤ dd) (hd2 : 3 ≤ dd) {ad no : PS → Rs} (hno : ∀ i, j = i + 1 → crC X h r t cd en c (byP s F Z) Z dp i yX4_part cX4_part 3 [.int (nI 1), .int (nI (5 - i))] (no)) (hch : crC X h r t cd en c (byP s F Z) Z d1 j yX4_chain cX4_chain 5 [.int (nI 2), .int (nI (5 - j))] (cmpF (byP s F Z) Z ad)) : crC X h r t cd en c (byP s F Z) Z dd j yX4_part cX4_part 3 [.int (nI 1), .int (nI (5 - j))] (notL (byP s F Z) Z ad no) := by
  intro p L k tk ft fc hg hj hR hL hLk
  have tN := tk_not hR.2.2.1
  rw [← hR.2.1] at tN
  refine fn_of (by decide) (Nat.le_of_ble_eq_true rfl) (fun M hM => ?_)
  refine a_iload_n (pc := 0) dX4_part_0 rfl rfl ?_
  refine a_iconst (pc := 1) dX4_part_1 ic_4 ?_
  refine a_icmp_ltN (pc := 2) (tgt := 13) dX4_part_2 (by decide) (by omega) (by omega) (fun c2 => ?_) (fun c2 => ?_)
  · refine a_iload_n (pc := 13) dX4_part_13 rfl rfl ?_
    refine a_iconst (pc := 14) dX4_part_14 ic_1 ?_
    refine a_icmp_neN (pc := 15) (tgt := 35) dX4_part_15 (by decide) (by omega) (by omega) (fun c15 => ?_) (fun c15 => ?_)
    · exact absurd rfl c15
    · refine a_aload_n (pc := 18) dX4_part_18 rfl rfl ?_
      refine a_getfield (pc := 19) kg_X4_44 dX4_part_19 (RH_r) rfl ?_
      refine a_bipush (pc := 22) dX4_part_22 ib_11 ?_
      refine a_icmp_ne (pc := 24) (tgt := 35) dX4_part_24 (by decide) (fun c24 => ?_) (fun c24 => ?_)
      · have e : notL (byP s F Z) Z ad no p = cmpF (byP s F Z) Z ad p := if_neg (fun z => c24 (tN.mpr z))
        refine a_aload_n (pc := 35) dX4_part_35 rfl rfl ?_
        refine a_iload_n (pc := 36) dX4_part_36 rfl rfl ?_
        refine a_iconst (pc := 37) dX4_part_37 ic_1 ?_
        refine a_iaddN (pc := 38) dX4_part_38 ?_
        refine a_iload_n (pc := 39) dX4_part_39 rfl rfl ?_
        refine a_callV (pc := 40) km_X4_51 dX4_part_40 (hch p L k tk ft fc hg hj hR hL hLk) rfl rfl (krecv_of (by rfl) RH_r) (rok_of hM (by omega) (by decide) (by omega) (by omega)) (Nat.le_of_ble_eq_true rfl) (fun r40 h40 hp40 => ?_)
        obtain ⟨rfl, hP⟩ := hp40
        rw [← e] at hP
        refine a_ret_v (pc := 43) hM rfl dX4_part_43 (by omega) (by omega) ?_
        exact ⟨rfl, hP⟩
      · have hW := tN.mp c24
        refine a_aload_n (pc := 27) dX4_part_27 rfl rfl ?_
        refine a_iload_n (pc := 28) dX4_part_28 rfl rfl ?_
        refine a_callV (pc := 29) km_X4_94 dX4_part_29 (c_denial d hT hZ (dd := dd - 1) (ad := ad) (by omega) (by omega) hno p L k tk ft fc hg hj hR hL hLk hW) rfl rfl (krecv_of (by rfl) RH_r) (rok_of hM (by omega) (by decide) (by omega) (by omega)) (Nat.le_of_ble_eq_true rfl) (fun r29 h29 hp29 => ?_)
        obtain ⟨rfl, hP⟩ := hp29
        refine a_goto (pc := 32) (tgt := 43) dX4_part_32 (by decide) ?_
        refine a_ret_v (pc := 43) hM rfl dX4_part_43 (by omega) (by omega) ?_
        exact ⟨rfl, hP⟩
  · exact absurd c2 (by omega)
theorem c_chain4 {F Z r t kk pp nn cd en c : Nat} {fk fp fn : Nat → Int32} (d : RF h r t kk pp nn cd c fk fp fn) (hT : TokOk (byP s F Z) Z c fk fp fn) (hZ : Z ≤ 160) {j dd d1 : Nat} (hd1 : d1 + 1 ≤ dd) (hd2 : 2 ≤ dd) {sub : PS → Rs} (hsub : crC X h r t cd en c (byP s F Z) Z d1 j yX4_part cX4_part 3 [.int (nI 4), .int (nI (5 - j))] (sub)) (hoks : ∀ p, gP Z p → pOp p + j = 5 → oK Z p (sub p)) (hpr : PRp sub) : crC X h r t cd en c (byP s F Z) Z dd j yX4_chain cX4_chain 5 [.int (nI 4), .int (nI (5 - j))] (termL (byP s F Z) Z sub) := by
  intro p L k tk ft fc hg hj hR hL hLk
  have hokp := hoks p hg hj
  have hopp := hokp.2.2
  refine fn_of (by decide) (Nat.le_of_ble_eq_true rfl) (fun M hM => ?_)
  have loop : ∀ (f i : Nat) (r1 : Rs) (L1 k1 : Nat) (tk1 ft1 : Int32) (fc1 : Nat → Int32), termL (byP s F Z) Z sub p = stars (byP s F Z) Z sub f r1 → gP Z r1.2 → pOp r1.2 + j = 5 → RelR (byP s F Z) Z c r1.2 k1 tk1 ft1 → L1 ≤ 160 → Gd L k fc r1 L1 k1 fc1 → (pBad r1.2 = false → i ≤ k1) → (pBad r1.2 = false → pBad p = false) → i ≤ 160 → Z < pAt r1.2 + f → AJ X M yX4_chain cX4_chain 5 none 8 [(0, .ref r), (1, .int (nI 4)), (2, .int (nI (5 - j))), (3, .int (nI i))] [] (RH h r t cd en L1 k1 tk1 ft1 fc1) 0 0 := by
    intro f
    induction f with
    | zero =>
      intro i r1 L1 k1 tk1 ft1 fc1 hs hg hj hR hL1 hG hi hbp h160 hf
      obtain ⟨f, hfz⟩ : ∃ f, f = 0 := ⟨0, rfl⟩
      rw [← hfz] at hs
      refine a_iload_n (pc := 8) dX4_chain_8 rfl rfl ?_
      refine a_sipush (pc := 9) dX4_chain_9 is_160 ?_
      refine a_icmp_geN (pc := 12) (tgt := 64) dX4_chain_12 (by decide) (by omega) (by omega) (fun c12 => ?_) (fun c12 => ?_)
      · have n0 : ¬ isS r1.2 42 = true := fun z => by have g := gd_S z; have := hi g.1; have := (Rel_step hT hR g.1 g.2).1; have hlt := (Rel_step hT hR g.1 g.2).2.1; have := d.c161; omega
        have hend : stars (byP s F Z) Z sub f r1 = r1 := by cases f with | zero => rfl | succ f => rw [stars, if_neg n0]
        refine a_ret_v (pc := 64) hM rfl dX4_chain_64 (by omega) (by omega) ?_
        exact ⟨rfl, by rw [hs, hend]; exact ⟨L1, k1, tk1, ft1, fc1, rfl, hL1, hR, hG⟩⟩
      · refine a_aload_n (pc := 15) dX4_chain_15 rfl rfl ?_
        refine a_getfield (pc := 16) kg_X4_44 dX4_chain_16 (RH_r) rfl ?_
        refine a_callS (pc := 19) km_X4_84 dX4_chain_19 (f_levelOf tk1) rfl rfl (rok_of hM (by omega) (by decide) (by omega) (by omega)) (Nat.le_of_ble_eq_true rfl) (fun r19 h19 hp19 => ?_)
        obtain ⟨rfl, rfl⟩ := hp19
        refine a_iload_n (pc := 22) dX4_chain_22 rfl rfl ?_
        refine a_icmp_ne (pc := 23) (tgt := 64) dX4_chain_23 (by decide) (fun c23 => ?_) (fun c23 => ?_)
        · have n0 : ¬ isS r1.2 42 = true := fun z => c23 (lv_4.mpr (hR.2.1.trans ((tk_S hR.2.2.1 (c := 42) (by decide)).mpr z)))
          have hend : stars (byP s F Z) Z sub f r1 = r1 := by cases f with | zero => rfl | succ f => rw [stars, if_neg n0]
          refine a_ret_v (pc := 64) hM rfl dX4_chain_64 (by omega) (by omega) ?_
          exact ⟨rfl, by rw [hs, hend]; exact ⟨L1, k1, tk1, ft1, fc1, rfl, hL1, hR, hG⟩⟩
        · exact absurd hf (by have := hg.2.2.1; omega)
    | succ f0 ih =>
      intro i r1 L1 k1 tk1 ft1 fc1 hs hg hj hR hL1 hG hi hbp h160 hf
      obtain ⟨f, hfz⟩ : ∃ f, f = f0 + 1 := ⟨f0 + 1, rfl⟩
      rw [← hfz] at hs
      refine a_iload_n (pc := 8) dX4_chain_8 rfl rfl ?_
      refine a_sipush (pc := 9) dX4_chain_9 is_160 ?_
      refine a_icmp_geN (pc := 12) (tgt := 64) dX4_chain_12 (by decide) (by omega) (by omega) (fun c12 => ?_) (fun c12 => ?_)
      · have n0 : ¬ isS r1.2 42 = true := fun z => by have g := gd_S z; have := hi g.1; have := (Rel_step hT hR g.1 g.2).1; have hlt := (Rel_step hT hR g.1 g.2).2.1; have := d.c161; omega
        have hend : stars (byP s F Z) Z sub f r1 = r1 := by cases f with | zero => rfl | succ f => rw [stars, if_neg n0]
        refine a_ret_v (pc := 64) hM rfl dX4_chain_64 (by omega) (by omega) ?_
        exact ⟨rfl, by rw [hs, hend]; exact ⟨L1, k1, tk1, ft1, fc1, rfl, hL1, hR, hG⟩⟩
      · refine a_aload_n (pc := 15) dX4_chain_15 rfl rfl ?_
        refine a_getfield (pc := 16) kg_X4_44 dX4_chain_16 (RH_r) rfl ?_
        refine a_callS (pc := 19) km_X4_84 dX4_chain_19 (f_levelOf tk1) rfl rfl (rok_of hM (by omega) (by decide) (by omega) (by omega)) (Nat.le_of_ble_eq_true rfl) (fun r19 h19 hp19 => ?_)
        obtain ⟨rfl, rfl⟩ := hp19
        refine a_iload_n (pc := 22) dX4_chain_22 rfl rfl ?_
        refine a_icmp_ne (pc := 23) (tgt := 64) dX4_chain_23 (by decide) (fun c23 => ?_) (fun c23 => ?_)
        · have n0 : ¬ isS r1.2 42 = true := fun z => c23 (lv_4.mpr (hR.2.1.trans ((tk_S hR.2.2.1 (c := 42) (by decide)).mpr z)))
          have hend : stars (byP s F Z) Z sub f r1 = r1 := by cases f with | zero => rfl | succ f => rw [stars, if_neg n0]
          refine a_ret_v (pc := 64) hM rfl dX4_chain_64 (by omega) (by omega) ?_
          exact ⟨rfl, by rw [hs, hend]; exact ⟨L1, k1, tk1, ft1, fc1, rfl, hL1, hR, hG⟩⟩
        · have htk : tk1 = nI 42 := lv_4.mp c23
          have hS : isS r1.2 42 = true := (tk_S hR.2.2.1 (c := 42) (by decide)).mp (hR.2.1.symm.trans htk)
          obtain ⟨hb, hgd⟩ := gd_S hS
          obtain ⟨hst, hR1⟩ := Rel_step hT hR hb hgd
          obtain ⟨n1g, n1a, n1o⟩ := next_ok (s := s) (F := F) hg (by have := isS_3 hS; omega) (by have := isS_3 hS; omega)
          have hok2 := hoks _ n1g (by omega)
          refine a_aload_n (pc := 26) dX4_chain_26 rfl rfl ?_
          refine a_getfield (pc := 27) kg_X4_44 dX4_chain_27 (RH_r) rfl ?_
          refine a_istore (pc := 30) dX4_chain_30 (by decide) rfl ?_
          refine a_aload_n (pc := 32) dX4_chain_32 rfl rfl ?_
          refine a_callV (pc := 33) km_X4_69 dX4_chain_33 (f_step d hR.1) rfl rfl (krecv_of (by rfl) RH_r) (rok_of hM (by omega) (by decide) (by omega) (by omega)) (Nat.le_of_ble_eq_true rfl) (fun r33 h33 hp33 => ?_)
          obtain ⟨rfl, rfl⟩ := hp33
          refine a_hp (show _ = (RH h r t cd en L1 (k1 + 1) (fk (k1 + 1)) ft1 fc1) by rw [hst]) ?_
          refine a_aload_n (pc := 36) dX4_chain_36 rfl rfl ?_
          refine a_iload_n (pc := 37) dX4_chain_37 rfl rfl ?_
          refine a_iload_n (pc := 38) dX4_chain_38 rfl rfl ?_
          refine a_callV (pc := 39) km_X4_81 dX4_chain_39 (hsub (nextF (byP s F Z) Z r1.2) L1 (k1 + 1) (fk (k1 + 1)) ft1 fc1 n1g (by omega) hR1 hL1 (fun _ => by have := hG hb; have := hLk (hbp hb); omega)) rfl rfl (krecv_of (by rfl) RH_r) (rok_of hM (by omega) (by decide) (by omega) (by omega)) (Nat.le_of_ble_eq_true rfl) (fun r39 h39 hp39 => ?_)
          obtain ⟨rfl, L2, k2, tk2, ft2, fc2, rfl, hL2, hR2, hG2⟩ := hp39
          refine a_aload_n (pc := 42) dX4_chain_42 rfl rfl ?_
          refine a_iload (pc := 43) dX4_chain_43 rfl ?_
          refine a_iconst (pc := 45) dX4_chain_45 ic_m1 ?_
          refine a_ixor (pc := 46) dX4_chain_46 ?_
          refine a_callV (pc := 47) km_X4_88 dX4_chain_47 (f_put d hL2 (tk1 ^^^ (-1))) rfl rfl (krecv_of (by rfl) RH_r) (rok_of hM (by omega) (by decide) (by omega) (by omega)) (Nat.le_of_ble_eq_true rfl) (fun r47 h47 hp47 => ?_)
          obtain ⟨rfl, rfl⟩ := hp47
          refine a_iload_n (pc := 50) dX4_chain_50 rfl rfl ?_
          refine a_iconst (pc := 51) dX4_chain_51 ic_2 ?_
          refine a_icmp_neN (pc := 52) (tgt := 58) dX4_chain_52 (by decide) (by omega) (by omega) (fun c52 => ?_) (fun c52 => ?_)
          · refine a_iincN (pc := 58) (n := 1) dX4_chain_58 (by decide) rfl (by decide) rfl ?_
            refine a_goto (pc := 61) (tgt := 8) dX4_chain_61 (by decide) ?_
            have hGb := Gd_bin (kd := 3) (f := (· * ·)) hG hG2 (fun z => hb) (fun z => hLk (hbp z)) (by have := hR2.1; have := d.c161; omega) (show tk1 ^^^ (-1) = encC (3, 0) by rw [htk]; rfl)
            exact a_locR (ih (i + 1) (eBin 3 (· * ·) r1.1 (sub (nextF (byP s F Z) Z r1.2)).1, (sub (nextF (byP s F Z) Z r1.2)).2) (puL L2) k2 tk2 ft2 (puF L2 fc2 (tk1 ^^^ (-1))) (hs.trans (by rw [hfz, stars, if_pos hS])) hok2.1 (by show pOp (sub (nextF (byP s F Z) Z r1.2)).2 + j = 5; rw [hok2.2.2]; omega) hR2 (puL_le hL2) hGb (fun z => by have := (hG2 z).2.2.2; have := hi hb; omega) (fun z => hbp hb) (by omega) (by show Z < pAt (sub (nextF (byP s F Z) Z r1.2)).2 + f0; have := hok2.2.1; omega)) ⟨rfl, rfl, rfl, rfl, trivial⟩
          · exact absurd c52 (by omega)
  refine a_aload_n (pc := 0) dX4_chain_0 rfl rfl ?_
  refine a_iload_n (pc := 1) dX4_chain_1 rfl rfl ?_
  refine a_iload_n (pc := 2) dX4_chain_2 rfl rfl ?_
  refine a_callV (pc := 3) km_X4_81 dX4_chain_3 (hsub p L k tk ft fc hg hj hR hL hLk) rfl rfl (krecv_of (by rfl) RH_r) (rok_of hM (by omega) (by decide) (by omega) (by omega)) (Nat.le_of_ble_eq_true rfl) (fun r3 h3 hp3 => ?_)
  obtain ⟨rfl, L1, k1, tk1, ft1, fc1, rfl, hL1, hR1, hG1⟩ := hp3
  refine a_iconst (pc := 6) dX4_chain_6 ic_0 ?_
  refine a_istore_n (pc := 7) dX4_chain_7 rfl (by decide) rfl ?_
  exact a_locR (loop (Z + 1) 0 (sub p) L1 k1 tk1 ft1 fc1 rfl hokp.1 (by rw [hokp.2.2]; exact hj) hR1 hL1 hG1 (fun _ => Nat.zero_le _) (fun z => (hpr.g z)) (Nat.zero_le _) (by omega)) ⟨rfl, rfl, rfl, rfl, trivial⟩
theorem c_chain3 {F Z r t kk pp nn cd en c : Nat} {fk fp fn : Nat → Int32} (d : RF h r t kk pp nn cd c fk fp fn) (hT : TokOk (byP s F Z) Z c fk fp fn) (hZ : Z ≤ 160) {j dd d1 : Nat} (hd1 : d1 + 1 ≤ dd) (hd2 : 2 ≤ dd) {sub : PS → Rs} (hsub : crC X h r t cd en c (byP s F Z) Z d1 j yX4_part cX4_part 3 [.int (nI 3), .int (nI (5 - j))] (sub)) (hoks : ∀ p, gP Z p → pOp p + j = 5 → oK Z p (sub p)) (hpr : PRp sub) : crC X h r t cd en c (byP s F Z) Z dd j yX4_chain cX4_chain 5 [.int (nI 3), .int (nI (5 - j))] (addedL (byP s F Z) Z sub) := by
  intro p L k tk ft fc hg hj hR hL hLk
  have hokp := hoks p hg hj
  have hopp := hokp.2.2
  refine fn_of (by decide) (Nat.le_of_ble_eq_true rfl) (fun M hM => ?_)
  have loop : ∀ (f i : Nat) (r1 : Rs) (L1 k1 : Nat) (tk1 ft1 : Int32) (fc1 : Nat → Int32), addedL (byP s F Z) Z sub p = sums (byP s F Z) Z sub f r1 → gP Z r1.2 → pOp r1.2 + j = 5 → RelR (byP s F Z) Z c r1.2 k1 tk1 ft1 → L1 ≤ 160 → Gd L k fc r1 L1 k1 fc1 → (pBad r1.2 = false → i ≤ k1) → (pBad r1.2 = false → pBad p = false) → i ≤ 160 → Z < pAt r1.2 + f → AJ X M yX4_chain cX4_chain 5 none 8 [(0, .ref r), (1, .int (nI 3)), (2, .int (nI (5 - j))), (3, .int (nI i))] [] (RH h r t cd en L1 k1 tk1 ft1 fc1) 0 0 := by
    intro f
    induction f with
    | zero =>
      intro i r1 L1 k1 tk1 ft1 fc1 hs hg hj hR hL1 hG hi hbp h160 hf
      obtain ⟨f, hfz⟩ : ∃ f, f = 0 := ⟨0, rfl⟩
      rw [← hfz] at hs
      refine a_iload_n (pc := 8) dX4_chain_8 rfl rfl ?_
      refine a_sipush (pc := 9) dX4_chain_9 is_160 ?_
      refine a_icmp_geN (pc := 12) (tgt := 64) dX4_chain_12 (by decide) (by omega) (by omega) (fun c12 => ?_) (fun c12 => ?_)
      · have n0 : ¬ isS r1.2 43 = true := fun z => by have g := gd_S z; have := hi g.1; have := (Rel_step hT hR g.1 g.2).1; have hlt := (Rel_step hT hR g.1 g.2).2.1; have := d.c161; omega
        have n1 : ¬ isS r1.2 45 = true := fun z => by have g := gd_S z; have := hi g.1; have := (Rel_step hT hR g.1 g.2).1; have hlt := (Rel_step hT hR g.1 g.2).2.1; have := d.c161; omega
        have hend : sums (byP s F Z) Z sub f r1 = r1 := by cases f with | zero => rfl | succ f => rw [sums, if_neg n0, if_neg n1]
        refine a_ret_v (pc := 64) hM rfl dX4_chain_64 (by omega) (by omega) ?_
        exact ⟨rfl, by rw [hs, hend]; exact ⟨L1, k1, tk1, ft1, fc1, rfl, hL1, hR, hG⟩⟩
      · refine a_aload_n (pc := 15) dX4_chain_15 rfl rfl ?_
        refine a_getfield (pc := 16) kg_X4_44 dX4_chain_16 (RH_r) rfl ?_
        refine a_callS (pc := 19) km_X4_84 dX4_chain_19 (f_levelOf tk1) rfl rfl (rok_of hM (by omega) (by decide) (by omega) (by omega)) (Nat.le_of_ble_eq_true rfl) (fun r19 h19 hp19 => ?_)
        obtain ⟨rfl, rfl⟩ := hp19
        refine a_iload_n (pc := 22) dX4_chain_22 rfl rfl ?_
        refine a_icmp_ne (pc := 23) (tgt := 64) dX4_chain_23 (by decide) (fun c23 => ?_) (fun c23 => ?_)
        · have n0 : ¬ isS r1.2 43 = true := fun z => c23 (lv_3.mpr (Or.inl (hR.2.1.trans ((tk_S hR.2.2.1 (c := 43) (by decide)).mpr z))))
          have n1 : ¬ isS r1.2 45 = true := fun z => c23 (lv_3.mpr (Or.inr (hR.2.1.trans ((tk_S hR.2.2.1 (c := 45) (by decide)).mpr z))))
          have hend : sums (byP s F Z) Z sub f r1 = r1 := by cases f with | zero => rfl | succ f => rw [sums, if_neg n0, if_neg n1]
          refine a_ret_v (pc := 64) hM rfl dX4_chain_64 (by omega) (by omega) ?_
          exact ⟨rfl, by rw [hs, hend]; exact ⟨L1, k1, tk1, ft1, fc1, rfl, hL1, hR, hG⟩⟩
        · exact absurd hf (by have := hg.2.2.1; omega)
    | succ f0 ih =>
      intro i r1 L1 k1 tk1 ft1 fc1 hs hg hj hR hL1 hG hi hbp h160 hf
      obtain ⟨f, hfz⟩ : ∃ f, f = f0 + 1 := ⟨f0 + 1, rfl⟩
      rw [← hfz] at hs
      refine a_iload_n (pc := 8) dX4_chain_8 rfl rfl ?_
      refine a_sipush (pc := 9) dX4_chain_9 is_160 ?_
      refine a_icmp_geN (pc := 12) (tgt := 64) dX4_chain_12 (by decide) (by omega) (by omega) (fun c12 => ?_) (fun c12 => ?_)
      · have n0 : ¬ isS r1.2 43 = true := fun z => by have g := gd_S z; have := hi g.1; have := (Rel_step hT hR g.1 g.2).1; have hlt := (Rel_step hT hR g.1 g.2).2.1; have := d.c161; omega
        have n1 : ¬ isS r1.2 45 = true := fun z => by have g := gd_S z; have := hi g.1; have := (Rel_step hT hR g.1 g.2).1; have hlt := (Rel_step hT hR g.1 g.2).2.1; have := d.c161; omega
        have hend : sums (byP s F Z) Z sub f r1 = r1 := by cases f with | zero => rfl | succ f => rw [sums, if_neg n0, if_neg n1]
        refine a_ret_v (pc := 64) hM rfl dX4_chain_64 (by omega) (by omega) ?_
        exact ⟨rfl, by rw [hs, hend]; exact ⟨L1, k1, tk1, ft1, fc1, rfl, hL1, hR, hG⟩⟩
      · refine a_aload_n (pc := 15) dX4_chain_15 rfl rfl ?_
        refine a_getfield (pc := 16) kg_X4_44 dX4_chain_16 (RH_r) rfl ?_
        refine a_callS (pc := 19) km_X4_84 dX4_chain_19 (f_levelOf tk1) rfl rfl (rok_of hM (by omega) (by decide) (by omega) (by omega)) (Nat.le_of_ble_eq_true rfl) (fun r19 h19 hp19 => ?_)
        obtain ⟨rfl, rfl⟩ := hp19
        refine a_iload_n (pc := 22) dX4_chain_22 rfl rfl ?_
        refine a_icmp_ne (pc := 23) (tgt := 64) dX4_chain_23 (by decide) (fun c23 => ?_) (fun c23 => ?_)
        · have n0 : ¬ isS r1.2 43 = true := fun z => c23 (lv_3.mpr (Or.inl (hR.2.1.trans ((tk_S hR.2.2.1 (c := 43) (by decide)).mpr z))))
          have n1 : ¬ isS r1.2 45 = true := fun z => c23 (lv_3.mpr (Or.inr (hR.2.1.trans ((tk_S hR.2.2.1 (c := 45) (by decide)).mpr z))))
          have hend : sums (byP s F Z) Z sub f r1 = r1 := by cases f with | zero => rfl | succ f => rw [sums, if_neg n0, if_neg n1]
          refine a_ret_v (pc := 64) hM rfl dX4_chain_64 (by omega) (by omega) ?_
          exact ⟨rfl, by rw [hs, hend]; exact ⟨L1, k1, tk1, ft1, fc1, rfl, hL1, hR, hG⟩⟩
        · rcases lv_3.mp c23 with htk | htk
          · skip
            have hS : isS r1.2 43 = true := (tk_S hR.2.2.1 (c := 43) (by decide)).mp (hR.2.1.symm.trans htk)
            obtain ⟨hb, hgd⟩ := gd_S hS
            obtain ⟨hst, hR1⟩ := Rel_step hT hR hb hgd
            obtain ⟨n1g, n1a, n1o⟩ := next_ok (s := s) (F := F) hg (by have := isS_3 hS; omega) (by have := isS_3 hS; omega)
            have hok2 := hoks _ n1g (by omega)
            refine a_aload_n (pc := 26) dX4_chain_26 rfl rfl ?_
            refine a_getfield (pc := 27) kg_X4_44 dX4_chain_27 (RH_r) rfl ?_
            refine a_istore (pc := 30) dX4_chain_30 (by decide) rfl ?_
            refine a_aload_n (pc := 32) dX4_chain_32 rfl rfl ?_
            refine a_callV (pc := 33) km_X4_69 dX4_chain_33 (f_step d hR.1) rfl rfl (krecv_of (by rfl) RH_r) (rok_of hM (by omega) (by decide) (by omega) (by omega)) (Nat.le_of_ble_eq_true rfl) (fun r33 h33 hp33 => ?_)
            obtain ⟨rfl, rfl⟩ := hp33
            refine a_hp (show _ = (RH h r t cd en L1 (k1 + 1) (fk (k1 + 1)) ft1 fc1) by rw [hst]) ?_
            refine a_aload_n (pc := 36) dX4_chain_36 rfl rfl ?_
            refine a_iload_n (pc := 37) dX4_chain_37 rfl rfl ?_
            refine a_iload_n (pc := 38) dX4_chain_38 rfl rfl ?_
            refine a_callV (pc := 39) km_X4_81 dX4_chain_39 (hsub (nextF (byP s F Z) Z r1.2) L1 (k1 + 1) (fk (k1 + 1)) ft1 fc1 n1g (by omega) hR1 hL1 (fun _ => by have := hG hb; have := hLk (hbp hb); omega)) rfl rfl (krecv_of (by rfl) RH_r) (rok_of hM (by omega) (by decide) (by omega) (by omega)) (Nat.le_of_ble_eq_true rfl) (fun r39 h39 hp39 => ?_)
            obtain ⟨rfl, L2, k2, tk2, ft2, fc2, rfl, hL2, hR2, hG2⟩ := hp39
            refine a_aload_n (pc := 42) dX4_chain_42 rfl rfl ?_
            refine a_iload (pc := 43) dX4_chain_43 rfl ?_
            refine a_iconst (pc := 45) dX4_chain_45 ic_m1 ?_
            refine a_ixor (pc := 46) dX4_chain_46 ?_
            refine a_callV (pc := 47) km_X4_88 dX4_chain_47 (f_put d hL2 (tk1 ^^^ (-1))) rfl rfl (krecv_of (by rfl) RH_r) (rok_of hM (by omega) (by decide) (by omega) (by omega)) (Nat.le_of_ble_eq_true rfl) (fun r47 h47 hp47 => ?_)
            obtain ⟨rfl, rfl⟩ := hp47
            refine a_iload_n (pc := 50) dX4_chain_50 rfl rfl ?_
            refine a_iconst (pc := 51) dX4_chain_51 ic_2 ?_
            refine a_icmp_neN (pc := 52) (tgt := 58) dX4_chain_52 (by decide) (by omega) (by omega) (fun c52 => ?_) (fun c52 => ?_)
            · refine a_iincN (pc := 58) (n := 1) dX4_chain_58 (by decide) rfl (by decide) rfl ?_
              refine a_goto (pc := 61) (tgt := 8) dX4_chain_61 (by decide) ?_
              have hGb := Gd_bin (kd := 4) (f := (· + ·)) hG hG2 (fun z => hb) (fun z => hLk (hbp z)) (by have := hR2.1; have := d.c161; omega) (show tk1 ^^^ (-1) = encC (4, 0) by rw [htk]; rfl)
              exact a_locR (ih (i + 1) (eBin 4 (· + ·) r1.1 (sub (nextF (byP s F Z) Z r1.2)).1, (sub (nextF (byP s F Z) Z r1.2)).2) (puL L2) k2 tk2 ft2 (puF L2 fc2 (tk1 ^^^ (-1))) (hs.trans (by rw [hfz, sums, if_pos hS])) hok2.1 (by show pOp (sub (nextF (byP s F Z) Z r1.2)).2 + j = 5; rw [hok2.2.2]; omega) hR2 (puL_le hL2) hGb (fun z => by have := (hG2 z).2.2.2; have := hi hb; omega) (fun z => hbp hb) (by omega) (by show Z < pAt (sub (nextF (byP s F Z) Z r1.2)).2 + f0; have := hok2.2.1; omega)) ⟨rfl, rfl, rfl, rfl, trivial⟩
            · exact absurd c52 (by omega)
          · skip
            have n0 : ¬ isS r1.2 43 = true := fun z => absurd ((hR.2.1.trans ((tk_S hR.2.2.1 (c := 43) (by decide)).mpr z)).symm.trans htk) (by decide)
            have hS : isS r1.2 45 = true := (tk_S hR.2.2.1 (c := 45) (by decide)).mp (hR.2.1.symm.trans htk)
            obtain ⟨hb, hgd⟩ := gd_S hS
            obtain ⟨hst, hR1⟩ := Rel_step hT hR hb hgd
            obtain ⟨n1g, n1a, n1o⟩ := next_ok (s := s) (F := F) hg (by have := isS_3 hS; omega) (by have := isS_3 hS; omega)
            have hok2 := hoks _ n1g (by omega)
            refine a_aload_n (pc := 26) dX4_chain_26 rfl rfl ?_
            refine a_getfield (pc := 27) kg_X4_44 dX4_chain_27 (RH_r) rfl ?_
            refine a_istore (pc := 30) dX4_chain_30 (by decide) rfl ?_
            refine a_aload_n (pc := 32) dX4_chain_32 rfl rfl ?_
            refine a_callV (pc := 33) km_X4_69 dX4_chain_33 (f_step d hR.1) rfl rfl (krecv_of (by rfl) RH_r) (rok_of hM (by omega) (by decide) (by omega) (by omega)) (Nat.le_of_ble_eq_true rfl) (fun r33 h33 hp33 => ?_)
            obtain ⟨rfl, rfl⟩ := hp33
            refine a_hp (show _ = (RH h r t cd en L1 (k1 + 1) (fk (k1 + 1)) ft1 fc1) by rw [hst]) ?_
            refine a_aload_n (pc := 36) dX4_chain_36 rfl rfl ?_
            refine a_iload_n (pc := 37) dX4_chain_37 rfl rfl ?_
            refine a_iload_n (pc := 38) dX4_chain_38 rfl rfl ?_
            refine a_callV (pc := 39) km_X4_81 dX4_chain_39 (hsub (nextF (byP s F Z) Z r1.2) L1 (k1 + 1) (fk (k1 + 1)) ft1 fc1 n1g (by omega) hR1 hL1 (fun _ => by have := hG hb; have := hLk (hbp hb); omega)) rfl rfl (krecv_of (by rfl) RH_r) (rok_of hM (by omega) (by decide) (by omega) (by omega)) (Nat.le_of_ble_eq_true rfl) (fun r39 h39 hp39 => ?_)
            obtain ⟨rfl, L2, k2, tk2, ft2, fc2, rfl, hL2, hR2, hG2⟩ := hp39
            refine a_aload_n (pc := 42) dX4_chain_42 rfl rfl ?_
            refine a_iload (pc := 43) dX4_chain_43 rfl ?_
            refine a_iconst (pc := 45) dX4_chain_45 ic_m1 ?_
            refine a_ixor (pc := 46) dX4_chain_46 ?_
            refine a_callV (pc := 47) km_X4_88 dX4_chain_47 (f_put d hL2 (tk1 ^^^ (-1))) rfl rfl (krecv_of (by rfl) RH_r) (rok_of hM (by omega) (by decide) (by omega) (by omega)) (Nat.le_of_ble_eq_true rfl) (fun r47 h47 hp47 => ?_)
            obtain ⟨rfl, rfl⟩ := hp47
            refine a_iload_n (pc := 50) dX4_chain_50 rfl rfl ?_
            refine a_iconst (pc := 51) dX4_chain_51 ic_2 ?_
            refine a_icmp_neN (pc := 52) (tgt := 58) dX4_chain_52 (by decide) (by omega) (by omega) (fun c52 => ?_) (fun c52 => ?_)
            · refine a_iincN (pc := 58) (n := 1) dX4_chain_58 (by decide) rfl (by decide) rfl ?_
              refine a_goto (pc := 61) (tgt := 8) dX4_chain_61 (by decide) ?_
              have hGb := Gd_bin (kd := 5) (f := (· - ·)) hG hG2 (fun z => hb) (fun z => hLk (hbp z)) (by have := hR2.1; have := d.c161; omega) (show tk1 ^^^ (-1) = encC (5, 0) by rw [htk]; rfl)
              exact a_locR (ih (i + 1) (eBin 5 (· - ·) r1.1 (sub (nextF (byP s F Z) Z r1.2)).1, (sub (nextF (byP s F Z) Z r1.2)).2) (puL L2) k2 tk2 ft2 (puF L2 fc2 (tk1 ^^^ (-1))) (hs.trans (by rw [hfz, sums, if_neg n0, if_pos hS])) hok2.1 (by show pOp (sub (nextF (byP s F Z) Z r1.2)).2 + j = 5; rw [hok2.2.2]; omega) hR2 (puL_le hL2) hGb (fun z => by have := (hG2 z).2.2.2; have := hi hb; omega) (fun z => hbp hb) (by omega) (by show Z < pAt (sub (nextF (byP s F Z) Z r1.2)).2 + f0; have := hok2.2.1; omega)) ⟨rfl, rfl, rfl, rfl, trivial⟩
            · exact absurd c52 (by omega)
  refine a_aload_n (pc := 0) dX4_chain_0 rfl rfl ?_
  refine a_iload_n (pc := 1) dX4_chain_1 rfl rfl ?_
  refine a_iload_n (pc := 2) dX4_chain_2 rfl rfl ?_
  refine a_callV (pc := 3) km_X4_81 dX4_chain_3 (hsub p L k tk ft fc hg hj hR hL hLk) rfl rfl (krecv_of (by rfl) RH_r) (rok_of hM (by omega) (by decide) (by omega) (by omega)) (Nat.le_of_ble_eq_true rfl) (fun r3 h3 hp3 => ?_)
  obtain ⟨rfl, L1, k1, tk1, ft1, fc1, rfl, hL1, hR1, hG1⟩ := hp3
  refine a_iconst (pc := 6) dX4_chain_6 ic_0 ?_
  refine a_istore_n (pc := 7) dX4_chain_7 rfl (by decide) rfl ?_
  exact a_locR (loop (Z + 1) 0 (sub p) L1 k1 tk1 ft1 fc1 rfl hokp.1 (by rw [hokp.2.2]; exact hj) hR1 hL1 hG1 (fun _ => Nat.zero_le _) (fun z => (hpr.g z)) (Nat.zero_le _) (by omega)) ⟨rfl, rfl, rfl, rfl, trivial⟩
theorem c_chain1 {F Z r t kk pp nn cd en c : Nat} {fk fp fn : Nat → Int32} (d : RF h r t kk pp nn cd c fk fp fn) (hT : TokOk (byP s F Z) Z c fk fp fn) (hZ : Z ≤ 160) {j dd d1 : Nat} (hd1 : d1 + 1 ≤ dd) (hd2 : 2 ≤ dd) {sub : PS → Rs} (hsub : crC X h r t cd en c (byP s F Z) Z d1 j yX4_part cX4_part 3 [.int (nI 1), .int (nI (5 - j))] (sub)) (hoks : ∀ p, gP Z p → pOp p + j = 5 → oK Z p (sub p)) (hpr : PRp sub) : crC X h r t cd en c (byP s F Z) Z dd j yX4_chain cX4_chain 5 [.int (nI 1), .int (nI (5 - j))] (bothL (byP s F Z) Z sub) := by
  intro p L k tk ft fc hg hj hR hL hLk
  have hokp := hoks p hg hj
  have hopp := hokp.2.2
  refine fn_of (by decide) (Nat.le_of_ble_eq_true rfl) (fun M hM => ?_)
  have loop : ∀ (f i : Nat) (r1 : Rs) (L1 k1 : Nat) (tk1 ft1 : Int32) (fc1 : Nat → Int32), bothL (byP s F Z) Z sub p = ands (byP s F Z) Z sub f r1 → gP Z r1.2 → pOp r1.2 + j = 5 → RelR (byP s F Z) Z c r1.2 k1 tk1 ft1 → L1 ≤ 160 → Gd L k fc r1 L1 k1 fc1 → (pBad r1.2 = false → i ≤ k1) → (pBad r1.2 = false → pBad p = false) → i ≤ 160 → Z < pAt r1.2 + f → AJ X M yX4_chain cX4_chain 5 none 8 [(0, .ref r), (1, .int (nI 1)), (2, .int (nI (5 - j))), (3, .int (nI i))] [] (RH h r t cd en L1 k1 tk1 ft1 fc1) 0 0 := by
    intro f
    induction f with
    | zero =>
      intro i r1 L1 k1 tk1 ft1 fc1 hs hg hj hR hL1 hG hi hbp h160 hf
      obtain ⟨f, hfz⟩ : ∃ f, f = 0 := ⟨0, rfl⟩
      rw [← hfz] at hs
      refine a_iload_n (pc := 8) dX4_chain_8 rfl rfl ?_
      refine a_sipush (pc := 9) dX4_chain_9 is_160 ?_
      refine a_icmp_geN (pc := 12) (tgt := 64) dX4_chain_12 (by decide) (by omega) (by omega) (fun c12 => ?_) (fun c12 => ?_)
      · have n0 : ¬ isW r1.2 (lN 1111) = true := fun z => by have g := gd_W z; have := hi g.1; have := (Rel_step hT hR g.1 g.2).1; have hlt := (Rel_step hT hR g.1 g.2).2.1; have := d.c161; omega
        have hend : ands (byP s F Z) Z sub f r1 = r1 := by cases f with | zero => rfl | succ f => rw [ands, if_neg n0]
        refine a_ret_v (pc := 64) hM rfl dX4_chain_64 (by omega) (by omega) ?_
        exact ⟨rfl, by rw [hs, hend]; exact ⟨L1, k1, tk1, ft1, fc1, rfl, hL1, hR, hG⟩⟩
      · refine a_aload_n (pc := 15) dX4_chain_15 rfl rfl ?_
        refine a_getfield (pc := 16) kg_X4_44 dX4_chain_16 (RH_r) rfl ?_
        refine a_callS (pc := 19) km_X4_84 dX4_chain_19 (f_levelOf tk1) rfl rfl (rok_of hM (by omega) (by decide) (by omega) (by omega)) (Nat.le_of_ble_eq_true rfl) (fun r19 h19 hp19 => ?_)
        obtain ⟨rfl, rfl⟩ := hp19
        refine a_iload_n (pc := 22) dX4_chain_22 rfl rfl ?_
        refine a_icmp_ne (pc := 23) (tgt := 64) dX4_chain_23 (by decide) (fun c23 => ?_) (fun c23 => ?_)
        · have n0 : ¬ isW r1.2 (lN 1111) = true := fun z => c23 (lv_1.mpr (hR.2.1.trans ((tk_and hR.2.2.1).mpr z)))
          have hend : ands (byP s F Z) Z sub f r1 = r1 := by cases f with | zero => rfl | succ f => rw [ands, if_neg n0]
          refine a_ret_v (pc := 64) hM rfl dX4_chain_64 (by omega) (by omega) ?_
          exact ⟨rfl, by rw [hs, hend]; exact ⟨L1, k1, tk1, ft1, fc1, rfl, hL1, hR, hG⟩⟩
        · exact absurd hf (by have := hg.2.2.1; omega)
    | succ f0 ih =>
      intro i r1 L1 k1 tk1 ft1 fc1 hs hg hj hR hL1 hG hi hbp h160 hf
      obtain ⟨f, hfz⟩ : ∃ f, f = f0 + 1 := ⟨f0 + 1, rfl⟩
      rw [← hfz] at hs
      refine a_iload_n (pc := 8) dX4_chain_8 rfl rfl ?_
      refine a_sipush (pc := 9) dX4_chain_9 is_160 ?_
      refine a_icmp_geN (pc := 12) (tgt := 64) dX4_chain_12 (by decide) (by omega) (by omega) (fun c12 => ?_) (fun c12 => ?_)
      · have n0 : ¬ isW r1.2 (lN 1111) = true := fun z => by have g := gd_W z; have := hi g.1; have := (Rel_step hT hR g.1 g.2).1; have hlt := (Rel_step hT hR g.1 g.2).2.1; have := d.c161; omega
        have hend : ands (byP s F Z) Z sub f r1 = r1 := by cases f with | zero => rfl | succ f => rw [ands, if_neg n0]
        refine a_ret_v (pc := 64) hM rfl dX4_chain_64 (by omega) (by omega) ?_
        exact ⟨rfl, by rw [hs, hend]; exact ⟨L1, k1, tk1, ft1, fc1, rfl, hL1, hR, hG⟩⟩
      · refine a_aload_n (pc := 15) dX4_chain_15 rfl rfl ?_
        refine a_getfield (pc := 16) kg_X4_44 dX4_chain_16 (RH_r) rfl ?_
        refine a_callS (pc := 19) km_X4_84 dX4_chain_19 (f_levelOf tk1) rfl rfl (rok_of hM (by omega) (by decide) (by omega) (by omega)) (Nat.le_of_ble_eq_true rfl) (fun r19 h19 hp19 => ?_)
        obtain ⟨rfl, rfl⟩ := hp19
        refine a_iload_n (pc := 22) dX4_chain_22 rfl rfl ?_
        refine a_icmp_ne (pc := 23) (tgt := 64) dX4_chain_23 (by decide) (fun c23 => ?_) (fun c23 => ?_)
        · have n0 : ¬ isW r1.2 (lN 1111) = true := fun z => c23 (lv_1.mpr (hR.2.1.trans ((tk_and hR.2.2.1).mpr z)))
          have hend : ands (byP s F Z) Z sub f r1 = r1 := by cases f with | zero => rfl | succ f => rw [ands, if_neg n0]
          refine a_ret_v (pc := 64) hM rfl dX4_chain_64 (by omega) (by omega) ?_
          exact ⟨rfl, by rw [hs, hend]; exact ⟨L1, k1, tk1, ft1, fc1, rfl, hL1, hR, hG⟩⟩
        · have htk : tk1 = nI 10 := lv_1.mp c23
          have hS : isW r1.2 (lN 1111) = true := (tk_and hR.2.2.1).mp (hR.2.1.symm.trans htk)
          obtain ⟨hb, hgd⟩ := gd_W hS
          obtain ⟨hst, hR1⟩ := Rel_step hT hR hb hgd
          obtain ⟨n1g, n1a, n1o⟩ := next_ok (s := s) (F := F) hg (by have := isW_1 hS; omega) (by have := isW_1 hS; omega)
          have hok2 := hoks _ n1g (by omega)
          refine a_aload_n (pc := 26) dX4_chain_26 rfl rfl ?_
          refine a_getfield (pc := 27) kg_X4_44 dX4_chain_27 (RH_r) rfl ?_
          refine a_istore (pc := 30) dX4_chain_30 (by decide) rfl ?_
          refine a_aload_n (pc := 32) dX4_chain_32 rfl rfl ?_
          refine a_callV (pc := 33) km_X4_69 dX4_chain_33 (f_step d hR.1) rfl rfl (krecv_of (by rfl) RH_r) (rok_of hM (by omega) (by decide) (by omega) (by omega)) (Nat.le_of_ble_eq_true rfl) (fun r33 h33 hp33 => ?_)
          obtain ⟨rfl, rfl⟩ := hp33
          refine a_hp (show _ = (RH h r t cd en L1 (k1 + 1) (fk (k1 + 1)) ft1 fc1) by rw [hst]) ?_
          refine a_aload_n (pc := 36) dX4_chain_36 rfl rfl ?_
          refine a_iload_n (pc := 37) dX4_chain_37 rfl rfl ?_
          refine a_iload_n (pc := 38) dX4_chain_38 rfl rfl ?_
          refine a_callV (pc := 39) km_X4_81 dX4_chain_39 (hsub (nextF (byP s F Z) Z r1.2) L1 (k1 + 1) (fk (k1 + 1)) ft1 fc1 n1g (by omega) hR1 hL1 (fun _ => by have := hG hb; have := hLk (hbp hb); omega)) rfl rfl (krecv_of (by rfl) RH_r) (rok_of hM (by omega) (by decide) (by omega) (by omega)) (Nat.le_of_ble_eq_true rfl) (fun r39 h39 hp39 => ?_)
          obtain ⟨rfl, L2, k2, tk2, ft2, fc2, rfl, hL2, hR2, hG2⟩ := hp39
          refine a_aload_n (pc := 42) dX4_chain_42 rfl rfl ?_
          refine a_iload (pc := 43) dX4_chain_43 rfl ?_
          refine a_iconst (pc := 45) dX4_chain_45 ic_m1 ?_
          refine a_ixor (pc := 46) dX4_chain_46 ?_
          refine a_callV (pc := 47) km_X4_88 dX4_chain_47 (f_put d hL2 (tk1 ^^^ (-1))) rfl rfl (krecv_of (by rfl) RH_r) (rok_of hM (by omega) (by decide) (by omega) (by omega)) (Nat.le_of_ble_eq_true rfl) (fun r47 h47 hp47 => ?_)
          obtain ⟨rfl, rfl⟩ := hp47
          refine a_iload_n (pc := 50) dX4_chain_50 rfl rfl ?_
          refine a_iconst (pc := 51) dX4_chain_51 ic_2 ?_
          refine a_icmp_neN (pc := 52) (tgt := 58) dX4_chain_52 (by decide) (by omega) (by omega) (fun c52 => ?_) (fun c52 => ?_)
          · refine a_iincN (pc := 58) (n := 1) dX4_chain_58 (by decide) rfl (by decide) rfl ?_
            refine a_goto (pc := 61) (tgt := 8) dX4_chain_61 (by decide) ?_
            have hGb := Gd_bin (kd := 9) (f := fAnd) hG hG2 (fun z => hb) (fun z => hLk (hbp z)) (by have := hR2.1; have := d.c161; omega) (show tk1 ^^^ (-1) = encC (9, 0) by rw [htk]; rfl)
            exact a_locR (ih (i + 1) (eBin 9 fAnd r1.1 (sub (nextF (byP s F Z) Z r1.2)).1, (sub (nextF (byP s F Z) Z r1.2)).2) (puL L2) k2 tk2 ft2 (puF L2 fc2 (tk1 ^^^ (-1))) (hs.trans (by rw [hfz, ands, if_pos hS])) hok2.1 (by show pOp (sub (nextF (byP s F Z) Z r1.2)).2 + j = 5; rw [hok2.2.2]; omega) hR2 (puL_le hL2) hGb (fun z => by have := (hG2 z).2.2.2; have := hi hb; omega) (fun z => hbp hb) (by omega) (by show Z < pAt (sub (nextF (byP s F Z) Z r1.2)).2 + f0; have := hok2.2.1; omega)) ⟨rfl, rfl, rfl, rfl, trivial⟩
          · exact absurd c52 (by omega)
  refine a_aload_n (pc := 0) dX4_chain_0 rfl rfl ?_
  refine a_iload_n (pc := 1) dX4_chain_1 rfl rfl ?_
  refine a_iload_n (pc := 2) dX4_chain_2 rfl rfl ?_
  refine a_callV (pc := 3) km_X4_81 dX4_chain_3 (hsub p L k tk ft fc hg hj hR hL hLk) rfl rfl (krecv_of (by rfl) RH_r) (rok_of hM (by omega) (by decide) (by omega) (by omega)) (Nat.le_of_ble_eq_true rfl) (fun r3 h3 hp3 => ?_)
  obtain ⟨rfl, L1, k1, tk1, ft1, fc1, rfl, hL1, hR1, hG1⟩ := hp3
  refine a_iconst (pc := 6) dX4_chain_6 ic_0 ?_
  refine a_istore_n (pc := 7) dX4_chain_7 rfl (by decide) rfl ?_
  exact a_locR (loop (Z + 1) 0 (sub p) L1 k1 tk1 ft1 fc1 rfl hokp.1 (by rw [hokp.2.2]; exact hj) hR1 hL1 hG1 (fun _ => Nat.zero_le _) (fun z => (hpr.g z)) (Nat.zero_le _) (by omega)) ⟨rfl, rfl, rfl, rfl, trivial⟩
theorem c_chain0 {F Z r t kk pp nn cd en c : Nat} {fk fp fn : Nat → Int32} (d : RF h r t kk pp nn cd c fk fp fn) (hT : TokOk (byP s F Z) Z c fk fp fn) (hZ : Z ≤ 160) {j dd d1 : Nat} (hd1 : d1 + 1 ≤ dd) (hd2 : 2 ≤ dd) {sub : PS → Rs} (hsub : crC X h r t cd en c (byP s F Z) Z d1 j yX4_part cX4_part 3 [.int (nI 0), .int (nI (5 - j))] (sub)) (hoks : ∀ p, gP Z p → pOp p + j = 5 → oK Z p (sub p)) (hpr : PRp sub) : crC X h r t cd en c (byP s F Z) Z dd j yX4_chain cX4_chain 5 [.int (nI 0), .int (nI (5 - j))] (eitherL (byP s F Z) Z sub) := by
  intro p L k tk ft fc hg hj hR hL hLk
  have hokp := hoks p hg hj
  have hopp := hokp.2.2
  refine fn_of (by decide) (Nat.le_of_ble_eq_true rfl) (fun M hM => ?_)
  have loop : ∀ (f i : Nat) (r1 : Rs) (L1 k1 : Nat) (tk1 ft1 : Int32) (fc1 : Nat → Int32), eitherL (byP s F Z) Z sub p = orsF (byP s F Z) Z sub f r1 → gP Z r1.2 → pOp r1.2 + j = 5 → RelR (byP s F Z) Z c r1.2 k1 tk1 ft1 → L1 ≤ 160 → Gd L k fc r1 L1 k1 fc1 → (pBad r1.2 = false → i ≤ k1) → (pBad r1.2 = false → pBad p = false) → i ≤ 160 → Z < pAt r1.2 + f → AJ X M yX4_chain cX4_chain 5 none 8 [(0, .ref r), (1, .int (nI 0)), (2, .int (nI (5 - j))), (3, .int (nI i))] [] (RH h r t cd en L1 k1 tk1 ft1 fc1) 0 0 := by
    intro f
    induction f with
    | zero =>
      intro i r1 L1 k1 tk1 ft1 fc1 hs hg hj hR hL1 hG hi hbp h160 hf
      obtain ⟨f, hfz⟩ : ∃ f, f = 0 := ⟨0, rfl⟩
      rw [← hfz] at hs
      refine a_iload_n (pc := 8) dX4_chain_8 rfl rfl ?_
      refine a_sipush (pc := 9) dX4_chain_9 is_160 ?_
      refine a_icmp_geN (pc := 12) (tgt := 64) dX4_chain_12 (by decide) (by omega) (by omega) (fun c12 => ?_) (fun c12 => ?_)
      · have n0 : ¬ isW r1.2 (lN 423) = true := fun z => by have g := gd_W z; have := hi g.1; have := (Rel_step hT hR g.1 g.2).1; have hlt := (Rel_step hT hR g.1 g.2).2.1; have := d.c161; omega
        have hend : orsF (byP s F Z) Z sub f r1 = r1 := by cases f with | zero => rfl | succ f => rw [orsF, if_neg n0]
        refine a_ret_v (pc := 64) hM rfl dX4_chain_64 (by omega) (by omega) ?_
        exact ⟨rfl, by rw [hs, hend]; exact ⟨L1, k1, tk1, ft1, fc1, rfl, hL1, hR, hG⟩⟩
      · refine a_aload_n (pc := 15) dX4_chain_15 rfl rfl ?_
        refine a_getfield (pc := 16) kg_X4_44 dX4_chain_16 (RH_r) rfl ?_
        refine a_callS (pc := 19) km_X4_84 dX4_chain_19 (f_levelOf tk1) rfl rfl (rok_of hM (by omega) (by decide) (by omega) (by omega)) (Nat.le_of_ble_eq_true rfl) (fun r19 h19 hp19 => ?_)
        obtain ⟨rfl, rfl⟩ := hp19
        refine a_iload_n (pc := 22) dX4_chain_22 rfl rfl ?_
        refine a_icmp_ne (pc := 23) (tgt := 64) dX4_chain_23 (by decide) (fun c23 => ?_) (fun c23 => ?_)
        · have n0 : ¬ isW r1.2 (lN 423) = true := fun z => c23 (lv_0.mpr (hR.2.1.trans ((tk_or hR.2.2.1).mpr z)))
          have hend : orsF (byP s F Z) Z sub f r1 = r1 := by cases f with | zero => rfl | succ f => rw [orsF, if_neg n0]
          refine a_ret_v (pc := 64) hM rfl dX4_chain_64 (by omega) (by omega) ?_
          exact ⟨rfl, by rw [hs, hend]; exact ⟨L1, k1, tk1, ft1, fc1, rfl, hL1, hR, hG⟩⟩
        · exact absurd hf (by have := hg.2.2.1; omega)
    | succ f0 ih =>
      intro i r1 L1 k1 tk1 ft1 fc1 hs hg hj hR hL1 hG hi hbp h160 hf
      obtain ⟨f, hfz⟩ : ∃ f, f = f0 + 1 := ⟨f0 + 1, rfl⟩
      rw [← hfz] at hs
      refine a_iload_n (pc := 8) dX4_chain_8 rfl rfl ?_
      refine a_sipush (pc := 9) dX4_chain_9 is_160 ?_
      refine a_icmp_geN (pc := 12) (tgt := 64) dX4_chain_12 (by decide) (by omega) (by omega) (fun c12 => ?_) (fun c12 => ?_)
      · have n0 : ¬ isW r1.2 (lN 423) = true := fun z => by have g := gd_W z; have := hi g.1; have := (Rel_step hT hR g.1 g.2).1; have hlt := (Rel_step hT hR g.1 g.2).2.1; have := d.c161; omega
        have hend : orsF (byP s F Z) Z sub f r1 = r1 := by cases f with | zero => rfl | succ f => rw [orsF, if_neg n0]
        refine a_ret_v (pc := 64) hM rfl dX4_chain_64 (by omega) (by omega) ?_
        exact ⟨rfl, by rw [hs, hend]; exact ⟨L1, k1, tk1, ft1, fc1, rfl, hL1, hR, hG⟩⟩
      · refine a_aload_n (pc := 15) dX4_chain_15 rfl rfl ?_
        refine a_getfield (pc := 16) kg_X4_44 dX4_chain_16 (RH_r) rfl ?_
        refine a_callS (pc := 19) km_X4_84 dX4_chain_19 (f_levelOf tk1) rfl rfl (rok_of hM (by omega) (by decide) (by omega) (by omega)) (Nat.le_of_ble_eq_true rfl) (fun r19 h19 hp19 => ?_)
        obtain ⟨rfl, rfl⟩ := hp19
        refine a_iload_n (pc := 22) dX4_chain_22 rfl rfl ?_
        refine a_icmp_ne (pc := 23) (tgt := 64) dX4_chain_23 (by decide) (fun c23 => ?_) (fun c23 => ?_)
        · have n0 : ¬ isW r1.2 (lN 423) = true := fun z => c23 (lv_0.mpr (hR.2.1.trans ((tk_or hR.2.2.1).mpr z)))
          have hend : orsF (byP s F Z) Z sub f r1 = r1 := by cases f with | zero => rfl | succ f => rw [orsF, if_neg n0]
          refine a_ret_v (pc := 64) hM rfl dX4_chain_64 (by omega) (by omega) ?_
          exact ⟨rfl, by rw [hs, hend]; exact ⟨L1, k1, tk1, ft1, fc1, rfl, hL1, hR, hG⟩⟩
        · have htk : tk1 = nI 9 := lv_0.mp c23
          have hS : isW r1.2 (lN 423) = true := (tk_or hR.2.2.1).mp (hR.2.1.symm.trans htk)
          obtain ⟨hb, hgd⟩ := gd_W hS
          obtain ⟨hst, hR1⟩ := Rel_step hT hR hb hgd
          obtain ⟨n1g, n1a, n1o⟩ := next_ok (s := s) (F := F) hg (by have := isW_1 hS; omega) (by have := isW_1 hS; omega)
          have hok2 := hoks _ n1g (by omega)
          refine a_aload_n (pc := 26) dX4_chain_26 rfl rfl ?_
          refine a_getfield (pc := 27) kg_X4_44 dX4_chain_27 (RH_r) rfl ?_
          refine a_istore (pc := 30) dX4_chain_30 (by decide) rfl ?_
          refine a_aload_n (pc := 32) dX4_chain_32 rfl rfl ?_
          refine a_callV (pc := 33) km_X4_69 dX4_chain_33 (f_step d hR.1) rfl rfl (krecv_of (by rfl) RH_r) (rok_of hM (by omega) (by decide) (by omega) (by omega)) (Nat.le_of_ble_eq_true rfl) (fun r33 h33 hp33 => ?_)
          obtain ⟨rfl, rfl⟩ := hp33
          refine a_hp (show _ = (RH h r t cd en L1 (k1 + 1) (fk (k1 + 1)) ft1 fc1) by rw [hst]) ?_
          refine a_aload_n (pc := 36) dX4_chain_36 rfl rfl ?_
          refine a_iload_n (pc := 37) dX4_chain_37 rfl rfl ?_
          refine a_iload_n (pc := 38) dX4_chain_38 rfl rfl ?_
          refine a_callV (pc := 39) km_X4_81 dX4_chain_39 (hsub (nextF (byP s F Z) Z r1.2) L1 (k1 + 1) (fk (k1 + 1)) ft1 fc1 n1g (by omega) hR1 hL1 (fun _ => by have := hG hb; have := hLk (hbp hb); omega)) rfl rfl (krecv_of (by rfl) RH_r) (rok_of hM (by omega) (by decide) (by omega) (by omega)) (Nat.le_of_ble_eq_true rfl) (fun r39 h39 hp39 => ?_)
          obtain ⟨rfl, L2, k2, tk2, ft2, fc2, rfl, hL2, hR2, hG2⟩ := hp39
          refine a_aload_n (pc := 42) dX4_chain_42 rfl rfl ?_
          refine a_iload (pc := 43) dX4_chain_43 rfl ?_
          refine a_iconst (pc := 45) dX4_chain_45 ic_m1 ?_
          refine a_ixor (pc := 46) dX4_chain_46 ?_
          refine a_callV (pc := 47) km_X4_88 dX4_chain_47 (f_put d hL2 (tk1 ^^^ (-1))) rfl rfl (krecv_of (by rfl) RH_r) (rok_of hM (by omega) (by decide) (by omega) (by omega)) (Nat.le_of_ble_eq_true rfl) (fun r47 h47 hp47 => ?_)
          obtain ⟨rfl, rfl⟩ := hp47
          refine a_iload_n (pc := 50) dX4_chain_50 rfl rfl ?_
          refine a_iconst (pc := 51) dX4_chain_51 ic_2 ?_
          refine a_icmp_neN (pc := 52) (tgt := 58) dX4_chain_52 (by decide) (by omega) (by omega) (fun c52 => ?_) (fun c52 => ?_)
          · refine a_iincN (pc := 58) (n := 1) dX4_chain_58 (by decide) rfl (by decide) rfl ?_
            refine a_goto (pc := 61) (tgt := 8) dX4_chain_61 (by decide) ?_
            have hGb := Gd_bin (kd := 10) (f := fOr) hG hG2 (fun z => hb) (fun z => hLk (hbp z)) (by have := hR2.1; have := d.c161; omega) (show tk1 ^^^ (-1) = encC (10, 0) by rw [htk]; rfl)
            exact a_locR (ih (i + 1) (eBin 10 fOr r1.1 (sub (nextF (byP s F Z) Z r1.2)).1, (sub (nextF (byP s F Z) Z r1.2)).2) (puL L2) k2 tk2 ft2 (puF L2 fc2 (tk1 ^^^ (-1))) (hs.trans (by rw [hfz, orsF, if_pos hS])) hok2.1 (by show pOp (sub (nextF (byP s F Z) Z r1.2)).2 + j = 5; rw [hok2.2.2]; omega) hR2 (puL_le hL2) hGb (fun z => by have := (hG2 z).2.2.2; have := hi hb; omega) (fun z => hbp hb) (by omega) (by show Z < pAt (sub (nextF (byP s F Z) Z r1.2)).2 + f0; have := hok2.2.1; omega)) ⟨rfl, rfl, rfl, rfl, trivial⟩
          · exact absurd c52 (by omega)
  refine a_aload_n (pc := 0) dX4_chain_0 rfl rfl ?_
  refine a_iload_n (pc := 1) dX4_chain_1 rfl rfl ?_
  refine a_iload_n (pc := 2) dX4_chain_2 rfl rfl ?_
  refine a_callV (pc := 3) km_X4_81 dX4_chain_3 (hsub p L k tk ft fc hg hj hR hL hLk) rfl rfl (krecv_of (by rfl) RH_r) (rok_of hM (by omega) (by decide) (by omega) (by omega)) (Nat.le_of_ble_eq_true rfl) (fun r3 h3 hp3 => ?_)
  obtain ⟨rfl, L1, k1, tk1, ft1, fc1, rfl, hL1, hR1, hG1⟩ := hp3
  refine a_iconst (pc := 6) dX4_chain_6 ic_0 ?_
  refine a_istore_n (pc := 7) dX4_chain_7 rfl (by decide) rfl ?_
  exact a_locR (loop (Z + 1) 0 (sub p) L1 k1 tk1 ft1 fc1 rfl hokp.1 (by rw [hokp.2.2]; exact hj) hR1 hL1 hG1 (fun _ => Nat.zero_le _) (fun z => (hpr.g z)) (Nat.zero_le _) (by omega)) ⟨rfl, rfl, rfl, rfl, trivial⟩
theorem c_chain2 {F Z r t kk pp nn cd en c : Nat} {fk fp fn : Nat → Int32} (d : RF h r t kk pp nn cd c fk fp fn) (hT : TokOk (byP s F Z) Z c fk fp fn) (hZ : Z ≤ 160) {j dd d1 : Nat} (hd1 : d1 + 1 ≤ dd) (hd2 : 2 ≤ dd) {ad : PS → Rs} (had : crC X h r t cd en c (byP s F Z) Z d1 j yX4_part cX4_part 3 [.int (nI 2), .int (nI (5 - j))] (ad)) (hoks : ∀ p, gP Z p → pOp p + j = 5 → oK Z p (ad p)) (hpr : PRp ad) : crC X h r t cd en c (byP s F Z) Z dd j yX4_chain cX4_chain 5 [.int (nI 2), .int (nI (5 - j))] (cmpF (byP s F Z) Z ad) := by
  intro p L k tk ft fc hg hj hR hL hLk
  have hokp := hoks p hg hj
  have hopp := hokp.2.2
  refine fn_of (by decide) (Nat.le_of_ble_eq_true rfl) (fun M hM => ?_)
  refine a_aload_n (pc := 0) dX4_chain_0 rfl rfl ?_
  refine a_iload_n (pc := 1) dX4_chain_1 rfl rfl ?_
  refine a_iload_n (pc := 2) dX4_chain_2 rfl rfl ?_
  refine a_callV (pc := 3) km_X4_81 dX4_chain_3 (had p L k tk ft fc hg hj hR hL hLk) rfl rfl (krecv_of (by rfl) RH_r) (rok_of hM (by omega) (by decide) (by omega) (by omega)) (Nat.le_of_ble_eq_true rfl) (fun r3 h3 hp3 => ?_)
  obtain ⟨rfl, L1, k1, tk1, ft1, fc1, rfl, hL1, hR1, hG1⟩ := hp3
  refine a_iconst (pc := 6) dX4_chain_6 ic_0 ?_
  refine a_istore_n (pc := 7) dX4_chain_7 rfl (by decide) rfl ?_
  refine a_iload_n (pc := 8) dX4_chain_8 rfl rfl ?_
  refine a_sipush (pc := 9) dX4_chain_9 is_160 ?_
  refine a_icmp_geN (pc := 12) (tgt := 64) dX4_chain_12 (by decide) (by omega) (by omega) (fun c12 => ?_) (fun c12 => ?_)
  · exact absurd c12 (by omega)
  · refine a_aload_n (pc := 15) dX4_chain_15 rfl rfl ?_
    refine a_getfield (pc := 16) kg_X4_44 dX4_chain_16 (RH_r) rfl ?_
    refine a_callS (pc := 19) km_X4_84 dX4_chain_19 (f_levelOf tk1) rfl rfl (rok_of hM (by omega) (by decide) (by omega) (by omega)) (Nat.le_of_ble_eq_true rfl) (fun r19 h19 hp19 => ?_)
    obtain ⟨rfl, rfl⟩ := hp19
    refine a_iload_n (pc := 22) dX4_chain_22 rfl rfl ?_
    refine a_icmp_ne (pc := 23) (tgt := 64) dX4_chain_23 (by decide) (fun c23 => ?_) (fun c23 => ?_)
    · have n0 : ¬ isS (ad p).2 60 = true := fun z => c23 (lv_2.mpr (Or.inl (hR1.2.1.trans ((tk_S hR1.2.2.1 (c := 60) (by decide)).mpr z))))
      have n1 : ¬ isS (ad p).2 61 = true := fun z => c23 (lv_2.mpr (Or.inr (hR1.2.1.trans ((tk_S hR1.2.2.1 (c := 61) (by decide)).mpr z))))
      have e : cmpF (byP s F Z) Z ad p = ad p := by rw [cmpF, if_neg n0, if_neg n1]
      refine a_ret_v (pc := 64) hM rfl dX4_chain_64 (by omega) (by omega) ?_
      exact ⟨rfl, by rw [e]; exact ⟨L1, k1, tk1, ft1, fc1, rfl, hL1, hR1, hG1⟩⟩
    · rcases lv_2.mp c23 with htk | htk
      · skip
        have hS : isS (ad p).2 60 = true := (tk_S hR1.2.2.1 (c := 60) (by decide)).mp (hR1.2.1.symm.trans htk)
        obtain ⟨hb, hgd⟩ := gd_S hS
        obtain ⟨hst, hRn⟩ := Rel_step hT hR1 hb hgd
        obtain ⟨n1g, n1a, n1o⟩ := next_ok (s := s) (F := F) hokp.1 (by have := isS_3 hS; omega) (by have := isS_3 hS; omega)
        have e : cmpF (byP s F Z) Z ad p = (eBin 6 fLt (ad p).1 (ad (nextF (byP s F Z) Z (ad p).2)).1, (ad (nextF (byP s F Z) Z (ad p).2)).2) := by rw [cmpF, if_pos hS]
        have hbp := hpr.g hb
        refine a_aload_n (pc := 26) dX4_chain_26 rfl rfl ?_
        refine a_getfield (pc := 27) kg_X4_44 dX4_chain_27 (RH_r) rfl ?_
        refine a_istore (pc := 30) dX4_chain_30 (by decide) rfl ?_
        refine a_aload_n (pc := 32) dX4_chain_32 rfl rfl ?_
        refine a_callV (pc := 33) km_X4_69 dX4_chain_33 (f_step d hR1.1) rfl rfl (krecv_of (by rfl) RH_r) (rok_of hM (by omega) (by decide) (by omega) (by omega)) (Nat.le_of_ble_eq_true rfl) (fun r33 h33 hp33 => ?_)
        obtain ⟨rfl, rfl⟩ := hp33
        refine a_hp (show _ = (RH h r t cd en L1 (k1 + 1) (fk (k1 + 1)) ft1 fc1) by rw [hst]) ?_
        refine a_aload_n (pc := 36) dX4_chain_36 rfl rfl ?_
        refine a_iload_n (pc := 37) dX4_chain_37 rfl rfl ?_
        refine a_iload_n (pc := 38) dX4_chain_38 rfl rfl ?_
        refine a_callV (pc := 39) km_X4_81 dX4_chain_39 (had (nextF (byP s F Z) Z (ad p).2) L1 (k1 + 1) (fk (k1 + 1)) ft1 fc1 n1g (by omega) hRn hL1 (fun _ => by have := hG1 hb; have := hLk hbp; omega)) rfl rfl (krecv_of (by rfl) RH_r) (rok_of hM (by omega) (by decide) (by omega) (by omega)) (Nat.le_of_ble_eq_true rfl) (fun r39 h39 hp39 => ?_)
        obtain ⟨rfl, L2, k2, tk2, ft2, fc2, rfl, hL2, hR2, hG2⟩ := hp39
        refine a_aload_n (pc := 42) dX4_chain_42 rfl rfl ?_
        refine a_iload (pc := 43) dX4_chain_43 rfl ?_
        refine a_iconst (pc := 45) dX4_chain_45 ic_m1 ?_
        refine a_ixor (pc := 46) dX4_chain_46 ?_
        refine a_callV (pc := 47) km_X4_88 dX4_chain_47 (f_put d hL2 (tk1 ^^^ (-1))) rfl rfl (krecv_of (by rfl) RH_r) (rok_of hM (by omega) (by decide) (by omega) (by omega)) (Nat.le_of_ble_eq_true rfl) (fun r47 h47 hp47 => ?_)
        obtain ⟨rfl, rfl⟩ := hp47
        refine a_iload_n (pc := 50) dX4_chain_50 rfl rfl ?_
        refine a_iconst (pc := 51) dX4_chain_51 ic_2 ?_
        refine a_icmp_neN (pc := 52) (tgt := 58) dX4_chain_52 (by decide) (by omega) (by omega) (fun c52 => ?_) (fun c52 => ?_)
        · exact absurd rfl c52
        · refine a_goto (pc := 55) (tgt := 64) dX4_chain_55 (by decide) ?_
          refine a_ret_v (pc := 64) hM rfl dX4_chain_64 (by omega) (by omega) ?_
          exact ⟨rfl, by rw [e]; exact ⟨puL L2, k2, tk2, ft2, puF L2 fc2 (tk1 ^^^ (-1)), rfl, puL_le hL2, hR2, Gd_bin (kd := 6) (f := fLt) hG1 hG2 (fun z => hb) (fun z => hLk hbp) (by have := hR2.1; have := d.c161; omega) (show tk1 ^^^ (-1) = encC (6, 0) by rw [htk]; rfl)⟩⟩
      · skip
        have n0 : ¬ isS (ad p).2 60 = true := fun z => absurd ((hR1.2.1.trans ((tk_S hR1.2.2.1 (c := 60) (by decide)).mpr z)).symm.trans htk) (by decide)
        have hS : isS (ad p).2 61 = true := (tk_S hR1.2.2.1 (c := 61) (by decide)).mp (hR1.2.1.symm.trans htk)
        obtain ⟨hb, hgd⟩ := gd_S hS
        obtain ⟨hst, hRn⟩ := Rel_step hT hR1 hb hgd
        obtain ⟨n1g, n1a, n1o⟩ := next_ok (s := s) (F := F) hokp.1 (by have := isS_3 hS; omega) (by have := isS_3 hS; omega)
        have e : cmpF (byP s F Z) Z ad p = (eBin 7 fEq (ad p).1 (ad (nextF (byP s F Z) Z (ad p).2)).1, (ad (nextF (byP s F Z) Z (ad p).2)).2) := by rw [cmpF, if_neg n0, if_pos hS]
        have hbp := hpr.g hb
        refine a_aload_n (pc := 26) dX4_chain_26 rfl rfl ?_
        refine a_getfield (pc := 27) kg_X4_44 dX4_chain_27 (RH_r) rfl ?_
        refine a_istore (pc := 30) dX4_chain_30 (by decide) rfl ?_
        refine a_aload_n (pc := 32) dX4_chain_32 rfl rfl ?_
        refine a_callV (pc := 33) km_X4_69 dX4_chain_33 (f_step d hR1.1) rfl rfl (krecv_of (by rfl) RH_r) (rok_of hM (by omega) (by decide) (by omega) (by omega)) (Nat.le_of_ble_eq_true rfl) (fun r33 h33 hp33 => ?_)
        obtain ⟨rfl, rfl⟩ := hp33
        refine a_hp (show _ = (RH h r t cd en L1 (k1 + 1) (fk (k1 + 1)) ft1 fc1) by rw [hst]) ?_
        refine a_aload_n (pc := 36) dX4_chain_36 rfl rfl ?_
        refine a_iload_n (pc := 37) dX4_chain_37 rfl rfl ?_
        refine a_iload_n (pc := 38) dX4_chain_38 rfl rfl ?_
        refine a_callV (pc := 39) km_X4_81 dX4_chain_39 (had (nextF (byP s F Z) Z (ad p).2) L1 (k1 + 1) (fk (k1 + 1)) ft1 fc1 n1g (by omega) hRn hL1 (fun _ => by have := hG1 hb; have := hLk hbp; omega)) rfl rfl (krecv_of (by rfl) RH_r) (rok_of hM (by omega) (by decide) (by omega) (by omega)) (Nat.le_of_ble_eq_true rfl) (fun r39 h39 hp39 => ?_)
        obtain ⟨rfl, L2, k2, tk2, ft2, fc2, rfl, hL2, hR2, hG2⟩ := hp39
        refine a_aload_n (pc := 42) dX4_chain_42 rfl rfl ?_
        refine a_iload (pc := 43) dX4_chain_43 rfl ?_
        refine a_iconst (pc := 45) dX4_chain_45 ic_m1 ?_
        refine a_ixor (pc := 46) dX4_chain_46 ?_
        refine a_callV (pc := 47) km_X4_88 dX4_chain_47 (f_put d hL2 (tk1 ^^^ (-1))) rfl rfl (krecv_of (by rfl) RH_r) (rok_of hM (by omega) (by decide) (by omega) (by omega)) (Nat.le_of_ble_eq_true rfl) (fun r47 h47 hp47 => ?_)
        obtain ⟨rfl, rfl⟩ := hp47
        refine a_iload_n (pc := 50) dX4_chain_50 rfl rfl ?_
        refine a_iconst (pc := 51) dX4_chain_51 ic_2 ?_
        refine a_icmp_neN (pc := 52) (tgt := 58) dX4_chain_52 (by decide) (by omega) (by omega) (fun c52 => ?_) (fun c52 => ?_)
        · exact absurd rfl c52
        · refine a_goto (pc := 55) (tgt := 64) dX4_chain_55 (by decide) ?_
          refine a_ret_v (pc := 64) hM rfl dX4_chain_64 (by omega) (by omega) ?_
          exact ⟨rfl, by rw [e]; exact ⟨puL L2, k2, tk2, ft2, puF L2 fc2 (tk1 ^^^ (-1)), rfl, puL_le hL2, hR2, Gd_bin (kd := 7) (f := fEq) hG1 hG2 (fun z => hb) (fun z => hLk hbp) (by have := hR2.1; have := d.c161; omega) (show tk1 ^^^ (-1) = encC (7, 0) by rw [htk]; rfl)⟩⟩
end CRP

/-! THE READER: term, added, not, both, either -/
section MQ4
variable {X : KX} {m : Nat → Nat} {s : MST} {h0 : AH}
theorem isS_w {p : PS} {c : Nat} (h : isS p c = true) : pW p = lN c := by
  simp only [isS, Bool.and_eq_true, Bool.not_eq_true', decide_eq_true_eq] at h
  exact h.2
theorem oK_tr {Z : Nat} {p q : PS} {r : Rs} (h1 : pAt p ≤ pAt q) (h2 : pOp q = pOp p) (h : oK Z q r) : oK Z p r := ⟨h.1, Nat.le_trans h1 h.2.1, h.2.2.trans h2⟩
theorem stars_ok {F Z j : Nat} {sub : PS → Rs} (hsub : ∀ p, gP Z p → pOp p + j = 5 → oK Z p (sub p)) (f : Nat) (r : Rs) (hg : gP Z r.2) (hj : pOp r.2 + j = 5) : oK Z r.2 (stars (byP s F Z) Z sub f r) := by
  induction f generalizing r with
  | zero => exact ⟨hg, Nat.le_refl _, rfl⟩
  | succ f ih =>
    unfold stars
    by_cases c : isS r.2 42 = true
    · rw [if_pos c]
      obtain ⟨n1, n2, n3⟩ := next_ok (s := s) (F := F) hg (by have := (isS_3 c).2; omega) (by have := (isS_3 c).2; omega)
      have k := hsub _ n1 (by omega)
      exact oK_tr (Nat.le_trans (Nat.le_of_lt n2) k.2.1) (k.2.2.trans n3) (ih (eBin 3 (· * ·) r.1 (sub (nextF (byP s F Z) Z r.2)).1, (sub (nextF (byP s F Z) Z r.2)).2) k.1 (by rw [k.2.2]; omega))
    · rw [if_neg c]
      exact ⟨hg, Nat.le_refl _, rfl⟩
theorem termL_ok {F Z j : Nat} {sub : PS → Rs} (hsub : ∀ p, gP Z p → pOp p + j = 5 → oK Z p (sub p)) {p : PS} (hg : gP Z p) (hj : pOp p + j = 5) : oK Z p (termL (byP s F Z) Z sub p) :=
  oK_tr (hsub p hg hj).2.1 (hsub p hg hj).2.2 (stars_ok hsub (Z + 1) (sub p) (hsub p hg hj).1 (by rw [(hsub p hg hj).2.2]; exact hj))
theorem sums_ok {F Z j : Nat} {sub : PS → Rs} (hsub : ∀ p, gP Z p → pOp p + j = 5 → oK Z p (sub p)) (f : Nat) (r : Rs) (hg : gP Z r.2) (hj : pOp r.2 + j = 5) : oK Z r.2 (sums (byP s F Z) Z sub f r) := by
  induction f generalizing r with
  | zero => exact ⟨hg, Nat.le_refl _, rfl⟩
  | succ f ih =>
    unfold sums
    by_cases c : isS r.2 43 = true
    · rw [if_pos c]
      obtain ⟨n1, n2, n3⟩ := next_ok (s := s) (F := F) hg (by have := (isS_3 c).2; omega) (by have := (isS_3 c).2; omega)
      have k := hsub _ n1 (by omega)
      exact oK_tr (Nat.le_trans (Nat.le_of_lt n2) k.2.1) (k.2.2.trans n3) (ih (eBin 4 (· + ·) r.1 (sub (nextF (byP s F Z) Z r.2)).1, (sub (nextF (byP s F Z) Z r.2)).2) k.1 (by rw [k.2.2]; omega))
    · rw [if_neg c]
      by_cases c : isS r.2 45 = true
      · rw [if_pos c]
        obtain ⟨n1, n2, n3⟩ := next_ok (s := s) (F := F) hg (by have := (isS_3 c).2; omega) (by have := (isS_3 c).2; omega)
        have k := hsub _ n1 (by omega)
        exact oK_tr (Nat.le_trans (Nat.le_of_lt n2) k.2.1) (k.2.2.trans n3) (ih (eBin 5 (· - ·) r.1 (sub (nextF (byP s F Z) Z r.2)).1, (sub (nextF (byP s F Z) Z r.2)).2) k.1 (by rw [k.2.2]; omega))
      · rw [if_neg c]
        exact ⟨hg, Nat.le_refl _, rfl⟩
theorem addedL_ok {F Z j : Nat} {sub : PS → Rs} (hsub : ∀ p, gP Z p → pOp p + j = 5 → oK Z p (sub p)) {p : PS} (hg : gP Z p) (hj : pOp p + j = 5) : oK Z p (addedL (byP s F Z) Z sub p) :=
  oK_tr (hsub p hg hj).2.1 (hsub p hg hj).2.2 (sums_ok hsub (Z + 1) (sub p) (hsub p hg hj).1 (by rw [(hsub p hg hj).2.2]; exact hj))
theorem ands_ok {F Z j : Nat} {sub : PS → Rs} (hsub : ∀ p, gP Z p → pOp p + j = 5 → oK Z p (sub p)) (f : Nat) (r : Rs) (hg : gP Z r.2) (hj : pOp r.2 + j = 5) : oK Z r.2 (ands (byP s F Z) Z sub f r) := by
  induction f generalizing r with
  | zero => exact ⟨hg, Nat.le_refl _, rfl⟩
  | succ f ih =>
    unfold ands
    by_cases c : isW r.2 (lN 1111) = true
    · rw [if_pos c]
      obtain ⟨n1, n2, n3⟩ := next_ok (s := s) (F := F) hg (by have := (isW_1 c).2; omega) (by have := (isW_1 c).2; omega)
      have k := hsub _ n1 (by omega)
      exact oK_tr (Nat.le_trans (Nat.le_of_lt n2) k.2.1) (k.2.2.trans n3) (ih (eBin 9 fAnd r.1 (sub (nextF (byP s F Z) Z r.2)).1, (sub (nextF (byP s F Z) Z r.2)).2) k.1 (by rw [k.2.2]; omega))
    · rw [if_neg c]
      exact ⟨hg, Nat.le_refl _, rfl⟩
theorem bothL_ok {F Z j : Nat} {sub : PS → Rs} (hsub : ∀ p, gP Z p → pOp p + j = 5 → oK Z p (sub p)) {p : PS} (hg : gP Z p) (hj : pOp p + j = 5) : oK Z p (bothL (byP s F Z) Z sub p) :=
  oK_tr (hsub p hg hj).2.1 (hsub p hg hj).2.2 (ands_ok hsub (Z + 1) (sub p) (hsub p hg hj).1 (by rw [(hsub p hg hj).2.2]; exact hj))
theorem orsF_ok {F Z j : Nat} {sub : PS → Rs} (hsub : ∀ p, gP Z p → pOp p + j = 5 → oK Z p (sub p)) (f : Nat) (r : Rs) (hg : gP Z r.2) (hj : pOp r.2 + j = 5) : oK Z r.2 (orsF (byP s F Z) Z sub f r) := by
  induction f generalizing r with
  | zero => exact ⟨hg, Nat.le_refl _, rfl⟩
  | succ f ih =>
    unfold orsF
    by_cases c : isW r.2 (lN 423) = true
    · rw [if_pos c]
      obtain ⟨n1, n2, n3⟩ := next_ok (s := s) (F := F) hg (by have := (isW_1 c).2; omega) (by have := (isW_1 c).2; omega)
      have k := hsub _ n1 (by omega)
      exact oK_tr (Nat.le_trans (Nat.le_of_lt n2) k.2.1) (k.2.2.trans n3) (ih (eBin 10 fOr r.1 (sub (nextF (byP s F Z) Z r.2)).1, (sub (nextF (byP s F Z) Z r.2)).2) k.1 (by rw [k.2.2]; omega))
    · rw [if_neg c]
      exact ⟨hg, Nat.le_refl _, rfl⟩
theorem eitherL_ok {F Z j : Nat} {sub : PS → Rs} (hsub : ∀ p, gP Z p → pOp p + j = 5 → oK Z p (sub p)) {p : PS} (hg : gP Z p) (hj : pOp p + j = 5) : oK Z p (eitherL (byP s F Z) Z sub p) :=
  oK_tr (hsub p hg hj).2.1 (hsub p hg hj).2.2 (orsF_ok hsub (Z + 1) (sub p) (hsub p hg hj).1 (by rw [(hsub p hg hj).2.2]; exact hj))
set_option maxRecDepth 4000 in
theorem f_term (hm : MI m) {F Z : Nat} (h32 : s.1 32 = nI F) (h33 : s.1 33 = nI Z) (hF : F ≤ 800) (hZ : Z ≤ 160) {j d dsu : Nat} (hds : dsu + 1 ≤ d) (hd3 : 3 ≤ d) {sub : PS → Rs} (hsub : rC X m s h0 Z dsu j yX12_one cX12_one 2 sub) (p : PS) (hg : gP Z p) (hj : pOp p + j = 5) : Fn X d 0 0 yX12_term cX12_term 2 (some .int) [.ref (m 65)] (mh m (pst s p) h0) (fun rv hv => rv = some (.int ((termL (byP s F Z) Z sub p).1.2 s.1)) ∧ hv = mh m (pst s (termL (byP s F Z) Z sub p).2) h0) := by
  refine fn_of (by decide) (Nat.le_of_ble_eq_true rfl) (fun M hM => ?_)
  obtain ⟨hfn, b1, b2, b3⟩ := hsub p hg hj
  have loop : ∀ (f : Nat) (r : Rs), termL (byP s F Z) Z sub p = stars (byP s F Z) Z sub f r → gP Z r.2 → pOp r.2 + j = 5 → Z < pAt r.2 + f → AJ X M yX12_term cX12_term 2 (some .int) 5 [(0, .ref (m 65)), (1, .int (r.1.2 s.1))] [] (mh m (pst s r.2) h0) 0 0 := by
    intro f
    induction f with
    | zero =>
      intro r hs hg hj hf
      exact absurd hf (by have := hg.2.2.1; omega)
    | succ f ih =>
      intro r hs hg hj hf
      refine a_aload_n (pc := 5) dX12_term_5 rfl rfl ?_
      refine a_bipush (pc := 6) dX12_term_6 ib_42 ?_
      refine a_callV (pc := 8) km_X12_328 dX12_term_8 (f_isSign hm r.2 hg.1 (c := 42) (by decide)) rfl rfl (krecv_of (ci := 12) rfl (m_obj hm)) (rok_of hM (by omega) (by decide) (by omega) (by omega)) (Nat.le_of_ble_eq_true rfl) (fun r8 h8 hp8 => ?_)
      obtain ⟨rfl, rfl⟩ := hp8
      refine a_if_eqB (pc := 11) (tgt := 28) dX12_term_11 (by decide) (fun c11 => ?_) (fun c11 => ?_)
      · refine a_iload_n (pc := 28) dX12_term_28 rfl rfl ?_
        refine a_ret_i (pc := 29) hM rfl (rfl) dX12_term_29 (by omega) (by omega) ?_
        exact ⟨by rw [hs, stars, if_neg (by rw [c11]; decide)], by rw [hs, stars, if_neg (by rw [c11]; decide)]⟩
      · have ht := (isS_3 c11).2
        obtain ⟨n1, n2, n3⟩ := next_ok (s := s) (F := F) hg (by omega) (by omega)
        obtain ⟨hfk, k1, k2, k3⟩ := hsub _ n1 (by omega)
        refine a_aload_n (pc := 14) dX12_term_14 rfl rfl ?_
        refine a_callV (pc := 15) km_X12_291 dX12_term_15 (f_next hm r.2 h32 h33 hF hZ hg.2.1) rfl rfl (krecv_of (ci := 12) rfl (m_obj hm)) (rok_of hM (by omega) (by decide) (by omega) (by omega)) (Nat.le_of_ble_eq_true rfl) (fun r15 h15 hp15 => ?_)
        obtain ⟨rfl, rfl⟩ := hp15
        refine a_iload_n (pc := 18) dX12_term_18 rfl rfl ?_
        refine a_aload_n (pc := 19) dX12_term_19 rfl rfl ?_
        refine a_callV (pc := 20) km_X12_335 dX12_term_20 (hfk) rfl rfl (krecv_of (ci := 12) rfl (m_obj hm)) (rok_of hM (by omega) (by decide) (by omega) (by omega)) (Nat.le_of_ble_eq_true rfl) (fun r20 h20 hp20 => ?_)
        obtain ⟨rfl, rfl⟩ := hp20
        refine a_imul (pc := 23) dX12_term_23 ?_
        refine a_istore_n (pc := 24) dX12_term_24 rfl (by decide) rfl ?_
        refine a_goto (pc := 25) (tgt := 5) dX12_term_25 (by decide) ?_
        exact a_locR (ih (eBin 3 (· * ·) r.1 (sub (nextF (byP s F Z) Z r.2)).1, (sub (nextF (byP s F Z) Z r.2)).2) (hs.trans (by rw [stars, if_pos c11])) k1 (show pOp (sub (nextF (byP s F Z) Z r.2)).2 + j = 5 by omega) (show Z < pAt (sub (nextF (byP s F Z) Z r.2)).2 + f by omega)) ⟨rfl, rfl, trivial⟩
  refine a_aload_n (pc := 0) dX12_term_0 rfl rfl ?_
  refine a_callV (pc := 1) km_X12_335 dX12_term_1 (hfn) rfl rfl (krecv_of (ci := 12) rfl (m_obj hm)) (rok_of hM (by omega) (by decide) (by omega) (by omega)) (Nat.le_of_ble_eq_true rfl) (fun r1 h1 hp1 => ?_)
  obtain ⟨rfl, rfl⟩ := hp1
  refine a_istore_n (pc := 4) dX12_term_4 rfl (by decide) rfl ?_
  exact a_locR (loop (Z + 1) (sub p) rfl b1 (by omega) (by omega)) ⟨rfl, rfl, trivial⟩

theorem rC_term (hm : MI m) {F Z : Nat} (h32 : s.1 32 = nI F) (h33 : s.1 33 = nI Z) (hF : F ≤ 800) (hZ : Z ≤ 160) {j d dsu : Nat} (hds : dsu + 1 ≤ d) (hd3 : 3 ≤ d) {sub : PS → Rs} (hsub : rC X m s h0 Z dsu j yX12_one cX12_one 2 sub) : rC X m s h0 Z d j yX12_term cX12_term 2 (termL (byP s F Z) Z sub) :=
  fun p hg hj => ⟨f_term hm h32 h33 hF hZ hds hd3 hsub p hg hj, termL_ok (fun q a b => (hsub q a b).2) hg hj⟩
set_option maxRecDepth 4000 in
theorem f_both (hm : MI m) {F Z : Nat} (h32 : s.1 32 = nI F) (h33 : s.1 33 = nI Z) (hF : F ≤ 800) (hZ : Z ≤ 160) {j d dsu : Nat} (hds : dsu + 1 ≤ d) (hd3 : 3 ≤ d) {sub : PS → Rs} (hsub : rC X m s h0 Z dsu j yX12_not cX12_not 4 sub) (p : PS) (hg : gP Z p) (hj : pOp p + j = 5) : Fn X d 0 0 yX12_both cX12_both 3 (some .int) [.ref (m 65)] (mh m (pst s p) h0) (fun rv hv => rv = some (.int ((bothL (byP s F Z) Z sub p).1.2 s.1)) ∧ hv = mh m (pst s (bothL (byP s F Z) Z sub p).2) h0) := by
  refine fn_of (by decide) (Nat.le_of_ble_eq_true rfl) (fun M hM => ?_)
  obtain ⟨hfn, b1, b2, b3⟩ := hsub p hg hj
  have loop : ∀ (f : Nat) (r : Rs), bothL (byP s F Z) Z sub p = ands (byP s F Z) Z sub f r → gP Z r.2 → pOp r.2 + j = 5 → Z < pAt r.2 + f → AJ X M yX12_both cX12_both 3 (some .int) 5 [(0, .ref (m 65)), (1, .int (r.1.2 s.1))] [] (mh m (pst s r.2) h0) 0 0 := by
    intro f
    induction f with
    | zero =>
      intro r hs hg hj hf
      exact absurd hf (by have := hg.2.2.1; omega)
    | succ f ih =>
      intro r hs hg hj hf
      refine a_aload_n (pc := 5) dX12_both_5 rfl rfl ?_
      refine a_ldc2 (pc := 6) kc_X12_360 dX12_both_6 ?_
      refine a_topl (z := lN 1111) rfl ?_
      refine a_callV (pc := 9) km_X12_296 dX12_both_9 (f_isWord hm r.2 hg.1 (lN 1111)) rfl rfl (krecv_of (ci := 12) rfl (m_obj hm)) (rok_of hM (by omega) (by decide) (by omega) (by omega)) (Nat.le_of_ble_eq_true rfl) (fun r9 h9 hp9 => ?_)
      obtain ⟨rfl, rfl⟩ := hp9
      refine a_if_eqB (pc := 12) (tgt := 41) dX12_both_12 (by decide) (fun c12 => ?_) (fun c12 => ?_)
      · refine a_iload_n (pc := 41) dX12_both_41 rfl rfl ?_
        refine a_ret_i (pc := 42) hM rfl (rfl) dX12_both_42 (by omega) (by omega) ?_
        exact ⟨by rw [hs, ands, if_neg (by rw [c12]; decide)], by rw [hs, ands, if_neg (by rw [c12]; decide)]⟩
      · have ht := (isW_1 c12).2
        obtain ⟨n1, n2, n3⟩ := next_ok (s := s) (F := F) hg (by omega) (by omega)
        obtain ⟨hfk, k1, k2, k3⟩ := hsub _ n1 (by omega)
        refine a_aload_n (pc := 15) dX12_both_15 rfl rfl ?_
        refine a_callV (pc := 16) km_X12_291 dX12_both_16 (f_next hm r.2 h32 h33 hF hZ hg.2.1) rfl rfl (krecv_of (ci := 12) rfl (m_obj hm)) (rok_of hM (by omega) (by decide) (by omega) (by omega)) (Nat.le_of_ble_eq_true rfl) (fun r16 h16 hp16 => ?_)
        obtain ⟨rfl, rfl⟩ := hp16
        refine a_aload_n (pc := 19) dX12_both_19 rfl rfl ?_
        refine a_callV (pc := 20) km_X12_352 dX12_both_20 (hfk) rfl rfl (krecv_of (ci := 12) rfl (m_obj hm)) (rok_of hM (by omega) (by decide) (by omega) (by omega)) (Nat.le_of_ble_eq_true rfl) (fun r20 h20 hp20 => ?_)
        obtain ⟨rfl, rfl⟩ := hp20
        refine a_istore_n (pc := 23) dX12_both_23 rfl (by decide) rfl ?_
        refine a_iload_n (pc := 24) dX12_both_24 rfl rfl ?_
        refine a_if_eq (pc := 25) (tgt := 36) dX12_both_25 (by decide) (fun c25 => ?_) (fun c25 => ?_)
        · have hv : fAnd (r.1.2 s.1) ((sub (nextF (byP s F Z) Z r.2)).1.2 s.1) = nI 0 := if_pos (Or.inl c25)
          refine a_iconst (pc := 36) dX12_both_36 ic_0 ?_
          refine a_topi hv.symm ?_
          refine a_istore_n (pc := 37) dX12_both_37 rfl (by decide) rfl ?_
          refine a_goto (pc := 38) (tgt := 5) dX12_both_38 (by decide) ?_
          exact a_locR (ih (eBin 9 fAnd r.1 (sub (nextF (byP s F Z) Z r.2)).1, (sub (nextF (byP s F Z) Z r.2)).2) (hs.trans (by rw [ands, if_pos c12])) k1 (show pOp (sub (nextF (byP s F Z) Z r.2)).2 + j = 5 by omega) (show Z < pAt (sub (nextF (byP s F Z) Z r.2)).2 + f by omega)) ⟨rfl, rfl, trivial⟩
        · refine a_iload_n (pc := 28) dX12_both_28 rfl rfl ?_
          refine a_if_eq (pc := 29) (tgt := 36) dX12_both_29 (by decide) (fun c29 => ?_) (fun c29 => ?_)
          · have hv : fAnd (r.1.2 s.1) ((sub (nextF (byP s F Z) Z r.2)).1.2 s.1) = nI 0 := if_pos (Or.inr c29)
            refine a_iconst (pc := 36) dX12_both_36 ic_0 ?_
            refine a_topi hv.symm ?_
            refine a_istore_n (pc := 37) dX12_both_37 rfl (by decide) rfl ?_
            refine a_goto (pc := 38) (tgt := 5) dX12_both_38 (by decide) ?_
            exact a_locR (ih (eBin 9 fAnd r.1 (sub (nextF (byP s F Z) Z r.2)).1, (sub (nextF (byP s F Z) Z r.2)).2) (hs.trans (by rw [ands, if_pos c12])) k1 (show pOp (sub (nextF (byP s F Z) Z r.2)).2 + j = 5 by omega) (show Z < pAt (sub (nextF (byP s F Z) Z r.2)).2 + f by omega)) ⟨rfl, rfl, trivial⟩
          · have hv : fAnd (r.1.2 s.1) ((sub (nextF (byP s F Z) Z r.2)).1.2 s.1) = nI 1 := if_neg (fun z => z.elim c25 c29)
            refine a_iconst (pc := 32) dX12_both_32 ic_1 ?_
            refine a_goto (pc := 33) (tgt := 37) dX12_both_33 (by decide) ?_
            refine a_topi hv.symm ?_
            refine a_istore_n (pc := 37) dX12_both_37 rfl (by decide) rfl ?_
            refine a_goto (pc := 38) (tgt := 5) dX12_both_38 (by decide) ?_
            exact a_locR (ih (eBin 9 fAnd r.1 (sub (nextF (byP s F Z) Z r.2)).1, (sub (nextF (byP s F Z) Z r.2)).2) (hs.trans (by rw [ands, if_pos c12])) k1 (show pOp (sub (nextF (byP s F Z) Z r.2)).2 + j = 5 by omega) (show Z < pAt (sub (nextF (byP s F Z) Z r.2)).2 + f by omega)) ⟨rfl, rfl, trivial⟩
  refine a_aload_n (pc := 0) dX12_both_0 rfl rfl ?_
  refine a_callV (pc := 1) km_X12_352 dX12_both_1 (hfn) rfl rfl (krecv_of (ci := 12) rfl (m_obj hm)) (rok_of hM (by omega) (by decide) (by omega) (by omega)) (Nat.le_of_ble_eq_true rfl) (fun r1 h1 hp1 => ?_)
  obtain ⟨rfl, rfl⟩ := hp1
  refine a_istore_n (pc := 4) dX12_both_4 rfl (by decide) rfl ?_
  exact a_locR (loop (Z + 1) (sub p) rfl b1 (by omega) (by omega)) ⟨rfl, rfl, trivial⟩

theorem rC_both (hm : MI m) {F Z : Nat} (h32 : s.1 32 = nI F) (h33 : s.1 33 = nI Z) (hF : F ≤ 800) (hZ : Z ≤ 160) {j d dsu : Nat} (hds : dsu + 1 ≤ d) (hd3 : 3 ≤ d) {sub : PS → Rs} (hsub : rC X m s h0 Z dsu j yX12_not cX12_not 4 sub) : rC X m s h0 Z d j yX12_both cX12_both 3 (bothL (byP s F Z) Z sub) :=
  fun p hg hj => ⟨f_both hm h32 h33 hF hZ hds hd3 hsub p hg hj, bothL_ok (fun q a b => (hsub q a b).2) hg hj⟩
set_option maxRecDepth 4000 in
theorem f_either (hm : MI m) {F Z : Nat} (h32 : s.1 32 = nI F) (h33 : s.1 33 = nI Z) (hF : F ≤ 800) (hZ : Z ≤ 160) {j d dsu : Nat} (hds : dsu + 1 ≤ d) (hd3 : 3 ≤ d) {sub : PS → Rs} (hsub : rC X m s h0 Z dsu j yX12_both cX12_both 3 sub) (p : PS) (hg : gP Z p) (hj : pOp p + j = 5) : Fn X d 0 0 yX12_either cX12_either 3 (some .int) [.ref (m 65)] (mh m (pst s p) h0) (fun rv hv => rv = some (.int ((eitherL (byP s F Z) Z sub p).1.2 s.1)) ∧ hv = mh m (pst s (eitherL (byP s F Z) Z sub p).2) h0) := by
  refine fn_of (by decide) (Nat.le_of_ble_eq_true rfl) (fun M hM => ?_)
  obtain ⟨hfn, b1, b2, b3⟩ := hsub p hg hj
  have loop : ∀ (f : Nat) (r : Rs), eitherL (byP s F Z) Z sub p = orsF (byP s F Z) Z sub f r → gP Z r.2 → pOp r.2 + j = 5 → Z < pAt r.2 + f → AJ X M yX12_either cX12_either 3 (some .int) 5 [(0, .ref (m 65)), (1, .int (r.1.2 s.1))] [] (mh m (pst s r.2) h0) 0 0 := by
    intro f
    induction f with
    | zero =>
      intro r hs hg hj hf
      exact absurd hf (by have := hg.2.2.1; omega)
    | succ f ih =>
      intro r hs hg hj hf
      refine a_aload_n (pc := 5) dX12_either_5 rfl rfl ?_
      refine a_ldc2 (pc := 6) kc_X12_365 dX12_either_6 ?_
      refine a_topl (z := lN 423) rfl ?_
      refine a_callV (pc := 9) km_X12_296 dX12_either_9 (f_isWord hm r.2 hg.1 (lN 423)) rfl rfl (krecv_of (ci := 12) rfl (m_obj hm)) (rok_of hM (by omega) (by decide) (by omega) (by omega)) (Nat.le_of_ble_eq_true rfl) (fun r9 h9 hp9 => ?_)
      obtain ⟨rfl, rfl⟩ := hp9
      refine a_if_eqB (pc := 12) (tgt := 41) dX12_either_12 (by decide) (fun c12 => ?_) (fun c12 => ?_)
      · refine a_iload_n (pc := 41) dX12_either_41 rfl rfl ?_
        refine a_ret_i (pc := 42) hM rfl (rfl) dX12_either_42 (by omega) (by omega) ?_
        exact ⟨by rw [hs, orsF, if_neg (by rw [c12]; decide)], by rw [hs, orsF, if_neg (by rw [c12]; decide)]⟩
      · have ht := (isW_1 c12).2
        obtain ⟨n1, n2, n3⟩ := next_ok (s := s) (F := F) hg (by omega) (by omega)
        obtain ⟨hfk, k1, k2, k3⟩ := hsub _ n1 (by omega)
        refine a_aload_n (pc := 15) dX12_either_15 rfl rfl ?_
        refine a_callV (pc := 16) km_X12_291 dX12_either_16 (f_next hm r.2 h32 h33 hF hZ hg.2.1) rfl rfl (krecv_of (ci := 12) rfl (m_obj hm)) (rok_of hM (by omega) (by decide) (by omega) (by omega)) (Nat.le_of_ble_eq_true rfl) (fun r16 h16 hp16 => ?_)
        obtain ⟨rfl, rfl⟩ := hp16
        refine a_aload_n (pc := 19) dX12_either_19 rfl rfl ?_
        refine a_callV (pc := 20) km_X12_362 dX12_either_20 (hfk) rfl rfl (krecv_of (ci := 12) rfl (m_obj hm)) (rok_of hM (by omega) (by decide) (by omega) (by omega)) (Nat.le_of_ble_eq_true rfl) (fun r20 h20 hp20 => ?_)
        obtain ⟨rfl, rfl⟩ := hp20
        refine a_istore_n (pc := 23) dX12_either_23 rfl (by decide) rfl ?_
        refine a_iload_n (pc := 24) dX12_either_24 rfl rfl ?_
        refine a_if_ne (pc := 25) (tgt := 32) dX12_either_25 (by decide) (fun c25 => ?_) (fun c25 => ?_)
        · have hv : fOr (r.1.2 s.1) ((sub (nextF (byP s F Z) Z r.2)).1.2 s.1) = nI 1 := if_neg (fun z => c25 z.1)
          refine a_iconst (pc := 32) dX12_either_32 ic_1 ?_
          refine a_goto (pc := 33) (tgt := 37) dX12_either_33 (by decide) ?_
          refine a_topi hv.symm ?_
          refine a_istore_n (pc := 37) dX12_either_37 rfl (by decide) rfl ?_
          refine a_goto (pc := 38) (tgt := 5) dX12_either_38 (by decide) ?_
          exact a_locR (ih (eBin 10 fOr r.1 (sub (nextF (byP s F Z) Z r.2)).1, (sub (nextF (byP s F Z) Z r.2)).2) (hs.trans (by rw [orsF, if_pos c12])) k1 (show pOp (sub (nextF (byP s F Z) Z r.2)).2 + j = 5 by omega) (show Z < pAt (sub (nextF (byP s F Z) Z r.2)).2 + f by omega)) ⟨rfl, rfl, trivial⟩
        · refine a_iload_n (pc := 28) dX12_either_28 rfl rfl ?_
          refine a_if_eq (pc := 29) (tgt := 36) dX12_either_29 (by decide) (fun c29 => ?_) (fun c29 => ?_)
          · have hv : fOr (r.1.2 s.1) ((sub (nextF (byP s F Z) Z r.2)).1.2 s.1) = nI 0 := if_pos ⟨c25, c29⟩
            refine a_iconst (pc := 36) dX12_either_36 ic_0 ?_
            refine a_topi hv.symm ?_
            refine a_istore_n (pc := 37) dX12_either_37 rfl (by decide) rfl ?_
            refine a_goto (pc := 38) (tgt := 5) dX12_either_38 (by decide) ?_
            exact a_locR (ih (eBin 10 fOr r.1 (sub (nextF (byP s F Z) Z r.2)).1, (sub (nextF (byP s F Z) Z r.2)).2) (hs.trans (by rw [orsF, if_pos c12])) k1 (show pOp (sub (nextF (byP s F Z) Z r.2)).2 + j = 5 by omega) (show Z < pAt (sub (nextF (byP s F Z) Z r.2)).2 + f by omega)) ⟨rfl, rfl, trivial⟩
          · have hv : fOr (r.1.2 s.1) ((sub (nextF (byP s F Z) Z r.2)).1.2 s.1) = nI 1 := if_neg (fun z => c29 z.2)
            refine a_iconst (pc := 32) dX12_either_32 ic_1 ?_
            refine a_goto (pc := 33) (tgt := 37) dX12_either_33 (by decide) ?_
            refine a_topi hv.symm ?_
            refine a_istore_n (pc := 37) dX12_either_37 rfl (by decide) rfl ?_
            refine a_goto (pc := 38) (tgt := 5) dX12_either_38 (by decide) ?_
            exact a_locR (ih (eBin 10 fOr r.1 (sub (nextF (byP s F Z) Z r.2)).1, (sub (nextF (byP s F Z) Z r.2)).2) (hs.trans (by rw [orsF, if_pos c12])) k1 (show pOp (sub (nextF (byP s F Z) Z r.2)).2 + j = 5 by omega) (show Z < pAt (sub (nextF (byP s F Z) Z r.2)).2 + f by omega)) ⟨rfl, rfl, trivial⟩
  refine a_aload_n (pc := 0) dX12_either_0 rfl rfl ?_
  refine a_callV (pc := 1) km_X12_362 dX12_either_1 (hfn) rfl rfl (krecv_of (ci := 12) rfl (m_obj hm)) (rok_of hM (by omega) (by decide) (by omega) (by omega)) (Nat.le_of_ble_eq_true rfl) (fun r1 h1 hp1 => ?_)
  obtain ⟨rfl, rfl⟩ := hp1
  refine a_istore_n (pc := 4) dX12_either_4 rfl (by decide) rfl ?_
  exact a_locR (loop (Z + 1) (sub p) rfl b1 (by omega) (by omega)) ⟨rfl, rfl, trivial⟩

theorem rC_either (hm : MI m) {F Z : Nat} (h32 : s.1 32 = nI F) (h33 : s.1 33 = nI Z) (hF : F ≤ 800) (hZ : Z ≤ 160) {j d dsu : Nat} (hds : dsu + 1 ≤ d) (hd3 : 3 ≤ d) {sub : PS → Rs} (hsub : rC X m s h0 Z dsu j yX12_both cX12_both 3 sub) : rC X m s h0 Z d j yX12_either cX12_either 3 (eitherL (byP s F Z) Z sub) :=
  fun p hg hj => ⟨f_either hm h32 h33 hF hZ hds hd3 hsub p hg hj, eitherL_ok (fun q a b => (hsub q a b).2) hg hj⟩
set_option maxRecDepth 4000 in
theorem f_added (hm : MI m) {F Z : Nat} (h32 : s.1 32 = nI F) (h33 : s.1 33 = nI Z) (hF : F ≤ 800) (hZ : Z ≤ 160) {j d dsu : Nat} (hds : dsu + 1 ≤ d) (hd3 : 3 ≤ d) {sub : PS → Rs} (hsub : rC X m s h0 Z dsu j yX12_term cX12_term 2 sub) (p : PS) (hg : gP Z p) (hj : pOp p + j = 5) : Fn X d 0 0 yX12_added cX12_added 4 (some .int) [.ref (m 65)] (mh m (pst s p) h0) (fun rv hv => rv = some (.int ((addedL (byP s F Z) Z sub p).1.2 s.1)) ∧ hv = mh m (pst s (addedL (byP s F Z) Z sub p).2) h0) := by
  refine fn_of (by decide) (Nat.le_of_ble_eq_true rfl) (fun M hM => ?_)
  obtain ⟨hfn, b1, b2, b3⟩ := hsub p hg hj
  have loop : ∀ (f : Nat) (r : Rs), addedL (byP s F Z) Z sub p = sums (byP s F Z) Z sub f r → gP Z r.2 → pOp r.2 + j = 5 → Z < pAt r.2 + f → AJ X M yX12_added cX12_added 4 (some .int) 5 [(0, .ref (m 65)), (1, .int (r.1.2 s.1))] [] (mh m (pst s r.2) h0) 0 0 := by
    intro f
    induction f with
    | zero =>
      intro r hs hg hj hf
      exact absurd hf (by have := hg.2.2.1; omega)
    | succ f ih =>
      intro r hs hg hj hf
      refine a_aload_n (pc := 5) dX12_added_5 rfl rfl ?_
      refine a_bipush (pc := 6) dX12_added_6 ib_43 ?_
      refine a_callV (pc := 8) km_X12_328 dX12_added_8 (f_isSign hm r.2 hg.1 (c := 43) (by decide)) rfl rfl (krecv_of (ci := 12) rfl (m_obj hm)) (rok_of hM (by omega) (by decide) (by omega) (by omega)) (Nat.le_of_ble_eq_true rfl) (fun r8 h8 hp8 => ?_)
      obtain ⟨rfl, rfl⟩ := hp8
      refine a_if_neB (pc := 11) (tgt := 23) dX12_added_11 (by decide) (fun c11 => ?_) (fun c11 => ?_)
      · have hc : (isS r.2 43 = true) ∨ (isS r.2 43 = false ∧ isS r.2 45 = true) := Or.inl c11
        have ht := (isS_3 c11).2
        obtain ⟨n1, n2, n3⟩ := next_ok (s := s) (F := F) hg (by omega) (by omega)
        obtain ⟨hfk, k1, k2, k3⟩ := hsub _ n1 (by omega)
        refine a_aload_n (pc := 23) dX12_added_23 rfl rfl ?_
        refine a_getfield (pc := 24) kg_X12_264 dX12_added_24 (m_obj hm) rfl ?_
        refine a_topl ((show _ = pW r.2 from rfl)) ?_
        refine a_ldc2 (pc := 27) kc_X12_348 dX12_added_27 ?_
        refine a_topl (z := lN 43) rfl ?_
        refine a_lif_ne (pc := 30) (tgt := 38) dX12_added_30 dX12_added_31 (by decide) (fun c31 => ?_) (fun c31 => ?_)
        · have h43 : ¬ isS r.2 43 = true := fun z => c31 (isS_w z)
          have h45 : isS r.2 45 = true := hc.elim (fun z => absurd z h43) (fun z => z.2)
          refine a_iconst (pc := 38) dX12_added_38 ic_0 ?_
          refine a_istore_n (pc := 39) dX12_added_39 rfl (by decide) rfl ?_
          refine a_aload_n (pc := 40) dX12_added_40 rfl rfl ?_
          refine a_callV (pc := 41) km_X12_291 dX12_added_41 (f_next hm r.2 h32 h33 hF hZ hg.2.1) rfl rfl (krecv_of (ci := 12) rfl (m_obj hm)) (rok_of hM (by omega) (by decide) (by omega) (by omega)) (Nat.le_of_ble_eq_true rfl) (fun r41 h41 hp41 => ?_)
          obtain ⟨rfl, rfl⟩ := hp41
          refine a_aload_n (pc := 44) dX12_added_44 rfl rfl ?_
          refine a_callV (pc := 45) km_X12_345 dX12_added_45 (hfk) rfl rfl (krecv_of (ci := 12) rfl (m_obj hm)) (rok_of hM (by omega) (by decide) (by omega) (by omega)) (Nat.le_of_ble_eq_true rfl) (fun r45 h45 hp45 => ?_)
          obtain ⟨rfl, rfl⟩ := hp45
          refine a_istore_n (pc := 48) dX12_added_48 rfl (by decide) rfl ?_
          refine a_iload_n (pc := 49) dX12_added_49 rfl rfl ?_
          refine a_if_eq_t (pc := 50) (tgt := 59) dX12_added_50 (by decide) (by decide) ?_
          refine a_iload_n (pc := 59) dX12_added_59 rfl rfl ?_
          refine a_iload_n (pc := 60) dX12_added_60 rfl rfl ?_
          refine a_isub (pc := 61) dX12_added_61 ?_
          refine a_istore_n (pc := 62) dX12_added_62 rfl (by decide) rfl ?_
          refine a_goto (pc := 63) (tgt := 5) dX12_added_63 (by decide) ?_
          first | exact a_locR (ih (eBin 4 (· + ·) r.1 (sub (nextF (byP s F Z) Z r.2)).1, (sub (nextF (byP s F Z) Z r.2)).2) (hs.trans (by rw [sums, if_pos h43])) k1 (show pOp (sub (nextF (byP s F Z) Z r.2)).2 + j = 5 by omega) (show Z < pAt (sub (nextF (byP s F Z) Z r.2)).2 + f by omega)) ⟨rfl, rfl, trivial⟩ | exact a_locR (ih (eBin 5 (· - ·) r.1 (sub (nextF (byP s F Z) Z r.2)).1, (sub (nextF (byP s F Z) Z r.2)).2) (hs.trans (by rw [sums, if_neg h43, if_pos h45])) k1 (show pOp (sub (nextF (byP s F Z) Z r.2)).2 + j = 5 by omega) (show Z < pAt (sub (nextF (byP s F Z) Z r.2)).2 + f by omega)) ⟨rfl, rfl, trivial⟩
        · have h43 : isS r.2 43 = true := hc.elim id (fun z => absurd ((isS_w z.2).symm.trans c31) (by decide))
          refine a_iconst (pc := 34) dX12_added_34 ic_1 ?_
          refine a_goto (pc := 35) (tgt := 39) dX12_added_35 (by decide) ?_
          refine a_istore_n (pc := 39) dX12_added_39 rfl (by decide) rfl ?_
          refine a_aload_n (pc := 40) dX12_added_40 rfl rfl ?_
          refine a_callV (pc := 41) km_X12_291 dX12_added_41 (f_next hm r.2 h32 h33 hF hZ hg.2.1) rfl rfl (krecv_of (ci := 12) rfl (m_obj hm)) (rok_of hM (by omega) (by decide) (by omega) (by omega)) (Nat.le_of_ble_eq_true rfl) (fun r41 h41 hp41 => ?_)
          obtain ⟨rfl, rfl⟩ := hp41
          refine a_aload_n (pc := 44) dX12_added_44 rfl rfl ?_
          refine a_callV (pc := 45) km_X12_345 dX12_added_45 (hfk) rfl rfl (krecv_of (ci := 12) rfl (m_obj hm)) (rok_of hM (by omega) (by decide) (by omega) (by omega)) (Nat.le_of_ble_eq_true rfl) (fun r45 h45 hp45 => ?_)
          obtain ⟨rfl, rfl⟩ := hp45
          refine a_istore_n (pc := 48) dX12_added_48 rfl (by decide) rfl ?_
          refine a_iload_n (pc := 49) dX12_added_49 rfl rfl ?_
          refine a_if_eq_f (pc := 50) (tgt := 59) dX12_added_50 (by decide) (by decide) ?_
          refine a_iload_n (pc := 53) dX12_added_53 rfl rfl ?_
          refine a_iload_n (pc := 54) dX12_added_54 rfl rfl ?_
          refine a_iadd (pc := 55) dX12_added_55 ?_
          refine a_goto (pc := 56) (tgt := 62) dX12_added_56 (by decide) ?_
          refine a_istore_n (pc := 62) dX12_added_62 rfl (by decide) rfl ?_
          refine a_goto (pc := 63) (tgt := 5) dX12_added_63 (by decide) ?_
          first | exact a_locR (ih (eBin 4 (· + ·) r.1 (sub (nextF (byP s F Z) Z r.2)).1, (sub (nextF (byP s F Z) Z r.2)).2) (hs.trans (by rw [sums, if_pos h43])) k1 (show pOp (sub (nextF (byP s F Z) Z r.2)).2 + j = 5 by omega) (show Z < pAt (sub (nextF (byP s F Z) Z r.2)).2 + f by omega)) ⟨rfl, rfl, trivial⟩ | exact a_locR (ih (eBin 5 (· - ·) r.1 (sub (nextF (byP s F Z) Z r.2)).1, (sub (nextF (byP s F Z) Z r.2)).2) (hs.trans (by rw [sums, if_neg h43, if_pos h45])) k1 (show pOp (sub (nextF (byP s F Z) Z r.2)).2 + j = 5 by omega) (show Z < pAt (sub (nextF (byP s F Z) Z r.2)).2 + f by omega)) ⟨rfl, rfl, trivial⟩
      · refine a_aload_n (pc := 14) dX12_added_14 rfl rfl ?_
        refine a_bipush (pc := 15) dX12_added_15 ib_45 ?_
        refine a_callV (pc := 17) km_X12_328 dX12_added_17 (f_isSign hm r.2 hg.1 (c := 45) (by decide)) rfl rfl (krecv_of (ci := 12) rfl (m_obj hm)) (rok_of hM (by omega) (by decide) (by omega) (by omega)) (Nat.le_of_ble_eq_true rfl) (fun r17 h17 hp17 => ?_)
        obtain ⟨rfl, rfl⟩ := hp17
        refine a_if_eqB (pc := 20) (tgt := 66) dX12_added_20 (by decide) (fun c20 => ?_) (fun c20 => ?_)
        · refine a_iload_n (pc := 66) dX12_added_66 rfl rfl ?_
          refine a_ret_i (pc := 67) hM rfl (rfl) dX12_added_67 (by omega) (by omega) ?_
          exact ⟨by rw [hs, sums, if_neg (by rw [c11]; decide), if_neg (by rw [c20]; decide)], by rw [hs, sums, if_neg (by rw [c11]; decide), if_neg (by rw [c20]; decide)]⟩
        · have hc : (isS r.2 43 = true) ∨ (isS r.2 43 = false ∧ isS r.2 45 = true) := Or.inr ⟨c11, c20⟩
          have ht := (isS_3 c20).2
          obtain ⟨n1, n2, n3⟩ := next_ok (s := s) (F := F) hg (by omega) (by omega)
          obtain ⟨hfk, k1, k2, k3⟩ := hsub _ n1 (by omega)
          refine a_aload_n (pc := 23) dX12_added_23 rfl rfl ?_
          refine a_getfield (pc := 24) kg_X12_264 dX12_added_24 (m_obj hm) rfl ?_
          refine a_topl ((show _ = pW r.2 from rfl)) ?_
          refine a_ldc2 (pc := 27) kc_X12_348 dX12_added_27 ?_
          refine a_topl (z := lN 43) rfl ?_
          refine a_lif_ne (pc := 30) (tgt := 38) dX12_added_30 dX12_added_31 (by decide) (fun c31 => ?_) (fun c31 => ?_)
          · have h43 : ¬ isS r.2 43 = true := fun z => c31 (isS_w z)
            have h45 : isS r.2 45 = true := hc.elim (fun z => absurd z h43) (fun z => z.2)
            refine a_iconst (pc := 38) dX12_added_38 ic_0 ?_
            refine a_istore_n (pc := 39) dX12_added_39 rfl (by decide) rfl ?_
            refine a_aload_n (pc := 40) dX12_added_40 rfl rfl ?_
            refine a_callV (pc := 41) km_X12_291 dX12_added_41 (f_next hm r.2 h32 h33 hF hZ hg.2.1) rfl rfl (krecv_of (ci := 12) rfl (m_obj hm)) (rok_of hM (by omega) (by decide) (by omega) (by omega)) (Nat.le_of_ble_eq_true rfl) (fun r41 h41 hp41 => ?_)
            obtain ⟨rfl, rfl⟩ := hp41
            refine a_aload_n (pc := 44) dX12_added_44 rfl rfl ?_
            refine a_callV (pc := 45) km_X12_345 dX12_added_45 (hfk) rfl rfl (krecv_of (ci := 12) rfl (m_obj hm)) (rok_of hM (by omega) (by decide) (by omega) (by omega)) (Nat.le_of_ble_eq_true rfl) (fun r45 h45 hp45 => ?_)
            obtain ⟨rfl, rfl⟩ := hp45
            refine a_istore_n (pc := 48) dX12_added_48 rfl (by decide) rfl ?_
            refine a_iload_n (pc := 49) dX12_added_49 rfl rfl ?_
            refine a_if_eq_t (pc := 50) (tgt := 59) dX12_added_50 (by decide) (by decide) ?_
            refine a_iload_n (pc := 59) dX12_added_59 rfl rfl ?_
            refine a_iload_n (pc := 60) dX12_added_60 rfl rfl ?_
            refine a_isub (pc := 61) dX12_added_61 ?_
            refine a_istore_n (pc := 62) dX12_added_62 rfl (by decide) rfl ?_
            refine a_goto (pc := 63) (tgt := 5) dX12_added_63 (by decide) ?_
            first | exact a_locR (ih (eBin 4 (· + ·) r.1 (sub (nextF (byP s F Z) Z r.2)).1, (sub (nextF (byP s F Z) Z r.2)).2) (hs.trans (by rw [sums, if_pos h43])) k1 (show pOp (sub (nextF (byP s F Z) Z r.2)).2 + j = 5 by omega) (show Z < pAt (sub (nextF (byP s F Z) Z r.2)).2 + f by omega)) ⟨rfl, rfl, trivial⟩ | exact a_locR (ih (eBin 5 (· - ·) r.1 (sub (nextF (byP s F Z) Z r.2)).1, (sub (nextF (byP s F Z) Z r.2)).2) (hs.trans (by rw [sums, if_neg h43, if_pos h45])) k1 (show pOp (sub (nextF (byP s F Z) Z r.2)).2 + j = 5 by omega) (show Z < pAt (sub (nextF (byP s F Z) Z r.2)).2 + f by omega)) ⟨rfl, rfl, trivial⟩
          · have h43 : isS r.2 43 = true := hc.elim id (fun z => absurd ((isS_w z.2).symm.trans c31) (by decide))
            refine a_iconst (pc := 34) dX12_added_34 ic_1 ?_
            refine a_goto (pc := 35) (tgt := 39) dX12_added_35 (by decide) ?_
            refine a_istore_n (pc := 39) dX12_added_39 rfl (by decide) rfl ?_
            refine a_aload_n (pc := 40) dX12_added_40 rfl rfl ?_
            refine a_callV (pc := 41) km_X12_291 dX12_added_41 (f_next hm r.2 h32 h33 hF hZ hg.2.1) rfl rfl (krecv_of (ci := 12) rfl (m_obj hm)) (rok_of hM (by omega) (by decide) (by omega) (by omega)) (Nat.le_of_ble_eq_true rfl) (fun r41 h41 hp41 => ?_)
            obtain ⟨rfl, rfl⟩ := hp41
            refine a_aload_n (pc := 44) dX12_added_44 rfl rfl ?_
            refine a_callV (pc := 45) km_X12_345 dX12_added_45 (hfk) rfl rfl (krecv_of (ci := 12) rfl (m_obj hm)) (rok_of hM (by omega) (by decide) (by omega) (by omega)) (Nat.le_of_ble_eq_true rfl) (fun r45 h45 hp45 => ?_)
            obtain ⟨rfl, rfl⟩ := hp45
            refine a_istore_n (pc := 48) dX12_added_48 rfl (by decide) rfl ?_
            refine a_iload_n (pc := 49) dX12_added_49 rfl rfl ?_
            refine a_if_eq_f (pc := 50) (tgt := 59) dX12_added_50 (by decide) (by decide) ?_
            refine a_iload_n (pc := 53) dX12_added_53 rfl rfl ?_
            refine a_iload_n (pc := 54) dX12_added_54 rfl rfl ?_
            refine a_iadd (pc := 55) dX12_added_55 ?_
            refine a_goto (pc := 56) (tgt := 62) dX12_added_56 (by decide) ?_
            refine a_istore_n (pc := 62) dX12_added_62 rfl (by decide) rfl ?_
            refine a_goto (pc := 63) (tgt := 5) dX12_added_63 (by decide) ?_
            first | exact a_locR (ih (eBin 4 (· + ·) r.1 (sub (nextF (byP s F Z) Z r.2)).1, (sub (nextF (byP s F Z) Z r.2)).2) (hs.trans (by rw [sums, if_pos h43])) k1 (show pOp (sub (nextF (byP s F Z) Z r.2)).2 + j = 5 by omega) (show Z < pAt (sub (nextF (byP s F Z) Z r.2)).2 + f by omega)) ⟨rfl, rfl, trivial⟩ | exact a_locR (ih (eBin 5 (· - ·) r.1 (sub (nextF (byP s F Z) Z r.2)).1, (sub (nextF (byP s F Z) Z r.2)).2) (hs.trans (by rw [sums, if_neg h43, if_pos h45])) k1 (show pOp (sub (nextF (byP s F Z) Z r.2)).2 + j = 5 by omega) (show Z < pAt (sub (nextF (byP s F Z) Z r.2)).2 + f by omega)) ⟨rfl, rfl, trivial⟩
  refine a_aload_n (pc := 0) dX12_added_0 rfl rfl ?_
  refine a_callV (pc := 1) km_X12_345 dX12_added_1 (hfn) rfl rfl (krecv_of (ci := 12) rfl (m_obj hm)) (rok_of hM (by omega) (by decide) (by omega) (by omega)) (Nat.le_of_ble_eq_true rfl) (fun r1 h1 hp1 => ?_)
  obtain ⟨rfl, rfl⟩ := hp1
  refine a_istore_n (pc := 4) dX12_added_4 rfl (by decide) rfl ?_
  exact a_locR (loop (Z + 1) (sub p) rfl b1 (by omega) (by omega)) ⟨rfl, rfl, trivial⟩

theorem rC_added (hm : MI m) {F Z : Nat} (h32 : s.1 32 = nI F) (h33 : s.1 33 = nI Z) (hF : F ≤ 800) (hZ : Z ≤ 160) {j d dsu : Nat} (hds : dsu + 1 ≤ d) (hd3 : 3 ≤ d) {sub : PS → Rs} (hsub : rC X m s h0 Z dsu j yX12_term cX12_term 2 sub) : rC X m s h0 Z d j yX12_added cX12_added 4 (addedL (byP s F Z) Z sub) :=
  fun p hg hj => ⟨f_added hm h32 h33 hF hZ hds hd3 hsub p hg hj, addedL_ok (fun q a b => (hsub q a b).2) hg hj⟩
set_option maxRecDepth 4000 in
theorem f_not (hm : MI m) {F Z : Nat} (h32 : s.1 32 = nI F) (h33 : s.1 33 = nI Z) (hF : F ≤ 800) (hZ : Z ≤ 160) {j d dad dno : Nat} (hda : dad + 1 ≤ d) (hdn : dno + 1 ≤ d) (hd3 : 3 ≤ d) {ad no : PS → Rs} (had : rC X m s h0 Z dad j yX12_added cX12_added 4 ad) (hno : ∀ i, j = i + 1 → rC X m s h0 Z dno i yX12_not cX12_not 4 no) (p : PS) (hg : gP Z p) (hj : pOp p + j = 5) : Fn X d 0 0 yX12_not cX12_not 4 (some .int) [.ref (m 65)] (mh m (pst s p) h0) (fun rv hv => rv = some (.int ((notL (byP s F Z) Z ad no p).1.2 s.1)) ∧ hv = mh m (pst s (notL (byP s F Z) Z ad no p).2) h0) := by
  have hk : pTk p ≤ 4 := hg.1
  have hh : pHr p ≤ Z := hg.2.1
  have ho : pOp p ≤ 5 := by omega
  refine fn_of (by decide) (Nat.le_of_ble_eq_true rfl) (fun M hM => ?_)
  refine a_aload_n (pc := 0) dX12_not_0 rfl rfl ?_
  refine a_ldc2 (pc := 1) kc_X12_350 dX12_not_1 ?_
  refine a_topl (z := lN 10631) rfl ?_
  refine a_callV (pc := 4) km_X12_296 dX12_not_4 (f_isWord hm p hk (lN 10631)) rfl rfl (krecv_of (ci := 12) rfl (m_obj hm)) (rok_of hM (by omega) (by decide) (by omega) (by omega)) (Nat.le_of_ble_eq_true rfl) (fun r4 h4 hp4 => ?_)
  obtain ⟨rfl, rfl⟩ := hp4
  refine a_if_eqB (pc := 7) (tgt := 44) dX12_not_7 (by decide) (fun c7 => ?_) (fun c7 => ?_)
  · obtain ⟨hfa, b1, b2, b3⟩ := had p hg hj
    refine a_aload_n (pc := 44) dX12_not_44 rfl rfl ?_
    refine a_callV (pc := 45) km_X12_355 dX12_not_45 (hfa) rfl rfl (krecv_of (ci := 12) rfl (m_obj hm)) (rok_of hM (by omega) (by decide) (by omega) (by omega)) (Nat.le_of_ble_eq_true rfl) (fun r45 h45 hp45 => ?_)
    obtain ⟨rfl, rfl⟩ := hp45
    refine a_istore_n (pc := 48) dX12_not_48 rfl (by decide) rfl ?_
    refine a_aload_n (pc := 49) dX12_not_49 rfl rfl ?_
    refine a_bipush (pc := 50) dX12_not_50 ib_60 ?_
    refine a_callV (pc := 52) km_X12_328 dX12_not_52 (f_isSign hm (ad p).2 b1.1 (c := 60) (by decide)) rfl rfl (krecv_of (ci := 12) rfl (m_obj hm)) (rok_of hM (by omega) (by decide) (by omega) (by omega)) (Nat.le_of_ble_eq_true rfl) (fun r52 h52 hp52 => ?_)
    obtain ⟨rfl, rfl⟩ := hp52
    refine a_if_neB (pc := 55) (tgt := 69) dX12_not_55 (by decide) (fun c55 => ?_) (fun c55 => ?_)
    · have hc : (isS (ad p).2 60 = true) ∨ (isS (ad p).2 60 = false ∧ isS (ad p).2 61 = true) := Or.inl c55
      have ht := (isS_3 c55).2
      obtain ⟨n1, n2, n3⟩ := next_ok (s := s) (F := F) b1 (by omega) (by omega)
      obtain ⟨hfk, k1, k2, k3⟩ := had _ n1 (by omega)
      refine a_aload_n (pc := 69) dX12_not_69 rfl rfl ?_
      refine a_getfield (pc := 70) kg_X12_264 dX12_not_70 (m_obj hm) rfl ?_
      refine a_topl ((show _ = pW (ad p).2 from rfl)) ?_
      refine a_ldc2 (pc := 73) kc_X12_358 dX12_not_73 ?_
      refine a_topl (z := lN 60) rfl ?_
      refine a_lif_ne (pc := 76) (tgt := 84) dX12_not_76 dX12_not_77 (by decide) (fun c77 => ?_) (fun c77 => ?_)
      · have h60 : ¬ isS (ad p).2 60 = true := fun z => c77 (isS_w z)
        have h61 : isS (ad p).2 61 = true := hc.elim (fun z => absurd z h60) (fun z => z.2)
        have e : notL (byP s F Z) Z ad no p = (eBin 7 fEq (ad p).1 (ad (nextF (byP s F Z) Z (ad p).2)).1, (ad (nextF (byP s F Z) Z (ad p).2)).2) := by (rw [notL, if_neg (by rw [c7]; decide), if_neg h60, if_pos h61]) <;> rfl
        refine a_iconst (pc := 84) dX12_not_84 ic_0 ?_
        refine a_istore_n (pc := 85) dX12_not_85 rfl (by decide) rfl ?_
        refine a_aload_n (pc := 86) dX12_not_86 rfl rfl ?_
        refine a_callV (pc := 87) km_X12_291 dX12_not_87 (f_next hm (ad p).2 h32 h33 hF hZ b1.2.1) rfl rfl (krecv_of (ci := 12) rfl (m_obj hm)) (rok_of hM (by omega) (by decide) (by omega) (by omega)) (Nat.le_of_ble_eq_true rfl) (fun r87 h87 hp87 => ?_)
        obtain ⟨rfl, rfl⟩ := hp87
        refine a_aload_n (pc := 90) dX12_not_90 rfl rfl ?_
        refine a_callV (pc := 91) km_X12_355 dX12_not_91 (hfk) rfl rfl (krecv_of (ci := 12) rfl (m_obj hm)) (rok_of hM (by omega) (by decide) (by omega) (by omega)) (Nat.le_of_ble_eq_true rfl) (fun r91 h91 hp91 => ?_)
        obtain ⟨rfl, rfl⟩ := hp91
        refine a_istore_n (pc := 94) dX12_not_94 rfl (by decide) rfl ?_
        refine a_iload_n (pc := 95) dX12_not_95 rfl rfl ?_
        refine a_if_eq_t (pc := 96) (tgt := 107) dX12_not_96 (by decide) (by decide) ?_
        refine a_iload_n (pc := 107) dX12_not_107 rfl rfl ?_
        refine a_iload_n (pc := 108) dX12_not_108 rfl rfl ?_
        refine a_icmp_ne (pc := 109) (tgt := 116) dX12_not_109 (by decide) (fun c109 => ?_) (fun c109 => ?_)
        · have hv : fEq ((ad p).1.2 s.1) ((ad (nextF (byP s F Z) Z (ad p).2)).1.2 s.1) = nI 0 := if_neg c109
          refine a_iconst (pc := 116) dX12_not_116 ic_0 ?_
          refine a_ret_i (pc := 117) hM rfl (rfl) dX12_not_117 (by omega) (by omega) ?_
          exact ⟨by rw [e]; exact congrArg (fun v => some (Value.int v)) hv.symm, by rw [e]⟩
        · have hv : fEq ((ad p).1.2 s.1) ((ad (nextF (byP s F Z) Z (ad p).2)).1.2 s.1) = nI 1 := if_pos c109
          refine a_iconst (pc := 112) dX12_not_112 ic_1 ?_
          refine a_goto (pc := 113) (tgt := 117) dX12_not_113 (by decide) ?_
          refine a_ret_i (pc := 117) hM rfl (rfl) dX12_not_117 (by omega) (by omega) ?_
          exact ⟨by rw [e]; exact congrArg (fun v => some (Value.int v)) hv.symm, by rw [e]⟩
      · have h60 : isS (ad p).2 60 = true := hc.elim id (fun z => absurd ((isS_w z.2).symm.trans c77) (by decide))
        have e : notL (byP s F Z) Z ad no p = (eBin 6 fLt (ad p).1 (ad (nextF (byP s F Z) Z (ad p).2)).1, (ad (nextF (byP s F Z) Z (ad p).2)).2) := by (rw [notL, if_neg (by rw [c7]; decide), if_pos h60]) <;> rfl
        refine a_iconst (pc := 80) dX12_not_80 ic_1 ?_
        refine a_goto (pc := 81) (tgt := 85) dX12_not_81 (by decide) ?_
        refine a_istore_n (pc := 85) dX12_not_85 rfl (by decide) rfl ?_
        refine a_aload_n (pc := 86) dX12_not_86 rfl rfl ?_
        refine a_callV (pc := 87) km_X12_291 dX12_not_87 (f_next hm (ad p).2 h32 h33 hF hZ b1.2.1) rfl rfl (krecv_of (ci := 12) rfl (m_obj hm)) (rok_of hM (by omega) (by decide) (by omega) (by omega)) (Nat.le_of_ble_eq_true rfl) (fun r87 h87 hp87 => ?_)
        obtain ⟨rfl, rfl⟩ := hp87
        refine a_aload_n (pc := 90) dX12_not_90 rfl rfl ?_
        refine a_callV (pc := 91) km_X12_355 dX12_not_91 (hfk) rfl rfl (krecv_of (ci := 12) rfl (m_obj hm)) (rok_of hM (by omega) (by decide) (by omega) (by omega)) (Nat.le_of_ble_eq_true rfl) (fun r91 h91 hp91 => ?_)
        obtain ⟨rfl, rfl⟩ := hp91
        refine a_istore_n (pc := 94) dX12_not_94 rfl (by decide) rfl ?_
        refine a_iload_n (pc := 95) dX12_not_95 rfl rfl ?_
        refine a_if_eq_f (pc := 96) (tgt := 107) dX12_not_96 (by decide) (by decide) ?_
        refine a_iload_n (pc := 99) dX12_not_99 rfl rfl ?_
        refine a_iload_n (pc := 100) dX12_not_100 rfl rfl ?_
        refine a_icmp_ge (pc := 101) (tgt := 116) dX12_not_101 (by decide) (fun c101 => ?_) (fun c101 => ?_)
        · have hv : fLt ((ad p).1.2 s.1) ((ad (nextF (byP s F Z) Z (ad p).2)).1.2 s.1) = nI 0 := if_neg (Int32.not_lt.mpr c101)
          refine a_iconst (pc := 116) dX12_not_116 ic_0 ?_
          refine a_ret_i (pc := 117) hM rfl (rfl) dX12_not_117 (by omega) (by omega) ?_
          exact ⟨by rw [e]; exact congrArg (fun v => some (Value.int v)) hv.symm, by rw [e]⟩
        · have hv : fLt ((ad p).1.2 s.1) ((ad (nextF (byP s F Z) Z (ad p).2)).1.2 s.1) = nI 1 := if_pos (Int32.not_le.mp c101)
          refine a_goto (pc := 104) (tgt := 112) dX12_not_104 (by decide) ?_
          refine a_iconst (pc := 112) dX12_not_112 ic_1 ?_
          refine a_goto (pc := 113) (tgt := 117) dX12_not_113 (by decide) ?_
          refine a_ret_i (pc := 117) hM rfl (rfl) dX12_not_117 (by omega) (by omega) ?_
          exact ⟨by rw [e]; exact congrArg (fun v => some (Value.int v)) hv.symm, by rw [e]⟩
    · refine a_aload_n (pc := 58) dX12_not_58 rfl rfl ?_
      refine a_bipush (pc := 59) dX12_not_59 ib_61 ?_
      refine a_callV (pc := 61) km_X12_328 dX12_not_61 (f_isSign hm (ad p).2 b1.1 (c := 61) (by decide)) rfl rfl (krecv_of (ci := 12) rfl (m_obj hm)) (rok_of hM (by omega) (by decide) (by omega) (by omega)) (Nat.le_of_ble_eq_true rfl) (fun r61 h61 hp61 => ?_)
      obtain ⟨rfl, rfl⟩ := hp61
      refine a_if_neB (pc := 64) (tgt := 69) dX12_not_64 (by decide) (fun c64 => ?_) (fun c64 => ?_)
      · have hc : (isS (ad p).2 60 = true) ∨ (isS (ad p).2 60 = false ∧ isS (ad p).2 61 = true) := Or.inr ⟨c55, c64⟩
        have ht := (isS_3 c64).2
        obtain ⟨n1, n2, n3⟩ := next_ok (s := s) (F := F) b1 (by omega) (by omega)
        obtain ⟨hfk, k1, k2, k3⟩ := had _ n1 (by omega)
        refine a_aload_n (pc := 69) dX12_not_69 rfl rfl ?_
        refine a_getfield (pc := 70) kg_X12_264 dX12_not_70 (m_obj hm) rfl ?_
        refine a_topl ((show _ = pW (ad p).2 from rfl)) ?_
        refine a_ldc2 (pc := 73) kc_X12_358 dX12_not_73 ?_
        refine a_topl (z := lN 60) rfl ?_
        refine a_lif_ne (pc := 76) (tgt := 84) dX12_not_76 dX12_not_77 (by decide) (fun c77 => ?_) (fun c77 => ?_)
        · have h60 : ¬ isS (ad p).2 60 = true := fun z => c77 (isS_w z)
          have h61 : isS (ad p).2 61 = true := hc.elim (fun z => absurd z h60) (fun z => z.2)
          have e : notL (byP s F Z) Z ad no p = (eBin 7 fEq (ad p).1 (ad (nextF (byP s F Z) Z (ad p).2)).1, (ad (nextF (byP s F Z) Z (ad p).2)).2) := by (rw [notL, if_neg (by rw [c7]; decide), if_neg h60, if_pos h61]) <;> rfl
          refine a_iconst (pc := 84) dX12_not_84 ic_0 ?_
          refine a_istore_n (pc := 85) dX12_not_85 rfl (by decide) rfl ?_
          refine a_aload_n (pc := 86) dX12_not_86 rfl rfl ?_
          refine a_callV (pc := 87) km_X12_291 dX12_not_87 (f_next hm (ad p).2 h32 h33 hF hZ b1.2.1) rfl rfl (krecv_of (ci := 12) rfl (m_obj hm)) (rok_of hM (by omega) (by decide) (by omega) (by omega)) (Nat.le_of_ble_eq_true rfl) (fun r87 h87 hp87 => ?_)
          obtain ⟨rfl, rfl⟩ := hp87
          refine a_aload_n (pc := 90) dX12_not_90 rfl rfl ?_
          refine a_callV (pc := 91) km_X12_355 dX12_not_91 (hfk) rfl rfl (krecv_of (ci := 12) rfl (m_obj hm)) (rok_of hM (by omega) (by decide) (by omega) (by omega)) (Nat.le_of_ble_eq_true rfl) (fun r91 h91 hp91 => ?_)
          obtain ⟨rfl, rfl⟩ := hp91
          refine a_istore_n (pc := 94) dX12_not_94 rfl (by decide) rfl ?_
          refine a_iload_n (pc := 95) dX12_not_95 rfl rfl ?_
          refine a_if_eq_t (pc := 96) (tgt := 107) dX12_not_96 (by decide) (by decide) ?_
          refine a_iload_n (pc := 107) dX12_not_107 rfl rfl ?_
          refine a_iload_n (pc := 108) dX12_not_108 rfl rfl ?_
          refine a_icmp_ne (pc := 109) (tgt := 116) dX12_not_109 (by decide) (fun c109 => ?_) (fun c109 => ?_)
          · have hv : fEq ((ad p).1.2 s.1) ((ad (nextF (byP s F Z) Z (ad p).2)).1.2 s.1) = nI 0 := if_neg c109
            refine a_iconst (pc := 116) dX12_not_116 ic_0 ?_
            refine a_ret_i (pc := 117) hM rfl (rfl) dX12_not_117 (by omega) (by omega) ?_
            exact ⟨by rw [e]; exact congrArg (fun v => some (Value.int v)) hv.symm, by rw [e]⟩
          · have hv : fEq ((ad p).1.2 s.1) ((ad (nextF (byP s F Z) Z (ad p).2)).1.2 s.1) = nI 1 := if_pos c109
            refine a_iconst (pc := 112) dX12_not_112 ic_1 ?_
            refine a_goto (pc := 113) (tgt := 117) dX12_not_113 (by decide) ?_
            refine a_ret_i (pc := 117) hM rfl (rfl) dX12_not_117 (by omega) (by omega) ?_
            exact ⟨by rw [e]; exact congrArg (fun v => some (Value.int v)) hv.symm, by rw [e]⟩
        · have h60 : isS (ad p).2 60 = true := hc.elim id (fun z => absurd ((isS_w z.2).symm.trans c77) (by decide))
          have e : notL (byP s F Z) Z ad no p = (eBin 6 fLt (ad p).1 (ad (nextF (byP s F Z) Z (ad p).2)).1, (ad (nextF (byP s F Z) Z (ad p).2)).2) := by (rw [notL, if_neg (by rw [c7]; decide), if_pos h60]) <;> rfl
          refine a_iconst (pc := 80) dX12_not_80 ic_1 ?_
          refine a_goto (pc := 81) (tgt := 85) dX12_not_81 (by decide) ?_
          refine a_istore_n (pc := 85) dX12_not_85 rfl (by decide) rfl ?_
          refine a_aload_n (pc := 86) dX12_not_86 rfl rfl ?_
          refine a_callV (pc := 87) km_X12_291 dX12_not_87 (f_next hm (ad p).2 h32 h33 hF hZ b1.2.1) rfl rfl (krecv_of (ci := 12) rfl (m_obj hm)) (rok_of hM (by omega) (by decide) (by omega) (by omega)) (Nat.le_of_ble_eq_true rfl) (fun r87 h87 hp87 => ?_)
          obtain ⟨rfl, rfl⟩ := hp87
          refine a_aload_n (pc := 90) dX12_not_90 rfl rfl ?_
          refine a_callV (pc := 91) km_X12_355 dX12_not_91 (hfk) rfl rfl (krecv_of (ci := 12) rfl (m_obj hm)) (rok_of hM (by omega) (by decide) (by omega) (by omega)) (Nat.le_of_ble_eq_true rfl) (fun r91 h91 hp91 => ?_)
          obtain ⟨rfl, rfl⟩ := hp91
          refine a_istore_n (pc := 94) dX12_not_94 rfl (by decide) rfl ?_
          refine a_iload_n (pc := 95) dX12_not_95 rfl rfl ?_
          refine a_if_eq_f (pc := 96) (tgt := 107) dX12_not_96 (by decide) (by decide) ?_
          refine a_iload_n (pc := 99) dX12_not_99 rfl rfl ?_
          refine a_iload_n (pc := 100) dX12_not_100 rfl rfl ?_
          refine a_icmp_ge (pc := 101) (tgt := 116) dX12_not_101 (by decide) (fun c101 => ?_) (fun c101 => ?_)
          · have hv : fLt ((ad p).1.2 s.1) ((ad (nextF (byP s F Z) Z (ad p).2)).1.2 s.1) = nI 0 := if_neg (Int32.not_lt.mpr c101)
            refine a_iconst (pc := 116) dX12_not_116 ic_0 ?_
            refine a_ret_i (pc := 117) hM rfl (rfl) dX12_not_117 (by omega) (by omega) ?_
            exact ⟨by rw [e]; exact congrArg (fun v => some (Value.int v)) hv.symm, by rw [e]⟩
          · have hv : fLt ((ad p).1.2 s.1) ((ad (nextF (byP s F Z) Z (ad p).2)).1.2 s.1) = nI 1 := if_pos (Int32.not_le.mp c101)
            refine a_goto (pc := 104) (tgt := 112) dX12_not_104 (by decide) ?_
            refine a_iconst (pc := 112) dX12_not_112 ic_1 ?_
            refine a_goto (pc := 113) (tgt := 117) dX12_not_113 (by decide) ?_
            refine a_ret_i (pc := 117) hM rfl (rfl) dX12_not_117 (by omega) (by omega) ?_
            exact ⟨by rw [e]; exact congrArg (fun v => some (Value.int v)) hv.symm, by rw [e]⟩
      · have e : notL (byP s F Z) Z ad no p = ad p := by (rw [notL, if_neg (by rw [c7]; decide), if_neg (by rw [c55]; decide), if_neg (by rw [c64]; decide)]) <;> rfl
        refine a_iload_n (pc := 67) dX12_not_67 rfl rfl ?_
        refine a_ret_i (pc := 68) hM rfl (rfl) dX12_not_68 (by omega) (by omega) ?_
        exact ⟨by rw [e], by rw [e]⟩
  · refine a_aload_n (pc := 10) dX12_not_10 rfl rfl ?_
    refine a_callV (pc := 11) km_X12_331 dX12_not_11 (f_opens hm p h32 h33 hF hZ hh ho) rfl rfl (krecv_of (ci := 12) rfl (m_obj hm)) (rok_of hM (by omega) (by decide) (by omega) (by omega)) (Nat.le_of_ble_eq_true rfl) (fun r11 h11 hp11 => ?_)
    obtain ⟨rfl, rfl⟩ := hp11
    refine a_if_neB (pc := 14) (tgt := 19) dX12_not_14 (by decide) (fun c14 => ?_) (fun c14 => ?_)
    · have hop : ¬ pOp p = 5 := of_decide_eq_true c14
      have ht := (isW_1 c7).2
      obtain ⟨a1, a2, a3⟩ := opens_g (s := s) (F := F) hg (by omega) (by omega) hop
      obtain ⟨hfn, b1, b2, b3⟩ := hno (j - 1) (by omega) _ a1 (by omega)
      have e : notL (byP s F Z) Z ad no p = (eNot (no (opensF (byP s F Z) Z p)).1, clP (no (opensF (byP s F Z) Z p)).2) := by (rw [notL, if_pos c7, if_neg hop]) <;> rfl
      refine a_aload_n (pc := 19) dX12_not_19 rfl rfl ?_
      refine a_callV (pc := 20) km_X12_352 dX12_not_20 (hfn) rfl rfl (krecv_of (ci := 12) rfl (m_obj hm)) (rok_of hM (by omega) (by decide) (by omega) (by omega)) (Nat.le_of_ble_eq_true rfl) (fun r20 h20 hp20 => ?_)
      obtain ⟨rfl, rfl⟩ := hp20
      refine a_istore_n (pc := 23) dX12_not_23 rfl (by decide) rfl ?_
      refine a_aload_n (pc := 24) dX12_not_24 rfl rfl ?_
      refine a_dup (pc := 25) dX12_not_25 rfl ?_
      refine a_getfield (pc := 26) kg_X12_285 dX12_not_26 (m_obj hm) rfl ?_
      refine a_topi ((show _ = nI (pOp (no (opensF (byP s F Z) Z p)).2) from rfl)) ?_
      refine a_iconst (pc := 29) dX12_not_29 ic_1 ?_
      refine a_isubN (pc := 30) dX12_not_30 (by omega) ?_
      refine a_putfield (pc := 31) kf_X12_285 dX12_not_31 (m_obj hm) (rfl) (by rfl) (Nat.le_of_ble_eq_true rfl) ?_
      refine a_hp (m_p38 hm) ?_
      refine a_hp (show _ = mh m (pst s (clP (no (opensF (byP s F Z) Z p)).2)) h0 from congrArg (fun t => mh m t h0) (pst_38 (v := pOp (no (opensF (byP s F Z) Z p)).2 - 1))) ?_
      refine a_iload_n (pc := 34) dX12_not_34 rfl rfl ?_
      refine a_if_ne (pc := 35) (tgt := 42) dX12_not_35 (by decide) (fun c35 => ?_) (fun c35 => ?_)
      · have hv : (if (no (opensF (byP s F Z) Z p)).1.2 s.1 = 0 then nI 1 else nI 0) = nI 0 := if_neg c35
        refine a_iconst (pc := 42) dX12_not_42 ic_0 ?_
        refine a_ret_i (pc := 43) hM rfl (rfl) dX12_not_43 (by omega) (by omega) ?_
        exact ⟨by rw [e]; exact congrArg (fun v => some (Value.int v)) hv.symm, by rw [e]⟩
      · have hv : (if (no (opensF (byP s F Z) Z p)).1.2 s.1 = 0 then nI 1 else nI 0) = nI 1 := if_pos c35
        refine a_iconst (pc := 38) dX12_not_38 ic_1 ?_
        refine a_goto (pc := 39) (tgt := 43) dX12_not_39 (by decide) ?_
        refine a_ret_i (pc := 43) hM rfl (rfl) dX12_not_43 (by omega) (by omega) ?_
        exact ⟨by rw [e]; exact congrArg (fun v => some (Value.int v)) hv.symm, by rw [e]⟩
    · have hop : pOp p = 5 := Decidable.not_not.mp (of_decide_eq_false c14)
      refine a_hp (show _ = mh m (pst s (failP p)) h0 by rw [show (opensF (byP s F Z) Z p) = failP p from if_pos hop]) ?_
      have e : notL (byP s F Z) Z ad no p = (eNum 0, failP p) := by (rw [notL, if_pos c7, if_pos hop]) <;> rfl
      refine a_iconst (pc := 17) dX12_not_17 ic_0 ?_
      refine a_ret_i (pc := 18) hM rfl (rfl) dX12_not_18 (by omega) (by omega) ?_
      exact ⟨by rw [e]; rfl, by rw [e]⟩

theorem not_ok {F Z j : Nat} {ad no : PS → Rs} (had : ∀ p, gP Z p → pOp p + j = 5 → oK Z p (ad p)) (hno : ∀ i, j = i + 1 → ∀ p, gP Z p → pOp p + i = 5 → oK Z p (no p)) {p : PS} (hg : gP Z p) (hj : pOp p + j = 5) : oK Z p (notL (byP s F Z) Z ad no p) := by
  obtain ⟨b1, b2, b3⟩ := had p hg hj
  unfold notL
  by_cases c1 : isW p (lN 10631) = true
  · rw [if_pos c1]
    by_cases c5 : pOp p = 5
    · rw [if_pos c5]
      exact ⟨(fail_g hg).1, Nat.le_of_eq (fail_g hg).2.1.symm, (fail_g hg).2.2⟩
    · rw [if_neg c5]
      have ht := (isW_1 c1).2
      obtain ⟨a1, a2, a3⟩ := opens_g (s := s) (F := F) hg (by omega) (by omega) c5
      obtain ⟨d1, d2, d3⟩ := hno (j - 1) (by omega) _ a1 (by omega)
      exact ⟨cl_g d1, by show _ ≤ pAt (no (opensF (byP s F Z) Z p)).2; omega, by show pOp (no (opensF (byP s F Z) Z p)).2 - 1 = _; omega⟩
  · rw [if_neg c1]
    by_cases c2 : isS (ad p).2 60 = true
    · rw [if_pos c2]
      obtain ⟨n1, n2, n3⟩ := next_ok (s := s) (F := F) b1 (by have := (isS_3 c2).2; omega) (by have := (isS_3 c2).2; omega)
      have k := had _ n1 (by omega)
      exact oK_tr (Nat.le_trans b2 (Nat.le_of_lt n2)) (n3.trans b3) k
    · rw [if_neg c2]
      by_cases c3 : isS (ad p).2 61 = true
      · rw [if_pos c3]
        obtain ⟨n1, n2, n3⟩ := next_ok (s := s) (F := F) b1 (by have := (isS_3 c3).2; omega) (by have := (isS_3 c3).2; omega)
        have k := had _ n1 (by omega)
        exact oK_tr (Nat.le_trans b2 (Nat.le_of_lt n2)) (n3.trans b3) k
      · rw [if_neg c3]
        exact ⟨b1, b2, b3⟩
end MQ4

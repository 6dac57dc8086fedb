/-! THE READER: contracts by level -/
section MQ3
variable {X : KX} {m : Nat → Nat} {s : MST} {h0 : AH}
/-- what a piece leaves: the reader stands well, further on, as many open -/
def oK (Z : Nat) (p : PS) (r : Rs) : Prop := gP Z r.2 ∧ pAt p ≤ pAt r.2 ∧ pOp r.2 = pOp p
theorem fail_g {Z : Nat} {p : PS} (h : gP Z p) : gP Z (failP p) ∧ pAt (failP p) = pAt p ∧ pOp (failP p) = pOp p := by
  unfold failP
  split
  · exact ⟨h, rfl, rfl⟩
  · exact ⟨h, rfl, rfl⟩
/-- the contract of a reader's method: its answer is the worth of F's piece, the reader stands where F says -/
def rC (X : KX) (m : Nat → Nat) (s : MST) (h0 : AH) (Z : Nat) (d : Nat) (j : Nat) (y : MethodName) (cc : ByteArray) (nL : Nat) (F : PS → Rs) : Prop :=
  ∀ p, gP Z p → pOp p + j = 5 → Fn X d 0 0 y cc nL (some .int) [.ref (m 65)] (mh m (pst s p) h0) (fun rv hv => rv = some (.int ((F p).1.2 s.1)) ∧ hv = mh m (pst s (F p).2) h0) ∧ oK Z p (F p)
theorem opens_g {F Z : Nat} {p : PS} (h : gP Z p) (ht : 0 < pTk p) (ht4 : pTk p < 4) (ho : ¬ pOp p = 5) : gP Z (opensF (byP s F Z) Z p) ∧ pAt p < pAt (opensF (byP s F Z) Z p) ∧ pOp (opensF (byP s F Z) Z p) = pOp p + 1 := by
  obtain ⟨h1, h2, h3, h4, h5⟩ := h
  have n := next_g (b := byP s F Z) (Z := Z) (p := uOp p (pOp p + 1)) (fun i hi => if_neg (by omega)) h2 (by show pOp p + 1 ≤ 5; omega)
  have hlt := h5 ht ht4
  unfold opensF
  rw [if_neg ho]
  refine ⟨n.1, ?_, n.2.2.1⟩
  have e : pHr p ≤ _ := n.2.1
  omega
theorem nxP_g {F Z : Nat} {p : PS} (h : gP Z p) : gP Z (nxP (byP s F Z) Z p) ∧ (pAt p ≤ pHr p → pAt p ≤ pAt (nxP (byP s F Z) Z p)) ∧ pOp (nxP (byP s F Z) Z p) = pOp p := by
  unfold nxP
  split
  · exact ⟨h, fun _ => Nat.le_refl _, rfl⟩
  · have n := next_g (b := byP s F Z) (Z := Z) (p := p) (fun i hi => if_neg (by omega)) h.2.1 h.2.2.2.1
    exact ⟨n.1, fun z => Nat.le_trans z n.2.1, n.2.2.1⟩
theorem isS_3 {p : PS} {c : Nat} (h : isS p c = true) : pBad p = false ∧ pTk p = 3 := by
  simp only [isS, Bool.and_eq_true, Bool.not_eq_true', decide_eq_true_eq] at h
  exact h.1
theorem isW_1 {p : PS} {x : Int64} (h : isW p x = true) : pBad p = false ∧ pTk p = 1 := by
  simp only [isW, Bool.and_eq_true, Bool.not_eq_true', decide_eq_true_eq] at h
  exact h.1
theorem fail_bad (p : PS) : pBad (failP p) = true := by
  unfold failP
  split
  · assumption
  · rfl
theorem next_ok {F Z : Nat} {p : PS} (h : gP Z p) (ht : 0 < pTk p) (ht4 : pTk p < 4) : gP Z (nextF (byP s F Z) Z p) ∧ pAt p < pAt (nextF (byP s F Z) Z p) ∧ pOp (nextF (byP s F Z) Z p) = pOp p := by
  have n := next_g (b := byP s F Z) (Z := Z) (p := p) (fun i hi => if_neg (by omega)) h.2.1 h.2.2.2.1
  have e := h.2.2.2.2 ht ht4
  exact ⟨n.1, Nat.lt_of_lt_of_le e n.2.1, n.2.2.1⟩
theorem cl_g {Z : Nat} {p : PS} (h : gP Z p) : gP Z (clP p) := ⟨h.1, h.2.1, h.2.2.1, by show pOp p - 1 ≤ 5; have := h.2.2.2.1; omega, h.2.2.2.2⟩
theorem one_ok {F Z j : Nat} {on ei : PS → Rs} (hon : ∀ i, j = i + 1 → ∀ p, gP Z p → pOp p + i = 5 → oK Z p (on p)) (hei : ∀ i, j = i + 1 → ∀ p, gP Z p → pOp p + i = 5 → oK Z p (ei p)) {p : PS} (hg : gP Z p) (hj : pOp p + j = 5) : oK Z p (oneL (byP s F Z) Z on ei p) := by
  have hf : oK Z p (eNum 0, failP p) := ⟨(fail_g hg).1, Nat.le_of_eq (fail_g hg).2.1.symm, (fail_g hg).2.2⟩
  unfold oneL
  by_cases c1 : isS p 45 = true
  · rw [if_pos c1]
    by_cases c5 : pOp p = 5
    · rw [if_pos c5]
      exact hf
    · rw [if_neg c5]
      have ht := (isS_3 c1).2
      obtain ⟨a1, a2, a3⟩ := opens_g (s := s) (F := F) hg (by omega) (by omega) c5
      obtain ⟨b1, b2, b3⟩ := hon (j - 1) (by omega) _ a1 (by omega)
      exact ⟨cl_g b1, by show _ ≤ pAt (on (opensF (byP s F Z) Z p)).2; omega, by show pOp (on (opensF (byP s F Z) Z p)).2 - 1 = _; omega⟩
  · rw [if_neg c1]
    by_cases c2 : isS p 40 = true
    · rw [if_pos c2]
      by_cases c5 : pOp p = 5
      · rw [if_pos c5]
        exact hf
      · rw [if_neg c5]
        have ht := (isS_3 c2).2
        obtain ⟨a1, a2, a3⟩ := opens_g (s := s) (F := F) hg (by omega) (by omega) c5
        obtain ⟨b1, b2, b3⟩ := hei (j - 1) (by omega) _ a1 (by omega)
        by_cases c41 : isS (ei (opensF (byP s F Z) Z p)).2 41 = true
        · rw [if_pos c41]
          have h3 := isS_3 c41
          have g := b1.2.2.2.2 (by omega) (by omega)
          obtain ⟨n1, n2, n3⟩ := nxP_g (s := s) (F := F) (cl_g b1)
          have n4 := n2 (Nat.le_of_lt g)
          have e : pAt (clP (ei (opensF (byP s F Z) Z p)).2) = pAt (ei (opensF (byP s F Z) Z p)).2 := rfl
          have e2 : pOp (clP (ei (opensF (byP s F Z) Z p)).2) = pOp (ei (opensF (byP s F Z) Z p)).2 - 1 := rfl
          refine ⟨n1, ?_, ?_⟩
          · show pAt p ≤ pAt (nxP (byP s F Z) Z (clP (ei (opensF (byP s F Z) Z p)).2))
            omega
          · show pOp (nxP (byP s F Z) Z (clP (ei (opensF (byP s F Z) Z p)).2)) = pOp p
            omega
        · rw [if_neg c41]
          obtain ⟨f1, f2, f3⟩ := fail_g b1
          have hbad : pBad (clP (failP (ei (opensF (byP s F Z) Z p)).2)) = true := fail_bad _
          have en : nxP (byP s F Z) Z (clP (failP (ei (opensF (byP s F Z) Z p)).2)) = clP (failP (ei (opensF (byP s F Z) Z p)).2) := if_pos hbad
          rw [en]
          have e : pAt (clP (failP (ei (opensF (byP s F Z) Z p)).2)) = pAt (failP (ei (opensF (byP s F Z) Z p)).2) := rfl
          have e2 : pOp (clP (failP (ei (opensF (byP s F Z) Z p)).2)) = pOp (failP (ei (opensF (byP s F Z) Z p)).2) - 1 := rfl
          refine ⟨cl_g f1, ?_, ?_⟩
          · show pAt p ≤ pAt (clP (failP (ei (opensF (byP s F Z) Z p)).2))
            omega
          · show pOp (clP (failP (ei (opensF (byP s F Z) Z p)).2)) = pOp p
            omega
    · rw [if_neg c2]
      by_cases c3 : pBad p = false ∧ pTk p = 2
      · rw [if_pos c3]
        obtain ⟨n1, n2, n3⟩ := next_ok (s := s) (F := F) hg (by omega) (by omega)
        exact ⟨n1, Nat.le_of_lt n2, n3⟩
      · rw [if_neg c3]
        by_cases c4 : pBad p = false ∧ pTk p = 1
        · rw [if_pos c4]
          by_cases c6 : nameF p = 0
          · rw [if_pos c6]
            exact hf
          · rw [if_neg c6]
            obtain ⟨n1, n2, n3⟩ := next_ok (s := s) (F := F) hg (by omega) (by omega)
            exact ⟨n1, Nat.le_of_lt n2, n3⟩
        · rw [if_neg c4]
          exact hf
end MQ3

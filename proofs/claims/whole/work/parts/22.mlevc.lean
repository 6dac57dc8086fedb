/-! THE READER: contracts by level -/
section MQ3
variable {X : KX} {m : Nat → Nat} {s : MST} {h0 : AH}
/-- what a piece leaves: the reader stands well, further on, as many open -/
def oK (Z : Nat) (p : PS) (r : Rs) : Prop := gP Z r.2 ∧ pAt p ≤ pAt r.2 ∧ pOp r.2 = pOp p
theorem fail_g {Z : Nat} {p : PS} (h : gP Z p) : gP Z (failP p) ∧ pAt (failP p) = pAt p ∧ pOp (failP p) = pOp p := by
  unfold failP
  split
  · exact ⟨h, rfl, rfl⟩
  · exact ⟨h, rfl, rfl⟩
/-- the contract of a reader's method: its answer is the worth of F's piece, the reader stands where F says -/
def rC (X : KX) (m : Nat → Nat) (s : MST) (h0 : AH) (Z : Nat) (d : Nat) (j : Nat) (y : MethodName) (cc : ByteArray) (nL : Nat) (F : PS → Rs) : Prop :=
  ∀ p, gP Z p → pOp p + j = 5 → Fn X d 0 0 y cc nL (some .int) [.ref (m 65)] (mh m (pst s p) h0) (fun rv hv => rv = some (.int ((F p).1.2 s.1)) ∧ hv = mh m (pst s (F p).2) h0) ∧ oK Z p (F p)
theorem opens_g {F Z : Nat} {p : PS} (h : gP Z p) (ht : 0 < pTk p) (ht4 : pTk p < 4) (ho : ¬ pOp p = 5) : gP Z (opensF (byP s F Z) Z p) ∧ pAt p < pAt (opensF (byP s F Z) Z p) ∧ pOp (opensF (byP s F Z) Z p) = pOp p + 1 := by
  obtain ⟨h1, h2, h3, h4, h5⟩ := h
  have n := next_g (b := byP s F Z) (Z := Z) (p := uOp p (pOp p + 1)) (fun i hi => if_neg (by omega)) h2 (by show pOp p + 1 ≤ 5; omega)
  have hlt := h5 ht ht4
  unfold opensF
  rw [if_neg ho]
  refine ⟨n.1, ?_, n.2.2.1⟩
  have e : pHr p ≤ _ := n.2.1
  omega
theorem nxP_g {F Z : Nat} {p : PS} (h : gP Z p) : gP Z (nxP (byP s F Z) Z p) ∧ (pAt p ≤ pHr p → pAt p ≤ pAt (nxP (byP s F Z) Z p)) ∧ pOp (nxP (byP s F Z) Z p) = pOp p := by
  unfold nxP
  split
  · exact ⟨h, fun _ => Nat.le_refl _, rfl⟩
  · have n := next_g (b := byP s F Z) (Z := Z) (p := p) (fun i hi => if_neg (by omega)) h.2.1 h.2.2.2.1
    exact ⟨n.1, fun z => Nat.le_trans z n.2.1, n.2.2.1⟩
end MQ3

/-! THE READER: contracts by level -/
section MQ3
variable {X : KX} {m : Nat → Nat} {s : MST} {h0 : AH}
/-- what a piece leaves: the reader stands well, further on, as many open -/
def oK (Z : Nat) (p : PS) (r : Rs) : Prop := gP Z r.2 ∧ pAt p ≤ pAt r.2 ∧ pOp r.2 = pOp p
theorem fail_g {Z : Nat} {p : PS} (h : gP Z p) : gP Z (failP p) ∧ pAt (failP p) = pAt p ∧ pOp (failP p) = pOp p := by
  unfold failP
  split
  · exact ⟨h, rfl, rfl⟩
  · exact ⟨h, rfl, rfl⟩
/-- the contract of a reader's method: its answer is the worth of F's piece, the reader stands where F says -/
def rC (X : KX) (m : Nat → Nat) (s : MST) (h0 : AH) (Z : Nat) (d : Nat) (j : Nat) (y : MethodName) (cc : ByteArray) (nL : Nat) (F : PS → Rs) : Prop :=
  ∀ p, gP Z p → pOp p + j = 5 → Fn X d 0 0 y cc nL (some .int) [.ref (m 65)] (mh m (pst s p) h0) (fun rv hv => rv = some (.int ((F p).1.2 s.1)) ∧ hv = mh m (pst s (F p).2) h0) ∧ oK Z p (F p)
end MQ3

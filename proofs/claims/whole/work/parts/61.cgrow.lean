/-! THE CLASS: A LIST GROWS -/
section CPI
variable {X : KX} {h : AH} {s : MST} {σ : Nat → Nat → Nat}
def rfk (s : MST) (k i k' i' : Nat) : Prop := match k with
  | 0 => k' = 1 ∨ k' = 2 ∨ k' = 5 ∨ k' = 7 ∨ k' = 12 ∨ k' = 14
  | 1 => k' = 30 ∧ i' = i
  | 2 => k' = 3
  | 3 => k' = 4
  | 5 => k' = 6
  | 7 => k' = 8 ∨ k' = 10 ∨ k' = 11
  | 8 => k' = 9
  | 12 => k' = 13
  | 15 => k' = 16 ∧ i' = i
  | 17 => (k' = 15 ∧ i' = (s.2.1 11 i).toNatClampNeg) ∨ (18 ≤ k' ∧ k' ≤ 23 ∧ i' = i)
  | 26 => 27 ≤ k' ∧ k' ≤ 29 ∧ i' = i
  | 30 => k' = lek i ∧ i' < lsz s i
  | _ => False
/-- what there is stays as it is told -/
def SQ (s s' : MST) : Prop := (∀ j, j ∈ [4, 57, 58, 59, 60, 6] → s'.1 j = s.1 j) ∧ (∀ a, a ∈ [5, 61, 62, 63, 64, 52, 53, 54, 55, 56] → s'.2.1 a = s.2.1 a) ∧ (∀ i, i < vI s 10 → s'.2.1 9 i = s.2.1 9 i ∧ ∀ j, j < 5 → s'.2.1 8 (5 * i + j) = s.2.1 8 (5 * i + j)) ∧ (∀ i, i < vI s 18 → (∀ a, a ∈ [11, 12, 13, 16, 17] → s'.2.1 a i = s.2.1 a i) ∧ rsz s' i = rsz s i ∧ ∀ j, j < rsz s i → s'.2.1 14 (25 * i + j) = s.2.1 14 (25 * i + j) ∧ s'.2.1 15 (25 * i + j) = s.2.1 15 (25 * i + j)) ∧ (∀ i, i < vI s 28 → ∀ a, a ∈ [24, 25, 26, 27] → s'.2.1 a i = s.2.1 a i) ∧ (∀ i, i < vI s 31 → s'.2.1 29 i = s.2.1 29 i ∧ s'.2.1 30 i = s.2.1 30 i) ∧ ∀ i, i < vI s 3 → txE s' i = txE s i
theorem cgr_0 {s' : MST} {σ' : Nat → Nat → Nat} {i : Nat} {e : kE} (hk : clv s 0 i) (hQ : SQ s s') (hσ : ∀ k' i', rfk s 0 i k' i' → σ' k' i' = σ k' i') (hl : (0 = 1 ∨ 0 = 30) → lsz s' i = lsz s i) (hc : CP X σ s 0 i e) : CP X σ' s' 0 i e := by
  have hc2 : e = kO 11 (cfl σ s) := hc
  have hσ : ∀ k' i', (k' = 1 ∨ k' = 2 ∨ k' = 5 ∨ k' = 7 ∨ k' = 12 ∨ k' = 14) → σ' k' i' = σ k' i' := hσ
  have hf : e = kO 11 (cfl σ' s') := by
    unfold cfl at hc2 ⊢
    have e (k' i' : Nat) (hh : k' = 1 ∨ k' = 2 ∨ k' = 5 ∨ k' = 7 ∨ k' = 12 ∨ k' = 14) : σ' k' i' = σ k' i' := hσ k' i' hh
    rw [e 1 0 (by omega), e 1 1 (by omega), e 1 2 (by omega), e 1 3 (by omega), e 1 4 (by omega), e 2 0 (by omega), e 5 0 (by omega), e 7 0 (by omega), e 12 0 (by omega), e 14 0 (by omega), hQ.1 4 (by decide), hQ.1 57 (by decide), hQ.1 58 (by decide), hQ.1 59 (by decide), hQ.1 60 (by decide)]
    exact hc2
  exact hf
theorem cgr_1 {s' : MST} {σ' : Nat → Nat → Nat} {i : Nat} {e : kE} (hk : clv s 1 i) (hQ : SQ s s') (hσ : ∀ k' i', rfk s 1 i k' i' → σ' k' i' = σ k' i') (hl : (1 = 1 ∨ 1 = 30) → lsz s' i = lsz s i) (hc : CP X σ s 1 i e) : CP X σ' s' 1 i e := by
  have hc2 : ∃ md : Int32, e = kO 13 [.int md, .ref (if lsz s i = 0 then X.2.2.2.1 2 else σ 30 i), .int (nI (lsz s i))] := hc
  have hσ : ∀ k' i', (k' = 30 ∧ i' = i) → σ' k' i' = σ k' i' := hσ
  have hl := hl (by decide)
  have hf : ∃ md : Int32, e = kO 13 [.int md, .ref (if lsz s' i = 0 then X.2.2.2.1 2 else σ' 30 i), .int (nI (lsz s' i))] := by
    have e : σ' 30 i = σ 30 i := hσ 30 i (show 30 = 30 ∧ i = i from ⟨rfl, rfl⟩)
    rw [e, hl]
    exact hc2
  exact hf
theorem cgr_2 {s' : MST} {σ' : Nat → Nat → Nat} {i : Nat} {e : kE} (hk : clv s 2 i) (hQ : SQ s s') (hσ : ∀ k' i', rfk s 2 i k' i' → σ' k' i' = σ k' i') (hl : (2 = 1 ∨ 2 = 30) → lsz s' i = lsz s i) (hc : CP X σ s 2 i e) : CP X σ' s' 2 i e := by
  have hc2 : ∃ F : Nat → Option Nat, e = kQ 3 4 F ∧ ∀ j, j < 4 → F j = some (σ 3 j) := hc
  have hσ : ∀ k' i', (k' = 3) → σ' k' i' = σ k' i' := hσ
  have hf : ∃ F : Nat → Option Nat, e = kQ 3 4 F ∧ ∀ j, j < 4 → F j = some (σ' 3 j) := by
    have e (j : Nat) : σ' 3 j = σ 3 j := hσ 3 j (show 3 = 3 from rfl)
    simp only [e]
    exact hc2
  exact hf
theorem cgr_3 {s' : MST} {σ' : Nat → Nat → Nat} {i : Nat} {e : kE} (hk : clv s 3 i) (hQ : SQ s s') (hσ : ∀ k' i', rfk s 3 i k' i' → σ' k' i' = σ k' i') (hl : (3 = 1 ∨ 3 = 30) → lsz s' i = lsz s i) (hc : CP X σ s 3 i e) : CP X σ' s' 3 i e := by
  have hc2 : ∃ so sz : Int32, e = kO 7 [.ref (σ 4 i), .int so, .int sz] ∧ (s.2.1 61 i = 0 → so = -1) ∧ (s.2.1 61 i = nI 1 → so = s.2.1 62 i ∧ sz = s.2.1 63 i) := hc
  have hσ : ∀ k' i', (k' = 4) → σ' k' i' = σ k' i' := hσ
  have hf : ∃ so sz : Int32, e = kO 7 [.ref (σ' 4 i), .int so, .int sz] ∧ (s'.2.1 61 i = 0 → so = -1) ∧ (s'.2.1 61 i = nI 1 → so = s'.2.1 62 i ∧ sz = s'.2.1 63 i) := by
    have e : σ' 4 i = σ 4 i := hσ 4 i (show 4 = 4 from rfl)
    rw [e, hQ.2.1 61 (by decide), hQ.2.1 62 (by decide), hQ.2.1 63 (by decide)]
    exact hc2
  exact hf
theorem cgr_4 {s' : MST} {σ' : Nat → Nat → Nat} {i : Nat} {e : kE} (hk : clv s 4 i) (hQ : SQ s s') (hσ : ∀ k' i', rfk s 4 i k' i' → σ' k' i' = σ k' i') (hl : (4 = 1 ∨ 4 = 30) → lsz s' i = lsz s i) (hc : CP X σ s 4 i e) : CP X σ' s' 4 i e := by
  have hc2 : ∃ f : Nat → Int32, e = kI 40 f ∧ (s.2.1 61 i = nI 1 → ∀ j, j < (s.2.1 63 i).toNatClampNeg → f j = s.2.1 64 (40 * i + j)) := hc
  have hf : ∃ f : Nat → Int32, e = kI 40 f ∧ (s'.2.1 61 i = nI 1 → ∀ j, j < (s'.2.1 63 i).toNatClampNeg → f j = s'.2.1 64 (40 * i + j)) := by
    rw [hQ.2.1 61 (by decide), hQ.2.1 63 (by decide), hQ.2.1 64 (by decide)]
    exact hc2
  exact hf
theorem cgr_5 {s' : MST} {σ' : Nat → Nat → Nat} {i : Nat} {e : kE} (hk : clv s 5 i) (hQ : SQ s s') (hσ : ∀ k' i', rfk s 5 i k' i' → σ' k' i' = σ k' i') (hl : (5 = 1 ∨ 5 = 30) → lsz s' i = lsz s i) (hc : CP X σ s 5 i e) : CP X σ' s' 5 i e := by
  have hc2 : e = kO 8 [.ref (σ 6 0), .int (s.1 6)] := hc
  have hσ : ∀ k' i', (k' = 6) → σ' k' i' = σ k' i' := hσ
  have hf : e = kO 8 [.ref (σ' 6 0), .int (s'.1 6)] := by
    have e : σ' 6 0 = σ 6 0 := hσ 6 0 (show 6 = 6 from rfl)
    rw [e, hQ.1 6 (by decide)]
    exact hc2
  exact hf
theorem cgr_6 {s' : MST} {σ' : Nat → Nat → Nat} {i : Nat} {e : kE} (hk : clv s 6 i) (hQ : SQ s s') (hσ : ∀ k' i', rfk s 6 i k' i' → σ' k' i' = σ k' i') (hl : (6 = 1 ∨ 6 = 30) → lsz s' i = lsz s i) (hc : CP X σ s 6 i e) : CP X σ' s' 6 i e := by
  have hc2 : ∃ f : Nat → Int32, e = kI 160 f ∧ ∀ j, j < (s.1 6).toNatClampNeg → f j = s.2.1 5 j := hc
  have hf : ∃ f : Nat → Int32, e = kI 160 f ∧ ∀ j, j < (s'.1 6).toNatClampNeg → f j = s'.2.1 5 j := by
    rw [hQ.1 6 (by decide), hQ.2.1 5 (by decide)]
    exact hc2
  exact hf
theorem cgr_7 {s' : MST} {σ' : Nat → Nat → Nat} {i : Nat} {e : kE} (hk : clv s 7 i) (hQ : SQ s s') (hσ : ∀ k' i', rfk s 7 i k' i' → σ' k' i' = σ k' i') (hl : (7 = 1 ∨ 7 = 30) → lsz s' i = lsz s i) (hc : CP X σ s 7 i e) : CP X σ' s' 7 i e := by
  have hc2 : ∃ (L k : Nat) (tk ft : Int32), e = kO 4 [.ref (σ 8 0), .ref (σ 10 0), .ref (σ 11 0), .int (nI L), .int (nI k), .int tk, .int ft] := hc
  have hσ : ∀ k' i', (k' = 8 ∨ k' = 10 ∨ k' = 11) → σ' k' i' = σ k' i' := hσ
  have hf : ∃ (L k : Nat) (tk ft : Int32), e = kO 4 [.ref (σ' 8 0), .ref (σ' 10 0), .ref (σ' 11 0), .int (nI L), .int (nI k), .int tk, .int ft] := by
    have e (k' i' : Nat) (hh : k' = 8 ∨ k' = 10 ∨ k' = 11) : σ' k' i' = σ k' i' := hσ k' i' hh
    rw [e 8 0 (by omega), e 10 0 (by omega), e 11 0 (by omega)]
    exact hc2
  exact hf
theorem cgr_8 {s' : MST} {σ' : Nat → Nat → Nat} {i : Nat} {e : kE} (hk : clv s 8 i) (hQ : SQ s s') (hσ : ∀ k' i', rfk s 8 i k' i' → σ' k' i' = σ k' i') (hl : (8 = 1 ∨ 8 = 30) → lsz s' i = lsz s i) (hc : CP X σ s 8 i e) : CP X σ' s' 8 i e := by
  have hc2 : ∃ c0 : Nat, e = kO 10 [.ref (σ 9 0), .ref (σ 9 1), .ref (σ 9 2), .int (nI c0)] := hc
  have hσ : ∀ k' i', (k' = 9) → σ' k' i' = σ k' i' := hσ
  have hf : ∃ c0 : Nat, e = kO 10 [.ref (σ' 9 0), .ref (σ' 9 1), .ref (σ' 9 2), .int (nI c0)] := by
    have e (j : Nat) : σ' 9 j = σ 9 j := hσ 9 j (show 9 = 9 from rfl)
    rw [e, e, e]
    exact hc2
  exact hf
theorem cgr_9 {s' : MST} {σ' : Nat → Nat → Nat} {i : Nat} {e : kE} (hk : clv s 9 i) (hQ : SQ s s') (hσ : ∀ k' i', rfk s 9 i k' i' → σ' k' i' = σ k' i') (hl : (9 = 1 ∨ 9 = 30) → lsz s' i = lsz s i) (hc : CP X σ s 9 i e) : CP X σ' s' 9 i e := by
  have hc2 : ∃ f : Nat → Int32, e = kI 161 f := hc
  have hf : ∃ f : Nat → Int32, e = kI 161 f := by
    exact hc2
  exact hf
theorem cgr_10 {s' : MST} {σ' : Nat → Nat → Nat} {i : Nat} {e : kE} (hk : clv s 10 i) (hQ : SQ s s') (hσ : ∀ k' i', rfk s 10 i k' i' → σ' k' i' = σ k' i') (hl : (10 = 1 ∨ 10 = 30) → lsz s' i = lsz s i) (hc : CP X σ s 10 i e) : CP X σ' s' 10 i e := by
  have hc2 : ∃ f : Nat → Int32, e = kI 160 f := hc
  have hf : ∃ f : Nat → Int32, e = kI 160 f := by
    exact hc2
  exact hf
theorem cgr_11 {s' : MST} {σ' : Nat → Nat → Nat} {i : Nat} {e : kE} (hk : clv s 11 i) (hQ : SQ s s') (hσ : ∀ k' i', rfk s 11 i k' i' → σ' k' i' = σ k' i') (hl : (11 = 1 ∨ 11 = 30) → lsz s' i = lsz s i) (hc : CP X σ s 11 i e) : CP X σ' s' 11 i e := by
  have hc2 : ∃ f : Nat → Int32, e = kI 3 f := hc
  have hf : ∃ f : Nat → Int32, e = kI 3 f := by
    exact hc2
  exact hf
theorem cgr_12 {s' : MST} {σ' : Nat → Nat → Nat} {i : Nat} {e : kE} (hk : clv s 12 i) (hQ : SQ s s') (hσ : ∀ k' i', rfk s 12 i k' i' → σ' k' i' = σ k' i') (hl : (12 = 1 ∨ 12 = 30) → lsz s' i = lsz s i) (hc : CP X σ s 12 i e) : CP X σ' s' 12 i e := by
  have hc2 : e = kO 2 [.ref (σ 13 0)] := hc
  have hσ : ∀ k' i', (k' = 13) → σ' k' i' = σ k' i' := hσ
  have hf : e = kO 2 [.ref (σ' 13 0)] := by
    have e : σ' 13 0 = σ 13 0 := hσ 13 0 (show 13 = 13 from rfl)
    rw [e]
    exact hc2
  exact hf
theorem cgr_13 {s' : MST} {σ' : Nat → Nat → Nat} {i : Nat} {e : kE} (hk : clv s 13 i) (hQ : SQ s s') (hσ : ∀ k' i', rfk s 13 i k' i' → σ' k' i' = σ k' i') (hl : (13 = 1 ∨ 13 = 30) → lsz s' i = lsz s i) (hc : CP X σ s 13 i e) : CP X σ' s' 13 i e := by
  have hc2 : ∃ f : Nat → Int64, e = kL 26 f := hc
  have hf : ∃ f : Nat → Int64, e = kL 26 f := by
    exact hc2
  exact hf
theorem cgr_14 {s' : MST} {σ' : Nat → Nat → Nat} {i : Nat} {e : kE} (hk : clv s 14 i) (hQ : SQ s s') (hσ : ∀ k' i', rfk s 14 i k' i' → σ' k' i' = σ k' i') (hl : (14 = 1 ∨ 14 = 30) → lsz s' i = lsz s i) (hc : CP X σ s 14 i e) : CP X σ' s' 14 i e := by
  have hc2 : ∃ f : Nat → Int32, e = kI 6 f := hc
  have hf : ∃ f : Nat → Int32, e = kI 6 f := by
    exact hc2
  exact hf
theorem cgr_15 {s' : MST} {σ' : Nat → Nat → Nat} {i : Nat} {e : kE} (hk : clv s 15 i) (hQ : SQ s s') (hσ : ∀ k' i', rfk s 15 i k' i' → σ' k' i' = σ k' i') (hl : (15 = 1 ∨ 15 = 30) → lsz s' i = lsz s i) (hc : CP X σ s 15 i e) : CP X σ' s' 15 i e := by
  have hc2 : e = kO 3 [.ref (σ 16 i), .int (s.2.1 9 i)] := hc
  have hσ : ∀ k' i', (k' = 16 ∧ i' = i) → σ' k' i' = σ k' i' := hσ
  have hk : i < vI s 10 := hk
  have hf : e = kO 3 [.ref (σ' 16 i), .int (s'.2.1 9 i)] := by
    have e : σ' 16 i = σ 16 i := hσ 16 i (show 16 = 16 ∧ i = i from ⟨rfl, rfl⟩)
    have q := hQ.2.2.1 i hk
    rw [e, q.1]
    exact hc2
  exact hf
theorem cgr_16 {s' : MST} {σ' : Nat → Nat → Nat} {i : Nat} {e : kE} (hk : clv s 16 i) (hQ : SQ s s') (hσ : ∀ k' i', rfk s 16 i k' i' → σ' k' i' = σ k' i') (hl : (16 = 1 ∨ 16 = 30) → lsz s' i = lsz s i) (hc : CP X σ s 16 i e) : CP X σ' s' 16 i e := by
  have hc2 : ∃ f : Nat → Int32, e = kI 5 f ∧ ∀ j, j < 5 → f j = s.2.1 8 (5 * i + j) := hc
  have hk : i < vI s 10 := hk
  have hf : ∃ f : Nat → Int32, e = kI 5 f ∧ ∀ j, j < 5 → f j = s'.2.1 8 (5 * i + j) := by
    have q := (hQ.2.2.1 i hk).2
    obtain ⟨f, h1, h2⟩ := hc2
    exact ⟨f, h1, fun j hj => (h2 j hj).trans (q j hj).symm⟩
  exact hf
theorem cgr_17 {s' : MST} {σ' : Nat → Nat → Nat} {i : Nat} {e : kE} (hk : clv s 17 i) (hQ : SQ s s') (hσ : ∀ k' i', rfk s 17 i k' i' → σ' k' i' = σ k' i') (hl : (17 = 1 ∨ 17 = 30) → lsz s' i = lsz s i) (hc : CP X σ s 17 i e) : CP X σ' s' 17 i e := by
  have hc2 : ∃ ks kp : Int32, e = rO (s.2.1 11 i) (s.2.1 12 i) (s.2.1 13 i) (s.2.1 16 i) (s.2.1 17 i) ks kp (σ 15 (s.2.1 11 i).toNatClampNeg) (σ 18 i) (σ 19 i) (σ 20 i) (σ 21 i) (σ 22 i) (σ 23 i) ∧ (s.1 57 = nI 1 → i < (s.1 58).toNatClampNeg → ks = s.2.1 54 i ∧ kp = s.2.1 55 i) := hc
  have hσ : ∀ k' i', ((k' = 15 ∧ i' = (s.2.1 11 i).toNatClampNeg) ∨ (18 ≤ k' ∧ k' ≤ 23 ∧ i' = i)) → σ' k' i' = σ k' i' := hσ
  have hk : i < vI s 18 := hk
  have hf : ∃ ks kp : Int32, e = rO (s'.2.1 11 i) (s'.2.1 12 i) (s'.2.1 13 i) (s'.2.1 16 i) (s'.2.1 17 i) ks kp (σ' 15 (s'.2.1 11 i).toNatClampNeg) (σ' 18 i) (σ' 19 i) (σ' 20 i) (σ' 21 i) (σ' 22 i) (σ' 23 i) ∧ (s'.1 57 = nI 1 → i < (s'.1 58).toNatClampNeg → ks = s'.2.1 54 i ∧ kp = s'.2.1 55 i) := by
    have e (k' i' : Nat) (hh : (k' = 15 ∧ i' = (s.2.1 11 i).toNatClampNeg) ∨ (18 ≤ k' ∧ k' ≤ 23 ∧ i' = i)) : σ' k' i' = σ k' i' := hσ k' i' hh
    have q := (hQ.2.2.2.1 i hk).1
    rw [q 11 (by decide), q 12 (by decide), q 13 (by decide), q 16 (by decide), q 17 (by decide), hQ.1 57 (by decide), hQ.1 58 (by decide), hQ.2.1 54 (by decide), hQ.2.1 55 (by decide), e 15 _ (Or.inl ⟨rfl, rfl⟩), e 18 i (by omega), e 19 i (by omega), e 20 i (by omega), e 21 i (by omega), e 22 i (by omega), e 23 i (by omega)]
    exact hc2
  exact hf
theorem cgr_18 {s' : MST} {σ' : Nat → Nat → Nat} {i : Nat} {e : kE} (hk : clv s 18 i) (hQ : SQ s s') (hσ : ∀ k' i', rfk s 18 i k' i' → σ' k' i' = σ k' i') (hl : (18 = 1 ∨ 18 = 30) → lsz s' i = lsz s i) (hc : CP X σ s 18 i e) : CP X σ' s' 18 i e := by
  have hc2 : ∃ f : Nat → Int32, e = kI (rsz s i) f ∧ ∀ j, j < rsz s i → f j = s.2.1 14 (25 * i + j) := hc
  have hk : i < vI s 18 := hk
  have hf : ∃ f : Nat → Int32, e = kI (rsz s' i) f ∧ ∀ j, j < rsz s' i → f j = s'.2.1 14 (25 * i + j) := by
    have q := (hQ.2.2.2.1 i hk).2
    rw [q.1]
    obtain ⟨f, h1, h2⟩ := hc2
    exact ⟨f, h1, fun j hj => (h2 j hj).trans (q.2 j hj).1.symm⟩
  exact hf
theorem cgr_19 {s' : MST} {σ' : Nat → Nat → Nat} {i : Nat} {e : kE} (hk : clv s 19 i) (hQ : SQ s s') (hσ : ∀ k' i', rfk s 19 i k' i' → σ' k' i' = σ k' i') (hl : (19 = 1 ∨ 19 = 30) → lsz s' i = lsz s i) (hc : CP X σ s 19 i e) : CP X σ' s' 19 i e := by
  have hc2 : ∃ f : Nat → Int32, e = kI (rsz s i) f ∧ ∀ j, j < rsz s i → f j = s.2.1 15 (25 * i + j) := hc
  have hk : i < vI s 18 := hk
  have hf : ∃ f : Nat → Int32, e = kI (rsz s' i) f ∧ ∀ j, j < rsz s' i → f j = s'.2.1 15 (25 * i + j) := by
    have q := (hQ.2.2.2.1 i hk).2
    rw [q.1]
    obtain ⟨f, h1, h2⟩ := hc2
    exact ⟨f, h1, fun j hj => (h2 j hj).trans (q.2 j hj).2.symm⟩
  exact hf
theorem cgr_20 {s' : MST} {σ' : Nat → Nat → Nat} {i : Nat} {e : kE} (hk : clv s 20 i) (hQ : SQ s s') (hσ : ∀ k' i', rfk s 20 i k' i' → σ' k' i' = σ k' i') (hl : (20 = 1 ∨ 20 = 30) → lsz s' i = lsz s i) (hc : CP X σ s 20 i e) : CP X σ' s' 20 i e := by
  have hc2 : ∃ f : Nat → Int32, e = kI (rsz s i) f := hc
  have hk : i < vI s 18 := hk
  have hf : ∃ f : Nat → Int32, e = kI (rsz s' i) f := by
    have q := (hQ.2.2.2.1 i hk).2
    rw [q.1]
    exact hc2
  exact hf
theorem cgr_21 {s' : MST} {σ' : Nat → Nat → Nat} {i : Nat} {e : kE} (hk : clv s 21 i) (hQ : SQ s s') (hσ : ∀ k' i', rfk s 21 i k' i' → σ' k' i' = σ k' i') (hl : (21 = 1 ∨ 21 = 30) → lsz s' i = lsz s i) (hc : CP X σ s 21 i e) : CP X σ' s' 21 i e := by
  have hc2 : ∃ f : Nat → Int32, e = kI 5 f := hc
  have hk : i < vI s 18 := hk
  have hf : ∃ f : Nat → Int32, e = kI 5 f := by
    exact hc2
  exact hf
theorem cgr_22 {s' : MST} {σ' : Nat → Nat → Nat} {i : Nat} {e : kE} (hk : clv s 22 i) (hQ : SQ s s') (hσ : ∀ k' i', rfk s 22 i k' i' → σ' k' i' = σ k' i') (hl : (22 = 1 ∨ 22 = 30) → lsz s' i = lsz s i) (hc : CP X σ s 22 i e) : CP X σ' s' 22 i e := by
  have hc2 : ∃ f : Nat → Int32, e = kI (rsz s i) f ∧ (s.1 57 = nI 1 → i < (s.1 58).toNatClampNeg → ∀ j, j < rsz s i → f j = s.2.1 52 (25 * i + j)) := hc
  have hk : i < vI s 18 := hk
  have hf : ∃ f : Nat → Int32, e = kI (rsz s' i) f ∧ (s'.1 57 = nI 1 → i < (s'.1 58).toNatClampNeg → ∀ j, j < rsz s' i → f j = s'.2.1 52 (25 * i + j)) := by
    have q := (hQ.2.2.2.1 i hk).2
    rw [q.1, hQ.1 57 (by decide), hQ.1 58 (by decide), hQ.2.1 52 (by decide)]
    exact hc2
  exact hf
theorem cgr_23 {s' : MST} {σ' : Nat → Nat → Nat} {i : Nat} {e : kE} (hk : clv s 23 i) (hQ : SQ s s') (hσ : ∀ k' i', rfk s 23 i k' i' → σ' k' i' = σ k' i') (hl : (23 = 1 ∨ 23 = 30) → lsz s' i = lsz s i) (hc : CP X σ s 23 i e) : CP X σ' s' 23 i e := by
  have hc2 : ∃ f : Nat → Int32, e = kI (rsz s i) f ∧ (s.1 57 = nI 1 → i < (s.1 58).toNatClampNeg → ∀ j, j < rsz s i → f j = s.2.1 53 (25 * i + j)) := hc
  have hk : i < vI s 18 := hk
  have hf : ∃ f : Nat → Int32, e = kI (rsz s' i) f ∧ (s'.1 57 = nI 1 → i < (s'.1 58).toNatClampNeg → ∀ j, j < rsz s' i → f j = s'.2.1 53 (25 * i + j)) := by
    have q := (hQ.2.2.2.1 i hk).2
    rw [q.1, hQ.1 57 (by decide), hQ.1 58 (by decide), hQ.2.1 53 (by decide)]
    exact hc2
  exact hf
theorem cgr_24 {s' : MST} {σ' : Nat → Nat → Nat} {i : Nat} {e : kE} (hk : clv s 24 i) (hQ : SQ s s') (hσ : ∀ k' i', rfk s 24 i k' i' → σ' k' i' = σ k' i') (hl : (24 = 1 ∨ 24 = 30) → lsz s' i = lsz s i) (hc : CP X σ s 24 i e) : CP X σ' s' 24 i e := by
  have hc2 : ∃ w : Bool, e = kO 1 [.int (s.2.1 24 i), .int (s.2.1 25 i), .int (s.2.1 26 i), .int (s.2.1 27 i), .int (bI w)] ∧ (s.1 57 = nI 1 → i < (s.1 59).toNatClampNeg → bI w = s.2.1 56 i) := hc
  have hk : i < vI s 28 := hk
  have hf : ∃ w : Bool, e = kO 1 [.int (s'.2.1 24 i), .int (s'.2.1 25 i), .int (s'.2.1 26 i), .int (s'.2.1 27 i), .int (bI w)] ∧ (s'.1 57 = nI 1 → i < (s'.1 59).toNatClampNeg → bI w = s'.2.1 56 i) := by
    have q := hQ.2.2.2.2.1 i hk
    rw [q 24 (by decide), q 25 (by decide), q 26 (by decide), q 27 (by decide), hQ.1 57 (by decide), hQ.1 59 (by decide), hQ.2.1 56 (by decide)]
    exact hc2
  exact hf
theorem cgr_25 {s' : MST} {σ' : Nat → Nat → Nat} {i : Nat} {e : kE} (hk : clv s 25 i) (hQ : SQ s s') (hσ : ∀ k' i', rfk s 25 i k' i' → σ' k' i' = σ k' i') (hl : (25 = 1 ∨ 25 = 30) → lsz s' i = lsz s i) (hc : CP X σ s 25 i e) : CP X σ' s' 25 i e := by
  have hc2 : e = kO 6 [.int (s.2.1 29 i), .int (s.2.1 30 i)] := hc
  have hk : i < vI s 31 := hk
  have hf : e = kO 6 [.int (s'.2.1 29 i), .int (s'.2.1 30 i)] := by
    have q := hQ.2.2.2.2.2.1 i hk
    rw [q.1, q.2]
    exact hc2
  exact hf
theorem cgr_26 {s' : MST} {σ' : Nat → Nat → Nat} {i : Nat} {e : kE} (hk : clv s 26 i) (hQ : SQ s s') (hσ : ∀ k' i', rfk s 26 i k' i' → σ' k' i' = σ k' i') (hl : (26 = 1 ∨ 26 = 30) → lsz s' i = lsz s i) (hc : CP X σ s 26 i e) : CP X σ' s' 26 i e := by
  have hc2 : e = kO 9 [.ref (σ 27 i), .ref (σ 28 i), .ref (σ 29 i)] := hc
  have hσ : ∀ k' i', (27 ≤ k' ∧ k' ≤ 29 ∧ i' = i) → σ' k' i' = σ k' i' := hσ
  have hk : i < vI s 3 := hk
  have hf : e = kO 9 [.ref (σ' 27 i), .ref (σ' 28 i), .ref (σ' 29 i)] := by
    have e (k' i' : Nat) (hh : 27 ≤ k' ∧ k' ≤ 29 ∧ i' = i) : σ' k' i' = σ k' i' := hσ k' i' hh
    rw [e 27 i (by omega), e 28 i (by omega), e 29 i (by omega)]
    exact hc2
  exact hf
theorem cgr_27 {s' : MST} {σ' : Nat → Nat → Nat} {i : Nat} {e : kE} (hk : clv s 27 i) (hQ : SQ s s') (hσ : ∀ k' i', rfk s 27 i k' i' → σ' k' i' = σ k' i') (hl : (27 = 1 ∨ 27 = 30) → lsz s' i = lsz s i) (hc : CP X σ s 27 i e) : CP X σ' s' 27 i e := by
  have hc2 : ∃ f : Nat → Int32, e = kI (tx3 s i) f ∧ tx3 s i ≤ 160 ∧ cod f 0 (txE s i).1.1.1 ∧ cod f (tx1 s i) (txE s i).2.1.1.1 ∧ cod f (tx2 s i) (txE s i).2.2.1.1 := hc
  have hk : i < vI s 3 := hk
  have hf : ∃ f : Nat → Int32, e = kI (tx3 s' i) f ∧ tx3 s' i ≤ 160 ∧ cod f 0 (txE s' i).1.1.1 ∧ cod f (tx1 s' i) (txE s' i).2.1.1.1 ∧ cod f (tx2 s' i) (txE s' i).2.2.1.1 := by
    have te := hQ.2.2.2.2.2.2 i hk
    rw [tx3_cg te, tx2_cg te, tx1_cg te, te]
    exact hc2
  exact hf
theorem cgr_28 {s' : MST} {σ' : Nat → Nat → Nat} {i : Nat} {e : kE} (hk : clv s 28 i) (hQ : SQ s s') (hσ : ∀ k' i', rfk s 28 i k' i' → σ' k' i' = σ k' i') (hl : (28 = 1 ∨ 28 = 30) → lsz s' i = lsz s i) (hc : CP X σ s 28 i e) : CP X σ' s' 28 i e := by
  have hc2 : ∃ g : Nat → Int32, e = kI 3 g ∧ g 0 = nI (tx1 s i) ∧ g 1 = nI (tx2 s i) ∧ g 2 = nI (tx3 s i) := hc
  have hk : i < vI s 3 := hk
  have hf : ∃ g : Nat → Int32, e = kI 3 g ∧ g 0 = nI (tx1 s' i) ∧ g 1 = nI (tx2 s' i) ∧ g 2 = nI (tx3 s' i) := by
    have te := hQ.2.2.2.2.2.2 i hk
    rw [tx3_cg te, tx2_cg te, tx1_cg te]
    exact hc2
  exact hf
theorem cgr_29 {s' : MST} {σ' : Nat → Nat → Nat} {i : Nat} {e : kE} (hk : clv s 29 i) (hQ : SQ s s') (hσ : ∀ k' i', rfk s 29 i k' i' → σ' k' i' = σ k' i') (hl : (29 = 1 ∨ 29 = 30) → lsz s' i = lsz s i) (hc : CP X σ s 29 i e) : CP X σ' s' 29 i e := by
  have hc2 : ∃ f : Nat → Int32, e = kI (tx3 s i) f := hc
  have hk : i < vI s 3 := hk
  have hf : ∃ f : Nat → Int32, e = kI (tx3 s' i) f := by
    have te := hQ.2.2.2.2.2.2 i hk
    rw [tx3_cg te]
    exact hc2
  exact hf
theorem cgr_30 {s' : MST} {σ' : Nat → Nat → Nat} {i : Nat} {e : kE} (hk : clv s 30 i) (hQ : SQ s s') (hσ : ∀ k' i', rfk s 30 i k' i' → σ' k' i' = σ k' i') (hl : (30 = 1 ∨ 30 = 30) → lsz s' i = lsz s i) (hc : CP X σ s 30 i e) : CP X σ' s' 30 i e := by
  have hc2 : ∃ (cap : Nat) (F : Nat → Option Nat), e = kQ 2 cap F ∧ lsz s i ≤ cap ∧ (cap = 10 ∨ cap = 15 ∨ cap = 22) ∧ ∀ j, j < lsz s i → F j = some (σ (lek i) j) := hc
  have hσ : ∀ k' i', (k' = lek i ∧ i' < lsz s i) → σ' k' i' = σ k' i' := hσ
  have hl := hl (by decide)
  have hf : ∃ (cap : Nat) (F : Nat → Option Nat), e = kQ 2 cap F ∧ lsz s' i ≤ cap ∧ (cap = 10 ∨ cap = 15 ∨ cap = 22) ∧ ∀ j, j < lsz s' i → F j = some (σ' (lek i) j) := by
    obtain ⟨cap, F, h1, h2, h3, h4⟩ := hc2
    rw [hl]
    exact ⟨cap, F, h1, h2, h3, fun j hj => (h4 j hj).trans (congrArg some (hσ (lek i) j (show lek i = lek i ∧ j < lsz s i from ⟨rfl, hj⟩)).symm)⟩
  exact hf
theorem CP_gr {s' : MST} {σ' : Nat → Nat → Nat} {k i : Nat} {e : kE} (hk : clv s k i) (hQ : SQ s s') (hσ : ∀ k' i', rfk s k i k' i' → σ' k' i' = σ k' i') (hl : (k = 1 ∨ k = 30) → lsz s' i = lsz s i) (hc : CP X σ s k i e) : CP X σ' s' k i e := by
  match k, hk, hσ, hl, hc with
  | 0, hk, hσ, hl, hc => exact cgr_0 hk hQ hσ hl hc
  | 1, hk, hσ, hl, hc => exact cgr_1 hk hQ hσ hl hc
  | 2, hk, hσ, hl, hc => exact cgr_2 hk hQ hσ hl hc
  | 3, hk, hσ, hl, hc => exact cgr_3 hk hQ hσ hl hc
  | 4, hk, hσ, hl, hc => exact cgr_4 hk hQ hσ hl hc
  | 5, hk, hσ, hl, hc => exact cgr_5 hk hQ hσ hl hc
  | 6, hk, hσ, hl, hc => exact cgr_6 hk hQ hσ hl hc
  | 7, hk, hσ, hl, hc => exact cgr_7 hk hQ hσ hl hc
  | 8, hk, hσ, hl, hc => exact cgr_8 hk hQ hσ hl hc
  | 9, hk, hσ, hl, hc => exact cgr_9 hk hQ hσ hl hc
  | 10, hk, hσ, hl, hc => exact cgr_10 hk hQ hσ hl hc
  | 11, hk, hσ, hl, hc => exact cgr_11 hk hQ hσ hl hc
  | 12, hk, hσ, hl, hc => exact cgr_12 hk hQ hσ hl hc
  | 13, hk, hσ, hl, hc => exact cgr_13 hk hQ hσ hl hc
  | 14, hk, hσ, hl, hc => exact cgr_14 hk hQ hσ hl hc
  | 15, hk, hσ, hl, hc => exact cgr_15 hk hQ hσ hl hc
  | 16, hk, hσ, hl, hc => exact cgr_16 hk hQ hσ hl hc
  | 17, hk, hσ, hl, hc => exact cgr_17 hk hQ hσ hl hc
  | 18, hk, hσ, hl, hc => exact cgr_18 hk hQ hσ hl hc
  | 19, hk, hσ, hl, hc => exact cgr_19 hk hQ hσ hl hc
  | 20, hk, hσ, hl, hc => exact cgr_20 hk hQ hσ hl hc
  | 21, hk, hσ, hl, hc => exact cgr_21 hk hQ hσ hl hc
  | 22, hk, hσ, hl, hc => exact cgr_22 hk hQ hσ hl hc
  | 23, hk, hσ, hl, hc => exact cgr_23 hk hQ hσ hl hc
  | 24, hk, hσ, hl, hc => exact cgr_24 hk hQ hσ hl hc
  | 25, hk, hσ, hl, hc => exact cgr_25 hk hQ hσ hl hc
  | 26, hk, hσ, hl, hc => exact cgr_26 hk hQ hσ hl hc
  | 27, hk, hσ, hl, hc => exact cgr_27 hk hQ hσ hl hc
  | 28, hk, hσ, hl, hc => exact cgr_28 hk hQ hσ hl hc
  | 29, hk, hσ, hl, hc => exact cgr_29 hk hQ hσ hl hc
  | 30, hk, hσ, hl, hc => exact cgr_30 hk hQ hσ hl hc
  | n + 31, _, _, _, _ => exact trivial
/-- the list that a kind of place belongs to -/
def lof (k : Nat) : Nat := match k with
  | 15 => 0
  | 16 => 0
  | 17 => 1
  | 18 => 1
  | 19 => 1
  | 20 => 1
  | 21 => 1
  | 22 => 1
  | 23 => 1
  | 24 => 2
  | 25 => 3
  | 26 => 4
  | 27 => 4
  | 28 => 4
  | 29 => 4
  | _ => 5
theorem clv_l {k i : Nat} (hk : lof k < 5) : clv s k i ↔ i < lsz s (lof k) := by
  match k, hk with
  | 0, hk => exact absurd hk (by decide)
  | 1, hk => exact absurd hk (by decide)
  | 2, hk => exact absurd hk (by decide)
  | 3, hk => exact absurd hk (by decide)
  | 4, hk => exact absurd hk (by decide)
  | 5, hk => exact absurd hk (by decide)
  | 6, hk => exact absurd hk (by decide)
  | 7, hk => exact absurd hk (by decide)
  | 8, hk => exact absurd hk (by decide)
  | 9, hk => exact absurd hk (by decide)
  | 10, hk => exact absurd hk (by decide)
  | 11, hk => exact absurd hk (by decide)
  | 12, hk => exact absurd hk (by decide)
  | 13, hk => exact absurd hk (by decide)
  | 14, hk => exact absurd hk (by decide)
  | 15, _ => exact (show clv s 15 i ↔ i < vI s 10 from Iff.rfl).trans (show i < vI s 10 ↔ i < lsz s (lof 15) from Iff.rfl)
  | 16, _ => exact (show clv s 16 i ↔ i < vI s 10 from Iff.rfl).trans (show i < vI s 10 ↔ i < lsz s (lof 16) from Iff.rfl)
  | 17, _ => exact (show clv s 17 i ↔ i < vI s 18 from Iff.rfl).trans (show i < vI s 18 ↔ i < lsz s (lof 17) from Iff.rfl)
  | 18, _ => exact (show clv s 18 i ↔ i < vI s 18 from Iff.rfl).trans (show i < vI s 18 ↔ i < lsz s (lof 18) from Iff.rfl)
  | 19, _ => exact (show clv s 19 i ↔ i < vI s 18 from Iff.rfl).trans (show i < vI s 18 ↔ i < lsz s (lof 19) from Iff.rfl)
  | 20, _ => exact (show clv s 20 i ↔ i < vI s 18 from Iff.rfl).trans (show i < vI s 18 ↔ i < lsz s (lof 20) from Iff.rfl)
  | 21, _ => exact (show clv s 21 i ↔ i < vI s 18 from Iff.rfl).trans (show i < vI s 18 ↔ i < lsz s (lof 21) from Iff.rfl)
  | 22, _ => exact (show clv s 22 i ↔ i < vI s 18 from Iff.rfl).trans (show i < vI s 18 ↔ i < lsz s (lof 22) from Iff.rfl)
  | 23, _ => exact (show clv s 23 i ↔ i < vI s 18 from Iff.rfl).trans (show i < vI s 18 ↔ i < lsz s (lof 23) from Iff.rfl)
  | 24, _ => exact (show clv s 24 i ↔ i < vI s 28 from Iff.rfl).trans (show i < vI s 28 ↔ i < lsz s (lof 24) from Iff.rfl)
  | 25, _ => exact (show clv s 25 i ↔ i < vI s 31 from Iff.rfl).trans (show i < vI s 31 ↔ i < lsz s (lof 25) from Iff.rfl)
  | 26, _ => exact (show clv s 26 i ↔ i < vI s 3 from Iff.rfl).trans (show i < vI s 3 ↔ i < lsz s (lof 26) from Iff.rfl)
  | 27, _ => exact (show clv s 27 i ↔ i < vI s 3 from Iff.rfl).trans (show i < vI s 3 ↔ i < lsz s (lof 27) from Iff.rfl)
  | 28, _ => exact (show clv s 28 i ↔ i < vI s 3 from Iff.rfl).trans (show i < vI s 3 ↔ i < lsz s (lof 28) from Iff.rfl)
  | 29, _ => exact (show clv s 29 i ↔ i < vI s 3 from Iff.rfl).trans (show i < vI s 3 ↔ i < lsz s (lof 29) from Iff.rfl)
  | 30, hk => exact absurd hk (by decide)
  | n + 31, hk => exact absurd hk (Nat.lt_irrefl 5)
theorem clv_o {s' : MST} {k i : Nat} (hk : ¬ lof k < 5) (h30 : k ≠ 30) : clv s' k i ↔ clv s k i := by
  match k, hk, h30 with
  | 0, _, _ => exact (show clv s' 0 i ↔ i < 1 from Iff.rfl).trans (show i < 1 ↔ clv s 0 i from Iff.rfl)
  | 1, _, _ => exact (show clv s' 1 i ↔ i < 5 from Iff.rfl).trans (show i < 5 ↔ clv s 1 i from Iff.rfl)
  | 2, _, _ => exact (show clv s' 2 i ↔ i < 1 from Iff.rfl).trans (show i < 1 ↔ clv s 2 i from Iff.rfl)
  | 3, _, _ => exact (show clv s' 3 i ↔ i < 4 from Iff.rfl).trans (show i < 4 ↔ clv s 3 i from Iff.rfl)
  | 4, _, _ => exact (show clv s' 4 i ↔ i < 4 from Iff.rfl).trans (show i < 4 ↔ clv s 4 i from Iff.rfl)
  | 5, _, _ => exact (show clv s' 5 i ↔ i < 1 from Iff.rfl).trans (show i < 1 ↔ clv s 5 i from Iff.rfl)
  | 6, _, _ => exact (show clv s' 6 i ↔ i < 1 from Iff.rfl).trans (show i < 1 ↔ clv s 6 i from Iff.rfl)
  | 7, _, _ => exact (show clv s' 7 i ↔ i < 1 from Iff.rfl).trans (show i < 1 ↔ clv s 7 i from Iff.rfl)
  | 8, _, _ => exact (show clv s' 8 i ↔ i < 1 from Iff.rfl).trans (show i < 1 ↔ clv s 8 i from Iff.rfl)
  | 9, _, _ => exact (show clv s' 9 i ↔ i < 3 from Iff.rfl).trans (show i < 3 ↔ clv s 9 i from Iff.rfl)
  | 10, _, _ => exact (show clv s' 10 i ↔ i < 1 from Iff.rfl).trans (show i < 1 ↔ clv s 10 i from Iff.rfl)
  | 11, _, _ => exact (show clv s' 11 i ↔ i < 1 from Iff.rfl).trans (show i < 1 ↔ clv s 11 i from Iff.rfl)
  | 12, _, _ => exact (show clv s' 12 i ↔ i < 1 from Iff.rfl).trans (show i < 1 ↔ clv s 12 i from Iff.rfl)
  | 13, _, _ => exact (show clv s' 13 i ↔ i < 1 from Iff.rfl).trans (show i < 1 ↔ clv s 13 i from Iff.rfl)
  | 14, _, _ => exact (show clv s' 14 i ↔ i < 1 from Iff.rfl).trans (show i < 1 ↔ clv s 14 i from Iff.rfl)
  | 15, hk, _ => exact absurd (by decide) hk
  | 16, hk, _ => exact absurd (by decide) hk
  | 17, hk, _ => exact absurd (by decide) hk
  | 18, hk, _ => exact absurd (by decide) hk
  | 19, hk, _ => exact absurd (by decide) hk
  | 20, hk, _ => exact absurd (by decide) hk
  | 21, hk, _ => exact absurd (by decide) hk
  | 22, hk, _ => exact absurd (by decide) hk
  | 23, hk, _ => exact absurd (by decide) hk
  | 24, hk, _ => exact absurd (by decide) hk
  | 25, hk, _ => exact absurd (by decide) hk
  | 26, hk, _ => exact absurd (by decide) hk
  | 27, hk, _ => exact absurd (by decide) hk
  | 28, hk, _ => exact absurd (by decide) hk
  | 29, hk, _ => exact absurd (by decide) hk
  | 30, _, h => exact absurd rfl h
  | n + 31, _, _ => exact (show clv s' (n + 31) i ↔ False from Iff.rfl).trans (show False ↔ clv s (n + 31) i from Iff.rfl)
theorem lek_30 {i : Nat} (h : lek i = 30) : False := by
  match i, h with
  | 0, h => exact absurd h (by decide)
  | 1, h => exact absurd h (by decide)
  | 2, h => exact absurd h (by decide)
  | 3, h => exact absurd h (by decide)
  | n + 4, h => exact absurd (show 26 = 30 from h) (by decide)
theorem lof_lo {k : Nat} (hk : k ≤ 14) : ¬ lof k < 5 := by
  rcases (by omega : k = 0 ∨ k = 1 ∨ k = 2 ∨ k = 3 ∨ k = 4 ∨ k = 5 ∨ k = 6 ∨ k = 7 ∨ k = 8 ∨ k = 9 ∨ k = 10 ∨ k = 11 ∨ k = 12 ∨ k = 13 ∨ k = 14) with rfl | rfl | rfl | rfl | rfl | rfl | rfl | rfl | rfl | rfl | rfl | rfl | rfl | rfl | rfl <;> decide
theorem rfk_30 {k i i0 : Nat} (hr : rfk s k i 30 i0) : k = 1 ∧ i = i0 := by
  match k, hr with
  | 0, hr =>
    have hr : 30 = 1 ∨ 30 = 2 ∨ 30 = 5 ∨ 30 = 7 ∨ 30 = 12 ∨ 30 = 14 := hr
    omega
  | 1, hr => exact ⟨rfl, (show 30 = 30 ∧ i0 = i from hr).2.symm⟩
  | 2, hr =>
    have hr : 30 = 3 := hr
    omega
  | 3, hr =>
    have hr : 30 = 4 := hr
    omega
  | 4, hr => exact (show False from hr).elim
  | 5, hr =>
    have hr : 30 = 6 := hr
    omega
  | 6, hr => exact (show False from hr).elim
  | 7, hr =>
    have hr : 30 = 8 ∨ 30 = 10 ∨ 30 = 11 := hr
    omega
  | 8, hr =>
    have hr : 30 = 9 := hr
    omega
  | 9, hr => exact (show False from hr).elim
  | 10, hr => exact (show False from hr).elim
  | 11, hr => exact (show False from hr).elim
  | 12, hr =>
    have hr : 30 = 13 := hr
    omega
  | 13, hr => exact (show False from hr).elim
  | 14, hr => exact (show False from hr).elim
  | 15, hr =>
    have hr : 30 = 16 ∧ i0 = i := hr
    omega
  | 16, hr => exact (show False from hr).elim
  | 17, hr =>
    have hr : (30 = 15 ∧ i0 = (s.2.1 11 i).toNatClampNeg) ∨ (18 ≤ 30 ∧ 30 ≤ 23 ∧ i0 = i) := hr
    omega
  | 18, hr => exact (show False from hr).elim
  | 19, hr => exact (show False from hr).elim
  | 20, hr => exact (show False from hr).elim
  | 21, hr => exact (show False from hr).elim
  | 22, hr => exact (show False from hr).elim
  | 23, hr => exact (show False from hr).elim
  | 24, hr => exact (show False from hr).elim
  | 25, hr => exact (show False from hr).elim
  | 26, hr =>
    have hr : 27 ≤ 30 ∧ 30 ≤ 29 ∧ i0 = i := hr
    omega
  | 27, hr => exact (show False from hr).elim
  | 28, hr => exact (show False from hr).elim
  | 29, hr => exact (show False from hr).elim
  | 30, hr => exact (lek_30 (show 30 = lek i ∧ i0 < lsz s i from hr).1.symm).elim
  | n + 31, hr => exact (show False from hr).elim
theorem rfk_n (hV : ∀ i, i < vI s 18 → (s.2.1 11 i).toNatClampNeg < vI s 10) {k i k' i' : Nat} (h5 : lof k' < 5) (hq : clv s k i) (hr : rfk s k i k' i') (hz2 : i' = lsz s (lof k')) : False := by
  match k, hq, hr with
  | 0, hq, hr =>
    have hr : k' = 1 ∨ k' = 2 ∨ k' = 5 ∨ k' = 7 ∨ k' = 12 ∨ k' = 14 := hr
    rcases hr with rfl | rfl | rfl | rfl | rfl | rfl <;> exact absurd h5 (by decide)
  | 1, hq, hr =>
    have hr : k' = 30 ∧ i' = i := hr
    obtain ⟨rfl, -⟩ := hr
    exact absurd h5 (by decide)
  | 2, hq, hr =>
    have hr : k' = 3 := hr
    subst hr
    exact absurd h5 (by decide)
  | 3, hq, hr =>
    have hr : k' = 4 := hr
    subst hr
    exact absurd h5 (by decide)
  | 4, hq, hr => exact (show False from hr).elim
  | 5, hq, hr =>
    have hr : k' = 6 := hr
    subst hr
    exact absurd h5 (by decide)
  | 6, hq, hr => exact (show False from hr).elim
  | 7, hq, hr =>
    have hr : k' = 8 ∨ k' = 10 ∨ k' = 11 := hr
    rcases hr with rfl | rfl | rfl <;> exact absurd h5 (by decide)
  | 8, hq, hr =>
    have hr : k' = 9 := hr
    subst hr
    exact absurd h5 (by decide)
  | 9, hq, hr => exact (show False from hr).elim
  | 10, hq, hr => exact (show False from hr).elim
  | 11, hq, hr => exact (show False from hr).elim
  | 12, hq, hr =>
    have hr : k' = 13 := hr
    subst hr
    exact absurd h5 (by decide)
  | 13, hq, hr => exact (show False from hr).elim
  | 14, hq, hr => exact (show False from hr).elim
  | 15, hq, hr =>
    have hr : k' = 16 ∧ i' = i := hr
    obtain ⟨rfl, rfl⟩ := hr
    have hq : i' < vI s 10 := hq
    have hz2 : i' = vI s 10 := hz2
    omega
  | 16, hq, hr => exact (show False from hr).elim
  | 17, hq, hr =>
    have hq : i < vI s 18 := hq
    have hr : (k' = 15 ∧ i' = (s.2.1 11 i).toNatClampNeg) ∨ (18 ≤ k' ∧ k' ≤ 23 ∧ i' = i) := hr
    rcases hr with ⟨rfl, rfl⟩ | ⟨a, b, rfl⟩
    · have hz2 : (s.2.1 11 i).toNatClampNeg = vI s 10 := hz2
      have hm : (s.2.1 11 i).toNatClampNeg < vI s 10 := hV i hq
      omega
    · have hz2 : i' = lsz s (lof k') := hz2
      rcases (by omega : k' = 18 ∨ k' = 19 ∨ k' = 20 ∨ k' = 21 ∨ k' = 22 ∨ k' = 23) with rfl | rfl | rfl | rfl | rfl | rfl <;> exact absurd (show i' = vI s 18 from hz2) (Nat.ne_of_lt hq)
  | 18, hq, hr => exact (show False from hr).elim
  | 19, hq, hr => exact (show False from hr).elim
  | 20, hq, hr => exact (show False from hr).elim
  | 21, hq, hr => exact (show False from hr).elim
  | 22, hq, hr => exact (show False from hr).elim
  | 23, hq, hr => exact (show False from hr).elim
  | 24, hq, hr => exact (show False from hr).elim
  | 25, hq, hr => exact (show False from hr).elim
  | 26, hq, hr =>
    have hq : i < vI s 3 := hq
    have hr : 27 ≤ k' ∧ k' ≤ 29 ∧ i' = i := hr
    obtain ⟨a, b, rfl⟩ := hr
    rcases (by omega : k' = 27 ∨ k' = 28 ∨ k' = 29) with rfl | rfl | rfl <;> exact absurd (show i' = vI s 3 from hz2) (Nat.ne_of_lt hq)
  | 27, hq, hr => exact (show False from hr).elim
  | 28, hq, hr => exact (show False from hr).elim
  | 29, hq, hr => exact (show False from hr).elim
  | 30, hq, hr =>
    have hq : i < 5 ∧ 0 < lsz s i := hq
    have hr : k' = lek i ∧ i' < lsz s i := hr
    obtain ⟨rfl, hr⟩ := hr
    have e : lof (lek i) = i := by rcases (by omega : i = 0 ∨ i = 1 ∨ i = 2 ∨ i = 3 ∨ i = 4) with rfl | rfl | rfl | rfl | rfl <;> rfl
    rw [e] at hz2
    omega
  | n + 31, hq, hr => exact (show False from hr).elim
theorem MV.pk (hV : MV s) : ∀ i, i < vI s 18 → (s.2.1 11 i).toNatClampNeg < vI s 10 := fun i hi => (hV.2.1.2 i hi).1.2
def gro (σ : Nat → Nat → Nat) (i0 n e2 : Nat) (A : Nat → Nat) : Nat → Nat → Nat := fun k i => if k = 30 ∧ i = i0 then e2 else if lof k = i0 ∧ i = n then A k else σ k i
theorem gro_30 {i0 n e2 : Nat} {A : Nat → Nat} : gro σ i0 n e2 A 30 i0 = e2 := if_pos ⟨rfl, rfl⟩
theorem gro_n {i0 n e2 k : Nat} {A : Nat → Nat} (h : lof k = i0) (h5 : i0 < 5) : gro σ i0 n e2 A k n = A k := by
  unfold gro
  rw [if_neg (fun z : k = 30 ∧ n = i0 => absurd (show lof 30 < 5 by rw [← z.1, h]; exact h5) (by decide)), if_pos ⟨h, rfl⟩]
theorem gro_o {i0 n e2 k i : Nat} {A : Nat → Nat} (h1 : ¬ (k = 30 ∧ i = i0)) (h2 : ¬ (lof k = i0 ∧ i = n)) : gro σ i0 n e2 A k i = σ k i := by
  unfold gro
  rw [if_neg h1, if_neg h2]
/-- a list has one more -/
theorem CI.app {s' : MST} {h1 : AH} {i0 e2 cap2 : Nat} {A : Nat → Nat} {F2 : Nat → Option Nat} {md2 : Int32} (hI : CI X σ s h) (hV : ∀ i, i < vI s 18 → (s.2.1 11 i).toNatClampNeg < vI s 10) (hI1 : CI X σ s h1) (hk : ∀ a, h a ≠ none → h1 a = h a) (hQ : SQ s s') (h5 : i0 < 5) (hl : lsz s' i0 = lsz s i0 + 1) (hlo : ∀ i, i ≠ i0 → i < 5 → lsz s' i = lsz s i) (hA : ∀ k, lof k = i0 → h (A k) = none ∧ ∃ e, h1 (A k) = some e ∧ CP X (gro σ i0 (lsz s i0) e2 A) s' k (lsz s i0) e) (hinj : ∀ k k', lof k = i0 → lof k' = i0 → A k = A k' → k = k') (he : (0 < lsz s i0 ∧ e2 = σ 30 i0) ∨ h1 e2 = none) (hc2 : cap2 = 10 ∨ cap2 = 15 ∨ cap2 = 22) (hn2 : lsz s i0 + 1 ≤ cap2) (hF1 : ∀ i, i < lsz s i0 → F2 i = some (σ (lek i0) i)) (hF2 : F2 (lsz s i0) = some (A (lek i0))) : CE X σ s h s' (kput (kput h1 e2 (kQ 2 cap2 F2)) (σ 1 i0) (kO 13 [.int md2, .ref e2, .int (nI (lsz s i0 + 1))])) := by
  have hlek : lof (lek i0) = i0 := by
    rcases (by omega : i0 = 0 ∨ i0 = 1 ∨ i0 = 2 ∨ i0 = 3 ∨ i0 = 4) with rfl | rfl | rfl | rfl | rfl <;> rfl
  have live : ∀ k i, clv s k i → h (σ k i) ≠ none := fun k i hki => by
    obtain ⟨e, h0, -⟩ := hI.2 k i hki
    rw [h0]; exact Option.some_ne_none e
  have live1 : ∀ k i, clv s k i → h1 (σ k i) ≠ none := fun k i hki => by
    obtain ⟨e, h0, -⟩ := hI1.2 k i hki
    rw [h0]; exact Option.some_ne_none e
  have c1 : clv s 1 i0 := h5
  -- every place of the new state
  have cases : ∀ k i, clv s' k i → (k = 30 ∧ i = i0 ∧ gro σ i0 (lsz s i0) e2 A k i = e2) ∨ (lof k = i0 ∧ i = lsz s i0 ∧ gro σ i0 (lsz s i0) e2 A k i = A k) ∨ (clv s k i ∧ ¬ (k = 30 ∧ i = i0) ∧ ¬ (lof k = i0 ∧ i = lsz s i0) ∧ gro σ i0 (lsz s i0) e2 A k i = σ k i) := fun k i hki => by
    by_cases q1 : k = 30 ∧ i = i0
    · obtain ⟨rfl, rfl⟩ := q1
      exact Or.inl ⟨rfl, rfl, gro_30⟩
    · by_cases q2 : lof k = i0 ∧ i = lsz s i0
      · obtain ⟨q2, rfl⟩ := q2
        exact Or.inr (Or.inl ⟨q2, rfl, gro_n q2 h5⟩)
      · refine Or.inr (Or.inr ⟨?_, q1, q2, gro_o q1 q2⟩)
        by_cases q3 : lof k < 5
        · rw [clv_l q3] at hki ⊢
          by_cases q4 : lof k = i0
          · rw [q4] at hki ⊢
            rw [hl] at hki
            have : i ≠ lsz s i0 := fun z => q2 ⟨q4, z⟩
            omega
          · rw [hlo _ q4 q3] at hki
            exact hki
        · by_cases q5 : k = 30
          · subst q5
            have hki : i < 5 ∧ 0 < lsz s' i := hki
            rw [hlo i (fun z => q1 ⟨rfl, z⟩) hki.1] at hki
            exact hki
          · exact (clv_o q3 q5).mp hki
  have nA : ∀ k, lof k = i0 → ∀ k' i', clv s k' i' → A k ≠ σ k' i' := fun k hk0 k' i' hc' z => live k' i' hc' (by rw [← z]; exact (hA k hk0).1)
  have nE : ∀ k' i', clv s k' i' → ¬ (k' = 30 ∧ i' = i0) → e2 ≠ σ k' i' := fun k' i' hc' hn z => by
    rcases he with ⟨hp, he⟩ | he
    · have c30 : clv s 30 i0 := ⟨h5, hp⟩
      exact hn (⟨(hI.1 30 i0 k' i' c30 hc' (he.symm.trans z)).1.symm, (hI.1 30 i0 k' i' c30 hc' (he.symm.trans z)).2.symm⟩)
    · exact live1 k' i' hc' (by rw [← z]; exact he)
  have nEA : ∀ k, lof k = i0 → e2 ≠ A k := fun k hk0 z => by
    obtain ⟨y0, e, y1, -⟩ := hA k hk0
    rcases he with ⟨hp, he⟩ | he
    · have c30 : clv s 30 i0 := ⟨h5, hp⟩
      exact nA k hk0 30 i0 c30 (z.symm.trans he)
    · rw [z, y1] at he; exact Option.some_ne_none e he
  refine ⟨gro σ i0 (lsz s i0) e2 A, fun k i hk14 => gro_o (fun z => by omega) (fun z => absurd (show lof k < 5 by rw [z.1]; exact h5) (lof_lo hk14)), ⟨fun k i k' i' ha hb hz => ?_, fun k i hki => ?_⟩, fun a ha hn => ⟨?_, fun k i hki z => ?_⟩⟩
  · rcases cases k i ha with ⟨rfl, rfl, e⟩ | ⟨q, rfl, e⟩ | ⟨q, r, t, e⟩ <;> rcases cases k' i' hb with ⟨rfl, rfl, e'⟩ | ⟨q', rfl, e'⟩ | ⟨q', r', t', e'⟩ <;> replace hz := e.symm.trans (hz.trans e')
    · exact ⟨rfl, rfl⟩
    · exact absurd hz (nEA k' q')
    · exact absurd hz (nE k' i' q' r')
    · exact absurd hz.symm (nEA k q)
    · exact ⟨hinj k k' q q' hz, rfl⟩
    · exact absurd hz (nA k q k' i' q')
    · exact absurd hz.symm (nE k i q r)
    · exact absurd hz.symm (nA k' q' k i q)
    · exact hI.1 k i k' i' q q' hz
  · rcases cases k i hki with ⟨rfl, rfl, e⟩ | ⟨q, rfl, e⟩ | ⟨q, r, t, e⟩ <;> rw [e]
    · refine ⟨_, (kput_ne (nE 1 _ c1 (fun z => absurd z.1 (by decide)))).trans kput_eq, cap2, F2, rfl, by rw [hl]; exact hn2, hc2, fun j hj => ?_⟩
      have hj : j < lsz s' i := hj
      rw [hl] at hj
      by_cases w : j = lsz s i
      · rw [w, gro_n hlek h5]; exact hF2
      · rw [gro_o (fun z => lek_30 z.1) (fun z => w z.2)]
        exact hF1 j (by omega)
    · obtain ⟨y0, e3, y1, y2⟩ := hA k q
      exact ⟨e3, (kput_ne (nA k q 1 i0 c1)).trans ((kput_ne (nEA k q).symm).trans y1), y2⟩
    · by_cases q1 : k = 1 ∧ i = i0
      · obtain ⟨rfl, rfl⟩ := q1
        refine ⟨_, kput_eq, md2, ?_⟩
        rw [hl, if_neg (by omega), gro_30]
      · obtain ⟨e3, y1, y2⟩ := hI1.2 k i q
        have n1 : σ k i ≠ σ 1 i0 := hI.ne q c1 q1
        refine ⟨e3, (kput_ne n1).trans ((kput_ne (nE k i q r).symm).trans y1), CP_gr q hQ (fun k' i' hr => ?_) (fun hz => hlo i (fun z => ?_) ?_) y2⟩
        · refine gro_o (fun z => ?_) (fun z => ?_)
          · obtain ⟨rfl, rfl⟩ := z
            exact q1 (rfk_30 hr)
          · exact rfk_n hV (by rw [z.1]; exact h5) q hr (by rw [z.1]; exact z.2)
        · rcases hz with rfl | rfl
          · exact q1 ⟨rfl, z⟩
          · exact r ⟨rfl, z⟩
        · rcases hz with rfl | rfl
          · exact q
          · exact q.1
  · refine (kput_ne (hn 1 i0 c1)).trans ((kput_ne (fun z => ?_)).trans (hk a ha))
    rcases he with ⟨hp, he⟩ | he
    · exact hn 30 i0 ⟨h5, hp⟩ (z.trans he)
    · rw [← z, hk a ha] at he
      exact ha he
  · rcases cases k i hki with ⟨rfl, rfl, e⟩ | ⟨q, rfl, e⟩ | ⟨q, r, t, e⟩ <;> rw [e] at z
    · rcases he with ⟨hp, he⟩ | he
      · exact hn 30 _ ⟨h5, hp⟩ (z.trans he)
      · rw [← z, hk a ha] at he
        exact ha he
    · rw [z] at ha
      exact ha (hA k q).1
    · exact hn k i q z
end CPI

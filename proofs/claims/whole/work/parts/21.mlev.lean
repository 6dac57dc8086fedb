/-! THE READER: levels -/
section MQ2
variable {X : KX} {m : Nat → Nat} {s : MST} {h0 : AH}
abbrev Cd : Type := Nat × Int32
abbrev Vl : Type := (Nat → Int32) → Int32
/-- what a piece of a rule comes to: its codes, its worth, where the reader then stands -/
abbrev Rs : Type := (List Cd × Vl) × PS
def eNum (v : Int32) : List Cd × Vl := ([(0, v)], fun _ => v)
def eNam (k : Nat) : List Cd × Vl := ([(1, nI k)], fun ab => ab k)
def eNeg (a : List Cd × Vl) : List Cd × Vl := (a.1 ++ [(2, 0)], fun ab => -(a.2 ab))
def eBin (k : Nat) (f : Int32 → Int32 → Int32) (a b : List Cd × Vl) : List Cd × Vl := (a.1 ++ b.1 ++ [(k, 0)], fun ab => f (a.2 ab) (b.2 ab))
def eNot (a : List Cd × Vl) : List Cd × Vl := (a.1 ++ [(8, 0)], fun ab => if a.2 ab = 0 then nI 1 else nI 0)
def fLt (a b : Int32) : Int32 := if a < b then nI 1 else nI 0
def fEq (a b : Int32) : Int32 := if a = b then nI 1 else nI 0
def fAnd (a b : Int32) : Int32 := if a = 0 ∨ b = 0 then nI 0 else nI 1
def fOr (a b : Int32) : Int32 := if a = 0 ∧ b = 0 then nI 0 else nI 1
def clP (p : PS) : PS := uOp p (pOp p - 1)
def nxP (b : Nat → Int32) (Z : Nat) (p : PS) : PS := if pBad p = true then p else nextF b Z p
def oneL (b : Nat → Int32) (Z : Nat) (on ei : PS → Rs) (p : PS) : Rs :=
  if isS p 45 = true then (if pOp p = 5 then (eNum 0, failP p) else (eNeg (on (opensF b Z p)).1, clP (on (opensF b Z p)).2))
  else if isS p 40 = true then (if pOp p = 5 then (eNum 0, failP p) else ((ei (opensF b Z p)).1, nxP b Z (clP (if isS (ei (opensF b Z p)).2 41 = true then (ei (opensF b Z p)).2 else failP (ei (opensF b Z p)).2))))
  else if pBad p = false ∧ pTk p = 2 then (eNum (pW p).toInt32, nextF b Z p)
  else if pBad p = false ∧ pTk p = 1 then (if nameF p = 0 then (eNum 0, failP p) else (eNam (nameF p), nextF b Z p))
  else (eNum 0, failP p)
def stars (b : Nat → Int32) (Z : Nat) (on : PS → Rs) : Nat → Rs → Rs
  | 0, r => r
  | f + 1, r => if isS r.2 42 = true then stars b Z on f (eBin 3 (· * ·) r.1 (on (nextF b Z r.2)).1, (on (nextF b Z r.2)).2) else r
def termL (b : Nat → Int32) (Z : Nat) (on : PS → Rs) (p : PS) : Rs := stars b Z on (Z + 1) (on p)
def sums (b : Nat → Int32) (Z : Nat) (te : PS → Rs) : Nat → Rs → Rs
  | 0, r => r
  | f + 1, r => if isS r.2 43 = true then sums b Z te f (eBin 4 (· + ·) r.1 (te (nextF b Z r.2)).1, (te (nextF b Z r.2)).2) else if isS r.2 45 = true then sums b Z te f (eBin 5 (· - ·) r.1 (te (nextF b Z r.2)).1, (te (nextF b Z r.2)).2) else r
def addedL (b : Nat → Int32) (Z : Nat) (te : PS → Rs) (p : PS) : Rs := sums b Z te (Z + 1) (te p)
def notL (b : Nat → Int32) (Z : Nat) (ad no : PS → Rs) (p : PS) : Rs :=
  if isW p (lN 10631) = true then (if pOp p = 5 then (eNum 0, failP p) else (eNot (no (opensF b Z p)).1, clP (no (opensF b Z p)).2))
  else if isS (ad p).2 60 = true then (eBin 6 fLt (ad p).1 (ad (nextF b Z (ad p).2)).1, (ad (nextF b Z (ad p).2)).2)
  else if isS (ad p).2 61 = true then (eBin 7 fEq (ad p).1 (ad (nextF b Z (ad p).2)).1, (ad (nextF b Z (ad p).2)).2)
  else ad p
def ands (b : Nat → Int32) (Z : Nat) (no : PS → Rs) : Nat → Rs → Rs
  | 0, r => r
  | f + 1, r => if isW r.2 (lN 1111) = true then ands b Z no f (eBin 9 fAnd r.1 (no (nextF b Z r.2)).1, (no (nextF b Z r.2)).2) else r
def bothL (b : Nat → Int32) (Z : Nat) (no : PS → Rs) (p : PS) : Rs := ands b Z no (Z + 1) (no p)
def orsF (b : Nat → Int32) (Z : Nat) (bo : PS → Rs) : Nat → Rs → Rs
  | 0, r => r
  | f + 1, r => if isW r.2 (lN 423) = true then orsF b Z bo f (eBin 10 fOr r.1 (bo (nextF b Z r.2)).1, (bo (nextF b Z r.2)).2) else r
def eitherL (b : Nat → Int32) (Z : Nat) (bo : PS → Rs) (p : PS) : Rs := orsF b Z bo (Z + 1) (bo p)
/-- one, not and either, where j more may open -/
def lev (b : Nat → Int32) (Z : Nat) : Nat → (PS → Rs) × (PS → Rs) × (PS → Rs)
  | 0 => (oneL b Z (fun p => (eNum 0, p)) (fun p => (eNum 0, p)),
      notL b Z (addedL b Z (termL b Z (oneL b Z (fun p => (eNum 0, p)) (fun p => (eNum 0, p))))) (fun p => (eNum 0, p)),
      eitherL b Z (bothL b Z (notL b Z (addedL b Z (termL b Z (oneL b Z (fun p => (eNum 0, p)) (fun p => (eNum 0, p))))) (fun p => (eNum 0, p)))))
  | j + 1 => (oneL b Z (lev b Z j).1 (lev b Z j).2.2,
      notL b Z (addedL b Z (termL b Z (oneL b Z (lev b Z j).1 (lev b Z j).2.2))) (lev b Z j).2.1,
      eitherL b Z (bothL b Z (notL b Z (addedL b Z (termL b Z (oneL b Z (lev b Z j).1 (lev b Z j).2.2))) (lev b Z j).2.1)))
/-- the reader stands well -/
def gP (Z : Nat) (p : PS) : Prop := pTk p ≤ 4 ∧ pHr p ≤ Z ∧ pAt p ≤ Z ∧ pOp p ≤ 5 ∧ (0 < pTk p → pTk p < 4 → pAt p < pHr p)
theorem skF_b (b : Nat → Int32) (f n : Nat) : n ≤ skF b f n ∧ skF b f n ≤ n + f := by
  induction f generalizing n with
  | zero => exact ⟨Nat.le_refl _, Nat.le_refl _⟩
  | succ f ih =>
    unfold skF
    have h := ih (n + 1)
    split <;> omega
theorem leF_b (b : Nat → Int32) (f n : Nat) (w : Int64) (c : Nat) : n ≤ (leF b f n w c).1 ∧ (leF b f n w c).1 ≤ n + f := by
  induction f generalizing n w c with
  | zero => exact ⟨Nat.le_refl _, Nat.le_refl _⟩
  | succ f ih =>
    unfold leF
    split
    · have h := ih (n + 1) (if c < 8 then lN 27 * w + (b n).toInt64 - lN 96 else -1) (c + 1)
      omega
    · exact ⟨Nat.le_refl _, Nat.le_add_right _ _⟩
theorem diF_b (b : Nat → Int32) (f n : Nat) (w : Int64) (c : Nat) : n ≤ (diF b f n w c).1 ∧ (diF b f n w c).1 ≤ n + f := by
  induction f generalizing n w c with
  | zero => exact ⟨Nat.le_refl _, Nat.le_refl _⟩
  | succ f ih =>
    unfold diF
    split
    · have h := ih (n + 1) (if c < 4 then lN 10 * w + (b n).toInt64 - lN 48 else w) (c + 1)
      omega
    · exact ⟨Nat.le_refl _, Nat.le_add_right _ _⟩
theorem leF_1 {b : Nat → Int32} {f n : Nat} {w : Int64} {c : Nat} (hf : 0 < f) (h : inR (b n) 97 122 = true) : n < (leF b f n w c).1 := by
  obtain ⟨g, rfl⟩ : ∃ g, f = g + 1 := ⟨f - 1, by omega⟩
  unfold leF
  rw [if_pos h]
  exact (leF_b b g (n + 1) _ _).1
theorem diF_1 {b : Nat → Int32} {f n : Nat} {w : Int64} {c : Nat} (hf : 0 < f) (h : inR (b n) 48 57 = true) : n < (diF b f n w c).1 := by
  obtain ⟨g, rfl⟩ : ∃ g, f = g + 1 := ⟨f - 1, by omega⟩
  unfold diF
  rw [if_pos h]
  exact (diF_b b g (n + 1) _ _).1
theorem next_g {b : Nat → Int32} {Z : Nat} {p : PS} (hb : ∀ i, Z ≤ i → b i = -1) (hh : pHr p ≤ Z) (ho : pOp p ≤ 5) : gP Z (nextF b Z p) ∧ pHr p ≤ pAt (nextF b Z p) ∧ pOp (nextF b Z p) = pOp p ∧ pBad (nextF b Z p) = pBad p ∧ pFt (nextF b Z p) = pFt p := by
  obtain ⟨h1, h2⟩ := skF_b b (Z - pHr p) (pHr p)
  unfold nextF
  obtain ⟨n, hn⟩ : ∃ n, n = skF b (Z - pHr p) (pHr p) := ⟨_, rfl⟩
  rw [← hn] at h1 h2 ⊢
  have hnZ : n ≤ Z := by omega
  have hlt : ¬ b n < 0 → n < Z := fun h => by
    rcases Nat.lt_or_ge n Z with z | z
    · exact z
    · rw [hb n z] at h
      exact absurd h (by decide)
  unfold tokF
  by_cases c0 : b n < 0
  · rw [if_pos c0]
    exact ⟨⟨Nat.zero_le _, hnZ, Nat.le_refl _, ho, fun z => absurd z (Nat.lt_irrefl 0)⟩, hh, rfl, rfl, rfl⟩
  · have hz := hlt c0
    rw [if_neg c0]
    by_cases c1 : inR (b n) 97 122 = true
    · rw [if_pos c1]
      have e := leF_b b (Z - n) n (lN 0) 0
      have e1 := leF_1 (f := Z - n) (w := lN 0) (c := 0) (by omega) c1
      exact ⟨⟨(by decide : 1 ≤ 4), by show (leF b (Z - n) n (lN 0) 0).1 ≤ Z; omega, hnZ, ho, fun _ _ => e1⟩, h1, rfl, rfl, rfl⟩
    · rw [if_neg c1]
      by_cases c2 : inR (b n) 48 57 = true
      · rw [if_pos c2]
        have e := diF_b b (Z - n) n (lN 0) 0
        have e1 := diF_1 (f := Z - n) (w := lN 0) (c := 0) (by omega) c2
        exact ⟨⟨by show (if _ then 4 else 2) ≤ 4; split <;> decide, by show (diF b (Z - n) n (lN 0) 0).1 ≤ Z; omega, hnZ, ho, fun _ _ => e1⟩, h1, rfl, rfl, rfl⟩
      · rw [if_neg c2]
        by_cases c3 : isP (b n) = true
        · rw [if_pos c3]
          exact ⟨⟨(by decide : 3 ≤ 4), hz, hnZ, ho, fun _ _ => Nat.lt_succ_self n⟩, h1, rfl, rfl, rfl⟩
        · rw [if_neg c3]
          exact ⟨⟨Nat.le_refl 4, hnZ, hnZ, ho, fun _ z => absurd z (Nat.lt_irrefl 4)⟩, h1, rfl, rfl, rfl⟩
end MQ2

/-! THE READER: levels -/
section MQ2
variable {X : KX} {m : Nat → Nat} {s : MST} {h0 : AH}
abbrev Cd : Type := Nat × Int32
abbrev Vl : Type := (Nat → Int32) → Int32
/-- what a piece of a rule comes to: its codes, its worth, where the reader then stands -/
abbrev Rs : Type := (List Cd × Vl) × PS
def eNum (v : Int32) : List Cd × Vl := ([(0, v)], fun _ => v)
def eNam (k : Nat) : List Cd × Vl := ([(1, nI k)], fun ab => ab k)
def eNeg (a : List Cd × Vl) : List Cd × Vl := (a.1 ++ [(2, 0)], fun ab => -(a.2 ab))
def eBin (k : Nat) (f : Int32 → Int32 → Int32) (a b : List Cd × Vl) : List Cd × Vl := (a.1 ++ b.1 ++ [(k, 0)], fun ab => f (a.2 ab) (b.2 ab))
def eNot (a : List Cd × Vl) : List Cd × Vl := (a.1 ++ [(8, 0)], fun ab => if a.2 ab = 0 then nI 1 else nI 0)
def fLt (a b : Int32) : Int32 := if a < b then nI 1 else nI 0
def fEq (a b : Int32) : Int32 := if a = b then nI 1 else nI 0
def fAnd (a b : Int32) : Int32 := if a = 0 ∨ b = 0 then nI 0 else nI 1
def fOr (a b : Int32) : Int32 := if a = 0 ∧ b = 0 then nI 0 else nI 1
def clP (p : PS) : PS := uOp p (pOp p - 1)
def nxP (b : Nat → Int32) (Z : Nat) (p : PS) : PS := if pBad p = true then p else nextF b Z p
def oneL (b : Nat → Int32) (Z : Nat) (on ei : PS → Rs) (p : PS) : Rs :=
  if isS p 45 = true then (if pOp p = 5 then (eNum 0, failP p) else (eNeg (on (opensF b Z p)).1, clP (on (opensF b Z p)).2))
  else if isS p 40 = true then (if pOp p = 5 then (eNum 0, failP p) else ((ei (opensF b Z p)).1, nxP b Z (clP (if isS (ei (opensF b Z p)).2 41 = true then (ei (opensF b Z p)).2 else failP (ei (opensF b Z p)).2))))
  else if pBad p = false ∧ pTk p = 2 then (eNum (pW p).toInt32, nextF b Z p)
  else if pBad p = false ∧ pTk p = 1 then (if nameF p = 0 then (eNum 0, failP p) else (eNam (nameF p), nextF b Z p))
  else (eNum 0, failP p)
def stars (b : Nat → Int32) (Z : Nat) (on : PS → Rs) : Nat → Rs → Rs
  | 0, r => r
  | f + 1, r => if isS r.2 42 = true then stars b Z on f (eBin 3 (· * ·) r.1 (on (nextF b Z r.2)).1, (on (nextF b Z r.2)).2) else r
def termL (b : Nat → Int32) (Z : Nat) (on : PS → Rs) (p : PS) : Rs := stars b Z on (Z + 1) (on p)
def sums (b : Nat → Int32) (Z : Nat) (te : PS → Rs) : Nat → Rs → Rs
  | 0, r => r
  | f + 1, r => if isS r.2 43 = true then sums b Z te f (eBin 4 (· + ·) r.1 (te (nextF b Z r.2)).1, (te (nextF b Z r.2)).2) else if isS r.2 45 = true then sums b Z te f (eBin 5 (· - ·) r.1 (te (nextF b Z r.2)).1, (te (nextF b Z r.2)).2) else r
def addedL (b : Nat → Int32) (Z : Nat) (te : PS → Rs) (p : PS) : Rs := sums b Z te (Z + 1) (te p)
def notL (b : Nat → Int32) (Z : Nat) (ad no : PS → Rs) (p : PS) : Rs :=
  if isW p (lN 10631) = true then (if pOp p = 5 then (eNum 0, failP p) else (eNot (no (opensF b Z p)).1, clP (no (opensF b Z p)).2))
  else if isS (ad p).2 60 = true then (eBin 6 fLt (ad p).1 (ad (nextF b Z (ad p).2)).1, (ad (nextF b Z (ad p).2)).2)
  else if isS (ad p).2 61 = true then (eBin 7 fEq (ad p).1 (ad (nextF b Z (ad p).2)).1, (ad (nextF b Z (ad p).2)).2)
  else ad p
def ands (b : Nat → Int32) (Z : Nat) (no : PS → Rs) : Nat → Rs → Rs
  | 0, r => r
  | f + 1, r => if isW r.2 (lN 1111) = true then ands b Z no f (eBin 9 fAnd r.1 (no (nextF b Z r.2)).1, (no (nextF b Z r.2)).2) else r
def bothL (b : Nat → Int32) (Z : Nat) (no : PS → Rs) (p : PS) : Rs := ands b Z no (Z + 1) (no p)
def orsF (b : Nat → Int32) (Z : Nat) (bo : PS → Rs) : Nat → Rs → Rs
  | 0, r => r
  | f + 1, r => if isW r.2 (lN 423) = true then orsF b Z bo f (eBin 10 fOr r.1 (bo (nextF b Z r.2)).1, (bo (nextF b Z r.2)).2) else r
def eitherL (b : Nat → Int32) (Z : Nat) (bo : PS → Rs) (p : PS) : Rs := orsF b Z bo (Z + 1) (bo p)
/-- one, not and either, where j more may open -/
def lev (b : Nat → Int32) (Z : Nat) : Nat → (PS → Rs) × (PS → Rs) × (PS → Rs)
  | 0 => (oneL b Z (fun p => (eNum 0, p)) (fun p => (eNum 0, p)),
      notL b Z (addedL b Z (termL b Z (oneL b Z (fun p => (eNum 0, p)) (fun p => (eNum 0, p))))) (fun p => (eNum 0, p)),
      eitherL b Z (bothL b Z (notL b Z (addedL b Z (termL b Z (oneL b Z (fun p => (eNum 0, p)) (fun p => (eNum 0, p))))) (fun p => (eNum 0, p)))))
  | j + 1 => (oneL b Z (lev b Z j).1 (lev b Z j).2.2,
      notL b Z (addedL b Z (termL b Z (oneL b Z (lev b Z j).1 (lev b Z j).2.2))) (lev b Z j).2.1,
      eitherL b Z (bothL b Z (notL b Z (addedL b Z (termL b Z (oneL b Z (lev b Z j).1 (lev b Z j).2.2))) (lev b Z j).2.1)))
end MQ2

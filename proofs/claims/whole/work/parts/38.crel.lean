/-! THE CLASS READS: how it stands to the reader -/
section CRL
variable {X : KX} {h : AH}
theorem inN_iff {x : Int32} {n : Nat} (hn : n < 2147483648) : inN x n = true ↔ (0 : Int32) ≤ x ∧ x < nI n := by
  simp only [inN, Bool.and_eq_true, decide_eq_true_eq]
  rw [Int32.le_iff_toInt_le, Int32.lt_iff_toInt_lt, nI_toInt hn, Int32.toInt_zero]
/-- how the reader of the class (place k, token tk, fault ft) stands to the reader's place p -/
def RelR (b : Nat → Int32) (Z c : Nat) (p : PS) (k : Nat) (tk ft : Int32) : Prop := k < c ∧ tk = tkOf p ∧ wtP p ∧ (pBad p = true → ft = nI (pFt p) ∧ pFt p ≤ 160) ∧ (pBad p = false → ft = -1 ∧ (∀ j, j < k → gdT (itP b Z (j + 1))) ∧ ∃ v, p = uOp (itP b Z (k + 1)) v)
theorem next_bad {b : Nat → Int32} {Z : Nat} (p : PS) : pBad (nextF b Z p) = pBad p := by
  unfold nextF
  generalize skF b (Z - pHr p) (pHr p) = n
  unfold tokF
  split
  · rfl
  · split
    · rfl
    · split
      · rfl
      · split
        · rfl
        · rfl
theorem next_op {b : Nat → Int32} {Z : Nat} (p : PS) (v : Nat) : nextF b Z (uOp p v) = uOp (nextF b Z p) v := by
  unfold nextF
  show tokF b Z (uOp p v) (skF b (Z - pHr p) (pHr p)) = _
  generalize skF b (Z - pHr p) (pHr p) = n
  unfold tokF
  split
  · rfl
  · split
    · rfl
    · split
      · rfl
      · split
        · rfl
        · rfl
theorem itP_bad (b : Nat → Int32) (Z k : Nat) : pBad (itP b Z k) = false := by
  induction k with
  | zero => rfl
  | succ k ih => exact (next_bad _).trans ih
theorem Rel_step {b : Nat → Int32} {Z c : Nat} {fk fp fn : Nat → Int32} (hT : TokOk b Z c fk fp fn) {p : PS} {k : Nat} {tk ft : Int32} (h : RelR b Z c p k tk ft) (hb : pBad p = false) (hg : gdT p) : stK c k = k + 1 ∧ RelR b Z c (nextF b Z p) (k + 1) (fk (k + 1)) ft := by
  obtain ⟨h1, h2, h3, h4, h5⟩ := h
  obtain ⟨g1, g2, v, g3⟩ := h5 hb
  have hgi : gdT (itP b Z (k + 1)) := by
    rw [g3] at hg
    exact hg
  have hall : ∀ j, j < k + 1 → gdT (itP b Z (j + 1)) := fun j hj => by
    rcases Nat.lt_or_ge j k with q | q
    · exact g2 j q
    · rw [show j = k by omega]; exact hgi
  obtain ⟨t1, t2, -, -⟩ := hT.2 (k + 1) hall
  have e : nextF b Z p = uOp (itP b Z (k + 1 + 1)) v := by
    rw [g3, next_op]
    rfl
  have hbn : pBad (nextF b Z p) = false := (next_bad p).trans hb
  refine ⟨if_pos t1, t1, ?_, wt_next p, fun z => absurd (hbn.symm.trans z) (by decide), fun _ => ⟨g1, hall, v, e⟩⟩
  rw [t2]
  unfold tkOf
  rw [hbn, if_neg (by decide), e]
  rfl
theorem Rel_op {b : Nat → Int32} {Z c : Nat} {p : PS} {k v : Nat} {tk ft : Int32} (h : RelR b Z c p k tk ft) : RelR b Z c (uOp p v) k tk ft := by
  obtain ⟨h1, h2, h3, h4, h5⟩ := h
  exact ⟨h1, h2, h3, h4, fun hb => by
    obtain ⟨g1, g2, w, g3⟩ := h5 hb
    exact ⟨g1, g2, v, by rw [g3]; rfl⟩⟩
theorem Rel_fail {b : Nat → Int32} {Z c : Nat} {fk fp fn : Nat → Int32} (hT : TokOk b Z c fk fp fn) (hZ : Z ≤ 160) {p : PS} {k : Nat} {tk ft : Int32} (h : RelR b Z c p k tk ft) (hg : gP Z p) : RelR b Z c (failP p) k (-2) (rfF fp k ft) := by
  obtain ⟨h1, h2, h3, h4, h5⟩ := h
  cases hb : pBad p with
  | true =>
    obtain ⟨g1, g2⟩ := h4 hb
    have e : rfF fp k ft = ft := if_neg (by rw [g1]; exact nI_nm (by omega) (by decide))
    rw [failP_bad hb, e]
    refine ⟨h1, ?_, h3, h4, h5⟩
    unfold tkOf
    rw [if_pos hb]
  | false =>
    obtain ⟨g1, g2, v, g3⟩ := h5 hb
    obtain ⟨t1, -, t3, -⟩ := hT.2 k g2
    have e : rfF fp k ft = nI (pAt p) := by
      unfold rfF
      rw [if_pos g1, t3, g3]
      rfl
    have ef : failP p = uFt (uBad p true) (pAt p) := if_neg (by rw [hb]; decide)
    rw [e, ef]
    exact ⟨h1, rfl, h3, fun _ => ⟨rfl, Nat.le_trans hg.2.2.1 hZ⟩, fun z => absurd z (show ¬ (true = false) by decide)⟩
/-- codes as the class writes them -/
def encC (c : Cd) : Int32 := if c.1 = 0 then c.2 else if c.1 = 1 then (c.2 - nI 41) ^^^ (-1) else if c.1 = 2 then -14 else if c.1 = 3 then nI 42 ^^^ (-1) else if c.1 = 4 then nI 43 ^^^ (-1) else if c.1 = 5 then nI 45 ^^^ (-1) else if c.1 = 6 then nI 60 ^^^ (-1) else if c.1 = 7 then nI 61 ^^^ (-1) else if c.1 = 8 then -12 else if c.1 = 9 then nI 10 ^^^ (-1) else nI 9 ^^^ (-1)
def cod (fc : Nat → Int32) (L : Nat) (l : List Cd) : Prop := ∀ i c, l[i]? = some c → fc (L + i) = encC c
theorem cod_app {fc : Nat → Int32} {L : Nat} {a b : List Cd} (h1 : cod fc L a) (h2 : cod fc (L + a.length) b) : cod fc L (a ++ b) := fun i c hc => by
  rcases Nat.lt_or_ge i a.length with q | q
  · rw [List.getElem?_append_left q] at hc
    exact h1 i c hc
  · rw [List.getElem?_append_right q] at hc
    have := h2 (i - a.length) c hc
    rw [show L + i = L + a.length + (i - a.length) by omega]
    exact this
theorem cod_one {fc : Nat → Int32} {L : Nat} {c : Cd} (h : fc L = encC c) : cod fc L [c] := fun i d hd => by
  cases i with
  | zero =>
    have e : c = d := Option.some.inj hd
    rw [← e]
    exact h
  | succ i => simp at hd
theorem cod_cg {fc fc' : Nat → Int32} {L : Nat} {l : List Cd} (h : cod fc L l) (he : ∀ i, i < L + l.length → fc' i = fc i) : cod fc' L l := fun i c hc => by
  have hi : i < l.length := (List.getElem?_eq_some_iff.mp hc).1
  rw [he (L + i) (by omega)]
  exact h i c hc
/-- what is written while a piece is read that comes to r -/
def Gd (L k : Nat) (fc : Nat → Int32) (r : Rs) (L' k' : Nat) (fc' : Nat → Int32) : Prop := pBad r.2 = false → L' = L + r.1.1.length ∧ (∀ i, i < L → fc' i = fc i) ∧ cod fc' L r.1.1 ∧ k + r.1.1.length ≤ k'
theorem puL_le {L : Nat} (h : L ≤ 160) : puL L ≤ 160 := by unfold puL; split <;> omega
theorem Gd_put {L k L' k' : Nat} {fc fc' : Nat → Int32} {e : List Cd × Vl} {p q : PS} {v : Int32} {c : Cd} {w : Vl} (h : Gd L k fc (e, p) L' k' fc') (hq : pBad q = false → pBad p = false) (hk : k' < 161) (hL : pBad p = false → L ≤ k) (hkk : pBad p = false → k + e.1.length + 1 ≤ k') (hv : v = encC c) : Gd L k fc ((e.1 ++ [c], w), q) (puL L') k' (puF L' fc' v) := fun hb => by
  obtain ⟨h1, h2, h3, h4⟩ := h (hq hb)
  have h5 := hL (hq hb)
  have h6 := hkk (hq hb)
  have hl : L' < 160 := by
    have h1 : L' = L + e.1.length := h1
    omega
  unfold puL puF
  rw [if_pos hl, if_pos hl]
  have hs : ∀ i, i < L + e.1.length → upd fc' L' v i = fc' i := fun i hi => pk_un (by have h1 : L' = L + e.1.length := h1; omega)
  refine ⟨?_, fun i hi => (hs i (by omega)).trans (h2 i hi), cod_app (cod_cg h3 hs) (cod_one ?_), ?_⟩
  · show L' + 1 = L + (e.1 ++ [c]).length
    rw [List.length_append]
    have h1 : L' = L + e.1.length := h1
    show L' + 1 = L + (e.1.length + 1)
    omega
  · have h1 : L' = L + e.1.length := h1
    rw [h1, pk_us, hv]
  · show k + (e.1 ++ [c]).length ≤ k'
    rw [List.length_append]
    exact h6
theorem Gd_bin {L k L1 k1 L2 k2 kd : Nat} {f : Int32 → Int32 → Int32} {fc fc1 fc2 : Nat → Int32} {r r2 : Rs} {v : Int32} (h1 : Gd L k fc r L1 k1 fc1) (h2 : Gd L1 (k1 + 1) fc1 r2 L2 k2 fc2) (hb : pBad r2.2 = false → pBad r.2 = false) (hL : pBad r.2 = false → L ≤ k) (hk : k2 < 161) (hv : v = encC (kd, 0)) : Gd L k fc (eBin kd f r.1 r2.1, r2.2) (puL L2) k2 (puF L2 fc2 v) := by
  have h3 : Gd L k fc ((r.1.1 ++ r2.1.1, fun _ => 0), r2.2) L2 k2 fc2 := fun hq => by
    obtain ⟨a1, a2, a3, a4⟩ := h1 (hb hq)
    obtain ⟨b1, b2, b3, b4⟩ := h2 hq
    refine ⟨?_, fun i hi => (b2 i (by omega)).trans (a2 i hi), cod_app (cod_cg a3 (fun i hi => b2 i (by omega))) (by rw [← a1]; exact b3), ?_⟩
    · show L2 = L + (r.1.1 ++ r2.1.1).length
      rw [List.length_append]
      omega
    · show k + (r.1.1 ++ r2.1.1).length ≤ k2
      rw [List.length_append]
      omega
  exact Gd_put h3 id hk (fun hq => hL (hb hq)) (fun hq => by
    obtain ⟨a1, a2, a3, a4⟩ := h1 (hb hq)
    obtain ⟨b1, b2, b3, b4⟩ := h2 hq
    show k + (r.1.1 ++ r2.1.1).length + 1 ≤ k2
    rw [List.length_append]
    omega) hv
/-- bad stays bad, a token stays a token -/
def PRp (F : PS → Rs) : Prop := ∀ p, (wtP p → wtP (F p).2) ∧ (pBad p = true → pBad (F p).2 = true)
theorem PRp.g {F : PS → Rs} (h : PRp F) {p : PS} (hb : pBad (F p).2 = false) : pBad p = false := by
  cases e : pBad p with
  | false => rfl
  | true => exact absurd (hb.symm.trans ((h p).2 e)) (by decide)
theorem wt_fail {p : PS} (h : wtP p) : wtP (failP p) := by
  unfold failP
  split
  · exact h
  · exact h
theorem fail_b (p : PS) : pBad p = true → pBad (failP p) = true := fun _ => fail_bad p
section
variable {b : Nat → Int32} {Z : Nat}
theorem bad_S {p : PS} (h : pBad p = true) (c : Nat) : ¬ isS p c = true := isS_bad h c
theorem bad_W {p : PS} (h : pBad p = true) (x : Int64) : ¬ isW p x = true := fun z => absurd (h.symm.trans (isW_1 z).1) (by decide)
theorem wt_nx {p : PS} (h : wtP p) : wtP (nxP b Z p) := by
  unfold nxP
  split
  · exact h
  · exact wt_next p
theorem nx_bad {p : PS} (h : pBad p = true) : pBad (nxP b Z p) = true := by rw [nxP_bad h]; exact h
theorem wt_op {p : PS} (h : wtP p) : wtP (opensF b Z p) := by
  unfold opensF
  split
  · exact wt_fail h
  · exact wt_next _
theorem pr_one {on ei : PS → Rs} (hon : PRp on) (hei : PRp ei) : PRp (oneL b Z on ei) := fun p => ⟨fun hw => by
  unfold oneL
  split
  · split
    · exact wt_fail hw
    · exact (hon _).1 (wt_op hw)
  · split
    · split
      · exact wt_fail hw
      · refine wt_nx ?_
        show wtP (if _ then _ else _)
        split
        · exact (hei _).1 (wt_op hw)
        · exact wt_fail ((hei _).1 (wt_op hw))
    · split
      · exact wt_next p
      · split
        · split
          · exact wt_fail hw
          · exact wt_next p
        · exact wt_fail hw, fun hb => by
  unfold oneL
  rw [if_neg (bad_S hb 45), if_neg (bad_S hb 40), if_neg (fun z => absurd (hb.symm.trans z.1) (by decide)), if_neg (fun z => absurd (hb.symm.trans z.1) (by decide))]
  exact fail_bad p⟩
theorem pr_stars {sub : PS → Rs} (hs : PRp sub) (f : Nat) (r : Rs) : (wtP r.2 → wtP (stars b Z sub f r).2) ∧ (pBad r.2 = true → pBad (stars b Z sub f r).2 = true) := by
  refine ⟨fun h => ?_, fun h => ?_⟩
  · induction f generalizing r with
    | zero => exact h
    | succ f ih =>
      unfold stars
      split
      · exact ih _ ((hs _).1 (wt_next _))
      · exact h
  · cases f with
    | zero => exact h
    | succ f =>
      unfold stars
      rw [if_neg (bad_S h _)]
      exact h
theorem pr_termL {sub : PS → Rs} (hs : PRp sub) : PRp (termL b Z sub) := fun p => ⟨fun h => (pr_stars hs _ _).1 ((hs p).1 h), fun h => (pr_stars hs _ _).2 ((hs p).2 h)⟩
theorem pr_sums {sub : PS → Rs} (hs : PRp sub) (f : Nat) (r : Rs) : (wtP r.2 → wtP (sums b Z sub f r).2) ∧ (pBad r.2 = true → pBad (sums b Z sub f r).2 = true) := by
  refine ⟨fun h => ?_, fun h => ?_⟩
  · induction f generalizing r with
    | zero => exact h
    | succ f ih =>
      unfold sums
      split
      · exact ih _ ((hs _).1 (wt_next _))
      · split
        · exact ih _ ((hs _).1 (wt_next _))
        · exact h
  · cases f with
    | zero => exact h
    | succ f =>
      unfold sums
      rw [if_neg (bad_S h _), if_neg (bad_S h _)]
      exact h
theorem pr_addedL {sub : PS → Rs} (hs : PRp sub) : PRp (addedL b Z sub) := fun p => ⟨fun h => (pr_sums hs _ _).1 ((hs p).1 h), fun h => (pr_sums hs _ _).2 ((hs p).2 h)⟩
theorem pr_ands {sub : PS → Rs} (hs : PRp sub) (f : Nat) (r : Rs) : (wtP r.2 → wtP (ands b Z sub f r).2) ∧ (pBad r.2 = true → pBad (ands b Z sub f r).2 = true) := by
  refine ⟨fun h => ?_, fun h => ?_⟩
  · induction f generalizing r with
    | zero => exact h
    | succ f ih =>
      unfold ands
      split
      · exact ih _ ((hs _).1 (wt_next _))
      · exact h
  · cases f with
    | zero => exact h
    | succ f =>
      unfold ands
      rw [if_neg (bad_W h _)]
      exact h
theorem pr_bothL {sub : PS → Rs} (hs : PRp sub) : PRp (bothL b Z sub) := fun p => ⟨fun h => (pr_ands hs _ _).1 ((hs p).1 h), fun h => (pr_ands hs _ _).2 ((hs p).2 h)⟩
theorem pr_ors {sub : PS → Rs} (hs : PRp sub) (f : Nat) (r : Rs) : (wtP r.2 → wtP (orsF b Z sub f r).2) ∧ (pBad r.2 = true → pBad (orsF b Z sub f r).2 = true) := by
  refine ⟨fun h => ?_, fun h => ?_⟩
  · induction f generalizing r with
    | zero => exact h
    | succ f ih =>
      unfold orsF
      split
      · exact ih _ ((hs _).1 (wt_next _))
      · exact h
  · cases f with
    | zero => exact h
    | succ f =>
      unfold orsF
      rw [if_neg (bad_W h _)]
      exact h
theorem pr_eitherL {sub : PS → Rs} (hs : PRp sub) : PRp (eitherL b Z sub) := fun p => ⟨fun h => (pr_ors hs _ _).1 ((hs p).1 h), fun h => (pr_ors hs _ _).2 ((hs p).2 h)⟩
theorem pr_notL {ad no : PS → Rs} (ha : PRp ad) (hn : PRp no) : PRp (notL b Z ad no) := fun p => ⟨fun hw => by
  unfold notL
  split
  · split
    · exact wt_fail hw
    · exact (hn _).1 (wt_op hw)
  · split
    · exact (ha _).1 (wt_next _)
    · split
      · exact (ha _).1 (wt_next _)
      · exact (ha _).1 hw, fun hb => by
  have h2 := (ha p).2 hb
  unfold notL
  rw [if_neg (bad_W hb _), if_neg (bad_S h2 _), if_neg (bad_S h2 _)]
  exact h2⟩
theorem pr_d : PRp (fun p => (eNum 0, p)) := fun _ => ⟨id, id⟩
theorem pr_lev (j : Nat) : PRp (lev b Z j).1 ∧ PRp (lev b Z j).2.1 ∧ PRp (lev b Z j).2.2 := by
  induction j with
  | zero => exact ⟨pr_one pr_d pr_d, pr_notL (pr_addedL (pr_termL (pr_one pr_d pr_d))) pr_d, pr_eitherL (pr_bothL (pr_notL (pr_addedL (pr_termL (pr_one pr_d pr_d))) pr_d))⟩
  | succ j ih => exact ⟨pr_one ih.1 ih.2.2, pr_notL (pr_addedL (pr_termL (pr_one ih.1 ih.2.2))) ih.2.1, pr_eitherL (pr_bothL (pr_notL (pr_addedL (pr_termL (pr_one ih.1 ih.2.2))) ih.2.1))⟩
end
end CRL

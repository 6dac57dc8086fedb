/-! THE READER: what it reads is independent of where it stood; codes and worths -/
section MQ6
def c0 : PS := (0, 0, 0, 0, 0, false, 0)
theorem nxP_bad {b : Nat → Int32} {Z : Nat} {p : PS} (h : pBad p = true) : nxP b Z p = p := if_pos h
theorem failP_bad {p : PS} (h : pBad p = true) : failP p = p := if_pos h
theorem isS_bad {p : PS} (h : pBad p = true) (c : Nat) : ¬ isS p c = true := fun z => absurd (h.symm.trans (isS_3 z).1) (by decide)
theorem partV_bad {b : Nat → Int32} {Z : Nat} {p : PS} (h : pBad p = true) : partV b Z p = p := by
  unfold partV
  rw [if_neg (isS_bad h 59), failP_bad h, nxP_bad h]
theorem part_wrong {b : Nat → Int32} {Z : Nat} {ei : PS → Rs} {key : Int64} {q : PS} (h : pTk q ≠ 1) : partF b Z ei key q = (eNum 0, failP q) := by
  have hb := fail_bad q
  unfold partF partU
  rw [if_neg (fun z => h (isW_1 z).2), nxP_bad hb, if_pos hb, partV_bad hb]
theorem keep_bad {b : Nat → Int32} {Z : Nat} {ei : PS → Rs} {key : Int64} {q : PS} (h : pBad q = true) : keepF b Z ei key q = (eNum 0, q) := if_pos h
theorem read_wrong {b : Nat → Int32} {Z : Nat} {p : PS} (h : pTk (nextF b Z p) ≠ 1) : readE b Z p = ((eNum 0, failP (nextF b Z p)), (eNum 0, failP (nextF b Z p)), (eNum 0, failP (nextF b Z p))) := by
  have hb := fail_bad (nextF b Z p)
  unfold readE
  rw [part_wrong h, keep_bad hb, keep_bad hb]
theorem readP_wrong {b : Nat → Int32} {Z : Nat} {p : PS} (h : pTk (nextF b Z p) ≠ 1) : readP b Z p = failP (nextF b Z p) := by
  unfold readP
  rw [read_wrong h]
  exact if_pos (fail_bad _)
theorem failP_ft {p : PS} (h : pBad p = false) : pFt (failP p) = pAt p := by
  unfold failP
  rw [if_neg (by rw [h]; decide)]
  rfl
theorem read_can {b : Nat → Int32} {Z : Nat} {p : PS} (h : atStart p) : (readE b Z p).1.1 = (readE b Z c0).1.1 ∧ (readE b Z p).2.1.1 = (readE b Z c0).2.1.1 ∧ (readE b Z p).2.2.1 = (readE b Z c0).2.2.1 ∧ pBad (readP b Z p) = pBad (readP b Z c0) ∧ (pBad (readP b Z c0) = true → pFt (readP b Z p) = pFt (readP b Z c0)) := by
  obtain ⟨tk, a, W, hr, op, bd, ft⟩ := p
  obtain ⟨h1, h2, h3, h4⟩ := h
  have h1 : hr = 0 := h1
  have h2 : op = 0 := h2
  have h3 : bd = false := h3
  have h4 : ft = 0 := h4
  subst h1 h2 h3 h4
  by_cases e : nextF b Z (tk, a, W, 0, 0, false, 0) = nextF b Z c0
  · have e1 : readE b Z (tk, a, W, 0, 0, false, 0) = readE b Z c0 := by unfold readE; rw [e]
    have e2 : readP b Z (tk, a, W, 0, 0, false, 0) = readP b Z c0 := by unfold readP; rw [e1]
    rw [e1, e2]
    exact ⟨rfl, rfl, rfl, rfl, fun _ => rfl⟩
  · have hk : pTk (nextF b Z (tk, a, W, 0, 0, false, 0)) ≠ 1 ∧ pTk (nextF b Z c0) ≠ 1 ∧ pAt (nextF b Z (tk, a, W, 0, 0, false, 0)) = pAt (nextF b Z c0) ∧ pBad (nextF b Z (tk, a, W, 0, 0, false, 0)) = false ∧ pBad (nextF b Z c0) = false := by
      have e' : ¬ tokF b Z (tk, a, W, 0, 0, false, 0) (skF b (Z - 0) 0) = tokF b Z c0 (skF b (Z - 0) 0) := e
      show pTk (tokF b Z (tk, a, W, 0, 0, false, 0) (skF b (Z - 0) 0)) ≠ 1 ∧ pTk (tokF b Z c0 (skF b (Z - 0) 0)) ≠ 1 ∧ pAt (tokF b Z (tk, a, W, 0, 0, false, 0) (skF b (Z - 0) 0)) = pAt (tokF b Z c0 (skF b (Z - 0) 0)) ∧ pBad (tokF b Z (tk, a, W, 0, 0, false, 0) (skF b (Z - 0) 0)) = false ∧ pBad (tokF b Z c0 (skF b (Z - 0) 0)) = false
      generalize skF b (Z - 0) 0 = n at e' ⊢
      unfold tokF at e' ⊢
      by_cases k0 : b n < 0
      · rw [if_pos k0, if_pos k0]
        exact ⟨by show (0 : Nat) ≠ 1; decide, by show (0 : Nat) ≠ 1; decide, rfl, rfl, rfl⟩
      · rw [if_neg k0, if_neg k0] at e' ⊢
        by_cases k1 : inR (b n) 97 122 = true
        · rw [if_pos k1, if_pos k1] at e'
          exact absurd rfl e'
        · rw [if_neg k1, if_neg k1] at e' ⊢
          by_cases k2 : inR (b n) 48 57 = true
          · rw [if_pos k2, if_pos k2] at e'
            exact absurd rfl e'
          · rw [if_neg k2, if_neg k2] at e' ⊢
            by_cases k3 : isP (b n) = true
            · rw [if_pos k3, if_pos k3] at e'
              exact absurd rfl e'
            · rw [if_neg k3, if_neg k3]
              exact ⟨by show (4 : Nat) ≠ 1; decide, by show (4 : Nat) ≠ 1; decide, rfl, rfl, rfl⟩
    obtain ⟨k1, k2, k3, k4, k5⟩ := hk
    rw [read_wrong k1, read_wrong k2, readP_wrong k1, readP_wrong k2]
    exact ⟨rfl, rfl, rfl, by rw [fail_bad, fail_bad], fun _ => by rw [failP_ft k4, failP_ft k5, k3]⟩
/-- one code at work on the stack -/
def binO (k : Nat) : Int32 → Int32 → Int32 := if k = 3 then (· * ·) else if k = 4 then (· + ·) else if k = 5 then (· - ·) else if k = 6 then fLt else if k = 7 then fEq else if k = 9 then fAnd else fOr
def evC (ab : Nat → Int32) (st : List Int32) (c : Cd) : List Int32 :=
  if c.1 = 0 then c.2 :: st else if c.1 = 1 then ab c.2.toNatClampNeg :: st
  else match st with
    | [] => []
    | x :: st => if c.1 = 2 then (-x) :: st else if c.1 = 8 then (if x = 0 then nI 1 else nI 0) :: st
      else match st with
        | [] => [x]
        | y :: st => binO c.1 y x :: st
def evs (ab : Nat → Int32) (l : List Cd) (st : List Int32) : List Int32 := l.foldl (evC ab) st
def okC (c : Cd) : Prop := (c.1 = 0 ∧ ∃ n, n < 10000 ∧ c.2 = nI n) ∨ (c.1 = 1 ∧ ∃ k, 41 ≤ k ∧ k ≤ 46 ∧ c.2 = nI k) ∨ (2 ≤ c.1 ∧ c.1 ≤ 10 ∧ c.2 = 0)
def wfE (e : List Cd × Vl) : Prop := (∀ ab st, evs ab e.1 st = e.2 ab :: st) ∧ ∀ c, c ∈ e.1 → okC c
def gW (p : PS) : Prop := pTk p = 2 → ∃ n, n < 10000 ∧ pW p = lN n
def WFp (F : PS → Rs) : Prop := ∀ p, gW p → wfE (F p).1 ∧ gW (F p).2
theorem wf_num {n : Nat} (h : n < 10000) : wfE (eNum (nI n)) := ⟨fun _ _ => rfl, fun c hc => by
  obtain rfl : c = (0, nI n) := List.mem_singleton.mp hc
  exact Or.inl ⟨rfl, n, h, rfl⟩⟩
theorem wf_0 : wfE (eNum 0) := wf_num (n := 0) (by decide)
theorem wf_nam {k : Nat} (h1 : 41 ≤ k) (h2 : k ≤ 46) : wfE (eNam k) := ⟨fun ab st => by
  show ab (nI k).toNatClampNeg :: st = ab k :: st
  rw [nI_clamp (by omega)], fun c hc => by
  obtain rfl : c = (1, nI k) := List.mem_singleton.mp hc
  exact Or.inr (Or.inl ⟨rfl, k, h1, h2, rfl⟩)⟩
theorem wf_un {k : Nat} {e : List Cd × Vl} {f : Vl} (hk : k = 2 ∨ k = 8) (hf : ∀ ab st, evC ab (e.2 ab :: st) (k, 0) = f ab :: st) (h : wfE e) : wfE (e.1 ++ [(k, 0)], f) := ⟨fun ab st => by
  show evs ab (e.1 ++ [(k, 0)]) st = _
  unfold evs
  rw [List.foldl_append]
  have h1 := h.1 ab st
  unfold evs at h1
  rw [h1]
  exact hf ab st, fun c hc => by
  rcases List.mem_append.mp hc with q | q
  · exact h.2 c q
  · obtain rfl : c = (k, 0) := List.mem_singleton.mp q
    exact Or.inr (Or.inr ⟨by show 2 ≤ k; omega, by show k ≤ 10; omega, rfl⟩)⟩
theorem wf_neg {e : List Cd × Vl} (h : wfE e) : wfE (eNeg e) := wf_un (k := 2) (Or.inl rfl) (fun _ _ => rfl) h
theorem wf_not {e : List Cd × Vl} (h : wfE e) : wfE (eNot e) := wf_un (k := 8) (Or.inr rfl) (fun _ _ => rfl) h
theorem wf_bin {k : Nat} {f : Int32 → Int32 → Int32} {a b : List Cd × Vl} (hk : 2 ≤ k ∧ k ≤ 10) (hf : ∀ ab x y st, evC ab (y :: x :: st) (k, 0) = f x y :: st) (ha : wfE a) (hb : wfE b) : wfE (eBin k f a b) := ⟨fun ab st => by
  show evs ab (a.1 ++ b.1 ++ [(k, 0)]) st = _
  unfold evs
  rw [List.foldl_append, List.foldl_append]
  have h1 := ha.1 ab st
  unfold evs at h1
  rw [h1]
  have h2 := hb.1 ab (a.2 ab :: st)
  unfold evs at h2
  rw [h2]
  exact hf ab _ _ st, fun c hc => by
  rcases List.mem_append.mp hc with q | q
  · rcases List.mem_append.mp q with q | q
    · exact ha.2 c q
    · exact hb.2 c q
  · obtain rfl : c = (k, 0) := List.mem_singleton.mp q
    exact Or.inr (Or.inr ⟨hk.1, hk.2, rfl⟩)⟩
theorem gW_fail {p : PS} (h : gW p) : gW (failP p) := by
  unfold failP
  split
  · exact h
  · exact h
theorem diF_w {b : Nat → Int32} {f n : Nat} {w : Int64} {c : Nat} (h : ∃ k, k < 10 ^ (min c 4) ∧ w = lN k) : ∃ k, k < 10000 ∧ (diF b f n w c).2.1 = lN k := by
  induction f generalizing n w c with
  | zero =>
    obtain ⟨k, hk, e⟩ := h
    exact ⟨k, Nat.lt_of_lt_of_le hk (Nat.pow_le_pow_right (by decide) (Nat.min_le_right c 4)), e⟩
  | succ f ih =>
    unfold diF
    split
    · rename_i hin
      refine ih ?_
      obtain ⟨k, hk, e⟩ := h
      obtain ⟨d, hd1, hd2, hd⟩ := inR_of hin (by decide)
      by_cases hc : c < 4
      · rw [if_pos hc]
        rw [show min (c + 1) 4 = c + 1 by omega]
        rw [show min c 4 = c by omega] at hk
        refine ⟨10 * k + (d - 48), by rw [Nat.pow_succ]; omega, ?_⟩
        have hk4 : 10 ^ c ≤ 10 ^ 4 := Nat.pow_le_pow_right (by decide) (by omega)
        rw [e, hd, nI_l (by omega)]
        rw [lN_mul, lN_add, lN_sub (by omega)]
        congr 1
        omega
      · rw [if_neg hc]
        refine ⟨k, ?_, e⟩
        rw [show min (c + 1) 4 = 4 by omega]
        rw [show min c 4 = 4 by omega] at hk
        exact hk
    · obtain ⟨k, hk, e⟩ := h
      exact ⟨k, Nat.lt_of_lt_of_le hk (Nat.pow_le_pow_right (by decide) (Nat.min_le_right c 4)), e⟩
theorem gW_next {b : Nat → Int32} {Z : Nat} (p : PS) : gW (nextF b Z p) := by
  unfold nextF
  generalize skF b (Z - pHr p) (pHr p) = n
  unfold tokF
  split
  · exact fun z => absurd z (show (0 : Nat) ≠ 2 by decide)
  · split
    · exact fun z => absurd z (show (1 : Nat) ≠ 2 by decide)
    · split
      · exact fun _ => diF_w ⟨0, by decide, rfl⟩
      · split
        · exact fun z => absurd z (show (3 : Nat) ≠ 2 by decide)
        · exact fun z => absurd z (show (4 : Nat) ≠ 2 by decide)
theorem gW_nx {b : Nat → Int32} {Z : Nat} {p : PS} (h : gW p) : gW (nxP b Z p) := by
  unfold nxP
  split
  · exact h
  · exact gW_next p
theorem gW_ite {p : PS} {c : Bool} (h : gW p) : gW (if c = true then p else failP p) := by
  split
  · exact h
  · exact gW_fail h
theorem gW_op {b : Nat → Int32} {Z : Nat} {p : PS} (h : ¬ pOp p = 5) : gW (opensF b Z p) := by
  unfold opensF
  rw [if_neg h]
  exact gW_next _
theorem nameF_r {p : PS} (h : ¬ nameF p = 0) : 41 ≤ nameF p ∧ nameF p ≤ 46 := by
  unfold nameF at h ⊢
  repeat' split
  all_goals first | decide | (exfalso; simp_all)
section
variable {b : Nat → Int32} {Z : Nat}
theorem wf_one {on ei : PS → Rs} (hon : WFp on) (hei : WFp ei) : WFp (oneL b Z on ei) := by
  intro p hp
  have hf : wfE (eNum 0) ∧ gW (failP p) := ⟨wf_0, gW_fail hp⟩
  unfold oneL
  split
  · split
    · exact hf
    · rename_i h5
      have k := hon _ (gW_op (b := b) (Z := Z) h5)
      exact ⟨wf_neg k.1, k.2⟩
  · split
    · split
      · exact hf
      · rename_i h5
        have k := hei _ (gW_op (b := b) (Z := Z) h5)
        exact ⟨k.1, gW_nx (show gW (clP _) from gW_ite k.2)⟩
    · split
      · rename_i h2
        obtain ⟨n, hn, e⟩ := hp h2.2
        refine ⟨?_, gW_next p⟩
        show wfE (eNum (pW p).toInt32)
        rw [e, show (lN n).toInt32 = nI n from lN_i n]
        exact wf_num hn
      · split
        · split
          · exact hf
          · rename_i hn
            exact ⟨wf_nam (nameF_r hn).1 (nameF_r hn).2, gW_next p⟩
        · exact hf
theorem wf_stars {on : PS → Rs} (hon : WFp on) (f : Nat) (r : Rs) (h : wfE r.1 ∧ gW r.2) : wfE (stars b Z on f r).1 ∧ gW (stars b Z on f r).2 := by
  induction f generalizing r with
  | zero => exact h
  | succ f ih =>
    unfold stars
    split
    · exact ih _ ⟨wf_bin (by decide) (fun _ _ _ _ => rfl) h.1 (hon _ (gW_next _)).1, (hon _ (gW_next _)).2⟩
    · exact h
theorem wf_term {on : PS → Rs} (hon : WFp on) : WFp (termL b Z on) := fun p hp => wf_stars hon _ _ (hon p hp)
theorem wf_sums {te : PS → Rs} (hte : WFp te) (f : Nat) (r : Rs) (h : wfE r.1 ∧ gW r.2) : wfE (sums b Z te f r).1 ∧ gW (sums b Z te f r).2 := by
  induction f generalizing r with
  | zero => exact h
  | succ f ih =>
    unfold sums
    split
    · exact ih _ ⟨wf_bin (by decide) (fun _ _ _ _ => rfl) h.1 (hte _ (gW_next _)).1, (hte _ (gW_next _)).2⟩
    · split
      · exact ih _ ⟨wf_bin (by decide) (fun _ _ _ _ => rfl) h.1 (hte _ (gW_next _)).1, (hte _ (gW_next _)).2⟩
      · exact h
theorem wf_added {te : PS → Rs} (hte : WFp te) : WFp (addedL b Z te) := fun p hp => wf_sums hte _ _ (hte p hp)
theorem wf_notL {ad no : PS → Rs} (had : WFp ad) (hno : WFp no) : WFp (notL b Z ad no) := by
  intro p hp
  unfold notL
  split
  · split
    · exact ⟨wf_0, gW_fail hp⟩
    · rename_i h5
      have k := hno _ (gW_op (b := b) (Z := Z) h5)
      exact ⟨wf_not k.1, k.2⟩
  · split
    · exact ⟨wf_bin (by decide) (fun _ _ _ _ => rfl) (had p hp).1 (had _ (gW_next _)).1, (had _ (gW_next _)).2⟩
    · split
      · exact ⟨wf_bin (by decide) (fun _ _ _ _ => rfl) (had p hp).1 (had _ (gW_next _)).1, (had _ (gW_next _)).2⟩
      · exact had p hp
theorem wf_ands {no : PS → Rs} (hno : WFp no) (f : Nat) (r : Rs) (h : wfE r.1 ∧ gW r.2) : wfE (ands b Z no f r).1 ∧ gW (ands b Z no f r).2 := by
  induction f generalizing r with
  | zero => exact h
  | succ f ih =>
    unfold ands
    split
    · exact ih _ ⟨wf_bin (by decide) (fun _ _ _ _ => rfl) h.1 (hno _ (gW_next _)).1, (hno _ (gW_next _)).2⟩
    · exact h
theorem wf_both {no : PS → Rs} (hno : WFp no) : WFp (bothL b Z no) := fun p hp => wf_ands hno _ _ (hno p hp)
theorem wf_ors {bo : PS → Rs} (hbo : WFp bo) (f : Nat) (r : Rs) (h : wfE r.1 ∧ gW r.2) : wfE (orsF b Z bo f r).1 ∧ gW (orsF b Z bo f r).2 := by
  induction f generalizing r with
  | zero => exact h
  | succ f ih =>
    unfold orsF
    split
    · exact ih _ ⟨wf_bin (by decide) (fun _ _ _ _ => rfl) h.1 (hbo _ (gW_next _)).1, (hbo _ (gW_next _)).2⟩
    · exact h
theorem wf_either {bo : PS → Rs} (hbo : WFp bo) : WFp (eitherL b Z bo) := fun p hp => wf_ors hbo _ _ (hbo p hp)
theorem wf_d : WFp (fun p => (eNum 0, p)) := fun _ hp => ⟨wf_0, hp⟩
theorem wf_lev (j : Nat) : WFp (lev b Z j).1 ∧ WFp (lev b Z j).2.1 ∧ WFp (lev b Z j).2.2 := by
  induction j with
  | zero => exact ⟨wf_one wf_d wf_d, wf_notL (wf_added (wf_term (wf_one wf_d wf_d))) wf_d, wf_either (wf_both (wf_notL (wf_added (wf_term (wf_one wf_d wf_d))) wf_d))⟩
  | succ j ih => exact ⟨wf_one ih.1 ih.2.2, wf_notL (wf_added (wf_term (wf_one ih.1 ih.2.2))) ih.2.1, wf_either (wf_both (wf_notL (wf_added (wf_term (wf_one ih.1 ih.2.2))) ih.2.1))⟩
theorem wf_part {ei : PS → Rs} (hei : WFp ei) (key : Int64) : WFp (partF b Z ei key) := by
  intro p hp
  have h1 : gW (nxP b Z (if isW p key = true then p else failP p)) := gW_nx (gW_ite hp)
  unfold partF partU
  generalize (if isW p key = true then p else failP p) = q1 at h1 ⊢
  split
  · exact ⟨wf_0, gW_nx (gW_ite h1)⟩
  · exact ⟨(hei _ h1).1, gW_nx (gW_ite (hei _ h1).2)⟩
theorem wf_keep {ei : PS → Rs} (hei : WFp ei) (key : Int64) : WFp (keepF b Z ei key) := by
  intro p hp
  unfold keepF
  split
  · exact ⟨wf_0, hp⟩
  · exact wf_part hei key p hp
theorem wf_read (p : PS) : wfE (readE b Z p).1.1 ∧ wfE (readE b Z p).2.1.1 ∧ wfE (readE b Z p).2.2.1 := by
  have h5 := (wf_lev (b := b) (Z := Z) 5).2.2
  have h1 := wf_part (b := b) (Z := Z) h5 (lN 388978) _ (gW_next (b := b) (Z := Z) p)
  have h2 := wf_keep (b := b) (Z := Z) h5 (lN 220309) _ h1.2
  have h3 := wf_keep (b := b) (Z := Z) h5 (lN 13903) _ h2.2
  exact ⟨h1.1, h2.1, h3.1⟩
end
/-- a worth speaks of the six names alone -/
theorem evs_cg {ab ab' : Nat → Int32} (h : ∀ k, 41 ≤ k → k ≤ 46 → ab k = ab' k) (l : List Cd) (hl : ∀ c, c ∈ l → okC c) (st : List Int32) : evs ab l st = evs ab' l st := by
  induction l generalizing st with
  | nil => rfl
  | cons c l ih =>
    show evs ab l (evC ab st c) = evs ab' l (evC ab' st c)
    have e : evC ab st c = evC ab' st c := by
      rcases hl c (List.mem_cons_self ..) with q | q | q
      · unfold evC
        rw [if_pos q.1, if_pos q.1]
      · obtain ⟨q1, k, h1, h2, h3⟩ := q
        have n0 : ¬ c.1 = 0 := by omega
        unfold evC
        rw [if_neg n0, if_neg n0, if_pos q1, if_pos q1, h3, nI_clamp (by omega), h k h1 h2]
      · unfold evC
        rw [if_neg (by omega), if_neg (by omega), if_neg (by omega), if_neg (by omega)]
    rw [e]
    exact ih (fun d hd => hl d (List.mem_cons_of_mem _ hd)) _
theorem wfE_cg {e : List Cd × Vl} (h : wfE e) {ab ab' : Nat → Int32} (hab : ∀ k, 41 ≤ k → k ≤ 46 → ab k = ab' k) : e.2 ab = e.2 ab' := by
  have h1 := evs_cg hab e.1 h.2 []
  rw [h.1, h.1] at h1
  exact (List.cons.inj h1).1
theorem exAt_can {b : Nat → Int32} {Z : Nat} {p : PS} (h : atStart p) (w : Nat) {ab ab' : Nat → Int32} (hab : ∀ k, 41 ≤ k → k ≤ 46 → ab k = ab' k) : exAt (readE b Z p) w ab = exAt (readE b Z c0) w ab' := by
  obtain ⟨h1, h2, h3, -, -⟩ := read_can (b := b) (Z := Z) h
  obtain ⟨w1, w2, w3⟩ := wf_read (b := b) (Z := Z) c0
  unfold exAt
  rw [h1, h2, h3]
  split
  · exact wfE_cg w1 hab
  · split
    · exact wfE_cg w2 hab
    · exact wfE_cg w3 hab
end MQ6

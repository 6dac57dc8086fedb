/-! THE READER OF RULES -/
section MP9
variable {X : KX} {m : Nat → Nat} {s : MST} {h0 : AH}
/-- where the reader stands: token, its place, its worth, the next place, how many stand open, whether it failed, where -/
abbrev PS : Type := Nat × Nat × Int64 × Nat × Nat × Bool × Nat
abbrev pTk (p : PS) : Nat := p.1
abbrev pAt (p : PS) : Nat := p.2.1
abbrev pW (p : PS) : Int64 := p.2.2.1
abbrev pHr (p : PS) : Nat := p.2.2.2.1
abbrev pOp (p : PS) : Nat := p.2.2.2.2.1
abbrev pBad (p : PS) : Bool := p.2.2.2.2.2.1
abbrev pFt (p : PS) : Nat := p.2.2.2.2.2.2
def uTk (p : PS) (v : Nat) : PS := (v, p.2)
def uAt (p : PS) (v : Nat) : PS := (p.1, v, p.2.2)
def uW (p : PS) (v : Int64) : PS := (p.1, p.2.1, v, p.2.2.2)
def uHr (p : PS) (v : Nat) : PS := (p.1, p.2.1, p.2.2.1, v, p.2.2.2.2)
def uOp (p : PS) (v : Nat) : PS := (p.1, p.2.1, p.2.2.1, p.2.2.2.1, v, p.2.2.2.2.2)
def uBad (p : PS) (v : Bool) : PS := (p.1, p.2.1, p.2.2.1, p.2.2.2.1, p.2.2.2.2.1, v, p.2.2.2.2.2.2)
def uFt (p : PS) (v : Nat) : PS := (p.1, p.2.1, p.2.2.1, p.2.2.2.1, p.2.2.2.2.1, p.2.2.2.2.2.1, v)
def pst (s : MST) (p : PS) : MST := (fun j => if j = 34 then nI (pTk p) else if j = 35 then nI (pAt p) else if j = 37 then nI (pHr p) else if j = 38 then nI (pOp p) else if j = 39 then bI (pBad p) else if j = 40 then nI (pFt p) else s.1 j, s.2.1, fun j => if j = 36 then pW p else s.2.2.1 j, s.2.2.2)
theorem pst_34 {p : PS} {v : Nat} : si (pst s p) 34 (nI v) = pst s (uTk p v) := by
  unfold si pst
  congr 1
  funext j
  by_cases h : j = 34
  · subst h
    rfl
  · simp only [if_neg h]
    rfl
theorem pst_35 {p : PS} {v : Nat} : si (pst s p) 35 (nI v) = pst s (uAt p v) := by
  unfold si pst
  congr 1
  funext j
  by_cases h : j = 35
  · subst h
    rfl
  · simp only [if_neg h]
    rfl
theorem pst_37 {p : PS} {v : Nat} : si (pst s p) 37 (nI v) = pst s (uHr p v) := by
  unfold si pst
  congr 1
  funext j
  by_cases h : j = 37
  · subst h
    rfl
  · simp only [if_neg h]
    rfl
theorem pst_38 {p : PS} {v : Nat} : si (pst s p) 38 (nI v) = pst s (uOp p v) := by
  unfold si pst
  congr 1
  funext j
  by_cases h : j = 38
  · subst h
    rfl
  · simp only [if_neg h]
    rfl
theorem pst_39 {p : PS} {v : Bool} : si (pst s p) 39 (bI v) = pst s (uBad p v) := by
  unfold si pst
  congr 1
  funext j
  by_cases h : j = 39
  · subst h
    rfl
  · simp only [if_neg h]
    rfl
theorem pst_40 {p : PS} {v : Nat} : si (pst s p) 40 (nI v) = pst s (uFt p v) := by
  unfold si pst
  congr 1
  funext j
  by_cases h : j = 40
  · subst h
    rfl
  · simp only [if_neg h]
    rfl
theorem pst_36 {p : PS} {v : Int64} : sl (pst s p) 36 v = pst s (uW p v) := by
  unfold sl pst
  congr 3
  funext j
  by_cases h : j = 36
  · subst h
    rfl
  · simp only [if_neg h]
/-- the byte at a place, -1 behind the end -/
def byP (s : MST) (F Z i : Nat) : Int32 := if i < Z then s.2.1 1 (F + i) else -1
def failP (p : PS) : PS := if pBad p = true then p else uFt (uBad p true) (pAt p)
def isW (p : PS) (x : Int64) : Bool := !pBad p && decide (pTk p = 1) && decide (pW p = x)
def isS (p : PS) (c : Nat) : Bool := !pBad p && decide (pTk p = 3) && decide (pW p = lN c)
set_option maxRecDepth 4000 in
theorem f_byteAt (hm : MI m) {F Z i : Nat} (h32 : s.1 32 = nI F) (h33 : s.1 33 = nI Z) (hF : F ≤ 800) (hZ : Z ≤ 160) (hi : i ≤ 1000) : Fn X 0 0 0 yX12_byteAt cX12_byteAt 2 (some .int) [.ref (m 65), .int (nI i)] (mh m s h0) (fun rv hv => rv = some (.int (byP s F Z i)) ∧ hv = mh m s h0) := by
  refine fn_of (by decide) (Nat.le_of_ble_eq_true rfl) (fun M hM => ?_)
  refine a_iload_n (pc := 0) dX12_byteAt_0 rfl rfl ?_
  refine a_aload_n (pc := 1) dX12_byteAt_1 rfl rfl ?_
  refine a_getfield (pc := 2) kg_X12_242 dX12_byteAt_2 (m_obj hm) rfl ?_
  refine a_topi (h33) ?_
  refine a_icmp_geN (pc := 5) (tgt := 22) dX12_byteAt_5 (by decide) (by omega) (by omega) (fun c5 => ?_) (fun c5 => ?_)
  · refine a_iconst (pc := 22) dX12_byteAt_22 ic_m1 ?_
    refine a_ret_i (pc := 23) hM rfl (rfl) dX12_byteAt_23 (by omega) (by omega) ?_
    exact ⟨by first | rw [byP, if_pos c5] | rw [byP, if_neg (by omega)], rfl⟩
  · refine a_aload_n (pc := 8) dX12_byteAt_8 rfl rfl ?_
    refine a_getfield (pc := 9) kg_X12_13 dX12_byteAt_9 (m_obj hm) rfl ?_
    refine a_aload_n (pc := 12) dX12_byteAt_12 rfl rfl ?_
    refine a_getfield (pc := 13) kg_X12_245 dX12_byteAt_13 (m_obj hm) rfl ?_
    refine a_topi (h32) ?_
    refine a_iload_n (pc := 16) dX12_byteAt_16 rfl rfl ?_
    refine a_iaddN (pc := 17) dX12_byteAt_17 ?_
    refine a_iaload (pc := 18) dX12_byteAt_18 (m_a1 hm) (_) (rfl) (by omega) (by omega) ?_
    refine a_goto (pc := 19) (tgt := 23) dX12_byteAt_19 (by decide) ?_
    refine a_ret_i (pc := 23) hM rfl (rfl) dX12_byteAt_23 (by omega) (by omega) ?_
    exact ⟨by first | rw [byP, if_pos c5] | rw [byP, if_neg (by omega)], rfl⟩

set_option maxRecDepth 4000 in
theorem f_fail (hm : MI m) (p : PS) : Fn X 0 0 0 yX12_fail cX12_fail 1 none [.ref (m 65)] (mh m (pst s p) h0) (fun rv hv => rv = none ∧ hv = mh m (pst s (failP p)) h0) := by
  refine fn_of (by decide) (Nat.le_of_ble_eq_true rfl) (fun M hM => ?_)
  refine a_aload_n (pc := 0) dX12_fail_0 rfl rfl ?_
  refine a_getfield (pc := 1) kg_X12_278 dX12_fail_1 (m_obj hm) rfl ?_
  refine a_topi ((show _ = bI (pBad p) from rfl)) ?_
  refine a_if_neB (pc := 4) (tgt := 20) dX12_fail_4 (by decide) (fun c4 => ?_) (fun c4 => ?_)
  · refine a_ret_v (pc := 20) hM rfl dX12_fail_20 (by omega) (by omega) ?_
    exact ⟨rfl, by rw [failP, c4]; rfl⟩
  · refine a_aload_n (pc := 7) dX12_fail_7 rfl rfl ?_
    refine a_iconst (pc := 8) dX12_fail_8 ic_1 ?_
    refine a_putfield (pc := 9) kf_X12_278 dX12_fail_9 (m_obj hm) (rfl) (by rfl) (Nat.le_of_ble_eq_true rfl) ?_
    refine a_hp (m_p39 hm) ?_
    refine a_hp (show _ = mh m (pst s (uBad p true)) h0 from congrArg (fun t => mh m t h0) (pst_39 (v := true))) ?_
    refine a_aload_n (pc := 12) dX12_fail_12 rfl rfl ?_
    refine a_aload_n (pc := 13) dX12_fail_13 rfl rfl ?_
    refine a_getfield (pc := 14) kg_X12_254 dX12_fail_14 (m_obj hm) rfl ?_
    refine a_putfield (pc := 17) kf_X12_282 dX12_fail_17 (m_obj hm) (rfl) (by rfl) (Nat.le_of_ble_eq_true rfl) ?_
    refine a_hp (m_p40 hm) ?_
    refine a_hp (show _ = mh m (pst s (uFt (uBad p true) (pAt p))) h0 from congrArg (fun t => mh m t h0) (pst_40 (v := pAt p))) ?_
    refine a_ret_v (pc := 20) hM rfl dX12_fail_20 (by omega) (by omega) ?_
    exact ⟨rfl, by rw [failP, c4]; rfl⟩

set_option maxRecDepth 4000 in
theorem f_isWord (hm : MI m) (p : PS) (hk : pTk p ≤ 4) (x : Int64) : Fn X 0 0 0 yX12_isWord cX12_isWord 3 (some .boolean) [.ref (m 65), .long x] (mh m (pst s p) h0) (fun rv hv => rv = some (.int (bI (isW p x))) ∧ hv = mh m (pst s p) h0) := by
  refine fn_of (by decide) (Nat.le_of_ble_eq_true rfl) (fun M hM => ?_)
  refine a_aload_n (pc := 0) dX12_isWord_0 rfl rfl ?_
  refine a_getfield (pc := 1) kg_X12_278 dX12_isWord_1 (m_obj hm) rfl ?_
  refine a_topi ((show _ = bI (pBad p) from rfl)) ?_
  refine a_if_neB (pc := 4) (tgt := 28) dX12_isWord_4 (by decide) (fun c4 => ?_) (fun c4 => ?_)
  · refine a_iconst (pc := 28) dX12_isWord_28 ic_0 ?_
    refine a_ret_i (pc := 29) hM rfl (by decide +kernel) dX12_isWord_29 (by omega) (by omega) ?_
    exact ⟨by simp [isW, bI, nI, c4], rfl⟩
  · refine a_aload_n (pc := 7) dX12_isWord_7 rfl rfl ?_
    refine a_getfield (pc := 8) kg_X12_257 dX12_isWord_8 (m_obj hm) rfl ?_
    refine a_topi ((show _ = nI (pTk p) from rfl)) ?_
    refine a_iconst (pc := 11) dX12_isWord_11 ic_1 ?_
    refine a_icmp_neN (pc := 12) (tgt := 28) dX12_isWord_12 (by decide) (by omega) (by omega) (fun c12 => ?_) (fun c12 => ?_)
    · refine a_iconst (pc := 28) dX12_isWord_28 ic_0 ?_
      refine a_ret_i (pc := 29) hM rfl (by decide +kernel) dX12_isWord_29 (by omega) (by omega) ?_
      exact ⟨by simp [isW, bI, nI, c4, c12], rfl⟩
    · refine a_aload_n (pc := 15) dX12_isWord_15 rfl rfl ?_
      refine a_getfield (pc := 16) kg_X12_264 dX12_isWord_16 (m_obj hm) rfl ?_
      refine a_topl ((show _ = pW p from rfl)) ?_
      refine a_lload_n (pc := 19) dX12_isWord_19 rfl rfl ?_
      refine a_lif_ne (pc := 20) (tgt := 28) dX12_isWord_20 dX12_isWord_21 (by decide) (fun c21 => ?_) (fun c21 => ?_)
      · refine a_iconst (pc := 28) dX12_isWord_28 ic_0 ?_
        refine a_ret_i (pc := 29) hM rfl (by decide +kernel) dX12_isWord_29 (by omega) (by omega) ?_
        exact ⟨by simp [isW, bI, nI, c4, c12, c21], rfl⟩
      · refine a_iconst (pc := 24) dX12_isWord_24 ic_1 ?_
        refine a_goto (pc := 25) (tgt := 29) dX12_isWord_25 (by decide) ?_
        refine a_ret_i (pc := 29) hM rfl (by decide +kernel) dX12_isWord_29 (by omega) (by omega) ?_
        exact ⟨by simp [isW, bI, nI, c4, c12, c21], rfl⟩

set_option maxRecDepth 4000 in
theorem f_isSign (hm : MI m) (p : PS) (hk : pTk p ≤ 4) {c : Nat} (hc : c ≤ 200) : Fn X 0 0 0 yX12_isSign cX12_isSign 2 (some .boolean) [.ref (m 65), .int (nI c)] (mh m (pst s p) h0) (fun rv hv => rv = some (.int (bI (isS p c))) ∧ hv = mh m (pst s p) h0) := by
  refine fn_of (by decide) (Nat.le_of_ble_eq_true rfl) (fun M hM => ?_)
  refine a_aload_n (pc := 0) dX12_isSign_0 rfl rfl ?_
  refine a_getfield (pc := 1) kg_X12_278 dX12_isSign_1 (m_obj hm) rfl ?_
  refine a_topi ((show _ = bI (pBad p) from rfl)) ?_
  refine a_if_neB (pc := 4) (tgt := 29) dX12_isSign_4 (by decide) (fun c4 => ?_) (fun c4 => ?_)
  · refine a_iconst (pc := 29) dX12_isSign_29 ic_0 ?_
    refine a_ret_i (pc := 30) hM rfl (by decide +kernel) dX12_isSign_30 (by omega) (by omega) ?_
    exact ⟨by simp [isS, bI, nI, c4], rfl⟩
  · refine a_aload_n (pc := 7) dX12_isSign_7 rfl rfl ?_
    refine a_getfield (pc := 8) kg_X12_257 dX12_isSign_8 (m_obj hm) rfl ?_
    refine a_topi ((show _ = nI (pTk p) from rfl)) ?_
    refine a_iconst (pc := 11) dX12_isSign_11 ic_3 ?_
    refine a_icmp_neN (pc := 12) (tgt := 29) dX12_isSign_12 (by decide) (by omega) (by omega) (fun c12 => ?_) (fun c12 => ?_)
    · refine a_iconst (pc := 29) dX12_isSign_29 ic_0 ?_
      refine a_ret_i (pc := 30) hM rfl (by decide +kernel) dX12_isSign_30 (by omega) (by omega) ?_
      exact ⟨by simp [isS, bI, nI, c4, c12], rfl⟩
    · refine a_aload_n (pc := 15) dX12_isSign_15 rfl rfl ?_
      refine a_getfield (pc := 16) kg_X12_264 dX12_isSign_16 (m_obj hm) rfl ?_
      refine a_topl ((show _ = pW p from rfl)) ?_
      refine a_iload_n (pc := 19) dX12_isSign_19 rfl rfl ?_
      refine a_i2lN (pc := 20) dX12_isSign_20 (by omega) ?_
      refine a_lif_ne (pc := 21) (tgt := 29) dX12_isSign_21 dX12_isSign_22 (by decide) (fun c22 => ?_) (fun c22 => ?_)
      · refine a_iconst (pc := 29) dX12_isSign_29 ic_0 ?_
        refine a_ret_i (pc := 30) hM rfl (by decide +kernel) dX12_isSign_30 (by omega) (by omega) ?_
        exact ⟨by simp [isS, bI, nI, c4, c12, c22], rfl⟩
      · refine a_iconst (pc := 25) dX12_isSign_25 ic_1 ?_
        refine a_goto (pc := 26) (tgt := 30) dX12_isSign_26 (by decide) ?_
        refine a_ret_i (pc := 30) hM rfl (by decide +kernel) dX12_isSign_30 (by omega) (by omega) ?_
        exact ⟨by simp [isS, bI, nI, c4, c12, c22], rfl⟩

/-- past blanks -/
def skF (b : Nat → Int32) : Nat → Nat → Nat
  | 0, n => n
  | f + 1, n => if b n = nI 32 ∨ b n = nI 10 then skF b f (n + 1) else n
/-- a word's letters: the place behind it and its worth -/
def leF (b : Nat → Int32) : Nat → Nat → Int64 → Nat → Nat × Int64
  | 0, n, w, _ => (n, w)
  | f + 1, n, w, c => if inR (b n) 97 122 = true then leF b f (n + 1) (if c < 8 then lN 27 * w + (b n).toInt64 - lN 96 else -1) (c + 1) else (n, w)
/-- a number's digits: the place behind it, its worth, how many -/
def diF (b : Nat → Int32) : Nat → Nat → Int64 → Nat → Nat × Int64 × Nat
  | 0, n, w, c => (n, w, c)
  | f + 1, n, w, c => if inR (b n) 48 57 = true then diF b f (n + 1) (if c < 4 then lN 10 * w + (b n).toInt64 - lN 48 else w) (c + 1) else (n, w, c)
def isP (c : Int32) : Bool := decide (c = nI 40 ∨ c = nI 41 ∨ c = nI 59 ∨ c = nI 43 ∨ c = nI 45 ∨ c = nI 42 ∨ c = nI 60 ∨ c = nI 61)
/-- the token at a place that is no blank -/
def tokF (b : Nat → Int32) (Z : Nat) (p : PS) (n : Nat) : PS :=
  if b n < 0 then (0, Z, pW p, n, p.2.2.2.2)
  else if inR (b n) 97 122 = true then (1, n, (leF b (Z - n) n (lN 0) 0).2, (leF b (Z - n) n (lN 0) 0).1, p.2.2.2.2)
  else if inR (b n) 48 57 = true then (if 4 < (diF b (Z - n) n (lN 0) 0).2.2 then 4 else 2, n, (diF b (Z - n) n (lN 0) 0).2.1, (diF b (Z - n) n (lN 0) 0).1, p.2.2.2.2)
  else if isP (b n) = true then (3, n, (b n).toInt64, n + 1, p.2.2.2.2)
  else (4, n, pW p, n, p.2.2.2.2)
def nextF (b : Nat → Int32) (Z : Nat) (p : PS) : PS := tokF b Z p (skF b (Z - pHr p) (pHr p))
end MP9

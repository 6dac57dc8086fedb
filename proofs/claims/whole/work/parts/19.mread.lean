/-! THE READER OF RULES -/
section MP9
variable {X : KX} {m : Nat → Nat} {s : MST} {h0 : AH}
/-- where the reader stands: token, its place, its worth, the next place, how many stand open, whether it failed, where -/
abbrev PS : Type := Nat × Nat × Int64 × Nat × Nat × Bool × Nat
abbrev pTk (p : PS) : Nat := p.1
abbrev pAt (p : PS) : Nat := p.2.1
abbrev pW (p : PS) : Int64 := p.2.2.1
abbrev pHr (p : PS) : Nat := p.2.2.2.1
abbrev pOp (p : PS) : Nat := p.2.2.2.2.1
abbrev pBad (p : PS) : Bool := p.2.2.2.2.2.1
abbrev pFt (p : PS) : Nat := p.2.2.2.2.2.2
def uTk (p : PS) (v : Nat) : PS := (v, p.2)
def uAt (p : PS) (v : Nat) : PS := (p.1, v, p.2.2)
def uW (p : PS) (v : Int64) : PS := (p.1, p.2.1, v, p.2.2.2)
def uHr (p : PS) (v : Nat) : PS := (p.1, p.2.1, p.2.2.1, v, p.2.2.2.2)
def uOp (p : PS) (v : Nat) : PS := (p.1, p.2.1, p.2.2.1, p.2.2.2.1, v, p.2.2.2.2.2)
def uBad (p : PS) (v : Bool) : PS := (p.1, p.2.1, p.2.2.1, p.2.2.2.1, p.2.2.2.2.1, v, p.2.2.2.2.2.2)
def uFt (p : PS) (v : Nat) : PS := (p.1, p.2.1, p.2.2.1, p.2.2.2.1, p.2.2.2.2.1, p.2.2.2.2.2.1, v)
def pst (s : MST) (p : PS) : MST := (fun j => if j = 34 then nI (pTk p) else if j = 35 then nI (pAt p) else if j = 37 then nI (pHr p) else if j = 38 then nI (pOp p) else if j = 39 then bI (pBad p) else if j = 40 then (if pBad p = true then nI (pFt p) else s.1 40) else s.1 j, s.2.1, fun j => if j = 36 then pW p else s.2.2.1 j, s.2.2.2)
theorem pst_34 {p : PS} {v : Nat} : si (pst s p) 34 (nI v) = pst s (uTk p v) := by
  unfold si pst
  congr 1
  funext j
  by_cases h : j = 34
  · subst h
    rfl
  · simp only [if_neg h]
    rfl
theorem pst_35 {p : PS} {v : Nat} : si (pst s p) 35 (nI v) = pst s (uAt p v) := by
  unfold si pst
  congr 1
  funext j
  by_cases h : j = 35
  · subst h
    rfl
  · simp only [if_neg h]
    rfl
theorem pst_37 {p : PS} {v : Nat} : si (pst s p) 37 (nI v) = pst s (uHr p v) := by
  unfold si pst
  congr 1
  funext j
  by_cases h : j = 37
  · subst h
    rfl
  · simp only [if_neg h]
    rfl
theorem pst_38 {p : PS} {v : Nat} : si (pst s p) 38 (nI v) = pst s (uOp p v) := by
  unfold si pst
  congr 1
  funext j
  by_cases h : j = 38
  · subst h
    rfl
  · simp only [if_neg h]
    rfl
theorem pst_fail {p : PS} {v : Nat} : si (si (pst s p) 39 (bI true)) 40 (nI v) = pst s (uFt (uBad p true) v) := by
  unfold si pst
  congr 1
  funext j
  by_cases h : j = 40
  · subst h
    rfl
  · by_cases h9 : j = 39
    · subst h9
      rfl
    · simp only [if_neg h, if_neg h9]
      rfl
theorem pst_36 {p : PS} {v : Int64} : sl (pst s p) 36 v = pst s (uW p v) := by
  unfold sl pst
  congr 3
  funext j
  by_cases h : j = 36
  · subst h
    rfl
  · simp only [if_neg h]
/-- the byte at a place, -1 behind the end -/
def byP (s : MST) (F Z i : Nat) : Int32 := if i < Z then s.2.1 1 (F + i) else -1
def failP (p : PS) : PS := if pBad p = true then p else uFt (uBad p true) (pAt p)
def isW (p : PS) (x : Int64) : Bool := !pBad p && decide (pTk p = 1) && decide (pW p = x)
def isS (p : PS) (c : Nat) : Bool := !pBad p && decide (pTk p = 3) && decide (pW p = lN c)
set_option maxRecDepth 4000 in
theorem f_byteAt (hm : MI m) {F Z i : Nat} (h32 : s.1 32 = nI F) (h33 : s.1 33 = nI Z) (hF : F ≤ 800) (hZ : Z ≤ 160) (hi : i ≤ 1000) : Fn X 0 0 0 yX12_byteAt cX12_byteAt 2 (some .int) [.ref (m 65), .int (nI i)] (mh m s h0) (fun rv hv => rv = some (.int (byP s F Z i)) ∧ hv = mh m s h0) := by
  refine fn_of (by decide) (Nat.le_of_ble_eq_true rfl) (fun M hM => ?_)
  refine a_iload_n (pc := 0) dX12_byteAt_0 rfl rfl ?_
  refine a_aload_n (pc := 1) dX12_byteAt_1 rfl rfl ?_
  refine a_getfield (pc := 2) kg_X12_242 dX12_byteAt_2 (m_obj hm) rfl ?_
  refine a_topi (h33) ?_
  refine a_icmp_geN (pc := 5) (tgt := 22) dX12_byteAt_5 (by decide) (by omega) (by omega) (fun c5 => ?_) (fun c5 => ?_)
  · refine a_iconst (pc := 22) dX12_byteAt_22 ic_m1 ?_
    refine a_ret_i (pc := 23) hM rfl (rfl) dX12_byteAt_23 (by omega) (by omega) ?_
    exact ⟨by first | rw [byP, if_pos c5] | rw [byP, if_neg (by omega)], rfl⟩
  · refine a_aload_n (pc := 8) dX12_byteAt_8 rfl rfl ?_
    refine a_getfield (pc := 9) kg_X12_13 dX12_byteAt_9 (m_obj hm) rfl ?_
    refine a_aload_n (pc := 12) dX12_byteAt_12 rfl rfl ?_
    refine a_getfield (pc := 13) kg_X12_245 dX12_byteAt_13 (m_obj hm) rfl ?_
    refine a_topi (h32) ?_
    refine a_iload_n (pc := 16) dX12_byteAt_16 rfl rfl ?_
    refine a_iaddN (pc := 17) dX12_byteAt_17 ?_
    refine a_iaload (pc := 18) dX12_byteAt_18 (m_a1 hm) (_) (rfl) (by omega) (by omega) ?_
    refine a_goto (pc := 19) (tgt := 23) dX12_byteAt_19 (by decide) ?_
    refine a_ret_i (pc := 23) hM rfl (rfl) dX12_byteAt_23 (by omega) (by omega) ?_
    exact ⟨by first | rw [byP, if_pos c5] | rw [byP, if_neg (by omega)], rfl⟩

set_option maxRecDepth 4000 in
theorem f_fail (hm : MI m) (p : PS) : Fn X 0 0 0 yX12_fail cX12_fail 1 none [.ref (m 65)] (mh m (pst s p) h0) (fun rv hv => rv = none ∧ hv = mh m (pst s (failP p)) h0) := by
  refine fn_of (by decide) (Nat.le_of_ble_eq_true rfl) (fun M hM => ?_)
  refine a_aload_n (pc := 0) dX12_fail_0 rfl rfl ?_
  refine a_getfield (pc := 1) kg_X12_278 dX12_fail_1 (m_obj hm) rfl ?_
  refine a_topi ((show _ = bI (pBad p) from rfl)) ?_
  refine a_if_neB (pc := 4) (tgt := 20) dX12_fail_4 (by decide) (fun c4 => ?_) (fun c4 => ?_)
  · refine a_ret_v (pc := 20) hM rfl dX12_fail_20 (by omega) (by omega) ?_
    exact ⟨rfl, by rw [failP, c4]; rfl⟩
  · refine a_aload_n (pc := 7) dX12_fail_7 rfl rfl ?_
    refine a_iconst (pc := 8) dX12_fail_8 ic_1 ?_
    refine a_putfield (pc := 9) kf_X12_278 dX12_fail_9 (m_obj hm) (rfl) (by rfl) (Nat.le_of_ble_eq_true rfl) ?_
    refine a_hp (m_p39 hm) ?_
    refine a_aload_n (pc := 12) dX12_fail_12 rfl rfl ?_
    refine a_aload_n (pc := 13) dX12_fail_13 rfl rfl ?_
    refine a_getfield (pc := 14) kg_X12_254 dX12_fail_14 (m_obj hm) rfl ?_
    refine a_putfield (pc := 17) kf_X12_282 dX12_fail_17 (m_obj hm) (rfl) (by rfl) (Nat.le_of_ble_eq_true rfl) ?_
    refine a_hp (m_p40 hm) ?_
    refine a_hp (show _ = mh m (pst s (uFt (uBad p true) (pAt p))) h0 from congrArg (fun t => mh m t h0) (pst_fail (v := pAt p))) ?_
    refine a_ret_v (pc := 20) hM rfl dX12_fail_20 (by omega) (by omega) ?_
    exact ⟨rfl, by rw [failP, c4]; rfl⟩

set_option maxRecDepth 4000 in
theorem f_isWord (hm : MI m) (p : PS) (hk : pTk p ≤ 4) (x : Int64) : Fn X 0 0 0 yX12_isWord cX12_isWord 3 (some .boolean) [.ref (m 65), .long x] (mh m (pst s p) h0) (fun rv hv => rv = some (.int (bI (isW p x))) ∧ hv = mh m (pst s p) h0) := by
  refine fn_of (by decide) (Nat.le_of_ble_eq_true rfl) (fun M hM => ?_)
  refine a_aload_n (pc := 0) dX12_isWord_0 rfl rfl ?_
  refine a_getfield (pc := 1) kg_X12_278 dX12_isWord_1 (m_obj hm) rfl ?_
  refine a_topi ((show _ = bI (pBad p) from rfl)) ?_
  refine a_if_neB (pc := 4) (tgt := 28) dX12_isWord_4 (by decide) (fun c4 => ?_) (fun c4 => ?_)
  · refine a_iconst (pc := 28) dX12_isWord_28 ic_0 ?_
    refine a_ret_i (pc := 29) hM rfl (by decide +kernel) dX12_isWord_29 (by omega) (by omega) ?_
    exact ⟨by simp [isW, bI, nI, c4], rfl⟩
  · refine a_aload_n (pc := 7) dX12_isWord_7 rfl rfl ?_
    refine a_getfield (pc := 8) kg_X12_257 dX12_isWord_8 (m_obj hm) rfl ?_
    refine a_topi ((show _ = nI (pTk p) from rfl)) ?_
    refine a_iconst (pc := 11) dX12_isWord_11 ic_1 ?_
    refine a_icmp_neN (pc := 12) (tgt := 28) dX12_isWord_12 (by decide) (by omega) (by omega) (fun c12 => ?_) (fun c12 => ?_)
    · refine a_iconst (pc := 28) dX12_isWord_28 ic_0 ?_
      refine a_ret_i (pc := 29) hM rfl (by decide +kernel) dX12_isWord_29 (by omega) (by omega) ?_
      exact ⟨by simp [isW, bI, nI, c4, c12], rfl⟩
    · refine a_aload_n (pc := 15) dX12_isWord_15 rfl rfl ?_
      refine a_getfield (pc := 16) kg_X12_264 dX12_isWord_16 (m_obj hm) rfl ?_
      refine a_topl ((show _ = pW p from rfl)) ?_
      refine a_lload_n (pc := 19) dX12_isWord_19 rfl rfl ?_
      refine a_lif_ne (pc := 20) (tgt := 28) dX12_isWord_20 dX12_isWord_21 (by decide) (fun c21 => ?_) (fun c21 => ?_)
      · refine a_iconst (pc := 28) dX12_isWord_28 ic_0 ?_
        refine a_ret_i (pc := 29) hM rfl (by decide +kernel) dX12_isWord_29 (by omega) (by omega) ?_
        exact ⟨by simp [isW, bI, nI, c4, c12, c21], rfl⟩
      · refine a_iconst (pc := 24) dX12_isWord_24 ic_1 ?_
        refine a_goto (pc := 25) (tgt := 29) dX12_isWord_25 (by decide) ?_
        refine a_ret_i (pc := 29) hM rfl (by decide +kernel) dX12_isWord_29 (by omega) (by omega) ?_
        exact ⟨by simp [isW, bI, nI, c4, c12, c21], rfl⟩

set_option maxRecDepth 4000 in
theorem f_isSign (hm : MI m) (p : PS) (hk : pTk p ≤ 4) {c : Nat} (hc : c ≤ 200) : Fn X 0 0 0 yX12_isSign cX12_isSign 2 (some .boolean) [.ref (m 65), .int (nI c)] (mh m (pst s p) h0) (fun rv hv => rv = some (.int (bI (isS p c))) ∧ hv = mh m (pst s p) h0) := by
  refine fn_of (by decide) (Nat.le_of_ble_eq_true rfl) (fun M hM => ?_)
  refine a_aload_n (pc := 0) dX12_isSign_0 rfl rfl ?_
  refine a_getfield (pc := 1) kg_X12_278 dX12_isSign_1 (m_obj hm) rfl ?_
  refine a_topi ((show _ = bI (pBad p) from rfl)) ?_
  refine a_if_neB (pc := 4) (tgt := 29) dX12_isSign_4 (by decide) (fun c4 => ?_) (fun c4 => ?_)
  · refine a_iconst (pc := 29) dX12_isSign_29 ic_0 ?_
    refine a_ret_i (pc := 30) hM rfl (by decide +kernel) dX12_isSign_30 (by omega) (by omega) ?_
    exact ⟨by simp [isS, bI, nI, c4], rfl⟩
  · refine a_aload_n (pc := 7) dX12_isSign_7 rfl rfl ?_
    refine a_getfield (pc := 8) kg_X12_257 dX12_isSign_8 (m_obj hm) rfl ?_
    refine a_topi ((show _ = nI (pTk p) from rfl)) ?_
    refine a_iconst (pc := 11) dX12_isSign_11 ic_3 ?_
    refine a_icmp_neN (pc := 12) (tgt := 29) dX12_isSign_12 (by decide) (by omega) (by omega) (fun c12 => ?_) (fun c12 => ?_)
    · refine a_iconst (pc := 29) dX12_isSign_29 ic_0 ?_
      refine a_ret_i (pc := 30) hM rfl (by decide +kernel) dX12_isSign_30 (by omega) (by omega) ?_
      exact ⟨by simp [isS, bI, nI, c4, c12], rfl⟩
    · refine a_aload_n (pc := 15) dX12_isSign_15 rfl rfl ?_
      refine a_getfield (pc := 16) kg_X12_264 dX12_isSign_16 (m_obj hm) rfl ?_
      refine a_topl ((show _ = pW p from rfl)) ?_
      refine a_iload_n (pc := 19) dX12_isSign_19 rfl rfl ?_
      refine a_i2lN (pc := 20) dX12_isSign_20 (by omega) ?_
      refine a_lif_ne (pc := 21) (tgt := 29) dX12_isSign_21 dX12_isSign_22 (by decide) (fun c22 => ?_) (fun c22 => ?_)
      · refine a_iconst (pc := 29) dX12_isSign_29 ic_0 ?_
        refine a_ret_i (pc := 30) hM rfl (by decide +kernel) dX12_isSign_30 (by omega) (by omega) ?_
        exact ⟨by simp [isS, bI, nI, c4, c12, c22], rfl⟩
      · refine a_iconst (pc := 25) dX12_isSign_25 ic_1 ?_
        refine a_goto (pc := 26) (tgt := 30) dX12_isSign_26 (by decide) ?_
        refine a_ret_i (pc := 30) hM rfl (by decide +kernel) dX12_isSign_30 (by omega) (by omega) ?_
        exact ⟨by simp [isS, bI, nI, c4, c12, c22], rfl⟩

/-- past blanks -/
def skF (b : Nat → Int32) : Nat → Nat → Nat
  | 0, n => n
  | f + 1, n => if b n = nI 32 ∨ b n = nI 10 then skF b f (n + 1) else n
/-- a word's letters: the place behind it and its worth -/
def leF (b : Nat → Int32) : Nat → Nat → Int64 → Nat → Nat × Int64
  | 0, n, w, _ => (n, w)
  | f + 1, n, w, c => if inR (b n) 97 122 = true then leF b f (n + 1) (if c < 8 then lN 27 * w + (b n).toInt64 - lN 96 else -1) (c + 1) else (n, w)
/-- a number's digits: the place behind it, its worth, how many -/
def diF (b : Nat → Int32) : Nat → Nat → Int64 → Nat → Nat × Int64 × Nat
  | 0, n, w, c => (n, w, c)
  | f + 1, n, w, c => if inR (b n) 48 57 = true then diF b f (n + 1) (if c < 4 then lN 10 * w + (b n).toInt64 - lN 48 else w) (c + 1) else (n, w, c)
def isP (c : Int32) : Bool := decide (c = nI 40 ∨ c = nI 41 ∨ c = nI 59 ∨ c = nI 43 ∨ c = nI 45 ∨ c = nI 42 ∨ c = nI 60 ∨ c = nI 61)
/-- the token at a place that is no blank -/
def tokF (b : Nat → Int32) (Z : Nat) (p : PS) (n : Nat) : PS :=
  if b n < 0 then (0, Z, pW p, n, p.2.2.2.2)
  else if inR (b n) 97 122 = true then (1, n, (leF b (Z - n) n (lN 0) 0).2, (leF b (Z - n) n (lN 0) 0).1, p.2.2.2.2)
  else if inR (b n) 48 57 = true then (if 4 < (diF b (Z - n) n (lN 0) 0).2.2 then 4 else 2, n, (diF b (Z - n) n (lN 0) 0).2.1, (diF b (Z - n) n (lN 0) 0).1, p.2.2.2.2)
  else if isP (b n) = true then (3, n, (b n).toInt64, n + 1, p.2.2.2.2)
  else (4, n, pW p, n, p.2.2.2.2)
def nextF (b : Nat → Int32) (Z : Nat) (p : PS) : PS := tokF b Z p (skF b (Z - pHr p) (pHr p))
set_option maxRecDepth 4000 in
theorem f_next (hm : MI m) (p : PS) {F Z : Nat} (h32 : s.1 32 = nI F) (h33 : s.1 33 = nI Z) (hF : F ≤ 800) (hZ : Z ≤ 160) (hh : pHr p ≤ Z) : Fn X 1 0 0 yX12_next cX12_next 3 none [.ref (m 65)] (mh m (pst s p) h0) (fun rv hv => rv = none ∧ hv = mh m (pst s (nextF (byP s F Z) Z p)) h0) := by
  refine fn_of (by decide) (Nat.le_of_ble_eq_true rfl) (fun M hM => ?_)
  have rest : ∀ n : Nat, n ≤ Z → skF (byP s F Z) (Z - pHr p) (pHr p) = n → AJ X M yX12_next cX12_next 3 none 39 [(0, .ref (m 65))] [] (mh m (pst s (uHr p n)) h0) 0 0 := by
    intro n hnZ hsk
    refine a_aload_n (pc := 39) dX12_next_39 rfl rfl ?_
    refine a_aload_n (pc := 40) dX12_next_40 rfl rfl ?_
    refine a_getfield (pc := 41) kg_X12_248 dX12_next_41 (m_obj hm) rfl ?_
    refine a_topi ((show _ = nI (n) from rfl)) ?_
    refine a_putfield (pc := 44) kf_X12_254 dX12_next_44 (m_obj hm) (rfl) (by rfl) (Nat.le_of_ble_eq_true rfl) ?_
    refine a_hp (m_p35 hm) ?_
    refine a_hp (show _ = mh m (pst s (uAt (uHr p n) n)) h0 from congrArg (fun t => mh m t h0) (pst_35 (v := n))) ?_
    refine a_aload_n (pc := 47) dX12_next_47 rfl rfl ?_
    refine a_aload_n (pc := 48) dX12_next_48 rfl rfl ?_
    refine a_getfield (pc := 49) kg_X12_248 dX12_next_49 (m_obj hm) rfl ?_
    refine a_topi ((show _ = nI (n) from rfl)) ?_
    refine a_callV (pc := 52) km_X12_251 dX12_next_52 (f_byteAt (s := pst s (uAt (uHr p n) n)) (F := F) (Z := Z) (i := n) hm h32 h33 hF hZ (by omega)) rfl rfl (krecv_of (ci := 12) rfl (m_obj hm)) (rok_of hM (by decide) (by decide) (by omega) (by omega)) (Nat.le_of_ble_eq_true rfl) (fun r52 h52 hp52 => ?_)
    obtain ⟨rfl, rfl⟩ := hp52
    refine a_topi (show _ = byP s F Z (n) from rfl) ?_
    refine a_istore_n (pc := 55) dX12_next_55 rfl (by decide) rfl ?_
    refine a_aload_n (pc := 56) dX12_next_56 rfl rfl ?_
    refine a_iconst (pc := 57) dX12_next_57 ic_4 ?_
    refine a_putfield (pc := 58) kf_X12_257 dX12_next_58 (m_obj hm) (rfl) (by rfl) (Nat.le_of_ble_eq_true rfl) ?_
    refine a_hp (m_p34 hm) ?_
    refine a_hp (show _ = mh m (pst s (uTk (uAt (uHr p n) n) 4)) h0 from congrArg (fun t => mh m t h0) (pst_34 (v := 4))) ?_
    refine a_iload_n (pc := 61) dX12_next_61 rfl rfl ?_
    refine a_if_ge (pc := 62) (tgt := 81) dX12_next_62 (by decide) (fun c62 => ?_) (fun c62 => ?_)
    · have cneg : ¬ byP s F Z n < 0 := Int32.not_lt.mpr c62
      refine a_iload_n (pc := 81) dX12_next_81 rfl rfl ?_
      refine a_i2l (pc := 82) dX12_next_82 ?_
      refine a_ldc2 (pc := 83) kc_X12_260 dX12_next_83 ?_
      refine a_topl (z := lN 97) rfl ?_
      refine a_ldc2 (pc := 86) kc_X12_262 dX12_next_86 ?_
      refine a_topl (z := lN 122) rfl ?_
      refine a_callS (pc := 89) km_X12_142 dX12_next_89 (f_in _ _ _) rfl rfl (rok_of hM (by decide) (by decide) (by omega) (by omega)) (Nat.le_of_ble_eq_true rfl) (fun r89 h89 hp89 => ?_)
      obtain ⟨rfl, rfl⟩ := hp89
      refine a_topi (congrArg bI (in_rng3 (x := byP s F Z (n)) (a := 97) (b := 122) (by decide) (by decide))) ?_
      refine a_if_eqB (pc := 92) (tgt := 185) dX12_next_92 (by decide) (fun c92 => ?_) (fun c92 => ?_)
      · have clet : ¬ inR (byP s F Z n) 97 122 = true := fun z => absurd (z.symm.trans (show inR (byP s F Z n) 97 122 = false from c92)) (by decide)
        refine a_iload_n (pc := 185) dX12_next_185 rfl rfl ?_
        refine a_i2l (pc := 186) dX12_next_186 ?_
        refine a_ldc2 (pc := 187) kc_X12_272 dX12_next_187 ?_
        refine a_topl (z := lN 48) rfl ?_
        refine a_ldc2 (pc := 190) kc_X12_274 dX12_next_190 ?_
        refine a_topl (z := lN 57) rfl ?_
        refine a_callS (pc := 193) km_X12_142 dX12_next_193 (f_in _ _ _) rfl rfl (rok_of hM (by decide) (by decide) (by omega) (by omega)) (Nat.le_of_ble_eq_true rfl) (fun r193 h193 hp193 => ?_)
        obtain ⟨rfl, rfl⟩ := hp193
        refine a_topi (congrArg bI (in_rng3 (x := byP s F Z (n)) (a := 48) (b := 57) (by decide) (by decide))) ?_
        refine a_if_eqB (pc := 196) (tgt := 303) dX12_next_196 (by decide) (fun c196 => ?_) (fun c196 => ?_)
        · have cdig : ¬ inR (byP s F Z n) 48 57 = true := fun z => absurd (z.symm.trans (show inR (byP s F Z n) 48 57 = false from c196)) (by decide)
          refine a_iload_n (pc := 303) dX12_next_303 rfl rfl ?_
          refine a_bipush (pc := 304) dX12_next_304 ib_40 ?_
          refine a_icmp_eq (pc := 306) (tgt := 351) dX12_next_306 (by decide) (fun c306 => ?_) (fun c306 => ?_)
          · have cp : isP (byP s F Z n) = true := decide_eq_true (Or.inl c306)
            refine a_aload_n (pc := 351) dX12_next_351 rfl rfl ?_
            refine a_iconst (pc := 352) dX12_next_352 ic_3 ?_
            refine a_putfield (pc := 353) kf_X12_257 dX12_next_353 (m_obj hm) (rfl) (by rfl) (Nat.le_of_ble_eq_true rfl) ?_
            refine a_hp (m_p34 hm) ?_
            refine a_hp (show _ = mh m (pst s (3, n, pW p, n, p.2.2.2.2)) h0 from congrArg (fun t => mh m t h0) (pst_34 (v := 3))) ?_
            refine a_aload_n (pc := 356) dX12_next_356 rfl rfl ?_
            refine a_iload_n (pc := 357) dX12_next_357 rfl rfl ?_
            refine a_i2l (pc := 358) dX12_next_358 ?_
            refine a_putfield (pc := 359) kf_X12_264 dX12_next_359 (m_obj hm) (rfl) (by rfl) (Nat.le_of_ble_eq_true rfl) ?_
            refine a_hp (m_p36 hm) ?_
            refine a_hp (show _ = mh m (pst s (3, n, (byP s F Z n).toInt64, n, p.2.2.2.2)) h0 from congrArg (fun t => mh m t h0) (pst_36 (v := (byP s F Z n).toInt64))) ?_
            refine a_aload_n (pc := 362) dX12_next_362 rfl rfl ?_
            refine a_dup (pc := 363) dX12_next_363 rfl ?_
            refine a_getfield (pc := 364) kg_X12_248 dX12_next_364 (m_obj hm) rfl ?_
            refine a_topi ((show _ = nI (n) from rfl)) ?_
            refine a_iconst (pc := 367) dX12_next_367 ic_1 ?_
            refine a_iaddN (pc := 368) dX12_next_368 ?_
            refine a_putfield (pc := 369) kf_X12_248 dX12_next_369 (m_obj hm) (rfl) (by rfl) (Nat.le_of_ble_eq_true rfl) ?_
            refine a_hp (m_p37 hm) ?_
            refine a_hp (show _ = mh m (pst s (3, n, (byP s F Z n).toInt64, n + 1, p.2.2.2.2)) h0 from congrArg (fun t => mh m t h0) (pst_37 (v := n + 1))) ?_
            refine a_ret_v (pc := 372) hM rfl dX12_next_372 (by omega) (by omega) ?_
            first | exact ⟨rfl, congrArg (fun t => mh m (pst s t) h0) (by (rw [nextF, hsk, tokF, if_neg cneg, if_neg clet, if_neg cdig, if_pos cp]) <;> rfl)⟩ | exact ⟨rfl, congrArg (fun t => mh m (pst s t) h0) (by (rw [nextF, hsk, tokF, if_neg cneg, if_neg clet, if_neg cdig, if_neg cp]) <;> rfl)⟩ | exact ⟨rfl, congrArg (fun t => mh m (pst s t) h0) (by (rw [nextF, hsk, tokF, if_pos cneg]) <;> rfl)⟩
          · refine a_iload_n (pc := 309) dX12_next_309 rfl rfl ?_
            refine a_bipush (pc := 310) dX12_next_310 ib_41 ?_
            refine a_icmp_eq (pc := 312) (tgt := 351) dX12_next_312 (by decide) (fun c312 => ?_) (fun c312 => ?_)
            · have cp : isP (byP s F Z n) = true := decide_eq_true (Or.inr (Or.inl c312))
              refine a_aload_n (pc := 351) dX12_next_351 rfl rfl ?_
              refine a_iconst (pc := 352) dX12_next_352 ic_3 ?_
              refine a_putfield (pc := 353) kf_X12_257 dX12_next_353 (m_obj hm) (rfl) (by rfl) (Nat.le_of_ble_eq_true rfl) ?_
              refine a_hp (m_p34 hm) ?_
              refine a_hp (show _ = mh m (pst s (3, n, pW p, n, p.2.2.2.2)) h0 from congrArg (fun t => mh m t h0) (pst_34 (v := 3))) ?_
              refine a_aload_n (pc := 356) dX12_next_356 rfl rfl ?_
              refine a_iload_n (pc := 357) dX12_next_357 rfl rfl ?_
              refine a_i2l (pc := 358) dX12_next_358 ?_
              refine a_putfield (pc := 359) kf_X12_264 dX12_next_359 (m_obj hm) (rfl) (by rfl) (Nat.le_of_ble_eq_true rfl) ?_
              refine a_hp (m_p36 hm) ?_
              refine a_hp (show _ = mh m (pst s (3, n, (byP s F Z n).toInt64, n, p.2.2.2.2)) h0 from congrArg (fun t => mh m t h0) (pst_36 (v := (byP s F Z n).toInt64))) ?_
              refine a_aload_n (pc := 362) dX12_next_362 rfl rfl ?_
              refine a_dup (pc := 363) dX12_next_363 rfl ?_
              refine a_getfield (pc := 364) kg_X12_248 dX12_next_364 (m_obj hm) rfl ?_
              refine a_topi ((show _ = nI (n) from rfl)) ?_
              refine a_iconst (pc := 367) dX12_next_367 ic_1 ?_
              refine a_iaddN (pc := 368) dX12_next_368 ?_
              refine a_putfield (pc := 369) kf_X12_248 dX12_next_369 (m_obj hm) (rfl) (by rfl) (Nat.le_of_ble_eq_true rfl) ?_
              refine a_hp (m_p37 hm) ?_
              refine a_hp (show _ = mh m (pst s (3, n, (byP s F Z n).toInt64, n + 1, p.2.2.2.2)) h0 from congrArg (fun t => mh m t h0) (pst_37 (v := n + 1))) ?_
              refine a_ret_v (pc := 372) hM rfl dX12_next_372 (by omega) (by omega) ?_
              first | exact ⟨rfl, congrArg (fun t => mh m (pst s t) h0) (by (rw [nextF, hsk, tokF, if_neg cneg, if_neg clet, if_neg cdig, if_pos cp]) <;> rfl)⟩ | exact ⟨rfl, congrArg (fun t => mh m (pst s t) h0) (by (rw [nextF, hsk, tokF, if_neg cneg, if_neg clet, if_neg cdig, if_neg cp]) <;> rfl)⟩ | exact ⟨rfl, congrArg (fun t => mh m (pst s t) h0) (by (rw [nextF, hsk, tokF, if_pos cneg]) <;> rfl)⟩
            · refine a_iload_n (pc := 315) dX12_next_315 rfl rfl ?_
              refine a_bipush (pc := 316) dX12_next_316 ib_59 ?_
              refine a_icmp_eq (pc := 318) (tgt := 351) dX12_next_318 (by decide) (fun c318 => ?_) (fun c318 => ?_)
              · have cp : isP (byP s F Z n) = true := decide_eq_true (Or.inr (Or.inr (Or.inl c318)))
                refine a_aload_n (pc := 351) dX12_next_351 rfl rfl ?_
                refine a_iconst (pc := 352) dX12_next_352 ic_3 ?_
                refine a_putfield (pc := 353) kf_X12_257 dX12_next_353 (m_obj hm) (rfl) (by rfl) (Nat.le_of_ble_eq_true rfl) ?_
                refine a_hp (m_p34 hm) ?_
                refine a_hp (show _ = mh m (pst s (3, n, pW p, n, p.2.2.2.2)) h0 from congrArg (fun t => mh m t h0) (pst_34 (v := 3))) ?_
                refine a_aload_n (pc := 356) dX12_next_356 rfl rfl ?_
                refine a_iload_n (pc := 357) dX12_next_357 rfl rfl ?_
                refine a_i2l (pc := 358) dX12_next_358 ?_
                refine a_putfield (pc := 359) kf_X12_264 dX12_next_359 (m_obj hm) (rfl) (by rfl) (Nat.le_of_ble_eq_true rfl) ?_
                refine a_hp (m_p36 hm) ?_
                refine a_hp (show _ = mh m (pst s (3, n, (byP s F Z n).toInt64, n, p.2.2.2.2)) h0 from congrArg (fun t => mh m t h0) (pst_36 (v := (byP s F Z n).toInt64))) ?_
                refine a_aload_n (pc := 362) dX12_next_362 rfl rfl ?_
                refine a_dup (pc := 363) dX12_next_363 rfl ?_
                refine a_getfield (pc := 364) kg_X12_248 dX12_next_364 (m_obj hm) rfl ?_
                refine a_topi ((show _ = nI (n) from rfl)) ?_
                refine a_iconst (pc := 367) dX12_next_367 ic_1 ?_
                refine a_iaddN (pc := 368) dX12_next_368 ?_
                refine a_putfield (pc := 369) kf_X12_248 dX12_next_369 (m_obj hm) (rfl) (by rfl) (Nat.le_of_ble_eq_true rfl) ?_
                refine a_hp (m_p37 hm) ?_
                refine a_hp (show _ = mh m (pst s (3, n, (byP s F Z n).toInt64, n + 1, p.2.2.2.2)) h0 from congrArg (fun t => mh m t h0) (pst_37 (v := n + 1))) ?_
                refine a_ret_v (pc := 372) hM rfl dX12_next_372 (by omega) (by omega) ?_
                first | exact ⟨rfl, congrArg (fun t => mh m (pst s t) h0) (by (rw [nextF, hsk, tokF, if_neg cneg, if_neg clet, if_neg cdig, if_pos cp]) <;> rfl)⟩ | exact ⟨rfl, congrArg (fun t => mh m (pst s t) h0) (by (rw [nextF, hsk, tokF, if_neg cneg, if_neg clet, if_neg cdig, if_neg cp]) <;> rfl)⟩ | exact ⟨rfl, congrArg (fun t => mh m (pst s t) h0) (by (rw [nextF, hsk, tokF, if_pos cneg]) <;> rfl)⟩
              · refine a_iload_n (pc := 321) dX12_next_321 rfl rfl ?_
                refine a_bipush (pc := 322) dX12_next_322 ib_43 ?_
                refine a_icmp_eq (pc := 324) (tgt := 351) dX12_next_324 (by decide) (fun c324 => ?_) (fun c324 => ?_)
                · have cp : isP (byP s F Z n) = true := decide_eq_true (Or.inr (Or.inr (Or.inr (Or.inl c324))))
                  refine a_aload_n (pc := 351) dX12_next_351 rfl rfl ?_
                  refine a_iconst (pc := 352) dX12_next_352 ic_3 ?_
                  refine a_putfield (pc := 353) kf_X12_257 dX12_next_353 (m_obj hm) (rfl) (by rfl) (Nat.le_of_ble_eq_true rfl) ?_
                  refine a_hp (m_p34 hm) ?_
                  refine a_hp (show _ = mh m (pst s (3, n, pW p, n, p.2.2.2.2)) h0 from congrArg (fun t => mh m t h0) (pst_34 (v := 3))) ?_
                  refine a_aload_n (pc := 356) dX12_next_356 rfl rfl ?_
                  refine a_iload_n (pc := 357) dX12_next_357 rfl rfl ?_
                  refine a_i2l (pc := 358) dX12_next_358 ?_
                  refine a_putfield (pc := 359) kf_X12_264 dX12_next_359 (m_obj hm) (rfl) (by rfl) (Nat.le_of_ble_eq_true rfl) ?_
                  refine a_hp (m_p36 hm) ?_
                  refine a_hp (show _ = mh m (pst s (3, n, (byP s F Z n).toInt64, n, p.2.2.2.2)) h0 from congrArg (fun t => mh m t h0) (pst_36 (v := (byP s F Z n).toInt64))) ?_
                  refine a_aload_n (pc := 362) dX12_next_362 rfl rfl ?_
                  refine a_dup (pc := 363) dX12_next_363 rfl ?_
                  refine a_getfield (pc := 364) kg_X12_248 dX12_next_364 (m_obj hm) rfl ?_
                  refine a_topi ((show _ = nI (n) from rfl)) ?_
                  refine a_iconst (pc := 367) dX12_next_367 ic_1 ?_
                  refine a_iaddN (pc := 368) dX12_next_368 ?_
                  refine a_putfield (pc := 369) kf_X12_248 dX12_next_369 (m_obj hm) (rfl) (by rfl) (Nat.le_of_ble_eq_true rfl) ?_
                  refine a_hp (m_p37 hm) ?_
                  refine a_hp (show _ = mh m (pst s (3, n, (byP s F Z n).toInt64, n + 1, p.2.2.2.2)) h0 from congrArg (fun t => mh m t h0) (pst_37 (v := n + 1))) ?_
                  refine a_ret_v (pc := 372) hM rfl dX12_next_372 (by omega) (by omega) ?_
                  first | exact ⟨rfl, congrArg (fun t => mh m (pst s t) h0) (by (rw [nextF, hsk, tokF, if_neg cneg, if_neg clet, if_neg cdig, if_pos cp]) <;> rfl)⟩ | exact ⟨rfl, congrArg (fun t => mh m (pst s t) h0) (by (rw [nextF, hsk, tokF, if_neg cneg, if_neg clet, if_neg cdig, if_neg cp]) <;> rfl)⟩ | exact ⟨rfl, congrArg (fun t => mh m (pst s t) h0) (by (rw [nextF, hsk, tokF, if_pos cneg]) <;> rfl)⟩
                · refine a_iload_n (pc := 327) dX12_next_327 rfl rfl ?_
                  refine a_bipush (pc := 328) dX12_next_328 ib_45 ?_
                  refine a_icmp_eq (pc := 330) (tgt := 351) dX12_next_330 (by decide) (fun c330 => ?_) (fun c330 => ?_)
                  · have cp : isP (byP s F Z n) = true := decide_eq_true (Or.inr (Or.inr (Or.inr (Or.inr (Or.inl c330)))))
                    refine a_aload_n (pc := 351) dX12_next_351 rfl rfl ?_
                    refine a_iconst (pc := 352) dX12_next_352 ic_3 ?_
                    refine a_putfield (pc := 353) kf_X12_257 dX12_next_353 (m_obj hm) (rfl) (by rfl) (Nat.le_of_ble_eq_true rfl) ?_
                    refine a_hp (m_p34 hm) ?_
                    refine a_hp (show _ = mh m (pst s (3, n, pW p, n, p.2.2.2.2)) h0 from congrArg (fun t => mh m t h0) (pst_34 (v := 3))) ?_
                    refine a_aload_n (pc := 356) dX12_next_356 rfl rfl ?_
                    refine a_iload_n (pc := 357) dX12_next_357 rfl rfl ?_
                    refine a_i2l (pc := 358) dX12_next_358 ?_
                    refine a_putfield (pc := 359) kf_X12_264 dX12_next_359 (m_obj hm) (rfl) (by rfl) (Nat.le_of_ble_eq_true rfl) ?_
                    refine a_hp (m_p36 hm) ?_
                    refine a_hp (show _ = mh m (pst s (3, n, (byP s F Z n).toInt64, n, p.2.2.2.2)) h0 from congrArg (fun t => mh m t h0) (pst_36 (v := (byP s F Z n).toInt64))) ?_
                    refine a_aload_n (pc := 362) dX12_next_362 rfl rfl ?_
                    refine a_dup (pc := 363) dX12_next_363 rfl ?_
                    refine a_getfield (pc := 364) kg_X12_248 dX12_next_364 (m_obj hm) rfl ?_
                    refine a_topi ((show _ = nI (n) from rfl)) ?_
                    refine a_iconst (pc := 367) dX12_next_367 ic_1 ?_
                    refine a_iaddN (pc := 368) dX12_next_368 ?_
                    refine a_putfield (pc := 369) kf_X12_248 dX12_next_369 (m_obj hm) (rfl) (by rfl) (Nat.le_of_ble_eq_true rfl) ?_
                    refine a_hp (m_p37 hm) ?_
                    refine a_hp (show _ = mh m (pst s (3, n, (byP s F Z n).toInt64, n + 1, p.2.2.2.2)) h0 from congrArg (fun t => mh m t h0) (pst_37 (v := n + 1))) ?_
                    refine a_ret_v (pc := 372) hM rfl dX12_next_372 (by omega) (by omega) ?_
                    first | exact ⟨rfl, congrArg (fun t => mh m (pst s t) h0) (by (rw [nextF, hsk, tokF, if_neg cneg, if_neg clet, if_neg cdig, if_pos cp]) <;> rfl)⟩ | exact ⟨rfl, congrArg (fun t => mh m (pst s t) h0) (by (rw [nextF, hsk, tokF, if_neg cneg, if_neg clet, if_neg cdig, if_neg cp]) <;> rfl)⟩ | exact ⟨rfl, congrArg (fun t => mh m (pst s t) h0) (by (rw [nextF, hsk, tokF, if_pos cneg]) <;> rfl)⟩
                  · refine a_iload_n (pc := 333) dX12_next_333 rfl rfl ?_
                    refine a_bipush (pc := 334) dX12_next_334 ib_42 ?_
                    refine a_icmp_eq (pc := 336) (tgt := 351) dX12_next_336 (by decide) (fun c336 => ?_) (fun c336 => ?_)
                    · have cp : isP (byP s F Z n) = true := decide_eq_true (Or.inr (Or.inr (Or.inr (Or.inr (Or.inr (Or.inl c336))))))
                      refine a_aload_n (pc := 351) dX12_next_351 rfl rfl ?_
                      refine a_iconst (pc := 352) dX12_next_352 ic_3 ?_
                      refine a_putfield (pc := 353) kf_X12_257 dX12_next_353 (m_obj hm) (rfl) (by rfl) (Nat.le_of_ble_eq_true rfl) ?_
                      refine a_hp (m_p34 hm) ?_
                      refine a_hp (show _ = mh m (pst s (3, n, pW p, n, p.2.2.2.2)) h0 from congrArg (fun t => mh m t h0) (pst_34 (v := 3))) ?_
                      refine a_aload_n (pc := 356) dX12_next_356 rfl rfl ?_
                      refine a_iload_n (pc := 357) dX12_next_357 rfl rfl ?_
                      refine a_i2l (pc := 358) dX12_next_358 ?_
                      refine a_putfield (pc := 359) kf_X12_264 dX12_next_359 (m_obj hm) (rfl) (by rfl) (Nat.le_of_ble_eq_true rfl) ?_
                      refine a_hp (m_p36 hm) ?_
                      refine a_hp (show _ = mh m (pst s (3, n, (byP s F Z n).toInt64, n, p.2.2.2.2)) h0 from congrArg (fun t => mh m t h0) (pst_36 (v := (byP s F Z n).toInt64))) ?_
                      refine a_aload_n (pc := 362) dX12_next_362 rfl rfl ?_
                      refine a_dup (pc := 363) dX12_next_363 rfl ?_
                      refine a_getfield (pc := 364) kg_X12_248 dX12_next_364 (m_obj hm) rfl ?_
                      refine a_topi ((show _ = nI (n) from rfl)) ?_
                      refine a_iconst (pc := 367) dX12_next_367 ic_1 ?_
                      refine a_iaddN (pc := 368) dX12_next_368 ?_
                      refine a_putfield (pc := 369) kf_X12_248 dX12_next_369 (m_obj hm) (rfl) (by rfl) (Nat.le_of_ble_eq_true rfl) ?_
                      refine a_hp (m_p37 hm) ?_
                      refine a_hp (show _ = mh m (pst s (3, n, (byP s F Z n).toInt64, n + 1, p.2.2.2.2)) h0 from congrArg (fun t => mh m t h0) (pst_37 (v := n + 1))) ?_
                      refine a_ret_v (pc := 372) hM rfl dX12_next_372 (by omega) (by omega) ?_
                      first | exact ⟨rfl, congrArg (fun t => mh m (pst s t) h0) (by (rw [nextF, hsk, tokF, if_neg cneg, if_neg clet, if_neg cdig, if_pos cp]) <;> rfl)⟩ | exact ⟨rfl, congrArg (fun t => mh m (pst s t) h0) (by (rw [nextF, hsk, tokF, if_neg cneg, if_neg clet, if_neg cdig, if_neg cp]) <;> rfl)⟩ | exact ⟨rfl, congrArg (fun t => mh m (pst s t) h0) (by (rw [nextF, hsk, tokF, if_pos cneg]) <;> rfl)⟩
                    · refine a_iload_n (pc := 339) dX12_next_339 rfl rfl ?_
                      refine a_bipush (pc := 340) dX12_next_340 ib_60 ?_
                      refine a_icmp_eq (pc := 342) (tgt := 351) dX12_next_342 (by decide) (fun c342 => ?_) (fun c342 => ?_)
                      · have cp : isP (byP s F Z n) = true := decide_eq_true (Or.inr (Or.inr (Or.inr (Or.inr (Or.inr (Or.inr (Or.inl c342)))))))
                        refine a_aload_n (pc := 351) dX12_next_351 rfl rfl ?_
                        refine a_iconst (pc := 352) dX12_next_352 ic_3 ?_
                        refine a_putfield (pc := 353) kf_X12_257 dX12_next_353 (m_obj hm) (rfl) (by rfl) (Nat.le_of_ble_eq_true rfl) ?_
                        refine a_hp (m_p34 hm) ?_
                        refine a_hp (show _ = mh m (pst s (3, n, pW p, n, p.2.2.2.2)) h0 from congrArg (fun t => mh m t h0) (pst_34 (v := 3))) ?_
                        refine a_aload_n (pc := 356) dX12_next_356 rfl rfl ?_
                        refine a_iload_n (pc := 357) dX12_next_357 rfl rfl ?_
                        refine a_i2l (pc := 358) dX12_next_358 ?_
                        refine a_putfield (pc := 359) kf_X12_264 dX12_next_359 (m_obj hm) (rfl) (by rfl) (Nat.le_of_ble_eq_true rfl) ?_
                        refine a_hp (m_p36 hm) ?_
                        refine a_hp (show _ = mh m (pst s (3, n, (byP s F Z n).toInt64, n, p.2.2.2.2)) h0 from congrArg (fun t => mh m t h0) (pst_36 (v := (byP s F Z n).toInt64))) ?_
                        refine a_aload_n (pc := 362) dX12_next_362 rfl rfl ?_
                        refine a_dup (pc := 363) dX12_next_363 rfl ?_
                        refine a_getfield (pc := 364) kg_X12_248 dX12_next_364 (m_obj hm) rfl ?_
                        refine a_topi ((show _ = nI (n) from rfl)) ?_
                        refine a_iconst (pc := 367) dX12_next_367 ic_1 ?_
                        refine a_iaddN (pc := 368) dX12_next_368 ?_
                        refine a_putfield (pc := 369) kf_X12_248 dX12_next_369 (m_obj hm) (rfl) (by rfl) (Nat.le_of_ble_eq_true rfl) ?_
                        refine a_hp (m_p37 hm) ?_
                        refine a_hp (show _ = mh m (pst s (3, n, (byP s F Z n).toInt64, n + 1, p.2.2.2.2)) h0 from congrArg (fun t => mh m t h0) (pst_37 (v := n + 1))) ?_
                        refine a_ret_v (pc := 372) hM rfl dX12_next_372 (by omega) (by omega) ?_
                        first | exact ⟨rfl, congrArg (fun t => mh m (pst s t) h0) (by (rw [nextF, hsk, tokF, if_neg cneg, if_neg clet, if_neg cdig, if_pos cp]) <;> rfl)⟩ | exact ⟨rfl, congrArg (fun t => mh m (pst s t) h0) (by (rw [nextF, hsk, tokF, if_neg cneg, if_neg clet, if_neg cdig, if_neg cp]) <;> rfl)⟩ | exact ⟨rfl, congrArg (fun t => mh m (pst s t) h0) (by (rw [nextF, hsk, tokF, if_pos cneg]) <;> rfl)⟩
                      · refine a_iload_n (pc := 345) dX12_next_345 rfl rfl ?_
                        refine a_bipush (pc := 346) dX12_next_346 ib_61 ?_
                        refine a_icmp_ne (pc := 348) (tgt := 372) dX12_next_348 (by decide) (fun c348 => ?_) (fun c348 => ?_)
                        · have cp : ¬ isP (byP s F Z n) = true := fun z => (of_decide_eq_true z).elim c306 fun z => z.elim c312 fun z => z.elim c318 fun z => z.elim c324 fun z => z.elim c330 fun z => z.elim c336 fun z => z.elim c342 c348
                          refine a_ret_v (pc := 372) hM rfl dX12_next_372 (by omega) (by omega) ?_
                          first | exact ⟨rfl, congrArg (fun t => mh m (pst s t) h0) (by (rw [nextF, hsk, tokF, if_neg cneg, if_neg clet, if_neg cdig, if_pos cp]) <;> rfl)⟩ | exact ⟨rfl, congrArg (fun t => mh m (pst s t) h0) (by (rw [nextF, hsk, tokF, if_neg cneg, if_neg clet, if_neg cdig, if_neg cp]) <;> rfl)⟩ | exact ⟨rfl, congrArg (fun t => mh m (pst s t) h0) (by (rw [nextF, hsk, tokF, if_pos cneg]) <;> rfl)⟩
                        · have cp : isP (byP s F Z n) = true := decide_eq_true (Or.inr (Or.inr (Or.inr (Or.inr (Or.inr (Or.inr (Or.inr (c348))))))))
                          refine a_aload_n (pc := 351) dX12_next_351 rfl rfl ?_
                          refine a_iconst (pc := 352) dX12_next_352 ic_3 ?_
                          refine a_putfield (pc := 353) kf_X12_257 dX12_next_353 (m_obj hm) (rfl) (by rfl) (Nat.le_of_ble_eq_true rfl) ?_
                          refine a_hp (m_p34 hm) ?_
                          refine a_hp (show _ = mh m (pst s (3, n, pW p, n, p.2.2.2.2)) h0 from congrArg (fun t => mh m t h0) (pst_34 (v := 3))) ?_
                          refine a_aload_n (pc := 356) dX12_next_356 rfl rfl ?_
                          refine a_iload_n (pc := 357) dX12_next_357 rfl rfl ?_
                          refine a_i2l (pc := 358) dX12_next_358 ?_
                          refine a_putfield (pc := 359) kf_X12_264 dX12_next_359 (m_obj hm) (rfl) (by rfl) (Nat.le_of_ble_eq_true rfl) ?_
                          refine a_hp (m_p36 hm) ?_
                          refine a_hp (show _ = mh m (pst s (3, n, (byP s F Z n).toInt64, n, p.2.2.2.2)) h0 from congrArg (fun t => mh m t h0) (pst_36 (v := (byP s F Z n).toInt64))) ?_
                          refine a_aload_n (pc := 362) dX12_next_362 rfl rfl ?_
                          refine a_dup (pc := 363) dX12_next_363 rfl ?_
                          refine a_getfield (pc := 364) kg_X12_248 dX12_next_364 (m_obj hm) rfl ?_
                          refine a_topi ((show _ = nI (n) from rfl)) ?_
                          refine a_iconst (pc := 367) dX12_next_367 ic_1 ?_
                          refine a_iaddN (pc := 368) dX12_next_368 ?_
                          refine a_putfield (pc := 369) kf_X12_248 dX12_next_369 (m_obj hm) (rfl) (by rfl) (Nat.le_of_ble_eq_true rfl) ?_
                          refine a_hp (m_p37 hm) ?_
                          refine a_hp (show _ = mh m (pst s (3, n, (byP s F Z n).toInt64, n + 1, p.2.2.2.2)) h0 from congrArg (fun t => mh m t h0) (pst_37 (v := n + 1))) ?_
                          refine a_ret_v (pc := 372) hM rfl dX12_next_372 (by omega) (by omega) ?_
                          first | exact ⟨rfl, congrArg (fun t => mh m (pst s t) h0) (by (rw [nextF, hsk, tokF, if_neg cneg, if_neg clet, if_neg cdig, if_pos cp]) <;> rfl)⟩ | exact ⟨rfl, congrArg (fun t => mh m (pst s t) h0) (by (rw [nextF, hsk, tokF, if_neg cneg, if_neg clet, if_neg cdig, if_neg cp]) <;> rfl)⟩ | exact ⟨rfl, congrArg (fun t => mh m (pst s t) h0) (by (rw [nextF, hsk, tokF, if_pos cneg]) <;> rfl)⟩
        · have cdig : inR (byP s F Z n) 48 57 = true := c196
          refine a_aload_n (pc := 199) dX12_next_199 rfl rfl ?_
          refine a_iconst (pc := 200) dX12_next_200 ic_2 ?_
          refine a_putfield (pc := 201) kf_X12_257 dX12_next_201 (m_obj hm) (rfl) (by rfl) (Nat.le_of_ble_eq_true rfl) ?_
          refine a_hp (m_p34 hm) ?_
          refine a_hp (show _ = mh m (pst s (2, n, pW p, n, p.2.2.2.2)) h0 from congrArg (fun t => mh m t h0) (pst_34 (v := 2))) ?_
          refine a_aload_n (pc := 204) dX12_next_204 rfl rfl ?_
          refine a_lconst (pc := 205) (v := lN 0) dX12_next_205 rfl ?_
          refine a_putfield (pc := 206) kf_X12_264 dX12_next_206 (m_obj hm) (rfl) (by rfl) (Nat.le_of_ble_eq_true rfl) ?_
          refine a_hp (m_p36 hm) ?_
          refine a_hp (show _ = mh m (pst s (2, n, lN 0, n, p.2.2.2.2)) h0 from congrArg (fun t => mh m t h0) (pst_36 (v := lN 0))) ?_
          refine a_iconst (pc := 209) dX12_next_209 ic_0 ?_
          refine a_istore_n (pc := 210) dX12_next_210 rfl (by decide) rfl ?_
          have digits : ∀ (f k : Nat) (w : Int64) (c : Nat), f + k = Z → n ≤ k → c + n = k → diF (byP s F Z) (Z - n) n (lN 0) 0 = diF (byP s F Z) f k w c → AJ X M yX12_next cX12_next 3 none 211 [(0, .ref (m 65)), (2, .int (nI c))] [] (mh m (pst s ((2, n, w, k, p.2.2.2.2))) h0) 0 0 := by
            intro f
            induction f with
            | zero =>
              intro k w c hk hnk hck hs
              have hb : inR (byP s F Z k) 48 57 = false := by rw [show byP s F Z k = -1 from if_neg (by omega)]; decide
              refine a_aload_n (pc := 211) dX12_next_211 rfl rfl ?_
              refine a_aload_n (pc := 212) dX12_next_212 rfl rfl ?_
              refine a_getfield (pc := 213) kg_X12_248 dX12_next_213 (m_obj hm) rfl ?_
              refine a_topi ((show _ = nI (k) from rfl)) ?_
              refine a_callV (pc := 216) km_X12_251 dX12_next_216 (f_byteAt (s := pst s ((2, n, w, k, p.2.2.2.2))) (F := F) (Z := Z) (i := k) hm h32 h33 hF hZ (by omega)) rfl rfl (krecv_of (ci := 12) rfl (m_obj hm)) (rok_of hM (by decide) (by decide) (by omega) (by omega)) (Nat.le_of_ble_eq_true rfl) (fun r216 h216 hp216 => ?_)
              obtain ⟨rfl, rfl⟩ := hp216
              refine a_topi (show _ = byP s F Z (k) from rfl) ?_
              refine a_i2l (pc := 219) dX12_next_219 ?_
              refine a_ldc2 (pc := 220) kc_X12_272 dX12_next_220 ?_
              refine a_topl (z := lN 48) rfl ?_
              refine a_ldc2 (pc := 223) kc_X12_274 dX12_next_223 ?_
              refine a_topl (z := lN 57) rfl ?_
              refine a_callS (pc := 226) km_X12_142 dX12_next_226 (f_in _ _ _) rfl rfl (rok_of hM (by decide) (by decide) (by omega) (by omega)) (Nat.le_of_ble_eq_true rfl) (fun r226 h226 hp226 => ?_)
              obtain ⟨rfl, rfl⟩ := hp226
              refine a_topi (congrArg bI (in_rng3 (x := byP s F Z (k)) (a := 48) (b := 57) (by decide) (by decide))) ?_
              refine a_if_eqB (pc := 229) (tgt := 286) dX12_next_229 (by decide) (fun c229 => ?_) (fun c229 => ?_)
              · have hend : diF (byP s F Z) (Z - n) n (lN 0) 0 = (k, w, c) := hs
                refine a_aload_n (pc := 286) dX12_next_286 rfl rfl ?_
                refine a_iload_n (pc := 287) dX12_next_287 rfl rfl ?_
                refine a_iconst (pc := 288) dX12_next_288 ic_4 ?_
                refine a_icmp_leN (pc := 289) (tgt := 296) dX12_next_289 (by decide) (by omega) (by omega) (fun c289 => ?_) (fun c289 => ?_)
                · have h4 : nI 2 = nI (if 4 < c then 4 else 2) := congrArg nI (if_neg (by omega)).symm
                  refine a_iconst (pc := 296) dX12_next_296 ic_2 ?_
                  refine a_topi h4 ?_
                  refine a_putfield (pc := 297) kf_X12_257 dX12_next_297 (m_obj hm) (rfl) (by rfl) (Nat.le_of_ble_eq_true rfl) ?_
                  refine a_hp (m_p34 hm) ?_
                  refine a_hp (show _ = mh m (pst s (if 4 < c then 4 else 2, n, w, k, p.2.2.2.2)) h0 from congrArg (fun t => mh m t h0) (pst_34 (v := if 4 < c then 4 else 2))) ?_
                  refine a_goto (pc := 300) (tgt := 372) dX12_next_300 (by decide) ?_
                  refine a_ret_v (pc := 372) hM rfl dX12_next_372 (by omega) (by omega) ?_
                  exact ⟨rfl, congrArg (fun t => mh m (pst s t) h0) (by rw [nextF, hsk, tokF, if_neg cneg, if_neg clet, if_pos cdig, hend])⟩
                · have h4 : nI 4 = nI (if 4 < c then 4 else 2) := congrArg nI (if_pos (by omega)).symm
                  refine a_iconst (pc := 292) dX12_next_292 ic_4 ?_
                  refine a_goto (pc := 293) (tgt := 297) dX12_next_293 (by decide) ?_
                  refine a_topi h4 ?_
                  refine a_putfield (pc := 297) kf_X12_257 dX12_next_297 (m_obj hm) (rfl) (by rfl) (Nat.le_of_ble_eq_true rfl) ?_
                  refine a_hp (m_p34 hm) ?_
                  refine a_hp (show _ = mh m (pst s (if 4 < c then 4 else 2, n, w, k, p.2.2.2.2)) h0 from congrArg (fun t => mh m t h0) (pst_34 (v := if 4 < c then 4 else 2))) ?_
                  refine a_goto (pc := 300) (tgt := 372) dX12_next_300 (by decide) ?_
                  refine a_ret_v (pc := 372) hM rfl dX12_next_372 (by omega) (by omega) ?_
                  exact ⟨rfl, congrArg (fun t => mh m (pst s t) h0) (by rw [nextF, hsk, tokF, if_neg cneg, if_neg clet, if_pos cdig, hend])⟩
              · exact absurd (hb.symm.trans (show inR (byP s F Z k) 48 57 = true from c229)) (by decide)
            | succ f ih =>
              intro k w c hk hnk hck hs
              refine a_aload_n (pc := 211) dX12_next_211 rfl rfl ?_
              refine a_aload_n (pc := 212) dX12_next_212 rfl rfl ?_
              refine a_getfield (pc := 213) kg_X12_248 dX12_next_213 (m_obj hm) rfl ?_
              refine a_topi ((show _ = nI (k) from rfl)) ?_
              refine a_callV (pc := 216) km_X12_251 dX12_next_216 (f_byteAt (s := pst s ((2, n, w, k, p.2.2.2.2))) (F := F) (Z := Z) (i := k) hm h32 h33 hF hZ (by omega)) rfl rfl (krecv_of (ci := 12) rfl (m_obj hm)) (rok_of hM (by decide) (by decide) (by omega) (by omega)) (Nat.le_of_ble_eq_true rfl) (fun r216 h216 hp216 => ?_)
              obtain ⟨rfl, rfl⟩ := hp216
              refine a_topi (show _ = byP s F Z (k) from rfl) ?_
              refine a_i2l (pc := 219) dX12_next_219 ?_
              refine a_ldc2 (pc := 220) kc_X12_272 dX12_next_220 ?_
              refine a_topl (z := lN 48) rfl ?_
              refine a_ldc2 (pc := 223) kc_X12_274 dX12_next_223 ?_
              refine a_topl (z := lN 57) rfl ?_
              refine a_callS (pc := 226) km_X12_142 dX12_next_226 (f_in _ _ _) rfl rfl (rok_of hM (by decide) (by decide) (by omega) (by omega)) (Nat.le_of_ble_eq_true rfl) (fun r226 h226 hp226 => ?_)
              obtain ⟨rfl, rfl⟩ := hp226
              refine a_topi (congrArg bI (in_rng3 (x := byP s F Z (k)) (a := 48) (b := 57) (by decide) (by decide))) ?_
              refine a_if_eqB (pc := 229) (tgt := 286) dX12_next_229 (by decide) (fun c229 => ?_) (fun c229 => ?_)
              · have hnin : ¬ inR (byP s F Z k) 48 57 = true := fun z => absurd (z.symm.trans (show inR (byP s F Z k) 48 57 = false from c229)) (by decide)
                have hend : diF (byP s F Z) (Z - n) n (lN 0) 0 = (k, w, c) := hs.trans (if_neg hnin)
                refine a_aload_n (pc := 286) dX12_next_286 rfl rfl ?_
                refine a_iload_n (pc := 287) dX12_next_287 rfl rfl ?_
                refine a_iconst (pc := 288) dX12_next_288 ic_4 ?_
                refine a_icmp_leN (pc := 289) (tgt := 296) dX12_next_289 (by decide) (by omega) (by omega) (fun c289 => ?_) (fun c289 => ?_)
                · have h4 : nI 2 = nI (if 4 < c then 4 else 2) := congrArg nI (if_neg (by omega)).symm
                  refine a_iconst (pc := 296) dX12_next_296 ic_2 ?_
                  refine a_topi h4 ?_
                  refine a_putfield (pc := 297) kf_X12_257 dX12_next_297 (m_obj hm) (rfl) (by rfl) (Nat.le_of_ble_eq_true rfl) ?_
                  refine a_hp (m_p34 hm) ?_
                  refine a_hp (show _ = mh m (pst s (if 4 < c then 4 else 2, n, w, k, p.2.2.2.2)) h0 from congrArg (fun t => mh m t h0) (pst_34 (v := if 4 < c then 4 else 2))) ?_
                  refine a_goto (pc := 300) (tgt := 372) dX12_next_300 (by decide) ?_
                  refine a_ret_v (pc := 372) hM rfl dX12_next_372 (by omega) (by omega) ?_
                  exact ⟨rfl, congrArg (fun t => mh m (pst s t) h0) (by rw [nextF, hsk, tokF, if_neg cneg, if_neg clet, if_pos cdig, hend])⟩
                · have h4 : nI 4 = nI (if 4 < c then 4 else 2) := congrArg nI (if_pos (by omega)).symm
                  refine a_iconst (pc := 292) dX12_next_292 ic_4 ?_
                  refine a_goto (pc := 293) (tgt := 297) dX12_next_293 (by decide) ?_
                  refine a_topi h4 ?_
                  refine a_putfield (pc := 297) kf_X12_257 dX12_next_297 (m_obj hm) (rfl) (by rfl) (Nat.le_of_ble_eq_true rfl) ?_
                  refine a_hp (m_p34 hm) ?_
                  refine a_hp (show _ = mh m (pst s (if 4 < c then 4 else 2, n, w, k, p.2.2.2.2)) h0 from congrArg (fun t => mh m t h0) (pst_34 (v := if 4 < c then 4 else 2))) ?_
                  refine a_goto (pc := 300) (tgt := 372) dX12_next_300 (by decide) ?_
                  refine a_ret_v (pc := 372) hM rfl dX12_next_372 (by omega) (by omega) ?_
                  exact ⟨rfl, congrArg (fun t => mh m (pst s t) h0) (by rw [nextF, hsk, tokF, if_neg cneg, if_neg clet, if_pos cdig, hend])⟩
              · have hin : inR (byP s F Z k) 48 57 = true := c229
                have hk1 : k < Z := by
                  rcases Nat.lt_or_ge k Z with z | z
                  · exact z
                  · have hb : byP s F Z k = -1 := if_neg (by omega)
                    rw [hb] at hin
                    exact absurd hin (by decide)
                refine a_aload_n (pc := 232) dX12_next_232 rfl rfl ?_
                refine a_iload_n (pc := 233) dX12_next_233 rfl rfl ?_
                refine a_iconst (pc := 234) dX12_next_234 ic_4 ?_
                refine a_icmp_geN (pc := 235) (tgt := 263) dX12_next_235 (by decide) (by omega) (by omega) (fun c235 => ?_) (fun c235 => ?_)
                · have hw : w = (if c < 4 then lN 10 * w + (byP s F Z k).toInt64 - lN 48 else w) := (if_neg (Nat.not_lt.mpr c235)).symm
                  refine a_aload_n (pc := 263) dX12_next_263 rfl rfl ?_
                  refine a_getfield (pc := 264) kg_X12_264 dX12_next_264 (m_obj hm) rfl ?_
                  refine a_topl ((show _ = w from rfl)) ?_
                  refine a_topl hw ?_
                  refine a_putfield (pc := 267) kf_X12_264 dX12_next_267 (m_obj hm) (rfl) (by rfl) (Nat.le_of_ble_eq_true rfl) ?_
                  refine a_hp (m_p36 hm) ?_
                  refine a_hp (show _ = mh m (pst s (2, n, (if c < 4 then lN 10 * w + (byP s F Z k).toInt64 - lN 48 else w), k, p.2.2.2.2)) h0 from congrArg (fun t => mh m t h0) (pst_36 (v := (if c < 4 then lN 10 * w + (byP s F Z k).toInt64 - lN 48 else w)))) ?_
                  refine a_iincN (pc := 270) (n := 1) dX12_next_270 (by decide) rfl (by decide) rfl ?_
                  refine a_aload_n (pc := 273) dX12_next_273 rfl rfl ?_
                  refine a_dup (pc := 274) dX12_next_274 rfl ?_
                  refine a_getfield (pc := 275) kg_X12_248 dX12_next_275 (m_obj hm) rfl ?_
                  refine a_topi ((show _ = nI (k) from rfl)) ?_
                  refine a_iconst (pc := 278) dX12_next_278 ic_1 ?_
                  refine a_iaddN (pc := 279) dX12_next_279 ?_
                  refine a_putfield (pc := 280) kf_X12_248 dX12_next_280 (m_obj hm) (rfl) (by rfl) (Nat.le_of_ble_eq_true rfl) ?_
                  refine a_hp (m_p37 hm) ?_
                  refine a_hp (show _ = mh m (pst s (2, n, (if c < 4 then lN 10 * w + (byP s F Z k).toInt64 - lN 48 else w), k + 1, p.2.2.2.2)) h0 from congrArg (fun t => mh m t h0) (pst_37 (v := k + 1))) ?_
                  refine a_goto (pc := 283) (tgt := 211) dX12_next_283 (by decide) ?_
                  exact a_locR (ih (k + 1) _ (c + 1) (by omega) (by omega) (by omega) (hs.trans (if_pos hin))) ⟨rfl, rfl, trivial⟩
                · have hw : lN 10 * w + (byP s F Z k).toInt64 - lN 48 = (if c < 4 then lN 10 * w + (byP s F Z k).toInt64 - lN 48 else w) := (if_pos c235).symm
                  refine a_ldc2 (pc := 238) kc_X12_276 dX12_next_238 ?_
                  refine a_topl (z := lN 10) rfl ?_
                  refine a_aload_n (pc := 241) dX12_next_241 rfl rfl ?_
                  refine a_getfield (pc := 242) kg_X12_264 dX12_next_242 (m_obj hm) rfl ?_
                  refine a_topl ((show _ = w from rfl)) ?_
                  refine a_lmul (pc := 245) dX12_next_245 ?_
                  refine a_aload_n (pc := 246) dX12_next_246 rfl rfl ?_
                  refine a_aload_n (pc := 247) dX12_next_247 rfl rfl ?_
                  refine a_getfield (pc := 248) kg_X12_248 dX12_next_248 (m_obj hm) rfl ?_
                  refine a_topi ((show _ = nI (k) from rfl)) ?_
                  refine a_callV (pc := 251) km_X12_251 dX12_next_251 (f_byteAt (s := pst s ((2, n, w, k, p.2.2.2.2))) (F := F) (Z := Z) (i := k) hm h32 h33 hF hZ (by omega)) rfl rfl (krecv_of (ci := 12) rfl (m_obj hm)) (rok_of hM (by decide) (by decide) (by omega) (by omega)) (Nat.le_of_ble_eq_true rfl) (fun r251 h251 hp251 => ?_)
                  obtain ⟨rfl, rfl⟩ := hp251
                  refine a_topi (show _ = byP s F Z (k) from rfl) ?_
                  refine a_i2l (pc := 254) dX12_next_254 ?_
                  refine a_ladd (pc := 255) dX12_next_255 ?_
                  refine a_ldc2 (pc := 256) kc_X12_272 dX12_next_256 ?_
                  refine a_topl (z := lN 48) rfl ?_
                  refine a_lsub (pc := 259) dX12_next_259 ?_
                  refine a_goto (pc := 260) (tgt := 267) dX12_next_260 (by decide) ?_
                  refine a_topl hw ?_
                  refine a_putfield (pc := 267) kf_X12_264 dX12_next_267 (m_obj hm) (rfl) (by rfl) (Nat.le_of_ble_eq_true rfl) ?_
                  refine a_hp (m_p36 hm) ?_
                  refine a_hp (show _ = mh m (pst s (2, n, (if c < 4 then lN 10 * w + (byP s F Z k).toInt64 - lN 48 else w), k, p.2.2.2.2)) h0 from congrArg (fun t => mh m t h0) (pst_36 (v := (if c < 4 then lN 10 * w + (byP s F Z k).toInt64 - lN 48 else w)))) ?_
                  refine a_iincN (pc := 270) (n := 1) dX12_next_270 (by decide) rfl (by decide) rfl ?_
                  refine a_aload_n (pc := 273) dX12_next_273 rfl rfl ?_
                  refine a_dup (pc := 274) dX12_next_274 rfl ?_
                  refine a_getfield (pc := 275) kg_X12_248 dX12_next_275 (m_obj hm) rfl ?_
                  refine a_topi ((show _ = nI (k) from rfl)) ?_
                  refine a_iconst (pc := 278) dX12_next_278 ic_1 ?_
                  refine a_iaddN (pc := 279) dX12_next_279 ?_
                  refine a_putfield (pc := 280) kf_X12_248 dX12_next_280 (m_obj hm) (rfl) (by rfl) (Nat.le_of_ble_eq_true rfl) ?_
                  refine a_hp (m_p37 hm) ?_
                  refine a_hp (show _ = mh m (pst s (2, n, (if c < 4 then lN 10 * w + (byP s F Z k).toInt64 - lN 48 else w), k + 1, p.2.2.2.2)) h0 from congrArg (fun t => mh m t h0) (pst_37 (v := k + 1))) ?_
                  refine a_goto (pc := 283) (tgt := 211) dX12_next_283 (by decide) ?_
                  exact a_locR (ih (k + 1) _ (c + 1) (by omega) (by omega) (by omega) (hs.trans (if_pos hin))) ⟨rfl, rfl, trivial⟩
          exact a_locR (digits (Z - n) n (lN 0) 0 (by omega) (Nat.le_refl _) (by omega) rfl) ⟨rfl, rfl, trivial⟩
      · have clet : inR (byP s F Z n) 97 122 = true := c92
        refine a_aload_n (pc := 95) dX12_next_95 rfl rfl ?_
        refine a_iconst (pc := 96) dX12_next_96 ic_1 ?_
        refine a_putfield (pc := 97) kf_X12_257 dX12_next_97 (m_obj hm) (rfl) (by rfl) (Nat.le_of_ble_eq_true rfl) ?_
        refine a_hp (m_p34 hm) ?_
        refine a_hp (show _ = mh m (pst s (1, n, pW p, n, p.2.2.2.2)) h0 from congrArg (fun t => mh m t h0) (pst_34 (v := 1))) ?_
        refine a_aload_n (pc := 100) dX12_next_100 rfl rfl ?_
        refine a_lconst (pc := 101) (v := lN 0) dX12_next_101 rfl ?_
        refine a_putfield (pc := 102) kf_X12_264 dX12_next_102 (m_obj hm) (rfl) (by rfl) (Nat.le_of_ble_eq_true rfl) ?_
        refine a_hp (m_p36 hm) ?_
        refine a_hp (show _ = mh m (pst s (1, n, lN 0, n, p.2.2.2.2)) h0 from congrArg (fun t => mh m t h0) (pst_36 (v := lN 0))) ?_
        refine a_iconst (pc := 105) dX12_next_105 ic_0 ?_
        refine a_istore_n (pc := 106) dX12_next_106 rfl (by decide) rfl ?_
        have letters : ∀ (f k : Nat) (w : Int64) (c : Nat), f + k = Z → n ≤ k → c + n = k → leF (byP s F Z) (Z - n) n (lN 0) 0 = leF (byP s F Z) f k w c → AJ X M yX12_next cX12_next 3 none 107 [(0, .ref (m 65)), (2, .int (nI c))] [] (mh m (pst s ((1, n, w, k, p.2.2.2.2))) h0) 0 0 := by
          intro f
          induction f with
          | zero =>
            intro k w c hk hnk hck hs
            have hb : inR (byP s F Z k) 97 122 = false := by rw [show byP s F Z k = -1 from if_neg (by omega)]; decide
            refine a_aload_n (pc := 107) dX12_next_107 rfl rfl ?_
            refine a_aload_n (pc := 108) dX12_next_108 rfl rfl ?_
            refine a_getfield (pc := 109) kg_X12_248 dX12_next_109 (m_obj hm) rfl ?_
            refine a_topi ((show _ = nI (k) from rfl)) ?_
            refine a_callV (pc := 112) km_X12_251 dX12_next_112 (f_byteAt (s := pst s ((1, n, w, k, p.2.2.2.2))) (F := F) (Z := Z) (i := k) hm h32 h33 hF hZ (by omega)) rfl rfl (krecv_of (ci := 12) rfl (m_obj hm)) (rok_of hM (by decide) (by decide) (by omega) (by omega)) (Nat.le_of_ble_eq_true rfl) (fun r112 h112 hp112 => ?_)
            obtain ⟨rfl, rfl⟩ := hp112
            refine a_topi (show _ = byP s F Z (k) from rfl) ?_
            refine a_i2l (pc := 115) dX12_next_115 ?_
            refine a_ldc2 (pc := 116) kc_X12_260 dX12_next_116 ?_
            refine a_topl (z := lN 97) rfl ?_
            refine a_ldc2 (pc := 119) kc_X12_262 dX12_next_119 ?_
            refine a_topl (z := lN 122) rfl ?_
            refine a_callS (pc := 122) km_X12_142 dX12_next_122 (f_in _ _ _) rfl rfl (rok_of hM (by decide) (by decide) (by omega) (by omega)) (Nat.le_of_ble_eq_true rfl) (fun r122 h122 hp122 => ?_)
            obtain ⟨rfl, rfl⟩ := hp122
            refine a_topi (congrArg bI (in_rng3 (x := byP s F Z (k)) (a := 97) (b := 122) (by decide) (by decide))) ?_
            refine a_if_eqB (pc := 125) (tgt := 182) dX12_next_125 (by decide) (fun c125 => ?_) (fun c125 => ?_)
            · have hend : leF (byP s F Z) (Z - n) n (lN 0) 0 = (k, w) := hs
              refine a_goto (pc := 182) (tgt := 372) dX12_next_182 (by decide) ?_
              refine a_ret_v (pc := 372) hM rfl dX12_next_372 (by omega) (by omega) ?_
              exact ⟨rfl, congrArg (fun t => mh m (pst s t) h0) (by rw [nextF, hsk, tokF, if_neg cneg, if_pos clet, hend])⟩
            · exact absurd (hb.symm.trans (show inR (byP s F Z k) 97 122 = true from c125)) (by decide)
          | succ f ih =>
            intro k w c hk hnk hck hs
            refine a_aload_n (pc := 107) dX12_next_107 rfl rfl ?_
            refine a_aload_n (pc := 108) dX12_next_108 rfl rfl ?_
            refine a_getfield (pc := 109) kg_X12_248 dX12_next_109 (m_obj hm) rfl ?_
            refine a_topi ((show _ = nI (k) from rfl)) ?_
            refine a_callV (pc := 112) km_X12_251 dX12_next_112 (f_byteAt (s := pst s ((1, n, w, k, p.2.2.2.2))) (F := F) (Z := Z) (i := k) hm h32 h33 hF hZ (by omega)) rfl rfl (krecv_of (ci := 12) rfl (m_obj hm)) (rok_of hM (by decide) (by decide) (by omega) (by omega)) (Nat.le_of_ble_eq_true rfl) (fun r112 h112 hp112 => ?_)
            obtain ⟨rfl, rfl⟩ := hp112
            refine a_topi (show _ = byP s F Z (k) from rfl) ?_
            refine a_i2l (pc := 115) dX12_next_115 ?_
            refine a_ldc2 (pc := 116) kc_X12_260 dX12_next_116 ?_
            refine a_topl (z := lN 97) rfl ?_
            refine a_ldc2 (pc := 119) kc_X12_262 dX12_next_119 ?_
            refine a_topl (z := lN 122) rfl ?_
            refine a_callS (pc := 122) km_X12_142 dX12_next_122 (f_in _ _ _) rfl rfl (rok_of hM (by decide) (by decide) (by omega) (by omega)) (Nat.le_of_ble_eq_true rfl) (fun r122 h122 hp122 => ?_)
            obtain ⟨rfl, rfl⟩ := hp122
            refine a_topi (congrArg bI (in_rng3 (x := byP s F Z (k)) (a := 97) (b := 122) (by decide) (by decide))) ?_
            refine a_if_eqB (pc := 125) (tgt := 182) dX12_next_125 (by decide) (fun c125 => ?_) (fun c125 => ?_)
            · have hnin : ¬ inR (byP s F Z k) 97 122 = true := fun z => absurd (z.symm.trans (show inR (byP s F Z k) 97 122 = false from c125)) (by decide)
              have hend : leF (byP s F Z) (Z - n) n (lN 0) 0 = (k, w) := hs.trans (if_neg hnin)
              refine a_goto (pc := 182) (tgt := 372) dX12_next_182 (by decide) ?_
              refine a_ret_v (pc := 372) hM rfl dX12_next_372 (by omega) (by omega) ?_
              exact ⟨rfl, congrArg (fun t => mh m (pst s t) h0) (by rw [nextF, hsk, tokF, if_neg cneg, if_pos clet, hend])⟩
            · have hin : inR (byP s F Z k) 97 122 = true := c125
              have hk1 : k < Z := by
                rcases Nat.lt_or_ge k Z with z | z
                · exact z
                · have hb : byP s F Z k = -1 := if_neg (by omega)
                  rw [hb] at hin
                  exact absurd hin (by decide)
              refine a_aload_n (pc := 128) dX12_next_128 rfl rfl ?_
              refine a_iload_n (pc := 129) dX12_next_129 rfl rfl ?_
              refine a_bipush (pc := 130) dX12_next_130 ib_8 ?_
              refine a_icmp_geN (pc := 132) (tgt := 160) dX12_next_132 (by decide) (by omega) (by omega) (fun c132 => ?_) (fun c132 => ?_)
              · have hw : (-1 : Int64) = (if c < 8 then lN 27 * w + (byP s F Z k).toInt64 - lN 96 else -1) := (if_neg (Nat.not_lt.mpr c132)).symm
                refine a_ldc2 (pc := 160) kc_X12_211 dX12_next_160 ?_
                refine a_topl hw ?_
                refine a_putfield (pc := 163) kf_X12_264 dX12_next_163 (m_obj hm) (rfl) (by rfl) (Nat.le_of_ble_eq_true rfl) ?_
                refine a_hp (m_p36 hm) ?_
                refine a_hp (show _ = mh m (pst s (1, n, (if c < 8 then lN 27 * w + (byP s F Z k).toInt64 - lN 96 else -1), k, p.2.2.2.2)) h0 from congrArg (fun t => mh m t h0) (pst_36 (v := (if c < 8 then lN 27 * w + (byP s F Z k).toInt64 - lN 96 else -1)))) ?_
                refine a_iincN (pc := 166) (n := 1) dX12_next_166 (by decide) rfl (by decide) rfl ?_
                refine a_aload_n (pc := 169) dX12_next_169 rfl rfl ?_
                refine a_dup (pc := 170) dX12_next_170 rfl ?_
                refine a_getfield (pc := 171) kg_X12_248 dX12_next_171 (m_obj hm) rfl ?_
                refine a_topi ((show _ = nI (k) from rfl)) ?_
                refine a_iconst (pc := 174) dX12_next_174 ic_1 ?_
                refine a_iaddN (pc := 175) dX12_next_175 ?_
                refine a_putfield (pc := 176) kf_X12_248 dX12_next_176 (m_obj hm) (rfl) (by rfl) (Nat.le_of_ble_eq_true rfl) ?_
                refine a_hp (m_p37 hm) ?_
                refine a_hp (show _ = mh m (pst s (1, n, (if c < 8 then lN 27 * w + (byP s F Z k).toInt64 - lN 96 else -1), k + 1, p.2.2.2.2)) h0 from congrArg (fun t => mh m t h0) (pst_37 (v := k + 1))) ?_
                refine a_goto (pc := 179) (tgt := 107) dX12_next_179 (by decide) ?_
                exact a_locR (ih (k + 1) _ (c + 1) (by omega) (by omega) (by omega) (hs.trans (if_pos hin))) ⟨rfl, rfl, trivial⟩
              · have hw : lN 27 * w + (byP s F Z k).toInt64 - lN 96 = (if c < 8 then lN 27 * w + (byP s F Z k).toInt64 - lN 96 else -1) := (if_pos c132).symm
                refine a_ldc2 (pc := 135) kc_X12_268 dX12_next_135 ?_
                refine a_topl (z := lN 27) rfl ?_
                refine a_aload_n (pc := 138) dX12_next_138 rfl rfl ?_
                refine a_getfield (pc := 139) kg_X12_264 dX12_next_139 (m_obj hm) rfl ?_
                refine a_topl ((show _ = w from rfl)) ?_
                refine a_lmul (pc := 142) dX12_next_142 ?_
                refine a_aload_n (pc := 143) dX12_next_143 rfl rfl ?_
                refine a_aload_n (pc := 144) dX12_next_144 rfl rfl ?_
                refine a_getfield (pc := 145) kg_X12_248 dX12_next_145 (m_obj hm) rfl ?_
                refine a_topi ((show _ = nI (k) from rfl)) ?_
                refine a_callV (pc := 148) km_X12_251 dX12_next_148 (f_byteAt (s := pst s ((1, n, w, k, p.2.2.2.2))) (F := F) (Z := Z) (i := k) hm h32 h33 hF hZ (by omega)) rfl rfl (krecv_of (ci := 12) rfl (m_obj hm)) (rok_of hM (by decide) (by decide) (by omega) (by omega)) (Nat.le_of_ble_eq_true rfl) (fun r148 h148 hp148 => ?_)
                obtain ⟨rfl, rfl⟩ := hp148
                refine a_topi (show _ = byP s F Z (k) from rfl) ?_
                refine a_i2l (pc := 151) dX12_next_151 ?_
                refine a_ladd (pc := 152) dX12_next_152 ?_
                refine a_ldc2 (pc := 153) kc_X12_270 dX12_next_153 ?_
                refine a_topl (z := lN 96) rfl ?_
                refine a_lsub (pc := 156) dX12_next_156 ?_
                refine a_goto (pc := 157) (tgt := 163) dX12_next_157 (by decide) ?_
                refine a_topl hw ?_
                refine a_putfield (pc := 163) kf_X12_264 dX12_next_163 (m_obj hm) (rfl) (by rfl) (Nat.le_of_ble_eq_true rfl) ?_
                refine a_hp (m_p36 hm) ?_
                refine a_hp (show _ = mh m (pst s (1, n, (if c < 8 then lN 27 * w + (byP s F Z k).toInt64 - lN 96 else -1), k, p.2.2.2.2)) h0 from congrArg (fun t => mh m t h0) (pst_36 (v := (if c < 8 then lN 27 * w + (byP s F Z k).toInt64 - lN 96 else -1)))) ?_
                refine a_iincN (pc := 166) (n := 1) dX12_next_166 (by decide) rfl (by decide) rfl ?_
                refine a_aload_n (pc := 169) dX12_next_169 rfl rfl ?_
                refine a_dup (pc := 170) dX12_next_170 rfl ?_
                refine a_getfield (pc := 171) kg_X12_248 dX12_next_171 (m_obj hm) rfl ?_
                refine a_topi ((show _ = nI (k) from rfl)) ?_
                refine a_iconst (pc := 174) dX12_next_174 ic_1 ?_
                refine a_iaddN (pc := 175) dX12_next_175 ?_
                refine a_putfield (pc := 176) kf_X12_248 dX12_next_176 (m_obj hm) (rfl) (by rfl) (Nat.le_of_ble_eq_true rfl) ?_
                refine a_hp (m_p37 hm) ?_
                refine a_hp (show _ = mh m (pst s (1, n, (if c < 8 then lN 27 * w + (byP s F Z k).toInt64 - lN 96 else -1), k + 1, p.2.2.2.2)) h0 from congrArg (fun t => mh m t h0) (pst_37 (v := k + 1))) ?_
                refine a_goto (pc := 179) (tgt := 107) dX12_next_179 (by decide) ?_
                exact a_locR (ih (k + 1) _ (c + 1) (by omega) (by omega) (by omega) (hs.trans (if_pos hin))) ⟨rfl, rfl, trivial⟩
        exact a_locR (letters (Z - n) n (lN 0) 0 (by omega) (Nat.le_refl _) (by omega) rfl) ⟨rfl, rfl, trivial⟩
    · have cneg : byP s F Z n < 0 := Int32.not_le.mp c62
      refine a_aload_n (pc := 65) dX12_next_65 rfl rfl ?_
      refine a_iconst (pc := 66) dX12_next_66 ic_0 ?_
      refine a_putfield (pc := 67) kf_X12_257 dX12_next_67 (m_obj hm) (rfl) (by rfl) (Nat.le_of_ble_eq_true rfl) ?_
      refine a_hp (m_p34 hm) ?_
      refine a_hp (show _ = mh m (pst s (0, n, pW p, n, p.2.2.2.2)) h0 from congrArg (fun t => mh m t h0) (pst_34 (v := 0))) ?_
      refine a_aload_n (pc := 70) dX12_next_70 rfl rfl ?_
      refine a_aload_n (pc := 71) dX12_next_71 rfl rfl ?_
      refine a_getfield (pc := 72) kg_X12_242 dX12_next_72 (m_obj hm) rfl ?_
      refine a_topi (h33) ?_
      refine a_putfield (pc := 75) kf_X12_254 dX12_next_75 (m_obj hm) (rfl) (by rfl) (Nat.le_of_ble_eq_true rfl) ?_
      refine a_hp (m_p35 hm) ?_
      refine a_hp (show _ = mh m (pst s (0, Z, pW p, n, p.2.2.2.2)) h0 from congrArg (fun t => mh m t h0) (pst_35 (v := Z))) ?_
      refine a_goto (pc := 78) (tgt := 372) dX12_next_78 (by decide) ?_
      refine a_ret_v (pc := 372) hM rfl dX12_next_372 (by omega) (by omega) ?_
      first | exact ⟨rfl, congrArg (fun t => mh m (pst s t) h0) (by (rw [nextF, hsk, tokF, if_neg cneg, if_neg clet, if_neg cdig, if_pos cp]) <;> rfl)⟩ | exact ⟨rfl, congrArg (fun t => mh m (pst s t) h0) (by (rw [nextF, hsk, tokF, if_neg cneg, if_neg clet, if_neg cdig, if_neg cp]) <;> rfl)⟩ | exact ⟨rfl, congrArg (fun t => mh m (pst s t) h0) (by (rw [nextF, hsk, tokF, if_pos cneg]) <;> rfl)⟩
  have loop : ∀ f n : Nat, f + n = Z → n ≤ Z → skF (byP s F Z) (Z - pHr p) (pHr p) = skF (byP s F Z) f n → AJ X M yX12_next cX12_next 3 none 0 [(0, .ref (m 65))] [] (mh m (pst s (uHr p n)) h0) 0 0 := by
    intro f
    induction f with
    | zero =>
      intro n hf hnZ hs
      have hb : byP s F Z n = -1 := if_neg (by omega)
      refine a_aload_n (pc := 0) dX12_next_0 rfl rfl ?_
      refine a_aload_n (pc := 1) dX12_next_1 rfl rfl ?_
      refine a_getfield (pc := 2) kg_X12_248 dX12_next_2 (m_obj hm) rfl ?_
      refine a_topi ((show _ = nI (n) from rfl)) ?_
      refine a_callV (pc := 5) km_X12_251 dX12_next_5 (f_byteAt (s := pst s (uHr p n)) (F := F) (Z := Z) (i := n) hm h32 h33 hF hZ (by omega)) rfl rfl (krecv_of (ci := 12) rfl (m_obj hm)) (rok_of hM (by decide) (by decide) (by omega) (by omega)) (Nat.le_of_ble_eq_true rfl) (fun r5 h5 hp5 => ?_)
      obtain ⟨rfl, rfl⟩ := hp5
      refine a_topi (show _ = byP s F Z (n) from rfl) ?_
      refine a_bipush (pc := 8) dX12_next_8 ib_32 ?_
      refine a_icmp_eq (pc := 10) (tgt := 26) dX12_next_10 (by decide) (fun c10 => ?_) (fun c10 => ?_)
      · exact absurd (hb.symm.trans c10) (by decide)
      · refine a_aload_n (pc := 13) dX12_next_13 rfl rfl ?_
        refine a_aload_n (pc := 14) dX12_next_14 rfl rfl ?_
        refine a_getfield (pc := 15) kg_X12_248 dX12_next_15 (m_obj hm) rfl ?_
        refine a_topi ((show _ = nI (n) from rfl)) ?_
        refine a_callV (pc := 18) km_X12_251 dX12_next_18 (f_byteAt (s := pst s (uHr p n)) (F := F) (Z := Z) (i := n) hm h32 h33 hF hZ (by omega)) rfl rfl (krecv_of (ci := 12) rfl (m_obj hm)) (rok_of hM (by decide) (by decide) (by omega) (by omega)) (Nat.le_of_ble_eq_true rfl) (fun r18 h18 hp18 => ?_)
        obtain ⟨rfl, rfl⟩ := hp18
        refine a_topi (show _ = byP s F Z (n) from rfl) ?_
        refine a_bipush (pc := 21) dX12_next_21 ib_10 ?_
        refine a_icmp_ne (pc := 23) (tgt := 39) dX12_next_23 (by decide) (fun c23 => ?_) (fun c23 => ?_)
        · exact rest n hnZ (by rw [hs]; rfl)
        · exact absurd (hb.symm.trans c23) (by decide)
    | succ f ih =>
      intro n hf hnZ hs
      refine a_aload_n (pc := 0) dX12_next_0 rfl rfl ?_
      refine a_aload_n (pc := 1) dX12_next_1 rfl rfl ?_
      refine a_getfield (pc := 2) kg_X12_248 dX12_next_2 (m_obj hm) rfl ?_
      refine a_topi ((show _ = nI (n) from rfl)) ?_
      refine a_callV (pc := 5) km_X12_251 dX12_next_5 (f_byteAt (s := pst s (uHr p n)) (F := F) (Z := Z) (i := n) hm h32 h33 hF hZ (by omega)) rfl rfl (krecv_of (ci := 12) rfl (m_obj hm)) (rok_of hM (by decide) (by decide) (by omega) (by omega)) (Nat.le_of_ble_eq_true rfl) (fun r5 h5 hp5 => ?_)
      obtain ⟨rfl, rfl⟩ := hp5
      refine a_topi (show _ = byP s F Z (n) from rfl) ?_
      refine a_bipush (pc := 8) dX12_next_8 ib_32 ?_
      refine a_icmp_eq (pc := 10) (tgt := 26) dX12_next_10 (by decide) (fun c10 => ?_) (fun c10 => ?_)
      · have hbl : byP s F Z n = nI 32 ∨ byP s F Z n = nI 10 := Or.inl c10
        refine a_aload_n (pc := 26) dX12_next_26 rfl rfl ?_
        refine a_dup (pc := 27) dX12_next_27 rfl ?_
        refine a_getfield (pc := 28) kg_X12_248 dX12_next_28 (m_obj hm) rfl ?_
        refine a_topi ((show _ = nI (n) from rfl)) ?_
        refine a_iconst (pc := 31) dX12_next_31 ic_1 ?_
        refine a_iaddN (pc := 32) dX12_next_32 ?_
        refine a_putfield (pc := 33) kf_X12_248 dX12_next_33 (m_obj hm) (rfl) (by rfl) (Nat.le_of_ble_eq_true rfl) ?_
        refine a_hp (m_p37 hm) ?_
        refine a_hp (show _ = mh m (pst s (uHr p (n + 1))) h0 from congrArg (fun t => mh m t h0) (pst_37 (v := n + 1))) ?_
        refine a_goto (pc := 36) (tgt := 0) dX12_next_36 (by decide) ?_
        have hn1 : n < Z := by
          rcases Nat.lt_or_ge n Z with z | z
          · exact z
          · have hb : byP s F Z n = -1 := if_neg (by omega)
            rw [hb] at hbl
            exact absurd hbl (by decide)
        exact a_locR (ih (n + 1) (by omega) (by omega) (by rw [hs]; exact if_pos hbl)) ⟨rfl, trivial⟩
      · refine a_aload_n (pc := 13) dX12_next_13 rfl rfl ?_
        refine a_aload_n (pc := 14) dX12_next_14 rfl rfl ?_
        refine a_getfield (pc := 15) kg_X12_248 dX12_next_15 (m_obj hm) rfl ?_
        refine a_topi ((show _ = nI (n) from rfl)) ?_
        refine a_callV (pc := 18) km_X12_251 dX12_next_18 (f_byteAt (s := pst s (uHr p n)) (F := F) (Z := Z) (i := n) hm h32 h33 hF hZ (by omega)) rfl rfl (krecv_of (ci := 12) rfl (m_obj hm)) (rok_of hM (by decide) (by decide) (by omega) (by omega)) (Nat.le_of_ble_eq_true rfl) (fun r18 h18 hp18 => ?_)
        obtain ⟨rfl, rfl⟩ := hp18
        refine a_topi (show _ = byP s F Z (n) from rfl) ?_
        refine a_bipush (pc := 21) dX12_next_21 ib_10 ?_
        refine a_icmp_ne (pc := 23) (tgt := 39) dX12_next_23 (by decide) (fun c23 => ?_) (fun c23 => ?_)
        · have hbl : ¬ (byP s F Z n = nI 32 ∨ byP s F Z n = nI 10) := fun z => z.elim c10 c23
          exact rest n hnZ (by rw [hs]; exact if_neg hbl)
        · have hbl : byP s F Z n = nI 32 ∨ byP s F Z n = nI 10 := Or.inr c23
          refine a_aload_n (pc := 26) dX12_next_26 rfl rfl ?_
          refine a_dup (pc := 27) dX12_next_27 rfl ?_
          refine a_getfield (pc := 28) kg_X12_248 dX12_next_28 (m_obj hm) rfl ?_
          refine a_topi ((show _ = nI (n) from rfl)) ?_
          refine a_iconst (pc := 31) dX12_next_31 ic_1 ?_
          refine a_iaddN (pc := 32) dX12_next_32 ?_
          refine a_putfield (pc := 33) kf_X12_248 dX12_next_33 (m_obj hm) (rfl) (by rfl) (Nat.le_of_ble_eq_true rfl) ?_
          refine a_hp (m_p37 hm) ?_
          refine a_hp (show _ = mh m (pst s (uHr p (n + 1))) h0 from congrArg (fun t => mh m t h0) (pst_37 (v := n + 1))) ?_
          refine a_goto (pc := 36) (tgt := 0) dX12_next_36 (by decide) ?_
          have hn1 : n < Z := by
            rcases Nat.lt_or_ge n Z with z | z
            · exact z
            · have hb : byP s F Z n = -1 := if_neg (by omega)
              rw [hb] at hbl
              exact absurd hbl (by decide)
          exact a_locR (ih (n + 1) (by omega) (by omega) (by rw [hs]; exact if_pos hbl)) ⟨rfl, trivial⟩
  exact loop (Z - pHr p) (pHr p) (by omega) hh rfl


end MP9

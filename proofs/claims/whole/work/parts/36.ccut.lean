/-! THE TAPE CUT INTO TOKENS -/
section CCU
variable {X : KX} {h : AH}
/-- the tokens at t: three arrays, c of them -/
def TH (h : AH) (t kk pp nn c : Nat) (fk fp fn : Nat → Int32) : AH := kput (kput (kput (kput h kk (kI 161 fk)) pp (kI 161 fp)) nn (kI 161 fn)) t (kO 10 [.ref kk, .ref pp, .ref nn, .int (nI c)])
def TD (t kk pp nn : Nat) : Prop := kk ≠ pp ∧ kk ≠ nn ∧ pp ≠ nn ∧ t ≠ kk ∧ t ≠ pp ∧ t ≠ nn
section
variable {t kk pp nn c : Nat} {fk fp fn g : Nat → Int32}
theorem TH_t : TH h t kk pp nn c fk fp fn t = some (kO 10 [.ref kk, .ref pp, .ref nn, .int (nI c)]) := kput_eq
theorem TH_n (d : TD t kk pp nn) : TH h t kk pp nn c fk fp fn nn = some (kI 161 fn) := (kput_ne (Ne.symm d.2.2.2.2.2)).trans kput_eq
theorem TH_p (d : TD t kk pp nn) : TH h t kk pp nn c fk fp fn pp = some (kI 161 fp) := (kput_ne (Ne.symm d.2.2.2.2.1)).trans ((kput_ne d.2.2.1).trans kput_eq)
theorem TH_k (d : TD t kk pp nn) : TH h t kk pp nn c fk fp fn kk = some (kI 161 fk) := (kput_ne (Ne.symm d.2.2.2.1)).trans ((kput_ne d.2.1).trans ((kput_ne d.1).trans kput_eq))
theorem TH_o {x : Nat} (h1 : x ≠ t) (h2 : x ≠ kk) (h3 : x ≠ pp) (h4 : x ≠ nn) : TH h t kk pp nn c fk fp fn x = h x := (kput_ne h1).trans ((kput_ne h4).trans ((kput_ne h3).trans (kput_ne h2)))
theorem TH_sk (d : TD t kk pp nn) : kput (TH h t kk pp nn c fk fp fn) kk (kI 161 g) = TH h t kk pp nn c g fp fn := by
  unfold TH
  rw [kput_comm (a := t) (b := kk) d.2.2.2.1, kput_comm (a := nn) (b := kk) (Ne.symm d.2.1), kput_comm (a := pp) (b := kk) (Ne.symm d.1), kput_put]
theorem TH_sp (d : TD t kk pp nn) : kput (TH h t kk pp nn c fk fp fn) pp (kI 161 g) = TH h t kk pp nn c fk g fn := by
  unfold TH
  rw [kput_comm (a := t) (b := pp) d.2.2.2.2.1, kput_comm (a := nn) (b := pp) (Ne.symm d.2.2.1), kput_put]
theorem TH_sn (d : TD t kk pp nn) : kput (TH h t kk pp nn c fk fp fn) nn (kI 161 g) = TH h t kk pp nn c fk fp g := by
  unfold TH
  rw [kput_comm (a := t) (b := nn) d.2.2.2.2.2, kput_put]
theorem TH_st {c' : Nat} : kput (TH h t kk pp nn c fk fp fn) t (kO 10 [.ref kk, .ref pp, .ref nn, .int (nI c')]) = TH h t kk pp nn c' fk fp fn := kput_put
theorem TH_self (d : TD t kk pp nn) (h1 : h t = some (kO 10 [.ref kk, .ref pp, .ref nn, .int (nI c)])) (h2 : h kk = some (kI 161 fk)) (h3 : h pp = some (kI 161 fp)) (h4 : h nn = some (kI 161 fn)) : TH h t kk pp nn c fk fp fn = h := by
  unfold TH
  rw [kput_self h2, kput_self h3, kput_self h4, kput_self h1]
end
def itP (b : Nat → Int32) (Z : Nat) : Nat → PS
  | 0 => c0
  | k + 1 => nextF b Z (itP b Z k)
def kdOf (p : PS) : Int32 := if pTk p = 0 then -1 else if pTk p = 1 then kdW (pW p) else if pTk p = 2 then nI 12 else if pTk p = 3 then (pW p).toInt32 else -2
def gdT (p : PS) : Prop := pTk p ≠ 0 ∧ pTk p ≠ 4
def entOk (b : Nat → Int32) (Z : Nat) (fk fp fn : Nat → Int32) (k : Nat) : Prop := fk k = kdOf (itP b Z (k + 1)) ∧ fp k = nI (pAt (itP b Z (k + 1))) ∧ (pTk (itP b Z (k + 1)) = 2 → fn k = (pW (itP b Z (k + 1))).toInt32)
def TokI (b : Nat → Int32) (Z n c : Nat) (fk fp fn : Nat → Int32) : Prop := ((∀ j, j < c → gdT (itP b Z (j + 1)) ∧ entOk b Z fk fp fn j) ∧ skF b (Z - pHr (itP b Z c)) (pHr (itP b Z c)) = skF b (Z - n) n) ∨ ∃ j0, j0 < c ∧ pTk (itP b Z (j0 + 1)) = 4 ∧ (∀ j, j < j0 → gdT (itP b Z (j + 1))) ∧ ∀ j, j ≤ j0 → entOk b Z fk fp fn j
def TokOk (b : Nat → Int32) (Z c : Nat) (fk fp fn : Nat → Int32) : Prop := c ≤ 161 ∧ ∀ k, (∀ j, j < k → gdT (itP b Z (j + 1))) → k < c ∧ entOk b Z fk fp fn k
theorem entOk_up {b : Nat → Int32} {Z c k : Nat} {fk fp fn : Nat → Int32} {x y w : Int32} (h : entOk b Z fk fp fn k) (hk : k ≠ c) : entOk b Z (upd fk c x) (upd fp c y) (upd fn c w) k := by
  unfold entOk
  rw [pk_un hk, pk_un hk, pk_un hk]
  exact h
theorem entOk_at {b : Nat → Int32} {Z c : Nat} {fk fp fn : Nat → Int32} {x y w : Int32} (h1 : x = kdOf (itP b Z (c + 1))) (h2 : y = nI (pAt (itP b Z (c + 1)))) (h3 : pTk (itP b Z (c + 1)) = 2 → w = (pW (itP b Z (c + 1))).toInt32) : entOk b Z (upd fk c x) (upd fp c y) (upd fn c w) c := by
  unfold entOk
  rw [pk_us, pk_us, pk_us]
  exact ⟨h1, h2, h3⟩
/-- one more token -/
theorem TokI_add {b : Nat → Int32} {Z n e c : Nat} {fk fp fn : Nat → Int32} {x y w : Int32} (h : TokI b Z n c fk fp fn)
    (hg : skF b (Z - pHr (itP b Z c)) (pHr (itP b Z c)) = skF b (Z - n) n → x = kdOf (itP b Z (c + 1)) ∧ y = nI (pAt (itP b Z (c + 1))) ∧ (pTk (itP b Z (c + 1)) = 2 → w = (pW (itP b Z (c + 1))).toInt32) ∧ (pTk (itP b Z (c + 1)) = 4 ∨ (gdT (itP b Z (c + 1)) ∧ pHr (itP b Z (c + 1)) = e))) : TokI b Z e (c + 1) (upd fk c x) (upd fp c y) (upd fn c w) := by
  rcases h with ⟨h1, h2⟩ | ⟨j0, h1, h2, h3, h4⟩
  · obtain ⟨g1, g2, g3, g4⟩ := hg h2
    rcases g4 with g4 | ⟨g4, g5⟩
    · refine Or.inr ⟨c, Nat.lt_succ_self c, g4, fun j hj => (h1 j hj).1, fun j hj => ?_⟩
      by_cases hjc : j = c
      · rw [hjc]; exact entOk_at g1 g2 g3
      · exact entOk_up (h1 j (by omega)).2 hjc
    · refine Or.inl ⟨fun j hj => ?_, by rw [g5]⟩
      by_cases hjc : j = c
      · rw [hjc]; exact ⟨g4, entOk_at g1 g2 g3⟩
      · exact ⟨(h1 j (by omega)).1, entOk_up (h1 j (by omega)).2 hjc⟩
  · exact Or.inr ⟨j0, by omega, h2, h3, fun j hj => entOk_up (h4 j hj) (by omega)⟩
theorem TokI_end {b : Nat → Int32} {Z c : Nat} {fk fp fn : Nat → Int32} {w : Int32} (hb : ∀ i, Z ≤ i → b i = -1) (hc : c ≤ 160) (h : TokI b Z Z c fk fp fn) : TokOk b Z (c + 1) (upd fk c (-1)) (upd fp c (nI Z)) (upd fn c w) := by
  refine ⟨by omega, fun k hk => ?_⟩
  rcases h with ⟨h1, h2⟩ | ⟨j0, h1, h2, h3, h4⟩
  · have e : itP b Z (c + 1) = (0, Z, pW (itP b Z c), Z, (itP b Z c).2.2.2.2) := by
      show nextF b Z (itP b Z c) = _
      unfold nextF
      rw [h2, Nat.sub_self]
      show tokF b Z (itP b Z c) Z = _
      unfold tokF
      rw [if_pos (by rw [hb Z (Nat.le_refl Z)]; decide)]
    rcases Nat.lt_trichotomy k c with q | q | q
    · exact ⟨by omega, entOk_up (h1 k q).2 (by omega)⟩
    · subst q
      exact ⟨by omega, entOk_at (by rw [e]; rfl) (by rw [e]) (fun z => by rw [e] at z; exact absurd z (show (0 : Nat) ≠ 2 by decide))⟩
    · have := (hk c q).1
      rw [e] at this
      exact absurd rfl this
  · by_cases q : k ≤ j0
    · exact ⟨by omega, entOk_up (h4 k q) (by omega)⟩
    · exact absurd h2 (hk j0 (by omega)).2
theorem skF_n {b : Nat → Int32} {Z n : Nat} (hn : n < Z) (hb : ¬ (b n = nI 32 ∨ b n = nI 10)) : skF b (Z - n) n = n := by
  obtain ⟨d, hd⟩ : ∃ d, Z - n = d + 1 := ⟨Z - n - 1, by omega⟩
  rw [hd, skF, if_neg hb]
theorem skF_b1 {b : Nat → Int32} {Z n : Nat} (hn : n < Z) (hb : b n = nI 32 ∨ b n = nI 10) : skF b (Z - n) n = skF b (Z - (n + 1)) (n + 1) := by
  rw [show Z - n = Z - (n + 1) + 1 by omega, skF, if_pos hb]
theorem enF_no {lo hi : Nat} {b : Nat → Int32} {f n : Nat} (h : ¬ inR (b n) lo hi = true) : enF lo hi b f n = n := by
  cases f with
  | zero => rfl
  | succ f => rw [enF, if_neg h]
theorem enF_yes {lo hi : Nat} {b : Nat → Int32} {Z n : Nat} (hn : n < Z) (h : inR (b n) lo hi = true) : n < enF lo hi b (Z - n) n := by
  rw [show Z - n = Z - (n + 1) + 1 by omega, enF, if_pos h]
  exact enF_ge _ _ _ _ _
theorem diF_c (b : Nat → Int32) (f n : Nat) (w : Int64) (c : Nat) : (diF b f n w c).2.2 = c + (enF 48 57 b f n - n) := by
  induction f generalizing n w c with
  | zero => show c = c + (n - n); omega
  | succ f ih =>
    unfold diF enF
    by_cases h : inR (b n) 48 57 = true
    · rw [if_pos h, if_pos h, ih]
      have := enF_ge 48 57 b f (n + 1)
      omega
    · rw [if_neg h, if_neg h]
      show c = c + (n - n)
      omega
theorem diF_num {b : Nat → Int32} (n0 : Nat) (f c : Nat) (w : Int64) (hw : w.toInt32 = numI b n0 c) (h4 : (diF b f (n0 + c) w c).2.2 ≤ 4) : (diF b f (n0 + c) w c).2.1.toInt32 = numI b n0 ((diF b f (n0 + c) w c).2.2) := by
  induction f generalizing c w with
  | zero => exact hw
  | succ f ih =>
    by_cases h : inR (b (n0 + c)) 48 57 = true
    · have e : diF b (f + 1) (n0 + c) w c = diF b f (n0 + c + 1) (if c < 4 then lN 10 * w + (b (n0 + c)).toInt64 - lN 48 else w) (c + 1) := by
        conv => lhs; unfold diF
        rw [if_pos h]
      rw [e] at h4 ⊢
      have hc : c < 4 := by
        have := diF_c b f (n0 + c + 1) (if c < 4 then lN 10 * w + (b (n0 + c)).toInt64 - lN 48 else w) (c + 1)
        omega
      refine ih (c + 1) _ ?_ h4
      rw [if_pos hc]
      show (lN 10 * w + (b (n0 + c)).toInt64 - lN 48).toInt32 = numI b n0 c * nI 10 + b (n0 + c) - nI 48
      rw [Int64.toInt32_sub, Int64.toInt32_add, Int64.toInt32_mul, hw, Int32.toInt32_toInt64, Int32.mul_comm]
      rfl
    · have e : diF b (f + 1) (n0 + c) w c = (n0 + c, w, c) := by
        conv => lhs; unfold diF
        rw [if_neg h]
      rw [e]
      exact hw
theorem numI_cg {f g : Nat → Int32} {n k : Nat} (h : ∀ i, i < k → f (n + i) = g (n + i)) : numI f n k = numI g n k := by
  induction k with
  | zero => rfl
  | succ k ih => rw [numI, numI, ih (fun i hi => h i (by omega)), h k (Nat.lt_succ_self k)]
/-- the token that stands at n, no blank -/
theorem tok_at {f : Nat → Int32} {z n c : Nat} (hn : n < z) (hok : okV (f n) 256) (hb : ¬ (f n = nI 32 ∨ f n = nI 10)) (hs : skF (tB f z) (z - pHr (itP (tB f z) z c)) (pHr (itP (tB f z) z c)) = skF (tB f z) (z - n) n) :
    knP f z n (endB (tB f z) z n) = kdOf (itP (tB f z) z (c + 1)) ∧ nI n = nI (pAt (itP (tB f z) z (c + 1))) ∧ (pTk (itP (tB f z) z (c + 1)) = 2 → (if knP f z n (endB (tB f z) z n) = nI 12 then numI f n (endB (tB f z) z n - n) else nI 0) = (pW (itP (tB f z) z (c + 1))).toInt32) ∧ (pTk (itP (tB f z) z (c + 1)) = 4 ∨ (gdT (itP (tB f z) z (c + 1)) ∧ pHr (itP (tB f z) z (c + 1)) = endB (tB f z) z n)) := by
  have hbn : tB f z n = f n := tB_in hn
  have hge : ¬ tB f z n < 0 := by
    rw [hbn, hok.1]
    have := hok.2
    exact nI_pos (by omega)
  have e : itP (tB f z) z (c + 1) = tokF (tB f z) z (itP (tB f z) z c) n := by
    show nextF (tB f z) z (itP (tB f z) z c) = _
    unfold nextF
    rw [hs, skF_n hn (by rw [hbn]; exact hb)]
  rw [e]
  generalize itP (tB f z) z c = p
  unfold tokF
  rw [if_neg hge]
  by_cases c1 : inR (tB f z n) 97 122 = true
  · have hL := enF_yes hn c1
    have hE : endB (tB f z) z n = enF 97 122 (tB f z) (z - n) n := if_pos hL
    rw [if_pos c1, hE]
    have hk : knP f z n (enF 97 122 (tB f z) (z - n) n) = kdW (leF (tB f z) (z - n) n (lN 0) 0).2 := by
      unfold knP
      rw [if_pos (hbn ▸ c1), wd_kd hn c1]
    exact ⟨hk, rfl, fun z => absurd z (show (1 : Nat) ≠ 2 by decide), Or.inr ⟨⟨show (1 : Nat) ≠ 0 by decide, show (1 : Nat) ≠ 4 by decide⟩, leF_fst _ _ _ _ _⟩⟩
  · have hL := enF_no (f := z - n) c1
    rw [if_neg c1]
    by_cases c2 : inR (tB f z n) 48 57 = true
    · have hD := enF_yes hn c2
      have hE : endB (tB f z) z n = enF 48 57 (tB f z) (z - n) n := by
        unfold endB
        rw [hL, if_neg (Nat.lt_irrefl n), if_pos hD]
      have hC := diF_c (tB f z) (z - n) n (lN 0) 0
      rw [Nat.zero_add] at hC
      rw [if_pos c2, hE]
      have hk : knP f z n (enF 48 57 (tB f z) (z - n) n) = if 4 < enF 48 57 (tB f z) (z - n) n - n then -2 else nI 12 := by
        unfold knP
        rw [if_neg (by rw [← hbn]; exact c1), if_pos (hbn ▸ c2)]
      rw [hk, hC]
      by_cases c4 : 4 < enF 48 57 (tB f z) (z - n) n - n
      · rw [if_pos c4, if_pos c4]
        exact ⟨rfl, rfl, fun z => absurd z (show (4 : Nat) ≠ 2 by decide), Or.inl rfl⟩
      · rw [if_neg c4, if_neg c4]
        refine ⟨rfl, rfl, fun _ => ?_, Or.inr ⟨⟨show (2 : Nat) ≠ 0 by decide, show (2 : Nat) ≠ 4 by decide⟩, diF_fst _ _ _ _ _⟩⟩
        rw [if_pos rfl]
        have q := diF_num (b := tB f z) n (z - n) 0 (lN 0) rfl (by rw [Nat.add_zero, hC]; omega)
        rw [Nat.add_zero, hC] at q
        show _ = (diF (tB f z) (z - n) n (lN 0) 0).2.1.toInt32
        rw [q]
        have hle := enF_le 48 57 (tB f z) (z - n) n
        exact numI_cg (fun i hi => (tB_in (by omega)).symm)
    · have hD := enF_no (f := z - n) c2
      have hE : endB (tB f z) z n = n + 1 := by
        unfold endB
        rw [hL, hD, if_neg (Nat.lt_irrefl n), if_neg (Nat.lt_irrefl n)]
      rw [if_neg c2, hE]
      have hk : knP f z n (n + 1) = if isP (f n) = true then f n else -2 := by
        unfold knP
        rw [if_neg (by rw [← hbn]; exact c1), if_neg (by rw [← hbn]; exact c2)]
      rw [hk]
      by_cases c3 : isP (tB f z n) = true
      · rw [if_pos c3, if_pos (hbn ▸ c3)]
        refine ⟨?_, rfl, fun z => absurd z (show (3 : Nat) ≠ 2 by decide), Or.inr ⟨⟨show (3 : Nat) ≠ 0 by decide, show (3 : Nat) ≠ 4 by decide⟩, rfl⟩⟩
        show f n = (tB f z n).toInt64.toInt32
        rw [hbn, Int32.toInt32_toInt64]
      · rw [if_neg c3, if_neg (by rw [← hbn]; exact c3)]
        exact ⟨rfl, rfl, fun z => absurd z (show (4 : Nat) ≠ 2 by decide), Or.inl rfl⟩
theorem endB_gt {b : Nat → Int32} {z n : Nat} (hn : n < z) : n + 1 ≤ endB b z n ∧ endB b z n ≤ z := by
  have h1 := enF_le 97 122 b (z - n) n
  have h2 := enF_le 48 57 b (z - n) n
  unfold endB
  split
  · omega
  · split <;> omega
theorem endB_bl {f : Nat → Int32} {z n : Nat} (hn : n < z) (h : f n = nI 32 ∨ f n = nI 10) : endB (tB f z) z n = n + 1 := by
  have e : tB f z n = f n := tB_in hn
  unfold endB
  rw [enF_no (lo := 97) (hi := 122) (f := z - n) (by rw [e]; rcases h with h | h <;> rw [h] <;> decide), enF_no (lo := 48) (hi := 57) (f := z - n) (by rw [e]; rcases h with h | h <;> rw [h] <;> decide), if_neg (Nat.lt_irrefl n), if_neg (Nat.lt_irrefl n)]
set_option maxRecDepth 4000 in
theorem f_tokAdd {t kk pp nn c : Nat} {fk fp fn : Nat → Int32} (d : TD t kk pp nn) (hc : c < 161) (x y w : Int32) : Fn X 0 0 0 yX10_add cX10_add 4 none [.ref t, .int x, .int y, .int w] (TH h t kk pp nn c fk fp fn) (fun rv hv => rv = none ∧ hv = (TH h t kk pp nn (c + 1) (upd fk c x) (upd fp c y) (upd fn c w))) := by
  refine fn_of (by decide) (Nat.le_of_ble_eq_true rfl) (fun M hM => ?_)
  refine a_aload_n (pc := 0) dX10_add_0 rfl rfl ?_
  refine a_getfield (pc := 1) kg_X10_21 dX10_add_1 (TH_t) rfl ?_
  refine a_topi ((show nI c = nI c from rfl)) ?_
  refine a_aload_n (pc := 4) dX10_add_4 rfl rfl ?_
  refine a_getfield (pc := 5) kg_X10_9 dX10_add_5 (TH_t) rfl ?_
  refine a_alen (pc := 8) (t := 0) rfl dX10_add_8 (TH_k d) rfl ?_
  refine a_icmp_geN (pc := 9) (tgt := 52) dX10_add_9 (by decide) (by omega) (by omega) (fun c9 => ?_) (fun c9 => ?_)
  · exact absurd c9 (by omega)
  · refine a_aload_n (pc := 12) dX10_add_12 rfl rfl ?_
    refine a_getfield (pc := 13) kg_X10_9 dX10_add_13 (TH_t) rfl ?_
    refine a_aload_n (pc := 16) dX10_add_16 rfl rfl ?_
    refine a_getfield (pc := 17) kg_X10_21 dX10_add_17 (TH_t) rfl ?_
    refine a_topi ((show nI c = nI c from rfl)) ?_
    refine a_iload_n (pc := 20) dX10_add_20 rfl rfl ?_
    refine a_iastore (pc := 21) dX10_add_21 (TH_k d) (c) (rfl) (by omega) (by omega) ?_
    refine a_hp (TH_sk d) ?_
    refine a_aload_n (pc := 22) dX10_add_22 rfl rfl ?_
    refine a_getfield (pc := 23) kg_X10_15 dX10_add_23 (TH_t) rfl ?_
    refine a_aload_n (pc := 26) dX10_add_26 rfl rfl ?_
    refine a_getfield (pc := 27) kg_X10_21 dX10_add_27 (TH_t) rfl ?_
    refine a_topi ((show nI c = nI c from rfl)) ?_
    refine a_iload_n (pc := 30) dX10_add_30 rfl rfl ?_
    refine a_iastore (pc := 31) dX10_add_31 (TH_p d) (c) (rfl) (by omega) (by omega) ?_
    refine a_hp (TH_sp d) ?_
    refine a_aload_n (pc := 32) dX10_add_32 rfl rfl ?_
    refine a_getfield (pc := 33) kg_X10_18 dX10_add_33 (TH_t) rfl ?_
    refine a_aload_n (pc := 36) dX10_add_36 rfl rfl ?_
    refine a_getfield (pc := 37) kg_X10_21 dX10_add_37 (TH_t) rfl ?_
    refine a_topi ((show nI c = nI c from rfl)) ?_
    refine a_iload_n (pc := 40) dX10_add_40 rfl rfl ?_
    refine a_iastore (pc := 41) dX10_add_41 (TH_n d) (c) (rfl) (by omega) (by omega) ?_
    refine a_hp (TH_sn d) ?_
    refine a_aload_n (pc := 42) dX10_add_42 rfl rfl ?_
    refine a_dup (pc := 43) dX10_add_43 rfl ?_
    refine a_getfield (pc := 44) kg_X10_21 dX10_add_44 (TH_t) rfl ?_
    refine a_topi ((show nI c = nI c from rfl)) ?_
    refine a_iconst (pc := 47) dX10_add_47 ic_1 ?_
    refine a_iaddN (pc := 48) dX10_add_48 ?_
    refine a_putfield (pc := 49) kf_X10_21 dX10_add_49 (TH_t) (rfl) (by rfl) (Nat.le_of_ble_eq_true rfl) ?_
    refine a_hp TH_st ?_
    refine a_ret_v (pc := 52) hM rfl dX10_add_52 (by omega) (by omega) ?_
    exact ⟨rfl, rfl⟩

theorem oo_ne {h : AH} {a b c d : Nat} {fs gs : List Value} (ha : h a = some (kO c fs)) (hb : h b = some (kO d gs)) (hcd : c ≠ d := by decide) : a ≠ b := fun z => by
  rw [z, hb] at ha
  exact hcd (congrArg Prod.fst (Sum.inr.inj (Option.some.inj ha))).symm
theorem oi_ne {h : AH} {a b c n : Nat} {fs : List Value} {f : Nat → Int32} (ha : h a = some (kO c fs)) (hb : h b = some (kI n f)) : a ≠ b := fun z => by
  rw [z, hb] at ha
  exact absurd (Option.some.inj ha) (by simp)
set_option maxRecDepth 4000 in
theorem f_cutTape {a bt z : Nat} {f : Nat → Int32} (hT : TP h a bt z f) (hok : ∀ i, i < z → okV (f i) 256) {t kk pp nn c0 : Nat} {fk fp fn : Nat → Int32} (d : TD t kk pp nn) (ht : h t = some (kO 10 [.ref kk, .ref pp, .ref nn, .int (nI c0)])) (hkk : h kk = some (kI 161 fk)) (hpp : h pp = some (kI 161 fp)) (hnn : h nn = some (kI 161 fn)) (b1 : bt ≠ kk) (b2 : bt ≠ pp) (b3 : bt ≠ nn) : Fn X 7 0 0 yX10_cutTape cX10_cutTape 5 none [.ref t, .ref a] h (fun rv hv => rv = none ∧ ∃ (c : Nat) (fk fp fn : Nat → Int32), hv = TH h t kk pp nn c fk fp fn ∧ TokOk (tB f z) z c fk fp fn) := by
  refine fn_of (by decide) (Nat.le_of_ble_eq_true rfl) (fun M hM => ?_)
  have TPx : ∀ (c : Nat) (fk fp fn : Nat → Int32), TP (TH h t kk pp nn c fk fp fn) a bt z f := fun c fk fp fn => ⟨(TH_o (oo_ne hT.1 ht) (oi_ne hT.1 hkk) (oi_ne hT.1 hpp) (oi_ne hT.1 hnn)).trans hT.1, (TH_o (Ne.symm (oi_ne ht hT.2.1)) b1 b2 b3).trans hT.2.1, hT.2.2⟩
  have hz := hT.2.2
  have lp : ∀ (m n c : Nat) (fk fp fn : Nat → Int32), z - n < m → n ≤ z → c ≤ n → TokI (tB f z) z n c fk fp fn → AJ X M yX10_cutTape cX10_cutTape 5 none 9 [(0, .ref t), (1, .ref a), (3, .int (nI n))] [] (TH h t kk pp nn c fk fp fn) 0 0 := by
    intro m
    induction m with
    | zero => intro n c fk fp fn hm; exact absurd hm (Nat.not_lt_zero _)
    | succ m ih =>
      intro n c fk fp fn hm hle hcn hI
      have ih2 : ∀ (n' c : Nat) (fk fp fn : Nat → Int32), n < n' → n' ≤ z → c ≤ n' → TokI (tB f z) z n' c fk fp fn → AJ X M yX10_cutTape cX10_cutTape 5 none 9 [(0, .ref t), (1, .ref a), (3, .int (nI n'))] [] (TH h t kk pp nn c fk fp fn) 0 0 := fun n' c fk fp fn q1 q2 q3 q4 => ih n' c fk fp fn (by omega) q2 q3 q4
      rcases Nat.eq_or_lt_of_le hle with hz2 | hz2
      · skip
        refine a_iload_n (pc := 9) dX10_cutTape_9 rfl rfl ?_
        refine a_aload_n (pc := 10) dX10_cutTape_10 rfl rfl ?_
        refine a_getfield (pc := 11) kg_X10_25 dX10_cutTape_11 ((TPx c fk fp fn).1) rfl ?_
        refine a_topi ((show nI z = nI z from rfl)) ?_
        refine a_icmp_geN (pc := 14) (tgt := 78) dX10_cutTape_14 (by decide) (by omega) (by omega) (fun c14 => ?_) (fun c14 => ?_)
        · have hn : n = z := by omega
          subst hn
          refine a_aload_n (pc := 78) dX10_cutTape_78 rfl rfl ?_
          refine a_iconst (pc := 79) dX10_cutTape_79 ic_m1 ?_
          refine a_aload_n (pc := 80) dX10_cutTape_80 rfl rfl ?_
          refine a_getfield (pc := 81) kg_X10_25 dX10_cutTape_81 ((TPx c fk fp fn).1) rfl ?_
          refine a_topi ((show nI n = nI n from rfl)) ?_
          refine a_iconst (pc := 84) dX10_cutTape_84 ic_0 ?_
          refine a_callV (pc := 85) km_X10_47 dX10_cutTape_85 (f_tokAdd d (by omega) (-1) (nI n) (nI 0)) rfl rfl (krecv_of (by rfl) TH_t) (rok_of hM (by decide) (by decide) (by omega) (by omega)) (Nat.le_of_ble_eq_true rfl) (fun r85 h85 hp85 => ?_)
          obtain ⟨rfl, rfl⟩ := hp85
          refine a_ret_v (pc := 88) hM rfl dX10_cutTape_88 (by omega) (by omega) ?_
          exact ⟨rfl, c + 1, _, _, _, rfl, TokI_end (fun i hi => tB_out hi) (by omega) hI⟩
        · exact absurd c14 (by omega)
      · skip
        refine a_iload_n (pc := 9) dX10_cutTape_9 rfl rfl ?_
        refine a_aload_n (pc := 10) dX10_cutTape_10 rfl rfl ?_
        refine a_getfield (pc := 11) kg_X10_25 dX10_cutTape_11 ((TPx c fk fp fn).1) rfl ?_
        refine a_topi ((show nI z = nI z from rfl)) ?_
        refine a_icmp_geN (pc := 14) (tgt := 78) dX10_cutTape_14 (by decide) (by omega) (by omega) (fun c14 => ?_) (fun c14 => ?_)
        · exact absurd c14 (by omega)
        · have hE := endB_gt (b := tB f z) (z := z) (n := n) (by omega)
          refine a_aload_n (pc := 17) dX10_cutTape_17 rfl rfl ?_
          refine a_iload_n (pc := 18) dX10_cutTape_18 rfl rfl ?_
          refine a_callV (pc := 19) km_X10_28 dX10_cutTape_19 (f_endFrom (TPx c fk fp fn) (by omega)) rfl rfl (krecv_of (by rfl) (TPx c fk fp fn).1) (rok_of hM (by decide) (by decide) (by omega) (by omega)) (Nat.le_of_ble_eq_true rfl) (fun r19 h19 hp19 => ?_)
          obtain ⟨rfl, rfl⟩ := hp19
          refine a_istore_n (pc := 22) dX10_cutTape_22 rfl (by decide) rfl ?_
          refine a_aload_n (pc := 23) dX10_cutTape_23 rfl rfl ?_
          refine a_getfield (pc := 24) kg_X10_32 dX10_cutTape_24 ((TPx c fk fp fn).1) rfl ?_
          refine a_iload_n (pc := 27) dX10_cutTape_27 rfl rfl ?_
          refine a_iaload (pc := 28) dX10_cutTape_28 ((TPx c fk fp fn).2.1) (n) (rfl) (by omega) (by omega) ?_
          refine a_callS (pc := 29) km_X10_35 dX10_cutTape_29 (f_isB (f n)) rfl rfl (rok_of hM (by decide) (by decide) (by omega) (by omega)) (Nat.le_of_ble_eq_true rfl) (fun r29 h29 hp29 => ?_)
          obtain ⟨rfl, rfl⟩ := hp29
          refine a_if_neB (pc := 32) (tgt := 67) dX10_cutTape_32 (by decide) (fun c32 => ?_) (fun c32 => ?_)
          · have hbl : f n = nI 32 ∨ f n = nI 10 := of_decide_eq_true c32
            have hI2 : TokI (tB f z) z (endB (tB f z) z n) c fk fp fn := by
              rw [endB_bl (by omega) hbl]
              exact hI.imp (fun q => ⟨q.1, q.2.trans (skF_b1 (by omega) (by rw [tB_in (by omega)]; exact hbl))⟩) id
            refine a_iload_n (pc := 67) dX10_cutTape_67 rfl rfl ?_
            refine a_iconst (pc := 68) dX10_cutTape_68 ic_1 ?_
            refine a_iaddN (pc := 69) dX10_cutTape_69 ?_
            refine a_iload_n (pc := 70) dX10_cutTape_70 rfl rfl ?_
            refine a_mmax (pc := 71) km_X10_51 dX10_cutTape_71 (by rw [hM.1]; simp only [rmd]; omega) (by rw [hM.1]; simp [rmd, Value.category] <;> omega) (by rw [hM.1]; simp only [rmd]; omega) (by rw [hM.1]; simp only [rmd]; omega) ?_
            refine a_topi (nI_max (by omega) (by omega)) ?_
            refine a_topi (show _ = nI (endB (tB f z) z n) by rw [Nat.max_eq_right (by omega)]) ?_
            refine a_istore_n (pc := 74) dX10_cutTape_74 rfl (by decide) rfl ?_
            refine a_goto (pc := 75) (tgt := 9) dX10_cutTape_75 (by decide) ?_
            first | exact a_locR (ih2 (endB (tB f z) z n) c fk fp fn (by omega) (by omega) (by omega) hI2) ⟨rfl, rfl, rfl, trivial⟩ | exact a_locR (ih2 (endB (tB f z) z n) (c + 1) _ _ _ (by omega) (by omega) (by omega) hI2) ⟨rfl, rfl, rfl, trivial⟩
          · have hbl : ¬ (f n = nI 32 ∨ f n = nI 10) := of_decide_eq_false c32
            have hI2 : TokI (tB f z) z (endB (tB f z) z n) (c + 1) (upd fk c (knP f z n (endB (tB f z) z n))) (upd fp c (nI n)) (upd fn c (if knP f z n (endB (tB f z) z n) = nI 12 then numI f n (endB (tB f z) z n - n) else nI 0)) := TokI_add hI (fun q => tok_at (by omega) (hok n (by omega)) hbl q)
            refine a_aload_n (pc := 35) dX10_cutTape_35 rfl rfl ?_
            refine a_iload_n (pc := 36) dX10_cutTape_36 rfl rfl ?_
            refine a_iload_n (pc := 37) dX10_cutTape_37 rfl rfl ?_
            refine a_callS (pc := 38) km_X10_39 dX10_cutTape_38 (f_kindOf (TPx c fk fp fn) (by omega) (by omega) (by omega)) rfl rfl (rok_of hM (by decide) (by decide) (by omega) (by omega)) (Nat.le_of_ble_eq_true rfl) (fun r38 h38 hp38 => ?_)
            obtain ⟨rfl, rfl⟩ := hp38
            refine a_istore (pc := 41) dX10_cutTape_41 (by decide) rfl ?_
            refine a_aload_n (pc := 43) dX10_cutTape_43 rfl rfl ?_
            refine a_iload (pc := 44) dX10_cutTape_44 rfl ?_
            refine a_iload_n (pc := 46) dX10_cutTape_46 rfl rfl ?_
            refine a_iload (pc := 47) dX10_cutTape_47 rfl ?_
            refine a_bipush (pc := 49) dX10_cutTape_49 ib_12 ?_
            refine a_icmp_ne (pc := 51) (tgt := 63) dX10_cutTape_51 (by decide) (fun c51 => ?_) (fun c51 => ?_)
            · have hnum : nI 0 = (if knP f z n (endB (tB f z) z n) = nI 12 then numI f n (endB (tB f z) z n - n) else nI 0) := (if_neg c51).symm
              refine a_iconst (pc := 63) dX10_cutTape_63 ic_0 ?_
              refine a_topi hnum ?_
              refine a_callV (pc := 64) km_X10_47 dX10_cutTape_64 (f_tokAdd d (by omega) (knP f z n (endB (tB f z) z n)) (nI n) (if knP f z n (endB (tB f z) z n) = nI 12 then numI f n (endB (tB f z) z n - n) else nI 0)) rfl rfl (krecv_of (by rfl) TH_t) (rok_of hM (by decide) (by decide) (by omega) (by omega)) (Nat.le_of_ble_eq_true rfl) (fun r64 h64 hp64 => ?_)
              obtain ⟨rfl, rfl⟩ := hp64
              refine a_iload_n (pc := 67) dX10_cutTape_67 rfl rfl ?_
              refine a_iconst (pc := 68) dX10_cutTape_68 ic_1 ?_
              refine a_iaddN (pc := 69) dX10_cutTape_69 ?_
              refine a_iload_n (pc := 70) dX10_cutTape_70 rfl rfl ?_
              refine a_mmax (pc := 71) km_X10_51 dX10_cutTape_71 (by rw [hM.1]; simp only [rmd]; omega) (by rw [hM.1]; simp [rmd, Value.category] <;> omega) (by rw [hM.1]; simp only [rmd]; omega) (by rw [hM.1]; simp only [rmd]; omega) ?_
              refine a_topi (nI_max (by omega) (by omega)) ?_
              refine a_topi (show _ = nI (endB (tB f z) z n) by rw [Nat.max_eq_right (by omega)]) ?_
              refine a_istore_n (pc := 74) dX10_cutTape_74 rfl (by decide) rfl ?_
              refine a_goto (pc := 75) (tgt := 9) dX10_cutTape_75 (by decide) ?_
              first | exact a_locR (ih2 (endB (tB f z) z n) c fk fp fn (by omega) (by omega) (by omega) hI2) ⟨rfl, rfl, rfl, trivial⟩ | exact a_locR (ih2 (endB (tB f z) z n) (c + 1) _ _ _ (by omega) (by omega) (by omega) hI2) ⟨rfl, rfl, rfl, trivial⟩
            · have hnum : numI f n (endB (tB f z) z n - n) = (if knP f z n (endB (tB f z) z n) = nI 12 then numI f n (endB (tB f z) z n - n) else nI 0) := (if_pos c51).symm
              refine a_aload_n (pc := 54) dX10_cutTape_54 rfl rfl ?_
              refine a_iload_n (pc := 55) dX10_cutTape_55 rfl rfl ?_
              refine a_iload_n (pc := 56) dX10_cutTape_56 rfl rfl ?_
              refine a_callV (pc := 57) km_X10_43 dX10_cutTape_57 (f_numIn (TPx c fk fp fn) (by omega) (by omega)) rfl rfl (krecv_of (by rfl) (TPx c fk fp fn).1) (rok_of hM (by decide) (by decide) (by omega) (by omega)) (Nat.le_of_ble_eq_true rfl) (fun r57 h57 hp57 => ?_)
              obtain ⟨rfl, rfl⟩ := hp57
              refine a_goto (pc := 60) (tgt := 64) dX10_cutTape_60 (by decide) ?_
              refine a_topi hnum ?_
              refine a_callV (pc := 64) km_X10_47 dX10_cutTape_64 (f_tokAdd d (by omega) (knP f z n (endB (tB f z) z n)) (nI n) (if knP f z n (endB (tB f z) z n) = nI 12 then numI f n (endB (tB f z) z n - n) else nI 0)) rfl rfl (krecv_of (by rfl) TH_t) (rok_of hM (by decide) (by decide) (by omega) (by omega)) (Nat.le_of_ble_eq_true rfl) (fun r64 h64 hp64 => ?_)
              obtain ⟨rfl, rfl⟩ := hp64
              refine a_iload_n (pc := 67) dX10_cutTape_67 rfl rfl ?_
              refine a_iconst (pc := 68) dX10_cutTape_68 ic_1 ?_
              refine a_iaddN (pc := 69) dX10_cutTape_69 ?_
              refine a_iload_n (pc := 70) dX10_cutTape_70 rfl rfl ?_
              refine a_mmax (pc := 71) km_X10_51 dX10_cutTape_71 (by rw [hM.1]; simp only [rmd]; omega) (by rw [hM.1]; simp [rmd, Value.category] <;> omega) (by rw [hM.1]; simp only [rmd]; omega) (by rw [hM.1]; simp only [rmd]; omega) ?_
              refine a_topi (nI_max (by omega) (by omega)) ?_
              refine a_topi (show _ = nI (endB (tB f z) z n) by rw [Nat.max_eq_right (by omega)]) ?_
              refine a_istore_n (pc := 74) dX10_cutTape_74 rfl (by decide) rfl ?_
              refine a_goto (pc := 75) (tgt := 9) dX10_cutTape_75 (by decide) ?_
              first | exact a_locR (ih2 (endB (tB f z) z n) c fk fp fn (by omega) (by omega) (by omega) hI2) ⟨rfl, rfl, rfl, trivial⟩ | exact a_locR (ih2 (endB (tB f z) z n) (c + 1) _ _ _ (by omega) (by omega) (by omega) hI2) ⟨rfl, rfl, rfl, trivial⟩
  refine a_hp (TH_self d ht hkk hpp hnn).symm ?_
  refine a_aload_n (pc := 0) dX10_cutTape_0 rfl rfl ?_
  refine a_iconst (pc := 1) dX10_cutTape_1 ic_0 ?_
  refine a_putfield (pc := 2) kf_X10_21 dX10_cutTape_2 (TH_t) (rfl) (by rfl) (Nat.le_of_ble_eq_true rfl) ?_
  refine a_hp (TH_st (c' := 0)) ?_
  refine a_iconst (pc := 5) dX10_cutTape_5 ic_0 ?_
  refine a_istore_n (pc := 6) dX10_cutTape_6 rfl (by decide) rfl ?_
  refine a_iconst (pc := 7) dX10_cutTape_7 ic_0 ?_
  refine a_istore_n (pc := 8) dX10_cutTape_8 rfl (by decide) rfl ?_
  exact a_locR (lp (z + 1) 0 0 fk fp fn (by omega) (Nat.zero_le _) (Nat.le_refl 0) (Or.inl ⟨fun j hj => absurd hj (Nat.not_lt_zero _), rfl⟩)) ⟨rfl, rfl, rfl, trivial⟩

end CCU

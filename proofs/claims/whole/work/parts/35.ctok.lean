/-! TOKENS -/
section CTK
variable {X : KX} {h : AH}
def rlN (g : Nat → Nat) : Nat → List Nat
  | 0 => []
  | k + 1 => g k :: rlN g k
theorem rlN_eq {g g' : Nat → Nat} {L L' : Nat} : rlN g L = rlN g' L' ↔ L = L' ∧ ∀ k, k < L → g k = g' k := by
  induction L generalizing L' with
  | zero =>
    cases L' with
    | zero => exact ⟨fun _ => ⟨rfl, fun k hk => absurd hk (Nat.not_lt_zero _)⟩, fun _ => rfl⟩
    | succ L' => exact ⟨fun h => by simp [rlN] at h, fun h => by omega⟩
  | succ L ih =>
    cases L' with
    | zero => exact ⟨fun h => by simp [rlN] at h, fun h => by omega⟩
    | succ L' =>
      constructor
      · intro h
        have h1 := List.cons.inj h
        obtain ⟨h2, h3⟩ := ih.mp h1.2
        refine ⟨by omega, fun k hk => ?_⟩
        by_cases e : k = L
        · rw [e, h1.1, ← h2]
        · exact h3 k (by omega)
      · rintro ⟨h1, h2⟩
        have e : L = L' := by omega
        subst e
        show g L :: rlN g L = g' L :: rlN g' L
        rw [h2 L (by omega), ih.mpr ⟨rfl, fun k hk => h2 k (by omega)⟩]
def vaL : List Nat → Nat
  | [] => 0
  | x :: l => 27 * vaL l + x
theorem vaL_inj {l l' : List Nat} (h : ∀ x ∈ l, 1 ≤ x ∧ x ≤ 26) (h' : ∀ x ∈ l', 1 ≤ x ∧ x ≤ 26) (e : vaL l = vaL l') : l = l' := by
  induction l generalizing l' with
  | nil =>
    cases l' with
    | nil => rfl
    | cons y l' =>
      have := h' y (List.mem_cons_self ..)
      have e : 0 = 27 * vaL l' + y := e
      omega
  | cons x l ih =>
    cases l' with
    | nil =>
      have := h x (List.mem_cons_self ..)
      have e : 27 * vaL l + x = 0 := e
      omega
    | cons y l' =>
      have hx := h x (List.mem_cons_self ..)
      have hy := h' y (List.mem_cons_self ..)
      have e : 27 * vaL l + x = 27 * vaL l' + y := e
      have e1 : x = y := by omega
      have e2 : vaL l = vaL l' := by omega
      rw [e1, ih (fun z hz => h z (List.mem_cons_of_mem _ hz)) (fun z hz => h' z (List.mem_cons_of_mem _ hz)) e2]
theorem rlN_mem {g : Nat → Nat} {L : Nat} {P : Nat → Prop} (h : ∀ k, k < L → P (g k)) : ∀ x ∈ rlN g L, P x := by
  induction L with
  | zero => intro x hx; exact absurd hx (List.not_mem_nil)
  | succ L ih =>
    intro x hx
    rcases List.mem_cons.mp hx with e | e
    · rw [e]; exact h L (by omega)
    · exact ih (fun k hk => h k (by omega)) x e
theorem vaL_lt {g : Nat → Nat} {L : Nat} (h : ∀ k, k < L → g k ≤ 26) : vaL (rlN g L) < 27 ^ L := by
  induction L with
  | zero =>
    show 0 < 27 ^ 0
    decide
  | succ L ih =>
    have h1 := ih (fun k hk => h k (by omega))
    have h2 := h L (by omega)
    show 27 * vaL (rlN g L) + g L < 27 ^ (L + 1)
    rw [Nat.pow_succ]
    omega
/-- letters' numbers -/
def ltN (x : Int32) : Nat := x.toNatClampNeg - 96
theorem enF_in {lo hi : Nat} {b : Nat → Int32} (f n k : Nat) (h1 : n ≤ k) (h2 : k < enF lo hi b f n) : inR (b k) lo hi = true := by
  induction f generalizing n with
  | zero => unfold enF at h2; omega
  | succ f ih =>
    unfold enF at h2
    split at h2
    · rename_i hp
      rcases Nat.eq_or_lt_of_le h1 with e | e
      · rw [← e]; exact hp
      · exact ih (n + 1) e h2
    · omega
theorem leF_w {b : Nat → Int32} (n0 : Nat) (f c : Nat) (w : Int64) (hw : w = if c ≤ 8 then lN (vaL (rlN (fun k => ltN (b (n0 + k))) c)) else -1) :
    (leF b f (n0 + c) w c).2 = if enF 97 122 b f (n0 + c) - n0 ≤ 8 then lN (vaL (rlN (fun k => ltN (b (n0 + k))) (enF 97 122 b f (n0 + c) - n0))) else -1 := by
  induction f generalizing c w with
  | zero =>
    show w = _
    rw [show enF 97 122 b 0 (n0 + c) - n0 = c from Nat.add_sub_cancel_left n0 c]
    exact hw
  | succ f ih =>
    unfold leF enF
    by_cases hin : inR (b (n0 + c)) 97 122 = true
    · rw [if_pos hin, if_pos hin]
      refine ih (c + 1) _ ?_
      obtain ⟨x, hx1, hx2, hx⟩ := inR_of hin (by decide)
      by_cases hc : c < 8
      · rw [if_pos hc, if_pos (by omega), hw, if_pos (by omega)]
        show _ = lN (27 * vaL (rlN (fun k => ltN (b (n0 + k))) c) + ltN (b (n0 + c)))
        have e : ltN (b (n0 + c)) = x - 96 := by unfold ltN; rw [hx, nI_clamp (by omega)]
        rw [e, hx, nI_l (by omega), lN_mul, lN_add, lN_sub (by omega)]
        congr 1
        omega
      · rw [if_neg hc, if_neg (by omega)]
    · rw [if_neg hin, if_neg hin, Nat.add_sub_cancel_left]
      exact hw
def gwN (i : Nat) : Nat → Nat := fun k => ltN (sB i k)
theorem word_ok : ∀ i, i < 13 → 1 ≤ i → ∀ k, k < sL i → 1 ≤ gwN i k ∧ gwN i k ≤ 26 ∧ sB i k = nI (96 + gwN i k) := by decide +kernel
theorem word_len : ∀ i, i < 13 → 1 ≤ i → sL i ≤ 5 ∧ 1 ≤ sL i := by decide +kernel
theorem lN_inj {a b : Nat} (ha : a < 2 ^ 62) (hb : b < 2 ^ 62) (h : lN a = lN b) : a = b := by
  have h1 : (lN a).toInt = (lN b).toInt := by rw [h]
  rw [← lZ_N, ← lZ_N, lZ_toInt (by rw [Int.natAbs_natCast]; exact ha), lZ_toInt (by rw [Int.natAbs_natCast]; exact hb)] at h1
  omega
theorem lN_m1 {a : Nat} (ha : a < 2 ^ 62) : lN a ≠ -1 := fun h => by
  have h1 : (lN a).toInt = (-1 : Int64).toInt := by rw [h]
  rw [← lZ_N, lZ_toInt (by rw [Int.natAbs_natCast]; exact ha)] at h1
  have : (-1 : Int64).toInt = -1 := by decide
  omega
/-- a word of letters stands there iff its worth is the word's -/
theorem word_iff {f : Nat → Int32} {z n i : Nat} (hi : i < 13) (hi1 : 1 ≤ i) (hn : n < z) (hl : inR (tB f z n) 97 122 = true) :
    stP f z i n (enF 97 122 (tB f z) (z - n) n) = true ↔ (leF (tB f z) (z - n) n (lN 0) 0).2 = lN (vaL (rlN (gwN i) (sL i))) := by
  have hw := leF_w (b := tB f z) n (z - n) 0 (lN 0) rfl
  rw [Nat.add_zero] at hw
  have hge := enF_ge 97 122 (tB f z) (z - n) n
  have hle := enF_le 97 122 (tB f z) (z - n) n
  rw [hw]
  have hin : ∀ k, n ≤ k → k < enF 97 122 (tB f z) (z - n) n → inR (tB f z k) 97 122 = true := fun k h1 h2 => enF_in _ _ _ h1 h2
  generalize enF 97 122 (tB f z) (z - n) n = e at hge hle hin ⊢
  have hd : ∀ k, k < e - n → 1 ≤ ltN (tB f z (n + k)) ∧ ltN (tB f z (n + k)) ≤ 26 ∧ tB f z (n + k) = nI (96 + ltN (tB f z (n + k))) := fun k hk => by
    obtain ⟨x, h1, h2, h3⟩ := inR_of (hin (n + k) (by omega) (by omega)) (by decide)
    have e : ltN (tB f z (n + k)) = x - 96 := by unfold ltN; rw [h3, nI_clamp (by omega)]
    rw [e, h3]
    exact ⟨by omega, by omega, by rw [show 96 + (x - 96) = x by omega]⟩
  have hwl := word_len i hi hi1
  have hwo := word_ok i hi hi1
  have hv2 : vaL (rlN (gwN i) (sL i)) < 27 ^ sL i := vaL_lt (fun k hk => (hwo k hk).2.1)
  have hp5 : 27 ^ sL i ≤ 27 ^ 5 := Nat.pow_le_pow_right (by decide) hwl.1
  unfold stP
  rw [decide_eq_true_eq]
  constructor
  · rintro ⟨h1, h2, h3⟩
    rw [if_pos (by omega)]
    refine congrArg (fun l => lN (vaL l)) ?_
    rw [rlN_eq]
    refine ⟨h1.symm, fun k hk => ?_⟩
    show ltN (tB f z (n + k)) = ltN (sB i k)
    rw [tB_in (by omega), h3 k (by omega)]
  · intro h
    by_cases h8 : e - n ≤ 8
    · rw [if_pos h8] at h
      have hv1 : vaL (rlN (fun k => ltN (tB f z (n + k))) (e - n)) < 27 ^ (e - n) := vaL_lt (fun k hk => (hd k hk).2.1)
      have hp8 : 27 ^ (e - n) ≤ 27 ^ 8 := Nat.pow_le_pow_right (by decide) h8
      have e1 := lN_inj (by omega) (by omega) h
      have e2 := vaL_inj (rlN_mem (P := fun x => 1 ≤ x ∧ x ≤ 26) (fun k hk => ⟨(hd k hk).1, (hd k hk).2.1⟩)) (rlN_mem (P := fun x => 1 ≤ x ∧ x ≤ 26) (fun k hk => ⟨(hwo k hk).1, (hwo k hk).2.1⟩)) e1
      obtain ⟨e3, e4⟩ := rlN_eq.mp e2
      refine ⟨e3.symm, by omega, fun k hk => ?_⟩
      have e5 : ltN (tB f z (n + k)) = gwN i k := e4 k (by omega)
      rw [← tB_in (f := f) (z := z) (i := n + k) (by omega), (hd k (by omega)).2.2, e5, ← (hwo k hk).2.2]
    · rw [if_neg h8] at h
      exact absurd h.symm (lN_m1 (by omega))
/-- a word's number among the words that are known, by its worth -/
def kdW (x : Int64) : Int32 := if x = lN 164584 then nI 0 else if x = lN 13703 then nI 1 else if x = lN 1065 then nI 2 else if x = lN 6476752 then nI 3 else if x = lN 2968 then nI 4 else if x = lN 279875 then nI 5 else if x = lN 388978 then nI 6 else if x = lN 220309 then nI 7 else if x = lN 13903 then nI 8 else if x = lN 423 then nI 9 else if x = lN 1111 then nI 10 else if x = lN 10631 then nI 11 else -2
def wdP (f : Nat → Int32) (z n e : Nat) : Nat → Nat → Int32
  | 0, _ => -2
  | k + 1, w => if stP f z (w + 1) n e = true then nI w else wdP f z n e k (w + 1)
theorem wd_kd {f : Nat → Int32} {z n : Nat} (hn : n < z) (hl : inR (tB f z n) 97 122 = true) : wdP f z n (enF 97 122 (tB f z) (z - n) n) 12 0 = kdW (leF (tB f z) (z - n) n (lN 0) 0).2 := by
  have v : ∀ i, i < 13 → 1 ≤ i → (stP f z i n (enF 97 122 (tB f z) (z - n) n) = true ↔ (leF (tB f z) (z - n) n (lN 0) 0).2 = lN (vaL (rlN (gwN i) (sL i)))) := fun i h1 h2 => word_iff h1 h2 hn hl
  generalize (leF (tB f z) (z - n) n (lN 0) 0).2 = W at v ⊢
  generalize enF 97 122 (tB f z) (z - n) n = e at v ⊢
  have v1 : stP f z 1 n e = true ↔ W = lN 164584 := v 1 (by decide) (by decide)
  have v2 : stP f z 2 n e = true ↔ W = lN 13703 := v 2 (by decide) (by decide)
  have v3 : stP f z 3 n e = true ↔ W = lN 1065 := v 3 (by decide) (by decide)
  have v4 : stP f z 4 n e = true ↔ W = lN 6476752 := v 4 (by decide) (by decide)
  have v5 : stP f z 5 n e = true ↔ W = lN 2968 := v 5 (by decide) (by decide)
  have v6 : stP f z 6 n e = true ↔ W = lN 279875 := v 6 (by decide) (by decide)
  have v7 : stP f z 7 n e = true ↔ W = lN 388978 := v 7 (by decide) (by decide)
  have v8 : stP f z 8 n e = true ↔ W = lN 220309 := v 8 (by decide) (by decide)
  have v9 : stP f z 9 n e = true ↔ W = lN 13903 := v 9 (by decide) (by decide)
  have v10 : stP f z 10 n e = true ↔ W = lN 423 := v 10 (by decide) (by decide)
  have v11 : stP f z 11 n e = true ↔ W = lN 1111 := v 11 (by decide) (by decide)
  have v12 : stP f z 12 n e = true ↔ W = lN 10631 := v 12 (by decide) (by decide)
  simp only [wdP, kdW, v1, v2, v3, v4, v5, v6, v7, v8, v9, v10, v11, v12]
set_option maxRecDepth 4000 in
theorem f_wordOf {w : Nat} (hw : w < 12) : Fn X 0 0 0 yX10_wordOf cX10_wordOf 1 (some (.object "java/lang/String")) [.int (nI w)] h (fun rv hv => rv = some (.ref (sK X (w + 1))) ∧ hv = h) := by
  refine fn_of (by decide) (Nat.le_of_ble_eq_true rfl) (fun M hM => ?_)
  refine a_iload_n (pc := 0) dX10_wordOf_0 rfl rfl ?_
  rcases (by omega : w = 0 ∨ w = 1 ∨ w = 2 ∨ w = 3 ∨ w = 4 ∨ w = 5 ∨ w = 6 ∨ w = 7 ∨ w = 8 ∨ w = 9 ∨ w = 10 ∨ w = 11) with rfl | rfl | rfl | rfl | rfl | rfl | rfl | rfl | rfl | rfl | rfl | rfl
  · refine a_tabIn (pc := 1) (off := 59) (tgt := 60) dX10_wordOf_1 (by decide) (by decide) rfl (by decide) ?_
    refine a_ldcS (pc := 60) (q := ("FiveCards$Tokens", 73, "hits", 1)) (by decide +kernel) rfl dX10_wordOf_60 ?_
    refine a_ret_a (pc := 62) hM rfl (Or.inl ⟨_, rfl⟩) (Or.inr ⟨_, rfl⟩) dX10_wordOf_62 (by omega) (by omega) ?_
    exact ⟨rfl, rfl⟩
  · refine a_tabIn (pc := 1) (off := 62) (tgt := 63) dX10_wordOf_1 (by decide) (by decide) rfl (by decide) ?_
    refine a_ldcS (pc := 63) (q := ("FiveCards$Tokens", 75, "run", 2)) (by decide +kernel) rfl dX10_wordOf_63 ?_
    refine a_ret_a (pc := 65) hM rfl (Or.inl ⟨_, rfl⟩) (Or.inr ⟨_, rfl⟩) dX10_wordOf_65 (by omega) (by omega) ?_
    exact ⟨rfl, rfl⟩
  · refine a_tabIn (pc := 1) (off := 65) (tgt := 66) dX10_wordOf_1 (by decide) (by decide) rfl (by decide) ?_
    refine a_ldcS (pc := 66) (q := ("FiveCards$Tokens", 77, "all", 3)) (by decide +kernel) rfl dX10_wordOf_66 ?_
    refine a_ret_a (pc := 68) hM rfl (Or.inl ⟨_, rfl⟩) (Or.inr ⟨_, rfl⟩) dX10_wordOf_68 (by omega) (by omega) ?_
    exact ⟨rfl, rfl⟩
  · refine a_tabIn (pc := 1) (off := 68) (tgt := 69) dX10_wordOf_1 (by decide) (by decide) rfl (by decide) ?_
    refine a_ldcS (pc := 69) (q := ("FiveCards$Tokens", 79, "leaks", 4)) (by decide +kernel) rfl dX10_wordOf_69 ?_
    refine a_ret_a (pc := 71) hM rfl (Or.inl ⟨_, rfl⟩) (Or.inr ⟨_, rfl⟩) dX10_wordOf_71 (by omega) (by omega) ?_
    exact ⟨rfl, rfl⟩
  · refine a_tabIn (pc := 1) (off := 71) (tgt := 72) dX10_wordOf_1 (by decide) (by decide) rfl (by decide) ?_
    refine a_ldcS (pc := 72) (q := ("FiveCards$Tokens", 81, "day", 5)) (by decide +kernel) rfl dX10_wordOf_72 ?_
    refine a_ret_a (pc := 74) hM rfl (Or.inl ⟨_, rfl⟩) (Or.inr ⟨_, rfl⟩) dX10_wordOf_74 (by omega) (by omega) ?_
    exact ⟨rfl, rfl⟩
  · refine a_tabIn (pc := 1) (off := 74) (tgt := 75) dX10_wordOf_1 (by decide) (by decide) rfl (by decide) ?_
    refine a_ldcS (pc := 75) (q := ("FiveCards$Tokens", 83, "next", 6)) (by decide +kernel) rfl dX10_wordOf_75 ?_
    refine a_ret_a (pc := 77) hM rfl (Or.inl ⟨_, rfl⟩) (Or.inr ⟨_, rfl⟩) dX10_wordOf_77 (by omega) (by omega) ?_
    exact ⟨rfl, rfl⟩
  · refine a_tabIn (pc := 1) (off := 77) (tgt := 78) dX10_wordOf_1 (by decide) (by decide) rfl (by decide) ?_
    refine a_ldcS (pc := 78) (q := ("FiveCards$Tokens", 85, "stop", 7)) (by decide +kernel) rfl dX10_wordOf_78 ?_
    refine a_ret_a (pc := 80) hM rfl (Or.inl ⟨_, rfl⟩) (Or.inr ⟨_, rfl⟩) dX10_wordOf_80 (by omega) (by omega) ?_
    exact ⟨rfl, rfl⟩
  · refine a_tabIn (pc := 1) (off := 80) (tgt := 81) dX10_wordOf_1 (by decide) (by decide) rfl (by decide) ?_
    refine a_ldcS (pc := 81) (q := ("FiveCards$Tokens", 87, "keep", 8)) (by decide +kernel) rfl dX10_wordOf_81 ?_
    refine a_ret_a (pc := 83) hM rfl (Or.inl ⟨_, rfl⟩) (Or.inr ⟨_, rfl⟩) dX10_wordOf_83 (by omega) (by omega) ?_
    exact ⟨rfl, rfl⟩
  · refine a_tabIn (pc := 1) (off := 83) (tgt := 84) dX10_wordOf_1 (by decide) (by decide) rfl (by decide) ?_
    refine a_ldcS (pc := 84) (q := ("FiveCards$Tokens", 89, "say", 9)) (by decide +kernel) rfl dX10_wordOf_84 ?_
    refine a_ret_a (pc := 86) hM rfl (Or.inl ⟨_, rfl⟩) (Or.inr ⟨_, rfl⟩) dX10_wordOf_86 (by omega) (by omega) ?_
    exact ⟨rfl, rfl⟩
  · refine a_tabIn (pc := 1) (off := 86) (tgt := 87) dX10_wordOf_1 (by decide) (by decide) rfl (by decide) ?_
    refine a_ldcS (pc := 87) (q := ("FiveCards$Tokens", 91, "or", 10)) (by decide +kernel) rfl dX10_wordOf_87 ?_
    refine a_ret_a (pc := 89) hM rfl (Or.inl ⟨_, rfl⟩) (Or.inr ⟨_, rfl⟩) dX10_wordOf_89 (by omega) (by omega) ?_
    exact ⟨rfl, rfl⟩
  · refine a_tabIn (pc := 1) (off := 89) (tgt := 90) dX10_wordOf_1 (by decide) (by decide) rfl (by decide) ?_
    refine a_ldcS (pc := 90) (q := ("FiveCards$Tokens", 93, "and", 11)) (by decide +kernel) rfl dX10_wordOf_90 ?_
    refine a_ret_a (pc := 92) hM rfl (Or.inl ⟨_, rfl⟩) (Or.inr ⟨_, rfl⟩) dX10_wordOf_92 (by omega) (by omega) ?_
    exact ⟨rfl, rfl⟩
  · refine a_tabOut (pc := 1) (tgt := 93) dX10_wordOf_1 (by decide) (by decide) ?_
    refine a_ldcS (pc := 93) (q := ("FiveCards$Tokens", 95, "not", 12)) (by decide +kernel) rfl dX10_wordOf_93 ?_
    refine a_ret_a (pc := 95) hM rfl (Or.inl ⟨_, rfl⟩) (Or.inr ⟨_, rfl⟩) dX10_wordOf_95 (by omega) (by omega) ?_
    exact ⟨rfl, rfl⟩

set_option maxRecDepth 4000 in
theorem f_wordIn {a bt z : Nat} {f : Nat → Int32} (hT : TP h a bt z f) {n e : Nat} (hn : n ≤ e) (he : e ≤ 1000) : Fn X 5 0 0 yX10_wordIn cX10_wordIn 4 (some .int) [.ref a, .int (nI n), .int (nI e)] h (fun rv hv => rv = some (.int (wdP f z n e 12 0)) ∧ hv = h) := by
  refine fn_of (by decide) (Nat.le_of_ble_eq_true rfl) (fun M hM => ?_)
  have lp : ∀ (d w : Nat), 12 - w = d → w ≤ 12 → (wdP f z n e 12 0 = wdP f z n e (12 - w) w) → AJ X M yX10_wordIn cX10_wordIn 4 (some .int) 2 [(0, .ref a), (1, .int (nI n)), (2, .int (nI e)), (3, .int (nI w))] [] h 0 0 := by
    intro d
    induction d with
    | zero =>
      intro w hd hle hs
      refine a_iload_n (pc := 2) dX10_wordIn_2 rfl rfl ?_
      refine a_bipush (pc := 3) dX10_wordIn_3 ib_12 ?_
      refine a_icmp_geN (pc := 5) (tgt := 29) dX10_wordIn_5 (by decide) (by omega) (by omega) (fun c5 => ?_) (fun c5 => ?_)
      · have hw : w = 12 := by omega
        subst hw
        refine a_bipush (pc := 29) dX10_wordIn_29 ib_m2 ?_
        refine a_ret_i (pc := 31) hM rfl (rfl) dX10_wordIn_31 (by omega) (by omega) ?_
        exact ⟨by rw [hs]; rfl, rfl⟩
      · exact absurd c5 (by omega)
    | succ d ih =>
      intro w hd hle hs
      refine a_iload_n (pc := 2) dX10_wordIn_2 rfl rfl ?_
      refine a_bipush (pc := 3) dX10_wordIn_3 ib_12 ?_
      refine a_icmp_geN (pc := 5) (tgt := 29) dX10_wordIn_5 (by decide) (by omega) (by omega) (fun c5 => ?_) (fun c5 => ?_)
      · exact absurd c5 (by omega)
      · refine a_aload_n (pc := 8) dX10_wordIn_8 rfl rfl ?_
        refine a_iload_n (pc := 9) dX10_wordIn_9 rfl rfl ?_
        refine a_callS (pc := 10) km_X10_65 dX10_wordIn_10 (f_wordOf (by omega : w < 12)) rfl rfl (rok_of hM (by decide) (by decide) (by omega) (by omega)) (Nat.le_of_ble_eq_true rfl) (fun r10 h10 hp10 => ?_)
        obtain ⟨rfl, rfl⟩ := hp10
        refine a_iload_n (pc := 13) dX10_wordIn_13 rfl rfl ?_
        refine a_iload_n (pc := 14) dX10_wordIn_14 rfl rfl ?_
        refine a_callV (pc := 15) km_X10_69 dX10_wordIn_15 (f_stands hT (by omega) hn he) rfl rfl (krecv_of (by rfl) hT.1) (rok_of hM (by decide) (by decide) (by omega) (by omega)) (Nat.le_of_ble_eq_true rfl) (fun r15 h15 hp15 => ?_)
        obtain ⟨rfl, rfl⟩ := hp15
        refine a_if_eqB (pc := 18) (tgt := 23) dX10_wordIn_18 (by decide) (fun c18 => ?_) (fun c18 => ?_)
        · have hs2 : wdP f z n e 12 0 = wdP f z n e (12 - (w + 1)) (w + 1) := by rw [hs, show 12 - w = d + 1 by omega, wdP, if_neg (by rw [c18]; decide), show 12 - (w + 1) = d by omega]
          refine a_iincN (pc := 23) (n := 1) dX10_wordIn_23 (by decide) rfl (by decide) rfl ?_
          refine a_goto (pc := 26) (tgt := 2) dX10_wordIn_26 (by decide) ?_
          exact a_locR (ih (w + 1) (by omega) (by omega) hs2) ⟨rfl, rfl, rfl, rfl, trivial⟩
        · have hs2 : wdP f z n e 12 0 = nI w := by rw [hs, show 12 - w = d + 1 by omega, wdP, if_pos c18]
          refine a_iload_n (pc := 21) dX10_wordIn_21 rfl rfl ?_
          refine a_ret_i (pc := 22) hM rfl (rfl) dX10_wordIn_22 (by omega) (by omega) ?_
          exact ⟨by rw [hs2], rfl⟩
  refine a_iconst (pc := 0) dX10_wordIn_0 ic_0 ?_
  refine a_istore_n (pc := 1) dX10_wordIn_1 rfl (by decide) rfl ?_
  exact a_locR (lp _ 0 rfl (Nat.zero_le _) rfl) ⟨rfl, rfl, rfl, rfl, trivial⟩

def knP (f : Nat → Int32) (z n e : Nat) : Int32 := if inR (f n) 97 122 = true then wdP f z n e 12 0 else if inR (f n) 48 57 = true then (if 4 < e - n then -2 else nI 12) else if isP (f n) = true then f n else -2
theorem isP_in {x : Int32} (h : isP x = true) : inR x 40 61 = true := by
  rcases of_decide_eq_true h with e | e | e | e | e | e | e | e <;> rw [e] <;> decide
set_option maxRecDepth 4000 in
theorem f_kindOf {a bt z : Nat} {f : Nat → Int32} (hT : TP h a bt z f) {n e : Nat} (hnz : n < z) (hn : n ≤ e) (he : e ≤ 1000) : Fn X 6 0 0 yX10_kindOf cX10_kindOf 4 (some .int) [.ref a, .int (nI n), .int (nI e)] h (fun rv hv => rv = some (.int (knP f z n e)) ∧ hv = h) := by
  refine fn_of (by decide) (Nat.le_of_ble_eq_true rfl) (fun M hM => ?_)
  refine a_aload_n (pc := 0) dX10_kindOf_0 rfl rfl ?_
  refine a_getfield (pc := 1) kg_X10_32 dX10_kindOf_1 (hT.1) rfl ?_
  refine a_iload_n (pc := 4) dX10_kindOf_4 rfl rfl ?_
  refine a_iaload (pc := 5) dX10_kindOf_5 (hT.2.1) (n) (rfl) (by have := hT.2.2; omega) (by omega) ?_
  refine a_istore_n (pc := 6) dX10_kindOf_6 rfl (by decide) rfl ?_
  refine a_iload_n (pc := 7) dX10_kindOf_7 rfl rfl ?_
  refine a_callS (pc := 8) km_X10_56 dX10_kindOf_8 (f_isL (f n)) rfl rfl (rok_of hM (by decide) (by decide) (by omega) (by omega)) (Nat.le_of_ble_eq_true rfl) (fun r8 h8 hp8 => ?_)
  obtain ⟨rfl, rfl⟩ := hp8
  refine a_if_eqB (pc := 11) (tgt := 21) dX10_kindOf_11 (by decide) (fun c11 => ?_) (fun c11 => ?_)
  · refine a_iload_n (pc := 21) dX10_kindOf_21 rfl rfl ?_
    refine a_callS (pc := 22) km_X10_62 dX10_kindOf_22 (f_isD (f n)) rfl rfl (rok_of hM (by decide) (by decide) (by omega) (by omega)) (Nat.le_of_ble_eq_true rfl) (fun r22 h22 hp22 => ?_)
    obtain ⟨rfl, rfl⟩ := hp22
    refine a_if_eqB (pc := 25) (tgt := 43) dX10_kindOf_25 (by decide) (fun c25 => ?_) (fun c25 => ?_)
    · refine a_iload_n (pc := 43) dX10_kindOf_43 rfl rfl ?_
      by_cases hx : inR (f n) 40 61 = true
      · obtain ⟨j, hj1, hj2, hx⟩ := inR_of hx (by decide)
        rcases (by omega : j = 40 ∨ j = 41 ∨ j = 42 ∨ j = 43 ∨ j = 44 ∨ j = 45 ∨ j = 46 ∨ j = 47 ∨ j = 48 ∨ j = 49 ∨ j = 50 ∨ j = 51 ∨ j = 52 ∨ j = 53 ∨ j = 54 ∨ j = 55 ∨ j = 56 ∨ j = 57 ∨ j = 58 ∨ j = 59 ∨ j = 60 ∨ j = 61) with rfl | rfl | rfl | rfl | rfl | rfl | rfl | rfl | rfl | rfl | rfl | rfl | rfl | rfl | rfl | rfl | rfl | rfl | rfl | rfl | rfl | rfl
        · refine a_tabIn (pc := 44) (off := 104) (tgt := 148) dX10_kindOf_44 (by rw [hx]; decide) (by rw [hx]; decide) (by rw [hx]; rfl) (by decide) ?_
          refine a_iload_n (pc := 148) dX10_kindOf_148 rfl rfl ?_
          refine a_ret_i (pc := 149) hM rfl (rfl) dX10_kindOf_149 (by omega) (by omega) ?_
          exact ⟨by rw [knP, if_neg (by rw [c11]; decide), if_neg (by rw [c25]; decide), if_pos (by rw [hx]; decide)], rfl⟩
        · refine a_tabIn (pc := 44) (off := 104) (tgt := 148) dX10_kindOf_44 (by rw [hx]; decide) (by rw [hx]; decide) (by rw [hx]; rfl) (by decide) ?_
          refine a_iload_n (pc := 148) dX10_kindOf_148 rfl rfl ?_
          refine a_ret_i (pc := 149) hM rfl (rfl) dX10_kindOf_149 (by omega) (by omega) ?_
          exact ⟨by rw [knP, if_neg (by rw [c11]; decide), if_neg (by rw [c25]; decide), if_pos (by rw [hx]; decide)], rfl⟩
        · refine a_tabIn (pc := 44) (off := 104) (tgt := 148) dX10_kindOf_44 (by rw [hx]; decide) (by rw [hx]; decide) (by rw [hx]; rfl) (by decide) ?_
          refine a_iload_n (pc := 148) dX10_kindOf_148 rfl rfl ?_
          refine a_ret_i (pc := 149) hM rfl (rfl) dX10_kindOf_149 (by omega) (by omega) ?_
          exact ⟨by rw [knP, if_neg (by rw [c11]; decide), if_neg (by rw [c25]; decide), if_pos (by rw [hx]; decide)], rfl⟩
        · refine a_tabIn (pc := 44) (off := 104) (tgt := 148) dX10_kindOf_44 (by rw [hx]; decide) (by rw [hx]; decide) (by rw [hx]; rfl) (by decide) ?_
          refine a_iload_n (pc := 148) dX10_kindOf_148 rfl rfl ?_
          refine a_ret_i (pc := 149) hM rfl (rfl) dX10_kindOf_149 (by omega) (by omega) ?_
          exact ⟨by rw [knP, if_neg (by rw [c11]; decide), if_neg (by rw [c25]; decide), if_pos (by rw [hx]; decide)], rfl⟩
        · refine a_tabIn (pc := 44) (off := 106) (tgt := 150) dX10_kindOf_44 (by rw [hx]; decide) (by rw [hx]; decide) (by rw [hx]; rfl) (by decide) ?_
          refine a_bipush (pc := 150) dX10_kindOf_150 ib_m2 ?_
          refine a_ret_i (pc := 152) hM rfl (rfl) dX10_kindOf_152 (by omega) (by omega) ?_
          exact ⟨by rw [knP, if_neg (by rw [c11]; decide), if_neg (by rw [c25]; decide), if_neg (by rw [hx]; decide)], rfl⟩
        · refine a_tabIn (pc := 44) (off := 104) (tgt := 148) dX10_kindOf_44 (by rw [hx]; decide) (by rw [hx]; decide) (by rw [hx]; rfl) (by decide) ?_
          refine a_iload_n (pc := 148) dX10_kindOf_148 rfl rfl ?_
          refine a_ret_i (pc := 149) hM rfl (rfl) dX10_kindOf_149 (by omega) (by omega) ?_
          exact ⟨by rw [knP, if_neg (by rw [c11]; decide), if_neg (by rw [c25]; decide), if_pos (by rw [hx]; decide)], rfl⟩
        · refine a_tabIn (pc := 44) (off := 106) (tgt := 150) dX10_kindOf_44 (by rw [hx]; decide) (by rw [hx]; decide) (by rw [hx]; rfl) (by decide) ?_
          refine a_bipush (pc := 150) dX10_kindOf_150 ib_m2 ?_
          refine a_ret_i (pc := 152) hM rfl (rfl) dX10_kindOf_152 (by omega) (by omega) ?_
          exact ⟨by rw [knP, if_neg (by rw [c11]; decide), if_neg (by rw [c25]; decide), if_neg (by rw [hx]; decide)], rfl⟩
        · refine a_tabIn (pc := 44) (off := 106) (tgt := 150) dX10_kindOf_44 (by rw [hx]; decide) (by rw [hx]; decide) (by rw [hx]; rfl) (by decide) ?_
          refine a_bipush (pc := 150) dX10_kindOf_150 ib_m2 ?_
          refine a_ret_i (pc := 152) hM rfl (rfl) dX10_kindOf_152 (by omega) (by omega) ?_
          exact ⟨by rw [knP, if_neg (by rw [c11]; decide), if_neg (by rw [c25]; decide), if_neg (by rw [hx]; decide)], rfl⟩
        · refine a_tabIn (pc := 44) (off := 106) (tgt := 150) dX10_kindOf_44 (by rw [hx]; decide) (by rw [hx]; decide) (by rw [hx]; rfl) (by decide) ?_
          refine a_bipush (pc := 150) dX10_kindOf_150 ib_m2 ?_
          refine a_ret_i (pc := 152) hM rfl (rfl) dX10_kindOf_152 (by omega) (by omega) ?_
          exact ⟨by rw [knP, if_neg (by rw [c11]; decide), if_neg (by rw [c25]; decide), if_neg (by rw [hx]; decide)], rfl⟩
        · refine a_tabIn (pc := 44) (off := 106) (tgt := 150) dX10_kindOf_44 (by rw [hx]; decide) (by rw [hx]; decide) (by rw [hx]; rfl) (by decide) ?_
          refine a_bipush (pc := 150) dX10_kindOf_150 ib_m2 ?_
          refine a_ret_i (pc := 152) hM rfl (rfl) dX10_kindOf_152 (by omega) (by omega) ?_
          exact ⟨by rw [knP, if_neg (by rw [c11]; decide), if_neg (by rw [c25]; decide), if_neg (by rw [hx]; decide)], rfl⟩
        · refine a_tabIn (pc := 44) (off := 106) (tgt := 150) dX10_kindOf_44 (by rw [hx]; decide) (by rw [hx]; decide) (by rw [hx]; rfl) (by decide) ?_
          refine a_bipush (pc := 150) dX10_kindOf_150 ib_m2 ?_
          refine a_ret_i (pc := 152) hM rfl (rfl) dX10_kindOf_152 (by omega) (by omega) ?_
          exact ⟨by rw [knP, if_neg (by rw [c11]; decide), if_neg (by rw [c25]; decide), if_neg (by rw [hx]; decide)], rfl⟩
        · refine a_tabIn (pc := 44) (off := 106) (tgt := 150) dX10_kindOf_44 (by rw [hx]; decide) (by rw [hx]; decide) (by rw [hx]; rfl) (by decide) ?_
          refine a_bipush (pc := 150) dX10_kindOf_150 ib_m2 ?_
          refine a_ret_i (pc := 152) hM rfl (rfl) dX10_kindOf_152 (by omega) (by omega) ?_
          exact ⟨by rw [knP, if_neg (by rw [c11]; decide), if_neg (by rw [c25]; decide), if_neg (by rw [hx]; decide)], rfl⟩
        · refine a_tabIn (pc := 44) (off := 106) (tgt := 150) dX10_kindOf_44 (by rw [hx]; decide) (by rw [hx]; decide) (by rw [hx]; rfl) (by decide) ?_
          refine a_bipush (pc := 150) dX10_kindOf_150 ib_m2 ?_
          refine a_ret_i (pc := 152) hM rfl (rfl) dX10_kindOf_152 (by omega) (by omega) ?_
          exact ⟨by rw [knP, if_neg (by rw [c11]; decide), if_neg (by rw [c25]; decide), if_neg (by rw [hx]; decide)], rfl⟩
        · refine a_tabIn (pc := 44) (off := 106) (tgt := 150) dX10_kindOf_44 (by rw [hx]; decide) (by rw [hx]; decide) (by rw [hx]; rfl) (by decide) ?_
          refine a_bipush (pc := 150) dX10_kindOf_150 ib_m2 ?_
          refine a_ret_i (pc := 152) hM rfl (rfl) dX10_kindOf_152 (by omega) (by omega) ?_
          exact ⟨by rw [knP, if_neg (by rw [c11]; decide), if_neg (by rw [c25]; decide), if_neg (by rw [hx]; decide)], rfl⟩
        · refine a_tabIn (pc := 44) (off := 106) (tgt := 150) dX10_kindOf_44 (by rw [hx]; decide) (by rw [hx]; decide) (by rw [hx]; rfl) (by decide) ?_
          refine a_bipush (pc := 150) dX10_kindOf_150 ib_m2 ?_
          refine a_ret_i (pc := 152) hM rfl (rfl) dX10_kindOf_152 (by omega) (by omega) ?_
          exact ⟨by rw [knP, if_neg (by rw [c11]; decide), if_neg (by rw [c25]; decide), if_neg (by rw [hx]; decide)], rfl⟩
        · refine a_tabIn (pc := 44) (off := 106) (tgt := 150) dX10_kindOf_44 (by rw [hx]; decide) (by rw [hx]; decide) (by rw [hx]; rfl) (by decide) ?_
          refine a_bipush (pc := 150) dX10_kindOf_150 ib_m2 ?_
          refine a_ret_i (pc := 152) hM rfl (rfl) dX10_kindOf_152 (by omega) (by omega) ?_
          exact ⟨by rw [knP, if_neg (by rw [c11]; decide), if_neg (by rw [c25]; decide), if_neg (by rw [hx]; decide)], rfl⟩
        · refine a_tabIn (pc := 44) (off := 106) (tgt := 150) dX10_kindOf_44 (by rw [hx]; decide) (by rw [hx]; decide) (by rw [hx]; rfl) (by decide) ?_
          refine a_bipush (pc := 150) dX10_kindOf_150 ib_m2 ?_
          refine a_ret_i (pc := 152) hM rfl (rfl) dX10_kindOf_152 (by omega) (by omega) ?_
          exact ⟨by rw [knP, if_neg (by rw [c11]; decide), if_neg (by rw [c25]; decide), if_neg (by rw [hx]; decide)], rfl⟩
        · refine a_tabIn (pc := 44) (off := 106) (tgt := 150) dX10_kindOf_44 (by rw [hx]; decide) (by rw [hx]; decide) (by rw [hx]; rfl) (by decide) ?_
          refine a_bipush (pc := 150) dX10_kindOf_150 ib_m2 ?_
          refine a_ret_i (pc := 152) hM rfl (rfl) dX10_kindOf_152 (by omega) (by omega) ?_
          exact ⟨by rw [knP, if_neg (by rw [c11]; decide), if_neg (by rw [c25]; decide), if_neg (by rw [hx]; decide)], rfl⟩
        · refine a_tabIn (pc := 44) (off := 106) (tgt := 150) dX10_kindOf_44 (by rw [hx]; decide) (by rw [hx]; decide) (by rw [hx]; rfl) (by decide) ?_
          refine a_bipush (pc := 150) dX10_kindOf_150 ib_m2 ?_
          refine a_ret_i (pc := 152) hM rfl (rfl) dX10_kindOf_152 (by omega) (by omega) ?_
          exact ⟨by rw [knP, if_neg (by rw [c11]; decide), if_neg (by rw [c25]; decide), if_neg (by rw [hx]; decide)], rfl⟩
        · refine a_tabIn (pc := 44) (off := 104) (tgt := 148) dX10_kindOf_44 (by rw [hx]; decide) (by rw [hx]; decide) (by rw [hx]; rfl) (by decide) ?_
          refine a_iload_n (pc := 148) dX10_kindOf_148 rfl rfl ?_
          refine a_ret_i (pc := 149) hM rfl (rfl) dX10_kindOf_149 (by omega) (by omega) ?_
          exact ⟨by rw [knP, if_neg (by rw [c11]; decide), if_neg (by rw [c25]; decide), if_pos (by rw [hx]; decide)], rfl⟩
        · refine a_tabIn (pc := 44) (off := 104) (tgt := 148) dX10_kindOf_44 (by rw [hx]; decide) (by rw [hx]; decide) (by rw [hx]; rfl) (by decide) ?_
          refine a_iload_n (pc := 148) dX10_kindOf_148 rfl rfl ?_
          refine a_ret_i (pc := 149) hM rfl (rfl) dX10_kindOf_149 (by omega) (by omega) ?_
          exact ⟨by rw [knP, if_neg (by rw [c11]; decide), if_neg (by rw [c25]; decide), if_pos (by rw [hx]; decide)], rfl⟩
        · refine a_tabIn (pc := 44) (off := 104) (tgt := 148) dX10_kindOf_44 (by rw [hx]; decide) (by rw [hx]; decide) (by rw [hx]; rfl) (by decide) ?_
          refine a_iload_n (pc := 148) dX10_kindOf_148 rfl rfl ?_
          refine a_ret_i (pc := 149) hM rfl (rfl) dX10_kindOf_149 (by omega) (by omega) ?_
          exact ⟨by rw [knP, if_neg (by rw [c11]; decide), if_neg (by rw [c25]; decide), if_pos (by rw [hx]; decide)], rfl⟩
      · refine a_tabOut (pc := 44) (tgt := 150) dX10_kindOf_44 (by simp only [inR, Bool.and_eq_true, decide_eq_true_eq] at hx; omega) (by decide) ?_
        refine a_bipush (pc := 150) dX10_kindOf_150 ib_m2 ?_
        refine a_ret_i (pc := 152) hM rfl (rfl) dX10_kindOf_152 (by omega) (by omega) ?_
        exact ⟨by rw [knP, if_neg (by rw [c11]; decide), if_neg (by rw [c25]; decide), if_neg (fun q => hx (isP_in q))], rfl⟩
    · refine a_iload_n (pc := 28) dX10_kindOf_28 rfl rfl ?_
      refine a_iload_n (pc := 29) dX10_kindOf_29 rfl rfl ?_
      refine a_isubN (pc := 30) dX10_kindOf_30 (by omega) ?_
      refine a_iconst (pc := 31) dX10_kindOf_31 ic_4 ?_
      refine a_icmp_leN (pc := 32) (tgt := 40) dX10_kindOf_32 (by decide) (by omega) (by omega) (fun c32 => ?_) (fun c32 => ?_)
      · refine a_bipush (pc := 40) dX10_kindOf_40 ib_12 ?_
        refine a_ret_i (pc := 42) hM rfl (rfl) dX10_kindOf_42 (by omega) (by omega) ?_
        exact ⟨by rw [knP, if_neg (by rw [c11]; decide), if_pos c25]; first | rw [if_pos (by omega)] | rw [if_neg (by omega)], rfl⟩
      · refine a_bipush (pc := 35) dX10_kindOf_35 ib_m2 ?_
        refine a_goto (pc := 37) (tgt := 42) dX10_kindOf_37 (by decide) ?_
        refine a_ret_i (pc := 42) hM rfl (rfl) dX10_kindOf_42 (by omega) (by omega) ?_
        exact ⟨by rw [knP, if_neg (by rw [c11]; decide), if_pos c25]; first | rw [if_pos (by omega)] | rw [if_neg (by omega)], rfl⟩
  · refine a_aload_n (pc := 14) dX10_kindOf_14 rfl rfl ?_
    refine a_iload_n (pc := 15) dX10_kindOf_15 rfl rfl ?_
    refine a_iload_n (pc := 16) dX10_kindOf_16 rfl rfl ?_
    refine a_callS (pc := 17) km_X10_59 dX10_kindOf_17 (f_wordIn hT hn he) rfl rfl (rok_of hM (by decide) (by decide) (by omega) (by omega)) (Nat.le_of_ble_eq_true rfl) (fun r17 h17 hp17 => ?_)
    obtain ⟨rfl, rfl⟩ := hp17
    refine a_ret_i (pc := 20) hM rfl (rfl) dX10_kindOf_20 (by omega) (by omega) ?_
    exact ⟨by rw [knP, if_pos c11], rfl⟩

end CTK

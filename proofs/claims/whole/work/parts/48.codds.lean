/-! THE CLASS: ODDS -/
section COD
variable {X : KX} {h : AH} {s : MST}
theorem binN_mul (n : Nat) : ∀ k, binN (n + 1) (k + 1) * (k + 1) = binN n k * (n + 1) := by
  induction n with
  | zero =>
    intro k
    cases k with
    | zero => rfl
    | succ k => rw [binN_0 (by omega), binN_0 (n := 0) (by omega), Nat.zero_mul, Nat.zero_mul]
  | succ n ih =>
    intro k
    show (binN (n + 1) k + binN (n + 1) (k + 1)) * (k + 1) = _
    cases k with
    | zero =>
      have h := ih 0
      rw [binN_z] at h
      rw [binN_z]
      omega
    | succ k =>
      have h1 := ih k
      have h2 := ih (k + 1)
      have h3 : binN (n + 1) (k + 1) = binN n k + binN n (k + 1) := rfl
      rw [Nat.add_mul, h2, show k + 1 + 1 = (k + 1) + 1 from rfl, Nat.mul_add (binN (n + 1) (k + 1)) (k + 1) 1, h1, Nat.mul_one]
      rw [show n + 1 + 1 = (n + 1) + 1 from rfl, Nat.mul_add (binN (n + 1) (k + 1)) (n + 1) 1, Nat.mul_one, h3, Nat.add_mul]
      omega
theorem binN_div {n k : Nat} : binN n k * (n + 1) / (k + 1) = binN (n + 1) (k + 1) := by
  rw [← binN_mul, Nat.mul_div_cancel _ (by omega)]
theorem binN_2 (n : Nat) : ∀ k, binN n k ≤ 2 ^ n := by
  induction n with
  | zero =>
    intro k
    cases k with
    | zero => decide
    | succ k => rw [binN_0 (by omega)]; exact Nat.zero_le _
  | succ n ih =>
    intro k
    cases k with
    | zero => rw [binN_z]; exact Nat.one_le_two_pow
    | succ k =>
      have h1 := ih k
      have h2 := ih (k + 1)
      show binN n k + binN n (k + 1) ≤ _
      rw [Nat.pow_succ]
      omega
theorem binN_b {n k : Nat} (hn : n ≤ 25) : binN n k ≤ 33554432 := Nat.le_trans (binN_2 n k) (Nat.le_trans (Nat.pow_le_pow_right (by decide) hn) (by decide))
theorem binN_d2 {n k i : Nat} (hk : k ≤ n) (h1 : 1 ≤ i) : binN (n - k + (i - 1)) (i - 1) * (n - k + i) / i = binN (n - k + i) i := by
  obtain ⟨j, rfl⟩ : ∃ j, i = j + 1 := ⟨i - 1, by omega⟩
  exact binN_div
def bz (c m k : Nat) : Nat := if m ≤ c then binN (c - m) k else 0
theorem sub_neg {c m : Nat} (hc : c < m) (hm : m ≤ 1000) : nI c - nI m < 0 := by
  rw [Int32.lt_iff_toInt_lt, Int32.toInt_sub, nI_toInt (by omega), nI_toInt (by omega)]
  have : Int.bmod ((c : Int) - (m : Int)) (2 ^ 32) = (c : Int) - (m : Int) := by
    rw [Int.bmod_eq_of_le] <;> omega
  rw [this]
  show (c : Int) - (m : Int) < 0
  omega
set_option maxRecDepth 4000 in
theorem f_choN {n k : Nat} (hn : n ≤ 25) (hk : k ≤ 25) : Fn X 0 0 0 yX2_choices cX2_choices 5 (some .long) [.int (nI n), .int (nI k)] h (fun rv hv => rv = some (.long (lN (binN n k))) ∧ hv = h) := by
  refine fn_of (by decide) (Nat.le_of_ble_eq_true rfl) (fun M hM => ?_)
  refine a_iload_n (pc := 0) dX2_choices_0 rfl rfl ?_
  refine a_if_lt_f (pc := 1) (tgt := 9) dX2_choices_1 (by decide) (nI_pos (by omega)) ?_
  refine a_iload_n (pc := 4) dX2_choices_4 rfl rfl ?_
  refine a_iload_n (pc := 5) dX2_choices_5 rfl rfl ?_
  refine a_icmp_leN (pc := 6) (tgt := 11) dX2_choices_6 (by decide) (by omega) (by omega) (fun c6 => ?_) (fun c6 => ?_)
  · have hkn : k ≤ n := by omega
    have loop : ∀ d i : Nat, k + 1 - i = d → 1 ≤ i → i ≤ k + 1 → AJ X M yX2_choices cX2_choices 5 (some .long) 16 [(0, .int (nI n)), (1, .int (nI k)), (2, .long (lN (binN (n - k + (i - 1)) (i - 1)))), (4, .int (nI i))] [] h 0 0 := by
      intro d
      induction d with
      | zero =>
        intro i hd h1 hi
        have hik : i = k + 1 := by omega
        subst hik
        refine a_iload (pc := 16) dX2_choices_16 rfl ?_
        refine a_iload_n (pc := 18) dX2_choices_18 rfl rfl ?_
        refine a_icmp_gtN (pc := 19) (tgt := 42) dX2_choices_19 (by decide) (by omega) (by omega) (fun c19 => ?_) (fun c19 => ?_)
        · refine a_lload_n (pc := 42) dX2_choices_42 rfl rfl ?_
          refine a_ret_l (pc := 43) hM rfl dX2_choices_43 (by omega) (by omega) ?_
          exact ⟨by congr 3; congr 1 <;> omega, rfl⟩
        · exact absurd c19 (by omega)
      | succ d ih =>
        intro i hd h1 hi
        have hb := binN_b (n := n - k + (i - 1)) (k := i - 1) (by omega)
        have hbm : binN (n - k + (i - 1)) (i - 1) * (n - k + i) ≤ 33554432 * 25 := Nat.mul_le_mul hb (by omega)
        refine a_iload (pc := 16) dX2_choices_16 rfl ?_
        refine a_iload_n (pc := 18) dX2_choices_18 rfl rfl ?_
        refine a_icmp_gtN (pc := 19) (tgt := 42) dX2_choices_19 (by decide) (by omega) (by omega) (fun c19 => ?_) (fun c19 => ?_)
        · exact absurd c19 (by omega)
        · refine a_lload_n (pc := 22) dX2_choices_22 rfl rfl ?_
          refine a_iload_n (pc := 23) dX2_choices_23 rfl rfl ?_
          refine a_iload_n (pc := 24) dX2_choices_24 rfl rfl ?_
          refine a_isubN (pc := 25) dX2_choices_25 (by omega) ?_
          refine a_iload (pc := 26) dX2_choices_26 rfl ?_
          refine a_iaddN (pc := 28) dX2_choices_28 ?_
          refine a_i2lN (pc := 29) dX2_choices_29 (by omega) ?_
          refine a_lmulN (pc := 30) dX2_choices_30 ?_
          refine a_iload (pc := 31) dX2_choices_31 rfl ?_
          refine a_i2lN (pc := 33) dX2_choices_33 (by omega) ?_
          refine a_ldivN (pc := 34) dX2_choices_34 (by omega) (by omega) (by omega) ?_
          refine a_topl (congrArg lN (binN_d2 (by omega) h1)) ?_
          refine a_lstore_n (pc := 35) dX2_choices_35 rfl (by decide) rfl ?_
          refine a_iincN (pc := 36) (n := 1) dX2_choices_36 (by decide) rfl (by decide) rfl ?_
          refine a_goto (pc := 39) (tgt := 16) dX2_choices_39 (by decide) ?_
          exact a_locR (ih (i + 1) (by omega) (by omega) (by omega)) ⟨rfl, rfl, rfl, rfl, trivial⟩
    refine a_lconst (pc := 11) (v := lN 1) dX2_choices_11 rfl ?_
    refine a_lstore_n (pc := 12) dX2_choices_12 rfl (by decide) rfl ?_
    refine a_iconst (pc := 13) dX2_choices_13 ic_1 ?_
    refine a_istore (pc := 14) dX2_choices_14 (by decide) rfl ?_
    exact a_locR (loop _ 1 rfl (Nat.le_refl _) (by omega)) ⟨rfl, rfl, by show some (Value.long (lN 1)) = _; rw [show 1 - 1 = 0 from rfl, binN_z], rfl, trivial⟩
  · refine a_lconst (pc := 9) (v := lN 0) dX2_choices_9 rfl ?_
    refine a_ret_l (pc := 10) hM rfl dX2_choices_10 (by omega) (by omega) ?_
    exact ⟨by rw [binN_0 (by omega)], rfl⟩

set_option maxRecDepth 4000 in
theorem f_choZ0 {c m k : Nat} (hcm : c < m) (hm : m ≤ 25) (hk : k ≤ 25) : Fn X 0 0 0 yX2_choices cX2_choices 5 (some .long) [.int (nI c - nI m), .int (nI k)] h (fun rv hv => rv = some (.long (lN 0)) ∧ hv = h) := by
  refine fn_of (by decide) (Nat.le_of_ble_eq_true rfl) (fun M hM => ?_)
  refine a_iload_n (pc := 0) dX2_choices_0 rfl rfl ?_
  refine a_if_lt_f (pc := 1) (tgt := 9) dX2_choices_1 (by decide) (nI_pos (by omega)) ?_
  refine a_iload_n (pc := 4) dX2_choices_4 rfl rfl ?_
  refine a_iload_n (pc := 5) dX2_choices_5 rfl rfl ?_
  refine a_icmp_le_f (pc := 6) (tgt := 11) dX2_choices_6 (by decide) (fun z => absurd (Int32.lt_of_le_of_lt z (sub_neg (by omega) (by omega))) (nI_pos (by omega))) ?_
  refine a_lconst (pc := 9) (v := lN 0) dX2_choices_9 rfl ?_
  refine a_ret_l (pc := 10) hM rfl dX2_choices_10 (by omega) (by omega) ?_
  exact ⟨rfl, rfl⟩

theorem f_choZ {c m k : Nat} (hc : c ≤ 25) (hm : m ≤ 25) (hk : k ≤ 25) : Fn X 0 0 0 yX2_choices cX2_choices 5 (some .long) [.int (nI c - nI m), .int (nI k)] h (fun rv hv => rv = some (.long (lN (bz c m k))) ∧ hv = h) := by
  unfold bz
  by_cases q : m ≤ c
  · rw [if_pos q, pk_sub q]
    exact f_choN (by omega) hk
  · rw [if_neg q]
    exact f_choZ0 (by omega) hm hk
/-- choices with one sign more -/
def chT (C : Nat → Nat) (gu c more m : Nat) : Nat → Nat := fun k => C (m - k) * binN gu k * bz c m (more - k)
def chS (C : Nat → Nat) (gu c more m : Nat) : Nat := sumN (chT C gu c more m) (min more m + 1)
set_option maxRecDepth 4000 in
theorem f_addSign {a q c more gu : Nat} {C : Nat → Nat} {G0 : Nat → Int64} (ha : h a = some (kO 2 [.ref q])) (hq : h q = some (kL 26 G0)) (hG0 : ∀ i, i < 26 → G0 i = lN (C i)) (hc : c ≤ 25) (hm : more ≤ 9) (hg : gu ≤ 25) (haq : a ≠ q) : Fn X 1 0 0 yX2_addSign cX2_addSign 8 none [.ref a, .int (nI c), .int (nI more), .int (nI gu)] h (fun rv hv => rv = none ∧ ∃ G : Nat → Int64, (∀ i, i < 26 → G i = lN (chS C gu c more i)) ∧ hv = kput h q (kL 26 G)) := by
  refine fn_of (by decide) (Nat.le_of_ble_eq_true rfl) (fun M0 hM => ?_)
  have outer : ∀ (M : Nat) (G : Nat → Int64), M ≤ 26 → (∀ i, i < M → G i = lN (C i)) → (∀ i, M ≤ i → i < 26 → G i = lN (chS C gu c more i)) → AJ X M0 yX2_addSign cX2_addSign 8 none 4 [(0, .ref a), (1, .int (nI c)), (2, .int (nI more)), (3, .int (nI gu)), (4, .int (nI M + -1))] [] (kput h q (kL 26 G)) 0 0 := by
    intro M
    induction M with
    | zero =>
      intro G hM26 hG1 hG2
      refine a_iload (pc := 4) dX2_addSign_4 rfl ?_
      refine a_if_lt_t (pc := 6) (tgt := 83) dX2_addSign_6 (by decide) (by decide) ?_
      refine a_ret_v (pc := 83) hM rfl dX2_addSign_83 (by omega) (by omega) ?_
      exact ⟨rfl, G, fun i hi => hG2 i (Nat.zero_le _) hi, rfl⟩
    | succ M ih =>
      intro G hM26 hG1 hG2
      rw [pk_m1]
      have inner : ∀ d k : Nat, min more M + 1 - k = d → k ≤ min more M + 1 → AJ X M0 yX2_addSign cX2_addSign 8 none 15 [(0, .ref a), (1, .int (nI c)), (2, .int (nI more)), (3, .int (nI gu)), (4, .int (nI M)), (5, .long (lN (sumN (chT C gu c more M) k))), (7, .int (nI k))] [] (kput h q (kL 26 G)) 0 0 := by
        intro d
        induction d with
        | zero =>
          intro k hd hk
          have hkm : k = min more M + 1 := by omega
          refine a_iload (pc := 15) dX2_addSign_15 rfl ?_
          refine a_iload_n (pc := 17) dX2_addSign_17 rfl rfl ?_
          refine a_icmp_gtN (pc := 18) (tgt := 68) dX2_addSign_18 (by decide) (by omega) (by omega) (fun c18 => ?_) (fun c18 => ?_)
          · refine a_aload_n (pc := 68) dX2_addSign_68 rfl rfl ?_
            refine a_getfield (pc := 69) kg_X2_9 dX2_addSign_69 (((kput_ne haq).trans ha)) rfl ?_
            refine a_iload (pc := 72) dX2_addSign_72 rfl ?_
            refine a_lload (pc := 74) dX2_addSign_74 rfl ?_
            refine a_lastore (pc := 76) dX2_addSign_76 (kput_eq) (M) (rfl) (by omega) (by omega) ?_
            refine a_hp kput_put ?_
            refine a_iinc (pc := 77) dX2_addSign_77 rfl rfl (by decide) rfl ?_
            refine a_goto (pc := 80) (tgt := 4) dX2_addSign_80 (by decide) ?_
            exact a_locR (ih (vp_updL G M (lN (sumN (chT C gu c more M) k))) (by omega) (fun i hi => (updL_n (by omega)).trans (hG1 i (by omega))) (fun i h1 h2 => if z : i = M then (by rw [z, updL_i rfl, hkm]; rfl) else (updL_n z).trans (hG2 i (by omega) h2))) ⟨rfl, rfl, rfl, rfl, rfl, trivial⟩
          · refine a_iload (pc := 21) dX2_addSign_21 rfl ?_
            refine a_iload (pc := 23) dX2_addSign_23 rfl ?_
            refine a_icmp_gtN (pc := 25) (tgt := 68) dX2_addSign_25 (by decide) (by omega) (by omega) (fun c25 => ?_) (fun c25 => ?_)
            · refine a_aload_n (pc := 68) dX2_addSign_68 rfl rfl ?_
              refine a_getfield (pc := 69) kg_X2_9 dX2_addSign_69 (((kput_ne haq).trans ha)) rfl ?_
              refine a_iload (pc := 72) dX2_addSign_72 rfl ?_
              refine a_lload (pc := 74) dX2_addSign_74 rfl ?_
              refine a_lastore (pc := 76) dX2_addSign_76 (kput_eq) (M) (rfl) (by omega) (by omega) ?_
              refine a_hp kput_put ?_
              refine a_iinc (pc := 77) dX2_addSign_77 rfl rfl (by decide) rfl ?_
              refine a_goto (pc := 80) (tgt := 4) dX2_addSign_80 (by decide) ?_
              exact a_locR (ih (vp_updL G M (lN (sumN (chT C gu c more M) k))) (by omega) (fun i hi => (updL_n (by omega)).trans (hG1 i (by omega))) (fun i h1 h2 => if z : i = M then (by rw [z, updL_i rfl, hkm]; rfl) else (updL_n z).trans (hG2 i (by omega) h2))) ⟨rfl, rfl, rfl, rfl, rfl, trivial⟩
            · exact absurd c25 (by omega)
        | succ d ih2 =>
          intro k hd hk
          refine a_iload (pc := 15) dX2_addSign_15 rfl ?_
          refine a_iload_n (pc := 17) dX2_addSign_17 rfl rfl ?_
          refine a_icmp_gtN (pc := 18) (tgt := 68) dX2_addSign_18 (by decide) (by omega) (by omega) (fun c18 => ?_) (fun c18 => ?_)
          · exact absurd c18 (by omega)
          · refine a_iload (pc := 21) dX2_addSign_21 rfl ?_
            refine a_iload (pc := 23) dX2_addSign_23 rfl ?_
            refine a_icmp_gtN (pc := 25) (tgt := 68) dX2_addSign_25 (by decide) (by omega) (by omega) (fun c25 => ?_) (fun c25 => ?_)
            · exact absurd c25 (by omega)
            · refine a_lload (pc := 28) dX2_addSign_28 rfl ?_
              refine a_aload_n (pc := 30) dX2_addSign_30 rfl rfl ?_
              refine a_getfield (pc := 31) kg_X2_9 dX2_addSign_31 (((kput_ne haq).trans ha)) rfl ?_
              refine a_iload (pc := 34) dX2_addSign_34 rfl ?_
              refine a_iload (pc := 36) dX2_addSign_36 rfl ?_
              refine a_isubN (pc := 38) dX2_addSign_38 (by omega) ?_
              refine a_laload (pc := 39) dX2_addSign_39 (kput_eq) (M - k) (rfl) (by omega) (by omega) ?_
              refine a_topl (hG1 (M - k) (by omega)) ?_
              refine a_iload_n (pc := 40) dX2_addSign_40 rfl rfl ?_
              refine a_iload (pc := 41) dX2_addSign_41 rfl ?_
              refine a_callS (pc := 43) km_X2_41 dX2_addSign_43 (f_choN (by omega) (by omega)) rfl rfl (rok_of hM (by decide) (by decide) (by omega) (by omega)) (Nat.le_of_ble_eq_true rfl) (fun r43 h43 hp43 => ?_)
              obtain ⟨rfl, rfl⟩ := hp43
              refine a_lmulN (pc := 46) dX2_addSign_46 ?_
              refine a_iload_n (pc := 47) dX2_addSign_47 rfl rfl ?_
              refine a_iload (pc := 48) dX2_addSign_48 rfl ?_
              refine a_isub (pc := 50) dX2_addSign_50 ?_
              refine a_iload_n (pc := 51) dX2_addSign_51 rfl rfl ?_
              refine a_iload (pc := 52) dX2_addSign_52 rfl ?_
              refine a_isubN (pc := 54) dX2_addSign_54 (by omega) ?_
              refine a_callS (pc := 55) km_X2_41 dX2_addSign_55 (f_choZ (by omega) (by omega) (by omega)) rfl rfl (rok_of hM (by decide) (by decide) (by omega) (by omega)) (Nat.le_of_ble_eq_true rfl) (fun r55 h55 hp55 => ?_)
              obtain ⟨rfl, rfl⟩ := hp55
              refine a_lmulN (pc := 58) dX2_addSign_58 ?_
              refine a_laddN (pc := 59) dX2_addSign_59 ?_
              refine a_lstore (pc := 60) dX2_addSign_60 (by decide) rfl ?_
              refine a_iincN (pc := 62) (n := 1) dX2_addSign_62 (by decide) rfl (by decide) rfl ?_
              refine a_goto (pc := 65) (tgt := 15) dX2_addSign_65 (by decide) ?_
              exact a_locR (ih2 (k + 1) (by omega) (by omega)) ⟨rfl, rfl, rfl, rfl, rfl, rfl, rfl, trivial⟩

      refine a_iload (pc := 4) dX2_addSign_4 rfl ?_
      refine a_if_lt_f (pc := 6) (tgt := 83) dX2_addSign_6 (by decide) (nI_pos (by omega)) ?_
      refine a_lconst (pc := 9) (v := lN 0) dX2_addSign_9 rfl ?_
      refine a_lstore (pc := 10) dX2_addSign_10 (by decide) rfl ?_
      refine a_iconst (pc := 12) dX2_addSign_12 ic_0 ?_
      refine a_istore (pc := 13) dX2_addSign_13 (by decide) rfl ?_
      exact a_locR (inner _ 0 rfl (Nat.zero_le _)) ⟨rfl, rfl, rfl, rfl, rfl, rfl, rfl, trivial⟩
  refine a_bipush (pc := 0) dX2_addSign_0 ib_25 ?_
  refine a_istore (pc := 2) dX2_addSign_2 (by decide) rfl ?_
  exact a_hp (kput_self hq).symm (a_locR (outer 26 G0 (Nat.le_refl _) hG0 (fun i h1 h2 => absurd h1 (by omega))) ⟨rfl, rfl, rfl, rfl, rfl, trivial⟩)

def chN (pk gu : Nat → Nat) : Nat → Nat → Nat
  | 0, m => if m = 0 then 1 else 0
  | j + 1, m => chS (chN pk gu j) (gu j) (bfN pk (j + 1)) (pk j) m
set_option maxRecDepth 4000 in
theorem f_work {a q ru pk pa cd gs sp lf kc kg n : Nat} {pn gu dy sl pt ks kp pc : Int32} {f g pf : Nat → Int32} {G0 : Nat → Int64} {pkn gun : Nat → Nat} (ha : h a = some (kO 2 [.ref q])) (hq : h q = some (kL 26 G0)) (hru : h ru = some (rO pn gu dy sl pt ks kp pk cd gs sp lf kc kg)) (hc : h cd = some (kI n f)) (hg : h gs = some (kI n g)) (hn : n ≤ 25) (hp : h pk = some (kO 3 [.ref pa, .int pc])) (hpa : h pa = some (kI 5 pf)) (hpf : ∀ j, j < 5 → pf j = nI (pkn j)) (hp9 : ∀ j, j < 5 → pkn j ≤ 9) (hb : bfN pkn 5 ≤ 25) (hgu : ∀ j, j < 5 → gun j = cntN (fun i => decide (g i = nI j)) n) : Fn X 2 0 0 yX2_work cX2_work 5 none [.ref a, .ref ru] h (fun rv hv => rv = none ∧ ∃ G : Nat → Int64, (∀ i, i < 26 → G i = lN (chN pkn gun 5 i)) ∧ hv = kput h q (kL 26 G)) := by
  have ne : ∀ {b m : Nat} {e : Nat → Int32}, h b = some (kI m e) → b ≠ q := fun hb z => by rw [z, hq] at hb; exact absurd (Option.some.inj hb) (by simp)
  have no : ∀ {b ci : Nat} {e : List Value}, h b = some (kO ci e) → b ≠ q := fun hb z => by rw [z, hq] at hb; exact absurd (Option.some.inj hb) (by simp)
  have haq := no ha
  have hrq := no hru
  have hpq := no hp
  have hpaq := ne hpa
  have hcq := ne hc
  have hgq := ne hg
  have hgn : ∀ j, j < 5 → gun j ≤ 25 := fun j hj => by rw [hgu j hj]; exact Nat.le_trans (cntN_le _ _) hn
  refine fn_of (by decide) (Nat.le_of_ble_eq_true rfl) (fun M hM => ?_)
  have loop : ∀ (d j : Nat) (G : Nat → Int64), 5 - j = d → j ≤ 5 → (∀ i, i < 26 → G i = lN (chN pkn gun j i)) → AJ X M yX2_work cX2_work 5 none 19 [(0, .ref a), (1, .ref ru), (2, .int (nI (bfN pkn j))), (3, .int (nI j))] [] (kput h q (kL 26 G)) 0 0 := by
    intro d
    induction d with
    | zero =>
      intro j G hd hj hG
      have hj5 : j = 5 := by omega
      subst hj5
      refine a_iload_n (pc := 19) dX2_work_19 rfl rfl ?_
      refine a_iconst (pc := 20) dX2_work_20 ic_5 ?_
      refine a_icmp_geN (pc := 21) (tgt := 58) dX2_work_21 (by decide) (by omega) (by omega) (fun c21 => ?_) (fun c21 => ?_)
      · refine a_ret_v (pc := 58) hM rfl dX2_work_58 (by omega) (by omega) ?_
        exact ⟨rfl, G, hG, rfl⟩
      · exact absurd c21 (by omega)
    | succ d ih =>
      intro j G hd hj hG
      have hcj := bfN_le (j := j + 1) hb (by omega)
      refine a_iload_n (pc := 19) dX2_work_19 rfl rfl ?_
      refine a_iconst (pc := 20) dX2_work_20 ic_5 ?_
      refine a_icmp_geN (pc := 21) (tgt := 58) dX2_work_21 (by decide) (by omega) (by omega) (fun c21 => ?_) (fun c21 => ?_)
      · exact absurd c21 (by omega)
      · refine a_aload_n (pc := 24) dX2_work_24 rfl rfl ?_
        refine a_getfield (pc := 25) kg_X2_21 dX2_work_25 ((kput_ne hrq).trans hru) rfl ?_
        refine a_getfield (pc := 28) kg_X2_27 dX2_work_28 ((kput_ne hpq).trans hp) rfl ?_
        refine a_iload_n (pc := 31) dX2_work_31 rfl rfl ?_
        refine a_iaload (pc := 32) dX2_work_32 ((kput_ne hpaq).trans hpa) (j) (rfl) (by omega) (by omega) ?_
        refine a_topi (hpf j (by omega)) ?_
        refine a_istore (pc := 33) dX2_work_33 (by decide) rfl ?_
        refine a_iload_n (pc := 35) dX2_work_35 rfl rfl ?_
        refine a_iload (pc := 36) dX2_work_36 rfl ?_
        refine a_iaddN (pc := 38) dX2_work_38 ?_
        refine a_istore_n (pc := 39) dX2_work_39 rfl (by decide) rfl ?_
        refine a_aload_n (pc := 40) dX2_work_40 rfl rfl ?_
        refine a_iload_n (pc := 41) dX2_work_41 rfl rfl ?_
        refine a_iload (pc := 42) dX2_work_42 rfl ?_
        refine a_aload_n (pc := 44) dX2_work_44 rfl rfl ?_
        refine a_iload_n (pc := 45) dX2_work_45 rfl rfl ?_
        refine a_callV (pc := 46) km_X2_33 dX2_work_46 (f_guessesOf ((kput_ne hrq).trans hru) ((kput_ne hcq).trans hc) ((kput_ne hgq).trans hg) hn (nI j)) rfl rfl (krecv_of (ci := 5) rfl ((kput_ne hrq).trans hru)) (rok_of hM (by decide) (by decide) (by omega) (by omega)) (Nat.le_of_ble_eq_true rfl) (fun r46 h46 hp46 => ?_)
        obtain ⟨rfl, rfl⟩ := hp46
        refine a_topi (show _ = nI (gun j) from congrArg nI (hgu j (by omega)).symm) ?_
        refine a_callV (pc := 49) km_X2_37 dX2_work_49 (f_addSign (C := chN pkn gun j) ((kput_ne haq).trans ha) kput_eq hG (by show bfN pkn (j + 1) ≤ 25; omega) (hp9 j (by omega)) (hgn j (by omega)) haq) rfl rfl (krecv_of (ci := 2) rfl ((kput_ne haq).trans ha)) (rok_of hM (by decide) (by decide) (by omega) (by omega)) (Nat.le_of_ble_eq_true rfl) (fun r49 h49 hp49 => ?_)
        obtain ⟨rfl, G2, hG2, rfl⟩ := hp49
        refine a_hp kput_put ?_
        refine a_iincN (pc := 52) (n := 1) dX2_work_52 (by decide) rfl (by decide) rfl ?_
        refine a_goto (pc := 55) (tgt := 19) dX2_work_55 (by decide) ?_
        exact a_locR (ih (j + 1) G2 (by omega) (by omega) (fun i hi => hG2 i hi)) ⟨rfl, rfl, rfl, rfl, trivial⟩
  refine a_aload_n (pc := 0) dX2_work_0 rfl rfl ?_
  refine a_getfield (pc := 1) kg_X2_9 dX2_work_1 (ha) rfl ?_
  refine a_lconst (pc := 4) (v := lN 0) dX2_work_4 rfl ?_
  refine a_callS (pc := 5) km_X2_15 dX2_work_5 (f_fillL hq (by decide) (lN 0)) rfl rfl (rok_of hM (by decide) (by decide) (by omega) (by omega)) (Nat.le_of_ble_eq_true rfl) (fun r5 h5 hp5 => ?_)
  obtain ⟨rfl, rfl⟩ := hp5
  refine a_aload_n (pc := 8) dX2_work_8 rfl rfl ?_
  refine a_getfield (pc := 9) kg_X2_9 dX2_work_9 ((kput_ne haq).trans ha) rfl ?_
  refine a_iconst (pc := 12) dX2_work_12 ic_0 ?_
  refine a_lconst (pc := 13) (v := lN 1) dX2_work_13 rfl ?_
  refine a_lastore (pc := 14) dX2_work_14 (kput_eq) (0) (rfl) (by omega) (by omega) ?_
  refine a_hp kput_put ?_
  refine a_iconst (pc := 15) dX2_work_15 ic_0 ?_
  refine a_istore_n (pc := 16) dX2_work_16 rfl (by decide) rfl ?_
  refine a_iconst (pc := 17) dX2_work_17 ic_0 ?_
  refine a_istore_n (pc := 18) dX2_work_18 rfl (by decide) rfl ?_
  exact a_locR (loop _ 0 _ rfl (by omega) (fun i hi => if z : i = 0 then (by rw [z]; exact updL_i rfl) else (updL_n z).trans (by show fillO (fun _ => lN 0) G0 0 26 i = lN (if i = 0 then 1 else 0); unfold fillO; rw [if_pos ⟨Nat.zero_le _, by omega⟩, if_neg z]))) ⟨rfl, rfl, rfl, rfl, trivial⟩

set_option maxRecDepth 4000 in
theorem f_allOrd {a q : Nat} {G : Nat → Int64} (ha : h a = some (kO 2 [.ref q])) (hq : h q = some (kL 26 G)) : Fn X 0 0 0 yX2_allOrders cX2_allOrders 1 (some .long) [.ref a] h (fun rv hv => rv = some (.long (G 0)) ∧ hv = h) := by
  refine fn_of (by decide) (Nat.le_of_ble_eq_true rfl) (fun M hM => ?_)
  refine a_aload_n (pc := 0) dX2_allOrders_0 rfl rfl ?_
  refine a_getfield (pc := 1) kg_X2_9 dX2_allOrders_1 (ha) rfl ?_
  refine a_iconst (pc := 4) dX2_allOrders_4 ic_0 ?_
  refine a_laload (pc := 5) dX2_allOrders_5 (hq) (0) (rfl) (by omega) (by omega) ?_
  refine a_ret_l (pc := 6) hM rfl dX2_allOrders_6 (by omega) (by omega) ?_
  exact ⟨rfl, rfl⟩

def exC (C : Nat → Nat) (q : Nat) : Nat → Int64
  | 0 => lN 0
  | n + 1 => exC C q n + (if n % 2 = 0 then lN (binN (q + n) q * C (q + n)) else -(lN (binN (q + n) q * C (q + n))))
set_option maxRecDepth 4000 in
theorem f_ordW {a q w : Nat} {G : Nat → Int64} {C : Nat → Nat} (ha : h a = some (kO 2 [.ref q])) (hq : h q = some (kL 26 G)) (hG : ∀ i, i < 26 → G i = lN (C i)) (hw : w ≤ 25) : Fn X 1 0 0 yX2_ordersWith cX2_ordersWith 7 (some .long) [.ref a, .int (nI w)] h (fun rv hv => rv = some (.long (exC C w (26 - w))) ∧ hv = h) := by
  refine fn_of (by decide) (Nat.le_of_ble_eq_true rfl) (fun M hM => ?_)
  have loop : ∀ d n : Nat, 26 - (w + n) = d → w + n ≤ 26 → AJ X M yX2_ordersWith cX2_ordersWith 7 (some .long) 5 [(0, .ref a), (1, .int (nI w)), (2, .long (exC C w n)), (4, .int (nI (w + n)))] [] h 0 0 := by
    intro d
    induction d with
    | zero =>
      intro n hd hn
      have hn2 : n = 26 - w := by omega
      subst hn2
      refine a_iload (pc := 5) dX2_ordersWith_5 rfl ?_
      refine a_bipush (pc := 7) dX2_ordersWith_7 ib_25 ?_
      refine a_icmp_gtN (pc := 9) (tgt := 54) dX2_ordersWith_9 (by decide) (by omega) (by omega) (fun c9 => ?_) (fun c9 => ?_)
      · refine a_lload_n (pc := 54) dX2_ordersWith_54 rfl rfl ?_
        refine a_ret_l (pc := 55) hM rfl dX2_ordersWith_55 (by omega) (by omega) ?_
        exact ⟨rfl, rfl⟩
      · exact absurd c9 (by omega)
    | succ d ih =>
      intro n hd hn
      refine a_iload (pc := 5) dX2_ordersWith_5 rfl ?_
      refine a_bipush (pc := 7) dX2_ordersWith_7 ib_25 ?_
      refine a_icmp_gtN (pc := 9) (tgt := 54) dX2_ordersWith_9 (by decide) (by omega) (by omega) (fun c9 => ?_) (fun c9 => ?_)
      · exact absurd c9 (by omega)
      · refine a_iload (pc := 12) dX2_ordersWith_12 rfl ?_
        refine a_iload_n (pc := 14) dX2_ordersWith_14 rfl rfl ?_
        refine a_callS (pc := 15) km_X2_41 dX2_ordersWith_15 (f_choN (by omega) (by omega)) rfl rfl (rok_of hM (by decide) (by decide) (by omega) (by omega)) (Nat.le_of_ble_eq_true rfl) (fun r15 h15 hp15 => ?_)
        obtain ⟨rfl, rfl⟩ := hp15
        refine a_aload_n (pc := 18) dX2_ordersWith_18 rfl rfl ?_
        refine a_getfield (pc := 19) kg_X2_9 dX2_ordersWith_19 (ha) rfl ?_
        refine a_iload (pc := 22) dX2_ordersWith_22 rfl ?_
        refine a_laload (pc := 24) dX2_ordersWith_24 (hq) (w + n) (rfl) (by omega) (by omega) ?_
        refine a_topl (hG (w + n) (by omega)) ?_
        refine a_lmulN (pc := 25) dX2_ordersWith_25 ?_
        refine a_lstore (pc := 26) dX2_ordersWith_26 (by decide) rfl ?_
        refine a_lload_n (pc := 28) dX2_ordersWith_28 rfl rfl ?_
        refine a_iload (pc := 29) dX2_ordersWith_29 rfl ?_
        refine a_iload_n (pc := 31) dX2_ordersWith_31 rfl rfl ?_
        refine a_isubN (pc := 32) dX2_ordersWith_32 (by omega) ?_
        refine a_iconst (pc := 33) dX2_ordersWith_33 ic_2 ?_
        refine a_iremN (pc := 34) dX2_ordersWith_34 (by omega) (by omega) (by omega) ?_
        refine a_if_neN (pc := 35) (tgt := 43) dX2_ordersWith_35 (by decide) (by omega) (fun c35 => ?_) (fun c35 => ?_)
        · refine a_lload (pc := 43) dX2_ordersWith_43 rfl ?_
          refine a_lneg (pc := 45) dX2_ordersWith_45 ?_
          refine a_ladd (pc := 46) dX2_ordersWith_46 ?_
          refine a_lstore_n (pc := 47) dX2_ordersWith_47 rfl (by decide) rfl ?_
          refine a_iincN (pc := 48) (n := 1) dX2_ordersWith_48 (by decide) rfl (by decide) rfl ?_
          refine a_goto (pc := 51) (tgt := 5) dX2_ordersWith_51 (by decide) ?_
          exact a_locR (ih (n + 1) (by omega) (by omega)) ⟨rfl, rfl, by rw [show exC C w (n + 1) = exC C w n + (if n % 2 = 0 then lN (binN (w + n) w * C (w + n)) else -(lN (binN (w + n) w * C (w + n)))) from rfl, if_neg (by omega)]; rfl, rfl, trivial⟩
        · refine a_lload (pc := 38) dX2_ordersWith_38 rfl ?_
          refine a_goto (pc := 40) (tgt := 46) dX2_ordersWith_40 (by decide) ?_
          refine a_ladd (pc := 46) dX2_ordersWith_46 ?_
          refine a_lstore_n (pc := 47) dX2_ordersWith_47 rfl (by decide) rfl ?_
          refine a_iincN (pc := 48) (n := 1) dX2_ordersWith_48 (by decide) rfl (by decide) rfl ?_
          refine a_goto (pc := 51) (tgt := 5) dX2_ordersWith_51 (by decide) ?_
          exact a_locR (ih (n + 1) (by omega) (by omega)) ⟨rfl, rfl, by rw [show exC C w (n + 1) = exC C w n + (if n % 2 = 0 then lN (binN (w + n) w * C (w + n)) else -(lN (binN (w + n) w * C (w + n)))) from rfl, if_pos (by omega)]; rfl, rfl, trivial⟩
  refine a_lconst (pc := 0) (v := lN 0) dX2_ordersWith_0 rfl ?_
  refine a_lstore_n (pc := 1) dX2_ordersWith_1 rfl (by decide) rfl ?_
  refine a_iload_n (pc := 2) dX2_ordersWith_2 rfl rfl ?_
  refine a_istore (pc := 3) dX2_ordersWith_3 (by decide) rfl ?_
  exact a_locR (loop _ 0 rfl (by omega)) ⟨rfl, rfl, rfl, rfl, trivial⟩

end COD

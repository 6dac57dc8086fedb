/-! FRACTIONS -/
def lZ (a : Int) : Int64 := Int64.ofInt a
theorem lZ_N (n : Nat) : lZ (n : Int) = lN n := Int64.ofInt_eq_ofNat
theorem lZ_add (a b : Int) : lZ a + lZ b = lZ (a + b) := (Int64.ofInt_add a b).symm
theorem lZ_mul (a b : Int) : lZ a * lZ b = lZ (a * b) := (Int64.ofInt_mul a b).symm
theorem lZ_sub (a b : Int) : lZ a - lZ b = lZ (a - b) := (Int64.ofInt_sub a b).symm
theorem lZ_neg (a : Int) : -lZ a = lZ (-a) := (Int64.ofInt_neg a).symm
theorem lZ_toInt {a : Int} (h : a.natAbs < 2 ^ 62) : (lZ a).toInt = a := Int64.toInt_ofInt_of_le (by omega) (by omega)
theorem lZ_div {a : Int} {g : Nat} (ha : a.natAbs < 2 ^ 62) (hg : g < 2 ^ 62) : lZ a / lN g = lZ (a.tdiv g) := by
  have hmin : Int64.minValue.toInt = -9223372036854775808 := by decide
  have hmax : Int64.maxValue.toInt = 9223372036854775807 := by decide
  rw [← lZ_N]
  exact (Int64.ofInt_tdiv (by rw [hmin]; omega) (by rw [hmax]; omega) (by rw [hmin]; omega) (by rw [hmax]; omega)).symm
theorem lZ_lt {a : Int} (h : a.natAbs < 2 ^ 62) : lZ a < lN 0 ↔ a < 0 := by
  rw [fa_lt64, lZ_toInt h, show (lN 0).toInt = 0 by decide]
theorem lZ_abs {a : Int} (h : a < 0) : -lZ a = lN a.natAbs := by
  rw [lZ_neg, ← lZ_N]
  congr 1
  omega
theorem lZ_pos {a : Int} (h : 0 ≤ a) : lZ a = lN a.natAbs := by
  rw [← lZ_N]
  congr 1
  omega
def L25 : Nat := 26771144400
theorem dvd_L25 : ∀ b, b < 26 → 0 < b → b ∣ L25 := by decide +kernel
/-- a fraction that is kept: in lowest terms or 0 by 1 as it comes; above within c times below -/
def FrOk (c : Nat) (A : Int) (B : Nat) : Prop := 0 < B ∧ B ∣ L25 ∧ A.natAbs ≤ c * B
def frX (A : Int) (B : Nat) (a : Int) (b : Nat) : Int := A * b + a * B
def frG (A : Int) (B : Nat) (a : Int) (b : Nat) : Nat := Nat.gcd (frX A B a b).natAbs (B * b)
def frA (A : Int) (B : Nat) (a : Int) (b : Nat) : Int := (frX A B a b).tdiv (frG A B a b)
def frB (A : Int) (B : Nat) (a : Int) (b : Nat) : Nat := B * b / frG A B a b
theorem FrOk.lt {c : Nat} {A : Int} {B : Nat} (h : FrOk c A B) : B ≤ L25 := Nat.le_of_dvd (by decide) h.2.1
theorem frX_le {c : Nat} {A a : Int} {B b : Nat} (h : FrOk c A B) (ha : a.natAbs ≤ 25 * b) : (frX A B a b).natAbs ≤ (c + 25) * (B * b) := by
  have h1 : (frX A B a b).natAbs ≤ A.natAbs * b + a.natAbs * B := by
    unfold frX
    refine Nat.le_trans (Int.natAbs_add_le _ _) ?_
    rw [Int.natAbs_mul, Int.natAbs_mul, Int.natAbs_natCast, Int.natAbs_natCast]
    exact Nat.le_refl _
  have h2 : A.natAbs * b ≤ c * B * b := Nat.mul_le_mul_right b h.2.2
  have h3 : a.natAbs * B ≤ 25 * b * B := Nat.mul_le_mul_right B ha
  have e : (c + 25) * (B * b) = c * B * b + 25 * b * B := by
    rw [Nat.add_mul, Nat.mul_assoc, Nat.mul_assoc 25, Nat.mul_comm b B]
  omega
theorem frG_pos {A a : Int} {B b : Nat} (hB : 0 < B) (hb : 0 < b) : 0 < frG A B a b := Nat.gcd_pos_of_pos_right _ (Nat.mul_pos hB hb)
theorem fr_ok {c : Nat} {A a : Int} {B b : Nat} (h : FrOk c A B) (hb : 0 < b) (hb2 : b < 26) (ha : a.natAbs ≤ 25 * b) : FrOk (c + 25) (frA A B a b) (frB A B a b) := by
  have hgp := frG_pos (A := A) (a := a) h.1 hb
  have hgy : frG A B a b ∣ B * b := Nat.gcd_dvd_right _ _
  have hgx : frG A B a b ∣ (frX A B a b).natAbs := Nat.gcd_dvd_left _ _
  have hyp : 0 < B * b := Nat.mul_pos h.1 hb
  refine ⟨Nat.div_pos (Nat.le_of_dvd hyp hgy) hgp, ?_, ?_⟩
  · have he1 : Nat.gcd B b ∣ (frX A B a b).natAbs := by
      have e1 : ((Nat.gcd B b : Nat) : Int) ∣ frX A B a b := by
        unfold frX
        refine Int.dvd_add ?_ ?_
        · exact Int.dvd_trans (Int.natCast_dvd_natCast.mpr (Nat.gcd_dvd_right B b)) (Int.dvd_mul_left _ _)
        · exact Int.dvd_trans (Int.natCast_dvd_natCast.mpr (Nat.gcd_dvd_left B b)) (Int.dvd_mul_left _ _)
      exact Int.ofNat_dvd_left.mp e1
    have he : Nat.gcd B b ∣ frG A B a b := Nat.dvd_gcd he1 (Nat.dvd_trans (Nat.gcd_dvd_left B b) (Nat.dvd_mul_right B b))
    obtain ⟨k, hk⟩ := he
    have hl : Nat.lcm B b ∣ L25 := Nat.lcm_dvd h.2.1 (dvd_L25 b hb2 hb)
    have h3 : frB A B a b * k = Nat.lcm B b := by
      have e2 : Nat.gcd B b * Nat.lcm B b = B * b := Nat.gcd_mul_lcm B b
      have e3 : frB A B a b * frG A B a b = B * b := Nat.div_mul_cancel hgy
      have hep : 0 < Nat.gcd B b := Nat.gcd_pos_of_pos_left _ h.1
      refine Nat.eq_of_mul_eq_mul_left hep ?_
      rw [e2, ← e3, hk, Nat.mul_left_comm]
    exact Nat.dvd_trans ⟨k, h3.symm⟩ hl
  · have hx := frX_le h ha
    have e1 : (frA A B a b).natAbs = (frX A B a b).natAbs / frG A B a b := by
      unfold frA
      rw [Int.natAbs_tdiv, Int.natAbs_natCast]
      rfl
    rw [e1]
    have e2 : (c + 25) * frB A B a b = (c + 25) * (B * b) / frG A B a b := (Nat.mul_div_assoc _ hgy).symm
    rw [e2]
    exact Nat.div_le_div_right hx
theorem fr_small {c : Nat} {A a : Int} {B b : Nat} (h : FrOk c A B) (hc : c ≤ 1000) (hb : 0 < b) (hb2 : b < 26) (ha : a.natAbs ≤ 25 * b) : (frX A B a b).natAbs < 2 ^ 62 ∧ B * b < 2 ^ 62 ∧ frG A B a b < 2 ^ 62 ∧ B < 2 ^ 62 := by
  have hB := h.lt
  unfold L25 at hB
  have h1 : B * b ≤ 26771144400 * 25 := Nat.mul_le_mul hB (by omega)
  have h2 := frX_le h ha
  have h3 : (c + 25) * (B * b) ≤ 1025 * (26771144400 * 25) := Nat.mul_le_mul (by omega) h1
  have h4 : frG A B a b ≤ B * b := Nat.le_of_dvd (Nat.mul_pos h.1 hb) (Nat.gcd_dvd_right _ _)
  omega
theorem fr_0 : FrOk 0 0 1 := ⟨by decide, ⟨L25, by decide⟩, by decide⟩
theorem a_2nd_l {X : KX} {M : MX} {y : MethodName} {cc : ByteArray} {nL : Nat} {rt : Option FieldType} {pc : Nat} {L : List (Nat × Value)} {st : List Value} {h : AH} {uc us : Nat} {w : Value} {x z : Int64} (e : x = z) (k : AJ X M y cc nL rt pc L (w :: .long z :: st) h uc us) : AJ X M y cc nL rt pc L (w :: .long x :: st) h uc us := e ▸ k
section MP7
variable {X : KX} {m : Nat → Nat} {s : MST} {h0 : AH}
set_option maxRecDepth 4000 in
theorem f_common {h : AH} {a : Int} {b : Nat} (ha : a.natAbs < 2 ^ 62) (hb : b < 2 ^ 62) : Fn X 0 0 0 yX12_common cX12_common 10 (some .long) [.long (lZ a), .long (lN b)] h (fun rv hv => rv = some (.long (lN (Nat.gcd a.natAbs b))) ∧ hv = h) := by
  refine fn_of (by decide) (Nat.le_of_ble_eq_true rfl) (fun M hM => ?_)
  have loop : ∀ N q p : Nat, q < N → p < 2 ^ 62 → q < 2 ^ 62 → Nat.gcd p q = Nat.gcd a.natAbs b → AJ X M yX12_common cX12_common 10 (some .long) 17 [(4, .long (lN p)), (6, .long (lN q))] [] h 0 0 := by
    intro N
    induction N with
    | zero => intro q p h1; exact absurd h1 (Nat.not_lt_zero _)
    | succ N ih =>
      intro q p h1 h2 h3 hg
      refine a_lload (pc := 17) dX12_common_17 rfl ?_
      refine a_lconst (pc := 19) (v := lN 0) dX12_common_19 rfl ?_
      refine a_lif_eq (pc := 20) (tgt := 42) dX12_common_20 dX12_common_21 (by decide) (fun c21 => ?_) (fun c21 => ?_)
      · have hq0 : q = 0 := (pk_lEQ (by omega) (by omega)).mp c21
        subst hq0
        rw [Nat.gcd_zero_right] at hg
        refine a_lload (pc := 42) dX12_common_42 rfl ?_
        refine a_ret_l (pc := 44) hM rfl dX12_common_44 (by omega) (by omega) ?_
        exact ⟨by rw [hg], rfl⟩
      · have hq0 : 0 < q := Nat.pos_of_ne_zero (fun z => c21 (by rw [z]))
        have hmod : p % q < q := Nat.mod_lt _ hq0
        have hgg : Nat.gcd q (p % q) = Nat.gcd a.natAbs b := by rw [← hg, Nat.gcd_comm p q, Nat.gcd_rec q p, Nat.gcd_comm]
        refine a_lload (pc := 24) dX12_common_24 rfl ?_
        refine a_lload (pc := 26) dX12_common_26 rfl ?_
        refine a_lremN (pc := 28) dX12_common_28 (by omega) (by omega) (by omega) ?_
        refine a_lstore (pc := 29) dX12_common_29 (by decide) rfl ?_
        refine a_lload (pc := 31) dX12_common_31 rfl ?_
        refine a_lstore (pc := 33) dX12_common_33 (by decide) rfl ?_
        refine a_lload (pc := 35) dX12_common_35 rfl ?_
        refine a_lstore (pc := 37) dX12_common_37 (by decide) rfl ?_
        refine a_goto (pc := 39) (tgt := 17) dX12_common_39 (by decide) ?_
        exact a_locR (ih (p % q) q (by omega) (by omega) (by omega) hgg) ⟨rfl, rfl, trivial⟩
  refine a_lload_n (pc := 0) dX12_common_0 rfl rfl ?_
  refine a_lconst (pc := 1) (v := lN 0) dX12_common_1 rfl ?_
  refine a_lif_ge (pc := 2) (tgt := 11) dX12_common_2 dX12_common_3 (by decide) (fun c3 => ?_) (fun c3 => ?_)
  · have hn : ¬ a < 0 := fun z => absurd ((lZ_lt ha).mpr z) (Int64.not_lt.mpr c3)
    refine a_lload_n (pc := 11) dX12_common_11 rfl rfl ?_
    refine a_topl (lZ_pos (Int.not_lt.mp hn)) ?_
    refine a_lstore (pc := 12) dX12_common_12 (by decide) rfl ?_
    refine a_lload_n (pc := 14) dX12_common_14 rfl rfl ?_
    refine a_lstore (pc := 15) dX12_common_15 (by decide) rfl ?_
    exact a_locR (loop (b + 1) b a.natAbs (Nat.lt_succ_self b) ha hb rfl) ⟨rfl, rfl, trivial⟩
  · have hn : a < 0 := (lZ_lt ha).mp c3
    refine a_lload_n (pc := 6) dX12_common_6 rfl rfl ?_
    refine a_lneg (pc := 7) dX12_common_7 ?_
    refine a_goto (pc := 8) (tgt := 12) dX12_common_8 (by decide) ?_
    refine a_topl (lZ_abs hn) ?_
    refine a_lstore (pc := 12) dX12_common_12 (by decide) rfl ?_
    refine a_lload_n (pc := 14) dX12_common_14 rfl rfl ?_
    refine a_lstore (pc := 15) dX12_common_15 (by decide) rfl ?_
    exact a_locR (loop (b + 1) b a.natAbs (Nat.lt_succ_self b) ha hb rfl) ⟨rfl, rfl, trivial⟩

def N_fr (s : MST) (A : Int) (B : Nat) : MST := sl (sl s 47 (lZ A)) 48 (lN B)
set_option maxRecDepth 4000 in
theorem f_adds (hm : MI m) {c : Nat} {A a : Int} {B b : Nat} (hA : s.2.2.1 47 = lZ A) (hB : s.2.2.1 48 = lN B) (hF : FrOk c A B) (hc : c ≤ 1000) (hb : 0 < b) (hb2 : b < 26) (ha : a.natAbs ≤ 25 * b) : Fn X 1 0 0 yX12_adds cX12_adds 11 none [.ref (m 65), .long (lZ a), .long (lN b)] (mh m s h0) (fun rv hv => rv = none ∧ hv = mh m (N_fr s (frA A B a b) (frB A B a b)) h0) := by
  obtain ⟨hx1, hx2, hx3, hx4⟩ := fr_small hF hc hb hb2 ha
  have hgp : 0 < Nat.gcd (frX A B a b).natAbs (B * b) := frG_pos hF.1 hb
  have hx3 : Nat.gcd (frX A B a b).natAbs (B * b) < 2 ^ 62 := hx3
  refine fn_of (by decide) (Nat.le_of_ble_eq_true rfl) (fun M hM => ?_)
  refine a_aload_n (pc := 0) dX12_adds_0 rfl rfl ?_
  refine a_getfield (pc := 1) kg_X12_383 dX12_adds_1 (m_obj hm) rfl ?_
  refine a_topl (hA) ?_
  refine a_lload_n (pc := 4) dX12_adds_4 rfl rfl ?_
  refine a_lmul (pc := 5) dX12_adds_5 ?_
  refine a_lload_n (pc := 6) dX12_adds_6 rfl rfl ?_
  refine a_aload_n (pc := 7) dX12_adds_7 rfl rfl ?_
  refine a_getfield (pc := 8) kg_X12_386 dX12_adds_8 (m_obj hm) rfl ?_
  refine a_topl (hB) ?_
  refine a_lmul (pc := 11) dX12_adds_11 ?_
  refine a_ladd (pc := 12) dX12_adds_12 ?_
  refine a_topl (show _ = lZ (frX A B a b) by rw [frX, ← lZ_N b, ← lZ_N B, lZ_mul, lZ_mul, lZ_add]) ?_
  refine a_lstore (pc := 13) dX12_adds_13 (by decide) rfl ?_
  refine a_aload_n (pc := 15) dX12_adds_15 rfl rfl ?_
  refine a_getfield (pc := 16) kg_X12_386 dX12_adds_16 (m_obj hm) rfl ?_
  refine a_topl (hB) ?_
  refine a_lload_n (pc := 19) dX12_adds_19 rfl rfl ?_
  refine a_lmulN (pc := 20) dX12_adds_20 ?_
  refine a_lstore (pc := 21) dX12_adds_21 (by decide) rfl ?_
  refine a_lload (pc := 23) dX12_adds_23 rfl ?_
  refine a_lload (pc := 25) dX12_adds_25 rfl ?_
  refine a_callS (pc := 27) km_X12_389 dX12_adds_27 (f_common hx1 hx2) rfl rfl (rok_of hM (by decide) (by decide) (by omega) (by omega)) (Nat.le_of_ble_eq_true rfl) (fun r27 h27 hp27 => ?_)
  obtain ⟨rfl, rfl⟩ := hp27
  refine a_lstore (pc := 30) dX12_adds_30 (by decide) rfl ?_
  refine a_aload_n (pc := 32) dX12_adds_32 rfl rfl ?_
  refine a_lload (pc := 33) dX12_adds_33 rfl ?_
  refine a_lload (pc := 35) dX12_adds_35 rfl ?_
  refine a_ldiv (pc := 37) dX12_adds_37 (lN_ne0 hgp (by omega)) ?_
  refine a_topl (lZ_div hx1 hx3) ?_
  refine a_putfield (pc := 38) kf_X12_383 dX12_adds_38 (m_obj hm) (rfl) (by rfl) (Nat.le_of_ble_eq_true rfl) ?_
  refine a_hp (m_p47 hm) ?_
  refine a_aload_n (pc := 41) dX12_adds_41 rfl rfl ?_
  refine a_lload (pc := 42) dX12_adds_42 rfl ?_
  refine a_lload (pc := 44) dX12_adds_44 rfl ?_
  refine a_ldivN (pc := 46) dX12_adds_46 (by omega) (by omega) (by omega) ?_
  refine a_putfield (pc := 47) kf_X12_386 dX12_adds_47 (m_obj hm) (rfl) (by rfl) (Nat.le_of_ble_eq_true rfl) ?_
  refine a_hp (m_p48 hm) ?_
  refine a_ret_v (pc := 50) hM rfl dX12_adds_50 (by omega) (by omega) ?_
  exact ⟨rfl, rfl⟩

set_option maxRecDepth 4000 in
theorem f_zero (hm : MI m)  : Fn X 0 0 0 yX12_zero cX12_zero 1 none [.ref (m 65)] (mh m s h0) (fun rv hv => rv = none ∧ hv = mh m (N_fr s 0 1) h0) := by
  refine fn_of (by decide) (Nat.le_of_ble_eq_true rfl) (fun M hM => ?_)
  refine a_aload_n (pc := 0) dX12_zero_0 rfl rfl ?_
  refine a_lconst (pc := 1) (v := lN 0) dX12_zero_1 rfl ?_
  refine a_putfield (pc := 2) kf_X12_383 dX12_zero_2 (m_obj hm) (rfl) (by rfl) (Nat.le_of_ble_eq_true rfl) ?_
  refine a_hp (m_p47 hm) ?_
  refine a_aload_n (pc := 5) dX12_zero_5 rfl rfl ?_
  refine a_lconst (pc := 6) (v := lN 1) dX12_zero_6 rfl ?_
  refine a_putfield (pc := 7) kf_X12_386 dX12_zero_7 (m_obj hm) (rfl) (by rfl) (Nat.le_of_ble_eq_true rfl) ?_
  refine a_hp (m_p48 hm) ?_
  refine a_ret_v (pc := 10) hM rfl dX12_zero_10 (by omega) (by omega) ?_
  exact ⟨rfl, rfl⟩

def expP (s : MST) (r p n : Nat) : Nat → Nat := sumN (fun g => cntN (fun i => decide (cnOf s 15 r i = g)) n * vA s 8 (5 * p + g))
set_option maxRecDepth 4000 in
theorem f_expected (hm : MI m) {r n p : Nat} (hr : r < 16) (hz : Rz s r n) (hp1 : s.2.1 11 r = nI p) (hp4 : p < 4) (hrow : ∀ i, i < n → okV (s.2.1 15 (25 * r + i)) 5) (hpo : ∀ g, g < 5 → okV (s.2.1 8 (5 * p + g)) 10) : Fn X 2 0 0 yX12_expected cX12_expected 4 (some .int) [.ref (m 65), .int (nI r)] (mh m s h0) (fun rv hv => rv = some (.int (nI (expP s r p n 5))) ∧ hv = mh m (sa s 23 (gsF (gs0 s) (cnOf s 15 r) n)) h0) := by
  have hle : n ≤ 25 := hz.choose_spec.2.2.2
  refine fn_of (by decide) (Nat.le_of_ble_eq_true rfl) (fun M hM => ?_)
  refine a_aload_n (pc := 0) dX12_expected_0 rfl rfl ?_
  refine a_iload_n (pc := 1) dX12_expected_1 rfl rfl ?_
  refine a_callV (pc := 2) km_X12_207 dX12_expected_2 (f_counts1 hm hr hz hrow) rfl rfl (krecv_of (ci := 12) rfl (m_obj hm)) (rok_of hM (by decide) (by decide) (by omega) (by omega)) (Nat.le_of_ble_eq_true rfl) (fun r2 h2 hp2 => ?_)
  obtain ⟨rfl, rfl⟩ := hp2
  refine a_iconst (pc := 5) dX12_expected_5 ic_0 ?_
  refine a_istore_n (pc := 6) dX12_expected_6 rfl (by decide) rfl ?_
  refine a_iconst (pc := 7) dX12_expected_7 ic_0 ?_
  refine a_istore_n (pc := 8) dX12_expected_8 rfl (by decide) rfl ?_
  have loop : ∀ j g : Nat, 5 - g = j → g ≤ 5 →  AJ X M yX12_expected cX12_expected 4 (some .int) 9 [(0, .ref (m 65)), (1, .int (nI r)), (2, .int (nI (expP s r p n g))), (3, .int (nI g))] [] (mh m (sa s 23 (gsF (gs0 s) (cnOf s 15 r) n)) h0) 0 0 := by
    intro j
    induction j with
    | zero =>
      intro g hjk hkN
      refine a_iload_n (pc := 9) dX12_expected_9 rfl rfl ?_
      refine a_iconst (pc := 10) dX12_expected_10 ic_5 ?_
      refine a_icmp_geN (pc := 11) (tgt := 45) dX12_expected_11 (by decide) (by omega) (by omega) (fun c11 => ?_) (fun c11 => ?_)
      · have hg5 : g = 5 := by omega
        subst hg5
        refine a_iload_n (pc := 45) dX12_expected_45 rfl rfl ?_
        refine a_ret_i (pc := 46) hM rfl (rfl) dX12_expected_46 (by omega) (by omega) ?_
        exact ⟨rfl, rfl⟩
      · exact absurd c11 (by omega)
    | succ j ih =>
      intro g hjk hkN
      refine a_iload_n (pc := 9) dX12_expected_9 rfl rfl ?_
      refine a_iconst (pc := 10) dX12_expected_10 ic_5 ?_
      refine a_icmp_geN (pc := 11) (tgt := 45) dX12_expected_11 (by decide) (by omega) (by omega) (fun c11 => ?_) (fun c11 => ?_)
      · exact absurd c11 (by omega)
      · have hpk := hpo g (by omega)
        have hpk1 : s.2.1 8 (5 * p + g) = nI (vA s 8 (5 * p + g)) := hpk.1
        have hpk2 : vA s 8 (5 * p + g) < 10 := hpk.2
        have hcn : cntN (fun i => decide (cnOf s 15 r i = g)) n ≤ n := cntN_le _ _
        have hprod : cntN (fun i => decide (cnOf s 15 r i = g)) n * vA s 8 (5 * p + g) ≤ 25 * 10 := Nat.mul_le_mul (by omega) (by omega)
        refine a_iload_n (pc := 14) dX12_expected_14 rfl rfl ?_
        refine a_aload_n (pc := 15) dX12_expected_15 rfl rfl ?_
        refine a_getfield (pc := 16) kg_X12_66 dX12_expected_16 (m_obj hm) rfl ?_
        refine a_iload_n (pc := 19) dX12_expected_19 rfl rfl ?_
        refine a_iaload (pc := 20) dX12_expected_20 (m_a23 hm) (_) (rfl) (by omega) (by omega) ?_
        refine a_topi (gsF_cnt (gs0_z (by omega)) n) ?_
        refine a_aload_n (pc := 21) dX12_expected_21 rfl rfl ?_
        refine a_getfield (pc := 22) kg_X12_27 dX12_expected_22 (m_obj hm) rfl ?_
        refine a_iconst (pc := 25) dX12_expected_25 ic_5 ?_
        refine a_aload_n (pc := 26) dX12_expected_26 rfl rfl ?_
        refine a_getfield (pc := 27) kg_X12_33 dX12_expected_27 (m_obj hm) rfl ?_
        refine a_iload_n (pc := 30) dX12_expected_30 rfl rfl ?_
        refine a_iaload (pc := 31) dX12_expected_31 (m_a11 hm) (_) (rfl) (by omega) (by omega) ?_
        refine a_topi (hp1) ?_
        refine a_imulN (pc := 32) dX12_expected_32 ?_
        refine a_iload_n (pc := 33) dX12_expected_33 rfl rfl ?_
        refine a_iaddN (pc := 34) dX12_expected_34 ?_
        refine a_iaload (pc := 35) dX12_expected_35 (m_a8 hm) (_) (rfl) (by omega) (by omega) ?_
        refine a_topi (hpk1) ?_
        refine a_imulN (pc := 36) dX12_expected_36 ?_
        refine a_iaddN (pc := 37) dX12_expected_37 ?_
        refine a_istore_n (pc := 38) dX12_expected_38 rfl (by decide) rfl ?_
        refine a_iincN (pc := 39) (n := 1) dX12_expected_39 (by decide) rfl (by decide) rfl ?_
        refine a_goto (pc := 42) (tgt := 9) dX12_expected_42 (by decide) ?_
        exact a_locR (ih (g + 1) (by omega) (by omega)) ⟨rfl, rfl, rfl, rfl, trivial⟩
  exact a_locR (loop _ 0 rfl (Nat.zero_le _)) ⟨rfl, rfl, rfl, rfl, trivial⟩

def fallF (s : MST) (g d : Int32) : Int × Nat := if 0 < ranM s g (nI 0) d (vI s 18) ∧ 0 < ranM s g d (nI 100) (vI s 18) then
    (frA (frA 0 1 (ranH s g (nI 0) d (vI s 18)) (ranM s g (nI 0) d (vI s 18))) (frB 0 1 (ranH s g (nI 0) d (vI s 18)) (ranM s g (nI 0) d (vI s 18))) (-(ranH s g d (nI 100) (vI s 18) : Int)) (ranM s g d (nI 100) (vI s 18)),
     frB (frA 0 1 (ranH s g (nI 0) d (vI s 18)) (ranM s g (nI 0) d (vI s 18))) (frB 0 1 (ranH s g (nI 0) d (vI s 18)) (ranM s g (nI 0) d (vI s 18))) (-(ranH s g d (nI 100) (vI s 18) : Int)) (ranM s g d (nI 100) (vI s 18)))
  else (0, 1)
def R_falls (s : MST) (g d w : Int32) : Int64 × MST := if (inN g 8 && inR d 0 100 && inN w 2) = true then ((if w = 0 then lZ (fallF s g d).1 else lN (fallF s g d).2), s) else (-4611686018427387904, s)
theorem ranH_leM (s : MST) (g a b : Int32) (n : Nat) (h : ∀ k, k < n → rsz s k ≤ 25) : ranH s g a b n ≤ 25 * ranM s g a b n := by
  induction n with
  | zero => exact Nat.le_refl 0
  | succ n ih =>
    have h1 := ih (fun k hk => h k (by omega))
    have h2 : hitsP s n (rsz s n) ≤ rsz s n := cntN_le _ _
    have h3 := h n (by omega)
    rw [ranH_s, ranM_s]
    split <;> omega
theorem sl_sl {s : MST} {k : Nat} {v w : Int64} : sl (sl s k v) k w = sl s k w := by
  unfold sl
  congr 3
  funext j
  by_cases h : j = k
  · rw [if_pos h, if_pos h]
  · rw [if_neg h, if_neg h]; exact if_neg h
theorem SP_fr {s : MST} {A : Int} {B : Nat} : SP (N_fr s A B) s := SP.sl (SP.sl SP.rfl)
theorem neg_nI {h : Nat} (hh : h < 2147483648) : (-nI h).toInt64 = lZ (-(h : Int)) := by
  have e : (-nI h).toInt = -(h : Int) := sb_negT hh
  unfold lZ
  rw [← e]
  exact (Int64.ofInt_int32ToInt _).symm
theorem cast_le {a b : Nat} (h : a ≤ 25 * b) : ((a : Int)).natAbs ≤ 25 * b := by rw [Int.natAbs_natCast]; exact h
theorem castn_le {a b : Nat} (h : a ≤ 25 * b) : (-(a : Int)).natAbs ≤ 25 * b := by rw [Int.natAbs_neg, Int.natAbs_natCast]; exact h
set_option maxRecDepth 4000 in
theorem f_falls (hm : MI m) (hV : MV s) (g d w : Int32) : Fn X 3 0 0 yX12_falls cX12_falls 6 (some .long) [.ref (m 65), .int g, .int d, .int w] (mh m s h0) (fun rv hv => rv = some (.long (R_falls s g d w).1) ∧ ∃ s' : MST, hv = mh m s' h0 ∧ SP s' (R_falls s g d w).2) := by
  obtain ⟨⟨hn18, hb18⟩, hl18⟩ := id hV.2.1
  refine fn_of (by decide) (Nat.le_of_ble_eq_true rfl) (fun M hM => ?_)
  refine a_iload_n (pc := 0) dX12_falls_0 rfl rfl ?_
  refine a_callS (pc := 1) km_X12_393 dX12_falls_1 (f_isGuesser _) rfl rfl (rok_of hM (by decide) (by decide) (by omega) (by omega)) (Nat.le_of_ble_eq_true rfl) (fun r1 h1 hp1 => ?_)
  obtain ⟨rfl, rfl⟩ := hp1
  refine a_if_eqB (pc := 4) (tgt := 29) dX12_falls_4 (by decide) (fun c4 => ?_) (fun c4 => ?_)
  · refine a_ldc2 (pc := 29) kc_X12_205 dX12_falls_29 ?_
    refine a_ret_l (pc := 32) hM rfl dX12_falls_32 (by omega) (by omega) ?_
    exact ⟨by first | simp only [R_falls, c4, Bool.and_self, Bool.and_true, Bool.true_and, Bool.and_false, Bool.false_and, Bool.false_eq_true, Nat.add_sub_cancel, reduceIte], _, rfl, by first | (simp only [R_falls, c4, Bool.and_self, Bool.and_true, Bool.true_and, Bool.and_false, Bool.false_and, Bool.false_eq_true, Nat.add_sub_cancel, reduceIte]; exact SP.rfl)⟩
  · refine a_iload_n (pc := 7) dX12_falls_7 rfl rfl ?_
    refine a_i2l (pc := 8) dX12_falls_8 ?_
    refine a_lconst (pc := 9) (v := lN 0) dX12_falls_9 rfl ?_
    refine a_ldc2 (pc := 10) kc_X12_412 dX12_falls_10 ?_
    refine a_topl (z := lN 100) rfl ?_
    refine a_callS (pc := 13) km_X12_142 dX12_falls_13 (f_in _ _ _) rfl rfl (rok_of hM (by decide) (by decide) (by omega) (by omega)) (Nat.le_of_ble_eq_true rfl) (fun r13 h13 hp13 => ?_)
    obtain ⟨rfl, rfl⟩ := hp13
    refine a_topi (congrArg bI (in_rng3 (x := d) (a := 0) (b := 100) (by decide) (by decide))) ?_
    refine a_if_eqB (pc := 16) (tgt := 29) dX12_falls_16 (by decide) (fun c16 => ?_) (fun c16 => ?_)
    · refine a_ldc2 (pc := 29) kc_X12_205 dX12_falls_29 ?_
      refine a_ret_l (pc := 32) hM rfl dX12_falls_32 (by omega) (by omega) ?_
      exact ⟨by first | simp only [R_falls, c4, c16, Bool.and_self, Bool.and_true, Bool.true_and, Bool.and_false, Bool.false_and, Bool.false_eq_true, Nat.add_sub_cancel, reduceIte], _, rfl, by first | (simp only [R_falls, c4, c16, Bool.and_self, Bool.and_true, Bool.true_and, Bool.and_false, Bool.false_and, Bool.false_eq_true, Nat.add_sub_cancel, reduceIte]; exact SP.rfl)⟩
    · refine a_iload_n (pc := 19) dX12_falls_19 rfl rfl ?_
      refine a_i2l (pc := 20) dX12_falls_20 ?_
      refine a_lconst (pc := 21) (v := lN 0) dX12_falls_21 rfl ?_
      refine a_lconst (pc := 22) (v := lN 1) dX12_falls_22 rfl ?_
      refine a_callS (pc := 23) km_X12_142 dX12_falls_23 (f_in _ _ _) rfl rfl (rok_of hM (by decide) (by decide) (by omega) (by omega)) (Nat.le_of_ble_eq_true rfl) (fun r23 h23 hp23 => ?_)
      obtain ⟨rfl, rfl⟩ := hp23
      refine a_topi (congrArg bI (in_rng2 (x := w) (n := 2) (k := 1) (by omega) (by omega))) ?_
      refine a_if_neB (pc := 26) (tgt := 33) dX12_falls_26 (by decide) (fun c26 => ?_) (fun c26 => ?_)
      · have hcc : (inN g 8 && inR d 0 100 && inN w 2) = true := by rw [c4, c16, c26]; rfl
        refine a_aload_n (pc := 33) dX12_falls_33 rfl rfl ?_
        refine a_callV (pc := 34) km_X12_396 dX12_falls_34 (f_zero hm) rfl rfl (krecv_of (ci := 12) rfl (m_obj hm)) (rok_of hM (by decide) (by decide) (by omega) (by omega)) (Nat.le_of_ble_eq_true rfl) (fun r34 h34 hp34 => ?_)
        obtain ⟨rfl, rfl⟩ := hp34
        refine a_aload_n (pc := 37) dX12_falls_37 rfl rfl ?_
        refine a_iload_n (pc := 38) dX12_falls_38 rfl rfl ?_
        refine a_iconst (pc := 39) dX12_falls_39 ic_0 ?_
        refine a_iload_n (pc := 40) dX12_falls_40 rfl rfl ?_
        refine a_callV (pc := 41) km_X12_414 dX12_falls_41 (f_ran (s := N_fr s 0 1) hm (MV_sp (SP.sym SP_fr) hV) g (nI 0) d) rfl rfl (krecv_of (ci := 12) rfl (m_obj hm)) (rok_of hM (by decide) (by decide) (by omega) (by omega)) (Nat.le_of_ble_eq_true rfl) (fun r41 h41 hp41 => ?_)
        obtain ⟨rfl, rfl⟩ := hp41
        have hM1 := ranM_le s g (nI 0) d (vI s 18)
        have hM2 := ranM_le s g d (nI 100) (vI s 18)
        have hHM1 := ranH_leM s g (nI 0) d (vI s 18) (fun k hk => (MV_run hV hk).2.2.2)
        have hHM2 := ranH_leM s g d (nI 100) (vI s 18) (fun k hk => (MV_run hV hk).2.2.2)
        have hs1 : SP (N_ran (N_fr s 0 1) g (nI 0) d (vI (N_fr s 0 1) 18)) s := (SP.tr N_ran_sp SP_fr)
        have hs2 : SP (N_ran (N_ran (N_fr s 0 1) g (nI 0) d (vI (N_fr s 0 1) 18)) g d (nI 100) (vI (N_ran (N_fr s 0 1) g (nI 0) d (vI (N_fr s 0 1) 18)) 18)) s := SP.tr N_ran_sp hs1
        have e18 : vI (N_fr s 0 1) 18 = vI s 18 := rfl
        have e18b : vI (N_ran (N_fr s 0 1) g (nI 0) d (vI (N_fr s 0 1) 18)) 18 = vI s 18 := rfl
        have eM1 : ranM (N_fr s 0 1) g (nI 0) d (vI (N_fr s 0 1) 18) = ranM s g (nI 0) d (vI s 18) := ranM_sp SP_fr _ _ _ _
        have eH1 : ranH (N_fr s 0 1) g (nI 0) d (vI (N_fr s 0 1) 18) = ranH s g (nI 0) d (vI s 18) := ranH_sp SP_fr _ _ _ _
        have eM2 : ranM (N_ran (N_fr s 0 1) g (nI 0) d (vI (N_fr s 0 1) 18)) g d (nI 100) (vI (N_ran (N_fr s 0 1) g (nI 0) d (vI (N_fr s 0 1) 18)) 18) = ranM s g d (nI 100) (vI s 18) := ranM_sp hs1 _ _ _ _
        have eH2 : ranH (N_ran (N_fr s 0 1) g (nI 0) d (vI (N_fr s 0 1) 18)) g d (nI 100) (vI (N_ran (N_fr s 0 1) g (nI 0) d (vI (N_fr s 0 1) 18)) 18) = ranH s g d (nI 100) (vI s 18) := ranH_sp hs1 _ _ _ _
        refine a_aload_n (pc := 44) dX12_falls_44 rfl rfl ?_
        refine a_getfield (pc := 45) kg_X12_406 dX12_falls_45 (m_obj hm) rfl ?_
        refine a_topi ((show _ = nI (ranM s g (nI 0) d (vI s 18)) from congrArg nI eM1)) ?_
        refine a_istore (pc := 48) dX12_falls_48 (by decide) rfl ?_
        refine a_aload_n (pc := 50) dX12_falls_50 rfl rfl ?_
        refine a_getfield (pc := 51) kg_X12_409 dX12_falls_51 (m_obj hm) rfl ?_
        refine a_topi ((show _ = nI (ranH s g (nI 0) d (vI s 18)) from congrArg nI eH1)) ?_
        refine a_istore (pc := 54) dX12_falls_54 (by decide) rfl ?_
        refine a_aload_n (pc := 56) dX12_falls_56 rfl rfl ?_
        refine a_iload_n (pc := 57) dX12_falls_57 rfl rfl ?_
        refine a_iload_n (pc := 58) dX12_falls_58 rfl rfl ?_
        refine a_bipush (pc := 59) dX12_falls_59 ib_100 ?_
        refine a_callV (pc := 61) km_X12_414 dX12_falls_61 (f_ran (s := (N_ran (N_fr s 0 1) g (nI 0) d (vI (N_fr s 0 1) 18))) hm (MV_sp (SP.sym hs1) hV) g d (nI 100)) rfl rfl (krecv_of (ci := 12) rfl (m_obj hm)) (rok_of hM (by decide) (by decide) (by omega) (by omega)) (Nat.le_of_ble_eq_true rfl) (fun r61 h61 hp61 => ?_)
        obtain ⟨rfl, rfl⟩ := hp61
        refine a_iload (pc := 64) dX12_falls_64 rfl ?_
        refine a_if_leN (pc := 66) (tgt := 101) dX12_falls_66 (by decide) (by omega) (fun c66 => ?_) (fun c66 => ?_)
        · have hff : fallF s g d = (0, 1) := if_neg (fun z => absurd z.1 (by omega))
          have hA0 : (N_ran (N_ran (N_fr s 0 1) g (nI 0) d (vI (N_fr s 0 1) 18)) g d (nI 100) (vI (N_ran (N_fr s 0 1) g (nI 0) d (vI (N_fr s 0 1) 18)) 18)).2.2.1 47 = lZ (fallF s g d).1 := by rw [hff]; rfl
          have hB0 : (N_ran (N_ran (N_fr s 0 1) g (nI 0) d (vI (N_fr s 0 1) 18)) g d (nI 100) (vI (N_ran (N_fr s 0 1) g (nI 0) d (vI (N_fr s 0 1) 18)) 18)).2.2.1 48 = lN (fallF s g d).2 := by rw [hff]; rfl
          refine a_iload_n (pc := 101) dX12_falls_101 rfl rfl ?_
          refine a_if_ne (pc := 102) (tgt := 112) dX12_falls_102 (by decide) (fun c102 => ?_) (fun c102 => ?_)
          · refine a_aload_n (pc := 112) dX12_falls_112 rfl rfl ?_
            refine a_getfield (pc := 113) kg_X12_386 dX12_falls_113 (m_obj hm) rfl ?_
            refine a_topl (hB0) ?_
            refine a_ret_l (pc := 116) hM rfl dX12_falls_116 (by omega) (by omega) ?_
            first | exact ⟨by rw [R_falls, if_pos hcc, if_pos c102], _, rfl, by rw [R_falls, if_pos hcc]; first | exact hs2 | exact SP.tr SP_fr (SP.tr SP_fr hs2)⟩ | exact ⟨by rw [R_falls, if_pos hcc, if_neg c102], _, rfl, by rw [R_falls, if_pos hcc]; first | exact hs2 | exact SP.tr SP_fr (SP.tr SP_fr hs2)⟩
          · refine a_aload_n (pc := 105) dX12_falls_105 rfl rfl ?_
            refine a_getfield (pc := 106) kg_X12_383 dX12_falls_106 (m_obj hm) rfl ?_
            refine a_topl (hA0) ?_
            refine a_goto (pc := 109) (tgt := 116) dX12_falls_109 (by decide) ?_
            refine a_ret_l (pc := 116) hM rfl dX12_falls_116 (by omega) (by omega) ?_
            first | exact ⟨by rw [R_falls, if_pos hcc, if_pos c102], _, rfl, by rw [R_falls, if_pos hcc]; first | exact hs2 | exact SP.tr SP_fr (SP.tr SP_fr hs2)⟩ | exact ⟨by rw [R_falls, if_pos hcc, if_neg c102], _, rfl, by rw [R_falls, if_pos hcc]; first | exact hs2 | exact SP.tr SP_fr (SP.tr SP_fr hs2)⟩
        · refine a_aload_n (pc := 69) dX12_falls_69 rfl rfl ?_
          refine a_getfield (pc := 70) kg_X12_406 dX12_falls_70 (m_obj hm) rfl ?_
          refine a_topi ((show _ = nI (ranM s g d (nI 100) (vI s 18)) from congrArg nI eM2)) ?_
          refine a_if_leN (pc := 73) (tgt := 101) dX12_falls_73 (by decide) (by omega) (fun c73 => ?_) (fun c73 => ?_)
          · have hff : fallF s g d = (0, 1) := if_neg (fun z => absurd z.2 (by omega))
            have hA0 : (N_ran (N_ran (N_fr s 0 1) g (nI 0) d (vI (N_fr s 0 1) 18)) g d (nI 100) (vI (N_ran (N_fr s 0 1) g (nI 0) d (vI (N_fr s 0 1) 18)) 18)).2.2.1 47 = lZ (fallF s g d).1 := by rw [hff]; rfl
            have hB0 : (N_ran (N_ran (N_fr s 0 1) g (nI 0) d (vI (N_fr s 0 1) 18)) g d (nI 100) (vI (N_ran (N_fr s 0 1) g (nI 0) d (vI (N_fr s 0 1) 18)) 18)).2.2.1 48 = lN (fallF s g d).2 := by rw [hff]; rfl
            refine a_iload_n (pc := 101) dX12_falls_101 rfl rfl ?_
            refine a_if_ne (pc := 102) (tgt := 112) dX12_falls_102 (by decide) (fun c102 => ?_) (fun c102 => ?_)
            · refine a_aload_n (pc := 112) dX12_falls_112 rfl rfl ?_
              refine a_getfield (pc := 113) kg_X12_386 dX12_falls_113 (m_obj hm) rfl ?_
              refine a_topl (hB0) ?_
              refine a_ret_l (pc := 116) hM rfl dX12_falls_116 (by omega) (by omega) ?_
              first | exact ⟨by rw [R_falls, if_pos hcc, if_pos c102], _, rfl, by rw [R_falls, if_pos hcc]; first | exact hs2 | exact SP.tr SP_fr (SP.tr SP_fr hs2)⟩ | exact ⟨by rw [R_falls, if_pos hcc, if_neg c102], _, rfl, by rw [R_falls, if_pos hcc]; first | exact hs2 | exact SP.tr SP_fr (SP.tr SP_fr hs2)⟩
            · refine a_aload_n (pc := 105) dX12_falls_105 rfl rfl ?_
              refine a_getfield (pc := 106) kg_X12_383 dX12_falls_106 (m_obj hm) rfl ?_
              refine a_topl (hA0) ?_
              refine a_goto (pc := 109) (tgt := 116) dX12_falls_109 (by decide) ?_
              refine a_ret_l (pc := 116) hM rfl dX12_falls_116 (by omega) (by omega) ?_
              first | exact ⟨by rw [R_falls, if_pos hcc, if_pos c102], _, rfl, by rw [R_falls, if_pos hcc]; first | exact hs2 | exact SP.tr SP_fr (SP.tr SP_fr hs2)⟩ | exact ⟨by rw [R_falls, if_pos hcc, if_neg c102], _, rfl, by rw [R_falls, if_pos hcc]; first | exact hs2 | exact SP.tr SP_fr (SP.tr SP_fr hs2)⟩
          · have hok1 := fr_ok fr_0 (a := (ranH s g (nI 0) d (vI s 18) : Int)) c66 (by omega) (cast_le hHM1)
            refine a_aload_n (pc := 76) dX12_falls_76 rfl rfl ?_
            refine a_iload (pc := 77) dX12_falls_77 rfl ?_
            refine a_i2lN (pc := 79) dX12_falls_79 (by omega) ?_
            refine a_iload (pc := 80) dX12_falls_80 rfl ?_
            refine a_i2lN (pc := 82) dX12_falls_82 (by omega) ?_
            refine a_2nd_l (z := lZ (ranH s g (nI 0) d (vI s 18) : Int)) (lZ_N (ranH s g (nI 0) d (vI s 18))).symm ?_
            refine a_callV (pc := 83) km_X12_402 dX12_falls_83 (f_adds (s := (N_ran (N_ran (N_fr s 0 1) g (nI 0) d (vI (N_fr s 0 1) 18)) g d (nI 100) (vI (N_ran (N_fr s 0 1) g (nI 0) d (vI (N_fr s 0 1) 18)) 18))) (A := 0) (B := 1) (a := (ranH s g (nI 0) d (vI s 18) : Int)) (b := ranM s g (nI 0) d (vI s 18)) hm rfl rfl fr_0 (by decide) c66 (by omega) (cast_le hHM1)) rfl rfl (krecv_of (ci := 12) rfl (m_obj hm)) (rok_of hM (by decide) (by decide) (by omega) (by omega)) (Nat.le_of_ble_eq_true rfl) (fun r83 h83 hp83 => ?_)
            obtain ⟨rfl, rfl⟩ := hp83
            refine a_aload_n (pc := 86) dX12_falls_86 rfl rfl ?_
            refine a_aload_n (pc := 87) dX12_falls_87 rfl rfl ?_
            refine a_getfield (pc := 88) kg_X12_409 dX12_falls_88 (m_obj hm) rfl ?_
            refine a_topi ((show _ = nI (ranH s g d (nI 100) (vI s 18)) from congrArg nI eH2)) ?_
            refine a_ineg (pc := 91) dX12_falls_91 ?_
            refine a_i2l (pc := 92) dX12_falls_92 ?_
            refine a_topl (neg_nI (by omega)) ?_
            refine a_aload_n (pc := 93) dX12_falls_93 rfl rfl ?_
            refine a_getfield (pc := 94) kg_X12_406 dX12_falls_94 (m_obj hm) rfl ?_
            refine a_topi ((show _ = nI (ranM s g d (nI 100) (vI s 18)) from congrArg nI eM2)) ?_
            refine a_i2lN (pc := 97) dX12_falls_97 (by omega) ?_
            refine a_callV (pc := 98) km_X12_402 dX12_falls_98 (f_adds (s := (N_fr (N_ran (N_ran (N_fr s 0 1) g (nI 0) d (vI (N_fr s 0 1) 18)) g d (nI 100) (vI (N_ran (N_fr s 0 1) g (nI 0) d (vI (N_fr s 0 1) 18)) 18)) (frA 0 1 (ranH s g (nI 0) d (vI s 18)) (ranM s g (nI 0) d (vI s 18))) (frB 0 1 (ranH s g (nI 0) d (vI s 18)) (ranM s g (nI 0) d (vI s 18))))) (A := (frA 0 1 (ranH s g (nI 0) d (vI s 18)) (ranM s g (nI 0) d (vI s 18)))) (B := (frB 0 1 (ranH s g (nI 0) d (vI s 18)) (ranM s g (nI 0) d (vI s 18)))) (a := -(ranH s g d (nI 100) (vI s 18) : Int)) (b := ranM s g d (nI 100) (vI s 18)) hm rfl rfl hok1 (by omega) c73 (by omega) (castn_le hHM2)) rfl rfl (krecv_of (ci := 12) rfl (m_obj hm)) (rok_of hM (by decide) (by decide) (by omega) (by omega)) (Nat.le_of_ble_eq_true rfl) (fun r98 h98 hp98 => ?_)
            obtain ⟨rfl, rfl⟩ := hp98
            have hff : fallF s g d = (frA (frA 0 1 (ranH s g (nI 0) d (vI s 18)) (ranM s g (nI 0) d (vI s 18))) (frB 0 1 (ranH s g (nI 0) d (vI s 18)) (ranM s g (nI 0) d (vI s 18))) (-(ranH s g d (nI 100) (vI s 18) : Int)) (ranM s g d (nI 100) (vI s 18)), frB (frA 0 1 (ranH s g (nI 0) d (vI s 18)) (ranM s g (nI 0) d (vI s 18))) (frB 0 1 (ranH s g (nI 0) d (vI s 18)) (ranM s g (nI 0) d (vI s 18))) (-(ranH s g d (nI 100) (vI s 18) : Int)) (ranM s g d (nI 100) (vI s 18))) := if_pos ⟨c66, c73⟩
            have hA0 : (N_fr (N_fr (N_ran (N_ran (N_fr s 0 1) g (nI 0) d (vI (N_fr s 0 1) 18)) g d (nI 100) (vI (N_ran (N_fr s 0 1) g (nI 0) d (vI (N_fr s 0 1) 18)) 18)) (frA 0 1 (ranH s g (nI 0) d (vI s 18)) (ranM s g (nI 0) d (vI s 18))) (frB 0 1 (ranH s g (nI 0) d (vI s 18)) (ranM s g (nI 0) d (vI s 18)))) (frA (frA 0 1 (ranH s g (nI 0) d (vI s 18)) (ranM s g (nI 0) d (vI s 18))) (frB 0 1 (ranH s g (nI 0) d (vI s 18)) (ranM s g (nI 0) d (vI s 18))) (-(ranH s g d (nI 100) (vI s 18) : Int)) (ranM s g d (nI 100) (vI s 18))) (frB (frA 0 1 (ranH s g (nI 0) d (vI s 18)) (ranM s g (nI 0) d (vI s 18))) (frB 0 1 (ranH s g (nI 0) d (vI s 18)) (ranM s g (nI 0) d (vI s 18))) (-(ranH s g d (nI 100) (vI s 18) : Int)) (ranM s g d (nI 100) (vI s 18)))).2.2.1 47 = lZ (fallF s g d).1 := by rw [hff]; rfl
            have hB0 : (N_fr (N_fr (N_ran (N_ran (N_fr s 0 1) g (nI 0) d (vI (N_fr s 0 1) 18)) g d (nI 100) (vI (N_ran (N_fr s 0 1) g (nI 0) d (vI (N_fr s 0 1) 18)) 18)) (frA 0 1 (ranH s g (nI 0) d (vI s 18)) (ranM s g (nI 0) d (vI s 18))) (frB 0 1 (ranH s g (nI 0) d (vI s 18)) (ranM s g (nI 0) d (vI s 18)))) (frA (frA 0 1 (ranH s g (nI 0) d (vI s 18)) (ranM s g (nI 0) d (vI s 18))) (frB 0 1 (ranH s g (nI 0) d (vI s 18)) (ranM s g (nI 0) d (vI s 18))) (-(ranH s g d (nI 100) (vI s 18) : Int)) (ranM s g d (nI 100) (vI s 18))) (frB (frA 0 1 (ranH s g (nI 0) d (vI s 18)) (ranM s g (nI 0) d (vI s 18))) (frB 0 1 (ranH s g (nI 0) d (vI s 18)) (ranM s g (nI 0) d (vI s 18))) (-(ranH s g d (nI 100) (vI s 18) : Int)) (ranM s g d (nI 100) (vI s 18)))).2.2.1 48 = lN (fallF s g d).2 := by rw [hff]; rfl
            refine a_iload_n (pc := 101) dX12_falls_101 rfl rfl ?_
            refine a_if_ne (pc := 102) (tgt := 112) dX12_falls_102 (by decide) (fun c102 => ?_) (fun c102 => ?_)
            · refine a_aload_n (pc := 112) dX12_falls_112 rfl rfl ?_
              refine a_getfield (pc := 113) kg_X12_386 dX12_falls_113 (m_obj hm) rfl ?_
              refine a_topl (hB0) ?_
              refine a_ret_l (pc := 116) hM rfl dX12_falls_116 (by omega) (by omega) ?_
              first | exact ⟨by rw [R_falls, if_pos hcc, if_pos c102], _, rfl, by rw [R_falls, if_pos hcc]; first | exact hs2 | exact SP.tr SP_fr (SP.tr SP_fr hs2)⟩ | exact ⟨by rw [R_falls, if_pos hcc, if_neg c102], _, rfl, by rw [R_falls, if_pos hcc]; first | exact hs2 | exact SP.tr SP_fr (SP.tr SP_fr hs2)⟩
            · refine a_aload_n (pc := 105) dX12_falls_105 rfl rfl ?_
              refine a_getfield (pc := 106) kg_X12_383 dX12_falls_106 (m_obj hm) rfl ?_
              refine a_topl (hA0) ?_
              refine a_goto (pc := 109) (tgt := 116) dX12_falls_109 (by decide) ?_
              refine a_ret_l (pc := 116) hM rfl dX12_falls_116 (by omega) (by omega) ?_
              first | exact ⟨by rw [R_falls, if_pos hcc, if_pos c102], _, rfl, by rw [R_falls, if_pos hcc]; first | exact hs2 | exact SP.tr SP_fr (SP.tr SP_fr hs2)⟩ | exact ⟨by rw [R_falls, if_pos hcc, if_neg c102], _, rfl, by rw [R_falls, if_pos hcc]; first | exact hs2 | exact SP.tr SP_fr (SP.tr SP_fr hs2)⟩
      · refine a_ldc2 (pc := 29) kc_X12_205 dX12_falls_29 ?_
        refine a_ret_l (pc := 32) hM rfl dX12_falls_32 (by omega) (by omega) ?_
        exact ⟨by first | simp only [R_falls, c4, c16, c26, Bool.and_self, Bool.and_true, Bool.true_and, Bool.and_false, Bool.false_and, Bool.false_eq_true, Nat.add_sub_cancel, reduceIte], _, rfl, by first | (simp only [R_falls, c4, c16, c26, Bool.and_self, Bool.and_true, Bool.true_and, Bool.and_false, Bool.false_and, Bool.false_eq_true, Nat.add_sub_cancel, reduceIte]; exact SP.rfl)⟩

end MP7

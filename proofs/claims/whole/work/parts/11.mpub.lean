/-! THE REFERENCE's INVARIANT; what is kept apart from scratch -/
section MVS
def rsz (s : MST) (r : Nat) : Nat := vA s 9 (vA s 11 r)
def cI (s : MST) (k n : Nat) : Prop := s.1 k = nI (vI s k) ∧ vI s k ≤ n
/-- packs -/
def MVp (s : MST) : Prop := cI s 10 4 ∧ ∀ p, p < vI s 10 → okV (s.2.1 9 p) 26 ∧ 1 ≤ vA s 9 p ∧ (∀ j, j < 5 → okV (s.2.1 8 (5 * p + j)) 10) ∧ vA s 8 (5 * p) + vA s 8 (5 * p + 1) + vA s 8 (5 * p + 2) + vA s 8 (5 * p + 3) + vA s 8 (5 * p + 4) = vA s 9 p
/-- rows of cards and guesses: what run r's places hold -/
def rowOk (s : MST) (a r : Nat) : Prop := ∀ i, i < rsz s r → okV (s.2.1 a (25 * r + i)) 5
def cntOk (s : MST) (a r : Nat) : Prop := ∀ g, g < 5 → cntN (fun i => decide (s.2.1 a (25 * r + i) = nI g)) (rsz s r) = vA s 8 (5 * vA s 11 r + g)
def MVr (s : MST) : Prop := cI s 18 16 ∧ ∀ r, r < vI s 18 → okV (s.2.1 11 r) (vI s 10) ∧ okV (s.2.1 12 r) 8 ∧ okV (s.2.1 13 r) 100 ∧ rowOk s 14 r ∧ rowOk s 15 r ∧ cntOk s 14 r
def MVl (s : MST) : Prop := cI s 28 10 ∧ ∀ k, k < vI s 28 → okV (s.2.1 24 k) 6 ∧ okV (s.2.1 25 k) 26 ∧ okV (s.2.1 26 k) 5 ∧ okV (s.2.1 27 k) 2
def MVs (s : MST) : Prop := cI s 31 6 ∧ ∀ k, k < vI s 31 → okV (s.2.1 29 k) 51 ∧ okV (s.2.1 30 k) 64
def MVi (s : MST) : Prop := okV (s.1 57) 2 ∧ (s.1 57 = nI 1 → cI s 58 (vI s 18) ∧ cI s 59 (vI s 28) ∧ (∀ k, k < vI s 59 → okV (s.2.1 56 k) 2) ∧ okV (s.1 60) (vI s 3) ∧ ∀ r, r < vI s 58 → rowOk s 52 r ∧ rowOk s 53 r ∧ cntOk s 52 r)
def MVh (s : MST) : Prop := ∀ i, i < 4 → okV (s.2.1 61 i) 2 ∧ (s.2.1 61 i = nI 1 → okV (s.2.1 62 i) 3 ∧ okV (s.2.1 63 i) 41)
def MVt (s : MST) : Prop := cI s 3 6 ∧ 1 ≤ vI s 3 ∧ okV (s.1 4) (vI s 3) ∧ cI s 6 160 ∧ (∀ i, i < vI s 6 → okV (s.2.1 5 i) 256) ∧ ∀ t, t < vI s 3 → okV (s.2.1 2 t) 161 ∧ ∀ i, i < vA s 2 t → okV (s.2.1 1 (160 * t + i)) 256
def binN : Nat → Nat → Nat
  | _, 0 => 1
  | 0, _ + 1 => 0
  | n + 1, k + 1 => binN n k + binN n (k + 1)
def MVc (s : MST) : Prop := ∀ n k, n ≤ 25 → k ≤ 25 → s.2.2.2 7 (26 * n + k) = lN (binN n k)

def MV (s : MST) : Prop := MVp s ∧ MVr s ∧ MVl s ∧ MVs s ∧ MVi s ∧ MVh s ∧ MVt s ∧ MVc s
/-- what is kept between calls -/
def pIl : List Nat := [3, 4, 6, 10, 18, 28, 31, 57, 58, 59, 60]
def pAl : List Nat := [1, 2, 5, 8, 9, 11, 12, 13, 14, 15, 16, 17, 24, 25, 26, 27, 29, 30, 52, 53, 54, 55, 56, 61, 62, 63, 64]
def SP (a b : MST) : Prop := (∀ k, k ∈ pIl → a.1 k = b.1 k) ∧ (∀ k, k ∈ pAl → a.2.1 k = b.2.1 k) ∧ a.2.2.2 7 = b.2.2.2 7
theorem SP.rfl {a : MST} : SP a a := ⟨fun _ _ => _root_.rfl, fun _ _ => _root_.rfl, _root_.rfl⟩
theorem SP.tr {a b c : MST} (h : SP a b) (h2 : SP b c) : SP a c := ⟨fun k hk => (h.1 k hk).trans (h2.1 k hk), fun k hk => (h.2.1 k hk).trans (h2.2.1 k hk), h.2.2.trans h2.2.2⟩
theorem SP.sym {a b : MST} (h : SP a b) : SP b a := ⟨fun k hk => (h.1 k hk).symm, fun k hk => (h.2.1 k hk).symm, h.2.2.symm⟩
theorem okV.nI {x : Int32} {n : Nat} (h : okV x n) : x = nI x.toNatClampNeg := h.1
theorem MV_run {s : MST} (hV : MV s) {r : Nat} (hr : r < vI s 18) : r < 16 ∧ Rz s r (rsz s r) ∧ 1 ≤ rsz s r ∧ rsz s r ≤ 25 := by
  obtain ⟨h1, h2, -⟩ := hV
  have hp := (h2.2 r hr).1
  have hq := h1.2 _ hp.2
  have h16 : vI s 18 ≤ 16 := h2.1.2
  have h4 : vI s 10 ≤ 4 := h1.1.2
  have h3 : vA s 11 r < vI s 10 := hp.2
  have h5 : vA s 9 (vA s 11 r) < 26 := hq.1.2
  exact ⟨by omega, ⟨vA s 11 r, by omega, hp.1, hq.1.1, by show vA s 9 (vA s 11 r) ≤ 25; omega⟩, hq.2.1, by show vA s 9 (vA s 11 r) ≤ 25; omega⟩
theorem si_si {s : MST} {k : Nat} {v w : Int32} : si (si s k v) k w = si s k w := by
  unfold si
  congr 1
  funext j
  by_cases h : j = k
  · rw [if_pos h, if_pos h]
  · rw [if_neg h, if_neg h]; exact if_neg h
theorem sa_sa {s : MST} {k : Nat} {f g : Nat → Int32} : sa (sa s k f) k g = sa s k g := by
  unfold sa
  congr 2
  funext j
  by_cases h : j = k
  · rw [if_pos h, if_pos h]
  · rw [if_neg h, if_neg h]; exact if_neg h
theorem si_sw {s : MST} {k j : Nat} {v w : Int32} (h : k ≠ j) : si (si s k v) j w = si (si s j w) k v := by
  unfold si
  congr 1
  funext i
  by_cases h1 : i = j
  · subst h1
    show (if i = i then w else if i = k then v else s.1 i) = (if i = k then v else if i = i then w else s.1 i)
    rw [if_pos rfl, if_neg (fun z => h z.symm), if_pos rfl]
  · show (if i = j then w else if i = k then v else s.1 i) = (if i = k then v else if i = j then w else s.1 i)
    rw [if_neg h1, if_neg h1]
theorem sa_sw {s : MST} {k j : Nat} {f g : Nat → Int32} (h : k ≠ j) : sa (sa s k f) j g = sa (sa s j g) k f := by
  unfold sa
  congr 2
  funext i
  by_cases h1 : i = j
  · subst h1
    show (if i = i then g else if i = k then f else s.2.1 i) = (if i = k then f else if i = i then g else s.2.1 i)
    rw [if_pos rfl, if_neg (fun z => h z.symm), if_pos rfl]
  · show (if i = j then g else if i = k then f else s.2.1 i) = (if i = k then f else if i = j then g else s.2.1 i)
    rw [if_neg h1, if_neg h1]
theorem sa_si {s : MST} {k j : Nat} {v : Int32} {f : Nat → Int32} : sa (si s k v) j f = si (sa s j f) k v := rfl
theorem sa_id {s : MST} {k : Nat} : sa s k (s.2.1 k) = s := by
  obtain ⟨a, b, c, d⟩ := s
  unfold sa
  congr 2
  funext i
  by_cases h : i = k
  · rw [if_pos h, h]
  · rw [if_neg h]
theorem si_id {s : MST} {k : Nat} : si s k (s.1 k) = s := by
  obtain ⟨a, b, c, d⟩ := s
  unfold si
  congr 1
  funext i
  by_cases h : i = k
  · rw [if_pos h, h]
  · rw [if_neg h]
theorem SP.si {s t : MST} {k : Nat} {v : Int32} (hk : k ∉ pIl) (h : SP s t) : SP (si s k v) t := ⟨fun j hj => by rw [← h.1 j hj]; exact if_neg (fun z : j = k => hk (z ▸ hj)), h.2.1, h.2.2⟩
theorem SP.sa {s t : MST} {k : Nat} {f : Nat → Int32} (hk : k ∉ pAl) (h : SP s t) : SP (sa s k f) t := ⟨h.1, fun j hj => by rw [← h.2.1 j hj]; exact if_neg (fun z : j = k => hk (z ▸ hj)), h.2.2⟩
theorem SP.sl {s t : MST} {k : Nat} {v : Int64} (h : SP s t) : SP (sl s k v) t := ⟨h.1, h.2.1, h.2.2⟩
theorem SP.sb {s t : MST} {k : Nat} {f : Nat → Int64} (hk : k ≠ 7) (h : SP s t) : SP (sb s k f) t := ⟨h.1, h.2.1, by rw [← h.2.2]; exact if_neg (fun z : 7 = k => hk z.symm)⟩
def inR (x : Int32) (a b : Nat) : Bool := decide ((a : Int) ≤ x.toInt) && decide (x.toInt ≤ b)
theorem in_rng3 {x : Int32} {a b : Nat} (ha : a < 2147483648) (hb : b < 2147483648) : (decide (lN a ≤ x.toInt64 ∧ x.toInt64 ≤ lN b)) = inR x a b := by
  rw [inR, Bool.eq_iff_iff]
  simp only [decide_eq_true_eq, Bool.and_eq_true]
  rw [← nI_l ha, ← nI_l hb, fa_wide_le, fa_wide_le, Int32.le_iff_toInt_le, Int32.le_iff_toInt_le, nI_toInt ha, nI_toInt hb]
theorem inR_of {x : Int32} {a b : Nat} (h : inR x a b = true) (hb : b < 2147483647) : ∃ j : Nat, a ≤ j ∧ j ≤ b ∧ x = nI j := by
  simp only [inR, Bool.and_eq_true, decide_eq_true_eq] at h
  obtain ⟨h1, h2⟩ := id h
  have h3 : inN x (b + 1) = true := by
    simp only [inN, Bool.and_eq_true, decide_eq_true_eq]
    exact ⟨Int.le_trans (Int.natCast_nonneg a) h1, Int.lt_of_le_of_lt h2 (by omega)⟩
  obtain ⟨j, hj, e⟩ := inN_of (x := x) (n := b + 1) h3 (by omega)
  subst e
  rw [nI_toInt (by omega)] at h
  exact ⟨j, by omega, by omega, rfl⟩
theorem shl1 {n : Nat} (hn : n ≤ 10) : nI 1 <<< (nI n &&& 31) = nI (2 ^ n) := by
  have h : ∀ k, k < 11 → nI 1 <<< (nI k &&& 31) = nI (2 ^ k) := by decide +kernel
  exact h n (by omega)
theorem mul_lt {a b c : Nat} (h : a < b) (hc : b ≤ c) : a < c := Nat.lt_of_lt_of_le h hc
end MVS
section MP1
variable {X : KX} {m : Nat → Nat} {s : MST} {h0 : AH}
def P_at (s : MST) (x i w : Int32) : Int32 := if (inN x (vI s 18) && inN i (rsz s x.toNatClampNeg) && inN w 2) = true then (if w = 0 then s.2.1 14 (25 * x.toNatClampNeg + i.toNatClampNeg) else s.2.1 15 (25 * x.toNatClampNeg + i.toNatClampNeg)) else -2
set_option maxRecDepth 4000 in
theorem f_at (hm : MI m) (hV : MV s) (x i w : Int32) : Fn X 2 0 0 yX12_at cX12_at 4 (some .int) [.ref (m 65), .int x, .int i, .int w] (mh m s h0) (fun rv hv => rv = some (.int (P_at s x i w)) ∧ hv = mh m s h0) := by
  obtain ⟨⟨hn18, hb18⟩, -⟩ := id hV.2.1
  refine fn_of (by decide) (Nat.le_of_ble_eq_true rfl) (fun M hM => ?_)
  refine a_aload_n (pc := 0) dX12_at_0 rfl rfl ?_
  refine a_iload_n (pc := 1) dX12_at_1 rfl rfl ?_
  refine a_callV (pc := 2) km_X12_157 dX12_at_2 (f_isRun hm hn18 (by omega) _) rfl rfl (krecv_of (ci := 12) rfl (m_obj hm)) (rok_of hM (by decide) (by decide) (by omega) (by omega)) (Nat.le_of_ble_eq_true rfl) (fun r2 h2 hp2 => ?_)
  obtain ⟨rfl, rfl⟩ := hp2
  refine a_if_eqB (pc := 5) (tgt := 35) dX12_at_5 (by decide) (fun c5 => ?_) (fun c5 => ?_)
  · refine a_bipush (pc := 35) dX12_at_35 ib_m2 ?_
    refine a_ret_i (pc := 37) hM rfl (rfl) dX12_at_37 (by omega) (by omega) ?_
    exact ⟨by first | simp only [P_at, er, eq, c5, Bool.and_self, Bool.and_true, Bool.true_and, Bool.and_false, Bool.false_and, Bool.false_eq_true, Nat.add_sub_cancel, reduceIte] | simp only [P_at, er, c5, Bool.and_self, Bool.and_true, Bool.true_and, Bool.and_false, Bool.false_and, Bool.false_eq_true, Nat.add_sub_cancel, reduceIte] | simp only [P_at, c5, Bool.and_self, Bool.and_true, Bool.true_and, Bool.and_false, Bool.false_and, Bool.false_eq_true, Nat.add_sub_cancel, reduceIte], rfl⟩
  · obtain ⟨r, hr, rfl⟩ := inN_of c5 (by omega)
    obtain ⟨hr16, hz, hz1, hz2⟩ := MV_run hV hr
    have er : (nI r).toNatClampNeg = r := nI_clamp (by omega)
    refine a_iload_n (pc := 8) dX12_at_8 rfl rfl ?_
    refine a_i2l (pc := 9) dX12_at_9 ?_
    refine a_lconst (pc := 10) (v := lN 0) dX12_at_10 rfl ?_
    refine a_aload_n (pc := 11) dX12_at_11 rfl rfl ?_
    refine a_iload_n (pc := 12) dX12_at_12 rfl rfl ?_
    refine a_callV (pc := 13) km_X12_161 dX12_at_13 (f_sizeOf hm hr16 hz) rfl rfl (krecv_of (ci := 12) rfl (m_obj hm)) (rok_of hM (by decide) (by decide) (by omega) (by omega)) (Nat.le_of_ble_eq_true rfl) (fun r13 h13 hp13 => ?_)
    obtain ⟨rfl, rfl⟩ := hp13
    refine a_iconst (pc := 16) dX12_at_16 ic_1 ?_
    refine a_isubN (pc := 17) dX12_at_17 (by omega) ?_
    refine a_i2lN (pc := 18) dX12_at_18 (by omega) ?_
    refine a_callS (pc := 19) km_X12_142 dX12_at_19 (f_in _ _ _) rfl rfl (rok_of hM (by decide) (by decide) (by omega) (by omega)) (Nat.le_of_ble_eq_true rfl) (fun r19 h19 hp19 => ?_)
    obtain ⟨rfl, rfl⟩ := hp19
    refine a_topi (congrArg bI (in_rng2 (x := i) (n := rsz s r) (k := rsz s r - 1) (by omega) (by omega))) ?_
    refine a_if_eqB (pc := 22) (tgt := 35) dX12_at_22 (by decide) (fun c22 => ?_) (fun c22 => ?_)
    · refine a_bipush (pc := 35) dX12_at_35 ib_m2 ?_
      refine a_ret_i (pc := 37) hM rfl (rfl) dX12_at_37 (by omega) (by omega) ?_
      exact ⟨by first | simp only [P_at, er, eq, c5, c22, Bool.and_self, Bool.and_true, Bool.true_and, Bool.and_false, Bool.false_and, Bool.false_eq_true, Nat.add_sub_cancel, reduceIte] | simp only [P_at, er, c5, c22, Bool.and_self, Bool.and_true, Bool.true_and, Bool.and_false, Bool.false_and, Bool.false_eq_true, Nat.add_sub_cancel, reduceIte] | simp only [P_at, c5, c22, Bool.and_self, Bool.and_true, Bool.true_and, Bool.and_false, Bool.false_and, Bool.false_eq_true, Nat.add_sub_cancel, reduceIte], rfl⟩
    · obtain ⟨q, hq, rfl⟩ := inN_of c22 (by omega)
      have eq : (nI q).toNatClampNeg = q := nI_clamp (by omega)
      have eq0 := eq
      refine a_iload_n (pc := 25) dX12_at_25 rfl rfl ?_
      refine a_i2l (pc := 26) dX12_at_26 ?_
      refine a_lconst (pc := 27) (v := lN 0) dX12_at_27 rfl ?_
      refine a_lconst (pc := 28) (v := lN 1) dX12_at_28 rfl ?_
      refine a_callS (pc := 29) km_X12_142 dX12_at_29 (f_in _ _ _) rfl rfl (rok_of hM (by decide) (by decide) (by omega) (by omega)) (Nat.le_of_ble_eq_true rfl) (fun r29 h29 hp29 => ?_)
      obtain ⟨rfl, rfl⟩ := hp29
      refine a_topi (congrArg bI (in_rng2 (x := w) (n := 2) (k := 1) (by omega) (by omega))) ?_
      refine a_if_neB (pc := 32) (tgt := 38) dX12_at_32 (by decide) (fun c32 => ?_) (fun c32 => ?_)
      · refine a_iload_n (pc := 38) dX12_at_38 rfl rfl ?_
        refine a_if_ne (pc := 39) (tgt := 56) dX12_at_39 (by decide) (fun c39 => ?_) (fun c39 => ?_)
        · have cw := c39
          refine a_aload_n (pc := 56) dX12_at_56 rfl rfl ?_
          refine a_getfield (pc := 57) kg_X12_45 dX12_at_57 (m_obj hm) rfl ?_
          refine a_bipush (pc := 60) dX12_at_60 ib_25 ?_
          refine a_iload_n (pc := 62) dX12_at_62 rfl rfl ?_
          refine a_imulN (pc := 63) dX12_at_63 ?_
          refine a_iload_n (pc := 64) dX12_at_64 rfl rfl ?_
          refine a_iaddN (pc := 65) dX12_at_65 ?_
          refine a_iaload (pc := 66) dX12_at_66 (m_a15 hm) (_) (rfl) (by omega) (by omega) ?_
          refine a_ret_i (pc := 67) hM rfl (rfl) dX12_at_67 (by omega) (by omega) ?_
          exact ⟨by first | simp only [P_at, er, eq, c5, c22, c32, c39, Bool.and_self, Bool.and_true, Bool.true_and, Bool.and_false, Bool.false_and, Bool.false_eq_true, Nat.add_sub_cancel, reduceIte] | simp only [P_at, er, c5, c22, c32, c39, Bool.and_self, Bool.and_true, Bool.true_and, Bool.and_false, Bool.false_and, Bool.false_eq_true, Nat.add_sub_cancel, reduceIte] | simp only [P_at, c5, c22, c32, c39, Bool.and_self, Bool.and_true, Bool.true_and, Bool.and_false, Bool.false_and, Bool.false_eq_true, Nat.add_sub_cancel, reduceIte], rfl⟩
        · subst c39
          refine a_aload_n (pc := 42) dX12_at_42 rfl rfl ?_
          refine a_getfield (pc := 43) kg_X12_42 dX12_at_43 (m_obj hm) rfl ?_
          refine a_bipush (pc := 46) dX12_at_46 ib_25 ?_
          refine a_iload_n (pc := 48) dX12_at_48 rfl rfl ?_
          refine a_imulN (pc := 49) dX12_at_49 ?_
          refine a_iload_n (pc := 50) dX12_at_50 rfl rfl ?_
          refine a_iaddN (pc := 51) dX12_at_51 ?_
          refine a_iaload (pc := 52) dX12_at_52 (m_a14 hm) (_) (rfl) (by omega) (by omega) ?_
          refine a_goto (pc := 53) (tgt := 67) dX12_at_53 (by decide) ?_
          refine a_ret_i (pc := 67) hM rfl (rfl) dX12_at_67 (by omega) (by omega) ?_
          exact ⟨by first | simp only [P_at, er, eq, c5, c22, c32, Bool.and_self, Bool.and_true, Bool.true_and, Bool.and_false, Bool.false_and, Bool.false_eq_true, Nat.add_sub_cancel, reduceIte] | simp only [P_at, er, c5, c22, c32, Bool.and_self, Bool.and_true, Bool.true_and, Bool.and_false, Bool.false_and, Bool.false_eq_true, Nat.add_sub_cancel, reduceIte] | simp only [P_at, c5, c22, c32, Bool.and_self, Bool.and_true, Bool.true_and, Bool.and_false, Bool.false_and, Bool.false_eq_true, Nat.add_sub_cancel, reduceIte], rfl⟩
      · refine a_bipush (pc := 35) dX12_at_35 ib_m2 ?_
        refine a_ret_i (pc := 37) hM rfl (rfl) dX12_at_37 (by omega) (by omega) ?_
        exact ⟨by first | simp only [P_at, er, eq, c5, c22, c32, Bool.and_self, Bool.and_true, Bool.true_and, Bool.and_false, Bool.false_and, Bool.false_eq_true, Nat.add_sub_cancel, reduceIte] | simp only [P_at, er, c5, c22, c32, Bool.and_self, Bool.and_true, Bool.true_and, Bool.and_false, Bool.false_and, Bool.false_eq_true, Nat.add_sub_cancel, reduceIte] | simp only [P_at, c5, c22, c32, Bool.and_self, Bool.and_true, Bool.true_and, Bool.and_false, Bool.false_and, Bool.false_eq_true, Nat.add_sub_cancel, reduceIte], rfl⟩

def N_leak (s : MST) (a b c : Int32) : MST := si (sa (sa (sa (sa s 24 (upd (s.2.1 24) (vI s 28) a)) 25 (upd (s.2.1 25) (vI s 28) b)) 26 (upd (s.2.1 26) (vI s 28) c)) 27 (upd (s.2.1 27) (vI s 28) (nI 0))) 28 (nI (vI s 28 + 1))
def R_leak (s : MST) (a b c : Int32) : Int32 × MST := if (inN a 6 && inN b 26 && inN c 5) = true then (if vI s 28 = 10 then (-4, s) else (nI (vI s 28), N_leak s a b c)) else (-2, s)
set_option maxRecDepth 4000 in
theorem f_leak (hm : MI m) (hV : MV s) (a b c : Int32) : Fn X 2 0 0 yX12_leak cX12_leak 4 (some .int) [.ref (m 65), .int a, .int b, .int c] (mh m s h0) (fun rv hv => rv = some (.int (R_leak s a b c).1) ∧ ∃ s' : MST, hv = mh m s' h0 ∧ SP s' (R_leak s a b c).2) := by
  obtain ⟨⟨hn28, hb28⟩, hl28⟩ := id hV.2.2.1
  refine fn_of (by decide) (Nat.le_of_ble_eq_true rfl) (fun M hM => ?_)
  refine a_iload_n (pc := 0) dX12_leak_0 rfl rfl ?_
  refine a_i2l (pc := 1) dX12_leak_1 ?_
  refine a_lconst (pc := 2) (v := lN 0) dX12_leak_2 rfl ?_
  refine a_ldc2 (pc := 3) kc_X12_216 dX12_leak_3 ?_
  refine a_callS (pc := 6) km_X12_142 dX12_leak_6 (f_in _ _ _) rfl rfl (rok_of hM (by decide) (by decide) (by omega) (by omega)) (Nat.le_of_ble_eq_true rfl) (fun r6 h6 hp6 => ?_)
  obtain ⟨rfl, rfl⟩ := hp6
  refine a_topi (congrArg bI (in_rng2 (x := a) (n := 6) (k := 5) (by omega) (by omega))) ?_
  refine a_if_eqB (pc := 9) (tgt := 31) dX12_leak_9 (by decide) (fun c9 => ?_) (fun c9 => ?_)
  · refine a_bipush (pc := 31) dX12_leak_31 ib_m2 ?_
    refine a_ret_i (pc := 33) hM rfl (rfl) dX12_leak_33 (by omega) (by omega) ?_
    exact ⟨by first | simp only [R_leak, c9, Bool.and_self, Bool.and_true, Bool.true_and, Bool.and_false, Bool.false_and, Bool.false_eq_true, Nat.add_sub_cancel, reduceIte], _, rfl, by first | (simp only [R_leak, c9, Bool.and_self, Bool.and_true, Bool.true_and, Bool.and_false, Bool.false_and, Bool.false_eq_true, Nat.add_sub_cancel, reduceIte]; exact SP.rfl)⟩
  · refine a_iload_n (pc := 12) dX12_leak_12 rfl rfl ?_
    refine a_i2l (pc := 13) dX12_leak_13 ?_
    refine a_lconst (pc := 14) (v := lN 0) dX12_leak_14 rfl ?_
    refine a_ldc2 (pc := 15) kc_X12_203 dX12_leak_15 ?_
    refine a_callS (pc := 18) km_X12_142 dX12_leak_18 (f_in _ _ _) rfl rfl (rok_of hM (by decide) (by decide) (by omega) (by omega)) (Nat.le_of_ble_eq_true rfl) (fun r18 h18 hp18 => ?_)
    obtain ⟨rfl, rfl⟩ := hp18
    refine a_topi (congrArg bI (in_rng2 (x := b) (n := 26) (k := 25) (by omega) (by omega))) ?_
    refine a_if_eqB (pc := 21) (tgt := 31) dX12_leak_21 (by decide) (fun c21 => ?_) (fun c21 => ?_)
    · refine a_bipush (pc := 31) dX12_leak_31 ib_m2 ?_
      refine a_ret_i (pc := 33) hM rfl (rfl) dX12_leak_33 (by omega) (by omega) ?_
      exact ⟨by first | simp only [R_leak, c9, c21, Bool.and_self, Bool.and_true, Bool.true_and, Bool.and_false, Bool.false_and, Bool.false_eq_true, Nat.add_sub_cancel, reduceIte], _, rfl, by first | (simp only [R_leak, c9, c21, Bool.and_self, Bool.and_true, Bool.true_and, Bool.and_false, Bool.false_and, Bool.false_eq_true, Nat.add_sub_cancel, reduceIte]; exact SP.rfl)⟩
    · refine a_iload_n (pc := 24) dX12_leak_24 rfl rfl ?_
      refine a_callS (pc := 25) km_X12_168 dX12_leak_25 (f_isSignOf _) rfl rfl (rok_of hM (by decide) (by decide) (by omega) (by omega)) (Nat.le_of_ble_eq_true rfl) (fun r25 h25 hp25 => ?_)
      obtain ⟨rfl, rfl⟩ := hp25
      refine a_if_neB (pc := 28) (tgt := 34) dX12_leak_28 (by decide) (fun c28 => ?_) (fun c28 => ?_)
      · refine a_aload_n (pc := 34) dX12_leak_34 rfl rfl ?_
        refine a_getfield (pc := 35) kg_X12_213 dX12_leak_35 (m_obj hm) rfl ?_
        refine a_topi (hn28) ?_
        refine a_bipush (pc := 38) dX12_leak_38 ib_10 ?_
        refine a_icmp_neN (pc := 40) (tgt := 46) dX12_leak_40 (by decide) (by omega) (by omega) (fun c40 => ?_) (fun c40 => ?_)
        · refine a_aload_n (pc := 46) dX12_leak_46 rfl rfl ?_
          refine a_getfield (pc := 47) kg_X12_69 dX12_leak_47 (m_obj hm) rfl ?_
          refine a_aload_n (pc := 50) dX12_leak_50 rfl rfl ?_
          refine a_getfield (pc := 51) kg_X12_213 dX12_leak_51 (m_obj hm) rfl ?_
          refine a_topi (hn28) ?_
          refine a_iload_n (pc := 54) dX12_leak_54 rfl rfl ?_
          refine a_iastore (pc := 55) dX12_leak_55 (m_a24 hm) (_) (rfl) (by omega) (by omega) ?_
          refine a_hp (m_p24 hm) ?_
          refine a_aload_n (pc := 56) dX12_leak_56 rfl rfl ?_
          refine a_getfield (pc := 57) kg_X12_72 dX12_leak_57 (m_obj hm) rfl ?_
          refine a_aload_n (pc := 60) dX12_leak_60 rfl rfl ?_
          refine a_getfield (pc := 61) kg_X12_213 dX12_leak_61 (m_obj hm) rfl ?_
          refine a_topi (hn28) ?_
          refine a_iload_n (pc := 64) dX12_leak_64 rfl rfl ?_
          refine a_iastore (pc := 65) dX12_leak_65 (m_a25 hm) (_) (rfl) (by omega) (by omega) ?_
          refine a_hp (m_p25 hm) ?_
          refine a_aload_n (pc := 66) dX12_leak_66 rfl rfl ?_
          refine a_getfield (pc := 67) kg_X12_75 dX12_leak_67 (m_obj hm) rfl ?_
          refine a_aload_n (pc := 70) dX12_leak_70 rfl rfl ?_
          refine a_getfield (pc := 71) kg_X12_213 dX12_leak_71 (m_obj hm) rfl ?_
          refine a_topi (hn28) ?_
          refine a_iload_n (pc := 74) dX12_leak_74 rfl rfl ?_
          refine a_iastore (pc := 75) dX12_leak_75 (m_a26 hm) (_) (rfl) (by omega) (by omega) ?_
          refine a_hp (m_p26 hm) ?_
          refine a_aload_n (pc := 76) dX12_leak_76 rfl rfl ?_
          refine a_getfield (pc := 77) kg_X12_78 dX12_leak_77 (m_obj hm) rfl ?_
          refine a_aload_n (pc := 80) dX12_leak_80 rfl rfl ?_
          refine a_getfield (pc := 81) kg_X12_213 dX12_leak_81 (m_obj hm) rfl ?_
          refine a_topi (hn28) ?_
          refine a_iconst (pc := 84) dX12_leak_84 ic_0 ?_
          refine a_iastore (pc := 85) dX12_leak_85 (m_a27 hm) (_) (rfl) (by omega) (by omega) ?_
          refine a_hp (m_p27 hm) ?_
          refine a_aload_n (pc := 86) dX12_leak_86 rfl rfl ?_
          refine a_dup (pc := 87) dX12_leak_87 rfl ?_
          refine a_getfield (pc := 88) kg_X12_213 dX12_leak_88 (m_obj hm) rfl ?_
          refine a_topi (hn28) ?_
          refine a_iconst (pc := 91) dX12_leak_91 ic_1 ?_
          refine a_iaddN (pc := 92) dX12_leak_92 ?_
          refine a_putfield (pc := 93) kf_X12_213 dX12_leak_93 (m_obj hm) (rfl) (by rfl) (Nat.le_of_ble_eq_true rfl) ?_
          refine a_hp (m_p28 hm) ?_
          refine a_aload_n (pc := 96) dX12_leak_96 rfl rfl ?_
          refine a_getfield (pc := 97) kg_X12_213 dX12_leak_97 (m_obj hm) rfl ?_
          refine a_topi ((show _ = nI (vI s 28 + 1) from rfl)) ?_
          refine a_iconst (pc := 100) dX12_leak_100 ic_1 ?_
          refine a_isubN (pc := 101) dX12_leak_101 (by omega) ?_
          refine a_ret_i (pc := 102) hM rfl (rfl) dX12_leak_102 (by omega) (by omega) ?_
          exact ⟨by first | simp only [R_leak, c9, c21, c28, c40, Bool.and_self, Bool.and_true, Bool.true_and, Bool.and_false, Bool.false_and, Bool.false_eq_true, Nat.add_sub_cancel, reduceIte], _, rfl, by first | (simp only [R_leak, c9, c21, c28, c40, Bool.and_self, Bool.and_true, Bool.true_and, Bool.and_false, Bool.false_and, Bool.false_eq_true, Nat.add_sub_cancel, reduceIte]; exact SP.rfl)⟩
        · refine a_bipush (pc := 43) dX12_leak_43 ib_m4 ?_
          refine a_ret_i (pc := 45) hM rfl (rfl) dX12_leak_45 (by omega) (by omega) ?_
          exact ⟨by first | simp only [R_leak, c9, c21, c28, c40, Bool.and_self, Bool.and_true, Bool.true_and, Bool.and_false, Bool.false_and, Bool.false_eq_true, Nat.add_sub_cancel, reduceIte], _, rfl, by first | (simp only [R_leak, c9, c21, c28, c40, Bool.and_self, Bool.and_true, Bool.true_and, Bool.and_false, Bool.false_and, Bool.false_eq_true, Nat.add_sub_cancel, reduceIte]; exact SP.rfl)⟩
      · refine a_bipush (pc := 31) dX12_leak_31 ib_m2 ?_
        refine a_ret_i (pc := 33) hM rfl (rfl) dX12_leak_33 (by omega) (by omega) ?_
        exact ⟨by first | simp only [R_leak, c9, c21, c28, Bool.and_self, Bool.and_true, Bool.true_and, Bool.and_false, Bool.false_and, Bool.false_eq_true, Nat.add_sub_cancel, reduceIte], _, rfl, by first | (simp only [R_leak, c9, c21, c28, Bool.and_self, Bool.and_true, Bool.true_and, Bool.and_false, Bool.false_and, Bool.false_eq_true, Nat.add_sub_cancel, reduceIte]; exact SP.rfl)⟩

def R_shut (s : MST) (x i : Int32) : Int32 × MST := if (inN x (vI s 28) && inN i 2) = true then (s.2.1 27 x.toNatClampNeg, sa s 27 (upd (s.2.1 27) x.toNatClampNeg i)) else (-2, s)
set_option maxRecDepth 4000 in
theorem f_shut (hm : MI m) (hV : MV s) (x i : Int32) : Fn X 2 0 0 yX12_shut cX12_shut 4 (some .int) [.ref (m 65), .int x, .int i] (mh m s h0) (fun rv hv => rv = some (.int (R_shut s x i).1) ∧ ∃ s' : MST, hv = mh m s' h0 ∧ SP s' (R_shut s x i).2) := by
  obtain ⟨⟨hn28, hb28⟩, hl28⟩ := id hV.2.2.1
  refine fn_of (by decide) (Nat.le_of_ble_eq_true rfl) (fun M hM => ?_)
  refine a_aload_n (pc := 0) dX12_shut_0 rfl rfl ?_
  refine a_iload_n (pc := 1) dX12_shut_1 rfl rfl ?_
  refine a_callV (pc := 2) km_X12_218 dX12_shut_2 (f_isLeak hm hn28 (by omega) _) rfl rfl (krecv_of (ci := 12) rfl (m_obj hm)) (rok_of hM (by decide) (by decide) (by omega) (by omega)) (Nat.le_of_ble_eq_true rfl) (fun r2 h2 hp2 => ?_)
  obtain ⟨rfl, rfl⟩ := hp2
  refine a_if_eqB (pc := 5) (tgt := 18) dX12_shut_5 (by decide) (fun c5 => ?_) (fun c5 => ?_)
  · refine a_bipush (pc := 18) dX12_shut_18 ib_m2 ?_
    refine a_ret_i (pc := 20) hM rfl (rfl) dX12_shut_20 (by omega) (by omega) ?_
    exact ⟨by first | simp only [R_shut, ek, c5, Bool.and_self, Bool.and_true, Bool.true_and, Bool.and_false, Bool.false_and, Bool.false_eq_true, Nat.add_sub_cancel, reduceIte] | simp only [R_shut, c5, Bool.and_self, Bool.and_true, Bool.true_and, Bool.and_false, Bool.false_and, Bool.false_eq_true, Nat.add_sub_cancel, reduceIte], _, rfl, by first | (simp only [R_shut, ek, c5, Bool.and_self, Bool.and_true, Bool.true_and, Bool.and_false, Bool.false_and, Bool.false_eq_true, Nat.add_sub_cancel, reduceIte]; exact SP.rfl) | (simp only [R_shut, c5, Bool.and_self, Bool.and_true, Bool.true_and, Bool.and_false, Bool.false_and, Bool.false_eq_true, Nat.add_sub_cancel, reduceIte]; exact SP.rfl)⟩
  · obtain ⟨k, hk, rfl⟩ := inN_of c5 (by omega)
    have ek : (nI k).toNatClampNeg = k := nI_clamp (by omega)
    refine a_iload_n (pc := 8) dX12_shut_8 rfl rfl ?_
    refine a_i2l (pc := 9) dX12_shut_9 ?_
    refine a_lconst (pc := 10) (v := lN 0) dX12_shut_10 rfl ?_
    refine a_lconst (pc := 11) (v := lN 1) dX12_shut_11 rfl ?_
    refine a_callS (pc := 12) km_X12_142 dX12_shut_12 (f_in _ _ _) rfl rfl (rok_of hM (by decide) (by decide) (by omega) (by omega)) (Nat.le_of_ble_eq_true rfl) (fun r12 h12 hp12 => ?_)
    obtain ⟨rfl, rfl⟩ := hp12
    refine a_topi (congrArg bI (in_rng2 (x := i) (n := 2) (k := 1) (by omega) (by omega))) ?_
    refine a_if_neB (pc := 15) (tgt := 21) dX12_shut_15 (by decide) (fun c15 => ?_) (fun c15 => ?_)
    · refine a_aload_n (pc := 21) dX12_shut_21 rfl rfl ?_
      refine a_getfield (pc := 22) kg_X12_78 dX12_shut_22 (m_obj hm) rfl ?_
      refine a_iload_n (pc := 25) dX12_shut_25 rfl rfl ?_
      refine a_iaload (pc := 26) dX12_shut_26 (m_a27 hm) (_) (rfl) (by omega) (by omega) ?_
      refine a_istore_n (pc := 27) dX12_shut_27 rfl (by decide) rfl ?_
      refine a_aload_n (pc := 28) dX12_shut_28 rfl rfl ?_
      refine a_getfield (pc := 29) kg_X12_78 dX12_shut_29 (m_obj hm) rfl ?_
      refine a_iload_n (pc := 32) dX12_shut_32 rfl rfl ?_
      refine a_iload_n (pc := 33) dX12_shut_33 rfl rfl ?_
      refine a_iastore (pc := 34) dX12_shut_34 (m_a27 hm) (_) (rfl) (by omega) (by omega) ?_
      refine a_hp (m_p27 hm) ?_
      refine a_iload_n (pc := 35) dX12_shut_35 rfl rfl ?_
      refine a_ret_i (pc := 36) hM rfl (rfl) dX12_shut_36 (by omega) (by omega) ?_
      exact ⟨by first | simp only [R_shut, ek, c5, c15, Bool.and_self, Bool.and_true, Bool.true_and, Bool.and_false, Bool.false_and, Bool.false_eq_true, Nat.add_sub_cancel, reduceIte] | simp only [R_shut, c5, c15, Bool.and_self, Bool.and_true, Bool.true_and, Bool.and_false, Bool.false_and, Bool.false_eq_true, Nat.add_sub_cancel, reduceIte], _, rfl, by first | (simp only [R_shut, ek, c5, c15, Bool.and_self, Bool.and_true, Bool.true_and, Bool.and_false, Bool.false_and, Bool.false_eq_true, Nat.add_sub_cancel, reduceIte]; exact SP.rfl) | (simp only [R_shut, c5, c15, Bool.and_self, Bool.and_true, Bool.true_and, Bool.and_false, Bool.false_and, Bool.false_eq_true, Nat.add_sub_cancel, reduceIte]; exact SP.rfl)⟩
    · refine a_bipush (pc := 18) dX12_shut_18 ib_m2 ?_
      refine a_ret_i (pc := 20) hM rfl (rfl) dX12_shut_20 (by omega) (by omega) ?_
      exact ⟨by first | simp only [R_shut, ek, c5, c15, Bool.and_self, Bool.and_true, Bool.true_and, Bool.and_false, Bool.false_and, Bool.false_eq_true, Nat.add_sub_cancel, reduceIte] | simp only [R_shut, c5, c15, Bool.and_self, Bool.and_true, Bool.true_and, Bool.and_false, Bool.false_and, Bool.false_eq_true, Nat.add_sub_cancel, reduceIte], _, rfl, by first | (simp only [R_shut, ek, c5, c15, Bool.and_self, Bool.and_true, Bool.true_and, Bool.and_false, Bool.false_and, Bool.false_eq_true, Nat.add_sub_cancel, reduceIte]; exact SP.rfl) | (simp only [R_shut, c5, c15, Bool.and_self, Bool.and_true, Bool.true_and, Bool.and_false, Bool.false_and, Bool.false_eq_true, Nat.add_sub_cancel, reduceIte]; exact SP.rfl)⟩

def R_gives (s : MST) (x y : Int32) : Int32 × MST := if (inN x (vI s 28) && inN y (vI s 18)) = true then (givesP s x.toNatClampNeg y.toNatClampNeg (rsz s y.toNatClampNeg), s) else (-2, s)
set_option maxRecDepth 4000 in
theorem f_gives (hm : MI m) (hV : MV s) (x y : Int32) : Fn X 3 0 0 yX12_gives cX12_gives 3 (some .int) [.ref (m 65), .int x, .int y] (mh m s h0) (fun rv hv => rv = some (.int (R_gives s x y).1) ∧ ∃ s' : MST, hv = mh m s' h0 ∧ SP s' (R_gives s x y).2) := by
  obtain ⟨⟨hn28, hb28⟩, hl28⟩ := id hV.2.2.1
  obtain ⟨⟨hn18, hb18⟩, hl18⟩ := id hV.2.1
  refine fn_of (by decide) (Nat.le_of_ble_eq_true rfl) (fun M hM => ?_)
  refine a_aload_n (pc := 0) dX12_gives_0 rfl rfl ?_
  refine a_iload_n (pc := 1) dX12_gives_1 rfl rfl ?_
  refine a_callV (pc := 2) km_X12_218 dX12_gives_2 (f_isLeak hm hn28 (by omega) _) rfl rfl (krecv_of (ci := 12) rfl (m_obj hm)) (rok_of hM (by decide) (by decide) (by omega) (by omega)) (Nat.le_of_ble_eq_true rfl) (fun r2 h2 hp2 => ?_)
  obtain ⟨rfl, rfl⟩ := hp2
  refine a_if_eqB (pc := 5) (tgt := 25) dX12_gives_5 (by decide) (fun c5 => ?_) (fun c5 => ?_)
  · refine a_bipush (pc := 25) dX12_gives_25 ib_m2 ?_
    refine a_ret_i (pc := 27) hM rfl (rfl) dX12_gives_27 (by omega) (by omega) ?_
    exact ⟨by first | simp only [R_gives, ek, er, c5, Bool.and_self, Bool.and_true, Bool.true_and, Bool.and_false, Bool.false_and, Bool.false_eq_true, Nat.add_sub_cancel, reduceIte] | simp only [R_gives, ek, c5, Bool.and_self, Bool.and_true, Bool.true_and, Bool.and_false, Bool.false_and, Bool.false_eq_true, Nat.add_sub_cancel, reduceIte] | simp only [R_gives, c5, Bool.and_self, Bool.and_true, Bool.true_and, Bool.and_false, Bool.false_and, Bool.false_eq_true, Nat.add_sub_cancel, reduceIte], _, rfl, by first | (simp only [R_gives, ek, er, c5, Bool.and_self, Bool.and_true, Bool.true_and, Bool.and_false, Bool.false_and, Bool.false_eq_true, Nat.add_sub_cancel, reduceIte]; exact SP.rfl) | (simp only [R_gives, ek, c5, Bool.and_self, Bool.and_true, Bool.true_and, Bool.and_false, Bool.false_and, Bool.false_eq_true, Nat.add_sub_cancel, reduceIte]; exact SP.rfl) | (simp only [R_gives, c5, Bool.and_self, Bool.and_true, Bool.true_and, Bool.and_false, Bool.false_and, Bool.false_eq_true, Nat.add_sub_cancel, reduceIte]; exact SP.rfl)⟩
  · obtain ⟨k, hk, rfl⟩ := inN_of c5 (by omega)
    have ek : (nI k).toNatClampNeg = k := nI_clamp (by omega)
    refine a_aload_n (pc := 8) dX12_gives_8 rfl rfl ?_
    refine a_iload_n (pc := 9) dX12_gives_9 rfl rfl ?_
    refine a_callV (pc := 10) km_X12_157 dX12_gives_10 (f_isRun hm hn18 (by omega) _) rfl rfl (krecv_of (ci := 12) rfl (m_obj hm)) (rok_of hM (by decide) (by decide) (by omega) (by omega)) (Nat.le_of_ble_eq_true rfl) (fun r10 h10 hp10 => ?_)
    obtain ⟨rfl, rfl⟩ := hp10
    refine a_if_eqB (pc := 13) (tgt := 25) dX12_gives_13 (by decide) (fun c13 => ?_) (fun c13 => ?_)
    · refine a_bipush (pc := 25) dX12_gives_25 ib_m2 ?_
      refine a_ret_i (pc := 27) hM rfl (rfl) dX12_gives_27 (by omega) (by omega) ?_
      exact ⟨by first | simp only [R_gives, ek, er, c5, c13, Bool.and_self, Bool.and_true, Bool.true_and, Bool.and_false, Bool.false_and, Bool.false_eq_true, Nat.add_sub_cancel, reduceIte] | simp only [R_gives, ek, c5, c13, Bool.and_self, Bool.and_true, Bool.true_and, Bool.and_false, Bool.false_and, Bool.false_eq_true, Nat.add_sub_cancel, reduceIte] | simp only [R_gives, c5, c13, Bool.and_self, Bool.and_true, Bool.true_and, Bool.and_false, Bool.false_and, Bool.false_eq_true, Nat.add_sub_cancel, reduceIte], _, rfl, by first | (simp only [R_gives, ek, er, c5, c13, Bool.and_self, Bool.and_true, Bool.true_and, Bool.and_false, Bool.false_and, Bool.false_eq_true, Nat.add_sub_cancel, reduceIte]; exact SP.rfl) | (simp only [R_gives, ek, c5, c13, Bool.and_self, Bool.and_true, Bool.true_and, Bool.and_false, Bool.false_and, Bool.false_eq_true, Nat.add_sub_cancel, reduceIte]; exact SP.rfl) | (simp only [R_gives, c5, c13, Bool.and_self, Bool.and_true, Bool.true_and, Bool.and_false, Bool.false_and, Bool.false_eq_true, Nat.add_sub_cancel, reduceIte]; exact SP.rfl)⟩
    · obtain ⟨r, hr, rfl⟩ := inN_of c13 (by omega)
      obtain ⟨hr16, hz, hz1, hz2⟩ := MV_run hV hr
      have er : (nI r).toNatClampNeg = r := nI_clamp (by omega)
      refine a_aload_n (pc := 16) dX12_gives_16 rfl rfl ?_
      refine a_iload_n (pc := 17) dX12_gives_17 rfl rfl ?_
      refine a_iload_n (pc := 18) dX12_gives_18 rfl rfl ?_
      refine a_callV (pc := 19) km_X12_221 dX12_gives_19 (f_givesOf hm (by omega) hr16 hz (hl28 k hk).1) rfl rfl (krecv_of (ci := 12) rfl (m_obj hm)) (rok_of hM (by decide) (by decide) (by omega) (by omega)) (Nat.le_of_ble_eq_true rfl) (fun r19 h19 hp19 => ?_)
      obtain ⟨rfl, rfl⟩ := hp19
      refine a_goto (pc := 22) (tgt := 27) dX12_gives_22 (by decide) ?_
      refine a_ret_i (pc := 27) hM rfl (rfl) dX12_gives_27 (by omega) (by omega) ?_
      exact ⟨by first | simp only [R_gives, ek, er, c5, c13, Bool.and_self, Bool.and_true, Bool.true_and, Bool.and_false, Bool.false_and, Bool.false_eq_true, Nat.add_sub_cancel, reduceIte] | simp only [R_gives, ek, c5, c13, Bool.and_self, Bool.and_true, Bool.true_and, Bool.and_false, Bool.false_and, Bool.false_eq_true, Nat.add_sub_cancel, reduceIte] | simp only [R_gives, c5, c13, Bool.and_self, Bool.and_true, Bool.true_and, Bool.and_false, Bool.false_and, Bool.false_eq_true, Nat.add_sub_cancel, reduceIte], _, rfl, by first | (simp only [R_gives, ek, er, c5, c13, Bool.and_self, Bool.and_true, Bool.true_and, Bool.and_false, Bool.false_and, Bool.false_eq_true, Nat.add_sub_cancel, reduceIte]; exact SP.rfl) | (simp only [R_gives, ek, c5, c13, Bool.and_self, Bool.and_true, Bool.true_and, Bool.and_false, Bool.false_and, Bool.false_eq_true, Nat.add_sub_cancel, reduceIte]; exact SP.rfl) | (simp only [R_gives, c5, c13, Bool.and_self, Bool.and_true, Bool.true_and, Bool.and_false, Bool.false_and, Bool.false_eq_true, Nat.add_sub_cancel, reduceIte]; exact SP.rfl)⟩

def R_counts (s : MST) (x : Int32) : Int32 × MST := if inN x (vI s 28) = true then (cntsP (s.2.1 24 x.toNatClampNeg), s) else (-2, s)
set_option maxRecDepth 4000 in
theorem f_counts (hm : MI m) (hV : MV s) (x : Int32) : Fn X 2 0 0 yX12_counts cX12_counts 2 (some .int) [.ref (m 65), .int x] (mh m s h0) (fun rv hv => rv = some (.int (R_counts s x).1) ∧ ∃ s' : MST, hv = mh m s' h0 ∧ SP s' (R_counts s x).2) := by
  obtain ⟨⟨hn28, hb28⟩, hl28⟩ := id hV.2.2.1
  refine fn_of (by decide) (Nat.le_of_ble_eq_true rfl) (fun M hM => ?_)
  refine a_aload_n (pc := 0) dX12_counts_0 rfl rfl ?_
  refine a_iload_n (pc := 1) dX12_counts_1 rfl rfl ?_
  refine a_callV (pc := 2) km_X12_218 dX12_counts_2 (f_isLeak hm hn28 (by omega) _) rfl rfl (krecv_of (ci := 12) rfl (m_obj hm)) (rok_of hM (by decide) (by decide) (by omega) (by omega)) (Nat.le_of_ble_eq_true rfl) (fun r2 h2 hp2 => ?_)
  obtain ⟨rfl, rfl⟩ := hp2
  refine a_if_eqB (pc := 5) (tgt := 16) dX12_counts_5 (by decide) (fun c5 => ?_) (fun c5 => ?_)
  · refine a_bipush (pc := 16) dX12_counts_16 ib_m2 ?_
    refine a_ret_i (pc := 18) hM rfl (rfl) dX12_counts_18 (by omega) (by omega) ?_
    exact ⟨by first | simp only [R_counts, ek, c5, Bool.and_self, Bool.and_true, Bool.true_and, Bool.and_false, Bool.false_and, Bool.false_eq_true, Nat.add_sub_cancel, reduceIte] | simp only [R_counts, c5, Bool.and_self, Bool.and_true, Bool.true_and, Bool.and_false, Bool.false_and, Bool.false_eq_true, Nat.add_sub_cancel, reduceIte], _, rfl, by first | (simp only [R_counts, ek, c5, Bool.and_self, Bool.and_true, Bool.true_and, Bool.and_false, Bool.false_and, Bool.false_eq_true, Nat.add_sub_cancel, reduceIte]; exact SP.rfl) | (simp only [R_counts, c5, Bool.and_self, Bool.and_true, Bool.true_and, Bool.and_false, Bool.false_and, Bool.false_eq_true, Nat.add_sub_cancel, reduceIte]; exact SP.rfl)⟩
  · obtain ⟨k, hk, rfl⟩ := inN_of c5 (by omega)
    have ek : (nI k).toNatClampNeg = k := nI_clamp (by omega)
    refine a_aload_n (pc := 8) dX12_counts_8 rfl rfl ?_
    refine a_iload_n (pc := 9) dX12_counts_9 rfl rfl ?_
    refine a_callV (pc := 10) km_X12_224 dX12_counts_10 (f_countsOf hm (by omega)) rfl rfl (krecv_of (ci := 12) rfl (m_obj hm)) (rok_of hM (by decide) (by decide) (by omega) (by omega)) (Nat.le_of_ble_eq_true rfl) (fun r10 h10 hp10 => ?_)
    obtain ⟨rfl, rfl⟩ := hp10
    refine a_goto (pc := 13) (tgt := 18) dX12_counts_13 (by decide) ?_
    refine a_ret_i (pc := 18) hM rfl (rfl) dX12_counts_18 (by omega) (by omega) ?_
    exact ⟨by first | simp only [R_counts, ek, c5, Bool.and_self, Bool.and_true, Bool.true_and, Bool.and_false, Bool.false_and, Bool.false_eq_true, Nat.add_sub_cancel, reduceIte] | simp only [R_counts, c5, Bool.and_self, Bool.and_true, Bool.true_and, Bool.and_false, Bool.false_and, Bool.false_eq_true, Nat.add_sub_cancel, reduceIte], _, rfl, by first | (simp only [R_counts, ek, c5, Bool.and_self, Bool.and_true, Bool.true_and, Bool.and_false, Bool.false_and, Bool.false_eq_true, Nat.add_sub_cancel, reduceIte]; exact SP.rfl) | (simp only [R_counts, c5, Bool.and_self, Bool.and_true, Bool.true_and, Bool.and_false, Bool.false_and, Bool.false_eq_true, Nat.add_sub_cancel, reduceIte]; exact SP.rfl)⟩

def N_screen (s : MST) (a b : Int32) : MST := si (sa (sa s 29 (upd (s.2.1 29) (vI s 31) a)) 30 (upd (s.2.1 30) (vI s 31) b)) 31 (nI (vI s 31 + 1))
def R_screen (s : MST) (a b : Int32) : Int32 × MST := if (inR a 1 50 && inN b 64) = true then (if vI s 31 = 6 then (-4, s) else (nI (vI s 31), N_screen s a b)) else (-2, s)
set_option maxRecDepth 4000 in
theorem f_screen (hm : MI m) (hV : MV s) (a b : Int32) : Fn X 2 0 0 yX12_screen cX12_screen 3 (some .int) [.ref (m 65), .int a, .int b] (mh m s h0) (fun rv hv => rv = some (.int (R_screen s a b).1) ∧ ∃ s' : MST, hv = mh m s' h0 ∧ SP s' (R_screen s a b).2) := by
  obtain ⟨⟨hn31, hb31⟩, hl31⟩ := id hV.2.2.2.1
  refine fn_of (by decide) (Nat.le_of_ble_eq_true rfl) (fun M hM => ?_)
  refine a_iload_n (pc := 0) dX12_screen_0 rfl rfl ?_
  refine a_i2l (pc := 1) dX12_screen_1 ?_
  refine a_lconst (pc := 2) (v := lN 1) dX12_screen_2 rfl ?_
  refine a_ldc2 (pc := 3) kc_X12_227 dX12_screen_3 ?_
  refine a_callS (pc := 6) km_X12_142 dX12_screen_6 (f_in _ _ _) rfl rfl (rok_of hM (by decide) (by decide) (by omega) (by omega)) (Nat.le_of_ble_eq_true rfl) (fun r6 h6 hp6 => ?_)
  obtain ⟨rfl, rfl⟩ := hp6
  refine a_topi (congrArg bI (in_rng3 (x := a) (a := 1) (b := 50) (by decide) (by decide))) ?_
  refine a_if_eqB (pc := 9) (tgt := 24) dX12_screen_9 (by decide) (fun c9 => ?_) (fun c9 => ?_)
  · refine a_bipush (pc := 24) dX12_screen_24 ib_m2 ?_
    refine a_ret_i (pc := 26) hM rfl (rfl) dX12_screen_26 (by omega) (by omega) ?_
    exact ⟨by first | simp only [R_screen, c9, Bool.and_self, Bool.and_true, Bool.true_and, Bool.and_false, Bool.false_and, Bool.false_eq_true, Nat.add_sub_cancel, reduceIte], _, rfl, by first | (simp only [R_screen, c9, Bool.and_self, Bool.and_true, Bool.true_and, Bool.and_false, Bool.false_and, Bool.false_eq_true, Nat.add_sub_cancel, reduceIte]; exact SP.rfl)⟩
  · refine a_iload_n (pc := 12) dX12_screen_12 rfl rfl ?_
    refine a_i2l (pc := 13) dX12_screen_13 ?_
    refine a_lconst (pc := 14) (v := lN 0) dX12_screen_14 rfl ?_
    refine a_ldc2 (pc := 15) kc_X12_229 dX12_screen_15 ?_
    refine a_callS (pc := 18) km_X12_142 dX12_screen_18 (f_in _ _ _) rfl rfl (rok_of hM (by decide) (by decide) (by omega) (by omega)) (Nat.le_of_ble_eq_true rfl) (fun r18 h18 hp18 => ?_)
    obtain ⟨rfl, rfl⟩ := hp18
    refine a_topi (congrArg bI (in_rng2 (x := b) (n := 64) (k := 63) (by omega) (by omega))) ?_
    refine a_if_neB (pc := 21) (tgt := 27) dX12_screen_21 (by decide) (fun c21 => ?_) (fun c21 => ?_)
    · refine a_aload_n (pc := 27) dX12_screen_27 rfl rfl ?_
      refine a_getfield (pc := 28) kg_X12_231 dX12_screen_28 (m_obj hm) rfl ?_
      refine a_topi (hn31) ?_
      refine a_bipush (pc := 31) dX12_screen_31 ib_6 ?_
      refine a_icmp_neN (pc := 33) (tgt := 39) dX12_screen_33 (by decide) (by omega) (by omega) (fun c33 => ?_) (fun c33 => ?_)
      · refine a_aload_n (pc := 39) dX12_screen_39 rfl rfl ?_
        refine a_getfield (pc := 40) kg_X12_81 dX12_screen_40 (m_obj hm) rfl ?_
        refine a_aload_n (pc := 43) dX12_screen_43 rfl rfl ?_
        refine a_getfield (pc := 44) kg_X12_231 dX12_screen_44 (m_obj hm) rfl ?_
        refine a_topi (hn31) ?_
        refine a_iload_n (pc := 47) dX12_screen_47 rfl rfl ?_
        refine a_iastore (pc := 48) dX12_screen_48 (m_a29 hm) (_) (rfl) (by omega) (by omega) ?_
        refine a_hp (m_p29 hm) ?_
        refine a_aload_n (pc := 49) dX12_screen_49 rfl rfl ?_
        refine a_getfield (pc := 50) kg_X12_84 dX12_screen_50 (m_obj hm) rfl ?_
        refine a_aload_n (pc := 53) dX12_screen_53 rfl rfl ?_
        refine a_getfield (pc := 54) kg_X12_231 dX12_screen_54 (m_obj hm) rfl ?_
        refine a_topi (hn31) ?_
        refine a_iload_n (pc := 57) dX12_screen_57 rfl rfl ?_
        refine a_iastore (pc := 58) dX12_screen_58 (m_a30 hm) (_) (rfl) (by omega) (by omega) ?_
        refine a_hp (m_p30 hm) ?_
        refine a_aload_n (pc := 59) dX12_screen_59 rfl rfl ?_
        refine a_dup (pc := 60) dX12_screen_60 rfl ?_
        refine a_getfield (pc := 61) kg_X12_231 dX12_screen_61 (m_obj hm) rfl ?_
        refine a_topi (hn31) ?_
        refine a_iconst (pc := 64) dX12_screen_64 ic_1 ?_
        refine a_iaddN (pc := 65) dX12_screen_65 ?_
        refine a_putfield (pc := 66) kf_X12_231 dX12_screen_66 (m_obj hm) (rfl) (by rfl) (Nat.le_of_ble_eq_true rfl) ?_
        refine a_hp (m_p31 hm) ?_
        refine a_aload_n (pc := 69) dX12_screen_69 rfl rfl ?_
        refine a_getfield (pc := 70) kg_X12_231 dX12_screen_70 (m_obj hm) rfl ?_
        refine a_topi ((show _ = nI (vI s 31 + 1) from rfl)) ?_
        refine a_iconst (pc := 73) dX12_screen_73 ic_1 ?_
        refine a_isubN (pc := 74) dX12_screen_74 (by omega) ?_
        refine a_ret_i (pc := 75) hM rfl (rfl) dX12_screen_75 (by omega) (by omega) ?_
        exact ⟨by first | simp only [R_screen, c9, c21, c33, Bool.and_self, Bool.and_true, Bool.true_and, Bool.and_false, Bool.false_and, Bool.false_eq_true, Nat.add_sub_cancel, reduceIte], _, rfl, by first | (simp only [R_screen, c9, c21, c33, Bool.and_self, Bool.and_true, Bool.true_and, Bool.and_false, Bool.false_and, Bool.false_eq_true, Nat.add_sub_cancel, reduceIte]; exact SP.rfl)⟩
      · refine a_bipush (pc := 36) dX12_screen_36 ib_m4 ?_
        refine a_ret_i (pc := 38) hM rfl (rfl) dX12_screen_38 (by omega) (by omega) ?_
        exact ⟨by first | simp only [R_screen, c9, c21, c33, Bool.and_self, Bool.and_true, Bool.true_and, Bool.and_false, Bool.false_and, Bool.false_eq_true, Nat.add_sub_cancel, reduceIte], _, rfl, by first | (simp only [R_screen, c9, c21, c33, Bool.and_self, Bool.and_true, Bool.true_and, Bool.and_false, Bool.false_and, Bool.false_eq_true, Nat.add_sub_cancel, reduceIte]; exact SP.rfl)⟩
    · refine a_bipush (pc := 24) dX12_screen_24 ib_m2 ?_
      refine a_ret_i (pc := 26) hM rfl (rfl) dX12_screen_26 (by omega) (by omega) ?_
      exact ⟨by first | simp only [R_screen, c9, c21, Bool.and_self, Bool.and_true, Bool.true_and, Bool.and_false, Bool.false_and, Bool.false_eq_true, Nat.add_sub_cancel, reduceIte], _, rfl, by first | (simp only [R_screen, c9, c21, Bool.and_self, Bool.and_true, Bool.true_and, Bool.and_false, Bool.false_and, Bool.false_eq_true, Nat.add_sub_cancel, reduceIte]; exact SP.rfl)⟩

def R_force (s : MST) (x : Int32) : Int32 × MST := if inN x (vI s 3) = true then (s.1 4, si s 4 x) else (-2, s)
set_option maxRecDepth 4000 in
theorem f_force (hm : MI m) (hV : MV s) (x : Int32) : Fn X 1 0 0 yX12_force cX12_force 3 (some .int) [.ref (m 65), .int x] (mh m s h0) (fun rv hv => rv = some (.int (R_force s x).1) ∧ ∃ s' : MST, hv = mh m s' h0 ∧ SP s' (R_force s x).2) := by
  obtain ⟨⟨hn3, hb3⟩, -⟩ := id hV.2.2.2.2.2.2.1
  refine fn_of (by decide) (Nat.le_of_ble_eq_true rfl) (fun M hM => ?_)
  refine a_iload_n (pc := 0) dX12_force_0 rfl rfl ?_
  refine a_i2l (pc := 1) dX12_force_1 ?_
  refine a_lconst (pc := 2) (v := lN 0) dX12_force_2 rfl ?_
  refine a_aload_n (pc := 3) dX12_force_3 rfl rfl ?_
  refine a_getfield (pc := 4) kg_X12_134 dX12_force_4 (m_obj hm) rfl ?_
  refine a_topi (hn3) ?_
  refine a_iconst (pc := 7) dX12_force_7 ic_1 ?_
  refine a_isub (pc := 8) dX12_force_8 ?_
  refine a_i2l (pc := 9) dX12_force_9 ?_
  refine a_callS (pc := 10) km_X12_142 dX12_force_10 (f_in _ _ _) rfl rfl (rok_of hM (by decide) (by decide) (by omega) (by omega)) (Nat.le_of_ble_eq_true rfl) (fun r10 h10 hp10 => ?_)
  obtain ⟨rfl, rfl⟩ := hp10
  refine a_topi (congrArg bI (in_rng (x := x) (n := vI s 3) (by omega))) ?_
  refine a_if_neB (pc := 13) (tgt := 19) dX12_force_13 (by decide) (fun c13 => ?_) (fun c13 => ?_)
  · refine a_aload_n (pc := 19) dX12_force_19 rfl rfl ?_
    refine a_getfield (pc := 20) kg_X12_380 dX12_force_20 (m_obj hm) rfl ?_
    refine a_istore_n (pc := 23) dX12_force_23 rfl (by decide) rfl ?_
    refine a_aload_n (pc := 24) dX12_force_24 rfl rfl ?_
    refine a_iload_n (pc := 25) dX12_force_25 rfl rfl ?_
    refine a_putfield (pc := 26) kf_X12_380 dX12_force_26 (m_obj hm) (rfl) (by rfl) (Nat.le_of_ble_eq_true rfl) ?_
    refine a_hp (m_p4 hm) ?_
    refine a_iload_n (pc := 29) dX12_force_29 rfl rfl ?_
    refine a_ret_i (pc := 30) hM rfl (rfl) dX12_force_30 (by omega) (by omega) ?_
    exact ⟨by first | simp only [R_force, c13, Bool.and_self, Bool.and_true, Bool.true_and, Bool.and_false, Bool.false_and, Bool.false_eq_true, Nat.add_sub_cancel, reduceIte], _, rfl, by first | (simp only [R_force, c13, Bool.and_self, Bool.and_true, Bool.true_and, Bool.and_false, Bool.false_and, Bool.false_eq_true, Nat.add_sub_cancel, reduceIte]; exact SP.rfl)⟩
  · refine a_bipush (pc := 16) dX12_force_16 ib_m2 ?_
    refine a_ret_i (pc := 18) hM rfl (rfl) dX12_force_18 (by omega) (by omega) ?_
    exact ⟨by first | simp only [R_force, c13, Bool.and_self, Bool.and_true, Bool.true_and, Bool.and_false, Bool.false_and, Bool.false_eq_true, Nat.add_sub_cancel, reduceIte], _, rfl, by first | (simp only [R_force, c13, Bool.and_self, Bool.and_true, Bool.true_and, Bool.and_false, Bool.false_and, Bool.false_eq_true, Nat.add_sub_cancel, reduceIte]; exact SP.rfl)⟩

end MP1

/-! THE REFERENCE's INVARIANT; what is kept apart from scratch -/
section MVS
def rsz (s : MST) (r : Nat) : Nat := vA s 9 (vA s 11 r)
def cI (s : MST) (k n : Nat) : Prop := s.1 k = nI (vI s k) ∧ vI s k ≤ n
/-- packs -/
def MVp (s : MST) : Prop := cI s 10 4 ∧ ∀ p, p < vI s 10 → okV (s.2.1 9 p) 26 ∧ 1 ≤ vA s 9 p ∧ (∀ j, j < 5 → okV (s.2.1 8 (5 * p + j)) 10) ∧ vA s 8 (5 * p) + vA s 8 (5 * p + 1) + vA s 8 (5 * p + 2) + vA s 8 (5 * p + 3) + vA s 8 (5 * p + 4) = vA s 9 p
/-- rows of cards and guesses: what run r's places hold -/
def rowOk (s : MST) (a r : Nat) : Prop := ∀ i, i < rsz s r → okV (s.2.1 a (25 * r + i)) 5
def cntOk (s : MST) (a r : Nat) : Prop := ∀ g, g < 5 → cntN (fun i => decide (s.2.1 a (25 * r + i) = nI g)) (rsz s r) = vA s 8 (5 * vA s 11 r + g)
def MVr (s : MST) : Prop := cI s 18 16 ∧ ∀ r, r < vI s 18 → okV (s.2.1 11 r) (vI s 10) ∧ okV (s.2.1 12 r) 8 ∧ okV (s.2.1 13 r) 100 ∧ rowOk s 14 r ∧ rowOk s 15 r ∧ cntOk s 14 r
def MVl (s : MST) : Prop := cI s 28 10 ∧ ∀ k, k < vI s 28 → okV (s.2.1 24 k) 6 ∧ okV (s.2.1 25 k) 26 ∧ okV (s.2.1 26 k) 5 ∧ okV (s.2.1 27 k) 2
def MVs (s : MST) : Prop := cI s 31 6 ∧ ∀ k, k < vI s 31 → okV (s.2.1 29 k) 51 ∧ okV (s.2.1 30 k) 64
def MVi (s : MST) : Prop := okV (s.1 57) 2 ∧ (s.1 57 = nI 1 → cI s 58 (vI s 18) ∧ cI s 59 (vI s 28) ∧ (∀ k, k < vI s 59 → okV (s.2.1 56 k) 2) ∧ okV (s.1 60) (vI s 3) ∧ ∀ r, r < vI s 58 → rowOk s 52 r ∧ rowOk s 53 r ∧ cntOk s 52 r)
def MVh (s : MST) : Prop := ∀ i, i < 4 → okV (s.2.1 61 i) 2 ∧ (s.2.1 61 i = nI 1 → okV (s.2.1 62 i) 3 ∧ okV (s.2.1 63 i) 41)
def MVt (s : MST) : Prop := cI s 3 6 ∧ 1 ≤ vI s 3 ∧ okV (s.1 4) (vI s 3) ∧ cI s 6 160 ∧ (∀ i, i < vI s 6 → okV (s.2.1 5 i) 256) ∧ ∀ t, t < vI s 3 → okV (s.2.1 2 t) 161 ∧ ∀ i, i < vA s 2 t → okV (s.2.1 1 (160 * t + i)) 256
def binN : Nat → Nat → Nat
  | _, 0 => 1
  | 0, _ + 1 => 0
  | n + 1, k + 1 => binN n k + binN n (k + 1)
def MVc (s : MST) : Prop := ∀ n k, n ≤ 25 → k ≤ 25 → s.2.2.2 7 (26 * n + k) = lN (binN n k)

def MV (s : MST) : Prop := MVp s ∧ MVr s ∧ MVl s ∧ MVs s ∧ MVi s ∧ MVh s ∧ MVt s ∧ MVc s
/-- what is kept between calls -/
def pIl : List Nat := [3, 4, 6, 10, 18, 28, 31, 57, 58, 59, 60]
def pAl : List Nat := [1, 2, 5, 8, 9, 11, 12, 13, 14, 15, 16, 17, 24, 25, 26, 27, 29, 30, 52, 53, 54, 55, 56, 61, 62, 63, 64]
def SP (a b : MST) : Prop := (∀ k, k ∈ pIl → a.1 k = b.1 k) ∧ (∀ k, k ∈ pAl → a.2.1 k = b.2.1 k) ∧ a.2.2.2 7 = b.2.2.2 7
theorem SP.rfl {a : MST} : SP a a := ⟨fun _ _ => _root_.rfl, fun _ _ => _root_.rfl, _root_.rfl⟩
theorem SP.tr {a b c : MST} (h : SP a b) (h2 : SP b c) : SP a c := ⟨fun k hk => (h.1 k hk).trans (h2.1 k hk), fun k hk => (h.2.1 k hk).trans (h2.2.1 k hk), h.2.2.trans h2.2.2⟩
theorem SP.sym {a b : MST} (h : SP a b) : SP b a := ⟨fun k hk => (h.1 k hk).symm, fun k hk => (h.2.1 k hk).symm, h.2.2.symm⟩
theorem okV.nI {x : Int32} {n : Nat} (h : okV x n) : x = nI x.toNatClampNeg := h.1
theorem MV_run {s : MST} (hV : MV s) {r : Nat} (hr : r < vI s 18) : r < 16 ∧ Rz s r (rsz s r) ∧ 1 ≤ rsz s r ∧ rsz s r ≤ 25 := by
  obtain ⟨h1, h2, -⟩ := hV
  have hp := (h2.2 r hr).1
  have hq := h1.2 _ hp.2
  have h16 : vI s 18 ≤ 16 := h2.1.2
  have h4 : vI s 10 ≤ 4 := h1.1.2
  have h3 : vA s 11 r < vI s 10 := hp.2
  have h5 : vA s 9 (vA s 11 r) < 26 := hq.1.2
  exact ⟨by omega, ⟨vA s 11 r, by omega, hp.1, hq.1.1, by show vA s 9 (vA s 11 r) ≤ 25; omega⟩, hq.2.1, by show vA s 9 (vA s 11 r) ≤ 25; omega⟩
theorem mul_lt {a b c : Nat} (h : a < b) (hc : b ≤ c) : a < c := Nat.lt_of_lt_of_le h hc
end MVS
section MP1
variable {X : KX} {m : Nat → Nat} {s : MST} {h0 : AH}
def P_at (s : MST) (x i w : Int32) : Int32 := if (inN x (vI s 18) && inN i (rsz s x.toNatClampNeg) && inN w 2) = true then (if w = 0 then s.2.1 14 (25 * x.toNatClampNeg + i.toNatClampNeg) else s.2.1 15 (25 * x.toNatClampNeg + i.toNatClampNeg)) else -2
set_option maxRecDepth 4000 in
theorem f_at (hm : MI m) (hV : MV s) (x i w : Int32) : Fn X 2 0 0 yX12_at cX12_at 4 (some .int) [.ref (m 65), .int x, .int i, .int w] (mh m s h0) (fun rv hv => rv = some (.int (P_at s x i w)) ∧ hv = mh m s h0) := by
  obtain ⟨⟨hn18, hb18⟩, -⟩ := id hV.2.1
  refine fn_of (by decide) (Nat.le_of_ble_eq_true rfl) (fun M hM => ?_)
  refine a_aload_n (pc := 0) dX12_at_0 rfl rfl ?_
  refine a_iload_n (pc := 1) dX12_at_1 rfl rfl ?_
  refine a_callV (pc := 2) km_X12_157 dX12_at_2 (f_isRun hm hn18 (by omega) _) rfl rfl (krecv_of (ci := 12) rfl (m_obj hm)) (rok_of hM (by decide) (by decide) (by omega) (by omega)) (Nat.le_of_ble_eq_true rfl) (fun r2 h2 hp2 => ?_)
  obtain ⟨rfl, rfl⟩ := hp2
  refine a_if_eqB (pc := 5) (tgt := 35) dX12_at_5 (by decide) (fun c5 => ?_) (fun c5 => ?_)
  · refine a_bipush (pc := 35) dX12_at_35 ib_m2 ?_
    refine a_ret_i (pc := 37) hM rfl (rfl) dX12_at_37 (by omega) (by omega) ?_
    exact ⟨by first | simp only [P_at, er, eq, c5, Bool.and_self, Bool.and_true, Bool.true_and, Bool.and_false, Bool.false_and, Bool.false_eq_true, reduceIte] | simp only [P_at, er, c5, Bool.and_self, Bool.and_true, Bool.true_and, Bool.and_false, Bool.false_and, Bool.false_eq_true, reduceIte] | simp only [P_at, c5, Bool.and_self, Bool.and_true, Bool.true_and, Bool.and_false, Bool.false_and, Bool.false_eq_true, reduceIte], rfl⟩
  · obtain ⟨r, hr, rfl⟩ := inN_of c5 (by omega)
    obtain ⟨hr16, hz, hz1, hz2⟩ := MV_run hV hr
    have er : (nI r).toNatClampNeg = r := nI_clamp (by omega)
    refine a_iload_n (pc := 8) dX12_at_8 rfl rfl ?_
    refine a_i2l (pc := 9) dX12_at_9 ?_
    refine a_lconst (pc := 10) (v := lN 0) dX12_at_10 rfl ?_
    refine a_aload_n (pc := 11) dX12_at_11 rfl rfl ?_
    refine a_iload_n (pc := 12) dX12_at_12 rfl rfl ?_
    refine a_callV (pc := 13) km_X12_161 dX12_at_13 (f_sizeOf hm hr16 hz) rfl rfl (krecv_of (ci := 12) rfl (m_obj hm)) (rok_of hM (by decide) (by decide) (by omega) (by omega)) (Nat.le_of_ble_eq_true rfl) (fun r13 h13 hp13 => ?_)
    obtain ⟨rfl, rfl⟩ := hp13
    refine a_iconst (pc := 16) dX12_at_16 ic_1 ?_
    refine a_isubN (pc := 17) dX12_at_17 (by omega) ?_
    refine a_i2lN (pc := 18) dX12_at_18 (by omega) ?_
    refine a_callS (pc := 19) km_X12_142 dX12_at_19 (f_in _ _ _) rfl rfl (rok_of hM (by decide) (by decide) (by omega) (by omega)) (Nat.le_of_ble_eq_true rfl) (fun r19 h19 hp19 => ?_)
    obtain ⟨rfl, rfl⟩ := hp19
    refine a_topi (congrArg bI (in_rng2 (x := i) (n := rsz s r) (k := rsz s r - 1) (by omega) (by omega))) ?_
    refine a_if_eqB (pc := 22) (tgt := 35) dX12_at_22 (by decide) (fun c22 => ?_) (fun c22 => ?_)
    · refine a_bipush (pc := 35) dX12_at_35 ib_m2 ?_
      refine a_ret_i (pc := 37) hM rfl (rfl) dX12_at_37 (by omega) (by omega) ?_
      exact ⟨by first | simp only [P_at, er, eq, c5, c22, Bool.and_self, Bool.and_true, Bool.true_and, Bool.and_false, Bool.false_and, Bool.false_eq_true, reduceIte] | simp only [P_at, er, c5, c22, Bool.and_self, Bool.and_true, Bool.true_and, Bool.and_false, Bool.false_and, Bool.false_eq_true, reduceIte] | simp only [P_at, c5, c22, Bool.and_self, Bool.and_true, Bool.true_and, Bool.and_false, Bool.false_and, Bool.false_eq_true, reduceIte], rfl⟩
    · obtain ⟨q, hq, rfl⟩ := inN_of c22 (by omega)
      have eq : (nI q).toNatClampNeg = q := nI_clamp (by omega)
      have eq0 := eq
      refine a_iload_n (pc := 25) dX12_at_25 rfl rfl ?_
      refine a_i2l (pc := 26) dX12_at_26 ?_
      refine a_lconst (pc := 27) (v := lN 0) dX12_at_27 rfl ?_
      refine a_lconst (pc := 28) (v := lN 1) dX12_at_28 rfl ?_
      refine a_callS (pc := 29) km_X12_142 dX12_at_29 (f_in _ _ _) rfl rfl (rok_of hM (by decide) (by decide) (by omega) (by omega)) (Nat.le_of_ble_eq_true rfl) (fun r29 h29 hp29 => ?_)
      obtain ⟨rfl, rfl⟩ := hp29
      refine a_topi (congrArg bI (in_rng2 (x := w) (n := 2) (k := 1) (by omega) (by omega))) ?_
      refine a_if_neB (pc := 32) (tgt := 38) dX12_at_32 (by decide) (fun c32 => ?_) (fun c32 => ?_)
      · refine a_iload_n (pc := 38) dX12_at_38 rfl rfl ?_
        refine a_if_ne (pc := 39) (tgt := 56) dX12_at_39 (by decide) (fun c39 => ?_) (fun c39 => ?_)
        · have cw := c39
          refine a_aload_n (pc := 56) dX12_at_56 rfl rfl ?_
          refine a_getfield (pc := 57) kg_X12_45 dX12_at_57 (m_obj hm) rfl ?_
          refine a_bipush (pc := 60) dX12_at_60 ib_25 ?_
          refine a_iload_n (pc := 62) dX12_at_62 rfl rfl ?_
          refine a_imulN (pc := 63) dX12_at_63 ?_
          refine a_iload_n (pc := 64) dX12_at_64 rfl rfl ?_
          refine a_iaddN (pc := 65) dX12_at_65 ?_
          refine a_iaload (pc := 66) dX12_at_66 (m_a15 hm) (_) (rfl) (by omega) (by omega) ?_
          refine a_ret_i (pc := 67) hM rfl (rfl) dX12_at_67 (by omega) (by omega) ?_
          exact ⟨by first | simp only [P_at, er, eq, c5, c22, c32, c39, Bool.and_self, Bool.and_true, Bool.true_and, Bool.and_false, Bool.false_and, Bool.false_eq_true, reduceIte] | simp only [P_at, er, c5, c22, c32, c39, Bool.and_self, Bool.and_true, Bool.true_and, Bool.and_false, Bool.false_and, Bool.false_eq_true, reduceIte] | simp only [P_at, c5, c22, c32, c39, Bool.and_self, Bool.and_true, Bool.true_and, Bool.and_false, Bool.false_and, Bool.false_eq_true, reduceIte], rfl⟩
        · subst c39
          refine a_aload_n (pc := 42) dX12_at_42 rfl rfl ?_
          refine a_getfield (pc := 43) kg_X12_42 dX12_at_43 (m_obj hm) rfl ?_
          refine a_bipush (pc := 46) dX12_at_46 ib_25 ?_
          refine a_iload_n (pc := 48) dX12_at_48 rfl rfl ?_
          refine a_imulN (pc := 49) dX12_at_49 ?_
          refine a_iload_n (pc := 50) dX12_at_50 rfl rfl ?_
          refine a_iaddN (pc := 51) dX12_at_51 ?_
          refine a_iaload (pc := 52) dX12_at_52 (m_a14 hm) (_) (rfl) (by omega) (by omega) ?_
          refine a_goto (pc := 53) (tgt := 67) dX12_at_53 (by decide) ?_
          refine a_ret_i (pc := 67) hM rfl (rfl) dX12_at_67 (by omega) (by omega) ?_
          exact ⟨by first | simp only [P_at, er, eq, c5, c22, c32, Bool.and_self, Bool.and_true, Bool.true_and, Bool.and_false, Bool.false_and, Bool.false_eq_true, reduceIte] | simp only [P_at, er, c5, c22, c32, Bool.and_self, Bool.and_true, Bool.true_and, Bool.and_false, Bool.false_and, Bool.false_eq_true, reduceIte] | simp only [P_at, c5, c22, c32, Bool.and_self, Bool.and_true, Bool.true_and, Bool.and_false, Bool.false_and, Bool.false_eq_true, reduceIte], rfl⟩
      · refine a_bipush (pc := 35) dX12_at_35 ib_m2 ?_
        refine a_ret_i (pc := 37) hM rfl (rfl) dX12_at_37 (by omega) (by omega) ?_
        exact ⟨by first | simp only [P_at, er, eq, c5, c22, c32, Bool.and_self, Bool.and_true, Bool.true_and, Bool.and_false, Bool.false_and, Bool.false_eq_true, reduceIte] | simp only [P_at, er, c5, c22, c32, Bool.and_self, Bool.and_true, Bool.true_and, Bool.and_false, Bool.false_and, Bool.false_eq_true, reduceIte] | simp only [P_at, c5, c22, c32, Bool.and_self, Bool.and_true, Bool.true_and, Bool.and_false, Bool.false_and, Bool.false_eq_true, reduceIte], rfl⟩

end MP1

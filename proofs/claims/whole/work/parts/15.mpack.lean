/-! THE REFERENCE: the best one, packs, runs, sheets -/
section MP5
variable {X : KX} {m : Nat → Nat} {s : MST} {h0 : AH}
theorem hitsP_sp {s t : MST} (h : SP s t) (r n : Nat) : hitsP s r n = hitsP t r n := by unfold hitsP; rw [h.2.1 14 (by decide), h.2.1 15 (by decide)]
theorem rsz_sp {s t : MST} (h : SP s t) (r : Nat) : rsz s r = rsz t r := by unfold rsz vA; rw [h.2.1 9 (by decide), h.2.1 11 (by decide)]
theorem inDay_sp {s t : MST} (h : SP s t) (g a b : Int32) (k : Nat) : inDay s g a b k = inDay t g a b k := by unfold inDay; rw [h.2.1 12 (by decide), h.2.1 13 (by decide)]
theorem ranM_sp {s t : MST} (h : SP s t) (g a b : Int32) (n : Nat) : ranM s g a b n = ranM t g a b n := sumN_congr (fun k _ => by rw [inDay_sp h])
theorem ranH_sp {s t : MST} (h : SP s t) (g a b : Int32) (n : Nat) : ranH s g a b n = ranH t g a b n := sumN_congr (fun k _ => by rw [inDay_sp h, hitsP_sp h, rsz_sp h])
theorem N_ran_sp {s : MST} {g a b : Int32} {n : Nat} : SP (N_ran s g a b n) s := SP.si (by decide) (SP.si (by decide) SP.rfl)
theorem si_4 {s : MST} {k j : Nat} {a b c d : Int32} (h : k ≠ j) : si (si (si (si s k a) j b) k c) j d = si (si s k c) j d := by rw [si_3 h, si_si]
theorem vI_sp {s t : MST} (h : SP s t) {k : Nat} (hk : k ∈ pIl) : vI s k = vI t k := by unfold vI; rw [h.1 k hk]
theorem vA_sp {s t : MST} (h : SP s t) {k i : Nat} (hk : k ∈ pAl) : vA s k i = vA t k i := by unfold vA; rw [h.2.1 k hk]
theorem ranH_le (s : MST) (g a b : Int32) (n : Nat) (h : ∀ k, k < n → rsz s k ≤ 25) : ranH s g a b n ≤ 25 * n := by
  induction n with
  | zero => exact Nat.zero_le _
  | succ n ih =>
    have h1 := ih (fun k hk => h k (by omega))
    have h2 : hitsP s n (rsz s n) ≤ rsz s n := cntN_le _ _
    have h3 := h n (by omega)
    rw [ranH_s]
    split <;> omega
/-- the invariant looks at what is kept alone -/
theorem MV_sp {s t : MST} (h : SP s t) (hV : MV s) : MV t := by
  have a := fun k (hk : k ∈ pIl) => h.1 k hk
  have b := fun k (hk : k ∈ pAl) => h.2.1 k hk
  unfold MV MVp MVr MVl MVs MVi MVh MVt MVc cI rowOk cntOk rsz vI vA at *
  rw [← a 3 (by decide), ← a 4 (by decide), ← a 6 (by decide), ← a 10 (by decide), ← a 18 (by decide), ← a 28 (by decide), ← a 31 (by decide), ← a 57 (by decide), ← a 58 (by decide), ← a 59 (by decide), ← a 60 (by decide),
    ← b 1 (by decide), ← b 2 (by decide), ← b 5 (by decide), ← b 8 (by decide), ← b 9 (by decide), ← b 11 (by decide), ← b 12 (by decide), ← b 13 (by decide), ← b 14 (by decide), ← b 15 (by decide), ← b 24 (by decide), ← b 25 (by decide), ← b 26 (by decide), ← b 27 (by decide), ← b 29 (by decide), ← b 30 (by decide), ← b 52 (by decide), ← b 53 (by decide), ← b 56 (by decide), ← b 61 (by decide), ← b 62 (by decide), ← b 63 (by decide), ← h.2.2]
  exact hV
def bestS (s : MST) (d : Int32) : Nat → Int32 × Nat × Nat
  | 0 => (-1, 0, 1)
  | g + 1 => if 0 < ranM s (nI g) (nI 0) d (vI s 18) ∧ ((bestS s d g).1 = -1 ∨ (bestS s d g).2.1 * ranM s (nI g) (nI 0) d (vI s 18) < ranH s (nI g) (nI 0) d (vI s 18) * (bestS s d g).2.2) then (nI g, ranH s (nI g) (nI 0) d (vI s 18), ranM s (nI g) (nI 0) d (vI s 18)) else bestS s d g
def R_best (s : MST) (d : Int32) : Int32 × MST := if inR d 0 100 = true then ((bestS s d 8).1, s) else (-2, s)
theorem bestS_le {s : MST} (hV : MV s) (d : Int32) (g : Nat) : (bestS s d g).2.1 ≤ 400 ∧ (bestS s d g).2.2 ≤ 16 := by
  induction g with
  | zero => exact ⟨Nat.zero_le _, Nat.le_of_ble_eq_true rfl⟩
  | succ g ih =>
    unfold bestS
    split
    · have h1 := ranM_le s (nI g) (nI 0) d (vI s 18)
      have h2 := ranH_le s (nI g) (nI 0) d (vI s 18) (fun k hk => (MV_run hV hk).2.2.2)
      have h3 : vI s 18 ≤ 16 := hV.2.1.1.2
      exact ⟨by show ranH s (nI g) (nI 0) d (vI s 18) ≤ 400; omega, by show ranM s (nI g) (nI 0) d (vI s 18) ≤ 16; omega⟩
    · exact ih
set_option maxRecDepth 4000 in
theorem f_best (hm : MI m) (hV : MV s) (d : Int32) : Fn X 3 0 0 yX12_best cX12_best 6 (some .int) [.ref (m 65), .int d] (mh m s h0) (fun rv hv => rv = some (.int (R_best s d).1) ∧ ∃ s' : MST, hv = mh m s' h0 ∧ SP s' (R_best s d).2) := by
  obtain ⟨⟨hn18, hb18⟩, hl18⟩ := id hV.2.1
  refine fn_of (by decide) (Nat.le_of_ble_eq_true rfl) (fun M hM => ?_)
  refine a_iload_n (pc := 0) dX12_best_0 rfl rfl ?_
  refine a_i2l (pc := 1) dX12_best_1 ?_
  refine a_lconst (pc := 2) (v := lN 0) dX12_best_2 rfl ?_
  refine a_ldc2 (pc := 3) kc_X12_412 dX12_best_3 ?_
  refine a_topl (z := lN 100) rfl ?_
  refine a_callS (pc := 6) km_X12_142 dX12_best_6 (f_in _ _ _) rfl rfl (rok_of hM (by decide) (by decide) (by omega) (by omega)) (Nat.le_of_ble_eq_true rfl) (fun r6 h6 hp6 => ?_)
  obtain ⟨rfl, rfl⟩ := hp6
  refine a_topi (congrArg bI (in_rng3 (x := d) (a := 0) (b := 100) (by decide) (by decide))) ?_
  refine a_if_neB (pc := 9) (tgt := 15) dX12_best_9 (by decide) (fun c9 => ?_) (fun c9 => ?_)
  · refine a_iconst (pc := 15) dX12_best_15 ic_m1 ?_
    refine a_istore_n (pc := 16) dX12_best_16 rfl (by decide) rfl ?_
    refine a_iconst (pc := 17) dX12_best_17 ic_0 ?_
    refine a_istore_n (pc := 18) dX12_best_18 rfl (by decide) rfl ?_
    refine a_iconst (pc := 19) dX12_best_19 ic_1 ?_
    refine a_istore (pc := 20) dX12_best_20 (by decide) rfl ?_
    refine a_iconst (pc := 22) dX12_best_22 ic_0 ?_
    refine a_istore (pc := 23) dX12_best_23 (by decide) rfl ?_
    have loop : ∀ j g : Nat, 8 - g = j → g ≤ 8 → ∀ A B : Int32, AJ X M yX12_best cX12_best 6 (some .int) 25 [(0, .ref (m 65)), (1, .int d), (2, .int (bestS s d g).1), (3, .int (nI (bestS s d g).2.1)), (4, .int (nI (bestS s d g).2.2)), (5, .int (nI g))] [] (mh m (si (si s 49 A) 50 B) h0) 0 0 := by
      intro j
      induction j with
      | zero =>
        intro g hjk hkN A B
        refine a_iload (pc := 25) dX12_best_25 rfl ?_
        refine a_bipush (pc := 27) dX12_best_27 ib_8 ?_
        refine a_icmp_geN (pc := 29) (tgt := 91) dX12_best_29 (by decide) (by omega) (by omega) (fun c29 => ?_) (fun c29 => ?_)
        · have h8 : g = 8 := by omega
          subst h8
          refine a_iload_n (pc := 91) dX12_best_91 rfl rfl ?_
          refine a_ret_i (pc := 92) hM rfl (rfl) dX12_best_92 (by omega) (by omega) ?_
          exact ⟨by rw [R_best, if_pos c9], _, rfl, by rw [R_best, if_pos c9]; exact SP.si (by decide) (SP.si (by decide) SP.rfl)⟩
        · exact absurd c29 (by omega)
      | succ j ih =>
        intro g hjk hkN A B
        refine a_iload (pc := 25) dX12_best_25 rfl ?_
        refine a_bipush (pc := 27) dX12_best_27 ib_8 ?_
        refine a_icmp_geN (pc := 29) (tgt := 91) dX12_best_29 (by decide) (by omega) (by omega) (fun c29 => ?_) (fun c29 => ?_)
        · exact absurd c29 (by omega)
        · refine a_aload_n (pc := 32) dX12_best_32 rfl rfl ?_
          refine a_iload (pc := 33) dX12_best_33 rfl ?_
          refine a_iconst (pc := 35) dX12_best_35 ic_0 ?_
          refine a_iload_n (pc := 36) dX12_best_36 rfl rfl ?_
          refine a_callV (pc := 37) km_X12_414 dX12_best_37 (f_ran (s := si (si s 49 A) 50 B) hm (MV_sp (SP.sym (SP.si (by decide) (SP.si (by decide) SP.rfl))) hV) (nI g) (nI 0) d) rfl rfl (krecv_of (ci := 12) rfl (m_obj hm)) (rok_of hM (by decide) (by decide) (by omega) (by omega)) (Nat.le_of_ble_eq_true rfl) (fun r37 h37 hp37 => ?_)
          obtain ⟨rfl, rfl⟩ := hp37
          have hsp : SP (si (si s 49 A) 50 B) s := SP.si (by decide) (SP.si (by decide) SP.rfl)
          refine a_hp (show _ = mh m (si (si s 49 (nI (ranM s (nI g) (nI 0) d (vI s 18)))) 50 (nI (ranH s (nI g) (nI 0) d (vI s 18)))) h0 from congrArg (fun t => mh m t h0) ((si_4 (by decide)).trans (by rw [vI_sp hsp (by decide), ranM_sp hsp, ranH_sp hsp]))) ?_
          have hM16 := ranM_le s (nI g) (nI 0) d (vI s 18)
          have hH := ranH_le s (nI g) (nI 0) d (vI s 18) (fun k hk => (MV_run hV hk).2.2.2)
          obtain ⟨hB1, hB2⟩ := bestS_le hV d g
          have hp1 : ranH s (nI g) (nI 0) d (vI s 18) * (bestS s d g).2.2 ≤ 400 * 16 := Nat.mul_le_mul (by omega) hB2
          have hp2 : (bestS s d g).2.1 * ranM s (nI g) (nI 0) d (vI s 18) ≤ 400 * 16 := Nat.mul_le_mul hB1 (by omega)
          refine a_aload_n (pc := 40) dX12_best_40 rfl rfl ?_
          refine a_getfield (pc := 41) kg_X12_406 dX12_best_41 (m_obj hm) rfl ?_
          refine a_topi ((show _ = nI (ranM s (nI g) (nI 0) d (vI s 18)) from rfl)) ?_
          refine a_if_eqN (pc := 44) (tgt := 85) dX12_best_44 (by decide) (by omega) (fun c44 => ?_) (fun c44 => ?_)
          · have hb : bestS s d g = bestS s d (g + 1) := (if_neg (fun z => absurd z.1 (by omega))).symm
            refine a_iincN (pc := 85) (n := 1) dX12_best_85 (by decide) rfl (by decide) rfl ?_
            refine a_goto (pc := 88) (tgt := 25) dX12_best_88 (by decide) ?_
            exact a_locR (ih (g + 1) (by omega) (by omega) _ _) ⟨rfl, rfl, by first | rfl | exact congrArg (fun z => some (Value.int z.1)) hb, by first | rfl | exact congrArg (fun z => some (Value.int (nI z.2.1))) hb, by first | rfl | exact congrArg (fun z => some (Value.int (nI z.2.2))) hb, rfl, trivial⟩
          · refine a_iload_n (pc := 47) dX12_best_47 rfl rfl ?_
            refine a_iconst (pc := 48) dX12_best_48 ic_m1 ?_
            refine a_icmp_eq (pc := 49) (tgt := 71) dX12_best_49 (by decide) (fun c49 => ?_) (fun c49 => ?_)
            · have hb : (nI g, ranH s (nI g) (nI 0) d (vI s 18), ranM s (nI g) (nI 0) d (vI s 18)) = bestS s d (g + 1) := (if_pos (⟨c44, Or.inl c49⟩)).symm
              refine a_iload (pc := 71) dX12_best_71 rfl ?_
              refine a_istore_n (pc := 73) dX12_best_73 rfl (by decide) rfl ?_
              refine a_aload_n (pc := 74) dX12_best_74 rfl rfl ?_
              refine a_getfield (pc := 75) kg_X12_409 dX12_best_75 (m_obj hm) rfl ?_
              refine a_topi ((show _ = nI (ranH s (nI g) (nI 0) d (vI s 18)) from rfl)) ?_
              refine a_istore_n (pc := 78) dX12_best_78 rfl (by decide) rfl ?_
              refine a_aload_n (pc := 79) dX12_best_79 rfl rfl ?_
              refine a_getfield (pc := 80) kg_X12_406 dX12_best_80 (m_obj hm) rfl ?_
              refine a_topi ((show _ = nI (ranM s (nI g) (nI 0) d (vI s 18)) from rfl)) ?_
              refine a_istore (pc := 83) dX12_best_83 (by decide) rfl ?_
              refine a_iincN (pc := 85) (n := 1) dX12_best_85 (by decide) rfl (by decide) rfl ?_
              refine a_goto (pc := 88) (tgt := 25) dX12_best_88 (by decide) ?_
              exact a_locR (ih (g + 1) (by omega) (by omega) _ _) ⟨rfl, rfl, by first | rfl | exact congrArg (fun z => some (Value.int z.1)) hb, by first | rfl | exact congrArg (fun z => some (Value.int (nI z.2.1))) hb, by first | rfl | exact congrArg (fun z => some (Value.int (nI z.2.2))) hb, rfl, trivial⟩
            · refine a_aload_n (pc := 52) dX12_best_52 rfl rfl ?_
              refine a_getfield (pc := 53) kg_X12_409 dX12_best_53 (m_obj hm) rfl ?_
              refine a_topi ((show _ = nI (ranH s (nI g) (nI 0) d (vI s 18)) from rfl)) ?_
              refine a_iload (pc := 56) dX12_best_56 rfl ?_
              refine a_imulN (pc := 58) dX12_best_58 ?_
              refine a_iload_n (pc := 59) dX12_best_59 rfl rfl ?_
              refine a_aload_n (pc := 60) dX12_best_60 rfl rfl ?_
              refine a_getfield (pc := 61) kg_X12_406 dX12_best_61 (m_obj hm) rfl ?_
              refine a_topi ((show _ = nI (ranM s (nI g) (nI 0) d (vI s 18)) from rfl)) ?_
              refine a_imulN (pc := 64) dX12_best_64 ?_
              refine a_icmp_gtN (pc := 65) (tgt := 71) dX12_best_65 (by decide) (by omega) (by omega) (fun c65 => ?_) (fun c65 => ?_)
              · have hb : (nI g, ranH s (nI g) (nI 0) d (vI s 18), ranM s (nI g) (nI 0) d (vI s 18)) = bestS s d (g + 1) := (if_pos (⟨c44, Or.inr c65⟩)).symm
                refine a_iload (pc := 71) dX12_best_71 rfl ?_
                refine a_istore_n (pc := 73) dX12_best_73 rfl (by decide) rfl ?_
                refine a_aload_n (pc := 74) dX12_best_74 rfl rfl ?_
                refine a_getfield (pc := 75) kg_X12_409 dX12_best_75 (m_obj hm) rfl ?_
                refine a_topi ((show _ = nI (ranH s (nI g) (nI 0) d (vI s 18)) from rfl)) ?_
                refine a_istore_n (pc := 78) dX12_best_78 rfl (by decide) rfl ?_
                refine a_aload_n (pc := 79) dX12_best_79 rfl rfl ?_
                refine a_getfield (pc := 80) kg_X12_406 dX12_best_80 (m_obj hm) rfl ?_
                refine a_topi ((show _ = nI (ranM s (nI g) (nI 0) d (vI s 18)) from rfl)) ?_
                refine a_istore (pc := 83) dX12_best_83 (by decide) rfl ?_
                refine a_iincN (pc := 85) (n := 1) dX12_best_85 (by decide) rfl (by decide) rfl ?_
                refine a_goto (pc := 88) (tgt := 25) dX12_best_88 (by decide) ?_
                exact a_locR (ih (g + 1) (by omega) (by omega) _ _) ⟨rfl, rfl, by first | rfl | exact congrArg (fun z => some (Value.int z.1)) hb, by first | rfl | exact congrArg (fun z => some (Value.int (nI z.2.1))) hb, by first | rfl | exact congrArg (fun z => some (Value.int (nI z.2.2))) hb, rfl, trivial⟩
              · have hb : bestS s d g = bestS s d (g + 1) := (if_neg (fun z => z.2.elim c49 (fun q => absurd q (by omega)))).symm
                refine a_goto (pc := 68) (tgt := 85) dX12_best_68 (by decide) ?_
                refine a_iincN (pc := 85) (n := 1) dX12_best_85 (by decide) rfl (by decide) rfl ?_
                refine a_goto (pc := 88) (tgt := 25) dX12_best_88 (by decide) ?_
                exact a_locR (ih (g + 1) (by omega) (by omega) _ _) ⟨rfl, rfl, by first | rfl | exact congrArg (fun z => some (Value.int z.1)) hb, by first | rfl | exact congrArg (fun z => some (Value.int (nI z.2.1))) hb, by first | rfl | exact congrArg (fun z => some (Value.int (nI z.2.2))) hb, rfl, trivial⟩
    refine a_hp (show _ = mh m (si (si s 49 (s.1 49)) 50 (s.1 50)) h0 by rw [si_id (s := s) (k := 49), si_id]) ?_
    exact a_locR (loop _ 0 rfl (Nat.zero_le _) _ _) ⟨rfl, rfl, rfl, rfl, rfl, rfl, trivial⟩
  · refine a_bipush (pc := 12) dX12_best_12 ib_m2 ?_
    refine a_ret_i (pc := 14) hM rfl (rfl) dX12_best_14 (by omega) (by omega) ?_
    exact ⟨by first | simp only [R_best, c9, Bool.and_self, Bool.and_true, Bool.true_and, Bool.and_false, Bool.false_and, Bool.false_eq_true, Nat.add_sub_cancel, reduceIte], _, rfl, by first | (simp only [R_best, c9, Bool.and_self, Bool.and_true, Bool.true_and, Bool.and_false, Bool.false_and, Bool.false_eq_true, Nat.add_sub_cancel, reduceIte]; exact SP.rfl)⟩

def undB (kd o : Nat) : Bool := match kd with
  | 0 => o == 0
  | 1 => o == 1 || o == 0
  | 2 => o == 2 || o == 0
  | 3 => o == 3 || o == 0
  | 4 => o == 4 || o == 2 || o == 0
  | _ => o == 5 || o == 4 || o == 2 || o == 0
def R_taken (s : MST) (x k : Int32) : Int32 × MST := if inN k 6 = true then (if inN x (vI s 28) = true then ((if undB (vA s 24 x.toNatClampNeg) k.toNatClampNeg = true then s.2.1 25 x.toNatClampNeg else -13), s) else (-11, s)) else (-2, s)
set_option maxRecDepth 4000 in
theorem f_taken (hm : MI m) (hV : MV s) (x kk : Int32) : Fn X 2 0 0 yX12_taken cX12_taken 4 (some .int) [.ref (m 65), .int x, .int kk] (mh m s h0) (fun rv hv => rv = some (.int (R_taken s x kk).1) ∧ ∃ s' : MST, hv = mh m s' h0 ∧ SP s' (R_taken s x kk).2) := by
  obtain ⟨⟨hn28, hb28⟩, hl28⟩ := id hV.2.2.1
  refine fn_of (by decide) (Nat.le_of_ble_eq_true rfl) (fun M hM => ?_)
  refine a_iload_n (pc := 0) dX12_taken_0 rfl rfl ?_
  refine a_i2l (pc := 1) dX12_taken_1 ?_
  refine a_lconst (pc := 2) (v := lN 0) dX12_taken_2 rfl ?_
  refine a_ldc2 (pc := 3) kc_X12_216 dX12_taken_3 ?_
  refine a_topl (z := lN 5) rfl ?_
  refine a_callS (pc := 6) km_X12_142 dX12_taken_6 (f_in _ _ _) rfl rfl (rok_of hM (by decide) (by decide) (by omega) (by omega)) (Nat.le_of_ble_eq_true rfl) (fun r6 h6 hp6 => ?_)
  obtain ⟨rfl, rfl⟩ := hp6
  refine a_topi (congrArg bI (in_rng2 (x := kk) (n := 6) (k := 5) (by omega) (by omega))) ?_
  refine a_if_neB (pc := 9) (tgt := 15) dX12_taken_9 (by decide) (fun c9 => ?_) (fun c9 => ?_)
  · refine a_aload_n (pc := 15) dX12_taken_15 rfl rfl ?_
    refine a_iload_n (pc := 16) dX12_taken_16 rfl rfl ?_
    refine a_callV (pc := 17) km_X12_218 dX12_taken_17 (f_isLeak hm hn28 (by omega) _) rfl rfl (krecv_of (ci := 12) rfl (m_obj hm)) (rok_of hM (by decide) (by decide) (by omega) (by omega)) (Nat.le_of_ble_eq_true rfl) (fun r17 h17 hp17 => ?_)
    obtain ⟨rfl, rfl⟩ := hp17
    refine a_if_neB (pc := 20) (tgt := 26) dX12_taken_20 (by decide) (fun c20 => ?_) (fun c20 => ?_)
    · obtain ⟨k, hk, rfl⟩ := inN_of c20 (by omega)
      have ek : (nI k).toNatClampNeg = k := nI_clamp (by omega)
      obtain ⟨q, hq, rfl⟩ := inN_of c9 (by omega)
      have eo : (nI q).toNatClampNeg = q := nI_clamp (by omega)
      obtain ⟨hk1, hk2⟩ := id (hl28 k hk).1
      obtain ⟨kd, hkv⟩ : ∃ kd, kd = (s.2.1 24 k).toNatClampNeg := ⟨_, rfl⟩
      rw [← hkv] at hk1 hk2
      rcases (by omega : kd = 0 ∨ kd = 1 ∨ kd = 2 ∨ kd = 3 ∨ kd = 4 ∨ kd = 5) with rfl | rfl | rfl | rfl | rfl | rfl <;> rcases (by omega : q = 0 ∨ q = 1 ∨ q = 2 ∨ q = 3 ∨ q = 4 ∨ q = 5) with rfl | rfl | rfl | rfl | rfl | rfl
      · refine a_aload_n (pc := 26) dX12_taken_26 rfl rfl ?_
        refine a_getfield (pc := 27) kg_X12_69 dX12_taken_27 (m_obj hm) rfl ?_
        refine a_iload_n (pc := 30) dX12_taken_30 rfl rfl ?_
        refine a_iaload (pc := 31) dX12_taken_31 (m_a24 hm) (_) (rfl) (by omega) (by omega) ?_
        refine a_topi (hk1) ?_
        refine a_istore_n (pc := 32) dX12_taken_32 rfl (by decide) rfl ?_
        refine a_iload_n (pc := 33) dX12_taken_33 rfl rfl ?_
        refine a_iconst (pc := 34) dX12_taken_34 ic_m1 ?_
        refine a_icmp_eq_f (pc := 35) (tgt := 51) dX12_taken_35 (by decide) (by decide) ?_
        refine a_iload_n (pc := 38) dX12_taken_38 rfl rfl ?_
        refine a_iload_n (pc := 39) dX12_taken_39 rfl rfl ?_
        refine a_icmp_eq_t (pc := 40) (tgt := 51) dX12_taken_40 (by decide) (by decide) ?_
        refine a_iload_n (pc := 51) dX12_taken_51 rfl rfl ?_
        refine a_iload_n (pc := 52) dX12_taken_52 rfl rfl ?_
        refine a_icmp_ne_f (pc := 53) (tgt := 65) dX12_taken_53 (by decide) (by decide) ?_
        refine a_aload_n (pc := 56) dX12_taken_56 rfl rfl ?_
        refine a_getfield (pc := 57) kg_X12_72 dX12_taken_57 (m_obj hm) rfl ?_
        refine a_iload_n (pc := 60) dX12_taken_60 rfl rfl ?_
        refine a_iaload (pc := 61) dX12_taken_61 (m_a25 hm) (_) (rfl) (by omega) (by omega) ?_
        refine a_goto (pc := 62) (tgt := 67) dX12_taken_62 (by decide) ?_
        refine a_ret_i (pc := 67) hM rfl (rfl) dX12_taken_67 (by omega) (by omega) ?_
        exact ⟨by rw [R_taken, if_pos c9, if_pos c20, ek, show vA s 24 k = _ from hkv.symm, eo]; rfl, _, rfl, by rw [R_taken, if_pos c9, if_pos c20]; exact SP.rfl⟩
      · refine a_aload_n (pc := 26) dX12_taken_26 rfl rfl ?_
        refine a_getfield (pc := 27) kg_X12_69 dX12_taken_27 (m_obj hm) rfl ?_
        refine a_iload_n (pc := 30) dX12_taken_30 rfl rfl ?_
        refine a_iaload (pc := 31) dX12_taken_31 (m_a24 hm) (_) (rfl) (by omega) (by omega) ?_
        refine a_topi (hk1) ?_
        refine a_istore_n (pc := 32) dX12_taken_32 rfl (by decide) rfl ?_
        refine a_iload_n (pc := 33) dX12_taken_33 rfl rfl ?_
        refine a_iconst (pc := 34) dX12_taken_34 ic_m1 ?_
        refine a_icmp_eq_f (pc := 35) (tgt := 51) dX12_taken_35 (by decide) (by decide) ?_
        refine a_iload_n (pc := 38) dX12_taken_38 rfl rfl ?_
        refine a_iload_n (pc := 39) dX12_taken_39 rfl rfl ?_
        refine a_icmp_eq_f (pc := 40) (tgt := 51) dX12_taken_40 (by decide) (by decide) ?_
        refine a_iload_n (pc := 43) dX12_taken_43 rfl rfl ?_
        refine a_callS (pc := 44) km_X12_440 dX12_taken_44 (f_over _) rfl rfl (rok_of hM (by decide) (by decide) (by omega) (by omega)) (Nat.le_of_ble_eq_true rfl) (fun r44 h44 hp44 => ?_)
        obtain ⟨rfl, rfl⟩ := hp44
        refine a_topi (by decide : overP (nI 0) = -1) ?_
        refine a_istore_n (pc := 47) dX12_taken_47 rfl (by decide) rfl ?_
        refine a_goto (pc := 48) (tgt := 33) dX12_taken_48 (by decide) ?_
        refine a_iload_n (pc := 33) dX12_taken_33 rfl rfl ?_
        refine a_iconst (pc := 34) dX12_taken_34 ic_m1 ?_
        refine a_icmp_eq_t (pc := 35) (tgt := 51) dX12_taken_35 (by decide) (by decide) ?_
        refine a_iload_n (pc := 51) dX12_taken_51 rfl rfl ?_
        refine a_iload_n (pc := 52) dX12_taken_52 rfl rfl ?_
        refine a_icmp_ne_t (pc := 53) (tgt := 65) dX12_taken_53 (by decide) (by decide) ?_
        refine a_bipush (pc := 65) dX12_taken_65 ib_m13 ?_
        refine a_ret_i (pc := 67) hM rfl (rfl) dX12_taken_67 (by omega) (by omega) ?_
        exact ⟨by rw [R_taken, if_pos c9, if_pos c20, ek, show vA s 24 k = _ from hkv.symm, eo]; rfl, _, rfl, by rw [R_taken, if_pos c9, if_pos c20]; exact SP.rfl⟩
      · refine a_aload_n (pc := 26) dX12_taken_26 rfl rfl ?_
        refine a_getfield (pc := 27) kg_X12_69 dX12_taken_27 (m_obj hm) rfl ?_
        refine a_iload_n (pc := 30) dX12_taken_30 rfl rfl ?_
        refine a_iaload (pc := 31) dX12_taken_31 (m_a24 hm) (_) (rfl) (by omega) (by omega) ?_
        refine a_topi (hk1) ?_
        refine a_istore_n (pc := 32) dX12_taken_32 rfl (by decide) rfl ?_
        refine a_iload_n (pc := 33) dX12_taken_33 rfl rfl ?_
        refine a_iconst (pc := 34) dX12_taken_34 ic_m1 ?_
        refine a_icmp_eq_f (pc := 35) (tgt := 51) dX12_taken_35 (by decide) (by decide) ?_
        refine a_iload_n (pc := 38) dX12_taken_38 rfl rfl ?_
        refine a_iload_n (pc := 39) dX12_taken_39 rfl rfl ?_
        refine a_icmp_eq_f (pc := 40) (tgt := 51) dX12_taken_40 (by decide) (by decide) ?_
        refine a_iload_n (pc := 43) dX12_taken_43 rfl rfl ?_
        refine a_callS (pc := 44) km_X12_440 dX12_taken_44 (f_over _) rfl rfl (rok_of hM (by decide) (by decide) (by omega) (by omega)) (Nat.le_of_ble_eq_true rfl) (fun r44 h44 hp44 => ?_)
        obtain ⟨rfl, rfl⟩ := hp44
        refine a_topi (by decide : overP (nI 0) = -1) ?_
        refine a_istore_n (pc := 47) dX12_taken_47 rfl (by decide) rfl ?_
        refine a_goto (pc := 48) (tgt := 33) dX12_taken_48 (by decide) ?_
        refine a_iload_n (pc := 33) dX12_taken_33 rfl rfl ?_
        refine a_iconst (pc := 34) dX12_taken_34 ic_m1 ?_
        refine a_icmp_eq_t (pc := 35) (tgt := 51) dX12_taken_35 (by decide) (by decide) ?_
        refine a_iload_n (pc := 51) dX12_taken_51 rfl rfl ?_
        refine a_iload_n (pc := 52) dX12_taken_52 rfl rfl ?_
        refine a_icmp_ne_t (pc := 53) (tgt := 65) dX12_taken_53 (by decide) (by decide) ?_
        refine a_bipush (pc := 65) dX12_taken_65 ib_m13 ?_
        refine a_ret_i (pc := 67) hM rfl (rfl) dX12_taken_67 (by omega) (by omega) ?_
        exact ⟨by rw [R_taken, if_pos c9, if_pos c20, ek, show vA s 24 k = _ from hkv.symm, eo]; rfl, _, rfl, by rw [R_taken, if_pos c9, if_pos c20]; exact SP.rfl⟩
      · refine a_aload_n (pc := 26) dX12_taken_26 rfl rfl ?_
        refine a_getfield (pc := 27) kg_X12_69 dX12_taken_27 (m_obj hm) rfl ?_
        refine a_iload_n (pc := 30) dX12_taken_30 rfl rfl ?_
        refine a_iaload (pc := 31) dX12_taken_31 (m_a24 hm) (_) (rfl) (by omega) (by omega) ?_
        refine a_topi (hk1) ?_
        refine a_istore_n (pc := 32) dX12_taken_32 rfl (by decide) rfl ?_
        refine a_iload_n (pc := 33) dX12_taken_33 rfl rfl ?_
        refine a_iconst (pc := 34) dX12_taken_34 ic_m1 ?_
        refine a_icmp_eq_f (pc := 35) (tgt := 51) dX12_taken_35 (by decide) (by decide) ?_
        refine a_iload_n (pc := 38) dX12_taken_38 rfl rfl ?_
        refine a_iload_n (pc := 39) dX12_taken_39 rfl rfl ?_
        refine a_icmp_eq_f (pc := 40) (tgt := 51) dX12_taken_40 (by decide) (by decide) ?_
        refine a_iload_n (pc := 43) dX12_taken_43 rfl rfl ?_
        refine a_callS (pc := 44) km_X12_440 dX12_taken_44 (f_over _) rfl rfl (rok_of hM (by decide) (by decide) (by omega) (by omega)) (Nat.le_of_ble_eq_true rfl) (fun r44 h44 hp44 => ?_)
        obtain ⟨rfl, rfl⟩ := hp44
        refine a_topi (by decide : overP (nI 0) = -1) ?_
        refine a_istore_n (pc := 47) dX12_taken_47 rfl (by decide) rfl ?_
        refine a_goto (pc := 48) (tgt := 33) dX12_taken_48 (by decide) ?_
        refine a_iload_n (pc := 33) dX12_taken_33 rfl rfl ?_
        refine a_iconst (pc := 34) dX12_taken_34 ic_m1 ?_
        refine a_icmp_eq_t (pc := 35) (tgt := 51) dX12_taken_35 (by decide) (by decide) ?_
        refine a_iload_n (pc := 51) dX12_taken_51 rfl rfl ?_
        refine a_iload_n (pc := 52) dX12_taken_52 rfl rfl ?_
        refine a_icmp_ne_t (pc := 53) (tgt := 65) dX12_taken_53 (by decide) (by decide) ?_
        refine a_bipush (pc := 65) dX12_taken_65 ib_m13 ?_
        refine a_ret_i (pc := 67) hM rfl (rfl) dX12_taken_67 (by omega) (by omega) ?_
        exact ⟨by rw [R_taken, if_pos c9, if_pos c20, ek, show vA s 24 k = _ from hkv.symm, eo]; rfl, _, rfl, by rw [R_taken, if_pos c9, if_pos c20]; exact SP.rfl⟩
      · refine a_aload_n (pc := 26) dX12_taken_26 rfl rfl ?_
        refine a_getfield (pc := 27) kg_X12_69 dX12_taken_27 (m_obj hm) rfl ?_
        refine a_iload_n (pc := 30) dX12_taken_30 rfl rfl ?_
        refine a_iaload (pc := 31) dX12_taken_31 (m_a24 hm) (_) (rfl) (by omega) (by omega) ?_
        refine a_topi (hk1) ?_
        refine a_istore_n (pc := 32) dX12_taken_32 rfl (by decide) rfl ?_
        refine a_iload_n (pc := 33) dX12_taken_33 rfl rfl ?_
        refine a_iconst (pc := 34) dX12_taken_34 ic_m1 ?_
        refine a_icmp_eq_f (pc := 35) (tgt := 51) dX12_taken_35 (by decide) (by decide) ?_
        refine a_iload_n (pc := 38) dX12_taken_38 rfl rfl ?_
        refine a_iload_n (pc := 39) dX12_taken_39 rfl rfl ?_
        refine a_icmp_eq_f (pc := 40) (tgt := 51) dX12_taken_40 (by decide) (by decide) ?_
        refine a_iload_n (pc := 43) dX12_taken_43 rfl rfl ?_
        refine a_callS (pc := 44) km_X12_440 dX12_taken_44 (f_over _) rfl rfl (rok_of hM (by decide) (by decide) (by omega) (by omega)) (Nat.le_of_ble_eq_true rfl) (fun r44 h44 hp44 => ?_)
        obtain ⟨rfl, rfl⟩ := hp44
        refine a_topi (by decide : overP (nI 0) = -1) ?_
        refine a_istore_n (pc := 47) dX12_taken_47 rfl (by decide) rfl ?_
        refine a_goto (pc := 48) (tgt := 33) dX12_taken_48 (by decide) ?_
        refine a_iload_n (pc := 33) dX12_taken_33 rfl rfl ?_
        refine a_iconst (pc := 34) dX12_taken_34 ic_m1 ?_
        refine a_icmp_eq_t (pc := 35) (tgt := 51) dX12_taken_35 (by decide) (by decide) ?_
        refine a_iload_n (pc := 51) dX12_taken_51 rfl rfl ?_
        refine a_iload_n (pc := 52) dX12_taken_52 rfl rfl ?_
        refine a_icmp_ne_t (pc := 53) (tgt := 65) dX12_taken_53 (by decide) (by decide) ?_
        refine a_bipush (pc := 65) dX12_taken_65 ib_m13 ?_
        refine a_ret_i (pc := 67) hM rfl (rfl) dX12_taken_67 (by omega) (by omega) ?_
        exact ⟨by rw [R_taken, if_pos c9, if_pos c20, ek, show vA s 24 k = _ from hkv.symm, eo]; rfl, _, rfl, by rw [R_taken, if_pos c9, if_pos c20]; exact SP.rfl⟩
      · refine a_aload_n (pc := 26) dX12_taken_26 rfl rfl ?_
        refine a_getfield (pc := 27) kg_X12_69 dX12_taken_27 (m_obj hm) rfl ?_
        refine a_iload_n (pc := 30) dX12_taken_30 rfl rfl ?_
        refine a_iaload (pc := 31) dX12_taken_31 (m_a24 hm) (_) (rfl) (by omega) (by omega) ?_
        refine a_topi (hk1) ?_
        refine a_istore_n (pc := 32) dX12_taken_32 rfl (by decide) rfl ?_
        refine a_iload_n (pc := 33) dX12_taken_33 rfl rfl ?_
        refine a_iconst (pc := 34) dX12_taken_34 ic_m1 ?_
        refine a_icmp_eq_f (pc := 35) (tgt := 51) dX12_taken_35 (by decide) (by decide) ?_
        refine a_iload_n (pc := 38) dX12_taken_38 rfl rfl ?_
        refine a_iload_n (pc := 39) dX12_taken_39 rfl rfl ?_
        refine a_icmp_eq_f (pc := 40) (tgt := 51) dX12_taken_40 (by decide) (by decide) ?_
        refine a_iload_n (pc := 43) dX12_taken_43 rfl rfl ?_
        refine a_callS (pc := 44) km_X12_440 dX12_taken_44 (f_over _) rfl rfl (rok_of hM (by decide) (by decide) (by omega) (by omega)) (Nat.le_of_ble_eq_true rfl) (fun r44 h44 hp44 => ?_)
        obtain ⟨rfl, rfl⟩ := hp44
        refine a_topi (by decide : overP (nI 0) = -1) ?_
        refine a_istore_n (pc := 47) dX12_taken_47 rfl (by decide) rfl ?_
        refine a_goto (pc := 48) (tgt := 33) dX12_taken_48 (by decide) ?_
        refine a_iload_n (pc := 33) dX12_taken_33 rfl rfl ?_
        refine a_iconst (pc := 34) dX12_taken_34 ic_m1 ?_
        refine a_icmp_eq_t (pc := 35) (tgt := 51) dX12_taken_35 (by decide) (by decide) ?_
        refine a_iload_n (pc := 51) dX12_taken_51 rfl rfl ?_
        refine a_iload_n (pc := 52) dX12_taken_52 rfl rfl ?_
        refine a_icmp_ne_t (pc := 53) (tgt := 65) dX12_taken_53 (by decide) (by decide) ?_
        refine a_bipush (pc := 65) dX12_taken_65 ib_m13 ?_
        refine a_ret_i (pc := 67) hM rfl (rfl) dX12_taken_67 (by omega) (by omega) ?_
        exact ⟨by rw [R_taken, if_pos c9, if_pos c20, ek, show vA s 24 k = _ from hkv.symm, eo]; rfl, _, rfl, by rw [R_taken, if_pos c9, if_pos c20]; exact SP.rfl⟩
      · refine a_aload_n (pc := 26) dX12_taken_26 rfl rfl ?_
        refine a_getfield (pc := 27) kg_X12_69 dX12_taken_27 (m_obj hm) rfl ?_
        refine a_iload_n (pc := 30) dX12_taken_30 rfl rfl ?_
        refine a_iaload (pc := 31) dX12_taken_31 (m_a24 hm) (_) (rfl) (by omega) (by omega) ?_
        refine a_topi (hk1) ?_
        refine a_istore_n (pc := 32) dX12_taken_32 rfl (by decide) rfl ?_
        refine a_iload_n (pc := 33) dX12_taken_33 rfl rfl ?_
        refine a_iconst (pc := 34) dX12_taken_34 ic_m1 ?_
        refine a_icmp_eq_f (pc := 35) (tgt := 51) dX12_taken_35 (by decide) (by decide) ?_
        refine a_iload_n (pc := 38) dX12_taken_38 rfl rfl ?_
        refine a_iload_n (pc := 39) dX12_taken_39 rfl rfl ?_
        refine a_icmp_eq_f (pc := 40) (tgt := 51) dX12_taken_40 (by decide) (by decide) ?_
        refine a_iload_n (pc := 43) dX12_taken_43 rfl rfl ?_
        refine a_callS (pc := 44) km_X12_440 dX12_taken_44 (f_over _) rfl rfl (rok_of hM (by decide) (by decide) (by omega) (by omega)) (Nat.le_of_ble_eq_true rfl) (fun r44 h44 hp44 => ?_)
        obtain ⟨rfl, rfl⟩ := hp44
        refine a_topi (by decide : overP (nI 1) = nI 0) ?_
        refine a_istore_n (pc := 47) dX12_taken_47 rfl (by decide) rfl ?_
        refine a_goto (pc := 48) (tgt := 33) dX12_taken_48 (by decide) ?_
        refine a_iload_n (pc := 33) dX12_taken_33 rfl rfl ?_
        refine a_iconst (pc := 34) dX12_taken_34 ic_m1 ?_
        refine a_icmp_eq_f (pc := 35) (tgt := 51) dX12_taken_35 (by decide) (by decide) ?_
        refine a_iload_n (pc := 38) dX12_taken_38 rfl rfl ?_
        refine a_iload_n (pc := 39) dX12_taken_39 rfl rfl ?_
        refine a_icmp_eq_t (pc := 40) (tgt := 51) dX12_taken_40 (by decide) (by decide) ?_
        refine a_iload_n (pc := 51) dX12_taken_51 rfl rfl ?_
        refine a_iload_n (pc := 52) dX12_taken_52 rfl rfl ?_
        refine a_icmp_ne_f (pc := 53) (tgt := 65) dX12_taken_53 (by decide) (by decide) ?_
        refine a_aload_n (pc := 56) dX12_taken_56 rfl rfl ?_
        refine a_getfield (pc := 57) kg_X12_72 dX12_taken_57 (m_obj hm) rfl ?_
        refine a_iload_n (pc := 60) dX12_taken_60 rfl rfl ?_
        refine a_iaload (pc := 61) dX12_taken_61 (m_a25 hm) (_) (rfl) (by omega) (by omega) ?_
        refine a_goto (pc := 62) (tgt := 67) dX12_taken_62 (by decide) ?_
        refine a_ret_i (pc := 67) hM rfl (rfl) dX12_taken_67 (by omega) (by omega) ?_
        exact ⟨by rw [R_taken, if_pos c9, if_pos c20, ek, show vA s 24 k = _ from hkv.symm, eo]; rfl, _, rfl, by rw [R_taken, if_pos c9, if_pos c20]; exact SP.rfl⟩
      · refine a_aload_n (pc := 26) dX12_taken_26 rfl rfl ?_
        refine a_getfield (pc := 27) kg_X12_69 dX12_taken_27 (m_obj hm) rfl ?_
        refine a_iload_n (pc := 30) dX12_taken_30 rfl rfl ?_
        refine a_iaload (pc := 31) dX12_taken_31 (m_a24 hm) (_) (rfl) (by omega) (by omega) ?_
        refine a_topi (hk1) ?_
        refine a_istore_n (pc := 32) dX12_taken_32 rfl (by decide) rfl ?_
        refine a_iload_n (pc := 33) dX12_taken_33 rfl rfl ?_
        refine a_iconst (pc := 34) dX12_taken_34 ic_m1 ?_
        refine a_icmp_eq_f (pc := 35) (tgt := 51) dX12_taken_35 (by decide) (by decide) ?_
        refine a_iload_n (pc := 38) dX12_taken_38 rfl rfl ?_
        refine a_iload_n (pc := 39) dX12_taken_39 rfl rfl ?_
        refine a_icmp_eq_t (pc := 40) (tgt := 51) dX12_taken_40 (by decide) (by decide) ?_
        refine a_iload_n (pc := 51) dX12_taken_51 rfl rfl ?_
        refine a_iload_n (pc := 52) dX12_taken_52 rfl rfl ?_
        refine a_icmp_ne_f (pc := 53) (tgt := 65) dX12_taken_53 (by decide) (by decide) ?_
        refine a_aload_n (pc := 56) dX12_taken_56 rfl rfl ?_
        refine a_getfield (pc := 57) kg_X12_72 dX12_taken_57 (m_obj hm) rfl ?_
        refine a_iload_n (pc := 60) dX12_taken_60 rfl rfl ?_
        refine a_iaload (pc := 61) dX12_taken_61 (m_a25 hm) (_) (rfl) (by omega) (by omega) ?_
        refine a_goto (pc := 62) (tgt := 67) dX12_taken_62 (by decide) ?_
        refine a_ret_i (pc := 67) hM rfl (rfl) dX12_taken_67 (by omega) (by omega) ?_
        exact ⟨by rw [R_taken, if_pos c9, if_pos c20, ek, show vA s 24 k = _ from hkv.symm, eo]; rfl, _, rfl, by rw [R_taken, if_pos c9, if_pos c20]; exact SP.rfl⟩
      · refine a_aload_n (pc := 26) dX12_taken_26 rfl rfl ?_
        refine a_getfield (pc := 27) kg_X12_69 dX12_taken_27 (m_obj hm) rfl ?_
        refine a_iload_n (pc := 30) dX12_taken_30 rfl rfl ?_
        refine a_iaload (pc := 31) dX12_taken_31 (m_a24 hm) (_) (rfl) (by omega) (by omega) ?_
        refine a_topi (hk1) ?_
        refine a_istore_n (pc := 32) dX12_taken_32 rfl (by decide) rfl ?_
        refine a_iload_n (pc := 33) dX12_taken_33 rfl rfl ?_
        refine a_iconst (pc := 34) dX12_taken_34 ic_m1 ?_
        refine a_icmp_eq_f (pc := 35) (tgt := 51) dX12_taken_35 (by decide) (by decide) ?_
        refine a_iload_n (pc := 38) dX12_taken_38 rfl rfl ?_
        refine a_iload_n (pc := 39) dX12_taken_39 rfl rfl ?_
        refine a_icmp_eq_f (pc := 40) (tgt := 51) dX12_taken_40 (by decide) (by decide) ?_
        refine a_iload_n (pc := 43) dX12_taken_43 rfl rfl ?_
        refine a_callS (pc := 44) km_X12_440 dX12_taken_44 (f_over _) rfl rfl (rok_of hM (by decide) (by decide) (by omega) (by omega)) (Nat.le_of_ble_eq_true rfl) (fun r44 h44 hp44 => ?_)
        obtain ⟨rfl, rfl⟩ := hp44
        refine a_topi (by decide : overP (nI 1) = nI 0) ?_
        refine a_istore_n (pc := 47) dX12_taken_47 rfl (by decide) rfl ?_
        refine a_goto (pc := 48) (tgt := 33) dX12_taken_48 (by decide) ?_
        refine a_iload_n (pc := 33) dX12_taken_33 rfl rfl ?_
        refine a_iconst (pc := 34) dX12_taken_34 ic_m1 ?_
        refine a_icmp_eq_f (pc := 35) (tgt := 51) dX12_taken_35 (by decide) (by decide) ?_
        refine a_iload_n (pc := 38) dX12_taken_38 rfl rfl ?_
        refine a_iload_n (pc := 39) dX12_taken_39 rfl rfl ?_
        refine a_icmp_eq_f (pc := 40) (tgt := 51) dX12_taken_40 (by decide) (by decide) ?_
        refine a_iload_n (pc := 43) dX12_taken_43 rfl rfl ?_
        refine a_callS (pc := 44) km_X12_440 dX12_taken_44 (f_over _) rfl rfl (rok_of hM (by decide) (by decide) (by omega) (by omega)) (Nat.le_of_ble_eq_true rfl) (fun r44 h44 hp44 => ?_)
        obtain ⟨rfl, rfl⟩ := hp44
        refine a_topi (by decide : overP (nI 0) = -1) ?_
        refine a_istore_n (pc := 47) dX12_taken_47 rfl (by decide) rfl ?_
        refine a_goto (pc := 48) (tgt := 33) dX12_taken_48 (by decide) ?_
        refine a_iload_n (pc := 33) dX12_taken_33 rfl rfl ?_
        refine a_iconst (pc := 34) dX12_taken_34 ic_m1 ?_
        refine a_icmp_eq_t (pc := 35) (tgt := 51) dX12_taken_35 (by decide) (by decide) ?_
        refine a_iload_n (pc := 51) dX12_taken_51 rfl rfl ?_
        refine a_iload_n (pc := 52) dX12_taken_52 rfl rfl ?_
        refine a_icmp_ne_t (pc := 53) (tgt := 65) dX12_taken_53 (by decide) (by decide) ?_
        refine a_bipush (pc := 65) dX12_taken_65 ib_m13 ?_
        refine a_ret_i (pc := 67) hM rfl (rfl) dX12_taken_67 (by omega) (by omega) ?_
        exact ⟨by rw [R_taken, if_pos c9, if_pos c20, ek, show vA s 24 k = _ from hkv.symm, eo]; rfl, _, rfl, by rw [R_taken, if_pos c9, if_pos c20]; exact SP.rfl⟩
      · refine a_aload_n (pc := 26) dX12_taken_26 rfl rfl ?_
        refine a_getfield (pc := 27) kg_X12_69 dX12_taken_27 (m_obj hm) rfl ?_
        refine a_iload_n (pc := 30) dX12_taken_30 rfl rfl ?_
        refine a_iaload (pc := 31) dX12_taken_31 (m_a24 hm) (_) (rfl) (by omega) (by omega) ?_
        refine a_topi (hk1) ?_
        refine a_istore_n (pc := 32) dX12_taken_32 rfl (by decide) rfl ?_
        refine a_iload_n (pc := 33) dX12_taken_33 rfl rfl ?_
        refine a_iconst (pc := 34) dX12_taken_34 ic_m1 ?_
        refine a_icmp_eq_f (pc := 35) (tgt := 51) dX12_taken_35 (by decide) (by decide) ?_
        refine a_iload_n (pc := 38) dX12_taken_38 rfl rfl ?_
        refine a_iload_n (pc := 39) dX12_taken_39 rfl rfl ?_
        refine a_icmp_eq_f (pc := 40) (tgt := 51) dX12_taken_40 (by decide) (by decide) ?_
        refine a_iload_n (pc := 43) dX12_taken_43 rfl rfl ?_
        refine a_callS (pc := 44) km_X12_440 dX12_taken_44 (f_over _) rfl rfl (rok_of hM (by decide) (by decide) (by omega) (by omega)) (Nat.le_of_ble_eq_true rfl) (fun r44 h44 hp44 => ?_)
        obtain ⟨rfl, rfl⟩ := hp44
        refine a_topi (by decide : overP (nI 1) = nI 0) ?_
        refine a_istore_n (pc := 47) dX12_taken_47 rfl (by decide) rfl ?_
        refine a_goto (pc := 48) (tgt := 33) dX12_taken_48 (by decide) ?_
        refine a_iload_n (pc := 33) dX12_taken_33 rfl rfl ?_
        refine a_iconst (pc := 34) dX12_taken_34 ic_m1 ?_
        refine a_icmp_eq_f (pc := 35) (tgt := 51) dX12_taken_35 (by decide) (by decide) ?_
        refine a_iload_n (pc := 38) dX12_taken_38 rfl rfl ?_
        refine a_iload_n (pc := 39) dX12_taken_39 rfl rfl ?_
        refine a_icmp_eq_f (pc := 40) (tgt := 51) dX12_taken_40 (by decide) (by decide) ?_
        refine a_iload_n (pc := 43) dX12_taken_43 rfl rfl ?_
        refine a_callS (pc := 44) km_X12_440 dX12_taken_44 (f_over _) rfl rfl (rok_of hM (by decide) (by decide) (by omega) (by omega)) (Nat.le_of_ble_eq_true rfl) (fun r44 h44 hp44 => ?_)
        obtain ⟨rfl, rfl⟩ := hp44
        refine a_topi (by decide : overP (nI 0) = -1) ?_
        refine a_istore_n (pc := 47) dX12_taken_47 rfl (by decide) rfl ?_
        refine a_goto (pc := 48) (tgt := 33) dX12_taken_48 (by decide) ?_
        refine a_iload_n (pc := 33) dX12_taken_33 rfl rfl ?_
        refine a_iconst (pc := 34) dX12_taken_34 ic_m1 ?_
        refine a_icmp_eq_t (pc := 35) (tgt := 51) dX12_taken_35 (by decide) (by decide) ?_
        refine a_iload_n (pc := 51) dX12_taken_51 rfl rfl ?_
        refine a_iload_n (pc := 52) dX12_taken_52 rfl rfl ?_
        refine a_icmp_ne_t (pc := 53) (tgt := 65) dX12_taken_53 (by decide) (by decide) ?_
        refine a_bipush (pc := 65) dX12_taken_65 ib_m13 ?_
        refine a_ret_i (pc := 67) hM rfl (rfl) dX12_taken_67 (by omega) (by omega) ?_
        exact ⟨by rw [R_taken, if_pos c9, if_pos c20, ek, show vA s 24 k = _ from hkv.symm, eo]; rfl, _, rfl, by rw [R_taken, if_pos c9, if_pos c20]; exact SP.rfl⟩
      · refine a_aload_n (pc := 26) dX12_taken_26 rfl rfl ?_
        refine a_getfield (pc := 27) kg_X12_69 dX12_taken_27 (m_obj hm) rfl ?_
        refine a_iload_n (pc := 30) dX12_taken_30 rfl rfl ?_
        refine a_iaload (pc := 31) dX12_taken_31 (m_a24 hm) (_) (rfl) (by omega) (by omega) ?_
        refine a_topi (hk1) ?_
        refine a_istore_n (pc := 32) dX12_taken_32 rfl (by decide) rfl ?_
        refine a_iload_n (pc := 33) dX12_taken_33 rfl rfl ?_
        refine a_iconst (pc := 34) dX12_taken_34 ic_m1 ?_
        refine a_icmp_eq_f (pc := 35) (tgt := 51) dX12_taken_35 (by decide) (by decide) ?_
        refine a_iload_n (pc := 38) dX12_taken_38 rfl rfl ?_
        refine a_iload_n (pc := 39) dX12_taken_39 rfl rfl ?_
        refine a_icmp_eq_f (pc := 40) (tgt := 51) dX12_taken_40 (by decide) (by decide) ?_
        refine a_iload_n (pc := 43) dX12_taken_43 rfl rfl ?_
        refine a_callS (pc := 44) km_X12_440 dX12_taken_44 (f_over _) rfl rfl (rok_of hM (by decide) (by decide) (by omega) (by omega)) (Nat.le_of_ble_eq_true rfl) (fun r44 h44 hp44 => ?_)
        obtain ⟨rfl, rfl⟩ := hp44
        refine a_topi (by decide : overP (nI 1) = nI 0) ?_
        refine a_istore_n (pc := 47) dX12_taken_47 rfl (by decide) rfl ?_
        refine a_goto (pc := 48) (tgt := 33) dX12_taken_48 (by decide) ?_
        refine a_iload_n (pc := 33) dX12_taken_33 rfl rfl ?_
        refine a_iconst (pc := 34) dX12_taken_34 ic_m1 ?_
        refine a_icmp_eq_f (pc := 35) (tgt := 51) dX12_taken_35 (by decide) (by decide) ?_
        refine a_iload_n (pc := 38) dX12_taken_38 rfl rfl ?_
        refine a_iload_n (pc := 39) dX12_taken_39 rfl rfl ?_
        refine a_icmp_eq_f (pc := 40) (tgt := 51) dX12_taken_40 (by decide) (by decide) ?_
        refine a_iload_n (pc := 43) dX12_taken_43 rfl rfl ?_
        refine a_callS (pc := 44) km_X12_440 dX12_taken_44 (f_over _) rfl rfl (rok_of hM (by decide) (by decide) (by omega) (by omega)) (Nat.le_of_ble_eq_true rfl) (fun r44 h44 hp44 => ?_)
        obtain ⟨rfl, rfl⟩ := hp44
        refine a_topi (by decide : overP (nI 0) = -1) ?_
        refine a_istore_n (pc := 47) dX12_taken_47 rfl (by decide) rfl ?_
        refine a_goto (pc := 48) (tgt := 33) dX12_taken_48 (by decide) ?_
        refine a_iload_n (pc := 33) dX12_taken_33 rfl rfl ?_
        refine a_iconst (pc := 34) dX12_taken_34 ic_m1 ?_
        refine a_icmp_eq_t (pc := 35) (tgt := 51) dX12_taken_35 (by decide) (by decide) ?_
        refine a_iload_n (pc := 51) dX12_taken_51 rfl rfl ?_
        refine a_iload_n (pc := 52) dX12_taken_52 rfl rfl ?_
        refine a_icmp_ne_t (pc := 53) (tgt := 65) dX12_taken_53 (by decide) (by decide) ?_
        refine a_bipush (pc := 65) dX12_taken_65 ib_m13 ?_
        refine a_ret_i (pc := 67) hM rfl (rfl) dX12_taken_67 (by omega) (by omega) ?_
        exact ⟨by rw [R_taken, if_pos c9, if_pos c20, ek, show vA s 24 k = _ from hkv.symm, eo]; rfl, _, rfl, by rw [R_taken, if_pos c9, if_pos c20]; exact SP.rfl⟩
      · refine a_aload_n (pc := 26) dX12_taken_26 rfl rfl ?_
        refine a_getfield (pc := 27) kg_X12_69 dX12_taken_27 (m_obj hm) rfl ?_
        refine a_iload_n (pc := 30) dX12_taken_30 rfl rfl ?_
        refine a_iaload (pc := 31) dX12_taken_31 (m_a24 hm) (_) (rfl) (by omega) (by omega) ?_
        refine a_topi (hk1) ?_
        refine a_istore_n (pc := 32) dX12_taken_32 rfl (by decide) rfl ?_
        refine a_iload_n (pc := 33) dX12_taken_33 rfl rfl ?_
        refine a_iconst (pc := 34) dX12_taken_34 ic_m1 ?_
        refine a_icmp_eq_f (pc := 35) (tgt := 51) dX12_taken_35 (by decide) (by decide) ?_
        refine a_iload_n (pc := 38) dX12_taken_38 rfl rfl ?_
        refine a_iload_n (pc := 39) dX12_taken_39 rfl rfl ?_
        refine a_icmp_eq_f (pc := 40) (tgt := 51) dX12_taken_40 (by decide) (by decide) ?_
        refine a_iload_n (pc := 43) dX12_taken_43 rfl rfl ?_
        refine a_callS (pc := 44) km_X12_440 dX12_taken_44 (f_over _) rfl rfl (rok_of hM (by decide) (by decide) (by omega) (by omega)) (Nat.le_of_ble_eq_true rfl) (fun r44 h44 hp44 => ?_)
        obtain ⟨rfl, rfl⟩ := hp44
        refine a_topi (by decide : overP (nI 1) = nI 0) ?_
        refine a_istore_n (pc := 47) dX12_taken_47 rfl (by decide) rfl ?_
        refine a_goto (pc := 48) (tgt := 33) dX12_taken_48 (by decide) ?_
        refine a_iload_n (pc := 33) dX12_taken_33 rfl rfl ?_
        refine a_iconst (pc := 34) dX12_taken_34 ic_m1 ?_
        refine a_icmp_eq_f (pc := 35) (tgt := 51) dX12_taken_35 (by decide) (by decide) ?_
        refine a_iload_n (pc := 38) dX12_taken_38 rfl rfl ?_
        refine a_iload_n (pc := 39) dX12_taken_39 rfl rfl ?_
        refine a_icmp_eq_f (pc := 40) (tgt := 51) dX12_taken_40 (by decide) (by decide) ?_
        refine a_iload_n (pc := 43) dX12_taken_43 rfl rfl ?_
        refine a_callS (pc := 44) km_X12_440 dX12_taken_44 (f_over _) rfl rfl (rok_of hM (by decide) (by decide) (by omega) (by omega)) (Nat.le_of_ble_eq_true rfl) (fun r44 h44 hp44 => ?_)
        obtain ⟨rfl, rfl⟩ := hp44
        refine a_topi (by decide : overP (nI 0) = -1) ?_
        refine a_istore_n (pc := 47) dX12_taken_47 rfl (by decide) rfl ?_
        refine a_goto (pc := 48) (tgt := 33) dX12_taken_48 (by decide) ?_
        refine a_iload_n (pc := 33) dX12_taken_33 rfl rfl ?_
        refine a_iconst (pc := 34) dX12_taken_34 ic_m1 ?_
        refine a_icmp_eq_t (pc := 35) (tgt := 51) dX12_taken_35 (by decide) (by decide) ?_
        refine a_iload_n (pc := 51) dX12_taken_51 rfl rfl ?_
        refine a_iload_n (pc := 52) dX12_taken_52 rfl rfl ?_
        refine a_icmp_ne_t (pc := 53) (tgt := 65) dX12_taken_53 (by decide) (by decide) ?_
        refine a_bipush (pc := 65) dX12_taken_65 ib_m13 ?_
        refine a_ret_i (pc := 67) hM rfl (rfl) dX12_taken_67 (by omega) (by omega) ?_
        exact ⟨by rw [R_taken, if_pos c9, if_pos c20, ek, show vA s 24 k = _ from hkv.symm, eo]; rfl, _, rfl, by rw [R_taken, if_pos c9, if_pos c20]; exact SP.rfl⟩
      · refine a_aload_n (pc := 26) dX12_taken_26 rfl rfl ?_
        refine a_getfield (pc := 27) kg_X12_69 dX12_taken_27 (m_obj hm) rfl ?_
        refine a_iload_n (pc := 30) dX12_taken_30 rfl rfl ?_
        refine a_iaload (pc := 31) dX12_taken_31 (m_a24 hm) (_) (rfl) (by omega) (by omega) ?_
        refine a_topi (hk1) ?_
        refine a_istore_n (pc := 32) dX12_taken_32 rfl (by decide) rfl ?_
        refine a_iload_n (pc := 33) dX12_taken_33 rfl rfl ?_
        refine a_iconst (pc := 34) dX12_taken_34 ic_m1 ?_
        refine a_icmp_eq_f (pc := 35) (tgt := 51) dX12_taken_35 (by decide) (by decide) ?_
        refine a_iload_n (pc := 38) dX12_taken_38 rfl rfl ?_
        refine a_iload_n (pc := 39) dX12_taken_39 rfl rfl ?_
        refine a_icmp_eq_f (pc := 40) (tgt := 51) dX12_taken_40 (by decide) (by decide) ?_
        refine a_iload_n (pc := 43) dX12_taken_43 rfl rfl ?_
        refine a_callS (pc := 44) km_X12_440 dX12_taken_44 (f_over _) rfl rfl (rok_of hM (by decide) (by decide) (by omega) (by omega)) (Nat.le_of_ble_eq_true rfl) (fun r44 h44 hp44 => ?_)
        obtain ⟨rfl, rfl⟩ := hp44
        refine a_topi (by decide : overP (nI 2) = nI 0) ?_
        refine a_istore_n (pc := 47) dX12_taken_47 rfl (by decide) rfl ?_
        refine a_goto (pc := 48) (tgt := 33) dX12_taken_48 (by decide) ?_
        refine a_iload_n (pc := 33) dX12_taken_33 rfl rfl ?_
        refine a_iconst (pc := 34) dX12_taken_34 ic_m1 ?_
        refine a_icmp_eq_f (pc := 35) (tgt := 51) dX12_taken_35 (by decide) (by decide) ?_
        refine a_iload_n (pc := 38) dX12_taken_38 rfl rfl ?_
        refine a_iload_n (pc := 39) dX12_taken_39 rfl rfl ?_
        refine a_icmp_eq_t (pc := 40) (tgt := 51) dX12_taken_40 (by decide) (by decide) ?_
        refine a_iload_n (pc := 51) dX12_taken_51 rfl rfl ?_
        refine a_iload_n (pc := 52) dX12_taken_52 rfl rfl ?_
        refine a_icmp_ne_f (pc := 53) (tgt := 65) dX12_taken_53 (by decide) (by decide) ?_
        refine a_aload_n (pc := 56) dX12_taken_56 rfl rfl ?_
        refine a_getfield (pc := 57) kg_X12_72 dX12_taken_57 (m_obj hm) rfl ?_
        refine a_iload_n (pc := 60) dX12_taken_60 rfl rfl ?_
        refine a_iaload (pc := 61) dX12_taken_61 (m_a25 hm) (_) (rfl) (by omega) (by omega) ?_
        refine a_goto (pc := 62) (tgt := 67) dX12_taken_62 (by decide) ?_
        refine a_ret_i (pc := 67) hM rfl (rfl) dX12_taken_67 (by omega) (by omega) ?_
        exact ⟨by rw [R_taken, if_pos c9, if_pos c20, ek, show vA s 24 k = _ from hkv.symm, eo]; rfl, _, rfl, by rw [R_taken, if_pos c9, if_pos c20]; exact SP.rfl⟩
      · refine a_aload_n (pc := 26) dX12_taken_26 rfl rfl ?_
        refine a_getfield (pc := 27) kg_X12_69 dX12_taken_27 (m_obj hm) rfl ?_
        refine a_iload_n (pc := 30) dX12_taken_30 rfl rfl ?_
        refine a_iaload (pc := 31) dX12_taken_31 (m_a24 hm) (_) (rfl) (by omega) (by omega) ?_
        refine a_topi (hk1) ?_
        refine a_istore_n (pc := 32) dX12_taken_32 rfl (by decide) rfl ?_
        refine a_iload_n (pc := 33) dX12_taken_33 rfl rfl ?_
        refine a_iconst (pc := 34) dX12_taken_34 ic_m1 ?_
        refine a_icmp_eq_f (pc := 35) (tgt := 51) dX12_taken_35 (by decide) (by decide) ?_
        refine a_iload_n (pc := 38) dX12_taken_38 rfl rfl ?_
        refine a_iload_n (pc := 39) dX12_taken_39 rfl rfl ?_
        refine a_icmp_eq_f (pc := 40) (tgt := 51) dX12_taken_40 (by decide) (by decide) ?_
        refine a_iload_n (pc := 43) dX12_taken_43 rfl rfl ?_
        refine a_callS (pc := 44) km_X12_440 dX12_taken_44 (f_over _) rfl rfl (rok_of hM (by decide) (by decide) (by omega) (by omega)) (Nat.le_of_ble_eq_true rfl) (fun r44 h44 hp44 => ?_)
        obtain ⟨rfl, rfl⟩ := hp44
        refine a_topi (by decide : overP (nI 2) = nI 0) ?_
        refine a_istore_n (pc := 47) dX12_taken_47 rfl (by decide) rfl ?_
        refine a_goto (pc := 48) (tgt := 33) dX12_taken_48 (by decide) ?_
        refine a_iload_n (pc := 33) dX12_taken_33 rfl rfl ?_
        refine a_iconst (pc := 34) dX12_taken_34 ic_m1 ?_
        refine a_icmp_eq_f (pc := 35) (tgt := 51) dX12_taken_35 (by decide) (by decide) ?_
        refine a_iload_n (pc := 38) dX12_taken_38 rfl rfl ?_
        refine a_iload_n (pc := 39) dX12_taken_39 rfl rfl ?_
        refine a_icmp_eq_f (pc := 40) (tgt := 51) dX12_taken_40 (by decide) (by decide) ?_
        refine a_iload_n (pc := 43) dX12_taken_43 rfl rfl ?_
        refine a_callS (pc := 44) km_X12_440 dX12_taken_44 (f_over _) rfl rfl (rok_of hM (by decide) (by decide) (by omega) (by omega)) (Nat.le_of_ble_eq_true rfl) (fun r44 h44 hp44 => ?_)
        obtain ⟨rfl, rfl⟩ := hp44
        refine a_topi (by decide : overP (nI 0) = -1) ?_
        refine a_istore_n (pc := 47) dX12_taken_47 rfl (by decide) rfl ?_
        refine a_goto (pc := 48) (tgt := 33) dX12_taken_48 (by decide) ?_
        refine a_iload_n (pc := 33) dX12_taken_33 rfl rfl ?_
        refine a_iconst (pc := 34) dX12_taken_34 ic_m1 ?_
        refine a_icmp_eq_t (pc := 35) (tgt := 51) dX12_taken_35 (by decide) (by decide) ?_
        refine a_iload_n (pc := 51) dX12_taken_51 rfl rfl ?_
        refine a_iload_n (pc := 52) dX12_taken_52 rfl rfl ?_
        refine a_icmp_ne_t (pc := 53) (tgt := 65) dX12_taken_53 (by decide) (by decide) ?_
        refine a_bipush (pc := 65) dX12_taken_65 ib_m13 ?_
        refine a_ret_i (pc := 67) hM rfl (rfl) dX12_taken_67 (by omega) (by omega) ?_
        exact ⟨by rw [R_taken, if_pos c9, if_pos c20, ek, show vA s 24 k = _ from hkv.symm, eo]; rfl, _, rfl, by rw [R_taken, if_pos c9, if_pos c20]; exact SP.rfl⟩
      · refine a_aload_n (pc := 26) dX12_taken_26 rfl rfl ?_
        refine a_getfield (pc := 27) kg_X12_69 dX12_taken_27 (m_obj hm) rfl ?_
        refine a_iload_n (pc := 30) dX12_taken_30 rfl rfl ?_
        refine a_iaload (pc := 31) dX12_taken_31 (m_a24 hm) (_) (rfl) (by omega) (by omega) ?_
        refine a_topi (hk1) ?_
        refine a_istore_n (pc := 32) dX12_taken_32 rfl (by decide) rfl ?_
        refine a_iload_n (pc := 33) dX12_taken_33 rfl rfl ?_
        refine a_iconst (pc := 34) dX12_taken_34 ic_m1 ?_
        refine a_icmp_eq_f (pc := 35) (tgt := 51) dX12_taken_35 (by decide) (by decide) ?_
        refine a_iload_n (pc := 38) dX12_taken_38 rfl rfl ?_
        refine a_iload_n (pc := 39) dX12_taken_39 rfl rfl ?_
        refine a_icmp_eq_t (pc := 40) (tgt := 51) dX12_taken_40 (by decide) (by decide) ?_
        refine a_iload_n (pc := 51) dX12_taken_51 rfl rfl ?_
        refine a_iload_n (pc := 52) dX12_taken_52 rfl rfl ?_
        refine a_icmp_ne_f (pc := 53) (tgt := 65) dX12_taken_53 (by decide) (by decide) ?_
        refine a_aload_n (pc := 56) dX12_taken_56 rfl rfl ?_
        refine a_getfield (pc := 57) kg_X12_72 dX12_taken_57 (m_obj hm) rfl ?_
        refine a_iload_n (pc := 60) dX12_taken_60 rfl rfl ?_
        refine a_iaload (pc := 61) dX12_taken_61 (m_a25 hm) (_) (rfl) (by omega) (by omega) ?_
        refine a_goto (pc := 62) (tgt := 67) dX12_taken_62 (by decide) ?_
        refine a_ret_i (pc := 67) hM rfl (rfl) dX12_taken_67 (by omega) (by omega) ?_
        exact ⟨by rw [R_taken, if_pos c9, if_pos c20, ek, show vA s 24 k = _ from hkv.symm, eo]; rfl, _, rfl, by rw [R_taken, if_pos c9, if_pos c20]; exact SP.rfl⟩
      · refine a_aload_n (pc := 26) dX12_taken_26 rfl rfl ?_
        refine a_getfield (pc := 27) kg_X12_69 dX12_taken_27 (m_obj hm) rfl ?_
        refine a_iload_n (pc := 30) dX12_taken_30 rfl rfl ?_
        refine a_iaload (pc := 31) dX12_taken_31 (m_a24 hm) (_) (rfl) (by omega) (by omega) ?_
        refine a_topi (hk1) ?_
        refine a_istore_n (pc := 32) dX12_taken_32 rfl (by decide) rfl ?_
        refine a_iload_n (pc := 33) dX12_taken_33 rfl rfl ?_
        refine a_iconst (pc := 34) dX12_taken_34 ic_m1 ?_
        refine a_icmp_eq_f (pc := 35) (tgt := 51) dX12_taken_35 (by decide) (by decide) ?_
        refine a_iload_n (pc := 38) dX12_taken_38 rfl rfl ?_
        refine a_iload_n (pc := 39) dX12_taken_39 rfl rfl ?_
        refine a_icmp_eq_f (pc := 40) (tgt := 51) dX12_taken_40 (by decide) (by decide) ?_
        refine a_iload_n (pc := 43) dX12_taken_43 rfl rfl ?_
        refine a_callS (pc := 44) km_X12_440 dX12_taken_44 (f_over _) rfl rfl (rok_of hM (by decide) (by decide) (by omega) (by omega)) (Nat.le_of_ble_eq_true rfl) (fun r44 h44 hp44 => ?_)
        obtain ⟨rfl, rfl⟩ := hp44
        refine a_topi (by decide : overP (nI 2) = nI 0) ?_
        refine a_istore_n (pc := 47) dX12_taken_47 rfl (by decide) rfl ?_
        refine a_goto (pc := 48) (tgt := 33) dX12_taken_48 (by decide) ?_
        refine a_iload_n (pc := 33) dX12_taken_33 rfl rfl ?_
        refine a_iconst (pc := 34) dX12_taken_34 ic_m1 ?_
        refine a_icmp_eq_f (pc := 35) (tgt := 51) dX12_taken_35 (by decide) (by decide) ?_
        refine a_iload_n (pc := 38) dX12_taken_38 rfl rfl ?_
        refine a_iload_n (pc := 39) dX12_taken_39 rfl rfl ?_
        refine a_icmp_eq_f (pc := 40) (tgt := 51) dX12_taken_40 (by decide) (by decide) ?_
        refine a_iload_n (pc := 43) dX12_taken_43 rfl rfl ?_
        refine a_callS (pc := 44) km_X12_440 dX12_taken_44 (f_over _) rfl rfl (rok_of hM (by decide) (by decide) (by omega) (by omega)) (Nat.le_of_ble_eq_true rfl) (fun r44 h44 hp44 => ?_)
        obtain ⟨rfl, rfl⟩ := hp44
        refine a_topi (by decide : overP (nI 0) = -1) ?_
        refine a_istore_n (pc := 47) dX12_taken_47 rfl (by decide) rfl ?_
        refine a_goto (pc := 48) (tgt := 33) dX12_taken_48 (by decide) ?_
        refine a_iload_n (pc := 33) dX12_taken_33 rfl rfl ?_
        refine a_iconst (pc := 34) dX12_taken_34 ic_m1 ?_
        refine a_icmp_eq_t (pc := 35) (tgt := 51) dX12_taken_35 (by decide) (by decide) ?_
        refine a_iload_n (pc := 51) dX12_taken_51 rfl rfl ?_
        refine a_iload_n (pc := 52) dX12_taken_52 rfl rfl ?_
        refine a_icmp_ne_t (pc := 53) (tgt := 65) dX12_taken_53 (by decide) (by decide) ?_
        refine a_bipush (pc := 65) dX12_taken_65 ib_m13 ?_
        refine a_ret_i (pc := 67) hM rfl (rfl) dX12_taken_67 (by omega) (by omega) ?_
        exact ⟨by rw [R_taken, if_pos c9, if_pos c20, ek, show vA s 24 k = _ from hkv.symm, eo]; rfl, _, rfl, by rw [R_taken, if_pos c9, if_pos c20]; exact SP.rfl⟩
      · refine a_aload_n (pc := 26) dX12_taken_26 rfl rfl ?_
        refine a_getfield (pc := 27) kg_X12_69 dX12_taken_27 (m_obj hm) rfl ?_
        refine a_iload_n (pc := 30) dX12_taken_30 rfl rfl ?_
        refine a_iaload (pc := 31) dX12_taken_31 (m_a24 hm) (_) (rfl) (by omega) (by omega) ?_
        refine a_topi (hk1) ?_
        refine a_istore_n (pc := 32) dX12_taken_32 rfl (by decide) rfl ?_
        refine a_iload_n (pc := 33) dX12_taken_33 rfl rfl ?_
        refine a_iconst (pc := 34) dX12_taken_34 ic_m1 ?_
        refine a_icmp_eq_f (pc := 35) (tgt := 51) dX12_taken_35 (by decide) (by decide) ?_
        refine a_iload_n (pc := 38) dX12_taken_38 rfl rfl ?_
        refine a_iload_n (pc := 39) dX12_taken_39 rfl rfl ?_
        refine a_icmp_eq_f (pc := 40) (tgt := 51) dX12_taken_40 (by decide) (by decide) ?_
        refine a_iload_n (pc := 43) dX12_taken_43 rfl rfl ?_
        refine a_callS (pc := 44) km_X12_440 dX12_taken_44 (f_over _) rfl rfl (rok_of hM (by decide) (by decide) (by omega) (by omega)) (Nat.le_of_ble_eq_true rfl) (fun r44 h44 hp44 => ?_)
        obtain ⟨rfl, rfl⟩ := hp44
        refine a_topi (by decide : overP (nI 2) = nI 0) ?_
        refine a_istore_n (pc := 47) dX12_taken_47 rfl (by decide) rfl ?_
        refine a_goto (pc := 48) (tgt := 33) dX12_taken_48 (by decide) ?_
        refine a_iload_n (pc := 33) dX12_taken_33 rfl rfl ?_
        refine a_iconst (pc := 34) dX12_taken_34 ic_m1 ?_
        refine a_icmp_eq_f (pc := 35) (tgt := 51) dX12_taken_35 (by decide) (by decide) ?_
        refine a_iload_n (pc := 38) dX12_taken_38 rfl rfl ?_
        refine a_iload_n (pc := 39) dX12_taken_39 rfl rfl ?_
        refine a_icmp_eq_f (pc := 40) (tgt := 51) dX12_taken_40 (by decide) (by decide) ?_
        refine a_iload_n (pc := 43) dX12_taken_43 rfl rfl ?_
        refine a_callS (pc := 44) km_X12_440 dX12_taken_44 (f_over _) rfl rfl (rok_of hM (by decide) (by decide) (by omega) (by omega)) (Nat.le_of_ble_eq_true rfl) (fun r44 h44 hp44 => ?_)
        obtain ⟨rfl, rfl⟩ := hp44
        refine a_topi (by decide : overP (nI 0) = -1) ?_
        refine a_istore_n (pc := 47) dX12_taken_47 rfl (by decide) rfl ?_
        refine a_goto (pc := 48) (tgt := 33) dX12_taken_48 (by decide) ?_
        refine a_iload_n (pc := 33) dX12_taken_33 rfl rfl ?_
        refine a_iconst (pc := 34) dX12_taken_34 ic_m1 ?_
        refine a_icmp_eq_t (pc := 35) (tgt := 51) dX12_taken_35 (by decide) (by decide) ?_
        refine a_iload_n (pc := 51) dX12_taken_51 rfl rfl ?_
        refine a_iload_n (pc := 52) dX12_taken_52 rfl rfl ?_
        refine a_icmp_ne_t (pc := 53) (tgt := 65) dX12_taken_53 (by decide) (by decide) ?_
        refine a_bipush (pc := 65) dX12_taken_65 ib_m13 ?_
        refine a_ret_i (pc := 67) hM rfl (rfl) dX12_taken_67 (by omega) (by omega) ?_
        exact ⟨by rw [R_taken, if_pos c9, if_pos c20, ek, show vA s 24 k = _ from hkv.symm, eo]; rfl, _, rfl, by rw [R_taken, if_pos c9, if_pos c20]; exact SP.rfl⟩
      · refine a_aload_n (pc := 26) dX12_taken_26 rfl rfl ?_
        refine a_getfield (pc := 27) kg_X12_69 dX12_taken_27 (m_obj hm) rfl ?_
        refine a_iload_n (pc := 30) dX12_taken_30 rfl rfl ?_
        refine a_iaload (pc := 31) dX12_taken_31 (m_a24 hm) (_) (rfl) (by omega) (by omega) ?_
        refine a_topi (hk1) ?_
        refine a_istore_n (pc := 32) dX12_taken_32 rfl (by decide) rfl ?_
        refine a_iload_n (pc := 33) dX12_taken_33 rfl rfl ?_
        refine a_iconst (pc := 34) dX12_taken_34 ic_m1 ?_
        refine a_icmp_eq_f (pc := 35) (tgt := 51) dX12_taken_35 (by decide) (by decide) ?_
        refine a_iload_n (pc := 38) dX12_taken_38 rfl rfl ?_
        refine a_iload_n (pc := 39) dX12_taken_39 rfl rfl ?_
        refine a_icmp_eq_f (pc := 40) (tgt := 51) dX12_taken_40 (by decide) (by decide) ?_
        refine a_iload_n (pc := 43) dX12_taken_43 rfl rfl ?_
        refine a_callS (pc := 44) km_X12_440 dX12_taken_44 (f_over _) rfl rfl (rok_of hM (by decide) (by decide) (by omega) (by omega)) (Nat.le_of_ble_eq_true rfl) (fun r44 h44 hp44 => ?_)
        obtain ⟨rfl, rfl⟩ := hp44
        refine a_topi (by decide : overP (nI 2) = nI 0) ?_
        refine a_istore_n (pc := 47) dX12_taken_47 rfl (by decide) rfl ?_
        refine a_goto (pc := 48) (tgt := 33) dX12_taken_48 (by decide) ?_
        refine a_iload_n (pc := 33) dX12_taken_33 rfl rfl ?_
        refine a_iconst (pc := 34) dX12_taken_34 ic_m1 ?_
        refine a_icmp_eq_f (pc := 35) (tgt := 51) dX12_taken_35 (by decide) (by decide) ?_
        refine a_iload_n (pc := 38) dX12_taken_38 rfl rfl ?_
        refine a_iload_n (pc := 39) dX12_taken_39 rfl rfl ?_
        refine a_icmp_eq_f (pc := 40) (tgt := 51) dX12_taken_40 (by decide) (by decide) ?_
        refine a_iload_n (pc := 43) dX12_taken_43 rfl rfl ?_
        refine a_callS (pc := 44) km_X12_440 dX12_taken_44 (f_over _) rfl rfl (rok_of hM (by decide) (by decide) (by omega) (by omega)) (Nat.le_of_ble_eq_true rfl) (fun r44 h44 hp44 => ?_)
        obtain ⟨rfl, rfl⟩ := hp44
        refine a_topi (by decide : overP (nI 0) = -1) ?_
        refine a_istore_n (pc := 47) dX12_taken_47 rfl (by decide) rfl ?_
        refine a_goto (pc := 48) (tgt := 33) dX12_taken_48 (by decide) ?_
        refine a_iload_n (pc := 33) dX12_taken_33 rfl rfl ?_
        refine a_iconst (pc := 34) dX12_taken_34 ic_m1 ?_
        refine a_icmp_eq_t (pc := 35) (tgt := 51) dX12_taken_35 (by decide) (by decide) ?_
        refine a_iload_n (pc := 51) dX12_taken_51 rfl rfl ?_
        refine a_iload_n (pc := 52) dX12_taken_52 rfl rfl ?_
        refine a_icmp_ne_t (pc := 53) (tgt := 65) dX12_taken_53 (by decide) (by decide) ?_
        refine a_bipush (pc := 65) dX12_taken_65 ib_m13 ?_
        refine a_ret_i (pc := 67) hM rfl (rfl) dX12_taken_67 (by omega) (by omega) ?_
        exact ⟨by rw [R_taken, if_pos c9, if_pos c20, ek, show vA s 24 k = _ from hkv.symm, eo]; rfl, _, rfl, by rw [R_taken, if_pos c9, if_pos c20]; exact SP.rfl⟩
      · refine a_aload_n (pc := 26) dX12_taken_26 rfl rfl ?_
        refine a_getfield (pc := 27) kg_X12_69 dX12_taken_27 (m_obj hm) rfl ?_
        refine a_iload_n (pc := 30) dX12_taken_30 rfl rfl ?_
        refine a_iaload (pc := 31) dX12_taken_31 (m_a24 hm) (_) (rfl) (by omega) (by omega) ?_
        refine a_topi (hk1) ?_
        refine a_istore_n (pc := 32) dX12_taken_32 rfl (by decide) rfl ?_
        refine a_iload_n (pc := 33) dX12_taken_33 rfl rfl ?_
        refine a_iconst (pc := 34) dX12_taken_34 ic_m1 ?_
        refine a_icmp_eq_f (pc := 35) (tgt := 51) dX12_taken_35 (by decide) (by decide) ?_
        refine a_iload_n (pc := 38) dX12_taken_38 rfl rfl ?_
        refine a_iload_n (pc := 39) dX12_taken_39 rfl rfl ?_
        refine a_icmp_eq_f (pc := 40) (tgt := 51) dX12_taken_40 (by decide) (by decide) ?_
        refine a_iload_n (pc := 43) dX12_taken_43 rfl rfl ?_
        refine a_callS (pc := 44) km_X12_440 dX12_taken_44 (f_over _) rfl rfl (rok_of hM (by decide) (by decide) (by omega) (by omega)) (Nat.le_of_ble_eq_true rfl) (fun r44 h44 hp44 => ?_)
        obtain ⟨rfl, rfl⟩ := hp44
        refine a_topi (by decide : overP (nI 3) = nI 0) ?_
        refine a_istore_n (pc := 47) dX12_taken_47 rfl (by decide) rfl ?_
        refine a_goto (pc := 48) (tgt := 33) dX12_taken_48 (by decide) ?_
        refine a_iload_n (pc := 33) dX12_taken_33 rfl rfl ?_
        refine a_iconst (pc := 34) dX12_taken_34 ic_m1 ?_
        refine a_icmp_eq_f (pc := 35) (tgt := 51) dX12_taken_35 (by decide) (by decide) ?_
        refine a_iload_n (pc := 38) dX12_taken_38 rfl rfl ?_
        refine a_iload_n (pc := 39) dX12_taken_39 rfl rfl ?_
        refine a_icmp_eq_t (pc := 40) (tgt := 51) dX12_taken_40 (by decide) (by decide) ?_
        refine a_iload_n (pc := 51) dX12_taken_51 rfl rfl ?_
        refine a_iload_n (pc := 52) dX12_taken_52 rfl rfl ?_
        refine a_icmp_ne_f (pc := 53) (tgt := 65) dX12_taken_53 (by decide) (by decide) ?_
        refine a_aload_n (pc := 56) dX12_taken_56 rfl rfl ?_
        refine a_getfield (pc := 57) kg_X12_72 dX12_taken_57 (m_obj hm) rfl ?_
        refine a_iload_n (pc := 60) dX12_taken_60 rfl rfl ?_
        refine a_iaload (pc := 61) dX12_taken_61 (m_a25 hm) (_) (rfl) (by omega) (by omega) ?_
        refine a_goto (pc := 62) (tgt := 67) dX12_taken_62 (by decide) ?_
        refine a_ret_i (pc := 67) hM rfl (rfl) dX12_taken_67 (by omega) (by omega) ?_
        exact ⟨by rw [R_taken, if_pos c9, if_pos c20, ek, show vA s 24 k = _ from hkv.symm, eo]; rfl, _, rfl, by rw [R_taken, if_pos c9, if_pos c20]; exact SP.rfl⟩
      · refine a_aload_n (pc := 26) dX12_taken_26 rfl rfl ?_
        refine a_getfield (pc := 27) kg_X12_69 dX12_taken_27 (m_obj hm) rfl ?_
        refine a_iload_n (pc := 30) dX12_taken_30 rfl rfl ?_
        refine a_iaload (pc := 31) dX12_taken_31 (m_a24 hm) (_) (rfl) (by omega) (by omega) ?_
        refine a_topi (hk1) ?_
        refine a_istore_n (pc := 32) dX12_taken_32 rfl (by decide) rfl ?_
        refine a_iload_n (pc := 33) dX12_taken_33 rfl rfl ?_
        refine a_iconst (pc := 34) dX12_taken_34 ic_m1 ?_
        refine a_icmp_eq_f (pc := 35) (tgt := 51) dX12_taken_35 (by decide) (by decide) ?_
        refine a_iload_n (pc := 38) dX12_taken_38 rfl rfl ?_
        refine a_iload_n (pc := 39) dX12_taken_39 rfl rfl ?_
        refine a_icmp_eq_f (pc := 40) (tgt := 51) dX12_taken_40 (by decide) (by decide) ?_
        refine a_iload_n (pc := 43) dX12_taken_43 rfl rfl ?_
        refine a_callS (pc := 44) km_X12_440 dX12_taken_44 (f_over _) rfl rfl (rok_of hM (by decide) (by decide) (by omega) (by omega)) (Nat.le_of_ble_eq_true rfl) (fun r44 h44 hp44 => ?_)
        obtain ⟨rfl, rfl⟩ := hp44
        refine a_topi (by decide : overP (nI 3) = nI 0) ?_
        refine a_istore_n (pc := 47) dX12_taken_47 rfl (by decide) rfl ?_
        refine a_goto (pc := 48) (tgt := 33) dX12_taken_48 (by decide) ?_
        refine a_iload_n (pc := 33) dX12_taken_33 rfl rfl ?_
        refine a_iconst (pc := 34) dX12_taken_34 ic_m1 ?_
        refine a_icmp_eq_f (pc := 35) (tgt := 51) dX12_taken_35 (by decide) (by decide) ?_
        refine a_iload_n (pc := 38) dX12_taken_38 rfl rfl ?_
        refine a_iload_n (pc := 39) dX12_taken_39 rfl rfl ?_
        refine a_icmp_eq_f (pc := 40) (tgt := 51) dX12_taken_40 (by decide) (by decide) ?_
        refine a_iload_n (pc := 43) dX12_taken_43 rfl rfl ?_
        refine a_callS (pc := 44) km_X12_440 dX12_taken_44 (f_over _) rfl rfl (rok_of hM (by decide) (by decide) (by omega) (by omega)) (Nat.le_of_ble_eq_true rfl) (fun r44 h44 hp44 => ?_)
        obtain ⟨rfl, rfl⟩ := hp44
        refine a_topi (by decide : overP (nI 0) = -1) ?_
        refine a_istore_n (pc := 47) dX12_taken_47 rfl (by decide) rfl ?_
        refine a_goto (pc := 48) (tgt := 33) dX12_taken_48 (by decide) ?_
        refine a_iload_n (pc := 33) dX12_taken_33 rfl rfl ?_
        refine a_iconst (pc := 34) dX12_taken_34 ic_m1 ?_
        refine a_icmp_eq_t (pc := 35) (tgt := 51) dX12_taken_35 (by decide) (by decide) ?_
        refine a_iload_n (pc := 51) dX12_taken_51 rfl rfl ?_
        refine a_iload_n (pc := 52) dX12_taken_52 rfl rfl ?_
        refine a_icmp_ne_t (pc := 53) (tgt := 65) dX12_taken_53 (by decide) (by decide) ?_
        refine a_bipush (pc := 65) dX12_taken_65 ib_m13 ?_
        refine a_ret_i (pc := 67) hM rfl (rfl) dX12_taken_67 (by omega) (by omega) ?_
        exact ⟨by rw [R_taken, if_pos c9, if_pos c20, ek, show vA s 24 k = _ from hkv.symm, eo]; rfl, _, rfl, by rw [R_taken, if_pos c9, if_pos c20]; exact SP.rfl⟩
      · refine a_aload_n (pc := 26) dX12_taken_26 rfl rfl ?_
        refine a_getfield (pc := 27) kg_X12_69 dX12_taken_27 (m_obj hm) rfl ?_
        refine a_iload_n (pc := 30) dX12_taken_30 rfl rfl ?_
        refine a_iaload (pc := 31) dX12_taken_31 (m_a24 hm) (_) (rfl) (by omega) (by omega) ?_
        refine a_topi (hk1) ?_
        refine a_istore_n (pc := 32) dX12_taken_32 rfl (by decide) rfl ?_
        refine a_iload_n (pc := 33) dX12_taken_33 rfl rfl ?_
        refine a_iconst (pc := 34) dX12_taken_34 ic_m1 ?_
        refine a_icmp_eq_f (pc := 35) (tgt := 51) dX12_taken_35 (by decide) (by decide) ?_
        refine a_iload_n (pc := 38) dX12_taken_38 rfl rfl ?_
        refine a_iload_n (pc := 39) dX12_taken_39 rfl rfl ?_
        refine a_icmp_eq_f (pc := 40) (tgt := 51) dX12_taken_40 (by decide) (by decide) ?_
        refine a_iload_n (pc := 43) dX12_taken_43 rfl rfl ?_
        refine a_callS (pc := 44) km_X12_440 dX12_taken_44 (f_over _) rfl rfl (rok_of hM (by decide) (by decide) (by omega) (by omega)) (Nat.le_of_ble_eq_true rfl) (fun r44 h44 hp44 => ?_)
        obtain ⟨rfl, rfl⟩ := hp44
        refine a_topi (by decide : overP (nI 3) = nI 0) ?_
        refine a_istore_n (pc := 47) dX12_taken_47 rfl (by decide) rfl ?_
        refine a_goto (pc := 48) (tgt := 33) dX12_taken_48 (by decide) ?_
        refine a_iload_n (pc := 33) dX12_taken_33 rfl rfl ?_
        refine a_iconst (pc := 34) dX12_taken_34 ic_m1 ?_
        refine a_icmp_eq_f (pc := 35) (tgt := 51) dX12_taken_35 (by decide) (by decide) ?_
        refine a_iload_n (pc := 38) dX12_taken_38 rfl rfl ?_
        refine a_iload_n (pc := 39) dX12_taken_39 rfl rfl ?_
        refine a_icmp_eq_f (pc := 40) (tgt := 51) dX12_taken_40 (by decide) (by decide) ?_
        refine a_iload_n (pc := 43) dX12_taken_43 rfl rfl ?_
        refine a_callS (pc := 44) km_X12_440 dX12_taken_44 (f_over _) rfl rfl (rok_of hM (by decide) (by decide) (by omega) (by omega)) (Nat.le_of_ble_eq_true rfl) (fun r44 h44 hp44 => ?_)
        obtain ⟨rfl, rfl⟩ := hp44
        refine a_topi (by decide : overP (nI 0) = -1) ?_
        refine a_istore_n (pc := 47) dX12_taken_47 rfl (by decide) rfl ?_
        refine a_goto (pc := 48) (tgt := 33) dX12_taken_48 (by decide) ?_
        refine a_iload_n (pc := 33) dX12_taken_33 rfl rfl ?_
        refine a_iconst (pc := 34) dX12_taken_34 ic_m1 ?_
        refine a_icmp_eq_t (pc := 35) (tgt := 51) dX12_taken_35 (by decide) (by decide) ?_
        refine a_iload_n (pc := 51) dX12_taken_51 rfl rfl ?_
        refine a_iload_n (pc := 52) dX12_taken_52 rfl rfl ?_
        refine a_icmp_ne_t (pc := 53) (tgt := 65) dX12_taken_53 (by decide) (by decide) ?_
        refine a_bipush (pc := 65) dX12_taken_65 ib_m13 ?_
        refine a_ret_i (pc := 67) hM rfl (rfl) dX12_taken_67 (by omega) (by omega) ?_
        exact ⟨by rw [R_taken, if_pos c9, if_pos c20, ek, show vA s 24 k = _ from hkv.symm, eo]; rfl, _, rfl, by rw [R_taken, if_pos c9, if_pos c20]; exact SP.rfl⟩
      · refine a_aload_n (pc := 26) dX12_taken_26 rfl rfl ?_
        refine a_getfield (pc := 27) kg_X12_69 dX12_taken_27 (m_obj hm) rfl ?_
        refine a_iload_n (pc := 30) dX12_taken_30 rfl rfl ?_
        refine a_iaload (pc := 31) dX12_taken_31 (m_a24 hm) (_) (rfl) (by omega) (by omega) ?_
        refine a_topi (hk1) ?_
        refine a_istore_n (pc := 32) dX12_taken_32 rfl (by decide) rfl ?_
        refine a_iload_n (pc := 33) dX12_taken_33 rfl rfl ?_
        refine a_iconst (pc := 34) dX12_taken_34 ic_m1 ?_
        refine a_icmp_eq_f (pc := 35) (tgt := 51) dX12_taken_35 (by decide) (by decide) ?_
        refine a_iload_n (pc := 38) dX12_taken_38 rfl rfl ?_
        refine a_iload_n (pc := 39) dX12_taken_39 rfl rfl ?_
        refine a_icmp_eq_t (pc := 40) (tgt := 51) dX12_taken_40 (by decide) (by decide) ?_
        refine a_iload_n (pc := 51) dX12_taken_51 rfl rfl ?_
        refine a_iload_n (pc := 52) dX12_taken_52 rfl rfl ?_
        refine a_icmp_ne_f (pc := 53) (tgt := 65) dX12_taken_53 (by decide) (by decide) ?_
        refine a_aload_n (pc := 56) dX12_taken_56 rfl rfl ?_
        refine a_getfield (pc := 57) kg_X12_72 dX12_taken_57 (m_obj hm) rfl ?_
        refine a_iload_n (pc := 60) dX12_taken_60 rfl rfl ?_
        refine a_iaload (pc := 61) dX12_taken_61 (m_a25 hm) (_) (rfl) (by omega) (by omega) ?_
        refine a_goto (pc := 62) (tgt := 67) dX12_taken_62 (by decide) ?_
        refine a_ret_i (pc := 67) hM rfl (rfl) dX12_taken_67 (by omega) (by omega) ?_
        exact ⟨by rw [R_taken, if_pos c9, if_pos c20, ek, show vA s 24 k = _ from hkv.symm, eo]; rfl, _, rfl, by rw [R_taken, if_pos c9, if_pos c20]; exact SP.rfl⟩
      · refine a_aload_n (pc := 26) dX12_taken_26 rfl rfl ?_
        refine a_getfield (pc := 27) kg_X12_69 dX12_taken_27 (m_obj hm) rfl ?_
        refine a_iload_n (pc := 30) dX12_taken_30 rfl rfl ?_
        refine a_iaload (pc := 31) dX12_taken_31 (m_a24 hm) (_) (rfl) (by omega) (by omega) ?_
        refine a_topi (hk1) ?_
        refine a_istore_n (pc := 32) dX12_taken_32 rfl (by decide) rfl ?_
        refine a_iload_n (pc := 33) dX12_taken_33 rfl rfl ?_
        refine a_iconst (pc := 34) dX12_taken_34 ic_m1 ?_
        refine a_icmp_eq_f (pc := 35) (tgt := 51) dX12_taken_35 (by decide) (by decide) ?_
        refine a_iload_n (pc := 38) dX12_taken_38 rfl rfl ?_
        refine a_iload_n (pc := 39) dX12_taken_39 rfl rfl ?_
        refine a_icmp_eq_f (pc := 40) (tgt := 51) dX12_taken_40 (by decide) (by decide) ?_
        refine a_iload_n (pc := 43) dX12_taken_43 rfl rfl ?_
        refine a_callS (pc := 44) km_X12_440 dX12_taken_44 (f_over _) rfl rfl (rok_of hM (by decide) (by decide) (by omega) (by omega)) (Nat.le_of_ble_eq_true rfl) (fun r44 h44 hp44 => ?_)
        obtain ⟨rfl, rfl⟩ := hp44
        refine a_topi (by decide : overP (nI 3) = nI 0) ?_
        refine a_istore_n (pc := 47) dX12_taken_47 rfl (by decide) rfl ?_
        refine a_goto (pc := 48) (tgt := 33) dX12_taken_48 (by decide) ?_
        refine a_iload_n (pc := 33) dX12_taken_33 rfl rfl ?_
        refine a_iconst (pc := 34) dX12_taken_34 ic_m1 ?_
        refine a_icmp_eq_f (pc := 35) (tgt := 51) dX12_taken_35 (by decide) (by decide) ?_
        refine a_iload_n (pc := 38) dX12_taken_38 rfl rfl ?_
        refine a_iload_n (pc := 39) dX12_taken_39 rfl rfl ?_
        refine a_icmp_eq_f (pc := 40) (tgt := 51) dX12_taken_40 (by decide) (by decide) ?_
        refine a_iload_n (pc := 43) dX12_taken_43 rfl rfl ?_
        refine a_callS (pc := 44) km_X12_440 dX12_taken_44 (f_over _) rfl rfl (rok_of hM (by decide) (by decide) (by omega) (by omega)) (Nat.le_of_ble_eq_true rfl) (fun r44 h44 hp44 => ?_)
        obtain ⟨rfl, rfl⟩ := hp44
        refine a_topi (by decide : overP (nI 0) = -1) ?_
        refine a_istore_n (pc := 47) dX12_taken_47 rfl (by decide) rfl ?_
        refine a_goto (pc := 48) (tgt := 33) dX12_taken_48 (by decide) ?_
        refine a_iload_n (pc := 33) dX12_taken_33 rfl rfl ?_
        refine a_iconst (pc := 34) dX12_taken_34 ic_m1 ?_
        refine a_icmp_eq_t (pc := 35) (tgt := 51) dX12_taken_35 (by decide) (by decide) ?_
        refine a_iload_n (pc := 51) dX12_taken_51 rfl rfl ?_
        refine a_iload_n (pc := 52) dX12_taken_52 rfl rfl ?_
        refine a_icmp_ne_t (pc := 53) (tgt := 65) dX12_taken_53 (by decide) (by decide) ?_
        refine a_bipush (pc := 65) dX12_taken_65 ib_m13 ?_
        refine a_ret_i (pc := 67) hM rfl (rfl) dX12_taken_67 (by omega) (by omega) ?_
        exact ⟨by rw [R_taken, if_pos c9, if_pos c20, ek, show vA s 24 k = _ from hkv.symm, eo]; rfl, _, rfl, by rw [R_taken, if_pos c9, if_pos c20]; exact SP.rfl⟩
      · refine a_aload_n (pc := 26) dX12_taken_26 rfl rfl ?_
        refine a_getfield (pc := 27) kg_X12_69 dX12_taken_27 (m_obj hm) rfl ?_
        refine a_iload_n (pc := 30) dX12_taken_30 rfl rfl ?_
        refine a_iaload (pc := 31) dX12_taken_31 (m_a24 hm) (_) (rfl) (by omega) (by omega) ?_
        refine a_topi (hk1) ?_
        refine a_istore_n (pc := 32) dX12_taken_32 rfl (by decide) rfl ?_
        refine a_iload_n (pc := 33) dX12_taken_33 rfl rfl ?_
        refine a_iconst (pc := 34) dX12_taken_34 ic_m1 ?_
        refine a_icmp_eq_f (pc := 35) (tgt := 51) dX12_taken_35 (by decide) (by decide) ?_
        refine a_iload_n (pc := 38) dX12_taken_38 rfl rfl ?_
        refine a_iload_n (pc := 39) dX12_taken_39 rfl rfl ?_
        refine a_icmp_eq_f (pc := 40) (tgt := 51) dX12_taken_40 (by decide) (by decide) ?_
        refine a_iload_n (pc := 43) dX12_taken_43 rfl rfl ?_
        refine a_callS (pc := 44) km_X12_440 dX12_taken_44 (f_over _) rfl rfl (rok_of hM (by decide) (by decide) (by omega) (by omega)) (Nat.le_of_ble_eq_true rfl) (fun r44 h44 hp44 => ?_)
        obtain ⟨rfl, rfl⟩ := hp44
        refine a_topi (by decide : overP (nI 3) = nI 0) ?_
        refine a_istore_n (pc := 47) dX12_taken_47 rfl (by decide) rfl ?_
        refine a_goto (pc := 48) (tgt := 33) dX12_taken_48 (by decide) ?_
        refine a_iload_n (pc := 33) dX12_taken_33 rfl rfl ?_
        refine a_iconst (pc := 34) dX12_taken_34 ic_m1 ?_
        refine a_icmp_eq_f (pc := 35) (tgt := 51) dX12_taken_35 (by decide) (by decide) ?_
        refine a_iload_n (pc := 38) dX12_taken_38 rfl rfl ?_
        refine a_iload_n (pc := 39) dX12_taken_39 rfl rfl ?_
        refine a_icmp_eq_f (pc := 40) (tgt := 51) dX12_taken_40 (by decide) (by decide) ?_
        refine a_iload_n (pc := 43) dX12_taken_43 rfl rfl ?_
        refine a_callS (pc := 44) km_X12_440 dX12_taken_44 (f_over _) rfl rfl (rok_of hM (by decide) (by decide) (by omega) (by omega)) (Nat.le_of_ble_eq_true rfl) (fun r44 h44 hp44 => ?_)
        obtain ⟨rfl, rfl⟩ := hp44
        refine a_topi (by decide : overP (nI 0) = -1) ?_
        refine a_istore_n (pc := 47) dX12_taken_47 rfl (by decide) rfl ?_
        refine a_goto (pc := 48) (tgt := 33) dX12_taken_48 (by decide) ?_
        refine a_iload_n (pc := 33) dX12_taken_33 rfl rfl ?_
        refine a_iconst (pc := 34) dX12_taken_34 ic_m1 ?_
        refine a_icmp_eq_t (pc := 35) (tgt := 51) dX12_taken_35 (by decide) (by decide) ?_
        refine a_iload_n (pc := 51) dX12_taken_51 rfl rfl ?_
        refine a_iload_n (pc := 52) dX12_taken_52 rfl rfl ?_
        refine a_icmp_ne_t (pc := 53) (tgt := 65) dX12_taken_53 (by decide) (by decide) ?_
        refine a_bipush (pc := 65) dX12_taken_65 ib_m13 ?_
        refine a_ret_i (pc := 67) hM rfl (rfl) dX12_taken_67 (by omega) (by omega) ?_
        exact ⟨by rw [R_taken, if_pos c9, if_pos c20, ek, show vA s 24 k = _ from hkv.symm, eo]; rfl, _, rfl, by rw [R_taken, if_pos c9, if_pos c20]; exact SP.rfl⟩
      · refine a_aload_n (pc := 26) dX12_taken_26 rfl rfl ?_
        refine a_getfield (pc := 27) kg_X12_69 dX12_taken_27 (m_obj hm) rfl ?_
        refine a_iload_n (pc := 30) dX12_taken_30 rfl rfl ?_
        refine a_iaload (pc := 31) dX12_taken_31 (m_a24 hm) (_) (rfl) (by omega) (by omega) ?_
        refine a_topi (hk1) ?_
        refine a_istore_n (pc := 32) dX12_taken_32 rfl (by decide) rfl ?_
        refine a_iload_n (pc := 33) dX12_taken_33 rfl rfl ?_
        refine a_iconst (pc := 34) dX12_taken_34 ic_m1 ?_
        refine a_icmp_eq_f (pc := 35) (tgt := 51) dX12_taken_35 (by decide) (by decide) ?_
        refine a_iload_n (pc := 38) dX12_taken_38 rfl rfl ?_
        refine a_iload_n (pc := 39) dX12_taken_39 rfl rfl ?_
        refine a_icmp_eq_f (pc := 40) (tgt := 51) dX12_taken_40 (by decide) (by decide) ?_
        refine a_iload_n (pc := 43) dX12_taken_43 rfl rfl ?_
        refine a_callS (pc := 44) km_X12_440 dX12_taken_44 (f_over _) rfl rfl (rok_of hM (by decide) (by decide) (by omega) (by omega)) (Nat.le_of_ble_eq_true rfl) (fun r44 h44 hp44 => ?_)
        obtain ⟨rfl, rfl⟩ := hp44
        refine a_topi (by decide : overP (nI 4) = nI 2) ?_
        refine a_istore_n (pc := 47) dX12_taken_47 rfl (by decide) rfl ?_
        refine a_goto (pc := 48) (tgt := 33) dX12_taken_48 (by decide) ?_
        refine a_iload_n (pc := 33) dX12_taken_33 rfl rfl ?_
        refine a_iconst (pc := 34) dX12_taken_34 ic_m1 ?_
        refine a_icmp_eq_f (pc := 35) (tgt := 51) dX12_taken_35 (by decide) (by decide) ?_
        refine a_iload_n (pc := 38) dX12_taken_38 rfl rfl ?_
        refine a_iload_n (pc := 39) dX12_taken_39 rfl rfl ?_
        refine a_icmp_eq_f (pc := 40) (tgt := 51) dX12_taken_40 (by decide) (by decide) ?_
        refine a_iload_n (pc := 43) dX12_taken_43 rfl rfl ?_
        refine a_callS (pc := 44) km_X12_440 dX12_taken_44 (f_over _) rfl rfl (rok_of hM (by decide) (by decide) (by omega) (by omega)) (Nat.le_of_ble_eq_true rfl) (fun r44 h44 hp44 => ?_)
        obtain ⟨rfl, rfl⟩ := hp44
        refine a_topi (by decide : overP (nI 2) = nI 0) ?_
        refine a_istore_n (pc := 47) dX12_taken_47 rfl (by decide) rfl ?_
        refine a_goto (pc := 48) (tgt := 33) dX12_taken_48 (by decide) ?_
        refine a_iload_n (pc := 33) dX12_taken_33 rfl rfl ?_
        refine a_iconst (pc := 34) dX12_taken_34 ic_m1 ?_
        refine a_icmp_eq_f (pc := 35) (tgt := 51) dX12_taken_35 (by decide) (by decide) ?_
        refine a_iload_n (pc := 38) dX12_taken_38 rfl rfl ?_
        refine a_iload_n (pc := 39) dX12_taken_39 rfl rfl ?_
        refine a_icmp_eq_t (pc := 40) (tgt := 51) dX12_taken_40 (by decide) (by decide) ?_
        refine a_iload_n (pc := 51) dX12_taken_51 rfl rfl ?_
        refine a_iload_n (pc := 52) dX12_taken_52 rfl rfl ?_
        refine a_icmp_ne_f (pc := 53) (tgt := 65) dX12_taken_53 (by decide) (by decide) ?_
        refine a_aload_n (pc := 56) dX12_taken_56 rfl rfl ?_
        refine a_getfield (pc := 57) kg_X12_72 dX12_taken_57 (m_obj hm) rfl ?_
        refine a_iload_n (pc := 60) dX12_taken_60 rfl rfl ?_
        refine a_iaload (pc := 61) dX12_taken_61 (m_a25 hm) (_) (rfl) (by omega) (by omega) ?_
        refine a_goto (pc := 62) (tgt := 67) dX12_taken_62 (by decide) ?_
        refine a_ret_i (pc := 67) hM rfl (rfl) dX12_taken_67 (by omega) (by omega) ?_
        exact ⟨by rw [R_taken, if_pos c9, if_pos c20, ek, show vA s 24 k = _ from hkv.symm, eo]; rfl, _, rfl, by rw [R_taken, if_pos c9, if_pos c20]; exact SP.rfl⟩
      · refine a_aload_n (pc := 26) dX12_taken_26 rfl rfl ?_
        refine a_getfield (pc := 27) kg_X12_69 dX12_taken_27 (m_obj hm) rfl ?_
        refine a_iload_n (pc := 30) dX12_taken_30 rfl rfl ?_
        refine a_iaload (pc := 31) dX12_taken_31 (m_a24 hm) (_) (rfl) (by omega) (by omega) ?_
        refine a_topi (hk1) ?_
        refine a_istore_n (pc := 32) dX12_taken_32 rfl (by decide) rfl ?_
        refine a_iload_n (pc := 33) dX12_taken_33 rfl rfl ?_
        refine a_iconst (pc := 34) dX12_taken_34 ic_m1 ?_
        refine a_icmp_eq_f (pc := 35) (tgt := 51) dX12_taken_35 (by decide) (by decide) ?_
        refine a_iload_n (pc := 38) dX12_taken_38 rfl rfl ?_
        refine a_iload_n (pc := 39) dX12_taken_39 rfl rfl ?_
        refine a_icmp_eq_f (pc := 40) (tgt := 51) dX12_taken_40 (by decide) (by decide) ?_
        refine a_iload_n (pc := 43) dX12_taken_43 rfl rfl ?_
        refine a_callS (pc := 44) km_X12_440 dX12_taken_44 (f_over _) rfl rfl (rok_of hM (by decide) (by decide) (by omega) (by omega)) (Nat.le_of_ble_eq_true rfl) (fun r44 h44 hp44 => ?_)
        obtain ⟨rfl, rfl⟩ := hp44
        refine a_topi (by decide : overP (nI 4) = nI 2) ?_
        refine a_istore_n (pc := 47) dX12_taken_47 rfl (by decide) rfl ?_
        refine a_goto (pc := 48) (tgt := 33) dX12_taken_48 (by decide) ?_
        refine a_iload_n (pc := 33) dX12_taken_33 rfl rfl ?_
        refine a_iconst (pc := 34) dX12_taken_34 ic_m1 ?_
        refine a_icmp_eq_f (pc := 35) (tgt := 51) dX12_taken_35 (by decide) (by decide) ?_
        refine a_iload_n (pc := 38) dX12_taken_38 rfl rfl ?_
        refine a_iload_n (pc := 39) dX12_taken_39 rfl rfl ?_
        refine a_icmp_eq_f (pc := 40) (tgt := 51) dX12_taken_40 (by decide) (by decide) ?_
        refine a_iload_n (pc := 43) dX12_taken_43 rfl rfl ?_
        refine a_callS (pc := 44) km_X12_440 dX12_taken_44 (f_over _) rfl rfl (rok_of hM (by decide) (by decide) (by omega) (by omega)) (Nat.le_of_ble_eq_true rfl) (fun r44 h44 hp44 => ?_)
        obtain ⟨rfl, rfl⟩ := hp44
        refine a_topi (by decide : overP (nI 2) = nI 0) ?_
        refine a_istore_n (pc := 47) dX12_taken_47 rfl (by decide) rfl ?_
        refine a_goto (pc := 48) (tgt := 33) dX12_taken_48 (by decide) ?_
        refine a_iload_n (pc := 33) dX12_taken_33 rfl rfl ?_
        refine a_iconst (pc := 34) dX12_taken_34 ic_m1 ?_
        refine a_icmp_eq_f (pc := 35) (tgt := 51) dX12_taken_35 (by decide) (by decide) ?_
        refine a_iload_n (pc := 38) dX12_taken_38 rfl rfl ?_
        refine a_iload_n (pc := 39) dX12_taken_39 rfl rfl ?_
        refine a_icmp_eq_f (pc := 40) (tgt := 51) dX12_taken_40 (by decide) (by decide) ?_
        refine a_iload_n (pc := 43) dX12_taken_43 rfl rfl ?_
        refine a_callS (pc := 44) km_X12_440 dX12_taken_44 (f_over _) rfl rfl (rok_of hM (by decide) (by decide) (by omega) (by omega)) (Nat.le_of_ble_eq_true rfl) (fun r44 h44 hp44 => ?_)
        obtain ⟨rfl, rfl⟩ := hp44
        refine a_topi (by decide : overP (nI 0) = -1) ?_
        refine a_istore_n (pc := 47) dX12_taken_47 rfl (by decide) rfl ?_
        refine a_goto (pc := 48) (tgt := 33) dX12_taken_48 (by decide) ?_
        refine a_iload_n (pc := 33) dX12_taken_33 rfl rfl ?_
        refine a_iconst (pc := 34) dX12_taken_34 ic_m1 ?_
        refine a_icmp_eq_t (pc := 35) (tgt := 51) dX12_taken_35 (by decide) (by decide) ?_
        refine a_iload_n (pc := 51) dX12_taken_51 rfl rfl ?_
        refine a_iload_n (pc := 52) dX12_taken_52 rfl rfl ?_
        refine a_icmp_ne_t (pc := 53) (tgt := 65) dX12_taken_53 (by decide) (by decide) ?_
        refine a_bipush (pc := 65) dX12_taken_65 ib_m13 ?_
        refine a_ret_i (pc := 67) hM rfl (rfl) dX12_taken_67 (by omega) (by omega) ?_
        exact ⟨by rw [R_taken, if_pos c9, if_pos c20, ek, show vA s 24 k = _ from hkv.symm, eo]; rfl, _, rfl, by rw [R_taken, if_pos c9, if_pos c20]; exact SP.rfl⟩
      · refine a_aload_n (pc := 26) dX12_taken_26 rfl rfl ?_
        refine a_getfield (pc := 27) kg_X12_69 dX12_taken_27 (m_obj hm) rfl ?_
        refine a_iload_n (pc := 30) dX12_taken_30 rfl rfl ?_
        refine a_iaload (pc := 31) dX12_taken_31 (m_a24 hm) (_) (rfl) (by omega) (by omega) ?_
        refine a_topi (hk1) ?_
        refine a_istore_n (pc := 32) dX12_taken_32 rfl (by decide) rfl ?_
        refine a_iload_n (pc := 33) dX12_taken_33 rfl rfl ?_
        refine a_iconst (pc := 34) dX12_taken_34 ic_m1 ?_
        refine a_icmp_eq_f (pc := 35) (tgt := 51) dX12_taken_35 (by decide) (by decide) ?_
        refine a_iload_n (pc := 38) dX12_taken_38 rfl rfl ?_
        refine a_iload_n (pc := 39) dX12_taken_39 rfl rfl ?_
        refine a_icmp_eq_f (pc := 40) (tgt := 51) dX12_taken_40 (by decide) (by decide) ?_
        refine a_iload_n (pc := 43) dX12_taken_43 rfl rfl ?_
        refine a_callS (pc := 44) km_X12_440 dX12_taken_44 (f_over _) rfl rfl (rok_of hM (by decide) (by decide) (by omega) (by omega)) (Nat.le_of_ble_eq_true rfl) (fun r44 h44 hp44 => ?_)
        obtain ⟨rfl, rfl⟩ := hp44
        refine a_topi (by decide : overP (nI 4) = nI 2) ?_
        refine a_istore_n (pc := 47) dX12_taken_47 rfl (by decide) rfl ?_
        refine a_goto (pc := 48) (tgt := 33) dX12_taken_48 (by decide) ?_
        refine a_iload_n (pc := 33) dX12_taken_33 rfl rfl ?_
        refine a_iconst (pc := 34) dX12_taken_34 ic_m1 ?_
        refine a_icmp_eq_f (pc := 35) (tgt := 51) dX12_taken_35 (by decide) (by decide) ?_
        refine a_iload_n (pc := 38) dX12_taken_38 rfl rfl ?_
        refine a_iload_n (pc := 39) dX12_taken_39 rfl rfl ?_
        refine a_icmp_eq_t (pc := 40) (tgt := 51) dX12_taken_40 (by decide) (by decide) ?_
        refine a_iload_n (pc := 51) dX12_taken_51 rfl rfl ?_
        refine a_iload_n (pc := 52) dX12_taken_52 rfl rfl ?_
        refine a_icmp_ne_f (pc := 53) (tgt := 65) dX12_taken_53 (by decide) (by decide) ?_
        refine a_aload_n (pc := 56) dX12_taken_56 rfl rfl ?_
        refine a_getfield (pc := 57) kg_X12_72 dX12_taken_57 (m_obj hm) rfl ?_
        refine a_iload_n (pc := 60) dX12_taken_60 rfl rfl ?_
        refine a_iaload (pc := 61) dX12_taken_61 (m_a25 hm) (_) (rfl) (by omega) (by omega) ?_
        refine a_goto (pc := 62) (tgt := 67) dX12_taken_62 (by decide) ?_
        refine a_ret_i (pc := 67) hM rfl (rfl) dX12_taken_67 (by omega) (by omega) ?_
        exact ⟨by rw [R_taken, if_pos c9, if_pos c20, ek, show vA s 24 k = _ from hkv.symm, eo]; rfl, _, rfl, by rw [R_taken, if_pos c9, if_pos c20]; exact SP.rfl⟩
      · refine a_aload_n (pc := 26) dX12_taken_26 rfl rfl ?_
        refine a_getfield (pc := 27) kg_X12_69 dX12_taken_27 (m_obj hm) rfl ?_
        refine a_iload_n (pc := 30) dX12_taken_30 rfl rfl ?_
        refine a_iaload (pc := 31) dX12_taken_31 (m_a24 hm) (_) (rfl) (by omega) (by omega) ?_
        refine a_topi (hk1) ?_
        refine a_istore_n (pc := 32) dX12_taken_32 rfl (by decide) rfl ?_
        refine a_iload_n (pc := 33) dX12_taken_33 rfl rfl ?_
        refine a_iconst (pc := 34) dX12_taken_34 ic_m1 ?_
        refine a_icmp_eq_f (pc := 35) (tgt := 51) dX12_taken_35 (by decide) (by decide) ?_
        refine a_iload_n (pc := 38) dX12_taken_38 rfl rfl ?_
        refine a_iload_n (pc := 39) dX12_taken_39 rfl rfl ?_
        refine a_icmp_eq_f (pc := 40) (tgt := 51) dX12_taken_40 (by decide) (by decide) ?_
        refine a_iload_n (pc := 43) dX12_taken_43 rfl rfl ?_
        refine a_callS (pc := 44) km_X12_440 dX12_taken_44 (f_over _) rfl rfl (rok_of hM (by decide) (by decide) (by omega) (by omega)) (Nat.le_of_ble_eq_true rfl) (fun r44 h44 hp44 => ?_)
        obtain ⟨rfl, rfl⟩ := hp44
        refine a_topi (by decide : overP (nI 4) = nI 2) ?_
        refine a_istore_n (pc := 47) dX12_taken_47 rfl (by decide) rfl ?_
        refine a_goto (pc := 48) (tgt := 33) dX12_taken_48 (by decide) ?_
        refine a_iload_n (pc := 33) dX12_taken_33 rfl rfl ?_
        refine a_iconst (pc := 34) dX12_taken_34 ic_m1 ?_
        refine a_icmp_eq_f (pc := 35) (tgt := 51) dX12_taken_35 (by decide) (by decide) ?_
        refine a_iload_n (pc := 38) dX12_taken_38 rfl rfl ?_
        refine a_iload_n (pc := 39) dX12_taken_39 rfl rfl ?_
        refine a_icmp_eq_f (pc := 40) (tgt := 51) dX12_taken_40 (by decide) (by decide) ?_
        refine a_iload_n (pc := 43) dX12_taken_43 rfl rfl ?_
        refine a_callS (pc := 44) km_X12_440 dX12_taken_44 (f_over _) rfl rfl (rok_of hM (by decide) (by decide) (by omega) (by omega)) (Nat.le_of_ble_eq_true rfl) (fun r44 h44 hp44 => ?_)
        obtain ⟨rfl, rfl⟩ := hp44
        refine a_topi (by decide : overP (nI 2) = nI 0) ?_
        refine a_istore_n (pc := 47) dX12_taken_47 rfl (by decide) rfl ?_
        refine a_goto (pc := 48) (tgt := 33) dX12_taken_48 (by decide) ?_
        refine a_iload_n (pc := 33) dX12_taken_33 rfl rfl ?_
        refine a_iconst (pc := 34) dX12_taken_34 ic_m1 ?_
        refine a_icmp_eq_f (pc := 35) (tgt := 51) dX12_taken_35 (by decide) (by decide) ?_
        refine a_iload_n (pc := 38) dX12_taken_38 rfl rfl ?_
        refine a_iload_n (pc := 39) dX12_taken_39 rfl rfl ?_
        refine a_icmp_eq_f (pc := 40) (tgt := 51) dX12_taken_40 (by decide) (by decide) ?_
        refine a_iload_n (pc := 43) dX12_taken_43 rfl rfl ?_
        refine a_callS (pc := 44) km_X12_440 dX12_taken_44 (f_over _) rfl rfl (rok_of hM (by decide) (by decide) (by omega) (by omega)) (Nat.le_of_ble_eq_true rfl) (fun r44 h44 hp44 => ?_)
        obtain ⟨rfl, rfl⟩ := hp44
        refine a_topi (by decide : overP (nI 0) = -1) ?_
        refine a_istore_n (pc := 47) dX12_taken_47 rfl (by decide) rfl ?_
        refine a_goto (pc := 48) (tgt := 33) dX12_taken_48 (by decide) ?_
        refine a_iload_n (pc := 33) dX12_taken_33 rfl rfl ?_
        refine a_iconst (pc := 34) dX12_taken_34 ic_m1 ?_
        refine a_icmp_eq_t (pc := 35) (tgt := 51) dX12_taken_35 (by decide) (by decide) ?_
        refine a_iload_n (pc := 51) dX12_taken_51 rfl rfl ?_
        refine a_iload_n (pc := 52) dX12_taken_52 rfl rfl ?_
        refine a_icmp_ne_t (pc := 53) (tgt := 65) dX12_taken_53 (by decide) (by decide) ?_
        refine a_bipush (pc := 65) dX12_taken_65 ib_m13 ?_
        refine a_ret_i (pc := 67) hM rfl (rfl) dX12_taken_67 (by omega) (by omega) ?_
        exact ⟨by rw [R_taken, if_pos c9, if_pos c20, ek, show vA s 24 k = _ from hkv.symm, eo]; rfl, _, rfl, by rw [R_taken, if_pos c9, if_pos c20]; exact SP.rfl⟩
      · refine a_aload_n (pc := 26) dX12_taken_26 rfl rfl ?_
        refine a_getfield (pc := 27) kg_X12_69 dX12_taken_27 (m_obj hm) rfl ?_
        refine a_iload_n (pc := 30) dX12_taken_30 rfl rfl ?_
        refine a_iaload (pc := 31) dX12_taken_31 (m_a24 hm) (_) (rfl) (by omega) (by omega) ?_
        refine a_topi (hk1) ?_
        refine a_istore_n (pc := 32) dX12_taken_32 rfl (by decide) rfl ?_
        refine a_iload_n (pc := 33) dX12_taken_33 rfl rfl ?_
        refine a_iconst (pc := 34) dX12_taken_34 ic_m1 ?_
        refine a_icmp_eq_f (pc := 35) (tgt := 51) dX12_taken_35 (by decide) (by decide) ?_
        refine a_iload_n (pc := 38) dX12_taken_38 rfl rfl ?_
        refine a_iload_n (pc := 39) dX12_taken_39 rfl rfl ?_
        refine a_icmp_eq_t (pc := 40) (tgt := 51) dX12_taken_40 (by decide) (by decide) ?_
        refine a_iload_n (pc := 51) dX12_taken_51 rfl rfl ?_
        refine a_iload_n (pc := 52) dX12_taken_52 rfl rfl ?_
        refine a_icmp_ne_f (pc := 53) (tgt := 65) dX12_taken_53 (by decide) (by decide) ?_
        refine a_aload_n (pc := 56) dX12_taken_56 rfl rfl ?_
        refine a_getfield (pc := 57) kg_X12_72 dX12_taken_57 (m_obj hm) rfl ?_
        refine a_iload_n (pc := 60) dX12_taken_60 rfl rfl ?_
        refine a_iaload (pc := 61) dX12_taken_61 (m_a25 hm) (_) (rfl) (by omega) (by omega) ?_
        refine a_goto (pc := 62) (tgt := 67) dX12_taken_62 (by decide) ?_
        refine a_ret_i (pc := 67) hM rfl (rfl) dX12_taken_67 (by omega) (by omega) ?_
        exact ⟨by rw [R_taken, if_pos c9, if_pos c20, ek, show vA s 24 k = _ from hkv.symm, eo]; rfl, _, rfl, by rw [R_taken, if_pos c9, if_pos c20]; exact SP.rfl⟩
      · refine a_aload_n (pc := 26) dX12_taken_26 rfl rfl ?_
        refine a_getfield (pc := 27) kg_X12_69 dX12_taken_27 (m_obj hm) rfl ?_
        refine a_iload_n (pc := 30) dX12_taken_30 rfl rfl ?_
        refine a_iaload (pc := 31) dX12_taken_31 (m_a24 hm) (_) (rfl) (by omega) (by omega) ?_
        refine a_topi (hk1) ?_
        refine a_istore_n (pc := 32) dX12_taken_32 rfl (by decide) rfl ?_
        refine a_iload_n (pc := 33) dX12_taken_33 rfl rfl ?_
        refine a_iconst (pc := 34) dX12_taken_34 ic_m1 ?_
        refine a_icmp_eq_f (pc := 35) (tgt := 51) dX12_taken_35 (by decide) (by decide) ?_
        refine a_iload_n (pc := 38) dX12_taken_38 rfl rfl ?_
        refine a_iload_n (pc := 39) dX12_taken_39 rfl rfl ?_
        refine a_icmp_eq_f (pc := 40) (tgt := 51) dX12_taken_40 (by decide) (by decide) ?_
        refine a_iload_n (pc := 43) dX12_taken_43 rfl rfl ?_
        refine a_callS (pc := 44) km_X12_440 dX12_taken_44 (f_over _) rfl rfl (rok_of hM (by decide) (by decide) (by omega) (by omega)) (Nat.le_of_ble_eq_true rfl) (fun r44 h44 hp44 => ?_)
        obtain ⟨rfl, rfl⟩ := hp44
        refine a_topi (by decide : overP (nI 4) = nI 2) ?_
        refine a_istore_n (pc := 47) dX12_taken_47 rfl (by decide) rfl ?_
        refine a_goto (pc := 48) (tgt := 33) dX12_taken_48 (by decide) ?_
        refine a_iload_n (pc := 33) dX12_taken_33 rfl rfl ?_
        refine a_iconst (pc := 34) dX12_taken_34 ic_m1 ?_
        refine a_icmp_eq_f (pc := 35) (tgt := 51) dX12_taken_35 (by decide) (by decide) ?_
        refine a_iload_n (pc := 38) dX12_taken_38 rfl rfl ?_
        refine a_iload_n (pc := 39) dX12_taken_39 rfl rfl ?_
        refine a_icmp_eq_f (pc := 40) (tgt := 51) dX12_taken_40 (by decide) (by decide) ?_
        refine a_iload_n (pc := 43) dX12_taken_43 rfl rfl ?_
        refine a_callS (pc := 44) km_X12_440 dX12_taken_44 (f_over _) rfl rfl (rok_of hM (by decide) (by decide) (by omega) (by omega)) (Nat.le_of_ble_eq_true rfl) (fun r44 h44 hp44 => ?_)
        obtain ⟨rfl, rfl⟩ := hp44
        refine a_topi (by decide : overP (nI 2) = nI 0) ?_
        refine a_istore_n (pc := 47) dX12_taken_47 rfl (by decide) rfl ?_
        refine a_goto (pc := 48) (tgt := 33) dX12_taken_48 (by decide) ?_
        refine a_iload_n (pc := 33) dX12_taken_33 rfl rfl ?_
        refine a_iconst (pc := 34) dX12_taken_34 ic_m1 ?_
        refine a_icmp_eq_f (pc := 35) (tgt := 51) dX12_taken_35 (by decide) (by decide) ?_
        refine a_iload_n (pc := 38) dX12_taken_38 rfl rfl ?_
        refine a_iload_n (pc := 39) dX12_taken_39 rfl rfl ?_
        refine a_icmp_eq_f (pc := 40) (tgt := 51) dX12_taken_40 (by decide) (by decide) ?_
        refine a_iload_n (pc := 43) dX12_taken_43 rfl rfl ?_
        refine a_callS (pc := 44) km_X12_440 dX12_taken_44 (f_over _) rfl rfl (rok_of hM (by decide) (by decide) (by omega) (by omega)) (Nat.le_of_ble_eq_true rfl) (fun r44 h44 hp44 => ?_)
        obtain ⟨rfl, rfl⟩ := hp44
        refine a_topi (by decide : overP (nI 0) = -1) ?_
        refine a_istore_n (pc := 47) dX12_taken_47 rfl (by decide) rfl ?_
        refine a_goto (pc := 48) (tgt := 33) dX12_taken_48 (by decide) ?_
        refine a_iload_n (pc := 33) dX12_taken_33 rfl rfl ?_
        refine a_iconst (pc := 34) dX12_taken_34 ic_m1 ?_
        refine a_icmp_eq_t (pc := 35) (tgt := 51) dX12_taken_35 (by decide) (by decide) ?_
        refine a_iload_n (pc := 51) dX12_taken_51 rfl rfl ?_
        refine a_iload_n (pc := 52) dX12_taken_52 rfl rfl ?_
        refine a_icmp_ne_t (pc := 53) (tgt := 65) dX12_taken_53 (by decide) (by decide) ?_
        refine a_bipush (pc := 65) dX12_taken_65 ib_m13 ?_
        refine a_ret_i (pc := 67) hM rfl (rfl) dX12_taken_67 (by omega) (by omega) ?_
        exact ⟨by rw [R_taken, if_pos c9, if_pos c20, ek, show vA s 24 k = _ from hkv.symm, eo]; rfl, _, rfl, by rw [R_taken, if_pos c9, if_pos c20]; exact SP.rfl⟩
      · refine a_aload_n (pc := 26) dX12_taken_26 rfl rfl ?_
        refine a_getfield (pc := 27) kg_X12_69 dX12_taken_27 (m_obj hm) rfl ?_
        refine a_iload_n (pc := 30) dX12_taken_30 rfl rfl ?_
        refine a_iaload (pc := 31) dX12_taken_31 (m_a24 hm) (_) (rfl) (by omega) (by omega) ?_
        refine a_topi (hk1) ?_
        refine a_istore_n (pc := 32) dX12_taken_32 rfl (by decide) rfl ?_
        refine a_iload_n (pc := 33) dX12_taken_33 rfl rfl ?_
        refine a_iconst (pc := 34) dX12_taken_34 ic_m1 ?_
        refine a_icmp_eq_f (pc := 35) (tgt := 51) dX12_taken_35 (by decide) (by decide) ?_
        refine a_iload_n (pc := 38) dX12_taken_38 rfl rfl ?_
        refine a_iload_n (pc := 39) dX12_taken_39 rfl rfl ?_
        refine a_icmp_eq_f (pc := 40) (tgt := 51) dX12_taken_40 (by decide) (by decide) ?_
        refine a_iload_n (pc := 43) dX12_taken_43 rfl rfl ?_
        refine a_callS (pc := 44) km_X12_440 dX12_taken_44 (f_over _) rfl rfl (rok_of hM (by decide) (by decide) (by omega) (by omega)) (Nat.le_of_ble_eq_true rfl) (fun r44 h44 hp44 => ?_)
        obtain ⟨rfl, rfl⟩ := hp44
        refine a_topi (by decide : overP (nI 5) = nI 4) ?_
        refine a_istore_n (pc := 47) dX12_taken_47 rfl (by decide) rfl ?_
        refine a_goto (pc := 48) (tgt := 33) dX12_taken_48 (by decide) ?_
        refine a_iload_n (pc := 33) dX12_taken_33 rfl rfl ?_
        refine a_iconst (pc := 34) dX12_taken_34 ic_m1 ?_
        refine a_icmp_eq_f (pc := 35) (tgt := 51) dX12_taken_35 (by decide) (by decide) ?_
        refine a_iload_n (pc := 38) dX12_taken_38 rfl rfl ?_
        refine a_iload_n (pc := 39) dX12_taken_39 rfl rfl ?_
        refine a_icmp_eq_f (pc := 40) (tgt := 51) dX12_taken_40 (by decide) (by decide) ?_
        refine a_iload_n (pc := 43) dX12_taken_43 rfl rfl ?_
        refine a_callS (pc := 44) km_X12_440 dX12_taken_44 (f_over _) rfl rfl (rok_of hM (by decide) (by decide) (by omega) (by omega)) (Nat.le_of_ble_eq_true rfl) (fun r44 h44 hp44 => ?_)
        obtain ⟨rfl, rfl⟩ := hp44
        refine a_topi (by decide : overP (nI 4) = nI 2) ?_
        refine a_istore_n (pc := 47) dX12_taken_47 rfl (by decide) rfl ?_
        refine a_goto (pc := 48) (tgt := 33) dX12_taken_48 (by decide) ?_
        refine a_iload_n (pc := 33) dX12_taken_33 rfl rfl ?_
        refine a_iconst (pc := 34) dX12_taken_34 ic_m1 ?_
        refine a_icmp_eq_f (pc := 35) (tgt := 51) dX12_taken_35 (by decide) (by decide) ?_
        refine a_iload_n (pc := 38) dX12_taken_38 rfl rfl ?_
        refine a_iload_n (pc := 39) dX12_taken_39 rfl rfl ?_
        refine a_icmp_eq_f (pc := 40) (tgt := 51) dX12_taken_40 (by decide) (by decide) ?_
        refine a_iload_n (pc := 43) dX12_taken_43 rfl rfl ?_
        refine a_callS (pc := 44) km_X12_440 dX12_taken_44 (f_over _) rfl rfl (rok_of hM (by decide) (by decide) (by omega) (by omega)) (Nat.le_of_ble_eq_true rfl) (fun r44 h44 hp44 => ?_)
        obtain ⟨rfl, rfl⟩ := hp44
        refine a_topi (by decide : overP (nI 2) = nI 0) ?_
        refine a_istore_n (pc := 47) dX12_taken_47 rfl (by decide) rfl ?_
        refine a_goto (pc := 48) (tgt := 33) dX12_taken_48 (by decide) ?_
        refine a_iload_n (pc := 33) dX12_taken_33 rfl rfl ?_
        refine a_iconst (pc := 34) dX12_taken_34 ic_m1 ?_
        refine a_icmp_eq_f (pc := 35) (tgt := 51) dX12_taken_35 (by decide) (by decide) ?_
        refine a_iload_n (pc := 38) dX12_taken_38 rfl rfl ?_
        refine a_iload_n (pc := 39) dX12_taken_39 rfl rfl ?_
        refine a_icmp_eq_t (pc := 40) (tgt := 51) dX12_taken_40 (by decide) (by decide) ?_
        refine a_iload_n (pc := 51) dX12_taken_51 rfl rfl ?_
        refine a_iload_n (pc := 52) dX12_taken_52 rfl rfl ?_
        refine a_icmp_ne_f (pc := 53) (tgt := 65) dX12_taken_53 (by decide) (by decide) ?_
        refine a_aload_n (pc := 56) dX12_taken_56 rfl rfl ?_
        refine a_getfield (pc := 57) kg_X12_72 dX12_taken_57 (m_obj hm) rfl ?_
        refine a_iload_n (pc := 60) dX12_taken_60 rfl rfl ?_
        refine a_iaload (pc := 61) dX12_taken_61 (m_a25 hm) (_) (rfl) (by omega) (by omega) ?_
        refine a_goto (pc := 62) (tgt := 67) dX12_taken_62 (by decide) ?_
        refine a_ret_i (pc := 67) hM rfl (rfl) dX12_taken_67 (by omega) (by omega) ?_
        exact ⟨by rw [R_taken, if_pos c9, if_pos c20, ek, show vA s 24 k = _ from hkv.symm, eo]; rfl, _, rfl, by rw [R_taken, if_pos c9, if_pos c20]; exact SP.rfl⟩
      · refine a_aload_n (pc := 26) dX12_taken_26 rfl rfl ?_
        refine a_getfield (pc := 27) kg_X12_69 dX12_taken_27 (m_obj hm) rfl ?_
        refine a_iload_n (pc := 30) dX12_taken_30 rfl rfl ?_
        refine a_iaload (pc := 31) dX12_taken_31 (m_a24 hm) (_) (rfl) (by omega) (by omega) ?_
        refine a_topi (hk1) ?_
        refine a_istore_n (pc := 32) dX12_taken_32 rfl (by decide) rfl ?_
        refine a_iload_n (pc := 33) dX12_taken_33 rfl rfl ?_
        refine a_iconst (pc := 34) dX12_taken_34 ic_m1 ?_
        refine a_icmp_eq_f (pc := 35) (tgt := 51) dX12_taken_35 (by decide) (by decide) ?_
        refine a_iload_n (pc := 38) dX12_taken_38 rfl rfl ?_
        refine a_iload_n (pc := 39) dX12_taken_39 rfl rfl ?_
        refine a_icmp_eq_f (pc := 40) (tgt := 51) dX12_taken_40 (by decide) (by decide) ?_
        refine a_iload_n (pc := 43) dX12_taken_43 rfl rfl ?_
        refine a_callS (pc := 44) km_X12_440 dX12_taken_44 (f_over _) rfl rfl (rok_of hM (by decide) (by decide) (by omega) (by omega)) (Nat.le_of_ble_eq_true rfl) (fun r44 h44 hp44 => ?_)
        obtain ⟨rfl, rfl⟩ := hp44
        refine a_topi (by decide : overP (nI 5) = nI 4) ?_
        refine a_istore_n (pc := 47) dX12_taken_47 rfl (by decide) rfl ?_
        refine a_goto (pc := 48) (tgt := 33) dX12_taken_48 (by decide) ?_
        refine a_iload_n (pc := 33) dX12_taken_33 rfl rfl ?_
        refine a_iconst (pc := 34) dX12_taken_34 ic_m1 ?_
        refine a_icmp_eq_f (pc := 35) (tgt := 51) dX12_taken_35 (by decide) (by decide) ?_
        refine a_iload_n (pc := 38) dX12_taken_38 rfl rfl ?_
        refine a_iload_n (pc := 39) dX12_taken_39 rfl rfl ?_
        refine a_icmp_eq_f (pc := 40) (tgt := 51) dX12_taken_40 (by decide) (by decide) ?_
        refine a_iload_n (pc := 43) dX12_taken_43 rfl rfl ?_
        refine a_callS (pc := 44) km_X12_440 dX12_taken_44 (f_over _) rfl rfl (rok_of hM (by decide) (by decide) (by omega) (by omega)) (Nat.le_of_ble_eq_true rfl) (fun r44 h44 hp44 => ?_)
        obtain ⟨rfl, rfl⟩ := hp44
        refine a_topi (by decide : overP (nI 4) = nI 2) ?_
        refine a_istore_n (pc := 47) dX12_taken_47 rfl (by decide) rfl ?_
        refine a_goto (pc := 48) (tgt := 33) dX12_taken_48 (by decide) ?_
        refine a_iload_n (pc := 33) dX12_taken_33 rfl rfl ?_
        refine a_iconst (pc := 34) dX12_taken_34 ic_m1 ?_
        refine a_icmp_eq_f (pc := 35) (tgt := 51) dX12_taken_35 (by decide) (by decide) ?_
        refine a_iload_n (pc := 38) dX12_taken_38 rfl rfl ?_
        refine a_iload_n (pc := 39) dX12_taken_39 rfl rfl ?_
        refine a_icmp_eq_f (pc := 40) (tgt := 51) dX12_taken_40 (by decide) (by decide) ?_
        refine a_iload_n (pc := 43) dX12_taken_43 rfl rfl ?_
        refine a_callS (pc := 44) km_X12_440 dX12_taken_44 (f_over _) rfl rfl (rok_of hM (by decide) (by decide) (by omega) (by omega)) (Nat.le_of_ble_eq_true rfl) (fun r44 h44 hp44 => ?_)
        obtain ⟨rfl, rfl⟩ := hp44
        refine a_topi (by decide : overP (nI 2) = nI 0) ?_
        refine a_istore_n (pc := 47) dX12_taken_47 rfl (by decide) rfl ?_
        refine a_goto (pc := 48) (tgt := 33) dX12_taken_48 (by decide) ?_
        refine a_iload_n (pc := 33) dX12_taken_33 rfl rfl ?_
        refine a_iconst (pc := 34) dX12_taken_34 ic_m1 ?_
        refine a_icmp_eq_f (pc := 35) (tgt := 51) dX12_taken_35 (by decide) (by decide) ?_
        refine a_iload_n (pc := 38) dX12_taken_38 rfl rfl ?_
        refine a_iload_n (pc := 39) dX12_taken_39 rfl rfl ?_
        refine a_icmp_eq_f (pc := 40) (tgt := 51) dX12_taken_40 (by decide) (by decide) ?_
        refine a_iload_n (pc := 43) dX12_taken_43 rfl rfl ?_
        refine a_callS (pc := 44) km_X12_440 dX12_taken_44 (f_over _) rfl rfl (rok_of hM (by decide) (by decide) (by omega) (by omega)) (Nat.le_of_ble_eq_true rfl) (fun r44 h44 hp44 => ?_)
        obtain ⟨rfl, rfl⟩ := hp44
        refine a_topi (by decide : overP (nI 0) = -1) ?_
        refine a_istore_n (pc := 47) dX12_taken_47 rfl (by decide) rfl ?_
        refine a_goto (pc := 48) (tgt := 33) dX12_taken_48 (by decide) ?_
        refine a_iload_n (pc := 33) dX12_taken_33 rfl rfl ?_
        refine a_iconst (pc := 34) dX12_taken_34 ic_m1 ?_
        refine a_icmp_eq_t (pc := 35) (tgt := 51) dX12_taken_35 (by decide) (by decide) ?_
        refine a_iload_n (pc := 51) dX12_taken_51 rfl rfl ?_
        refine a_iload_n (pc := 52) dX12_taken_52 rfl rfl ?_
        refine a_icmp_ne_t (pc := 53) (tgt := 65) dX12_taken_53 (by decide) (by decide) ?_
        refine a_bipush (pc := 65) dX12_taken_65 ib_m13 ?_
        refine a_ret_i (pc := 67) hM rfl (rfl) dX12_taken_67 (by omega) (by omega) ?_
        exact ⟨by rw [R_taken, if_pos c9, if_pos c20, ek, show vA s 24 k = _ from hkv.symm, eo]; rfl, _, rfl, by rw [R_taken, if_pos c9, if_pos c20]; exact SP.rfl⟩
      · refine a_aload_n (pc := 26) dX12_taken_26 rfl rfl ?_
        refine a_getfield (pc := 27) kg_X12_69 dX12_taken_27 (m_obj hm) rfl ?_
        refine a_iload_n (pc := 30) dX12_taken_30 rfl rfl ?_
        refine a_iaload (pc := 31) dX12_taken_31 (m_a24 hm) (_) (rfl) (by omega) (by omega) ?_
        refine a_topi (hk1) ?_
        refine a_istore_n (pc := 32) dX12_taken_32 rfl (by decide) rfl ?_
        refine a_iload_n (pc := 33) dX12_taken_33 rfl rfl ?_
        refine a_iconst (pc := 34) dX12_taken_34 ic_m1 ?_
        refine a_icmp_eq_f (pc := 35) (tgt := 51) dX12_taken_35 (by decide) (by decide) ?_
        refine a_iload_n (pc := 38) dX12_taken_38 rfl rfl ?_
        refine a_iload_n (pc := 39) dX12_taken_39 rfl rfl ?_
        refine a_icmp_eq_f (pc := 40) (tgt := 51) dX12_taken_40 (by decide) (by decide) ?_
        refine a_iload_n (pc := 43) dX12_taken_43 rfl rfl ?_
        refine a_callS (pc := 44) km_X12_440 dX12_taken_44 (f_over _) rfl rfl (rok_of hM (by decide) (by decide) (by omega) (by omega)) (Nat.le_of_ble_eq_true rfl) (fun r44 h44 hp44 => ?_)
        obtain ⟨rfl, rfl⟩ := hp44
        refine a_topi (by decide : overP (nI 5) = nI 4) ?_
        refine a_istore_n (pc := 47) dX12_taken_47 rfl (by decide) rfl ?_
        refine a_goto (pc := 48) (tgt := 33) dX12_taken_48 (by decide) ?_
        refine a_iload_n (pc := 33) dX12_taken_33 rfl rfl ?_
        refine a_iconst (pc := 34) dX12_taken_34 ic_m1 ?_
        refine a_icmp_eq_f (pc := 35) (tgt := 51) dX12_taken_35 (by decide) (by decide) ?_
        refine a_iload_n (pc := 38) dX12_taken_38 rfl rfl ?_
        refine a_iload_n (pc := 39) dX12_taken_39 rfl rfl ?_
        refine a_icmp_eq_f (pc := 40) (tgt := 51) dX12_taken_40 (by decide) (by decide) ?_
        refine a_iload_n (pc := 43) dX12_taken_43 rfl rfl ?_
        refine a_callS (pc := 44) km_X12_440 dX12_taken_44 (f_over _) rfl rfl (rok_of hM (by decide) (by decide) (by omega) (by omega)) (Nat.le_of_ble_eq_true rfl) (fun r44 h44 hp44 => ?_)
        obtain ⟨rfl, rfl⟩ := hp44
        refine a_topi (by decide : overP (nI 4) = nI 2) ?_
        refine a_istore_n (pc := 47) dX12_taken_47 rfl (by decide) rfl ?_
        refine a_goto (pc := 48) (tgt := 33) dX12_taken_48 (by decide) ?_
        refine a_iload_n (pc := 33) dX12_taken_33 rfl rfl ?_
        refine a_iconst (pc := 34) dX12_taken_34 ic_m1 ?_
        refine a_icmp_eq_f (pc := 35) (tgt := 51) dX12_taken_35 (by decide) (by decide) ?_
        refine a_iload_n (pc := 38) dX12_taken_38 rfl rfl ?_
        refine a_iload_n (pc := 39) dX12_taken_39 rfl rfl ?_
        refine a_icmp_eq_t (pc := 40) (tgt := 51) dX12_taken_40 (by decide) (by decide) ?_
        refine a_iload_n (pc := 51) dX12_taken_51 rfl rfl ?_
        refine a_iload_n (pc := 52) dX12_taken_52 rfl rfl ?_
        refine a_icmp_ne_f (pc := 53) (tgt := 65) dX12_taken_53 (by decide) (by decide) ?_
        refine a_aload_n (pc := 56) dX12_taken_56 rfl rfl ?_
        refine a_getfield (pc := 57) kg_X12_72 dX12_taken_57 (m_obj hm) rfl ?_
        refine a_iload_n (pc := 60) dX12_taken_60 rfl rfl ?_
        refine a_iaload (pc := 61) dX12_taken_61 (m_a25 hm) (_) (rfl) (by omega) (by omega) ?_
        refine a_goto (pc := 62) (tgt := 67) dX12_taken_62 (by decide) ?_
        refine a_ret_i (pc := 67) hM rfl (rfl) dX12_taken_67 (by omega) (by omega) ?_
        exact ⟨by rw [R_taken, if_pos c9, if_pos c20, ek, show vA s 24 k = _ from hkv.symm, eo]; rfl, _, rfl, by rw [R_taken, if_pos c9, if_pos c20]; exact SP.rfl⟩
      · refine a_aload_n (pc := 26) dX12_taken_26 rfl rfl ?_
        refine a_getfield (pc := 27) kg_X12_69 dX12_taken_27 (m_obj hm) rfl ?_
        refine a_iload_n (pc := 30) dX12_taken_30 rfl rfl ?_
        refine a_iaload (pc := 31) dX12_taken_31 (m_a24 hm) (_) (rfl) (by omega) (by omega) ?_
        refine a_topi (hk1) ?_
        refine a_istore_n (pc := 32) dX12_taken_32 rfl (by decide) rfl ?_
        refine a_iload_n (pc := 33) dX12_taken_33 rfl rfl ?_
        refine a_iconst (pc := 34) dX12_taken_34 ic_m1 ?_
        refine a_icmp_eq_f (pc := 35) (tgt := 51) dX12_taken_35 (by decide) (by decide) ?_
        refine a_iload_n (pc := 38) dX12_taken_38 rfl rfl ?_
        refine a_iload_n (pc := 39) dX12_taken_39 rfl rfl ?_
        refine a_icmp_eq_f (pc := 40) (tgt := 51) dX12_taken_40 (by decide) (by decide) ?_
        refine a_iload_n (pc := 43) dX12_taken_43 rfl rfl ?_
        refine a_callS (pc := 44) km_X12_440 dX12_taken_44 (f_over _) rfl rfl (rok_of hM (by decide) (by decide) (by omega) (by omega)) (Nat.le_of_ble_eq_true rfl) (fun r44 h44 hp44 => ?_)
        obtain ⟨rfl, rfl⟩ := hp44
        refine a_topi (by decide : overP (nI 5) = nI 4) ?_
        refine a_istore_n (pc := 47) dX12_taken_47 rfl (by decide) rfl ?_
        refine a_goto (pc := 48) (tgt := 33) dX12_taken_48 (by decide) ?_
        refine a_iload_n (pc := 33) dX12_taken_33 rfl rfl ?_
        refine a_iconst (pc := 34) dX12_taken_34 ic_m1 ?_
        refine a_icmp_eq_f (pc := 35) (tgt := 51) dX12_taken_35 (by decide) (by decide) ?_
        refine a_iload_n (pc := 38) dX12_taken_38 rfl rfl ?_
        refine a_iload_n (pc := 39) dX12_taken_39 rfl rfl ?_
        refine a_icmp_eq_f (pc := 40) (tgt := 51) dX12_taken_40 (by decide) (by decide) ?_
        refine a_iload_n (pc := 43) dX12_taken_43 rfl rfl ?_
        refine a_callS (pc := 44) km_X12_440 dX12_taken_44 (f_over _) rfl rfl (rok_of hM (by decide) (by decide) (by omega) (by omega)) (Nat.le_of_ble_eq_true rfl) (fun r44 h44 hp44 => ?_)
        obtain ⟨rfl, rfl⟩ := hp44
        refine a_topi (by decide : overP (nI 4) = nI 2) ?_
        refine a_istore_n (pc := 47) dX12_taken_47 rfl (by decide) rfl ?_
        refine a_goto (pc := 48) (tgt := 33) dX12_taken_48 (by decide) ?_
        refine a_iload_n (pc := 33) dX12_taken_33 rfl rfl ?_
        refine a_iconst (pc := 34) dX12_taken_34 ic_m1 ?_
        refine a_icmp_eq_f (pc := 35) (tgt := 51) dX12_taken_35 (by decide) (by decide) ?_
        refine a_iload_n (pc := 38) dX12_taken_38 rfl rfl ?_
        refine a_iload_n (pc := 39) dX12_taken_39 rfl rfl ?_
        refine a_icmp_eq_f (pc := 40) (tgt := 51) dX12_taken_40 (by decide) (by decide) ?_
        refine a_iload_n (pc := 43) dX12_taken_43 rfl rfl ?_
        refine a_callS (pc := 44) km_X12_440 dX12_taken_44 (f_over _) rfl rfl (rok_of hM (by decide) (by decide) (by omega) (by omega)) (Nat.le_of_ble_eq_true rfl) (fun r44 h44 hp44 => ?_)
        obtain ⟨rfl, rfl⟩ := hp44
        refine a_topi (by decide : overP (nI 2) = nI 0) ?_
        refine a_istore_n (pc := 47) dX12_taken_47 rfl (by decide) rfl ?_
        refine a_goto (pc := 48) (tgt := 33) dX12_taken_48 (by decide) ?_
        refine a_iload_n (pc := 33) dX12_taken_33 rfl rfl ?_
        refine a_iconst (pc := 34) dX12_taken_34 ic_m1 ?_
        refine a_icmp_eq_f (pc := 35) (tgt := 51) dX12_taken_35 (by decide) (by decide) ?_
        refine a_iload_n (pc := 38) dX12_taken_38 rfl rfl ?_
        refine a_iload_n (pc := 39) dX12_taken_39 rfl rfl ?_
        refine a_icmp_eq_f (pc := 40) (tgt := 51) dX12_taken_40 (by decide) (by decide) ?_
        refine a_iload_n (pc := 43) dX12_taken_43 rfl rfl ?_
        refine a_callS (pc := 44) km_X12_440 dX12_taken_44 (f_over _) rfl rfl (rok_of hM (by decide) (by decide) (by omega) (by omega)) (Nat.le_of_ble_eq_true rfl) (fun r44 h44 hp44 => ?_)
        obtain ⟨rfl, rfl⟩ := hp44
        refine a_topi (by decide : overP (nI 0) = -1) ?_
        refine a_istore_n (pc := 47) dX12_taken_47 rfl (by decide) rfl ?_
        refine a_goto (pc := 48) (tgt := 33) dX12_taken_48 (by decide) ?_
        refine a_iload_n (pc := 33) dX12_taken_33 rfl rfl ?_
        refine a_iconst (pc := 34) dX12_taken_34 ic_m1 ?_
        refine a_icmp_eq_t (pc := 35) (tgt := 51) dX12_taken_35 (by decide) (by decide) ?_
        refine a_iload_n (pc := 51) dX12_taken_51 rfl rfl ?_
        refine a_iload_n (pc := 52) dX12_taken_52 rfl rfl ?_
        refine a_icmp_ne_t (pc := 53) (tgt := 65) dX12_taken_53 (by decide) (by decide) ?_
        refine a_bipush (pc := 65) dX12_taken_65 ib_m13 ?_
        refine a_ret_i (pc := 67) hM rfl (rfl) dX12_taken_67 (by omega) (by omega) ?_
        exact ⟨by rw [R_taken, if_pos c9, if_pos c20, ek, show vA s 24 k = _ from hkv.symm, eo]; rfl, _, rfl, by rw [R_taken, if_pos c9, if_pos c20]; exact SP.rfl⟩
      · refine a_aload_n (pc := 26) dX12_taken_26 rfl rfl ?_
        refine a_getfield (pc := 27) kg_X12_69 dX12_taken_27 (m_obj hm) rfl ?_
        refine a_iload_n (pc := 30) dX12_taken_30 rfl rfl ?_
        refine a_iaload (pc := 31) dX12_taken_31 (m_a24 hm) (_) (rfl) (by omega) (by omega) ?_
        refine a_topi (hk1) ?_
        refine a_istore_n (pc := 32) dX12_taken_32 rfl (by decide) rfl ?_
        refine a_iload_n (pc := 33) dX12_taken_33 rfl rfl ?_
        refine a_iconst (pc := 34) dX12_taken_34 ic_m1 ?_
        refine a_icmp_eq_f (pc := 35) (tgt := 51) dX12_taken_35 (by decide) (by decide) ?_
        refine a_iload_n (pc := 38) dX12_taken_38 rfl rfl ?_
        refine a_iload_n (pc := 39) dX12_taken_39 rfl rfl ?_
        refine a_icmp_eq_f (pc := 40) (tgt := 51) dX12_taken_40 (by decide) (by decide) ?_
        refine a_iload_n (pc := 43) dX12_taken_43 rfl rfl ?_
        refine a_callS (pc := 44) km_X12_440 dX12_taken_44 (f_over _) rfl rfl (rok_of hM (by decide) (by decide) (by omega) (by omega)) (Nat.le_of_ble_eq_true rfl) (fun r44 h44 hp44 => ?_)
        obtain ⟨rfl, rfl⟩ := hp44
        refine a_topi (by decide : overP (nI 5) = nI 4) ?_
        refine a_istore_n (pc := 47) dX12_taken_47 rfl (by decide) rfl ?_
        refine a_goto (pc := 48) (tgt := 33) dX12_taken_48 (by decide) ?_
        refine a_iload_n (pc := 33) dX12_taken_33 rfl rfl ?_
        refine a_iconst (pc := 34) dX12_taken_34 ic_m1 ?_
        refine a_icmp_eq_f (pc := 35) (tgt := 51) dX12_taken_35 (by decide) (by decide) ?_
        refine a_iload_n (pc := 38) dX12_taken_38 rfl rfl ?_
        refine a_iload_n (pc := 39) dX12_taken_39 rfl rfl ?_
        refine a_icmp_eq_t (pc := 40) (tgt := 51) dX12_taken_40 (by decide) (by decide) ?_
        refine a_iload_n (pc := 51) dX12_taken_51 rfl rfl ?_
        refine a_iload_n (pc := 52) dX12_taken_52 rfl rfl ?_
        refine a_icmp_ne_f (pc := 53) (tgt := 65) dX12_taken_53 (by decide) (by decide) ?_
        refine a_aload_n (pc := 56) dX12_taken_56 rfl rfl ?_
        refine a_getfield (pc := 57) kg_X12_72 dX12_taken_57 (m_obj hm) rfl ?_
        refine a_iload_n (pc := 60) dX12_taken_60 rfl rfl ?_
        refine a_iaload (pc := 61) dX12_taken_61 (m_a25 hm) (_) (rfl) (by omega) (by omega) ?_
        refine a_goto (pc := 62) (tgt := 67) dX12_taken_62 (by decide) ?_
        refine a_ret_i (pc := 67) hM rfl (rfl) dX12_taken_67 (by omega) (by omega) ?_
        exact ⟨by rw [R_taken, if_pos c9, if_pos c20, ek, show vA s 24 k = _ from hkv.symm, eo]; rfl, _, rfl, by rw [R_taken, if_pos c9, if_pos c20]; exact SP.rfl⟩
      · refine a_aload_n (pc := 26) dX12_taken_26 rfl rfl ?_
        refine a_getfield (pc := 27) kg_X12_69 dX12_taken_27 (m_obj hm) rfl ?_
        refine a_iload_n (pc := 30) dX12_taken_30 rfl rfl ?_
        refine a_iaload (pc := 31) dX12_taken_31 (m_a24 hm) (_) (rfl) (by omega) (by omega) ?_
        refine a_topi (hk1) ?_
        refine a_istore_n (pc := 32) dX12_taken_32 rfl (by decide) rfl ?_
        refine a_iload_n (pc := 33) dX12_taken_33 rfl rfl ?_
        refine a_iconst (pc := 34) dX12_taken_34 ic_m1 ?_
        refine a_icmp_eq_f (pc := 35) (tgt := 51) dX12_taken_35 (by decide) (by decide) ?_
        refine a_iload_n (pc := 38) dX12_taken_38 rfl rfl ?_
        refine a_iload_n (pc := 39) dX12_taken_39 rfl rfl ?_
        refine a_icmp_eq_t (pc := 40) (tgt := 51) dX12_taken_40 (by decide) (by decide) ?_
        refine a_iload_n (pc := 51) dX12_taken_51 rfl rfl ?_
        refine a_iload_n (pc := 52) dX12_taken_52 rfl rfl ?_
        refine a_icmp_ne_f (pc := 53) (tgt := 65) dX12_taken_53 (by decide) (by decide) ?_
        refine a_aload_n (pc := 56) dX12_taken_56 rfl rfl ?_
        refine a_getfield (pc := 57) kg_X12_72 dX12_taken_57 (m_obj hm) rfl ?_
        refine a_iload_n (pc := 60) dX12_taken_60 rfl rfl ?_
        refine a_iaload (pc := 61) dX12_taken_61 (m_a25 hm) (_) (rfl) (by omega) (by omega) ?_
        refine a_goto (pc := 62) (tgt := 67) dX12_taken_62 (by decide) ?_
        refine a_ret_i (pc := 67) hM rfl (rfl) dX12_taken_67 (by omega) (by omega) ?_
        exact ⟨by rw [R_taken, if_pos c9, if_pos c20, ek, show vA s 24 k = _ from hkv.symm, eo]; rfl, _, rfl, by rw [R_taken, if_pos c9, if_pos c20]; exact SP.rfl⟩
    · refine a_bipush (pc := 23) dX12_taken_23 ib_m11 ?_
      refine a_ret_i (pc := 25) hM rfl (rfl) dX12_taken_25 (by omega) (by omega) ?_
      exact ⟨by rw [R_taken, if_pos c9, if_neg (by rw [c20]; decide)], _, rfl, by rw [R_taken, if_pos c9, if_neg (by rw [c20]; decide)]; exact SP.rfl⟩
  · refine a_bipush (pc := 12) dX12_taken_12 ib_m2 ?_
    refine a_ret_i (pc := 14) hM rfl (rfl) dX12_taken_14 (by omega) (by omega) ?_
    exact ⟨by rw [R_taken, if_neg (by rw [c9]; decide)], _, rfl, by rw [R_taken, if_neg (by rw [c9]; decide)]; exact SP.rfl⟩

def dsum (c : Nat) : Nat := c % 10 + c / 10 % 10 + c / 10 / 10 % 10 + c / 10 / 10 / 10 % 10 + c / 10 / 10 / 10 / 10 % 10
def packF (A : Nat → Int32) (off c : Nat) : Nat → Int32 := upd (upd (upd (upd (upd A (off + 4) (nI (c % 10))) (off + 3) (nI (c / 10 % 10))) (off + 2) (nI (c / 10 / 10 % 10))) (off + 1) (nI (c / 10 / 10 / 10 % 10))) (off + 0) (nI (c / 10 / 10 / 10 / 10 % 10))
def N_pack (s : MST) (c : Nat) : MST := si (sa (sa s 8 (packF (s.2.1 8) (5 * vI s 10) c)) 9 (upd (s.2.1 9) (vI s 10) (nI (dsum c)))) 10 (nI (vI s 10 + 1))
def R_pack (s : MST) (x : Int32) : Int32 × MST := if inR x 1 99999 = true then (if dsum x.toNatClampNeg ≤ 25 then (if vI s 10 = 4 then (-4, s) else (nI (vI s 10), N_pack s x.toNatClampNeg)) else (-2, s)) else (-2, s)
theorem dsum_s {c : Nat} (h : c < 100000) : dsum c = c % 10 + dsum (c / 10) := by unfold dsum; omega
theorem dsum_le (c : Nat) : dsum c ≤ 45 := by unfold dsum; omega
theorem dsum_0 : dsum 0 = 0 := by decide
theorem SP.of {a b : MST} (h : a = b) : SP a b := h ▸ SP.rfl
set_option maxHeartbeats 1000000 in
set_option maxRecDepth 4000 in
theorem f_pack (hm : MI m) (hV : MV s) (x : Int32) : Fn X 1 0 0 yX12_pack cX12_pack 5 (some .int) [.ref (m 65), .int x] (mh m s h0) (fun rv hv => rv = some (.int (R_pack s x).1) ∧ ∃ s' : MST, hv = mh m s' h0 ∧ SP s' (R_pack s x).2) := by
  obtain ⟨⟨hn10, hb10⟩, hp10⟩ := id hV.1
  refine fn_of (by decide) (Nat.le_of_ble_eq_true rfl) (fun M hM => ?_)
  refine a_iload_n (pc := 0) dX12_pack_0 rfl rfl ?_
  refine a_i2l (pc := 1) dX12_pack_1 ?_
  refine a_lconst (pc := 2) (v := lN 1) dX12_pack_2 rfl ?_
  refine a_ldc2 (pc := 3) kc_X12_148 dX12_pack_3 ?_
  refine a_topl (z := lN 99999) rfl ?_
  refine a_callS (pc := 6) km_X12_142 dX12_pack_6 (f_in _ _ _) rfl rfl (rok_of hM (by decide) (by decide) (by omega) (by omega)) (Nat.le_of_ble_eq_true rfl) (fun r6 h6 hp6 => ?_)
  obtain ⟨rfl, rfl⟩ := hp6
  refine a_topi (congrArg bI (in_rng3 (x := x) (a := 1) (b := 99999) (by decide) (by decide))) ?_
  refine a_if_neB (pc := 9) (tgt := 15) dX12_pack_9 (by decide) (fun c9 => ?_) (fun c9 => ?_)
  · obtain ⟨c, hc1, hc2, rfl⟩ := inR_of c9 (by omega)
    have ec : (nI c).toNatClampNeg = c := nI_clamp (by omega)
    refine a_iconst (pc := 15) dX12_pack_15 ic_0 ?_
    refine a_istore_n (pc := 16) dX12_pack_16 rfl (by decide) rfl ?_
    refine a_iload_n (pc := 17) dX12_pack_17 rfl rfl ?_
    refine a_istore_n (pc := 18) dX12_pack_18 rfl (by decide) rfl ?_
    have hd45 := dsum_le c
    have fin : ∀ l : Nat, AJ X M yX12_pack cX12_pack 5 (some .int) 38 [(0, .ref (m 65)), (1, .int (nI c)), (2, .int (nI (dsum c))), (3, .int (nI l))] [] (mh m s h0) 0 0 := by
      intro l
      refine a_iload_n (pc := 38) dX12_pack_38 rfl rfl ?_
      refine a_bipush (pc := 39) dX12_pack_39 ib_25 ?_
      refine a_icmp_leN (pc := 41) (tgt := 47) dX12_pack_41 (by decide) (by omega) (by omega) (fun c41 => ?_) (fun c41 => ?_)
      · refine a_aload_n (pc := 47) dX12_pack_47 rfl rfl ?_
        refine a_getfield (pc := 48) kg_X12_150 dX12_pack_48 (m_obj hm) rfl ?_
        refine a_topi (hn10) ?_
        refine a_iconst (pc := 51) dX12_pack_51 ic_4 ?_
        refine a_icmp_neN (pc := 52) (tgt := 58) dX12_pack_52 (by decide) (by omega) (by omega) (fun c52 => ?_) (fun c52 => ?_)
        · refine a_iload_n (pc := 58) dX12_pack_58 rfl rfl ?_
          refine a_istore_n (pc := 59) dX12_pack_59 rfl (by decide) rfl ?_
          refine a_iconst (pc := 60) dX12_pack_60 ic_4 ?_
          refine a_istore (pc := 61) dX12_pack_61 (by decide) rfl ?_
          refine a_iload (pc := 63) dX12_pack_63 rfl ?_
          refine a_if_lt_f (pc := 65) (tgt := 97) dX12_pack_65 (by decide) (by decide) ?_
          refine a_aload_n (pc := 68) dX12_pack_68 rfl rfl ?_
          refine a_getfield (pc := 69) kg_X12_27 dX12_pack_69 (m_obj hm) rfl ?_
          refine a_iconst (pc := 72) dX12_pack_72 ic_5 ?_
          refine a_aload_n (pc := 73) dX12_pack_73 rfl rfl ?_
          refine a_getfield (pc := 74) kg_X12_150 dX12_pack_74 (m_obj hm) rfl ?_
          refine a_topi (hn10) ?_
          refine a_imulN (pc := 77) dX12_pack_77 ?_
          refine a_iload (pc := 78) dX12_pack_78 rfl ?_
          refine a_iaddN (pc := 80) dX12_pack_80 ?_
          refine a_iload_n (pc := 81) dX12_pack_81 rfl rfl ?_
          refine a_bipush (pc := 82) dX12_pack_82 ib_10 ?_
          refine a_iremN (pc := 84) dX12_pack_84 (by omega) (by omega) (by omega) ?_
          refine a_iastore (pc := 85) dX12_pack_85 (m_a8 hm) (_) (rfl) (by omega) (by omega) ?_
          refine a_hp (m_p8 hm) ?_
          refine a_hp (show _ = mh m (sa s 8 (upd (s.2.1 8) (5 * vI s 10 + 4) (nI (c % 10)))) h0 from congrArg (fun t => mh m t h0) (rfl)) ?_
          refine a_iload_n (pc := 86) dX12_pack_86 rfl rfl ?_
          refine a_bipush (pc := 87) dX12_pack_87 ib_10 ?_
          refine a_idivN (pc := 89) dX12_pack_89 (by omega) (by omega) (by omega) ?_
          refine a_istore_n (pc := 90) dX12_pack_90 rfl (by decide) rfl ?_
          refine a_iinc (pc := 91) dX12_pack_91 rfl (pk_m1 _) (by decide) rfl ?_
          refine a_goto (pc := 94) (tgt := 63) dX12_pack_94 (by decide) ?_
          refine a_iload (pc := 63) dX12_pack_63 rfl ?_
          refine a_if_lt_f (pc := 65) (tgt := 97) dX12_pack_65 (by decide) (by decide) ?_
          refine a_aload_n (pc := 68) dX12_pack_68 rfl rfl ?_
          refine a_getfield (pc := 69) kg_X12_27 dX12_pack_69 (m_obj hm) rfl ?_
          refine a_iconst (pc := 72) dX12_pack_72 ic_5 ?_
          refine a_aload_n (pc := 73) dX12_pack_73 rfl rfl ?_
          refine a_getfield (pc := 74) kg_X12_150 dX12_pack_74 (m_obj hm) rfl ?_
          refine a_topi (hn10) ?_
          refine a_imulN (pc := 77) dX12_pack_77 ?_
          refine a_iload (pc := 78) dX12_pack_78 rfl ?_
          refine a_iaddN (pc := 80) dX12_pack_80 ?_
          refine a_iload_n (pc := 81) dX12_pack_81 rfl rfl ?_
          refine a_bipush (pc := 82) dX12_pack_82 ib_10 ?_
          refine a_iremN (pc := 84) dX12_pack_84 (by omega) (by omega) (by omega) ?_
          refine a_iastore (pc := 85) dX12_pack_85 (m_a8 hm) (_) (rfl) (by omega) (by omega) ?_
          refine a_hp (m_p8 hm) ?_
          refine a_hp (show _ = mh m (sa s 8 (upd (upd (s.2.1 8) (5 * vI s 10 + 4) (nI (c % 10))) (5 * vI s 10 + 3) (nI (c / 10 % 10)))) h0 from congrArg (fun t => mh m t h0) (sa_sa)) ?_
          refine a_iload_n (pc := 86) dX12_pack_86 rfl rfl ?_
          refine a_bipush (pc := 87) dX12_pack_87 ib_10 ?_
          refine a_idivN (pc := 89) dX12_pack_89 (by omega) (by omega) (by omega) ?_
          refine a_istore_n (pc := 90) dX12_pack_90 rfl (by decide) rfl ?_
          refine a_iinc (pc := 91) dX12_pack_91 rfl (pk_m1 _) (by decide) rfl ?_
          refine a_goto (pc := 94) (tgt := 63) dX12_pack_94 (by decide) ?_
          refine a_iload (pc := 63) dX12_pack_63 rfl ?_
          refine a_if_lt_f (pc := 65) (tgt := 97) dX12_pack_65 (by decide) (by decide) ?_
          refine a_aload_n (pc := 68) dX12_pack_68 rfl rfl ?_
          refine a_getfield (pc := 69) kg_X12_27 dX12_pack_69 (m_obj hm) rfl ?_
          refine a_iconst (pc := 72) dX12_pack_72 ic_5 ?_
          refine a_aload_n (pc := 73) dX12_pack_73 rfl rfl ?_
          refine a_getfield (pc := 74) kg_X12_150 dX12_pack_74 (m_obj hm) rfl ?_
          refine a_topi (hn10) ?_
          refine a_imulN (pc := 77) dX12_pack_77 ?_
          refine a_iload (pc := 78) dX12_pack_78 rfl ?_
          refine a_iaddN (pc := 80) dX12_pack_80 ?_
          refine a_iload_n (pc := 81) dX12_pack_81 rfl rfl ?_
          refine a_bipush (pc := 82) dX12_pack_82 ib_10 ?_
          refine a_iremN (pc := 84) dX12_pack_84 (by omega) (by omega) (by omega) ?_
          refine a_iastore (pc := 85) dX12_pack_85 (m_a8 hm) (_) (rfl) (by omega) (by omega) ?_
          refine a_hp (m_p8 hm) ?_
          refine a_hp (show _ = mh m (sa s 8 (upd (upd (upd (s.2.1 8) (5 * vI s 10 + 4) (nI (c % 10))) (5 * vI s 10 + 3) (nI (c / 10 % 10))) (5 * vI s 10 + 2) (nI (c / 10 / 10 % 10)))) h0 from congrArg (fun t => mh m t h0) (sa_sa)) ?_
          refine a_iload_n (pc := 86) dX12_pack_86 rfl rfl ?_
          refine a_bipush (pc := 87) dX12_pack_87 ib_10 ?_
          refine a_idivN (pc := 89) dX12_pack_89 (by omega) (by omega) (by omega) ?_
          refine a_istore_n (pc := 90) dX12_pack_90 rfl (by decide) rfl ?_
          refine a_iinc (pc := 91) dX12_pack_91 rfl (pk_m1 _) (by decide) rfl ?_
          refine a_goto (pc := 94) (tgt := 63) dX12_pack_94 (by decide) ?_
          refine a_iload (pc := 63) dX12_pack_63 rfl ?_
          refine a_if_lt_f (pc := 65) (tgt := 97) dX12_pack_65 (by decide) (by decide) ?_
          refine a_aload_n (pc := 68) dX12_pack_68 rfl rfl ?_
          refine a_getfield (pc := 69) kg_X12_27 dX12_pack_69 (m_obj hm) rfl ?_
          refine a_iconst (pc := 72) dX12_pack_72 ic_5 ?_
          refine a_aload_n (pc := 73) dX12_pack_73 rfl rfl ?_
          refine a_getfield (pc := 74) kg_X12_150 dX12_pack_74 (m_obj hm) rfl ?_
          refine a_topi (hn10) ?_
          refine a_imulN (pc := 77) dX12_pack_77 ?_
          refine a_iload (pc := 78) dX12_pack_78 rfl ?_
          refine a_iaddN (pc := 80) dX12_pack_80 ?_
          refine a_iload_n (pc := 81) dX12_pack_81 rfl rfl ?_
          refine a_bipush (pc := 82) dX12_pack_82 ib_10 ?_
          refine a_iremN (pc := 84) dX12_pack_84 (by omega) (by omega) (by omega) ?_
          refine a_iastore (pc := 85) dX12_pack_85 (m_a8 hm) (_) (rfl) (by omega) (by omega) ?_
          refine a_hp (m_p8 hm) ?_
          refine a_hp (show _ = mh m (sa s 8 (upd (upd (upd (upd (s.2.1 8) (5 * vI s 10 + 4) (nI (c % 10))) (5 * vI s 10 + 3) (nI (c / 10 % 10))) (5 * vI s 10 + 2) (nI (c / 10 / 10 % 10))) (5 * vI s 10 + 1) (nI (c / 10 / 10 / 10 % 10)))) h0 from congrArg (fun t => mh m t h0) (sa_sa)) ?_
          refine a_iload_n (pc := 86) dX12_pack_86 rfl rfl ?_
          refine a_bipush (pc := 87) dX12_pack_87 ib_10 ?_
          refine a_idivN (pc := 89) dX12_pack_89 (by omega) (by omega) (by omega) ?_
          refine a_istore_n (pc := 90) dX12_pack_90 rfl (by decide) rfl ?_
          refine a_iinc (pc := 91) dX12_pack_91 rfl (pk_m1 _) (by decide) rfl ?_
          refine a_goto (pc := 94) (tgt := 63) dX12_pack_94 (by decide) ?_
          refine a_iload (pc := 63) dX12_pack_63 rfl ?_
          refine a_if_lt_f (pc := 65) (tgt := 97) dX12_pack_65 (by decide) (by decide) ?_
          refine a_aload_n (pc := 68) dX12_pack_68 rfl rfl ?_
          refine a_getfield (pc := 69) kg_X12_27 dX12_pack_69 (m_obj hm) rfl ?_
          refine a_iconst (pc := 72) dX12_pack_72 ic_5 ?_
          refine a_aload_n (pc := 73) dX12_pack_73 rfl rfl ?_
          refine a_getfield (pc := 74) kg_X12_150 dX12_pack_74 (m_obj hm) rfl ?_
          refine a_topi (hn10) ?_
          refine a_imulN (pc := 77) dX12_pack_77 ?_
          refine a_iload (pc := 78) dX12_pack_78 rfl ?_
          refine a_iaddN (pc := 80) dX12_pack_80 ?_
          refine a_iload_n (pc := 81) dX12_pack_81 rfl rfl ?_
          refine a_bipush (pc := 82) dX12_pack_82 ib_10 ?_
          refine a_iremN (pc := 84) dX12_pack_84 (by omega) (by omega) (by omega) ?_
          refine a_iastore (pc := 85) dX12_pack_85 (m_a8 hm) (_) (rfl) (by omega) (by omega) ?_
          refine a_hp (m_p8 hm) ?_
          refine a_hp (show _ = mh m (sa s 8 (upd (upd (upd (upd (upd (s.2.1 8) (5 * vI s 10 + 4) (nI (c % 10))) (5 * vI s 10 + 3) (nI (c / 10 % 10))) (5 * vI s 10 + 2) (nI (c / 10 / 10 % 10))) (5 * vI s 10 + 1) (nI (c / 10 / 10 / 10 % 10))) (5 * vI s 10 + 0) (nI (c / 10 / 10 / 10 / 10 % 10)))) h0 from congrArg (fun t => mh m t h0) (sa_sa)) ?_
          refine a_iload_n (pc := 86) dX12_pack_86 rfl rfl ?_
          refine a_bipush (pc := 87) dX12_pack_87 ib_10 ?_
          refine a_idivN (pc := 89) dX12_pack_89 (by omega) (by omega) (by omega) ?_
          refine a_istore_n (pc := 90) dX12_pack_90 rfl (by decide) rfl ?_
          refine a_iinc (pc := 91) dX12_pack_91 rfl rfl (by decide) rfl ?_
          refine a_goto (pc := 94) (tgt := 63) dX12_pack_94 (by decide) ?_
          refine a_iload (pc := 63) dX12_pack_63 rfl ?_
          refine a_if_lt_t (pc := 65) (tgt := 97) dX12_pack_65 (by decide) (by decide) ?_
          refine a_aload_n (pc := 97) dX12_pack_97 rfl rfl ?_
          refine a_getfield (pc := 98) kg_X12_30 dX12_pack_98 (m_obj hm) rfl ?_
          refine a_aload_n (pc := 101) dX12_pack_101 rfl rfl ?_
          refine a_getfield (pc := 102) kg_X12_150 dX12_pack_102 (m_obj hm) rfl ?_
          refine a_topi (hn10) ?_
          refine a_iload_n (pc := 105) dX12_pack_105 rfl rfl ?_
          refine a_iastore (pc := 106) dX12_pack_106 (m_a9 hm) (_) (rfl) (by omega) (by omega) ?_
          refine a_hp (m_p9 hm) ?_
          refine a_aload_n (pc := 107) dX12_pack_107 rfl rfl ?_
          refine a_dup (pc := 108) dX12_pack_108 rfl ?_
          refine a_getfield (pc := 109) kg_X12_150 dX12_pack_109 (m_obj hm) rfl ?_
          refine a_topi (hn10) ?_
          refine a_iconst (pc := 112) dX12_pack_112 ic_1 ?_
          refine a_iaddN (pc := 113) dX12_pack_113 ?_
          refine a_putfield (pc := 114) kf_X12_150 dX12_pack_114 (m_obj hm) (rfl) (by rfl) (Nat.le_of_ble_eq_true rfl) ?_
          refine a_hp (m_p10 hm) ?_
          refine a_aload_n (pc := 117) dX12_pack_117 rfl rfl ?_
          refine a_getfield (pc := 118) kg_X12_150 dX12_pack_118 (m_obj hm) rfl ?_
          refine a_topi ((show _ = nI (vI s 10 + 1) from rfl)) ?_
          refine a_iconst (pc := 121) dX12_pack_121 ic_1 ?_
          refine a_isubN (pc := 122) dX12_pack_122 (by omega) ?_
          refine a_ret_i (pc := 123) hM rfl (rfl) dX12_pack_123 (by omega) (by omega) ?_
          exact ⟨by rw [R_pack, if_pos c9, ec, if_pos c41, if_neg c52]; rfl, _, rfl, by rw [R_pack, if_pos c9, ec, if_pos c41, if_neg c52]; exact SP.rfl⟩
        · refine a_bipush (pc := 55) dX12_pack_55 ib_m4 ?_
          refine a_ret_i (pc := 57) hM rfl (rfl) dX12_pack_57 (by omega) (by omega) ?_
          exact ⟨by rw [R_pack, if_pos c9, ec, if_pos c41, if_pos c52], _, rfl, by rw [R_pack, if_pos c9, ec, if_pos c41, if_pos c52]; exact SP.rfl⟩
      · refine a_bipush (pc := 44) dX12_pack_44 ib_m2 ?_
        refine a_ret_i (pc := 46) hM rfl (rfl) dX12_pack_46 (by omega) (by omega) ?_
        exact ⟨by rw [R_pack, if_pos c9, ec, if_neg (Nat.not_le.mpr c41)], _, rfl, by rw [R_pack, if_pos c9, ec, if_neg (Nat.not_le.mpr c41)]; exact SP.rfl⟩
    have loop : ∀ f l a : Nat, l < 10 ^ f → l < 100000 → a + dsum l = dsum c → a ≤ 100 → AJ X M yX12_pack cX12_pack 5 (some .int) 19 [(0, .ref (m 65)), (1, .int (nI c)), (2, .int (nI a)), (3, .int (nI l))] [] (mh m s h0) 0 0 := by
      intro f
      induction f with
      | zero =>
        intro l a hl hl5 ha ha1
        have hl0 : l = 0 := by omega
        subst hl0
        rw [dsum_0, Nat.add_zero] at ha
        subst ha
        refine a_iload_n (pc := 19) dX12_pack_19 rfl rfl ?_
        refine a_if_leN (pc := 20) (tgt := 38) dX12_pack_20 (by decide) (by omega) (fun c20 => ?_) (fun c20 => ?_)
        · exact fin 0
        · exact absurd c20 (by omega)
      | succ f ih =>
        intro l a hl hl5 ha ha1
        have hds := dsum_s hl5
        have hp10x : 10 ^ (f + 1) = 10 ^ f * 10 := Nat.pow_succ 10 f
        refine a_iload_n (pc := 19) dX12_pack_19 rfl rfl ?_
        refine a_if_leN (pc := 20) (tgt := 38) dX12_pack_20 (by decide) (by omega) (fun c20 => ?_) (fun c20 => ?_)
        · have hl0 : l = 0 := by omega
          subst hl0
          rw [dsum_0, Nat.add_zero] at ha
          subst ha
          exact fin 0
        · refine a_iload_n (pc := 23) dX12_pack_23 rfl rfl ?_
          refine a_iload_n (pc := 24) dX12_pack_24 rfl rfl ?_
          refine a_bipush (pc := 25) dX12_pack_25 ib_10 ?_
          refine a_iremN (pc := 27) dX12_pack_27 (by omega) (by omega) (by omega) ?_
          refine a_iaddN (pc := 28) dX12_pack_28 ?_
          refine a_istore_n (pc := 29) dX12_pack_29 rfl (by decide) rfl ?_
          refine a_iload_n (pc := 30) dX12_pack_30 rfl rfl ?_
          refine a_bipush (pc := 31) dX12_pack_31 ib_10 ?_
          refine a_idivN (pc := 33) dX12_pack_33 (by omega) (by omega) (by omega) ?_
          refine a_istore_n (pc := 34) dX12_pack_34 rfl (by decide) rfl ?_
          refine a_goto (pc := 35) (tgt := 19) dX12_pack_35 (by decide) ?_
          exact a_locR (ih (l / 10) (a + l % 10) (by omega) (by omega) (by omega) (by omega)) ⟨rfl, rfl, rfl, rfl, trivial⟩
    exact a_locR (loop 5 c 0 (by omega) (by omega) (by omega) (by omega)) ⟨rfl, rfl, rfl, rfl, trivial⟩
  · refine a_bipush (pc := 12) dX12_pack_12 ib_m2 ?_
    refine a_ret_i (pc := 14) hM rfl (rfl) dX12_pack_14 (by omega) (by omega) ?_
    exact ⟨by rw [R_pack, if_neg (by rw [c9]; decide)], _, rfl, by rw [R_pack, if_neg (by rw [c9]; decide)]; exact SP.rfl⟩

end MP5

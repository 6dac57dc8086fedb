/-! THE REFERENCE: exact -/
section MP12
variable {X : KX} {m : Nat → Nat} {s : MST} {h0 : AH}
def bfN (pk : Nat → Nat) (j : Nat) : Nat := sumN pk j
/-- orders of j signs with m places that are held -/
def hW (pk gu : Nat → Nat) (j : Nat) (h : Nat → Nat) (m k : Nat) : Nat := if k ≤ m ∧ m < k + (min (pk j) (gu j) + 1) then h k * binN (gu j) (m - k) * binN (bfN pk (j + 1) - m) (pk j - (m - k)) else 0
def hN (pk gu : Nat → Nat) : Nat → Nat → Nat
  | 0, m => if m = 0 then 1 else 0
  | j + 1, m => sumN (hW pk gu j (hN pk gu j) m) (bfN pk j + 1)
def allN (pk : Nat → Nat) : Nat → Nat
  | 0 => 1
  | j + 1 => allN pk j * binN (bfN pk (j + 1)) (pk j)
def exS (pk gu : Nat → Nat) (q : Nat) : Nat → Int64
  | 0 => lN 0
  | n + 1 => exS pk gu q n + (if n % 2 = 0 then lN 1 else -1) * lN (binN (q + n) q) * lN (hN pk gu 5 (q + n))
def pkOf (s : MST) (r : Nat) : Nat → Nat := fun j => vA s 8 (5 * vA s 11 r + j)
def guOf (s : MST) (r : Nat) : Nat → Nat := fun g => cntN (fun i => decide (cnOf s 15 r i = g)) (rsz s r)
def R_exact (s : MST) (x q w : Int32) : Int64 × MST := if (inN x (vI s 18) && inR q 0 25 && inN w 2) = true then ((if w = nI 1 then lN (allN (pkOf s x.toNatClampNeg) 5) else exS (pkOf s x.toNatClampNeg) (guOf s x.toNatClampNeg) q.toNatClampNeg (bfN (pkOf s x.toNatClampNeg) 5 + 1 - q.toNatClampNeg)), s) else (-4611686018427387904, s)
/-- s with other long arrays -/
def wl (s : MST) (f : Nat → Nat → Int64) : MST := (s.1, s.2.1, s.2.2.1, f)
def offL (s : MST) (f : Nat → Nat → Int64) : Prop := ∀ k, k ≠ 21 → k ≠ 22 → f k = s.2.2.2 k
theorem SP_wl {s : MST} {f : Nat → Nat → Int64} (h : offL s f) : SP (wl s f) s := ⟨fun _ _ => rfl, fun _ _ => rfl, h 7 (by decide) (by decide)⟩
def updA (f : Nat → Nat → Int64) (k : Nat) (g : Nat → Int64) : Nat → Nat → Int64 := fun j => if j = k then g else f j
theorem offL_u {s : MST} {f : Nat → Nat → Int64} {k : Nat} {g : Nat → Int64} (hk : k = 21 ∨ k = 22) (h : offL s f) : offL s (updA f k g) := fun j h1 h2 => by
  unfold updA
  rw [if_neg (by omega)]
  exact h j h1 h2
theorem updL_i {f : Nat → Int64} {k i : Nat} {v : Int64} (h : i = k) : vp_updL f k v i = v := if_pos h
theorem updL_n {f : Nat → Int64} {k i : Nat} {v : Int64} (h : i ≠ k) : vp_updL f k v i = f i := if_neg h
theorem updL_s {f X : Nat → Int64} {k : Nat} (h : ∀ m, m < k → f m = X m) : ∀ m, m < k + 1 → vp_updL f k (X k) m = X m := fun m hm => by
  by_cases z : m = k
  · subst z
    exact updL_i rfl
  · exact (updL_n z).trans (h m (by omega))
theorem bfN_le {pk : Nat → Nat} {j n : Nat} (h : bfN pk 5 ≤ n) (hj : j ≤ 5) : bfN pk j ≤ n := by
  unfold bfN at h ⊢
  simp only [sumN] at h
  rcases (by omega : j = 0 ∨ j = 1 ∨ j = 2 ∨ j = 3 ∨ j = 4 ∨ j = 5) with rfl | rfl | rfl | rfl | rfl | rfl <;> simp only [sumN] <;> omega
theorem accI {pk gu : Nat → Nat} {f : Nat → Nat → Int64} {j k n m : Nat} (hb : k + n ≤ bfN pk (j + 1)) (h : f 22 m = lN (sumN (hW pk gu j (hN pk gu j) m) k + if k ≤ m ∧ m < k + n then hN pk gu j k * binN (gu j) (m - k) * binN (bfN pk (j + 1) - m) (pk j - (m - k)) else 0)) : updA f 22 (vp_updL (f 22) (k + n) (lN ((sumN (hW pk gu j (hN pk gu j) (k + n)) k + if k ≤ k + n ∧ k + n < k + n then hN pk gu j k * binN (gu j) ((k + n) - k) * binN (bfN pk (j + 1) - (k + n)) (pk j - ((k + n) - k)) else 0) + hN pk gu j k * binN (gu j) n * binN (bfN pk (j + 1) - k - n) (pk j - n)))) 22 m = lN (sumN (hW pk gu j (hN pk gu j) m) k + if k ≤ m ∧ m < k + (n + 1) then hN pk gu j k * binN (gu j) (m - k) * binN (bfN pk (j + 1) - m) (pk j - (m - k)) else 0) := by
  show vp_updL (f 22) (k + n) _ m = _
  by_cases hm : m = k + n
  · subst hm
    rw [updL_i rfl, if_neg (by omega), if_pos (by omega), Nat.add_zero, Nat.add_sub_cancel_left, Nat.sub_sub]
  · rw [updL_n hm, h]
    by_cases c : k ≤ m ∧ m < k + n
    · rw [if_pos c, if_pos (by omega)]
    · rw [if_neg c, if_neg (by omega)]
set_option maxRecDepth 4000 in
theorem f_exact (hm : MI m) (hV : MV s) (x q w : Int32) : Fn X 3 0 0 yX12_exact cX12_exact 11 (some .long) [.ref (m 65), .int x, .int q, .int w] (mh m s h0) (fun rv hv => rv = some (.long (R_exact s x q w).1) ∧ ∃ s' : MST, hv = mh m s' h0 ∧ SP s' (R_exact s x q w).2) := by
  obtain ⟨⟨hn18, hb18⟩, hl18⟩ := id hV.2.1
  refine fn_of (by decide) (Nat.le_of_ble_eq_true rfl) (fun M hM => ?_)
  refine a_aload_n (pc := 0) dX12_exact_0 rfl rfl ?_
  refine a_iload_n (pc := 1) dX12_exact_1 rfl rfl ?_
  refine a_callV (pc := 2) km_X12_157 dX12_exact_2 (f_isRun hm hn18 (by omega) _) rfl rfl (krecv_of (ci := 12) rfl (m_obj hm)) (rok_of hM (by decide) (by decide) (by omega) (by omega)) (Nat.le_of_ble_eq_true rfl) (fun r2 h2 hp2 => ?_)
  obtain ⟨rfl, rfl⟩ := hp2
  refine a_if_eqB (pc := 5) (tgt := 30) dX12_exact_5 (by decide) (fun c5 => ?_) (fun c5 => ?_)
  · refine a_ldc2 (pc := 30) kc_X12_205 dX12_exact_30 ?_
    refine a_ret_l (pc := 33) hM rfl dX12_exact_33 (by omega) (by omega) ?_
    exact ⟨by rw [R_exact, if_neg (by rw [c5]; simp)], _, rfl, by rw [R_exact, if_neg (by rw [c5]; simp)]; exact SP.rfl⟩
  · obtain ⟨r, hr, rfl⟩ := inN_of c5 (by omega)
    obtain ⟨hr16, hz, hz1, hz2⟩ := MV_run hV hr
    have er : (nI r).toNatClampNeg = r := nI_clamp (by omega)
    obtain ⟨hp11, hp12⟩ := (hV.2.1.2 r hr).1
    have hp10 : vI s 10 ≤ 4 := hV.1.1.2
    have hp4 : vA s 11 r < 4 := Nat.lt_of_lt_of_le hp12 hp10
    have hrow : ∀ i, i < rsz s r → okV (s.2.1 15 (25 * r + i)) 5 := (hV.2.1.2 r hr).2.2.2.2.1
    have hpo : ∀ g, g < 5 → okV (s.2.1 8 (5 * vA s 11 r + g)) 10 := (hV.1.2 (vA s 11 r) hp12).2.2.1
    refine a_iload_n (pc := 8) dX12_exact_8 rfl rfl ?_
    refine a_i2l (pc := 9) dX12_exact_9 ?_
    refine a_lconst (pc := 10) (v := lN 0) dX12_exact_10 rfl ?_
    refine a_ldc2 (pc := 11) kc_X12_203 dX12_exact_11 ?_
    refine a_topl (z := lN 25) rfl ?_
    refine a_callS (pc := 14) km_X12_142 dX12_exact_14 (f_in _ _ _) rfl rfl (rok_of hM (by decide) (by decide) (by omega) (by omega)) (Nat.le_of_ble_eq_true rfl) (fun r14 h14 hp14 => ?_)
    obtain ⟨rfl, rfl⟩ := hp14
    refine a_topi (congrArg bI (in_rng3 (x := q) (a := 0) (b := 25) (by decide) (by decide))) ?_
    refine a_if_eqB (pc := 17) (tgt := 30) dX12_exact_17 (by decide) (fun c17 => ?_) (fun c17 => ?_)
    · refine a_ldc2 (pc := 30) kc_X12_205 dX12_exact_30 ?_
      refine a_ret_l (pc := 33) hM rfl dX12_exact_33 (by omega) (by omega) ?_
      exact ⟨by rw [R_exact, if_neg (by rw [c17, Bool.and_false]; simp)], _, rfl, by rw [R_exact, if_neg (by rw [c17, Bool.and_false]; simp)]; exact SP.rfl⟩
    · refine a_iload_n (pc := 20) dX12_exact_20 rfl rfl ?_
      refine a_i2l (pc := 21) dX12_exact_21 ?_
      refine a_lconst (pc := 22) (v := lN 0) dX12_exact_22 rfl ?_
      refine a_lconst (pc := 23) (v := lN 1) dX12_exact_23 rfl ?_
      refine a_callS (pc := 24) km_X12_142 dX12_exact_24 (f_in _ _ _) rfl rfl (rok_of hM (by decide) (by decide) (by omega) (by omega)) (Nat.le_of_ble_eq_true rfl) (fun r24 h24 hp24 => ?_)
      obtain ⟨rfl, rfl⟩ := hp24
      refine a_topi (congrArg bI (in_rng2 (x := w) (n := 2) (k := 1) (by omega) (by omega))) ?_
      refine a_if_neB (pc := 27) (tgt := 34) dX12_exact_27 (by decide) (fun c27 => ?_) (fun c27 => ?_)
      · have hcc : (inN (nI r) (vI s 18) && inR q 0 25 && inN w 2) = true := by rw [c5, c17, c27]; rfl
        obtain ⟨q, hq0, hq25, rfl⟩ := inR_of c17 (by omega)
        have eq : (nI q).toNatClampNeg = q := nI_clamp (by omega)
        refine a_aload_n (pc := 34) dX12_exact_34 rfl rfl ?_
        refine a_iload_n (pc := 35) dX12_exact_35 rfl rfl ?_
        refine a_callV (pc := 36) km_X12_207 dX12_exact_36 (f_counts1 hm hr16 hz hrow) rfl rfl (krecv_of (ci := 12) rfl (m_obj hm)) (rok_of hM (by decide) (by decide) (by omega) (by omega)) (Nat.le_of_ble_eq_true rfl) (fun r36 h36 hp36 => ?_)
        obtain ⟨rfl, rfl⟩ := hp36
        refine a_iconst (pc := 39) dX12_exact_39 ic_0 ?_
        refine a_istore (pc := 40) dX12_exact_40 (by decide) rfl ?_
        obtain ⟨u, hue⟩ : ∃ u, u = sa s 23 (gsF (gs0 s) (cnOf s 15 r) (rsz s r)) := ⟨_, rfl⟩
        obtain ⟨pk, hpk⟩ : ∃ pk, pk = pkOf s r := ⟨_, rfl⟩
        obtain ⟨gu, hgu⟩ : ∃ gu, gu = guOf s r := ⟨_, rfl⟩
        have hu : SP u s := by rw [hue]; exact SP.sa (by decide) SP.rfl
        have hC : ∀ n k, n ≤ 25 → k ≤ 25 → u.2.2.2 7 (26 * n + k) = lN (binN n k) := by rw [hue]; exact hV.2.2.2.2.2.2.2
        have hrp : u.2.1 11 r = nI (vA s 11 r) := by rw [hue]; exact hp11
        have hP : ∀ j, j < 5 → u.2.1 8 (5 * vA s 11 r + j) = nI (pk j) := fun j hj => by rw [hue, hpk]; exact (hpo j hj).1
        have hG : ∀ g, g < 5 → u.2.1 23 g = nI (gu g) := fun g hg => by rw [hue, hgu]; exact gsF_cnt (gs0_z hg) _
        have hg25 : ∀ g, gu g ≤ 25 := fun g => by rw [hgu]; exact Nat.le_trans (cntN_le _ _) hz2
        have hb5 : bfN pk 5 ≤ 25 := by
          have e := (hV.1.2 (vA s 11 r) hp12).2.2.2
          have e2 : rsz s r = vA s 9 (vA s 11 r) := rfl
          rw [hpk]
          show 0 + vA s 8 (5 * vA s 11 r + 0) + vA s 8 (5 * vA s 11 r + 1) + vA s 8 (5 * vA s 11 r + 2) + vA s 8 (5 * vA s 11 r + 3) + vA s 8 (5 * vA s 11 r + 4) ≤ 25
          rw [Nat.add_zero]
          omega
        refine a_hp (show _ = mh m (wl u u.2.2.2) h0 by rw [hue]; rfl) ?_
        have LF : ∀ (d n : Nat) (f : Nat → Nat → Int64), (bfN pk 5 + 1 - q) - n = d → n ≤ (bfN pk 5 + 1 - q) → offL u f → (¬ w = nI 1) → (∀ m, m ≤ 25 → f 21 m = lN (hN pk gu 5 m)) → AJ X M yX12_exact cX12_exact 11 (some .long) 313 [(0, .ref (m 65)), (1, .int (nI r)), (2, .int (nI q)), (3, .int w), (4, .int (nI (bfN pk 5))), (7, .long (exS pk gu q n)), (9, .int (nI (q + n)))] [] (mh m (wl u f) h0) 0 0 := by
          intro d
          induction d with
          | zero =>
            intro n f hd hle of hw1 h21
            have h7 : f 7 = u.2.2.2 7 := of 7 (by decide) (by decide)
            have hbb := hb5
            refine a_iload (pc := 313) dX12_exact_313 rfl ?_
            refine a_iload (pc := 315) dX12_exact_315 rfl ?_
            refine a_icmp_gtN (pc := 317) (tgt := 368) dX12_exact_317 (by decide) (by omega) (by omega) (fun c317 => ?_) (fun c317 => ?_)
            · have hn : n = bfN pk 5 + 1 - q := by omega
              subst hn
              refine a_lload (pc := 368) dX12_exact_368 rfl ?_
              refine a_ret_l (pc := 370) hM rfl dX12_exact_370 (by omega) (by omega) ?_
              exact ⟨by rw [R_exact, if_pos hcc, er, eq, ← hpk, ← hgu, if_neg hw1], _, rfl, by rw [R_exact, if_pos hcc]; exact SP.tr (SP_wl of) hu⟩
            · exact absurd c317 (by omega)
          | succ d ih =>
            intro n f hd hle of hw1 h21
            have h7 : f 7 = u.2.2.2 7 := of 7 (by decide) (by decide)
            have hbb := hb5
            refine a_iload (pc := 313) dX12_exact_313 rfl ?_
            refine a_iload (pc := 315) dX12_exact_315 rfl ?_
            refine a_icmp_gtN (pc := 317) (tgt := 368) dX12_exact_317 (by decide) (by omega) (by omega) (fun c317 => ?_) (fun c317 => ?_)
            · exact absurd c317 (by omega)
            · refine a_lload (pc := 320) dX12_exact_320 rfl ?_
              refine a_iload (pc := 322) dX12_exact_322 rfl ?_
              refine a_iload_n (pc := 324) dX12_exact_324 rfl rfl ?_
              refine a_isubN (pc := 325) dX12_exact_325 (by omega) ?_
              refine a_iconst (pc := 326) dX12_exact_326 ic_2 ?_
              refine a_iremN (pc := 327) dX12_exact_327 (by omega) (by omega) (by omega) ?_
              refine a_if_neN (pc := 328) (tgt := 335) dX12_exact_328 (by decide) (by omega) (fun c328 => ?_) (fun c328 => ?_)
              · have hv : (-1 : Int64) = (if n % 2 = 0 then lN 1 else -1) := (if_neg (by omega)).symm
                refine a_ldc2 (pc := 335) kc_X12_211 dX12_exact_335 ?_
                refine a_topl hv ?_
                refine a_aload_n (pc := 338) dX12_exact_338 rfl rfl ?_
                refine a_getfield (pc := 339) kg_X12_23 dX12_exact_339 (m_obj hm) rfl ?_
                refine a_bipush (pc := 342) dX12_exact_342 ib_26 ?_
                refine a_iload (pc := 344) dX12_exact_344 rfl ?_
                refine a_imulN (pc := 346) dX12_exact_346 ?_
                refine a_iload_n (pc := 347) dX12_exact_347 rfl rfl ?_
                refine a_iaddN (pc := 348) dX12_exact_348 ?_
                refine a_laload (pc := 349) dX12_exact_349 (m_a7 hm) (_) (rfl) (by omega) (by omega) ?_
                refine a_topl ((show _ = lN (binN (q + n) (q)) from (congrFun h7 _).trans (hC _ _ (by omega) (by omega)))) ?_
                refine a_lmul (pc := 350) dX12_exact_350 ?_
                refine a_aload_n (pc := 351) dX12_exact_351 rfl rfl ?_
                refine a_getfield (pc := 352) kg_X12_60 dX12_exact_352 (m_obj hm) rfl ?_
                refine a_iload (pc := 355) dX12_exact_355 rfl ?_
                refine a_laload (pc := 357) dX12_exact_357 (m_a21 hm) (_) (rfl) (by omega) (by omega) ?_
                refine a_topl (h21 _ (by omega)) ?_
                refine a_lmul (pc := 358) dX12_exact_358 ?_
                refine a_ladd (pc := 359) dX12_exact_359 ?_
                refine a_lstore (pc := 360) dX12_exact_360 (by decide) rfl ?_
                refine a_iincN (pc := 362) (n := 1) dX12_exact_362 (by decide) rfl (by decide) rfl ?_
                refine a_goto (pc := 365) (tgt := 313) dX12_exact_365 (by decide) ?_
                exact a_locR (ih (n + 1) f (by omega) (by omega) of hw1 h21) ⟨rfl, rfl, rfl, rfl, rfl, rfl, rfl, trivial⟩
              · have hv : lN 1 = (if n % 2 = 0 then lN 1 else -1) := (if_pos (by omega)).symm
                refine a_lconst (pc := 331) (v := lN 1) dX12_exact_331 rfl ?_
                refine a_goto (pc := 332) (tgt := 338) dX12_exact_332 (by decide) ?_
                refine a_topl hv ?_
                refine a_aload_n (pc := 338) dX12_exact_338 rfl rfl ?_
                refine a_getfield (pc := 339) kg_X12_23 dX12_exact_339 (m_obj hm) rfl ?_
                refine a_bipush (pc := 342) dX12_exact_342 ib_26 ?_
                refine a_iload (pc := 344) dX12_exact_344 rfl ?_
                refine a_imulN (pc := 346) dX12_exact_346 ?_
                refine a_iload_n (pc := 347) dX12_exact_347 rfl rfl ?_
                refine a_iaddN (pc := 348) dX12_exact_348 ?_
                refine a_laload (pc := 349) dX12_exact_349 (m_a7 hm) (_) (rfl) (by omega) (by omega) ?_
                refine a_topl ((show _ = lN (binN (q + n) (q)) from (congrFun h7 _).trans (hC _ _ (by omega) (by omega)))) ?_
                refine a_lmul (pc := 350) dX12_exact_350 ?_
                refine a_aload_n (pc := 351) dX12_exact_351 rfl rfl ?_
                refine a_getfield (pc := 352) kg_X12_60 dX12_exact_352 (m_obj hm) rfl ?_
                refine a_iload (pc := 355) dX12_exact_355 rfl ?_
                refine a_laload (pc := 357) dX12_exact_357 (m_a21 hm) (_) (rfl) (by omega) (by omega) ?_
                refine a_topl (h21 _ (by omega)) ?_
                refine a_lmul (pc := 358) dX12_exact_358 ?_
                refine a_ladd (pc := 359) dX12_exact_359 ?_
                refine a_lstore (pc := 360) dX12_exact_360 (by decide) rfl ?_
                refine a_iincN (pc := 362) (n := 1) dX12_exact_362 (by decide) rfl (by decide) rfl ?_
                refine a_goto (pc := 365) (tgt := 313) dX12_exact_365 (by decide) ?_
                exact a_locR (ih (n + 1) f (by omega) (by omega) of hw1 h21) ⟨rfl, rfl, rfl, rfl, rfl, rfl, rfl, trivial⟩
        have LS : ∀ (d j : Nat) (f : Nat → Nat → Int64), 5 - j = d → j ≤ 5 → offL u f → (∀ m, m ≤ 25 → f 21 m = lN (hN pk gu j m)) → AJ X M yX12_exact cX12_exact 11 (some .long) 81 [(0, .ref (m 65)), (1, .int (nI r)), (2, .int (nI q)), (3, .int w), (4, .int (nI (bfN pk j))), (5, .long (lN (allN pk j))), (7, .int (nI j))] [] (mh m (wl u f) h0) 0 0 := by
          intro d
          induction d with
          | zero =>
            intro j f hd hle of h21
            have h7 : f 7 = u.2.2.2 7 := of 7 (by decide) (by decide)
            refine a_iload (pc := 81) dX12_exact_81 rfl ?_
            refine a_iconst (pc := 83) dX12_exact_83 ic_5 ?_
            refine a_icmp_geN (pc := 84) (tgt := 299) dX12_exact_84 (by decide) (by omega) (by omega) (fun c84 => ?_) (fun c84 => ?_)
            · have hj : j = 5 := by omega
              subst hj
              refine a_iload_n (pc := 299) dX12_exact_299 rfl rfl ?_
              refine a_iconst (pc := 300) dX12_exact_300 ic_1 ?_
              refine a_icmp_ne (pc := 301) (tgt := 307) dX12_exact_301 (by decide) (fun c301 => ?_) (fun c301 => ?_)
              · refine a_lconst (pc := 307) (v := lN 0) dX12_exact_307 rfl ?_
                refine a_lstore (pc := 308) dX12_exact_308 (by decide) rfl ?_
                refine a_iload_n (pc := 310) dX12_exact_310 rfl rfl ?_
                refine a_istore (pc := 311) dX12_exact_311 (by decide) rfl ?_
                exact a_locR (LF _ 0 f rfl (Nat.zero_le _) of c301 h21) ⟨rfl, rfl, rfl, rfl, rfl, rfl, rfl, trivial⟩
              · refine a_lload (pc := 304) dX12_exact_304 rfl ?_
                refine a_ret_l (pc := 306) hM rfl dX12_exact_306 (by omega) (by omega) ?_
                exact ⟨by rw [R_exact, if_pos hcc, er, eq, ← hpk, ← hgu, if_pos c301], _, rfl, by rw [R_exact, if_pos hcc]; exact SP.tr (SP_wl of) hu⟩
            · exact absurd c84 (by omega)
          | succ d ih =>
            intro j f hd hle of h21
            have h7 : f 7 = u.2.2.2 7 := of 7 (by decide) (by decide)
            have ihj := ih
            have hbs : bfN pk (j + 1) = bfN pk j + pk j := rfl
            have hb1 : bfN pk (j + 1) ≤ 25 := bfN_le hb5 (by omega)
            have hgj := hg25 j
            refine a_iload (pc := 81) dX12_exact_81 rfl ?_
            refine a_iconst (pc := 83) dX12_exact_83 ic_5 ?_
            refine a_icmp_geN (pc := 84) (tgt := 299) dX12_exact_84 (by decide) (by omega) (by omega) (fun c84 => ?_) (fun c84 => ?_)
            · exact absurd c84 (by omega)
            · refine a_aload_n (pc := 87) dX12_exact_87 rfl rfl ?_
              refine a_getfield (pc := 88) kg_X12_27 dX12_exact_88 (m_obj hm) rfl ?_
              refine a_iconst (pc := 91) dX12_exact_91 ic_5 ?_
              refine a_aload_n (pc := 92) dX12_exact_92 rfl rfl ?_
              refine a_getfield (pc := 93) kg_X12_33 dX12_exact_93 (m_obj hm) rfl ?_
              refine a_iload_n (pc := 96) dX12_exact_96 rfl rfl ?_
              refine a_iaload (pc := 97) dX12_exact_97 (m_a11 hm) (_) (rfl) (by omega) (by omega) ?_
              refine a_topi (hrp) ?_
              refine a_imulN (pc := 98) dX12_exact_98 ?_
              refine a_iload (pc := 99) dX12_exact_99 rfl ?_
              refine a_iaddN (pc := 101) dX12_exact_101 ?_
              refine a_iaload (pc := 102) dX12_exact_102 (m_a8 hm) (_) (rfl) (by omega) (by omega) ?_
              refine a_topi (hP j (by omega)) ?_
              refine a_istore (pc := 103) dX12_exact_103 (by decide) rfl ?_
              refine a_iload (pc := 105) dX12_exact_105 rfl ?_
              refine a_iload (pc := 107) dX12_exact_107 rfl ?_
              refine a_iaddN (pc := 109) dX12_exact_109 ?_
              refine a_topi (show _ = nI (bfN pk (j + 1)) from rfl) ?_
              refine a_istore (pc := 110) dX12_exact_110 (by decide) rfl ?_
              refine a_lload (pc := 112) dX12_exact_112 rfl ?_
              refine a_aload_n (pc := 114) dX12_exact_114 rfl rfl ?_
              refine a_getfield (pc := 115) kg_X12_23 dX12_exact_115 (m_obj hm) rfl ?_
              refine a_bipush (pc := 118) dX12_exact_118 ib_26 ?_
              refine a_iload (pc := 120) dX12_exact_120 rfl ?_
              refine a_imulN (pc := 122) dX12_exact_122 ?_
              refine a_iload (pc := 123) dX12_exact_123 rfl ?_
              refine a_iaddN (pc := 125) dX12_exact_125 ?_
              refine a_laload (pc := 126) dX12_exact_126 (m_a7 hm) (_) (rfl) (by omega) (by omega) ?_
              refine a_topl ((show _ = lN (binN ((bfN pk (j + 1))) (pk j)) from (congrFun h7 _).trans (hC _ _ (by omega) (by omega)))) ?_
              refine a_lmulN (pc := 127) dX12_exact_127 ?_
              refine a_lstore (pc := 128) dX12_exact_128 (by decide) rfl ?_
              refine a_iconst (pc := 130) dX12_exact_130 ic_0 ?_
              refine a_istore (pc := 131) dX12_exact_131 (by decide) rfl ?_
              have LE : ∀ (d k : Nat) (f : Nat → Nat → Int64), 26 - k = d → k ≤ 26 → offL u f → (∀ m, m < k → f 21 m = lN (hN pk gu (j + 1) m)) → (∀ m, m ≤ 25 → f 22 m = lN (hN pk gu (j + 1) m)) → AJ X M yX12_exact cX12_exact 11 (some .long) 266 [(0, .ref (m 65)), (1, .int (nI r)), (2, .int (nI q)), (3, .int w), (4, .int (nI (bfN pk (j + 1)))), (5, .long (lN (allN pk (j + 1)))), (7, .int (nI j)), (8, .int (nI (pk j))), (9, .int (nI k))] [] (mh m (wl u f) h0) 0 0 := by
                intro d
                induction d with
                | zero =>
                  intro k f hd hle of h21 h22
                  have h7 : f 7 = u.2.2.2 7 := of 7 (by decide) (by decide)
                  refine a_iload (pc := 266) dX12_exact_266 rfl ?_
                  refine a_bipush (pc := 268) dX12_exact_268 ib_25 ?_
                  refine a_icmp_gtN (pc := 270) (tgt := 293) dX12_exact_270 (by decide) (by omega) (by omega) (fun c270 => ?_) (fun c270 => ?_)
                  · have hk : k = 26 := by omega
                    subst hk
                    refine a_iincN (pc := 293) (n := 1) dX12_exact_293 (by decide) rfl (by decide) rfl ?_
                    refine a_goto (pc := 296) (tgt := 81) dX12_exact_296 (by decide) ?_
                    exact a_locR (ihj (j + 1) f (by omega) (by omega) of (fun m hm => h21 m (by omega))) ⟨rfl, rfl, rfl, rfl, rfl, rfl, rfl, trivial⟩
                  · exact absurd c270 (by omega)
                | succ d ih =>
                  intro k f hd hle of h21 h22
                  have h7 : f 7 = u.2.2.2 7 := of 7 (by decide) (by decide)
                  refine a_iload (pc := 266) dX12_exact_266 rfl ?_
                  refine a_bipush (pc := 268) dX12_exact_268 ib_25 ?_
                  refine a_icmp_gtN (pc := 270) (tgt := 293) dX12_exact_270 (by decide) (by omega) (by omega) (fun c270 => ?_) (fun c270 => ?_)
                  · exact absurd c270 (by omega)
                  · refine a_aload_n (pc := 273) dX12_exact_273 rfl rfl ?_
                    refine a_getfield (pc := 274) kg_X12_60 dX12_exact_274 (m_obj hm) rfl ?_
                    refine a_iload (pc := 277) dX12_exact_277 rfl ?_
                    refine a_aload_n (pc := 279) dX12_exact_279 rfl rfl ?_
                    refine a_getfield (pc := 280) kg_X12_63 dX12_exact_280 (m_obj hm) rfl ?_
                    refine a_iload (pc := 283) dX12_exact_283 rfl ?_
                    refine a_laload (pc := 285) dX12_exact_285 (m_a22 hm) (_) (rfl) (by omega) (by omega) ?_
                    refine a_topl (h22 k (by omega)) ?_
                    refine a_lastore (pc := 286) dX12_exact_286 (m_a21 hm) (_) (rfl) (by omega) (by omega) ?_
                    refine a_hp (m_p21 hm) ?_
                    refine a_hp (show _ = mh m (wl u (updA f 21 (vp_updL (f 21) (k) (lN (hN pk gu (j + 1) k))))) h0 from congrArg (fun t => mh m t h0) (rfl)) ?_
                    obtain ⟨f1, hf1⟩ : ∃ f1, f1 = updA f 21 (vp_updL (f 21) (k) (lN (hN pk gu (j + 1) k))) := ⟨_, rfl⟩
                    refine a_hp (show _ = mh m (wl u f1) h0 by rw [hf1]) ?_
                    have of1 : offL u f1 := by rw [hf1]; exact offL_u (by decide) of
                    refine a_iincN (pc := 287) (n := 1) dX12_exact_287 (by decide) rfl (by decide) rfl ?_
                    refine a_goto (pc := 290) (tgt := 266) dX12_exact_290 (by decide) ?_
                    exact a_locR (ih (k + 1) f1 (by omega) (by omega) of1 (by rw [hf1]; exact updL_s (X := fun m => lN (hN pk gu (j + 1) m)) h21) (fun m hm => by rw [hf1]; exact h22 m hm)) ⟨rfl, rfl, rfl, rfl, rfl, rfl, rfl, rfl, rfl, trivial⟩
              have LO : ∀ (d k : Nat) (f : Nat → Nat → Int64), (bfN pk j + 1) - k = d → k ≤ (bfN pk j + 1) → offL u f → (∀ m, m ≤ 25 → f 21 m = lN (hN pk gu j m)) → (∀ m, m ≤ 25 → f 22 m = lN (sumN (hW pk gu j (hN pk gu j) m) k)) → AJ X M yX12_exact cX12_exact 11 (some .long) 157 [(0, .ref (m 65)), (1, .int (nI r)), (2, .int (nI q)), (3, .int w), (4, .int (nI (bfN pk (j + 1)))), (5, .long (lN (allN pk (j + 1)))), (7, .int (nI j)), (8, .int (nI (pk j))), (9, .int (nI k))] [] (mh m (wl u f) h0) 0 0 := by
                intro d
                induction d with
                | zero =>
                  intro k f hd hle of h21 h22
                  have h7 : f 7 = u.2.2.2 7 := of 7 (by decide) (by decide)
                  have hbs : bfN pk (j + 1) = bfN pk j + pk j := rfl
                  refine a_iload (pc := 157) dX12_exact_157 rfl ?_
                  refine a_iload (pc := 159) dX12_exact_159 rfl ?_
                  refine a_iload (pc := 161) dX12_exact_161 rfl ?_
                  refine a_isubN (pc := 163) dX12_exact_163 (by omega) ?_
                  refine a_icmp_gtN (pc := 164) (tgt := 263) dX12_exact_164 (by decide) (by omega) (by omega) (fun c164 => ?_) (fun c164 => ?_)
                  · have hk : k = bfN pk j + 1 := by omega
                    subst hk
                    refine a_iconst (pc := 263) dX12_exact_263 ic_0 ?_
                    refine a_istore (pc := 264) dX12_exact_264 (by decide) rfl ?_
                    exact a_locR (LE 26 0 f rfl (by omega) of (fun m hm => absurd hm (Nat.not_lt_zero _)) h22) ⟨rfl, rfl, rfl, rfl, rfl, rfl, rfl, rfl, rfl, trivial⟩
                  · exact absurd c164 (by omega)
                | succ d ih =>
                  intro k f hd hle of h21 h22
                  have h7 : f 7 = u.2.2.2 7 := of 7 (by decide) (by decide)
                  have ihk := ih
                  have hbs : bfN pk (j + 1) = bfN pk j + pk j := rfl
                  refine a_iload (pc := 157) dX12_exact_157 rfl ?_
                  refine a_iload (pc := 159) dX12_exact_159 rfl ?_
                  refine a_iload (pc := 161) dX12_exact_161 rfl ?_
                  refine a_isubN (pc := 163) dX12_exact_163 (by omega) ?_
                  refine a_icmp_gtN (pc := 164) (tgt := 263) dX12_exact_164 (by decide) (by omega) (by omega) (fun c164 => ?_) (fun c164 => ?_)
                  · exact absurd c164 (by omega)
                  · refine a_iconst (pc := 167) dX12_exact_167 ic_0 ?_
                    refine a_istore (pc := 168) dX12_exact_168 (by decide) rfl ?_
                    have LD : ∀ (d n : Nat) (f : Nat → Nat → Int64), (min (pk j) (gu j) + 1) - n = d → n ≤ (min (pk j) (gu j) + 1) → offL u f → (∀ m, m ≤ 25 → f 21 m = lN (hN pk gu j m)) → (∀ m, m ≤ 25 → f 22 m = lN (sumN (hW pk gu j (hN pk gu j) m) k + if k ≤ m ∧ m < k + n then hN pk gu j k * binN (gu j) (m - k) * binN (bfN pk (j + 1) - m) (pk j - (m - k)) else 0)) → AJ X M yX12_exact cX12_exact 11 (some .long) 170 [(0, .ref (m 65)), (1, .int (nI r)), (2, .int (nI q)), (3, .int w), (4, .int (nI (bfN pk (j + 1)))), (5, .long (lN (allN pk (j + 1)))), (7, .int (nI j)), (8, .int (nI (pk j))), (9, .int (nI k)), (10, .int (nI n))] [] (mh m (wl u f) h0) 0 0 := by
                      intro d
                      induction d with
                      | zero =>
                        intro n f hd hle of h21 h22
                        have h7 : f 7 = u.2.2.2 7 := of 7 (by decide) (by decide)
                        have hbs : bfN pk (j + 1) = bfN pk j + pk j := rfl
                        refine a_iload (pc := 170) dX12_exact_170 rfl ?_
                        refine a_iload (pc := 172) dX12_exact_172 rfl ?_
                        refine a_icmp_gtN (pc := 174) (tgt := 257) dX12_exact_174 (by decide) (by omega) (by omega) (fun c174 => ?_) (fun c174 => ?_)
                        · refine a_iincN (pc := 257) (n := 1) dX12_exact_257 (by decide) rfl (by decide) rfl ?_
                          refine a_goto (pc := 260) (tgt := 157) dX12_exact_260 (by decide) ?_
                          exact a_locR (ihk (k + 1) f (by omega) (by omega) of h21 (fun m hm => (h22 m hm).trans (by rw [show n = min (pk j) (gu j) + 1 by omega]; rfl))) ⟨rfl, rfl, rfl, rfl, rfl, rfl, rfl, rfl, rfl, trivial⟩
                        · refine a_iload (pc := 177) dX12_exact_177 rfl ?_
                          refine a_aload_n (pc := 179) dX12_exact_179 rfl rfl ?_
                          refine a_getfield (pc := 180) kg_X12_66 dX12_exact_180 (m_obj hm) rfl ?_
                          refine a_iload (pc := 183) dX12_exact_183 rfl ?_
                          refine a_iaload (pc := 185) dX12_exact_185 (m_a23 hm) (_) (rfl) (by omega) (by omega) ?_
                          refine a_topi (hG j (by omega)) ?_
                          refine a_icmp_gtN (pc := 186) (tgt := 257) dX12_exact_186 (by decide) (by omega) (by omega) (fun c186 => ?_) (fun c186 => ?_)
                          · refine a_iincN (pc := 257) (n := 1) dX12_exact_257 (by decide) rfl (by decide) rfl ?_
                            refine a_goto (pc := 260) (tgt := 157) dX12_exact_260 (by decide) ?_
                            exact a_locR (ihk (k + 1) f (by omega) (by omega) of h21 (fun m hm => (h22 m hm).trans (by rw [show n = min (pk j) (gu j) + 1 by omega]; rfl))) ⟨rfl, rfl, rfl, rfl, rfl, rfl, rfl, rfl, rfl, trivial⟩
                          · exact absurd c186 (by omega)
                      | succ d ih =>
                        intro n f hd hle of h21 h22
                        have h7 : f 7 = u.2.2.2 7 := of 7 (by decide) (by decide)
                        have hbs : bfN pk (j + 1) = bfN pk j + pk j := rfl
                        refine a_iload (pc := 170) dX12_exact_170 rfl ?_
                        refine a_iload (pc := 172) dX12_exact_172 rfl ?_
                        refine a_icmp_gtN (pc := 174) (tgt := 257) dX12_exact_174 (by decide) (by omega) (by omega) (fun c174 => ?_) (fun c174 => ?_)
                        · exact absurd c174 (by omega)
                        · refine a_iload (pc := 177) dX12_exact_177 rfl ?_
                          refine a_aload_n (pc := 179) dX12_exact_179 rfl rfl ?_
                          refine a_getfield (pc := 180) kg_X12_66 dX12_exact_180 (m_obj hm) rfl ?_
                          refine a_iload (pc := 183) dX12_exact_183 rfl ?_
                          refine a_iaload (pc := 185) dX12_exact_185 (m_a23 hm) (_) (rfl) (by omega) (by omega) ?_
                          refine a_topi (hG j (by omega)) ?_
                          refine a_icmp_gtN (pc := 186) (tgt := 257) dX12_exact_186 (by decide) (by omega) (by omega) (fun c186 => ?_) (fun c186 => ?_)
                          · exact absurd c186 (by omega)
                          · refine a_aload_n (pc := 189) dX12_exact_189 rfl rfl ?_
                            refine a_getfield (pc := 190) kg_X12_63 dX12_exact_190 (m_obj hm) rfl ?_
                            refine a_iload (pc := 193) dX12_exact_193 rfl ?_
                            refine a_iload (pc := 195) dX12_exact_195 rfl ?_
                            refine a_iaddN (pc := 197) dX12_exact_197 ?_
                            refine a_dup2 (pc := 198) dX12_exact_198 rfl rfl ?_
                            refine a_laload (pc := 199) dX12_exact_199 (m_a22 hm) (k + n) (rfl) (by omega) (by omega) ?_
                            refine a_topl (h22 (k + n) (by omega)) ?_
                            refine a_aload_n (pc := 200) dX12_exact_200 rfl rfl ?_
                            refine a_getfield (pc := 201) kg_X12_60 dX12_exact_201 (m_obj hm) rfl ?_
                            refine a_iload (pc := 204) dX12_exact_204 rfl ?_
                            refine a_laload (pc := 206) dX12_exact_206 (m_a21 hm) (_) (rfl) (by omega) (by omega) ?_
                            refine a_topl (h21 k (by omega)) ?_
                            refine a_aload_n (pc := 207) dX12_exact_207 rfl rfl ?_
                            refine a_getfield (pc := 208) kg_X12_23 dX12_exact_208 (m_obj hm) rfl ?_
                            refine a_bipush (pc := 211) dX12_exact_211 ib_26 ?_
                            refine a_aload_n (pc := 213) dX12_exact_213 rfl rfl ?_
                            refine a_getfield (pc := 214) kg_X12_66 dX12_exact_214 (m_obj hm) rfl ?_
                            refine a_iload (pc := 217) dX12_exact_217 rfl ?_
                            refine a_iaload (pc := 219) dX12_exact_219 (m_a23 hm) (_) (rfl) (by omega) (by omega) ?_
                            refine a_topi (hG j (by omega)) ?_
                            refine a_imulN (pc := 220) dX12_exact_220 ?_
                            refine a_iload (pc := 221) dX12_exact_221 rfl ?_
                            refine a_iaddN (pc := 223) dX12_exact_223 ?_
                            refine a_laload (pc := 224) dX12_exact_224 (m_a7 hm) (_) (rfl) (by omega) (by omega) ?_
                            refine a_topl ((show _ = lN (binN (gu j) (n)) from (congrFun h7 _).trans (hC _ _ (by omega) (by omega)))) ?_
                            refine a_lmulN (pc := 225) dX12_exact_225 ?_
                            refine a_aload_n (pc := 226) dX12_exact_226 rfl rfl ?_
                            refine a_getfield (pc := 227) kg_X12_23 dX12_exact_227 (m_obj hm) rfl ?_
                            refine a_bipush (pc := 230) dX12_exact_230 ib_26 ?_
                            refine a_iload (pc := 232) dX12_exact_232 rfl ?_
                            refine a_iload (pc := 234) dX12_exact_234 rfl ?_
                            refine a_isubN (pc := 236) dX12_exact_236 (by omega) ?_
                            refine a_iload (pc := 237) dX12_exact_237 rfl ?_
                            refine a_isubN (pc := 239) dX12_exact_239 (by omega) ?_
                            refine a_imulN (pc := 240) dX12_exact_240 ?_
                            refine a_iload (pc := 241) dX12_exact_241 rfl ?_
                            refine a_iaddN (pc := 243) dX12_exact_243 ?_
                            refine a_iload (pc := 244) dX12_exact_244 rfl ?_
                            refine a_isubN (pc := 246) dX12_exact_246 (by omega) ?_
                            refine a_laload (pc := 247) dX12_exact_247 (m_a7 hm) (26 * (bfN pk (j + 1) - k - n) + (pk j - n)) (congrArg nI (by omega)) (by omega) (by omega) ?_
                            refine a_topl ((show _ = lN (binN (bfN pk (j + 1) - k - n) (pk j - n)) from (congrFun h7 _).trans (hC _ _ (by omega) (by omega)))) ?_
                            refine a_lmulN (pc := 248) dX12_exact_248 ?_
                            refine a_laddN (pc := 249) dX12_exact_249 ?_
                            refine a_lastore (pc := 250) dX12_exact_250 (m_a22 hm) (_) (rfl) (by omega) (by omega) ?_
                            refine a_hp (m_p22 hm) ?_
                            refine a_hp (show _ = mh m (wl u (updA f 22 (vp_updL (f 22) (k + n) ((lN ((sumN (hW pk gu j (hN pk gu j) (k + n)) k + if k ≤ k + n ∧ k + n < k + n then hN pk gu j k * binN (gu j) ((k + n) - k) * binN (bfN pk (j + 1) - (k + n)) (pk j - ((k + n) - k)) else 0) + hN pk gu j k * binN (gu j) n * binN (bfN pk (j + 1) - k - n) (pk j - n))))))) h0 from congrArg (fun t => mh m t h0) (rfl)) ?_
                            obtain ⟨f1, hf1⟩ : ∃ f1, f1 = updA f 22 (vp_updL (f 22) (k + n) ((lN ((sumN (hW pk gu j (hN pk gu j) (k + n)) k + if k ≤ k + n ∧ k + n < k + n then hN pk gu j k * binN (gu j) ((k + n) - k) * binN (bfN pk (j + 1) - (k + n)) (pk j - ((k + n) - k)) else 0) + hN pk gu j k * binN (gu j) n * binN (bfN pk (j + 1) - k - n) (pk j - n))))) := ⟨_, rfl⟩
                            refine a_hp (show _ = mh m (wl u f1) h0 by rw [hf1]) ?_
                            have of1 : offL u f1 := by rw [hf1]; exact offL_u (by decide) of
                            refine a_iincN (pc := 251) (n := 1) dX12_exact_251 (by decide) rfl (by decide) rfl ?_
                            refine a_goto (pc := 254) (tgt := 170) dX12_exact_254 (by decide) ?_
                            exact a_locR (ih (n + 1) f1 (by omega) (by omega) of1 (fun m hm => by rw [hf1]; exact h21 m hm) (fun m hm => by rw [hf1]; exact accI (by omega) (h22 m hm))) ⟨rfl, rfl, rfl, rfl, rfl, rfl, rfl, rfl, rfl, rfl, trivial⟩
                    exact a_locR (LD _ 0 f rfl (Nat.zero_le _) of h21 (fun m hm => (h22 m hm).trans (by rw [if_neg (by omega), Nat.add_zero]))) ⟨rfl, rfl, rfl, rfl, rfl, rfl, rfl, rfl, rfl, rfl, trivial⟩
              have LB : ∀ (d k : Nat) (f : Nat → Nat → Int64), 26 - k = d → k ≤ 26 → offL u f → (∀ m, m ≤ 25 → f 21 m = lN (hN pk gu j m)) → (∀ m, m < k → f 22 m = lN 0) → AJ X M yX12_exact cX12_exact 11 (some .long) 133 [(0, .ref (m 65)), (1, .int (nI r)), (2, .int (nI q)), (3, .int w), (4, .int (nI (bfN pk (j + 1)))), (5, .long (lN (allN pk (j + 1)))), (7, .int (nI j)), (8, .int (nI (pk j))), (9, .int (nI k))] [] (mh m (wl u f) h0) 0 0 := by
                intro d
                induction d with
                | zero =>
                  intro k f hd hle of h21 h22
                  have h7 : f 7 = u.2.2.2 7 := of 7 (by decide) (by decide)
                  refine a_iload (pc := 133) dX12_exact_133 rfl ?_
                  refine a_bipush (pc := 135) dX12_exact_135 ib_25 ?_
                  refine a_icmp_gtN (pc := 137) (tgt := 154) dX12_exact_137 (by decide) (by omega) (by omega) (fun c137 => ?_) (fun c137 => ?_)
                  · have hk : k = 26 := by omega
                    subst hk
                    refine a_iconst (pc := 154) dX12_exact_154 ic_0 ?_
                    refine a_istore (pc := 155) dX12_exact_155 (by decide) rfl ?_
                    exact a_locR (LO _ 0 f rfl (Nat.zero_le _) of h21 (fun m hm => h22 m (by omega))) ⟨rfl, rfl, rfl, rfl, rfl, rfl, rfl, rfl, rfl, trivial⟩
                  · exact absurd c137 (by omega)
                | succ d ih =>
                  intro k f hd hle of h21 h22
                  have h7 : f 7 = u.2.2.2 7 := of 7 (by decide) (by decide)
                  refine a_iload (pc := 133) dX12_exact_133 rfl ?_
                  refine a_bipush (pc := 135) dX12_exact_135 ib_25 ?_
                  refine a_icmp_gtN (pc := 137) (tgt := 154) dX12_exact_137 (by decide) (by omega) (by omega) (fun c137 => ?_) (fun c137 => ?_)
                  · exact absurd c137 (by omega)
                  · refine a_aload_n (pc := 140) dX12_exact_140 rfl rfl ?_
                    refine a_getfield (pc := 141) kg_X12_63 dX12_exact_141 (m_obj hm) rfl ?_
                    refine a_iload (pc := 144) dX12_exact_144 rfl ?_
                    refine a_lconst (pc := 146) (v := lN 0) dX12_exact_146 rfl ?_
                    refine a_lastore (pc := 147) dX12_exact_147 (m_a22 hm) (_) (rfl) (by omega) (by omega) ?_
                    refine a_hp (m_p22 hm) ?_
                    refine a_hp (show _ = mh m (wl u (updA f 22 (vp_updL (f 22) (k) (lN 0)))) h0 from congrArg (fun t => mh m t h0) (rfl)) ?_
                    obtain ⟨f1, hf1⟩ : ∃ f1, f1 = updA f 22 (vp_updL (f 22) (k) (lN 0)) := ⟨_, rfl⟩
                    refine a_hp (show _ = mh m (wl u f1) h0 by rw [hf1]) ?_
                    have of1 : offL u f1 := by rw [hf1]; exact offL_u (by decide) of
                    refine a_iincN (pc := 148) (n := 1) dX12_exact_148 (by decide) rfl (by decide) rfl ?_
                    refine a_goto (pc := 151) (tgt := 133) dX12_exact_151 (by decide) ?_
                    exact a_locR (ih (k + 1) f1 (by omega) (by omega) of1 (fun m hm => by rw [hf1]; exact h21 m hm) (by rw [hf1]; exact updL_s (X := fun _ => lN 0) h22)) ⟨rfl, rfl, rfl, rfl, rfl, rfl, rfl, rfl, rfl, trivial⟩
              exact a_locR (LB 26 0 f rfl (by omega) of h21 (fun m hm => absurd hm (Nat.not_lt_zero _))) ⟨rfl, rfl, rfl, rfl, rfl, rfl, rfl, rfl, rfl, trivial⟩
        have LA : ∀ (d k : Nat) (f : Nat → Nat → Int64), 26 - k = d → k ≤ 26 → offL u f → (∀ m, m < k → f 21 m = lN (hN pk gu 0 m)) → AJ X M yX12_exact cX12_exact 11 (some .long) 42 [(0, .ref (m 65)), (1, .int (nI r)), (2, .int (nI q)), (3, .int w), (4, .int (nI k))] [] (mh m (wl u f) h0) 0 0 := by
          intro d
          induction d with
          | zero =>
            intro k f hd hle of h21
            have h7 : f 7 = u.2.2.2 7 := of 7 (by decide) (by decide)
            refine a_iload (pc := 42) dX12_exact_42 rfl ?_
            refine a_bipush (pc := 44) dX12_exact_44 ib_25 ?_
            refine a_icmp_gtN (pc := 46) (tgt := 72) dX12_exact_46 (by decide) (by omega) (by omega) (fun c46 => ?_) (fun c46 => ?_)
            · have hk : k = 26 := by omega
              subst hk
              refine a_iconst (pc := 72) dX12_exact_72 ic_0 ?_
              refine a_istore (pc := 73) dX12_exact_73 (by decide) rfl ?_
              refine a_lconst (pc := 75) (v := lN 1) dX12_exact_75 rfl ?_
              refine a_lstore (pc := 76) dX12_exact_76 (by decide) rfl ?_
              refine a_iconst (pc := 78) dX12_exact_78 ic_0 ?_
              refine a_istore (pc := 79) dX12_exact_79 (by decide) rfl ?_
              exact a_locR (LS 5 0 f rfl (by omega) of (fun m hm => h21 m (by omega))) ⟨rfl, rfl, rfl, rfl, rfl, rfl, rfl, trivial⟩
            · exact absurd c46 (by omega)
          | succ d ih =>
            intro k f hd hle of h21
            have h7 : f 7 = u.2.2.2 7 := of 7 (by decide) (by decide)
            refine a_iload (pc := 42) dX12_exact_42 rfl ?_
            refine a_bipush (pc := 44) dX12_exact_44 ib_25 ?_
            refine a_icmp_gtN (pc := 46) (tgt := 72) dX12_exact_46 (by decide) (by omega) (by omega) (fun c46 => ?_) (fun c46 => ?_)
            · exact absurd c46 (by omega)
            · refine a_aload_n (pc := 49) dX12_exact_49 rfl rfl ?_
              refine a_getfield (pc := 50) kg_X12_60 dX12_exact_50 (m_obj hm) rfl ?_
              refine a_iload (pc := 53) dX12_exact_53 rfl ?_
              refine a_iload (pc := 55) dX12_exact_55 rfl ?_
              refine a_if_neN (pc := 57) (tgt := 64) dX12_exact_57 (by decide) (by omega) (fun c57 => ?_) (fun c57 => ?_)
              · have hv : lN 0 = lN (hN pk gu 0 k) := by show _ = lN (if k = 0 then 1 else 0); rw [if_neg (by omega)]
                refine a_lconst (pc := 64) (v := lN 0) dX12_exact_64 rfl ?_
                refine a_topl hv ?_
                refine a_lastore (pc := 65) dX12_exact_65 (m_a21 hm) (_) (rfl) (by omega) (by omega) ?_
                refine a_hp (m_p21 hm) ?_
                refine a_hp (show _ = mh m (wl u (updA f 21 (vp_updL (f 21) (k) (lN (hN pk gu 0 k))))) h0 from congrArg (fun t => mh m t h0) (rfl)) ?_
                obtain ⟨f1, hf1⟩ : ∃ f1, f1 = updA f 21 (vp_updL (f 21) (k) (lN (hN pk gu 0 k))) := ⟨_, rfl⟩
                refine a_hp (show _ = mh m (wl u f1) h0 by rw [hf1]) ?_
                have of1 : offL u f1 := by rw [hf1]; exact offL_u (by decide) of
                refine a_iincN (pc := 66) (n := 1) dX12_exact_66 (by decide) rfl (by decide) rfl ?_
                refine a_goto (pc := 69) (tgt := 42) dX12_exact_69 (by decide) ?_
                exact a_locR (ih (k + 1) f1 (by omega) (by omega) of1 (by rw [hf1]; exact updL_s (X := fun m => lN (hN pk gu 0 m)) h21)) ⟨rfl, rfl, rfl, rfl, rfl, trivial⟩
              · have hv : lN 1 = lN (hN pk gu 0 k) := by show _ = lN (if k = 0 then 1 else 0); rw [if_pos (by omega)]
                refine a_lconst (pc := 60) (v := lN 1) dX12_exact_60 rfl ?_
                refine a_goto (pc := 61) (tgt := 65) dX12_exact_61 (by decide) ?_
                refine a_topl hv ?_
                refine a_lastore (pc := 65) dX12_exact_65 (m_a21 hm) (_) (rfl) (by omega) (by omega) ?_
                refine a_hp (m_p21 hm) ?_
                refine a_hp (show _ = mh m (wl u (updA f 21 (vp_updL (f 21) (k) (lN (hN pk gu 0 k))))) h0 from congrArg (fun t => mh m t h0) (rfl)) ?_
                obtain ⟨f1, hf1⟩ : ∃ f1, f1 = updA f 21 (vp_updL (f 21) (k) (lN (hN pk gu 0 k))) := ⟨_, rfl⟩
                refine a_hp (show _ = mh m (wl u f1) h0 by rw [hf1]) ?_
                have of1 : offL u f1 := by rw [hf1]; exact offL_u (by decide) of
                refine a_iincN (pc := 66) (n := 1) dX12_exact_66 (by decide) rfl (by decide) rfl ?_
                refine a_goto (pc := 69) (tgt := 42) dX12_exact_69 (by decide) ?_
                exact a_locR (ih (k + 1) f1 (by omega) (by omega) of1 (by rw [hf1]; exact updL_s (X := fun m => lN (hN pk gu 0 m)) h21)) ⟨rfl, rfl, rfl, rfl, rfl, trivial⟩
        exact a_locR (LA 26 0 _ rfl (by omega) (fun _ _ _ => rfl) (fun m hm => absurd hm (Nat.not_lt_zero _))) ⟨rfl, rfl, rfl, rfl, rfl, trivial⟩
      · refine a_ldc2 (pc := 30) kc_X12_205 dX12_exact_30 ?_
        refine a_ret_l (pc := 33) hM rfl dX12_exact_33 (by omega) (by omega) ?_
        exact ⟨by rw [R_exact, if_neg (by rw [c27, Bool.and_false]; simp)], _, rfl, by rw [R_exact, if_neg (by rw [c27, Bool.and_false]; simp)]; exact SP.rfl⟩

end MP12

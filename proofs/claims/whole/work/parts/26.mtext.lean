/-! THE REFERENCE: what a rule says of a run; texts; told -/
section MP10
variable {X : KX} {m : Nat → Nat} {s : MST} {h0 : AH}
theorem SP_pst {s : MST} {p : PS} : SP (pst s p) s := ⟨fun k hk => by
    have h : k ≠ 34 ∧ k ≠ 35 ∧ k ≠ 37 ∧ k ≠ 38 ∧ k ≠ 39 ∧ k ≠ 40 := by
      refine ⟨?_, ?_, ?_, ?_, ?_, ?_⟩ <;> (rintro rfl; exact absurd hk (by decide))
    show (if k = 34 then nI (pTk p) else if k = 35 then nI (pAt p) else if k = 37 then nI (pHr p) else if k = 38 then nI (pOp p) else if k = 39 then bI (pBad p) else if k = 40 then (if pBad p = true then nI (pFt p) else s.1 40) else s.1 k) = s.1 k
    rw [if_neg h.1, if_neg h.2.1, if_neg h.2.2.1, if_neg h.2.2.2.1, if_neg h.2.2.2.2.1, if_neg h.2.2.2.2.2], fun _ _ => rfl, rfl⟩
theorem SP_rSt {s : MST} {x Z : Nat} : SP (rSt s x Z) s := SP.si (by decide) (SP.si (by decide) SP.rfl)
/-- earlier runs of the same guesser, hits of them all up to here -/
def sameG (s : MST) (r k : Nat) : Bool := decide (s.2.1 12 k = s.2.1 12 r)
def runP (s : MST) (r : Nat) : Nat → Nat := cntN (sameG s r)
def allP (s : MST) (r : Nat) : Nat → Nat := sumN (fun k => if sameG s r k = true then hitsP s k (rsz s k) else 0)
def abF (s : MST) (r w : Nat) : Nat → Int32 := fun k => if k = 41 then nI (hitsP s r (rsz s r)) else if k = 42 then (if w = 2 then nI 0 else nI (runP s r r)) else if k = 43 then (if w = 2 then nI (hitsP s r (rsz s r)) else nI (allP s r (r + 1))) else if k = 44 then boundP s r (rsz s r) (vI s 28) else if k = 45 then s.2.1 13 r else nI (nextP s r (rsz s r))
def ruleE (s : MST) : Rs × Rs × Rs := readE (byP s (160 * vI s 4) (vA s 2 (vI s 4))) (vA s 2 (vI s 4)) c0
def saysV (s : MST) (r w : Nat) : Int32 := exAt (ruleE s) w (abF s r w)
theorem allP_le {s : MST} {r n : Nat} (h : ∀ k, k < n → rsz s k ≤ 25) : allP s r n ≤ 25 * n := by
  induction n with
  | zero => exact Nat.le_refl 0
  | succ n ih =>
    have h1 := ih (fun k hk => h k (by omega))
    have h2 : hitsP s n (rsz s n) ≤ rsz s n := cntN_le _ _
    have h3 := h n (by omega)
    show allP s r n + (if sameG s r n = true then hitsP s n (rsz s n) else 0) ≤ 25 * (n + 1)
    split <;> omega
theorem allP_t {s : MST} {r k : Nat} (h : sameG s r k = true) : allP s r (k + 1) = allP s r k + hitsP s k (rsz s k) := by
  show allP s r k + (if sameG s r k = true then hitsP s k (rsz s k) else 0) = _
  rw [if_pos h]
theorem allP_f {s : MST} {r k : Nat} (h : sameG s r k = false) : allP s r (k + 1) = allP s r k := by
  show allP s r k + (if sameG s r k = true then hitsP s k (rsz s k) else 0) = _
  rw [if_neg (by rw [h]; decide)]
  rfl
theorem MV_txt {s : MST} (hV : MV s) {t : Nat} (ht : t < vI s 3) : t < 6 ∧ s.2.1 2 t = nI (vA s 2 t) ∧ vA s 2 t ≤ 160 := by
  have h := hV.2.2.2.2.2.2.1
  have h3 : vI s 3 ≤ 6 := h.1.2
  have hq := (h.2.2.2.2.2 t ht).1
  have hq2 : vA s 2 t < 161 := hq.2
  exact ⟨by omega, hq.1, by omega⟩
theorem MV_rule {s : MST} (hV : MV s) : s.1 4 = nI (vI s 4) ∧ vI s 4 < vI s 3 := hV.2.2.2.2.2.2.1.2.2.1
/-- s with other int fields -/
def wi (s : MST) (f : Nat → Int32) : MST := (f, s.2)
def offA (s : MST) (f : Nat → Int32) : Prop := ∀ k, k < 41 ∨ 46 < k → f k = s.1 k
theorem offA_0 {s : MST} : offA s s.1 := fun _ _ => rfl
theorem offA_u {s : MST} {f : Nat → Int32} {k : Nat} {v : Int32} (h1 : 41 ≤ k) (h2 : k ≤ 46) (h : offA s f) : offA s (upd f k v) := fun j hj => by
  unfold upd
  rw [if_neg (by omega)]
  exact h j hj
theorem SP_wi {s : MST} {f : Nat → Int32} (h : offA s f) : SP (wi s f) s := ⟨fun k hk => h k (by
  have e : ∀ k, k ∈ pIl → k < 41 ∨ 46 < k := by decide
  exact e k hk), fun _ _ => rfl, rfl⟩
theorem alikeP_sp {s t : MST} (h : SP s t) (r n : Nat) : alikeP s r n = alikeP t r n := by unfold alikeP; rw [h.2.1 14 (by decide)]
theorem nextP_sp {s t : MST} (h : SP s t) (r n : Nat) : nextP s r n = nextP t r n := by unfold nextP; rw [h.2.1 14 (by decide), h.2.1 15 (by decide)]
theorem hasP_sp {s t : MST} (h : SP s t) (k r n : Nat) : hasP s k r n = hasP t k r n := by unfold hasP; rw [h.2.1 14 (by decide), h.2.1 26 (by decide)]
theorem givesP_sp {s t : MST} (h : SP s t) (k r n : Nat) : givesP s k r n = givesP t k r n := by unfold givesP; rw [hasP_sp h, alikeP_sp h, h.2.1 27 (by decide), h.2.1 25 (by decide), vA_sp h (by decide)]
theorem boundP_sp {s t : MST} (h : SP s t) (r n nl : Nat) : boundP s r n nl = boundP t r n nl := by
  unfold boundP
  congr 1
  induction nl with
  | zero => rfl
  | succ nl ih => rw [boundS, boundS, ih, givesP_sp h]
set_option maxRecDepth 4000 in
theorem f_saysOf (hm : MI m) (hV : MV s) {r w : Nat} (hr : r < vI s 18) (hw : w ≤ 2) : Fn X 41 0 0 yX12_saysOf cX12_saysOf 4 (some .int) [.ref (m 65), .int (nI r), .int (nI w)] (mh m s h0) (fun rv hv => rv = some (.int (saysV s r w)) ∧ ∃ s' : MST, hv = mh m s' h0 ∧ SP s' s ∧ ∀ k, k ≠ 36 → s'.2.2.1 k = s.2.2.1 k) := by
  obtain ⟨⟨hn28, hb28⟩, hl28⟩ := id hV.2.2.1
  refine fn_of (by decide) (Nat.le_of_ble_eq_true rfl) (fun M hM => ?_)
  obtain ⟨hr16, hz, hz1, hz2⟩ := MV_run hV hr
  have hr18 : vI s 18 ≤ 16 := hV.2.1.1.2
  obtain ⟨hrl, hrl3⟩ := MV_rule hV
  obtain ⟨ht6, htz, htz2⟩ := MV_txt hV hrl3
  have hh25r : hitsP s r (rsz s r) ≤ rsz s r := cntN_le _ _
  have hxr : nextP s r (rsz s r) ≤ rsz s r - 1 := cntN_le _ _
  have tail : ∀ f : Nat → Int32, offA s f → f 42 = nI (runP s r r) → f 43 = nI (allP s r (r + 1)) → AJ X M yX12_saysOf cX12_saysOf 4 (some .int) 12 [(0, .ref (m 65)), (1, .int (nI r)), (2, .int (nI w)), (3, .int (nI (r + 1)))] [] (mh m (wi s f) h0) 0 0 := by
    intro f of h42 h43
    refine a_iload_n (pc := 12) dX12_saysOf_12 rfl rfl ?_
    refine a_iload_n (pc := 13) dX12_saysOf_13 rfl rfl ?_
    refine a_icmp_gtN (pc := 14) (tgt := 74) dX12_saysOf_14 (by decide) (by omega) (by omega) (fun c14 => ?_) (fun c14 => ?_)
    · refine a_aload_n (pc := 74) dX12_saysOf_74 rfl rfl ?_
      refine a_aload_n (pc := 75) dX12_saysOf_75 rfl rfl ?_
      refine a_iload_n (pc := 76) dX12_saysOf_76 rfl rfl ?_
      refine a_callV (pc := 77) km_X12_183 dX12_saysOf_77 (f_hitsOf (s := wi s f) hm hr16 hz) rfl rfl (krecv_of (ci := 12) rfl (m_obj hm)) (rok_of hM (by decide) (by decide) (by omega) (by omega)) (Nat.le_of_ble_eq_true rfl) (fun r77 h77 hp77 => ?_)
      obtain ⟨rfl, rfl⟩ := hp77
      refine a_topi (show _ = nI (hitsP s r (rsz s r)) from rfl) ?_
      refine a_putfield (pc := 80) kf_X12_300 dX12_saysOf_80 (m_obj hm) (rfl) (by rfl) (Nat.le_of_ble_eq_true rfl) ?_
      refine a_hp (m_p41 hm) ?_
      refine a_hp (show _ = mh m ((wi s (upd f 41 (nI (hitsP s r (rsz s r)))))) h0 from congrArg (fun t => mh m t h0) (rfl)) ?_
      obtain ⟨f1, hf1⟩ : ∃ f1, f1 = upd f 41 (nI (hitsP s r (rsz s r))) := ⟨_, rfl⟩
      refine a_hp (show _ = mh m (wi s f1) h0 by rw [hf1]) ?_
      have of1 : offA s f1 := by rw [hf1]; exact offA_u (by decide) (by decide) of
      refine a_aload_n (pc := 83) dX12_saysOf_83 rfl rfl ?_
      refine a_aload_n (pc := 84) dX12_saysOf_84 rfl rfl ?_
      refine a_iload_n (pc := 85) dX12_saysOf_85 rfl rfl ?_
      refine a_callV (pc := 86) km_X12_196 dX12_saysOf_86 (f_boundOf (s := wi s f1) hm hr16 hz ((of1 28 (by decide)).trans hn28) hb28 (fun k hk => (hV.2.2.1.2 k hk).1)) rfl rfl (krecv_of (ci := 12) rfl (m_obj hm)) (rok_of hM (by decide) (by decide) (by omega) (by omega)) (Nat.le_of_ble_eq_true rfl) (fun r86 h86 hp86 => ?_)
      obtain ⟨rfl, rfl⟩ := hp86
      refine a_topi (show _ = boundP s r (rsz s r) (vI s 28) from boundP_sp (SP_wi of1) _ _ _) ?_
      refine a_putfield (pc := 89) kf_X12_315 dX12_saysOf_89 (m_obj hm) (rfl) (by rfl) (Nat.le_of_ble_eq_true rfl) ?_
      refine a_hp (m_p44 hm) ?_
      refine a_hp (show _ = mh m ((wi s (upd f1 44 (boundP s r (rsz s r) (vI s 28))))) h0 from congrArg (fun t => mh m t h0) (rfl)) ?_
      obtain ⟨f2, hf2⟩ : ∃ f2, f2 = upd f1 44 (boundP s r (rsz s r) (vI s 28)) := ⟨_, rfl⟩
      refine a_hp (show _ = mh m (wi s f2) h0 by rw [hf2]) ?_
      have of2 : offA s f2 := by rw [hf2]; exact offA_u (by decide) (by decide) of1
      refine a_aload_n (pc := 92) dX12_saysOf_92 rfl rfl ?_
      refine a_aload_n (pc := 93) dX12_saysOf_93 rfl rfl ?_
      refine a_getfield (pc := 94) kg_X12_39 dX12_saysOf_94 (m_obj hm) rfl ?_
      refine a_iload_n (pc := 97) dX12_saysOf_97 rfl rfl ?_
      refine a_iaload (pc := 98) dX12_saysOf_98 (m_a13 hm) (_) (rfl) (by omega) (by omega) ?_
      refine a_putfield (pc := 99) kf_X12_320 dX12_saysOf_99 (m_obj hm) (rfl) (by rfl) (Nat.le_of_ble_eq_true rfl) ?_
      refine a_hp (m_p45 hm) ?_
      refine a_hp (show _ = mh m ((wi s (upd f2 45 (s.2.1 13 r)))) h0 from congrArg (fun t => mh m t h0) (rfl)) ?_
      obtain ⟨f3, hf3⟩ : ∃ f3, f3 = upd f2 45 (s.2.1 13 r) := ⟨_, rfl⟩
      refine a_hp (show _ = mh m (wi s f3) h0 by rw [hf3]) ?_
      have of3 : offA s f3 := by rw [hf3]; exact offA_u (by decide) (by decide) of2
      refine a_aload_n (pc := 102) dX12_saysOf_102 rfl rfl ?_
      refine a_aload_n (pc := 103) dX12_saysOf_103 rfl rfl ?_
      refine a_iload_n (pc := 104) dX12_saysOf_104 rfl rfl ?_
      refine a_callV (pc := 105) km_X12_187 dX12_saysOf_105 (f_nextOf (s := wi s f3) hm hr16 hz) rfl rfl (krecv_of (ci := 12) rfl (m_obj hm)) (rok_of hM (by decide) (by decide) (by omega) (by omega)) (Nat.le_of_ble_eq_true rfl) (fun r105 h105 hp105 => ?_)
      obtain ⟨rfl, rfl⟩ := hp105
      refine a_topi (show _ = nI (nextP s r (rsz s r)) from rfl) ?_
      refine a_putfield (pc := 108) kf_X12_325 dX12_saysOf_108 (m_obj hm) (rfl) (by rfl) (Nat.le_of_ble_eq_true rfl) ?_
      refine a_hp (m_p46 hm) ?_
      refine a_hp (show _ = mh m ((wi s (upd f3 46 (nI (nextP s r (rsz s r)))))) h0 from congrArg (fun t => mh m t h0) (rfl)) ?_
      obtain ⟨f4, hf4⟩ : ∃ f4, f4 = upd f3 46 (nI (nextP s r (rsz s r))) := ⟨_, rfl⟩
      refine a_hp (show _ = mh m (wi s f4) h0 by rw [hf4]) ?_
      have of4 : offA s f4 := by rw [hf4]; exact offA_u (by decide) (by decide) of3
      refine a_iload_n (pc := 111) dX12_saysOf_111 rfl rfl ?_
      refine a_iconst (pc := 112) dX12_saysOf_112 ic_2 ?_
      refine a_icmp_neN (pc := 113) (tgt := 129) dX12_saysOf_113 (by decide) (by omega) (by omega) (fun c113 => ?_) (fun c113 => ?_)
      · have hcw : ¬ w = 2 := c113
        refine a_aload_n (pc := 129) dX12_saysOf_129 rfl rfl ?_
        refine a_aload_n (pc := 130) dX12_saysOf_130 rfl rfl ?_
        refine a_getfield (pc := 131) kg_X12_380 dX12_saysOf_131 (m_obj hm) rfl ?_
        refine a_topi ((show _ = nI (vI s 4) by first | exact (of4 4 (by decide)).trans (MV_rule hV).1 | exact (of6 4 (by decide)).trans (MV_rule hV).1)) ?_
        refine a_iload_n (pc := 134) dX12_saysOf_134 rfl rfl ?_
        refine a_callV (pc := 135) km_X12_377 dX12_saysOf_135 (f_read (s := wi s f4) hm (x := (vI s 4)) (w := w) (Z := (vA s 2 (vI s 4))) ht6 hw htz htz2) rfl rfl (krecv_of (ci := 12) rfl (m_obj hm)) (rok_of hM (by decide) (by decide) (by omega) (by omega)) (Nat.le_of_ble_eq_true rfl) (fun r135 h135 hp135 => ?_)
        obtain ⟨p0, hp0, rfl, rfl⟩ := hp135
        refine a_ret_i (pc := 138) hM rfl (rfl) dX12_saysOf_138 (by omega) (by omega) ?_
        have hab : ∀ k, 41 ≤ k → k ≤ 46 → (rSt (wi s f4) (vI s 4) (vA s 2 (vI s 4))).1 k = abF s r w k := by
          intro k h1 h2
          obtain rfl | rfl | rfl | rfl | rfl | rfl : k = 41 ∨ k = 42 ∨ k = 43 ∨ k = 44 ∨ k = 45 ∨ k = 46 := by omega
          · show f4 41 = _
            rw [hf4, hf3, hf2, hf1]
            rfl
          · show f4 42 = _
            rw [hf4, hf3, hf2, hf1]
            first | exact h42.trans (if_neg hcw).symm | exact (if_pos hcw).symm
          · show f4 43 = _
            rw [hf4, hf3, hf2, hf1]
            first | exact h43.trans (if_neg hcw).symm | exact (if_pos hcw).symm
          · show f4 44 = _
            rw [hf4, hf3, hf2, hf1]
            rfl
          · show f4 45 = _
            rw [hf4, hf3, hf2, hf1]
            rfl
          · show f4 46 = _
            rw [hf4, hf3, hf2, hf1]
            rfl
        exact ⟨congrArg (fun v => some (Value.int v)) (exAt_can hp0 w hab), _, rfl, SP.tr SP_pst (SP.tr SP_rSt (SP_wi of4)), fun k hk => if_neg hk⟩
      · have hcw : w = 2 := c113
        refine a_aload_n (pc := 116) dX12_saysOf_116 rfl rfl ?_
        refine a_iconst (pc := 117) dX12_saysOf_117 ic_0 ?_
        refine a_putfield (pc := 118) kf_X12_305 dX12_saysOf_118 (m_obj hm) (rfl) (by rfl) (Nat.le_of_ble_eq_true rfl) ?_
        refine a_hp (m_p42 hm) ?_
        refine a_hp (show _ = mh m ((wi s (upd f4 42 (nI 0)))) h0 from congrArg (fun t => mh m t h0) (rfl)) ?_
        obtain ⟨f5, hf5⟩ : ∃ f5, f5 = upd f4 42 (nI 0) := ⟨_, rfl⟩
        refine a_hp (show _ = mh m (wi s f5) h0 by rw [hf5]) ?_
        have of5 : offA s f5 := by rw [hf5]; exact offA_u (by decide) (by decide) of4
        refine a_aload_n (pc := 121) dX12_saysOf_121 rfl rfl ?_
        refine a_aload_n (pc := 122) dX12_saysOf_122 rfl rfl ?_
        refine a_getfield (pc := 123) kg_X12_300 dX12_saysOf_123 (m_obj hm) rfl ?_
        refine a_topi ((show _ = nI (hitsP s r (rsz s r)) by rw [hf5, hf4, hf3, hf2, hf1]; rfl)) ?_
        refine a_putfield (pc := 126) kf_X12_310 dX12_saysOf_126 (m_obj hm) (rfl) (by rfl) (Nat.le_of_ble_eq_true rfl) ?_
        refine a_hp (m_p43 hm) ?_
        refine a_hp (show _ = mh m ((wi s (upd f5 43 (nI (hitsP s r (rsz s r)))))) h0 from congrArg (fun t => mh m t h0) (rfl)) ?_
        obtain ⟨f6, hf6⟩ : ∃ f6, f6 = upd f5 43 (nI (hitsP s r (rsz s r))) := ⟨_, rfl⟩
        refine a_hp (show _ = mh m (wi s f6) h0 by rw [hf6]) ?_
        have of6 : offA s f6 := by rw [hf6]; exact offA_u (by decide) (by decide) of5
        refine a_aload_n (pc := 129) dX12_saysOf_129 rfl rfl ?_
        refine a_aload_n (pc := 130) dX12_saysOf_130 rfl rfl ?_
        refine a_getfield (pc := 131) kg_X12_380 dX12_saysOf_131 (m_obj hm) rfl ?_
        refine a_topi ((show _ = nI (vI s 4) by first | exact (of4 4 (by decide)).trans (MV_rule hV).1 | exact (of6 4 (by decide)).trans (MV_rule hV).1)) ?_
        refine a_iload_n (pc := 134) dX12_saysOf_134 rfl rfl ?_
        refine a_callV (pc := 135) km_X12_377 dX12_saysOf_135 (f_read (s := wi s f6) hm (x := (vI s 4)) (w := w) (Z := (vA s 2 (vI s 4))) ht6 hw htz htz2) rfl rfl (krecv_of (ci := 12) rfl (m_obj hm)) (rok_of hM (by decide) (by decide) (by omega) (by omega)) (Nat.le_of_ble_eq_true rfl) (fun r135 h135 hp135 => ?_)
        obtain ⟨p0, hp0, rfl, rfl⟩ := hp135
        refine a_ret_i (pc := 138) hM rfl (rfl) dX12_saysOf_138 (by omega) (by omega) ?_
        have hab : ∀ k, 41 ≤ k → k ≤ 46 → (rSt (wi s f6) (vI s 4) (vA s 2 (vI s 4))).1 k = abF s r w k := by
          intro k h1 h2
          obtain rfl | rfl | rfl | rfl | rfl | rfl : k = 41 ∨ k = 42 ∨ k = 43 ∨ k = 44 ∨ k = 45 ∨ k = 46 := by omega
          · show f6 41 = _
            rw [hf6, hf5, hf4, hf3, hf2, hf1]
            rfl
          · show f6 42 = _
            rw [hf6, hf5, hf4, hf3, hf2, hf1]
            first | exact h42.trans (if_neg hcw).symm | exact (if_pos hcw).symm
          · show f6 43 = _
            rw [hf6, hf5, hf4, hf3, hf2, hf1]
            first | exact h43.trans (if_neg hcw).symm | exact (if_pos hcw).symm
          · show f6 44 = _
            rw [hf6, hf5, hf4, hf3, hf2, hf1]
            rfl
          · show f6 45 = _
            rw [hf6, hf5, hf4, hf3, hf2, hf1]
            rfl
          · show f6 46 = _
            rw [hf6, hf5, hf4, hf3, hf2, hf1]
            rfl
        exact ⟨congrArg (fun v => some (Value.int v)) (exAt_can hp0 w hab), _, rfl, SP.tr SP_pst (SP.tr SP_rSt (SP_wi of6)), fun k hk => if_neg hk⟩
    · exact absurd c14 (by omega)
  have loop : ∀ (j k : Nat) (f : Nat → Int32), r - k = j → k ≤ r → offA s f → f 42 = nI (runP s r k) → f 43 = nI (allP s r k) → AJ X M yX12_saysOf cX12_saysOf 4 (some .int) 12 [(0, .ref (m 65)), (1, .int (nI r)), (2, .int (nI w)), (3, .int (nI k))] [] (mh m (wi s f) h0) 0 0 := by
    intro j
    induction j with
    | zero =>
      intro k f hjk hkr of h42 h43
      have hkk : k = r := by omega
      subst hkk
      obtain ⟨hk16, hkz, hkz1, hkz2⟩ := MV_run hV (r := k) (by omega)
      have hh25 : hitsP s k (rsz s k) ≤ rsz s k := cntN_le _ _
      have hra : runP s k k ≤ k := cntN_le _ _
      have hal : allP s k k ≤ 25 * k := allP_le (fun j hj => (MV_run hV (r := j) (by omega)).2.2.2)
      refine a_iload_n (pc := 12) dX12_saysOf_12 rfl rfl ?_
      refine a_iload_n (pc := 13) dX12_saysOf_13 rfl rfl ?_
      refine a_icmp_gtN (pc := 14) (tgt := 74) dX12_saysOf_14 (by decide) (by omega) (by omega) (fun c14 => ?_) (fun c14 => ?_)
      · exact absurd c14 (by omega)
      · refine a_aload_n (pc := 17) dX12_saysOf_17 rfl rfl ?_
        refine a_getfield (pc := 18) kg_X12_36 dX12_saysOf_18 (m_obj hm) rfl ?_
        refine a_iload_n (pc := 21) dX12_saysOf_21 rfl rfl ?_
        refine a_iaload (pc := 22) dX12_saysOf_22 (m_a12 hm) (_) (rfl) (by omega) (by omega) ?_
        refine a_aload_n (pc := 23) dX12_saysOf_23 rfl rfl ?_
        refine a_getfield (pc := 24) kg_X12_36 dX12_saysOf_24 (m_obj hm) rfl ?_
        refine a_iload_n (pc := 27) dX12_saysOf_27 rfl rfl ?_
        refine a_iaload (pc := 28) dX12_saysOf_28 (m_a12 hm) (_) (rfl) (by omega) (by omega) ?_
        refine a_icmp_eq (pc := 29) (tgt := 35) dX12_saysOf_29 (by decide) (fun c29 => ?_) (fun c29 => ?_)
        · have hsg : sameG s k k = true := decide_eq_true rfl
          refine a_aload_n (pc := 35) dX12_saysOf_35 rfl rfl ?_
          refine a_dup (pc := 36) dX12_saysOf_36 rfl ?_
          refine a_getfield (pc := 37) kg_X12_305 dX12_saysOf_37 (m_obj hm) rfl ?_
          refine a_topi (h42) ?_
          refine a_iload_n (pc := 40) dX12_saysOf_40 rfl rfl ?_
          refine a_iload_n (pc := 41) dX12_saysOf_41 rfl rfl ?_
          refine a_icmp_geN (pc := 42) (tgt := 49) dX12_saysOf_42 (by decide) (by omega) (by omega) (fun c42 => ?_) (fun c42 => ?_)
          · refine a_iconst (pc := 49) dX12_saysOf_49 ic_0 ?_
            refine a_iaddN (pc := 50) dX12_saysOf_50 ?_
            refine a_putfield (pc := 51) kf_X12_305 dX12_saysOf_51 (m_obj hm) (rfl) (by rfl) (Nat.le_of_ble_eq_true rfl) ?_
            refine a_hp (m_p42 hm) ?_
            refine a_hp (show _ = mh m ((wi s (upd f 42 (nI (runP s k k))))) h0 from congrArg (fun t => mh m t h0) (rfl)) ?_
            obtain ⟨f1, hf1⟩ : ∃ f1, f1 = upd f 42 (nI (runP s k k)) := ⟨_, rfl⟩
            refine a_hp (show _ = mh m (wi s f1) h0 by rw [hf1]) ?_
            have of1 : offA s f1 := by rw [hf1]; exact offA_u (by decide) (by decide) of
            refine a_aload_n (pc := 54) dX12_saysOf_54 rfl rfl ?_
            refine a_dup (pc := 55) dX12_saysOf_55 rfl ?_
            refine a_getfield (pc := 56) kg_X12_310 dX12_saysOf_56 (m_obj hm) rfl ?_
            refine a_topi ((show _ = nI (allP s k k) by first | exact h43 | (rw [hf1]; exact h43))) ?_
            refine a_aload_n (pc := 59) dX12_saysOf_59 rfl rfl ?_
            refine a_iload_n (pc := 60) dX12_saysOf_60 rfl rfl ?_
            refine a_callV (pc := 61) km_X12_183 dX12_saysOf_61 (f_hitsOf (s := wi s f1) hm hk16 hkz) rfl rfl (krecv_of (ci := 12) rfl (m_obj hm)) (rok_of hM (by decide) (by decide) (by omega) (by omega)) (Nat.le_of_ble_eq_true rfl) (fun r61 h61 hp61 => ?_)
            obtain ⟨rfl, rfl⟩ := hp61
            refine a_topi (show _ = nI (hitsP s k (rsz s k)) from rfl) ?_
            refine a_iaddN (pc := 64) dX12_saysOf_64 ?_
            refine a_putfield (pc := 65) kf_X12_310 dX12_saysOf_65 (m_obj hm) (rfl) (by rfl) (Nat.le_of_ble_eq_true rfl) ?_
            refine a_hp (m_p43 hm) ?_
            refine a_hp (show _ = mh m ((wi s (upd f1 43 (nI (allP s k k + hitsP s k (rsz s k)))))) h0 from congrArg (fun t => mh m t h0) (rfl)) ?_
            obtain ⟨f2, hf2⟩ : ∃ f2, f2 = upd f1 43 (nI (allP s k k + hitsP s k (rsz s k))) := ⟨_, rfl⟩
            refine a_hp (show _ = mh m (wi s f2) h0 by rw [hf2]) ?_
            have of2 : offA s f2 := by rw [hf2]; exact offA_u (by decide) (by decide) of1
            refine a_iincN (pc := 68) (n := 1) dX12_saysOf_68 (by decide) rfl (by decide) rfl ?_
            refine a_goto (pc := 71) (tgt := 12) dX12_saysOf_71 (by decide) ?_
            exact a_locR (tail f2 of2 (by rw [hf2, hf1]; rfl) (by rw [hf2, allP_t hsg]; rfl)) ⟨rfl, rfl, rfl, rfl, trivial⟩
          · exact absurd c42 (by omega)
        · exact absurd rfl (show ¬ s.2.1 12 k = s.2.1 12 k from c29)
    | succ j ih =>
      intro k f hjk hkr of h42 h43
      obtain ⟨hk16, hkz, hkz1, hkz2⟩ := MV_run hV (r := k) (by omega)
      have hh25 : hitsP s k (rsz s k) ≤ rsz s k := cntN_le _ _
      have hra : runP s r k ≤ k := cntN_le _ _
      have hal : allP s r k ≤ 25 * k := allP_le (fun j hj => (MV_run hV (r := j) (by omega)).2.2.2)
      refine a_iload_n (pc := 12) dX12_saysOf_12 rfl rfl ?_
      refine a_iload_n (pc := 13) dX12_saysOf_13 rfl rfl ?_
      refine a_icmp_gtN (pc := 14) (tgt := 74) dX12_saysOf_14 (by decide) (by omega) (by omega) (fun c14 => ?_) (fun c14 => ?_)
      · exact absurd c14 (by omega)
      · refine a_aload_n (pc := 17) dX12_saysOf_17 rfl rfl ?_
        refine a_getfield (pc := 18) kg_X12_36 dX12_saysOf_18 (m_obj hm) rfl ?_
        refine a_iload_n (pc := 21) dX12_saysOf_21 rfl rfl ?_
        refine a_iaload (pc := 22) dX12_saysOf_22 (m_a12 hm) (_) (rfl) (by omega) (by omega) ?_
        refine a_aload_n (pc := 23) dX12_saysOf_23 rfl rfl ?_
        refine a_getfield (pc := 24) kg_X12_36 dX12_saysOf_24 (m_obj hm) rfl ?_
        refine a_iload_n (pc := 27) dX12_saysOf_27 rfl rfl ?_
        refine a_iaload (pc := 28) dX12_saysOf_28 (m_a12 hm) (_) (rfl) (by omega) (by omega) ?_
        refine a_icmp_eq (pc := 29) (tgt := 35) dX12_saysOf_29 (by decide) (fun c29 => ?_) (fun c29 => ?_)
        · have hsg : sameG s r k = true := decide_eq_true c29
          refine a_aload_n (pc := 35) dX12_saysOf_35 rfl rfl ?_
          refine a_dup (pc := 36) dX12_saysOf_36 rfl ?_
          refine a_getfield (pc := 37) kg_X12_305 dX12_saysOf_37 (m_obj hm) rfl ?_
          refine a_topi (h42) ?_
          refine a_iload_n (pc := 40) dX12_saysOf_40 rfl rfl ?_
          refine a_iload_n (pc := 41) dX12_saysOf_41 rfl rfl ?_
          refine a_icmp_geN (pc := 42) (tgt := 49) dX12_saysOf_42 (by decide) (by omega) (by omega) (fun c42 => ?_) (fun c42 => ?_)
          · exact absurd c42 (by omega)
          · refine a_iconst (pc := 45) dX12_saysOf_45 ic_1 ?_
            refine a_goto (pc := 46) (tgt := 50) dX12_saysOf_46 (by decide) ?_
            refine a_iaddN (pc := 50) dX12_saysOf_50 ?_
            refine a_putfield (pc := 51) kf_X12_305 dX12_saysOf_51 (m_obj hm) (rfl) (by rfl) (Nat.le_of_ble_eq_true rfl) ?_
            refine a_hp (m_p42 hm) ?_
            refine a_hp (show _ = mh m ((wi s (upd f 42 (nI (runP s r k + 1))))) h0 from congrArg (fun t => mh m t h0) (rfl)) ?_
            obtain ⟨f1, hf1⟩ : ∃ f1, f1 = upd f 42 (nI (runP s r k + 1)) := ⟨_, rfl⟩
            refine a_hp (show _ = mh m (wi s f1) h0 by rw [hf1]) ?_
            have of1 : offA s f1 := by rw [hf1]; exact offA_u (by decide) (by decide) of
            refine a_aload_n (pc := 54) dX12_saysOf_54 rfl rfl ?_
            refine a_dup (pc := 55) dX12_saysOf_55 rfl ?_
            refine a_getfield (pc := 56) kg_X12_310 dX12_saysOf_56 (m_obj hm) rfl ?_
            refine a_topi ((show _ = nI (allP s r k) by first | exact h43 | (rw [hf1]; exact h43))) ?_
            refine a_aload_n (pc := 59) dX12_saysOf_59 rfl rfl ?_
            refine a_iload_n (pc := 60) dX12_saysOf_60 rfl rfl ?_
            refine a_callV (pc := 61) km_X12_183 dX12_saysOf_61 (f_hitsOf (s := wi s f1) hm hk16 hkz) rfl rfl (krecv_of (ci := 12) rfl (m_obj hm)) (rok_of hM (by decide) (by decide) (by omega) (by omega)) (Nat.le_of_ble_eq_true rfl) (fun r61 h61 hp61 => ?_)
            obtain ⟨rfl, rfl⟩ := hp61
            refine a_topi (show _ = nI (hitsP s k (rsz s k)) from rfl) ?_
            refine a_iaddN (pc := 64) dX12_saysOf_64 ?_
            refine a_putfield (pc := 65) kf_X12_310 dX12_saysOf_65 (m_obj hm) (rfl) (by rfl) (Nat.le_of_ble_eq_true rfl) ?_
            refine a_hp (m_p43 hm) ?_
            refine a_hp (show _ = mh m ((wi s (upd f1 43 (nI (allP s r k + hitsP s k (rsz s k)))))) h0 from congrArg (fun t => mh m t h0) (rfl)) ?_
            obtain ⟨f2, hf2⟩ : ∃ f2, f2 = upd f1 43 (nI (allP s r k + hitsP s k (rsz s k))) := ⟨_, rfl⟩
            refine a_hp (show _ = mh m (wi s f2) h0 by rw [hf2]) ?_
            have of2 : offA s f2 := by rw [hf2]; exact offA_u (by decide) (by decide) of1
            refine a_iincN (pc := 68) (n := 1) dX12_saysOf_68 (by decide) rfl (by decide) rfl ?_
            refine a_goto (pc := 71) (tgt := 12) dX12_saysOf_71 (by decide) ?_
            first | exact a_locR (ih (k + 1) f (by omega) (by omega) of q42 q43) ⟨rfl, rfl, rfl, rfl, trivial⟩ | exact a_locR (ih (k + 1) f2 (by omega) (by omega) of2 (by rw [hf2, hf1, show runP s r (k + 1) = runP s r k + 1 from cntN_t hsg]; rfl) (by rw [hf2, allP_t hsg]; rfl)) ⟨rfl, rfl, rfl, rfl, trivial⟩
        · have hsg : sameG s r k = false := decide_eq_false c29
          have e1 : runP s r (k + 1) = runP s r k := cntN_f hsg
          have e2 : allP s r (k + 1) = allP s r k := allP_f hsg
          have q42 : f 42 = nI (runP s r (k + 1)) := by rw [e1]; exact h42
          have q43 : f 43 = nI (allP s r (k + 1)) := by rw [e2]; exact h43
          refine a_goto (pc := 32) (tgt := 68) dX12_saysOf_32 (by decide) ?_
          refine a_iincN (pc := 68) (n := 1) dX12_saysOf_68 (by decide) rfl (by decide) rfl ?_
          refine a_goto (pc := 71) (tgt := 12) dX12_saysOf_71 (by decide) ?_
          first | exact a_locR (ih (k + 1) f (by omega) (by omega) of q42 q43) ⟨rfl, rfl, rfl, rfl, trivial⟩ | exact a_locR (ih (k + 1) f2 (by omega) (by omega) of2 (by rw [hf2, hf1, show runP s r (k + 1) = runP s r k + 1 from cntN_t hsg]; rfl) (by rw [hf2, allP_t hsg]; rfl)) ⟨rfl, rfl, rfl, rfl, trivial⟩
  refine a_aload_n (pc := 0) dX12_saysOf_0 rfl rfl ?_
  refine a_iconst (pc := 1) dX12_saysOf_1 ic_0 ?_
  refine a_putfield (pc := 2) kf_X12_305 dX12_saysOf_2 (m_obj hm) (rfl) (by rfl) (Nat.le_of_ble_eq_true rfl) ?_
  refine a_hp (m_p42 hm) ?_
  refine a_aload_n (pc := 5) dX12_saysOf_5 rfl rfl ?_
  refine a_iconst (pc := 6) dX12_saysOf_6 ic_0 ?_
  refine a_putfield (pc := 7) kf_X12_310 dX12_saysOf_7 (m_obj hm) (rfl) (by rfl) (Nat.le_of_ble_eq_true rfl) ?_
  refine a_hp (m_p43 hm) ?_
  refine a_iconst (pc := 10) dX12_saysOf_10 ic_0 ?_
  refine a_istore_n (pc := 11) dX12_saysOf_11 rfl (by decide) rfl ?_
  refine a_hp (show _ = mh m (wi s (upd (upd s.1 42 (nI 0)) 43 (nI 0))) h0 from rfl) ?_
  exact a_locR (loop _ 0 _ rfl (Nat.zero_le _) (offA_u (by decide) (by decide) (offA_u (by decide) (by decide) offA_0)) rfl rfl) ⟨rfl, rfl, rfl, rfl, trivial⟩

/-- the tape's bytes, -1 behind them -/
def tapeB (s : MST) (i : Nat) : Int32 := if i < vI s 6 then s.2.1 5 i else -1
def tapeE (s : MST) : Rs × Rs × Rs := readE (tapeB s) (vI s 6) c0
def tapeP (s : MST) : PS := readP (tapeB s) (vI s 6) c0
def N_txt (s : MST) : MST := si (sa (sa s 1 (fillO (s.2.1 5) (s.2.1 1) (160 * vI s 3) (vI s 6))) 2 (upd (s.2.1 2) (vI s 3) (nI (vI s 6)))) 6 (nI 0)
def R_text (s : MST) : Int32 × MST := if vI s 3 = 6 then (-4, s) else if pBad (tapeP s) = true then (-100 - nI (pFt (tapeP s)), N_txt s) else (nI (vI s 3), si (N_txt s) 3 (nI (vI s 3 + 1)))
theorem byP_tape {s : MST} : byP (N_txt s) (160 * vI s 3) (vI s 6) = tapeB s := by
  funext i
  unfold byP tapeB
  by_cases h : i < vI s 6
  · rw [if_pos h, if_pos h]
    show fillO (s.2.1 5) (s.2.1 1) (160 * vI s 3) (vI s 6) (160 * vI s 3 + i) = s.2.1 5 i
    rw [fillO_in (Nat.le_add_right _ _) (by omega), Nat.add_sub_cancel_left]
  · rw [if_neg h, if_neg h]
theorem SP_si3 {s t : MST} {k : Nat} {v : Int32} (h : SP s t) : SP (si s k v) (si t k v) := ⟨fun j hj => by
    show (if j = k then v else s.1 j) = (if j = k then v else t.1 j)
    rw [h.1 j hj], h.2.1, h.2.2⟩
set_option maxRecDepth 4000 in
theorem f_text (hm : MI m) (hV : MV s) : Fn X 41 0 0 yX12_text cX12_text 2 (some .int) [.ref (m 65)] (mh m s h0) (fun rv hv => rv = some (.int (R_text s).1) ∧ ∃ s' : MST, hv = mh m s' h0 ∧ SP s' (R_text s).2) := by
  obtain ⟨⟨hn3, hb3⟩, -, -, ⟨hn6, hb6⟩, -⟩ := id hV.2.2.2.2.2.2.1
  refine fn_of (by decide) (Nat.le_of_ble_eq_true rfl) (fun M hM => ?_)
  refine a_aload_n (pc := 0) dX12_text_0 rfl rfl ?_
  refine a_getfield (pc := 1) kg_X12_134 dX12_text_1 (m_obj hm) rfl ?_
  refine a_topi (hn3) ?_
  refine a_bipush (pc := 4) dX12_text_4 ib_6 ?_
  refine a_icmp_neN (pc := 6) (tgt := 12) dX12_text_6 (by decide) (by omega) (by omega) (fun c6 => ?_) (fun c6 => ?_)
  · have hz2 : (N_txt s).2.1 2 (vI s 3) = nI (vI s 6) := if_pos rfl
    refine a_iconst (pc := 12) dX12_text_12 ic_0 ?_
    refine a_istore_n (pc := 13) dX12_text_13 rfl (by decide) rfl ?_
    have loop : ∀ j i : Nat, vI s 6 - i = j → i ≤ vI s 6 →  AJ X M yX12_text cX12_text 2 (some .int) 14 [(0, .ref (m 65)), (1, .int (nI i))] [] (mh m (sa s 1 (fillO (s.2.1 5) (s.2.1 1) (160 * vI s 3) (i))) h0) 0 0 := by
      intro j
      induction j with
      | zero =>
        intro i hjk hkN
        refine a_iload_n (pc := 14) dX12_text_14 rfl rfl ?_
        refine a_aload_n (pc := 15) dX12_text_15 rfl rfl ?_
        refine a_getfield (pc := 16) kg_X12_239 dX12_text_16 (m_obj hm) rfl ?_
        refine a_topi (hn6) ?_
        refine a_icmp_geN (pc := 19) (tgt := 49) dX12_text_19 (by decide) (by omega) (by omega) (fun c19 => ?_) (fun c19 => ?_)
        · have hin : i = vI s 6 := by omega
          subst hin
          refine a_aload_n (pc := 49) dX12_text_49 rfl rfl ?_
          refine a_getfield (pc := 50) kg_X12_17 dX12_text_50 (m_obj hm) rfl ?_
          refine a_aload_n (pc := 53) dX12_text_53 rfl rfl ?_
          refine a_getfield (pc := 54) kg_X12_134 dX12_text_54 (m_obj hm) rfl ?_
          refine a_topi (hn3) ?_
          refine a_aload_n (pc := 57) dX12_text_57 rfl rfl ?_
          refine a_getfield (pc := 58) kg_X12_239 dX12_text_58 (m_obj hm) rfl ?_
          refine a_topi (hn6) ?_
          refine a_iastore (pc := 61) dX12_text_61 (m_a2 hm) (vI s 3) (rfl) (by omega) (by omega) ?_
          refine a_hp (m_p2 hm) ?_
          refine a_aload_n (pc := 62) dX12_text_62 rfl rfl ?_
          refine a_iconst (pc := 63) dX12_text_63 ic_0 ?_
          refine a_putfield (pc := 64) kf_X12_239 dX12_text_64 (m_obj hm) (rfl) (by rfl) (Nat.le_of_ble_eq_true rfl) ?_
          refine a_hp (m_p6 hm) ?_
          refine a_hp (show _ = mh m (N_txt s) h0 from congrArg (fun t => mh m t h0) (rfl)) ?_
          refine a_aload_n (pc := 67) dX12_text_67 rfl rfl ?_
          refine a_aload_n (pc := 68) dX12_text_68 rfl rfl ?_
          refine a_getfield (pc := 69) kg_X12_134 dX12_text_69 (m_obj hm) rfl ?_
          refine a_topi (hn3) ?_
          refine a_iconst (pc := 72) dX12_text_72 ic_0 ?_
          refine a_callV (pc := 73) km_X12_377 dX12_text_73 (f_read (s := N_txt s) hm (x := vI s 3) (w := 0) (Z := vI s 6) (by omega) (by decide) hz2 hb6) rfl rfl (krecv_of (ci := 12) rfl (m_obj hm)) (rok_of hM (by decide) (by decide) (by omega) (by omega)) (Nat.le_of_ble_eq_true rfl) (fun r73 h73 hp73 => ?_)
          obtain ⟨p0, hp0, rfl, rfl⟩ := hp73
          obtain ⟨-, -, -, hbd, hft⟩ := read_can (b := tapeB s) (Z := vI s 6) hp0
          rw [byP_tape]
          obtain ⟨q, hq⟩ : ∃ q, q = readP (tapeB s) (vI s 6) p0 := ⟨_, rfl⟩
          rw [← hq] at hbd hft ⊢
          have hspq : SP (pst (rSt (N_txt s) (vI s 3) (vI s 6)) q) (N_txt s) := SP.tr SP_pst SP_rSt
          refine a_istore_n (pc := 76) dX12_text_76 rfl (by decide) rfl ?_
          refine a_aload_n (pc := 77) dX12_text_77 rfl rfl ?_
          refine a_getfield (pc := 78) kg_X12_278 dX12_text_78 (m_obj hm) rfl ?_
          refine a_topi ((show _ = bI (pBad q) from rfl)) ?_
          refine a_if_eqB (pc := 81) (tgt := 92) dX12_text_81 (by decide) (fun c81 => ?_) (fun c81 => ?_)
          · have hbd2 : pBad (tapeP s) = false := by rw [tapeP, ← hbd]; exact c81
            refine a_aload_n (pc := 92) dX12_text_92 rfl rfl ?_
            refine a_dup (pc := 93) dX12_text_93 rfl ?_
            refine a_getfield (pc := 94) kg_X12_134 dX12_text_94 (m_obj hm) rfl ?_
            refine a_topi (hn3) ?_
            refine a_iconst (pc := 97) dX12_text_97 ic_1 ?_
            refine a_iaddN (pc := 98) dX12_text_98 ?_
            refine a_putfield (pc := 99) kf_X12_134 dX12_text_99 (m_obj hm) (rfl) (by rfl) (Nat.le_of_ble_eq_true rfl) ?_
            refine a_hp (m_p3 hm) ?_
            refine a_aload_n (pc := 102) dX12_text_102 rfl rfl ?_
            refine a_getfield (pc := 103) kg_X12_134 dX12_text_103 (m_obj hm) rfl ?_
            refine a_topi ((show _ = nI (vI s 3 + 1) from rfl)) ?_
            refine a_iconst (pc := 106) dX12_text_106 ic_1 ?_
            refine a_isubN (pc := 107) dX12_text_107 (by omega) ?_
            refine a_ret_i (pc := 108) hM rfl (rfl) dX12_text_108 (by omega) (by omega) ?_
            exact ⟨by rw [R_text, if_neg c6, if_neg (by rw [hbd2]; decide)]; rfl, _, rfl, by rw [R_text, if_neg c6, if_neg (by rw [hbd2]; decide)]; exact SP_si3 hspq⟩
          · have hbd2 : pBad (tapeP s) = true := by rw [tapeP, ← hbd]; exact c81
            have hf2 : pFt q = pFt (tapeP s) := hft hbd2
            refine a_bipush (pc := 84) dX12_text_84 ib_m100 ?_
            refine a_aload_n (pc := 86) dX12_text_86 rfl rfl ?_
            refine a_getfield (pc := 87) kg_X12_282 dX12_text_87 (m_obj hm) rfl ?_
            refine a_topi ((show (if pBad q = true then nI (pFt q) else _) = nI (pFt (tapeP s)) by rw [if_pos c81, hf2])) ?_
            refine a_isub (pc := 90) dX12_text_90 ?_
            refine a_ret_i (pc := 91) hM rfl (rfl) dX12_text_91 (by omega) (by omega) ?_
            exact ⟨by rw [R_text, if_neg c6, if_pos hbd2], _, rfl, by rw [R_text, if_neg c6, if_pos hbd2]; exact hspq⟩
        · exact absurd c19 (by omega)
      | succ j ih =>
        intro i hjk hkN
        refine a_iload_n (pc := 14) dX12_text_14 rfl rfl ?_
        refine a_aload_n (pc := 15) dX12_text_15 rfl rfl ?_
        refine a_getfield (pc := 16) kg_X12_239 dX12_text_16 (m_obj hm) rfl ?_
        refine a_topi (hn6) ?_
        refine a_icmp_geN (pc := 19) (tgt := 49) dX12_text_19 (by decide) (by omega) (by omega) (fun c19 => ?_) (fun c19 => ?_)
        · exact absurd c19 (by omega)
        · refine a_aload_n (pc := 22) dX12_text_22 rfl rfl ?_
          refine a_getfield (pc := 23) kg_X12_13 dX12_text_23 (m_obj hm) rfl ?_
          refine a_sipush (pc := 26) dX12_text_26 is_160 ?_
          refine a_aload_n (pc := 29) dX12_text_29 rfl rfl ?_
          refine a_getfield (pc := 30) kg_X12_134 dX12_text_30 (m_obj hm) rfl ?_
          refine a_topi (hn3) ?_
          refine a_imulN (pc := 33) dX12_text_33 ?_
          refine a_iload_n (pc := 34) dX12_text_34 rfl rfl ?_
          refine a_iaddN (pc := 35) dX12_text_35 ?_
          refine a_aload_n (pc := 36) dX12_text_36 rfl rfl ?_
          refine a_getfield (pc := 37) kg_X12_20 dX12_text_37 (m_obj hm) rfl ?_
          refine a_iload_n (pc := 40) dX12_text_40 rfl rfl ?_
          refine a_iaload (pc := 41) dX12_text_41 (m_a5 hm) (_) (rfl) (by omega) (by omega) ?_
          refine a_iastore (pc := 42) dX12_text_42 (m_a1 hm) (160 * vI s 3 + i) (rfl) (by omega) (by omega) ?_
          refine a_hp (m_p1 hm) ?_
          refine a_hp (show _ = mh m ((sa s 1 (fillO (s.2.1 5) (s.2.1 1) (160 * vI s 3) (i + 1)))) h0 from congrArg (fun t => mh m t h0) (sa_sa.trans (congrArg (sa s 1) fillO_s))) ?_
          refine a_iincN (pc := 43) (n := 1) dX12_text_43 (by decide) rfl (by decide) rfl ?_
          refine a_goto (pc := 46) (tgt := 14) dX12_text_46 (by decide) ?_
          exact a_locR (ih (i + 1) (by omega) (by omega)) ⟨rfl, rfl, trivial⟩
    refine a_hp (show _ = mh m (sa s 1 (fillO (s.2.1 5) (s.2.1 1) (160 * vI s 3) 0)) h0 by rw [fillO_0, sa_id]) ?_
    exact a_locR (loop _ 0 rfl (Nat.zero_le _)) ⟨rfl, rfl, trivial⟩
  · refine a_bipush (pc := 9) dX12_text_9 ib_m4 ?_
    refine a_ret_i (pc := 11) hM rfl (rfl) dX12_text_11 (by omega) (by omega) ?_
    exact ⟨by rw [R_text, if_pos c6], _, rfl, by rw [R_text, if_pos c6]; exact SP.rfl⟩

def toldV (s : MST) (r : Nat) (k : Nat) : Int32 := match k with
  | 0 => s.2.1 11 r
  | 1 => s.2.1 12 r
  | 2 => s.2.1 13 r
  | 3 => nI (rsz s r)
  | 4 => nI (hitsP s r (rsz s r))
  | 5 => nI (nextP s r (rsz s r))
  | 6 => nI (byL (leftF s (vA s 11 r)) (cnOf s 14 r) (rsz s r)).2
  | 7 => nI (alikeP s r (rsz s r))
  | 8 => boundP s r (rsz s r) (vI s 28)
  | 9 => if nI (hitsP s r (rsz s r)) ≤ boundP s r (rsz s r) (vI s 28) + nI (rsz s r / 5) then nI 0 else nI 1
  | 10 => s.2.1 16 r
  | 11 => s.2.1 17 r
  | 12 => if saysV s r 1 = 0 then nI 0 else nI 1
  | _ => saysV s r 2
def R_told (s : MST) (x w : Int32) : Int32 × MST := if inN x (vI s 18) = true then (if inN w 14 = true then (toldV s x.toNatClampNeg w.toNatClampNeg, s) else (-1000000, s)) else (-1000000, s)
set_option maxRecDepth 4000 in
theorem f_told (hm : MI m) (hV : MV s) (x w : Int32) : Fn X 42 0 0 yX12_told cX12_told 3 (some .int) [.ref (m 65), .int x, .int w] (mh m s h0) (fun rv hv => rv = some (.int (R_told s x w).1) ∧ ∃ s' : MST, hv = mh m s' h0 ∧ SP s' (R_told s x w).2) := by
  obtain ⟨⟨hn18, hb18⟩, hl18⟩ := id hV.2.1
  obtain ⟨⟨hn28, hb28⟩, hl28⟩ := id hV.2.2.1
  refine fn_of (by decide) (Nat.le_of_ble_eq_true rfl) (fun M hM => ?_)
  refine a_aload_n (pc := 0) dX12_told_0 rfl rfl ?_
  refine a_iload_n (pc := 1) dX12_told_1 rfl rfl ?_
  refine a_callV (pc := 2) km_X12_157 dX12_told_2 (f_isRun hm hn18 (by omega) _) rfl rfl (krecv_of (ci := 12) rfl (m_obj hm)) (rok_of hM (by decide) (by decide) (by omega) (by omega)) (Nat.le_of_ble_eq_true rfl) (fun r2 h2 hp2 => ?_)
  obtain ⟨rfl, rfl⟩ := hp2
  refine a_if_neB (pc := 5) (tgt := 11) dX12_told_5 (by decide) (fun c5 => ?_) (fun c5 => ?_)
  · obtain ⟨r, hr, rfl⟩ := inN_of c5 (by omega)
    obtain ⟨hr16, hz, hz1, hz2⟩ := MV_run hV hr
    have er : (nI r).toNatClampNeg = r := nI_clamp (by omega)
    obtain ⟨hp11, hp12⟩ := (hV.2.1.2 r hr).1
    have hp10 : vI s 10 ≤ 4 := hV.1.1.2
    have hp4 : vA s 11 r < 4 := Nat.lt_of_lt_of_le hp12 hp10
    have hrow : ∀ i, i < rsz s r → okV (s.2.1 14 (25 * r + i)) 5 := (hV.2.1.2 r hr).2.2.2.1
    refine a_iload_n (pc := 11) dX12_told_11 rfl rfl ?_
    by_cases hx : inN w 14 = true
    · obtain ⟨v, hv, rfl⟩ := inN_of hx (by omega)
      rcases (by omega : v = 0 ∨ v = 1 ∨ v = 2 ∨ v = 3 ∨ v = 4 ∨ v = 5 ∨ v = 6 ∨ v = 7 ∨ v = 8 ∨ v = 9 ∨ v = 10 ∨ v = 11 ∨ v = 12 ∨ v = 13) with rfl | rfl | rfl | rfl | rfl | rfl | rfl | rfl | rfl | rfl | rfl | rfl | rfl | rfl
      · refine a_tabIn (pc := 12) (off := 72) (tgt := 84) dX12_told_12 (by decide) (by decide) rfl (by decide) ?_
        refine a_aload_n (pc := 84) dX12_told_84 rfl rfl ?_
        refine a_getfield (pc := 85) kg_X12_33 dX12_told_85 (m_obj hm) rfl ?_
        refine a_iload_n (pc := 88) dX12_told_88 rfl rfl ?_
        refine a_iaload (pc := 89) dX12_told_89 (m_a11 hm) (r) (rfl) (by omega) (by omega) ?_
        refine a_ret_i (pc := 90) hM rfl (rfl) dX12_told_90 (by omega) (by omega) ?_
        exact ⟨by rw [R_told, if_pos c5, er, if_pos hx]; rfl, _, rfl, by rw [R_told, if_pos c5, er, if_pos hx]; exact SP.rfl⟩
      · refine a_tabIn (pc := 12) (off := 79) (tgt := 91) dX12_told_12 (by decide) (by decide) rfl (by decide) ?_
        refine a_aload_n (pc := 91) dX12_told_91 rfl rfl ?_
        refine a_getfield (pc := 92) kg_X12_36 dX12_told_92 (m_obj hm) rfl ?_
        refine a_iload_n (pc := 95) dX12_told_95 rfl rfl ?_
        refine a_iaload (pc := 96) dX12_told_96 (m_a12 hm) (r) (rfl) (by omega) (by omega) ?_
        refine a_ret_i (pc := 97) hM rfl (rfl) dX12_told_97 (by omega) (by omega) ?_
        exact ⟨by rw [R_told, if_pos c5, er, if_pos hx]; rfl, _, rfl, by rw [R_told, if_pos c5, er, if_pos hx]; exact SP.rfl⟩
      · refine a_tabIn (pc := 12) (off := 86) (tgt := 98) dX12_told_12 (by decide) (by decide) rfl (by decide) ?_
        refine a_aload_n (pc := 98) dX12_told_98 rfl rfl ?_
        refine a_getfield (pc := 99) kg_X12_39 dX12_told_99 (m_obj hm) rfl ?_
        refine a_iload_n (pc := 102) dX12_told_102 rfl rfl ?_
        refine a_iaload (pc := 103) dX12_told_103 (m_a13 hm) (r) (rfl) (by omega) (by omega) ?_
        refine a_ret_i (pc := 104) hM rfl (rfl) dX12_told_104 (by omega) (by omega) ?_
        exact ⟨by rw [R_told, if_pos c5, er, if_pos hx]; rfl, _, rfl, by rw [R_told, if_pos c5, er, if_pos hx]; exact SP.rfl⟩
      · refine a_tabIn (pc := 12) (off := 93) (tgt := 105) dX12_told_12 (by decide) (by decide) rfl (by decide) ?_
        refine a_aload_n (pc := 105) dX12_told_105 rfl rfl ?_
        refine a_iload_n (pc := 106) dX12_told_106 rfl rfl ?_
        refine a_callV (pc := 107) km_X12_161 dX12_told_107 (f_sizeOf hm hr16 hz) rfl rfl (krecv_of (ci := 12) rfl (m_obj hm)) (rok_of hM (by decide) (by decide) (by omega) (by omega)) (Nat.le_of_ble_eq_true rfl) (fun r107 h107 hp107 => ?_)
        obtain ⟨rfl, rfl⟩ := hp107
        refine a_ret_i (pc := 110) hM rfl (rfl) dX12_told_110 (by omega) (by omega) ?_
        exact ⟨by rw [R_told, if_pos c5, er, if_pos hx]; rfl, _, rfl, by rw [R_told, if_pos c5, er, if_pos hx]; exact SP.rfl⟩
      · refine a_tabIn (pc := 12) (off := 99) (tgt := 111) dX12_told_12 (by decide) (by decide) rfl (by decide) ?_
        refine a_aload_n (pc := 111) dX12_told_111 rfl rfl ?_
        refine a_iload_n (pc := 112) dX12_told_112 rfl rfl ?_
        refine a_callV (pc := 113) km_X12_183 dX12_told_113 (f_hitsOf hm hr16 hz) rfl rfl (krecv_of (ci := 12) rfl (m_obj hm)) (rok_of hM (by decide) (by decide) (by omega) (by omega)) (Nat.le_of_ble_eq_true rfl) (fun r113 h113 hp113 => ?_)
        obtain ⟨rfl, rfl⟩ := hp113
        refine a_ret_i (pc := 116) hM rfl (rfl) dX12_told_116 (by omega) (by omega) ?_
        exact ⟨by rw [R_told, if_pos c5, er, if_pos hx]; rfl, _, rfl, by rw [R_told, if_pos c5, er, if_pos hx]; exact SP.rfl⟩
      · refine a_tabIn (pc := 12) (off := 105) (tgt := 117) dX12_told_12 (by decide) (by decide) rfl (by decide) ?_
        refine a_aload_n (pc := 117) dX12_told_117 rfl rfl ?_
        refine a_iload_n (pc := 118) dX12_told_118 rfl rfl ?_
        refine a_callV (pc := 119) km_X12_187 dX12_told_119 (f_nextOf hm hr16 hz) rfl rfl (krecv_of (ci := 12) rfl (m_obj hm)) (rok_of hM (by decide) (by decide) (by omega) (by omega)) (Nat.le_of_ble_eq_true rfl) (fun r119 h119 hp119 => ?_)
        obtain ⟨rfl, rfl⟩ := hp119
        refine a_ret_i (pc := 122) hM rfl (rfl) dX12_told_122 (by omega) (by omega) ?_
        exact ⟨by rw [R_told, if_pos c5, er, if_pos hx]; rfl, _, rfl, by rw [R_told, if_pos c5, er, if_pos hx]; exact SP.rfl⟩
      · refine a_tabIn (pc := 12) (off := 111) (tgt := 123) dX12_told_12 (by decide) (by decide) rfl (by decide) ?_
        refine a_aload_n (pc := 123) dX12_told_123 rfl rfl ?_
        refine a_iload_n (pc := 124) dX12_told_124 rfl rfl ?_
        refine a_callV (pc := 125) km_X12_190 dX12_told_125 (f_byLeft hm hr16 hz hp11 hp4 hrow) rfl rfl (krecv_of (ci := 12) rfl (m_obj hm)) (rok_of hM (by decide) (by decide) (by omega) (by omega)) (Nat.le_of_ble_eq_true rfl) (fun r125 h125 hp125 => ?_)
        obtain ⟨rfl, rfl⟩ := hp125
        refine a_ret_i (pc := 128) hM rfl (rfl) dX12_told_128 (by omega) (by omega) ?_
        exact ⟨by rw [R_told, if_pos c5, er, if_pos hx]; rfl, _, rfl, by rw [R_told, if_pos c5, er, if_pos hx]; exact SP.sa (by decide) SP.rfl⟩
      · refine a_tabIn (pc := 12) (off := 117) (tgt := 129) dX12_told_12 (by decide) (by decide) rfl (by decide) ?_
        refine a_aload_n (pc := 129) dX12_told_129 rfl rfl ?_
        refine a_iload_n (pc := 130) dX12_told_130 rfl rfl ?_
        refine a_callV (pc := 131) km_X12_193 dX12_told_131 (f_alikeOf hm hr16 hz) rfl rfl (krecv_of (ci := 12) rfl (m_obj hm)) (rok_of hM (by decide) (by decide) (by omega) (by omega)) (Nat.le_of_ble_eq_true rfl) (fun r131 h131 hp131 => ?_)
        obtain ⟨rfl, rfl⟩ := hp131
        refine a_ret_i (pc := 134) hM rfl (rfl) dX12_told_134 (by omega) (by omega) ?_
        exact ⟨by rw [R_told, if_pos c5, er, if_pos hx]; rfl, _, rfl, by rw [R_told, if_pos c5, er, if_pos hx]; exact SP.rfl⟩
      · refine a_tabIn (pc := 12) (off := 123) (tgt := 135) dX12_told_12 (by decide) (by decide) rfl (by decide) ?_
        refine a_aload_n (pc := 135) dX12_told_135 rfl rfl ?_
        refine a_iload_n (pc := 136) dX12_told_136 rfl rfl ?_
        refine a_callV (pc := 137) km_X12_196 dX12_told_137 (f_boundOf hm hr16 hz hn28 hb28 (fun k hk => (hV.2.2.1.2 k hk).1)) rfl rfl (krecv_of (ci := 12) rfl (m_obj hm)) (rok_of hM (by decide) (by decide) (by omega) (by omega)) (Nat.le_of_ble_eq_true rfl) (fun r137 h137 hp137 => ?_)
        obtain ⟨rfl, rfl⟩ := hp137
        refine a_ret_i (pc := 140) hM rfl (rfl) dX12_told_140 (by omega) (by omega) ?_
        exact ⟨by rw [R_told, if_pos c5, er, if_pos hx]; rfl, _, rfl, by rw [R_told, if_pos c5, er, if_pos hx]; exact SP.rfl⟩
      · refine a_tabIn (pc := 12) (off := 129) (tgt := 141) dX12_told_12 (by decide) (by decide) rfl (by decide) ?_
        refine a_aload_n (pc := 141) dX12_told_141 rfl rfl ?_
        refine a_iload_n (pc := 142) dX12_told_142 rfl rfl ?_
        refine a_callV (pc := 143) km_X12_183 dX12_told_143 (f_hitsOf hm hr16 hz) rfl rfl (krecv_of (ci := 12) rfl (m_obj hm)) (rok_of hM (by decide) (by decide) (by omega) (by omega)) (Nat.le_of_ble_eq_true rfl) (fun r143 h143 hp143 => ?_)
        obtain ⟨rfl, rfl⟩ := hp143
        refine a_aload_n (pc := 146) dX12_told_146 rfl rfl ?_
        refine a_iload_n (pc := 147) dX12_told_147 rfl rfl ?_
        refine a_callV (pc := 148) km_X12_196 dX12_told_148 (f_boundOf hm hr16 hz hn28 hb28 (fun k hk => (hV.2.2.1.2 k hk).1)) rfl rfl (krecv_of (ci := 12) rfl (m_obj hm)) (rok_of hM (by decide) (by decide) (by omega) (by omega)) (Nat.le_of_ble_eq_true rfl) (fun r148 h148 hp148 => ?_)
        obtain ⟨rfl, rfl⟩ := hp148
        refine a_aload_n (pc := 151) dX12_told_151 rfl rfl ?_
        refine a_iload_n (pc := 152) dX12_told_152 rfl rfl ?_
        refine a_callV (pc := 153) km_X12_161 dX12_told_153 (f_sizeOf hm hr16 hz) rfl rfl (krecv_of (ci := 12) rfl (m_obj hm)) (rok_of hM (by decide) (by decide) (by omega) (by omega)) (Nat.le_of_ble_eq_true rfl) (fun r153 h153 hp153 => ?_)
        obtain ⟨rfl, rfl⟩ := hp153
        refine a_iconst (pc := 156) dX12_told_156 ic_5 ?_
        refine a_idivN (pc := 157) dX12_told_157 (by omega) (by omega) (by omega) ?_
        refine a_iadd (pc := 158) dX12_told_158 ?_
        refine a_icmp_le (pc := 159) (tgt := 166) dX12_told_159 (by decide) (fun c159 => ?_) (fun c159 => ?_)
        · refine a_iconst (pc := 166) dX12_told_166 ic_0 ?_
          refine a_ret_i (pc := 167) hM rfl (rfl) dX12_told_167 (by omega) (by omega) ?_
          first | exact ⟨by rw [R_told, if_pos c5, er, if_pos hx]; exact congrArg (fun v => some (Value.int v)) ((if_neg c159).symm), _, rfl, by rw [R_told, if_pos c5, er, if_pos hx]; exact SP.rfl⟩ | exact ⟨by rw [R_told, if_pos c5, er, if_pos hx]; exact congrArg (fun v => some (Value.int v)) ((if_pos c159).symm), _, rfl, by rw [R_told, if_pos c5, er, if_pos hx]; exact SP.rfl⟩
        · refine a_iconst (pc := 162) dX12_told_162 ic_1 ?_
          refine a_goto (pc := 163) (tgt := 167) dX12_told_163 (by decide) ?_
          refine a_ret_i (pc := 167) hM rfl (rfl) dX12_told_167 (by omega) (by omega) ?_
          first | exact ⟨by rw [R_told, if_pos c5, er, if_pos hx]; exact congrArg (fun v => some (Value.int v)) ((if_neg c159).symm), _, rfl, by rw [R_told, if_pos c5, er, if_pos hx]; exact SP.rfl⟩ | exact ⟨by rw [R_told, if_pos c5, er, if_pos hx]; exact congrArg (fun v => some (Value.int v)) ((if_pos c159).symm), _, rfl, by rw [R_told, if_pos c5, er, if_pos hx]; exact SP.rfl⟩
      · refine a_tabIn (pc := 12) (off := 156) (tgt := 168) dX12_told_12 (by decide) (by decide) rfl (by decide) ?_
        refine a_aload_n (pc := 168) dX12_told_168 rfl rfl ?_
        refine a_getfield (pc := 169) kg_X12_48 dX12_told_169 (m_obj hm) rfl ?_
        refine a_iload_n (pc := 172) dX12_told_172 rfl rfl ?_
        refine a_iaload (pc := 173) dX12_told_173 (m_a16 hm) (r) (rfl) (by omega) (by omega) ?_
        refine a_ret_i (pc := 174) hM rfl (rfl) dX12_told_174 (by omega) (by omega) ?_
        exact ⟨by rw [R_told, if_pos c5, er, if_pos hx]; rfl, _, rfl, by rw [R_told, if_pos c5, er, if_pos hx]; exact SP.rfl⟩
      · refine a_tabIn (pc := 12) (off := 163) (tgt := 175) dX12_told_12 (by decide) (by decide) rfl (by decide) ?_
        refine a_aload_n (pc := 175) dX12_told_175 rfl rfl ?_
        refine a_getfield (pc := 176) kg_X12_51 dX12_told_176 (m_obj hm) rfl ?_
        refine a_iload_n (pc := 179) dX12_told_179 rfl rfl ?_
        refine a_iaload (pc := 180) dX12_told_180 (m_a17 hm) (r) (rfl) (by omega) (by omega) ?_
        refine a_ret_i (pc := 181) hM rfl (rfl) dX12_told_181 (by omega) (by omega) ?_
        exact ⟨by rw [R_told, if_pos c5, er, if_pos hx]; rfl, _, rfl, by rw [R_told, if_pos c5, er, if_pos hx]; exact SP.rfl⟩
      · refine a_tabIn (pc := 12) (off := 170) (tgt := 182) dX12_told_12 (by decide) (by decide) rfl (by decide) ?_
        refine a_aload_n (pc := 182) dX12_told_182 rfl rfl ?_
        refine a_iload_n (pc := 183) dX12_told_183 rfl rfl ?_
        refine a_iconst (pc := 184) dX12_told_184 ic_1 ?_
        refine a_callV (pc := 185) km_X12_199 dX12_told_185 (f_saysOf hm hV (r := r) (w := 1) hr (by decide)) rfl rfl (krecv_of (ci := 12) rfl (m_obj hm)) (rok_of hM (by decide) (by decide) (by omega) (by omega)) (Nat.le_of_ble_eq_true rfl) (fun r185 h185 hp185 => ?_)
        obtain ⟨rfl, s1, rfl, hs1, -⟩ := hp185
        refine a_if_eq (pc := 188) (tgt := 195) dX12_told_188 (by decide) (fun c188 => ?_) (fun c188 => ?_)
        · refine a_iconst (pc := 195) dX12_told_195 ic_0 ?_
          refine a_ret_i (pc := 196) hM rfl (rfl) dX12_told_196 (by omega) (by omega) ?_
          first | exact ⟨by rw [R_told, if_pos c5, er, if_pos hx]; exact congrArg (fun v => some (Value.int v)) ((if_pos c188).symm), _, rfl, by rw [R_told, if_pos c5, er, if_pos hx]; exact hs1⟩ | exact ⟨by rw [R_told, if_pos c5, er, if_pos hx]; exact congrArg (fun v => some (Value.int v)) ((if_neg c188).symm), _, rfl, by rw [R_told, if_pos c5, er, if_pos hx]; exact hs1⟩
        · refine a_iconst (pc := 191) dX12_told_191 ic_1 ?_
          refine a_goto (pc := 192) (tgt := 196) dX12_told_192 (by decide) ?_
          refine a_ret_i (pc := 196) hM rfl (rfl) dX12_told_196 (by omega) (by omega) ?_
          first | exact ⟨by rw [R_told, if_pos c5, er, if_pos hx]; exact congrArg (fun v => some (Value.int v)) ((if_pos c188).symm), _, rfl, by rw [R_told, if_pos c5, er, if_pos hx]; exact hs1⟩ | exact ⟨by rw [R_told, if_pos c5, er, if_pos hx]; exact congrArg (fun v => some (Value.int v)) ((if_neg c188).symm), _, rfl, by rw [R_told, if_pos c5, er, if_pos hx]; exact hs1⟩
      · refine a_tabIn (pc := 12) (off := 185) (tgt := 197) dX12_told_12 (by decide) (by decide) rfl (by decide) ?_
        refine a_aload_n (pc := 197) dX12_told_197 rfl rfl ?_
        refine a_iload_n (pc := 198) dX12_told_198 rfl rfl ?_
        refine a_iconst (pc := 199) dX12_told_199 ic_2 ?_
        refine a_callV (pc := 200) km_X12_199 dX12_told_200 (f_saysOf hm hV (r := r) (w := 2) hr (by decide)) rfl rfl (krecv_of (ci := 12) rfl (m_obj hm)) (rok_of hM (by decide) (by decide) (by omega) (by omega)) (Nat.le_of_ble_eq_true rfl) (fun r200 h200 hp200 => ?_)
        obtain ⟨rfl, s1, rfl, hs1, -⟩ := hp200
        refine a_ret_i (pc := 203) hM rfl (rfl) dX12_told_203 (by omega) (by omega) ?_
        exact ⟨by rw [R_told, if_pos c5, er, if_pos hx]; rfl, _, rfl, by rw [R_told, if_pos c5, er, if_pos hx]; exact hs1⟩
    · refine a_tabOut (pc := 12) (tgt := 204) dX12_told_12 (by simp only [inN, Bool.and_eq_true, decide_eq_true_eq] at hx; omega) (by decide) ?_
      refine a_ldc (pc := 204) kc_X12_186 dX12_told_204 ?_
      refine a_ret_i (pc := 206) hM rfl (rfl) dX12_told_206 (by omega) (by omega) ?_
      exact ⟨by rw [R_told, if_pos c5, er, if_neg hx], _, rfl, by rw [R_told, if_pos c5, er, if_neg hx]; exact SP.rfl⟩
  · refine a_ldc (pc := 8) kc_X12_186 dX12_told_8 ?_
    refine a_ret_i (pc := 10) hM rfl (rfl) dX12_told_10 (by omega) (by omega) ?_
    exact ⟨by rw [R_told, if_neg (by rw [c5]; decide)], _, rfl, by rw [R_told, if_neg (by rw [c5]; decide)]; exact SP.rfl⟩

end MP10

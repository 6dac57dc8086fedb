/-! THE REFERENCE: every call keeps the invariant; it holds at the start -/
section MVK
theorem MV_Beg {s : MST} (h : Beg s) : MV s := by
  obtain ⟨hi, ha, ⟨h3, h1, h2⟩, hc⟩ := h
  have z : ∀ k, k ≠ 3 → s.1 k = nI 0 ∧ vI s k = 0 := fun k hk => ⟨(hi k hk).trans rfl, by show (s.1 k).toNatClampNeg = 0; rw [hi k hk]; rfl⟩
  have v3 : vI s 3 = 1 := by show (s.1 3).toNatClampNeg = 1; rw [h3]; rfl
  have c : ∀ k n, k ≠ 3 → cI s k n := fun k n hk => ⟨(z k hk).1.trans (by rw [(z k hk).2]), by rw [(z k hk).2]; exact Nat.zero_le n⟩
  refine ⟨⟨c 10 4 (by decide), fun p hp => ?_⟩, ⟨c 18 16 (by decide), fun r hr => ?_⟩, ⟨c 28 10 (by decide), fun k hk => ?_⟩, ⟨c 31 6 (by decide), fun k hk => ?_⟩, ⟨?_, fun h57 => ?_⟩, fun i hi4 => ?_, ?_, hc⟩
  · rw [(z 10 (by decide)).2] at hp; exact absurd hp (Nat.not_lt_zero _)
  · rw [(z 18 (by decide)).2] at hr; exact absurd hr (Nat.not_lt_zero _)
  · rw [(z 28 (by decide)).2] at hk; exact absurd hk (Nat.not_lt_zero _)
  · rw [(z 31 (by decide)).2] at hk; exact absurd hk (Nat.not_lt_zero _)
  · rw [(z 57 (by decide)).1]; exact okV_of (by decide) (by decide)
  · rw [(z 57 (by decide)).1] at h57; exact absurd h57 (by decide)
  · rw [ha 61 i (by decide) (by decide)]
    exact ⟨okV_of (j := 0) (by decide) (by decide), fun q => absurd q (by decide)⟩
  · refine ⟨⟨h3.trans (by rw [v3]), by rw [v3]; decide⟩, by rw [v3]; decide, ?_, c 6 160 (by decide), fun i hi6 => ?_, fun t ht => ?_⟩
    · rw [v3, (z 4 (by decide)).1]; exact okV_of (by decide) (by decide)
    · rw [(z 6 (by decide)).2] at hi6; exact absurd hi6 (Nat.not_lt_zero _)
    · rw [v3] at ht
      obtain rfl : t = 0 := by omega
      refine ⟨by rw [h2]; exact okV_of (by decide) (by decide), fun i hi2 => ?_⟩
      have e : vA s 2 0 = 56 := by show (s.2.1 2 0).toNatClampNeg = 56; rw [h2]; rfl
      rw [e] at hi2
      rw [h1, Nat.mul_zero, Nat.zero_add]
      exact tx0_ok i hi2
theorem okV_upd {f : Nat → Int32} {j k n : Nat} {v : Int32} (h1 : okV v n) (h2 : j ≠ k → okV (f j) n) : okV (upd f k v j) n := by
  unfold upd
  by_cases e : j = k
  · rw [if_pos e]; exact h1
  · rw [if_neg e]; exact h2 e
theorem MV_leak {s : MST} (hV : MV s) (a b c : Int32) : MV (R_leak s a b c).2 := by
  unfold R_leak
  split
  · rename_i h
    simp only [Bool.and_eq_true] at h
    split
    · exact hV
    · rename_i h10
      have h28 : vI s 28 ≤ 10 := hV.2.2.1.1.2
      have e28 : vI (N_leak s a b c) 28 = vI s 28 + 1 := nI_clamp (by omega)
      refine ⟨hV.1, hV.2.1, ⟨⟨by rw [e28]; rfl, by rw [e28]; omega⟩, fun k hk => ?_⟩, hV.2.2.2.1, ⟨hV.2.2.2.2.1.1, fun h57 => ?_⟩, hV.2.2.2.2.2⟩
      · rw [e28] at hk
        have q := fun (hn : k ≠ vI s 28) => hV.2.2.1.2 k (by omega)
        exact ⟨okV_upd (okV_in h.1.1 (by decide)) (fun hn => (q hn).1), okV_upd (okV_in h.1.2 (by decide)) (fun hn => (q hn).2.1), okV_upd (okV_in h.2 (by decide)) (fun hn => (q hn).2.2.1), okV_upd (okV_of (by decide) (by decide)) (fun hn => (q hn).2.2.2)⟩
      · obtain ⟨b1, b2, b3⟩ := hV.2.2.2.2.1.2 h57
        have b22 : vI s 59 ≤ vI s 28 := b2.2
        exact ⟨b1, ⟨b2.1, by rw [e28]; exact Nat.le_succ_of_le b22⟩, b3⟩
  · exact hV
theorem MV_shut {s : MST} (hV : MV s) (x i : Int32) : MV (R_shut s x i).2 := by
  unfold R_shut
  split
  · rename_i h
    simp only [Bool.and_eq_true] at h
    refine ⟨hV.1, hV.2.1, ⟨hV.2.2.1.1, fun k hk => ?_⟩, hV.2.2.2⟩
    have q := hV.2.2.1.2 k hk
    exact ⟨q.1, q.2.1, q.2.2.1, okV_upd (okV_in h.2 (by decide)) (fun _ => q.2.2.2)⟩
  · exact hV
theorem okV_R {x : Int32} {a b n : Nat} (h : inR x a b = true) (hb : b < n) (hn : n < 2147483647) : okV x n := by
  obtain ⟨j, h1, h2, rfl⟩ := inR_of h (by omega)
  exact okV_of (by omega) (by omega)
theorem MV_screen {s : MST} (hV : MV s) (a b : Int32) : MV (R_screen s a b).2 := by
  unfold R_screen
  split
  · rename_i h
    simp only [Bool.and_eq_true] at h
    split
    · exact hV
    · rename_i h6
      have h31 : vI s 31 ≤ 6 := hV.2.2.2.1.1.2
      have e31 : vI (N_screen s a b) 31 = vI s 31 + 1 := nI_clamp (by omega)
      refine ⟨hV.1, hV.2.1, hV.2.2.1, ⟨⟨by rw [e31]; rfl, by rw [e31]; omega⟩, fun k hk => ?_⟩, hV.2.2.2.2⟩
      rw [e31] at hk
      have q := fun (hn : k ≠ vI s 31) => hV.2.2.2.1.2 k (by omega)
      exact ⟨okV_upd (okV_R h.1 (by decide) (by decide)) (fun hn => (q hn).1), okV_upd (okV_in h.2 (by decide)) (fun hn => (q hn).2)⟩
  · exact hV
theorem MV_force {s : MST} (hV : MV s) (x : Int32) : MV (R_force s x).2 := by
  unfold R_force
  split
  · rename_i h
    have h3 : vI s 3 ≤ 6 := hV.2.2.2.2.2.2.1.1.2
    obtain ⟨t1, t2, t3, t4⟩ := hV.2.2.2.2.2.2.1
    exact ⟨hV.1, hV.2.1, hV.2.2.1, hV.2.2.2.1, hV.2.2.2.2.1, hV.2.2.2.2.2.1, ⟨t1, t2, (show okV x (vI s 3) from okV_in h (by omega)), t4⟩, hV.2.2.2.2.2.2.2⟩
  · exact hV
/-- other cards -/
theorem MV_14 {s : MST} {g : Nat → Int32} (hV : MV s) (h : ∀ r, r < vI s 18 → (∀ i, i < rsz s r → okV (g (25 * r + i)) 5) ∧ ∀ k, k < 5 → cntN (fun i => decide (g (25 * r + i) = nI k)) (rsz s r) = cntN (fun i => decide (s.2.1 14 (25 * r + i) = nI k)) (rsz s r)) : MV (sa s 14 g) := by
  refine ⟨hV.1, ⟨hV.2.1.1, fun r hr => ?_⟩, hV.2.2⟩
  obtain ⟨a1, a2, a3, a4, a5, a6⟩ := hV.2.1.2 r hr
  obtain ⟨b1, b2⟩ := h r hr
  exact ⟨a1, a2, a3, b1, a5, fun k hk => (b2 k hk).trans (a6 k hk)⟩
theorem MV_15 {s : MST} {g : Nat → Int32} (hV : MV s) (h : ∀ r, r < vI s 18 → ∀ i, i < rsz s r → okV (g (25 * r + i)) 5) : MV (sa s 15 g) := by
  refine ⟨hV.1, ⟨hV.2.1.1, fun r hr => ?_⟩, hV.2.2⟩
  obtain ⟨a1, a2, a3, a4, a5, a6⟩ := hV.2.1.2 r hr
  exact ⟨a1, a2, a3, a4, h r hr, a6⟩
theorem MV_slip {s : MST} (hV : MV s) (x i g : Int32) : MV (R_slip s x i g).2 := by
  unfold R_slip
  split
  · rename_i h
    simp only [Bool.and_eq_true] at h
    exact MV_15 (s := s) hV (fun r hr j hj => okV_upd (okV_in h.2 (by decide)) (fun _ => (hV.2.1.2 r hr).2.2.2.2.1 j hj))
  · exact hV
/-- one place changed -/
theorem cnt_upd {p : Nat → Bool} {x n : Nat} {b : Bool} (hx : x < n) : cntN (fun i => if i = x then b else p i) n + (if p x = true then 1 else 0) = cntN p n + (if b = true then 1 else 0) := by
  induction n with
  | zero => exact absurd hx (Nat.not_lt_zero _)
  | succ n ih =>
    unfold cntN
    by_cases e : x = n
    · subst e
      rw [cntN_cg (q := p) (fun i hi => if_neg (by omega)), if_pos rfl]
      omega
    · have := ih (by omega)
      rw [if_neg (Ne.symm e)]
      omega
theorem cnt_swap {p : Nat → Bool} {x y n : Nat} (hx : x < n) (hy : y < n) : cntN (fun i => if i = y then p x else if i = x then p y else p i) n = cntN p n := by
  have h1 := cnt_upd (p := p) (b := p y) hx
  have h2 := cnt_upd (p := fun i => if i = x then p y else p i) (b := p x) hy
  have e : (if y = x then p y else p y) = p y := by split <;> rfl
  simp only [e] at h2
  omega
theorem mixO_cnt {off n : Nat} {P : Int32 → Bool} : ∀ (i lot : Nat) (f : Nat → Int32), i < n → cntN (fun j => P (mixO off f i lot (off + j))) n = cntN (fun j => P (f (off + j))) n := by
  intro i
  induction i with
  | zero => intro lot f h; rw [mixO_0]
  | succ i ih =>
    intro lot f h
    rw [mixO_s, ih _ _ (by omega)]
    have hq : lot * 48271 % 2147483647 % (i + 1 + 1) < i + 1 + 1 := Nat.mod_lt _ (by omega)
    generalize lot * 48271 % 2147483647 % (i + 1 + 1) = q at hq ⊢
    rw [← cnt_swap (p := fun j => P (f (off + j))) (x := i + 1) (y := q) (n := n) (by omega) (by omega)]
    refine cntN_cg (fun j hj => ?_)
    unfold upd
    by_cases e1 : j = q
    · rw [if_pos (by omega), if_pos e1]
    · rw [if_neg (by omega), if_neg e1]
      by_cases e2 : j = i + 1
      · rw [if_pos (by omega), if_pos e2]
      · rw [if_neg (by omega), if_neg e2]
theorem mixO_ok {off n m : Nat} : ∀ (i lot : Nat) (f : Nat → Int32), i < n → (∀ j, j < n → okV (f (off + j)) m) → ∀ j, j < n → okV (mixO off f i lot (off + j)) m := by
  intro i
  induction i with
  | zero => intro lot f h hf j hj; rw [mixO_0]; exact hf j hj
  | succ i ih =>
    intro lot f h hf
    rw [mixO_s]
    have hq : lot * 48271 % 2147483647 % (i + 1 + 1) < i + 1 + 1 := Nat.mod_lt _ (by omega)
    refine ih _ _ (by omega) (fun j hj => ?_)
    generalize lot * 48271 % 2147483647 % (i + 1 + 1) = q at hq ⊢
    exact okV_upd (hf _ (by omega)) (fun _ => okV_upd (hf _ (by omega)) (fun _ => hf j hj))
theorem MV_shuffle {s : MST} (hV : MV s) (x d : Int32) : MV (R_shuffle s x d).2 := by
  unfold R_shuffle
  split
  · rename_i h
    simp only [Bool.and_eq_true] at h
    have h18 : vI s 18 ≤ 16 := hV.2.1.1.2
    obtain ⟨r, hr, e⟩ := inN_of h.1 (by omega)
    rw [e, nI_clamp (by omega)]
    have hz := MV_run hV hr
    refine MV_14 hV (fun k hk => ?_)
    have hzk := MV_run hV hk
    by_cases hkr : k = r
    · subst hkr
      exact ⟨mixO_ok _ _ _ (by omega) (hV.2.1.2 k hk).2.2.2.1, fun g hg => mixO_cnt (P := fun v => decide (v = nI g)) _ _ _ (by omega)⟩
    · have ho : ∀ i, i < rsz s k → mixO (25 * r) (s.2.1 14) (rsz s r - 1) (d.toNatClampNeg + 1) (25 * k + i) = s.2.1 14 (25 * k + i) := fun i hi => mixO_out _ _ _ (by omega)
      exact ⟨fun i hi => by rw [ho i hi]; exact (hV.2.1.2 k hk).2.2.2.1 i hi, fun g hg => cntN_cg (fun i hi => by rw [ho i hi])⟩
  · exact hV
theorem cnt_rot {p : Nat → Bool} {n k : Nat} (hk : k ≤ n) (hn : 0 < n) : cntN (fun i => p ((i + k) % n)) n = cntN p n := by
  have e1 : cntN (fun i => p ((i + k) % n)) n = cntN (fun i => p ((i + k) % n)) ((n - k) + k) := by rw [Nat.sub_add_cancel hk]
  have e2 : cntN p n = cntN p (k + (n - k)) := by rw [Nat.add_sub_cancel' hk]
  rw [e1, e2, cntN_add, cntN_add]
  rw [cntN_cg (p := fun i => p ((i + k) % n)) (q := fun i => p (k + i)) (n := n - k) (fun i hi => by
    show p ((i + k) % n) = p (k + i)
    rw [Nat.mod_eq_of_lt (by omega), Nat.add_comm])]
  rw [cntN_cg (p := fun i => p ((n - k + i + k) % n)) (q := p) (n := k) (fun i hi => by
    show p ((n - k + i + k) % n) = p i
    rw [show n - k + i + k = i + n by omega, Nat.add_mod_right, Nat.mod_eq_of_lt (by omega)])]
  omega
theorem MV_cut {s : MST} (hV : MV s) (x k : Int32) : MV (R_cut s x k).2 := by
  unfold R_cut
  split
  · rename_i h
    simp only [Bool.and_eq_true] at h
    have h18 : vI s 18 ≤ 16 := hV.2.1.1.2
    obtain ⟨r, hr, e⟩ := inN_of h.1 (by omega)
    rw [e, nI_clamp (by omega)] at h ⊢
    have hz := MV_run hV hr
    obtain ⟨c, -, hc, e2⟩ := inR_of h.2 (by omega)
    rw [e2, nI_clamp (by omega)]
    refine MV_14 hV (fun q hq => ?_)
    have hzk := MV_run hV hq
    by_cases hqr : q = r
    · subst hqr
      have ho : ∀ i, i < rsz s q → fillO (cutF s q c (rsz s q)) (s.2.1 14) (25 * q) (rsz s q) (25 * q + i) = s.2.1 14 (25 * q + (i + c) % rsz s q) := fun i hi => by
        rw [fillO_in (by omega) (by omega), Nat.add_sub_cancel_left]
        rfl
      refine ⟨fun i hi => by rw [ho i hi]; exact (hV.2.1.2 q hq).2.2.2.1 _ (Nat.mod_lt _ (by omega)), fun g hg => ?_⟩
      rw [cntN_cg (q := fun i => decide (s.2.1 14 (25 * q + (i + c) % rsz s q) = nI g)) (fun i hi => by rw [ho i hi])]
      exact cnt_rot (p := fun i => decide (s.2.1 14 (25 * q + i) = nI g)) hc (by omega)
    · have ho : ∀ i, i < rsz s q → fillO (cutF s r c (rsz s r)) (s.2.1 14) (25 * r) (rsz s r) (25 * q + i) = s.2.1 14 (25 * q + i) := fun i hi => fillO_out (by omega)
      exact ⟨fun i hi => by rw [ho i hi]; exact (hV.2.1.2 q hq).2.2.2.1 i hi, fun g hg => cntN_cg (fun i hi => by rw [ho i hi])⟩
  · exact hV
theorem byteP_ok (b : Int64) (i : Nat) : okV (byteP b i) 256 := by
  have h : (b >>> ((nI (8 * i)).toInt64 &&& 63) &&& lN 255).toInt32 = nI ((b >>> ((nI (8 * i)).toInt64 &&& 63)).toBitVec.toNat % 256) := by
    generalize b >>> ((nI (8 * i)).toInt64 &&& 63) = w
    have e1 : w &&& lN 255 = lN (w.toBitVec.toNat % 256) := by
      apply Int64.toBitVec_inj.mp
      apply BitVec.eq_of_toNat_eq
      have e : (lN 255).toBitVec = 255#64 := by decide
      have e2 : (lN (w.toBitVec.toNat % 256)).toBitVec = BitVec.ofNat 64 (w.toBitVec.toNat % 256) := rfl
      rw [Int64.toBitVec_and, e, e2, BitVec.toNat_and, BitVec.toNat_ofNat, BitVec.toNat_ofNat, show (255 : Nat) % 2 ^ 64 = 2 ^ 8 - 1 by decide, Nat.and_two_pow_sub_one_eq_mod]
      omega
    rw [e1]
    exact lN_i _
  unfold byteP
  rw [h]
  exact okV_of (Nat.mod_lt _ (by decide)) (by have := Nat.mod_lt (b >>> ((nI (8 * i)).toInt64 &&& 63)).toBitVec.toNat (show 0 < 256 by decide); omega)
theorem feedF_ok {f : Nat → Int32} {t : Nat} {b : Int64} (hf : ∀ i, i < t → okV (f i) 256) (n : Nat) : ∀ i, i < t + n → okV (feedF f t b n i) 256 := by
  induction n with
  | zero => exact hf
  | succ n ih => exact fun i hi => okV_upd (byteP_ok b n) (fun hn => ih i (by omega))
theorem MV_feed {s : MST} (hV : MV s) (n : Int32) (b : Int64) : MV (R_feed s n b).2 := by
  unfold R_feed
  split
  · split
    · rename_i h
      obtain ⟨t1, t2, t3, t4, t5, t6⟩ := hV.2.2.2.2.2.2.1
      have e6 : vI (N_feed s n.toNatClampNeg b) 6 = vI s 6 + n.toNatClampNeg := nI_clamp (by omega)
      exact ⟨hV.1, hV.2.1, hV.2.2.1, hV.2.2.2.1, hV.2.2.2.2.1, hV.2.2.2.2.2.1, ⟨t1, t2, t3, ⟨by rw [e6]; rfl, by rw [e6]; exact h⟩, fun i hi => feedF_ok t5 n.toNatClampNeg i (by rw [e6] at hi; exact hi), t6⟩, hV.2.2.2.2.2.2.2⟩
    · exact hV
  · exact hV
theorem MV_text {s : MST} (hV : MV s) : MV (R_text s).2 := by
  obtain ⟨t1, t2, t3, t4, t5, t6⟩ := hV.2.2.2.2.2.2.1
  have h36 : vI s 3 ≤ 6 := t1.2
  have h6 : vI s 6 ≤ 160 := t4.2
  have hb : ∀ t, t < vI s 3 + 1 → okV ((N_txt s).2.1 2 t) 161 ∧ ∀ i, i < vA (N_txt s) 2 t → okV ((N_txt s).2.1 1 (160 * t + i)) 256 := by
    intro t ht
    have e2 : (N_txt s).2.1 2 = upd (s.2.1 2) (vI s 3) (nI (vI s 6)) := rfl
    have e1 : (N_txt s).2.1 1 = fillO (s.2.1 5) (s.2.1 1) (160 * vI s 3) (vI s 6) := rfl
    by_cases e : t = vI s 3
    · have ev : vA (N_txt s) 2 t = vI s 6 := by
        show ((N_txt s).2.1 2 t).toNatClampNeg = _
        rw [e2, e, pk_us, nI_clamp (by omega)]
      refine ⟨by rw [e2]; exact okV_upd (okV_of (by omega) (by omega)) (fun z => absurd e z), fun i hi => ?_⟩
      rw [ev] at hi
      rw [e1, e, fillO_in (by omega) (by omega), Nat.add_sub_cancel_left]
      exact t5 i hi
    · have q := t6 t (by omega)
      have ev : vA (N_txt s) 2 t = vA s 2 t := by
        show ((N_txt s).2.1 2 t).toNatClampNeg = _
        rw [e2, pk_un e]
      have q2 : vA s 2 t < 161 := q.1.2
      refine ⟨by rw [e2, pk_un e]; exact q.1, fun i hi => ?_⟩
      rw [ev] at hi
      rw [e1, fillO_out (by omega)]
      exact q.2 i hi
  have z6 : vI (N_txt s) 6 = 0 := rfl
  have base : ∀ t, t < vI s 3 → okV ((N_txt s).2.1 2 t) 161 ∧ ∀ i, i < vA (N_txt s) 2 t → okV ((N_txt s).2.1 1 (160 * t + i)) 256 := fun t ht => hb t (by omega)
  have c6 : cI (N_txt s) 6 160 := ⟨rfl, by rw [z6]; decide⟩
  have v6 : ∀ i, i < vI (N_txt s) 6 → okV ((N_txt s).2.1 5 i) 256 := fun i hi => absurd (z6 ▸ hi) (Nat.not_lt_zero _)
  unfold R_text
  split
  · exact hV
  · rename_i hn6
    split
    · exact ⟨hV.1, hV.2.1, hV.2.2.1, hV.2.2.2.1, hV.2.2.2.2.1, hV.2.2.2.2.2.1, ⟨t1, t2, t3, c6, v6, base⟩, hV.2.2.2.2.2.2.2⟩
    · have e3 : vI (si (N_txt s) 3 (nI (vI s 3 + 1))) 3 = vI s 3 + 1 := nI_clamp (by omega)
      refine ⟨hV.1, hV.2.1, hV.2.2.1, hV.2.2.2.1, ⟨hV.2.2.2.2.1.1, fun h57 => ?_⟩, hV.2.2.2.2.2.1, ⟨⟨by rw [e3]; rfl, by rw [e3]; omega⟩, by rw [e3]; omega, by rw [e3]; exact okV_up t3 (Nat.le_succ _), c6, v6, fun t ht => hb t (by rw [e3] at ht; exact ht)⟩, hV.2.2.2.2.2.2.2⟩
      obtain ⟨b1, b2, b3, b4, b5⟩ := hV.2.2.2.2.1.2 h57
      exact ⟨b1, b2, b3, by rw [e3]; exact okV_up b4 (Nat.le_succ _), b5⟩
theorem MV_cell {s : MST} (hV : MV s) (x i v : Int32) : MV (R_cell s x i v).2 := by
  unfold R_cell
  split
  · split
    · exact hV
    · split
      · exact hV
      · exact hV
  · exact hV
theorem MV_copy {s : MST} (hV : MV s) (x i y j n : Int32) : MV (R_copy s x i y j n).2 := by
  unfold R_copy
  split
  · split
    · exact hV
    · split
      · split
        · exact hV
        · exact hV
      · exact hV
  · exact hV
theorem MV_runs {s : MST} (hV : MV s) (x so a n : Int32) : MV (R_runs s x so a n).2 := by
  unfold R_runs
  split
  · split
    · exact hV
    · split
      · split
        · exact hV
        · split
          · exact hV
          · split
            · exact MV_runsS hV _ _ _
            · exact MV_runsS hV _ _ _
      · exact hV
  · exact hV
theorem gLen_ge (p : Nat → Bool) (f n : Nat) : n ≤ gLen p f n := by
  induction f generalizing n with
  | zero => exact Nat.le_refl _
  | succ f ih =>
    unfold gLen
    split
    · exact Nat.le_trans (Nat.le_succ n) (ih (n + 1))
    · exact Nat.le_refl _
theorem gLen_p (p : Nat → Bool) (f n k : Nat) (h1 : n ≤ k) (h2 : k < gLen p f n) : p k = true := by
  induction f generalizing n with
  | zero => exact absurd h2 (by unfold gLen; omega)
  | succ f ih =>
    unfold gLen at h2
    split at h2
    · rename_i hp
      rcases Nat.eq_or_lt_of_le h1 with e | e
      · rw [← e]; exact hp
      · exact ih (n + 1) e h2
    · omega
theorem MV_guess {s : MST} (hV : MV s) (x sh i : Int32) : MV (R_guess s x sh i).2 := by
  unfold R_guess
  split
  · rename_i h
    simp only [Bool.and_eq_true] at h
    split
    · exact hV
    · have h18 : vI s 18 ≤ 16 := hV.2.1.1.2
      obtain ⟨r, hr, e⟩ := inN_of h.1.1 (by omega)
      have hz := MV_run hV hr
      rw [e, nI_clamp (by omega)]
      refine MV_15 hV (fun k hk j hj => ?_)
      generalize sh.toNatClampNeg = q
      generalize i.toNatClampNeg = a
      have hzk := MV_run hV hk
      by_cases c : 25 * r + a ≤ 25 * k + j ∧ 25 * k + j < 25 * r + a + gLen (gCond s r q a) 41 0
      · rw [fillO_in c.1 c.2]
        have hp := gLen_p (gCond s r q a) 41 0 (25 * k + j - (25 * r + a)) (Nat.zero_le _) (by omega)
        unfold gCond at hp
        simp only [Bool.and_eq_true] at hp
        exact okV_in hp.2 (by decide)
      · rw [fillO_out (by omega)]
        exact (hV.2.1.2 k hk).2.2.2.2.1 j hj
  · exact hV
theorem MV_sheet {s : MST} (hV : MV s) (x so n : Int32) : MV (R_sheet s x so n).2 := by
  have key : ∀ q : Nat, q < 4 → inM so = true → (so < 0 ∨ (n ≤ nI 40 ∧ ¬ n < 0)) → MV (N_sheet s q so n) := by
    intro q hq hm hc
    refine ⟨hV.1, hV.2.1, hV.2.2.1, hV.2.2.2.1, hV.2.2.2.2.1, fun i hi => ?_, hV.2.2.2.2.2.2⟩
    have e61 : (N_sheet s q so n).2.1 61 = upd (s.2.1 61) q (if so < 0 then nI 0 else nI 1) := rfl
    have e62 : (N_sheet s q so n).2.1 62 = upd (s.2.1 62) q so := rfl
    have e63 : (N_sheet s q so n).2.1 63 = upd (s.2.1 63) q n := rfl
    rw [e61, e62, e63]
    by_cases e : i = q
    · subst e
      rw [pk_us, pk_us, pk_us]
      refine ⟨by split <;> exact okV_of (by decide) (by decide), fun h1 => ?_⟩
      by_cases hs : so < 0
      · rw [if_pos hs] at h1; exact absurd h1 (by decide)
      · obtain ⟨b, hb, rfl⟩ := nn_of hs
        simp only [inM, Bool.and_eq_true, decide_eq_true_eq] at hm
        rw [nI_toInt hb] at hm
        obtain ⟨h40, hn0⟩ := hc.resolve_left hs
        obtain ⟨c, hcb, rfl⟩ := nn_of hn0
        have h2 : c ≤ 40 := by
          have := Int32.le_iff_toInt_le.mp h40
          rw [nI_toInt hcb, nI_toInt (by decide)] at this
          omega
        exact ⟨okV_of (by omega) hb, okV_of (by omega) hcb⟩
    · rw [pk_un e, pk_un e, pk_un e]
      exact hV.2.2.2.2.2.1 i hi
  unfold R_sheet
  split
  · rename_i h
    simp only [Bool.and_eq_true] at h
    obtain ⟨q, hq, e⟩ := inN_of h.1 (by omega)
    rw [e, nI_clamp (by omega)]
    split
    · rename_i hs
      exact key q hq h.2 (Or.inl hs)
    · split
      · rename_i h40
        split
        · exact hV
        · rename_i hn0
          exact key q hq h.2 (Or.inr ⟨h40, hn0⟩)
      · exact hV
  · exact hV
theorem MV_pack {s : MST} (hV : MV s) (x : Int32) : MV (R_pack s x).2 := by
  unfold R_pack
  split
  · rename_i h
    split
    · rename_i hd
      split
      · exact hV
      · rename_i h4
        have h10 : vI s 10 ≤ 4 := hV.1.1.2
        obtain ⟨c, hc1, hc2, e⟩ := inR_of h (by omega)
        rw [e, nI_clamp (by omega)] at hd ⊢
        have e10 : vI (N_pack s c) 10 = vI s 10 + 1 := nI_clamp (by omega)
        have hd1 : 1 ≤ dsum c := by unfold dsum; omega
        have e9 : ∀ p, p < vI s 10 → (N_pack s c).2.1 9 p = s.2.1 9 p := fun p hp => pk_un (by omega)
        have e8 : ∀ p j, p < vI s 10 → j < 5 → (N_pack s c).2.1 8 (5 * p + j) = s.2.1 8 (5 * p + j) := fun p j hp hj => by
          show packF (s.2.1 8) (5 * vI s 10) c (5 * p + j) = _
          unfold packF
          rw [pk_un (by omega), pk_un (by omega), pk_un (by omega), pk_un (by omega), pk_un (by omega)]
        have esz : ∀ r, r < vI s 18 → rsz (N_pack s c) r = rsz s r := fun r hr => by
          have hp : vA s 11 r < vI s 10 := (hV.2.1.2 r hr).1.2
          show ((N_pack s c).2.1 9 (vA s 11 r)).toNatClampNeg = _
          rw [e9 _ hp]
          rfl
        have ecn : ∀ r k, r < vI s 18 → k < 5 → vA (N_pack s c) 8 (5 * vA (N_pack s c) 11 r + k) = vA s 8 (5 * vA s 11 r + k) := fun r k hr hk => by
          have hp : vA s 11 r < vI s 10 := (hV.2.1.2 r hr).1.2
          show ((N_pack s c).2.1 8 (5 * vA s 11 r + k)).toNatClampNeg = _
          rw [e8 _ _ hp hk]
        refine ⟨⟨⟨by rw [e10]; rfl, by rw [e10]; omega⟩, fun p hp => ?_⟩, ⟨hV.2.1.1, fun r hr => ?_⟩, hV.2.2.1, hV.2.2.2.1, ⟨hV.2.2.2.2.1.1, fun h57 => ?_⟩, hV.2.2.2.2.2⟩
        · rw [e10] at hp
          by_cases ep : p = vI s 10
          · subst ep
            have q9 : (N_pack s c).2.1 9 (vI s 10) = nI (dsum c) := pk_us
            have d0 : (N_pack s c).2.1 8 (5 * vI s 10 + 0) = nI (c / 10 / 10 / 10 / 10 % 10) := pk_us
            have d1 : (N_pack s c).2.1 8 (5 * vI s 10 + 1) = nI (c / 10 / 10 / 10 % 10) := (pk_un (by omega)).trans pk_us
            have d2 : (N_pack s c).2.1 8 (5 * vI s 10 + 2) = nI (c / 10 / 10 % 10) := (pk_un (by omega)).trans ((pk_un (by omega)).trans pk_us)
            have d3 : (N_pack s c).2.1 8 (5 * vI s 10 + 3) = nI (c / 10 % 10) := (pk_un (by omega)).trans ((pk_un (by omega)).trans ((pk_un (by omega)).trans pk_us))
            have d4 : (N_pack s c).2.1 8 (5 * vI s 10 + 4) = nI (c % 10) := (pk_un (by omega)).trans ((pk_un (by omega)).trans ((pk_un (by omega)).trans ((pk_un (by omega)).trans pk_us)))
            refine ⟨by rw [q9]; exact okV_of (by omega) (by omega), ?_, fun j hj => ?_, ?_⟩
            · show 1 ≤ ((N_pack s c).2.1 9 (vI s 10)).toNatClampNeg
              rw [q9, nI_clamp (by omega)]
              exact hd1
            · rcases (by omega : j = 0 ∨ j = 1 ∨ j = 2 ∨ j = 3 ∨ j = 4) with rfl | rfl | rfl | rfl | rfl
              · rw [d0]; exact okV_of (by omega) (by omega)
              · rw [d1]; exact okV_of (by omega) (by omega)
              · rw [d2]; exact okV_of (by omega) (by omega)
              · rw [d3]; exact okV_of (by omega) (by omega)
              · rw [d4]; exact okV_of (by omega) (by omega)
            · show ((N_pack s c).2.1 8 (5 * vI s 10 + 0)).toNatClampNeg + ((N_pack s c).2.1 8 (5 * vI s 10 + 1)).toNatClampNeg + ((N_pack s c).2.1 8 (5 * vI s 10 + 2)).toNatClampNeg + ((N_pack s c).2.1 8 (5 * vI s 10 + 3)).toNatClampNeg + ((N_pack s c).2.1 8 (5 * vI s 10 + 4)).toNatClampNeg = ((N_pack s c).2.1 9 (vI s 10)).toNatClampNeg
              rw [d0, d1, d2, d3, d4, q9, nI_clamp (by omega), nI_clamp (by omega), nI_clamp (by omega), nI_clamp (by omega), nI_clamp (by omega), nI_clamp (by omega)]
              unfold dsum
              omega
          · have hp2 : p < vI s 10 := by omega
            obtain ⟨a1, a2, a3, a4⟩ := hV.1.2 p hp2
            refine ⟨by rw [e9 p hp2]; exact a1, ?_, fun j hj => by rw [e8 p j hp2 hj]; exact a3 j hj, ?_⟩
            · show 1 ≤ ((N_pack s c).2.1 9 p).toNatClampNeg
              rw [e9 p hp2]
              exact a2
            · show ((N_pack s c).2.1 8 (5 * p + 0)).toNatClampNeg + ((N_pack s c).2.1 8 (5 * p + 1)).toNatClampNeg + ((N_pack s c).2.1 8 (5 * p + 2)).toNatClampNeg + ((N_pack s c).2.1 8 (5 * p + 3)).toNatClampNeg + ((N_pack s c).2.1 8 (5 * p + 4)).toNatClampNeg = ((N_pack s c).2.1 9 p).toNatClampNeg
              rw [e8 p 0 hp2 (by decide), e8 p 1 hp2 (by decide), e8 p 2 hp2 (by decide), e8 p 3 hp2 (by decide), e8 p 4 hp2 (by decide), e9 p hp2]
              exact a4
        · obtain ⟨a1, a2, a3, a4, a5, a6⟩ := hV.2.1.2 r hr
          exact ⟨by rw [e10]; exact okV_up a1 (Nat.le_succ _), a2, a3, fun i hi => by rw [esz r hr] at hi; exact a4 i hi, fun i hi => by rw [esz r hr] at hi; exact a5 i hi, fun k hk => by rw [esz r hr, ecn r k hr hk]; exact a6 k hk⟩
        · obtain ⟨b1, b2, b3, b4, b5⟩ := hV.2.2.2.2.1.2 h57
          have b12 : vI s 58 ≤ vI s 18 := b1.2
          refine ⟨b1, b2, b3, b4, fun r hr => ?_⟩
          have hr2 : r < vI s 58 := hr
          obtain ⟨c1, c2, c3⟩ := b5 r hr2
          exact ⟨fun i hi => by rw [esz r (by omega)] at hi; exact c1 i hi, fun i hi => by rw [esz r (by omega)] at hi; exact c2 i hi, fun k hk => by rw [esz r (by omega), ecn r k (by omega) hk]; exact c3 k hk⟩
    · exact hV
  · exact hV
theorem MV_image {s : MST} (hV : MV s) : MV (R_image s).2 := by
  have h18 : vI s 18 ≤ 16 := hV.2.1.1.2
  have e58 : vI (N_im3 s (vI s 28)) 58 = vI s 18 := nI_clamp (by omega)
  have h28 : vI s 28 ≤ 10 := hV.2.2.1.1.2
  have e59 : vI (N_im3 s (vI s 28)) 59 = vI s 28 := nI_clamp (by omega)
  show MV (N_im3 s (vI s 28))
  refine ⟨hV.1, hV.2.1, hV.2.2.1, hV.2.2.2.1, ⟨okV_of (j := 1) (by decide) (by decide), fun _ => ⟨⟨by rw [e58]; rfl, by rw [e58]; exact Nat.le_refl _⟩, ⟨by rw [e59]; rfl, by rw [e59]; exact Nat.le_refl _⟩, fun k hk => ?_, hV.2.2.2.2.2.2.1.2.2.1, fun r hr => ?_⟩⟩, hV.2.2.2.2.2⟩
  · rw [e59] at hk
    show okV (fillO (s.2.1 27) (s.2.1 56) 0 (vI s 28) k) 2
    rw [fillO_in (Nat.zero_le _) (by omega)]
    exact (hV.2.2.1.2 k hk).2.2.2
  · rw [e58] at hr
    obtain ⟨a1, a2, a3, a4, a5, a6⟩ := hV.2.1.2 r hr
    have hz := MV_run hV hr
    have e52 : ∀ i, i < rsz s r → (N_im3 s (vI s 28)).2.1 52 (25 * r + i) = s.2.1 14 (25 * r + i) := fun i hi => by
      show fillO (s.2.1 14) (s.2.1 52) 0 (25 * vI s 18) (25 * r + i) = _
      rw [fillO_in (Nat.zero_le _) (by omega), Nat.sub_zero]
    have e53 : ∀ i, i < rsz s r → (N_im3 s (vI s 28)).2.1 53 (25 * r + i) = s.2.1 15 (25 * r + i) := fun i hi => by
      show fillO (s.2.1 15) (s.2.1 53) 0 (25 * vI s 18) (25 * r + i) = _
      rw [fillO_in (Nat.zero_le _) (by omega), Nat.sub_zero]
    exact ⟨fun i hi => by rw [e52 i hi]; exact a4 i hi, fun i hi => by rw [e53 i hi]; exact a5 i hi, fun k hk => (cntN_cg (fun i hi => by rw [e52 i hi])).trans (a6 k hk)⟩
theorem MV_back {s : MST} (hV : MV s) : MV (R_back s).2 := by
  unfold R_back
  split
  · exact hV
  · rename_i h57
    have h1 : s.1 57 = nI 1 := by
      have h := hV.2.2.2.2.1.1
      rcases (by have := h.2; omega : (s.1 57).toNatClampNeg = 0 ∨ (s.1 57).toNatClampNeg = 1) with z | z
      · exact absurd (h.1.trans (by rw [z]; rfl)) h57
      · exact h.1.trans (by rw [z])
    obtain ⟨b1, b2, b3, b4, b5⟩ := hV.2.2.2.2.1.2 h1
    have b12 : vI s 58 ≤ vI s 18 := b1.2
    have b22 : vI s 59 ≤ vI s 28 := b2.2
    obtain ⟨t1, t2, t3, t4⟩ := hV.2.2.2.2.2.2.1
    refine ⟨hV.1, ⟨hV.2.1.1, fun r hr => ?_⟩, ⟨hV.2.2.1.1, fun k hk => ?_⟩, hV.2.2.2.1, hV.2.2.2.2.1, hV.2.2.2.2.2.1, ⟨t1, t2, b4, t4⟩, hV.2.2.2.2.2.2.2⟩
    · obtain ⟨a1, a2, a3, a4, a5, a6⟩ := hV.2.1.2 r hr
      have hz := MV_run hV hr
      by_cases c : r < vI s 58
      · obtain ⟨c1, c2, c3⟩ := b5 r c
        have e14 : ∀ i, i < rsz s r → (N_bk3 s (vI s 59)).2.1 14 (25 * r + i) = s.2.1 52 (25 * r + i) := fun i hi => by
          show fillO (s.2.1 52) (s.2.1 14) 0 (25 * vI s 58) (25 * r + i) = _
          rw [fillO_in (Nat.zero_le _) (by omega), Nat.sub_zero]
        have e15 : ∀ i, i < rsz s r → (N_bk3 s (vI s 59)).2.1 15 (25 * r + i) = s.2.1 53 (25 * r + i) := fun i hi => by
          show fillO (s.2.1 53) (s.2.1 15) 0 (25 * vI s 58) (25 * r + i) = _
          rw [fillO_in (Nat.zero_le _) (by omega), Nat.sub_zero]
        exact ⟨a1, a2, a3, fun i hi => by rw [e14 i hi]; exact c1 i hi, fun i hi => by rw [e15 i hi]; exact c2 i hi, fun k hk => (cntN_cg (fun i hi => by rw [e14 i hi])).trans (c3 k hk)⟩
      · have e14 : ∀ i, i < rsz s r → (N_bk3 s (vI s 59)).2.1 14 (25 * r + i) = s.2.1 14 (25 * r + i) := fun i hi => by
          show fillO (s.2.1 52) (s.2.1 14) 0 (25 * vI s 58) (25 * r + i) = _
          rw [fillO_out (by omega)]
        have e15 : ∀ i, i < rsz s r → (N_bk3 s (vI s 59)).2.1 15 (25 * r + i) = s.2.1 15 (25 * r + i) := fun i hi => by
          show fillO (s.2.1 53) (s.2.1 15) 0 (25 * vI s 58) (25 * r + i) = _
          rw [fillO_out (by omega)]
        exact ⟨a1, a2, a3, fun i hi => by rw [e14 i hi]; exact a4 i hi, fun i hi => by rw [e15 i hi]; exact a5 i hi, fun k hk => (cntN_cg (fun i hi => by rw [e14 i hi])).trans (a6 k hk)⟩
    · have q := hV.2.2.1.2 k hk
      refine ⟨q.1, q.2.1, q.2.2.1, ?_⟩
      show okV (fillO (s.2.1 56) (s.2.1 27) 0 (vI s 59) k) 2
      by_cases c : k < vI s 59
      · rw [fillO_in (Nat.zero_le _) (by omega), Nat.sub_zero]
        exact b3 k c
      · rw [fillO_out (by omega)]
        exact q.2.2.2
end MVK

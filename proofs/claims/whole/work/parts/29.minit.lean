/-! THE REFERENCE: how it begins -/
/-- the fields while the arrays come -/
def fR (L : List Nat) (m : Nat → Nat) (k : Nat) : Value := if k ∈ L then .ref (m k) else .null
def fP (L : List Nat) (m : Nat → Nat) (s : MST) : List Value := [.int (s.1 0), fR L m 1, fR L m 2, .int (s.1 3), .int (s.1 4), fR L m 5, .int (s.1 6), fR L m 7, fR L m 8, fR L m 9, .int (s.1 10), fR L m 11, fR L m 12, fR L m 13, fR L m 14, fR L m 15, fR L m 16, fR L m 17, .int (s.1 18), fR L m 19, fR L m 20, fR L m 21, fR L m 22, fR L m 23, fR L m 24, fR L m 25, fR L m 26, fR L m 27, .int (s.1 28), fR L m 29, fR L m 30, .int (s.1 31), .int (s.1 32), .int (s.1 33), .int (s.1 34), .int (s.1 35), .long (s.2.2.1 36), .int (s.1 37), .int (s.1 38), .int (s.1 39), .int (s.1 40), .int (s.1 41), .int (s.1 42), .int (s.1 43), .int (s.1 44), .int (s.1 45), .int (s.1 46), .long (s.2.2.1 47), .long (s.2.2.1 48), .int (s.1 49), .int (s.1 50), fR L m 51, fR L m 52, fR L m 53, fR L m 54, fR L m 55, fR L m 56, .int (s.1 57), .int (s.1 58), .int (s.1 59), .int (s.1 60), fR L m 61, fR L m 62, fR L m 63, fR L m 64]
def cP (L : List Nat) (m : Nat → Nat) (s : MST) (r : Nat) : kE := if r = 65 then kO 12 (fP L m s) else mc m s r
abbrev liv (L : List Nat) (r : Nat) : Prop := r = 65 ∨ r ∈ L
noncomputable def hP (L : List Nat) (m : Nat → Nat) (s : MST) (h0 : AH) : AH := ov (liv L) m (cP L m s) h0
def sZ : MST := (fun _ => 0, fun _ _ => 0, fun _ => 0, fun _ _ => 0)
def updM (m : Nat → Nat) (k q : Nat) : Nat → Nat := fun j => if j = k then q else m j
theorem mc_m {m m' : Nat → Nat} {s : MST} {r : Nat} (hr : r ≠ 65) : mc m s r = mc m' s r := by
  unfold mc
  split <;> first | rfl | exact absurd rfl hr
theorem hP_add {L : List Nat} {m : Nat → Nat} {s : MST} {h0 : AH} {k q : Nat} {cell : kE} (hi : OInj (liv L) m) (hk : k ≠ 65) (hkL : k ∉ L) (hq : hP L m s h0 q = none) (hcell : mc m s k = cell) (hf : (fP L m s).set k (.ref q) = fP (k :: L) (updM m k q) s) :
    kput (kput (hP L m s h0) q cell) (m 65) (kO 12 ((fP L m s).set k (.ref q))) = hP (k :: L) (updM m k q) s h0 ∧ OInj (liv (k :: L)) (updM m k q) ∧ h0 q = none := by
  have hm : ∀ r, liv L r → m r ≠ q := fun r hr z => by
    have e : hP L m s h0 (m r) = some (cP L m s r) := ov_get hi hr
    rw [z, hq] at e
    exact absurd e (by simp)
  have h0q : h0 q = none := by
    have e : hP L m s h0 q = h0 q := ov_out hm
    rw [← e, hq]
  have hu : ∀ r, r ≠ k → updM m k q r = m r := fun r hr => if_neg hr
  have hk2 : updM m k q k = q := if_pos rfl
  have hl : ∀ r, liv (k :: L) r → r ≠ k → liv L r := fun r hr hn => hr.elim Or.inl (fun z => (List.mem_cons.mp z).elim (fun y => absurd y hn) Or.inr)
  have hi2 : OInj (liv (k :: L)) (updM m k q) := by
    intro a b ha hb e
    by_cases h1 : a = k
    · by_cases h2 : b = k
      · rw [h1, h2]
      · rw [h1, hk2, hu b h2] at e
        exact absurd e.symm (hm b (hl b hb h2))
    · by_cases h2 : b = k
      · rw [h2, hk2, hu a h1] at e
        exact absurd e (hm a (hl a ha h1))
      · rw [hu a h1, hu b h2] at e
        exact hi a b (hl a ha h1) (hl b hb h2) e
  refine ⟨?_, hi2, h0q⟩
  refine ov_ext hi2 (fun r hr => ?_) (fun a ha => ?_)
  · by_cases h1 : r = k
    · rw [h1, hk2, kput_ne (fun z => hm 65 (Or.inl rfl) z.symm), kput_eq]
      show some cell = some (if k = 65 then _ else mc _ s k)
      rw [if_neg hk, mc_m hk (m' := m), hcell]
    · rw [hu r h1]
      have hr' := hl r hr h1
      by_cases h5 : r = 65
      · rw [h5, kput_eq, hf]
        rfl
      · rw [kput_ne (fun z => h5 (hi r 65 hr' (Or.inl rfl) z)), kput_ne (hm r hr')]
        have e : hP L m s h0 (m r) = some (cP L m s r) := ov_get hi hr'
        rw [e]
        show some (if r = 65 then _ else mc m s r) = some (if r = 65 then _ else mc _ s r)
        rw [if_neg h5, if_neg h5, mc_m h5]
  · have n5 : m 65 ≠ a := by
      have := ha 65 (Or.inl rfl)
      rwa [hu 65 (Ne.symm hk)] at this
    have nq : q ≠ a := by
      have := ha k (Or.inr (List.mem_cons_self ..))
      rwa [hk2] at this
    rw [kput_ne (Ne.symm n5), kput_ne (Ne.symm nq)]
    refine ov_out (fun r hr => ?_)
    by_cases h1 : r = k
    · subst h1
      exact hr.elim (fun z => absurd z hk) (fun z => absurd z hkL)
    · have := ha r (hr.elim Or.inl (fun z => Or.inr (List.mem_cons_of_mem _ z)))
      rwa [hu r h1] at this
theorem hP_all {L : List Nat} {m : Nat → Nat} {s : MST} {h0 : AH} (hi : OInj (liv L) m) (hl : ∀ r, mliv r → liv L r) (hl2 : ∀ r, liv L r → mliv r) (hf : fP L m s = mflds m s) : hP L m s h0 = mh m s h0 ∧ MI m := by
  have hi2 : MI m := fun a b ha hb e => hi a b (hl a ha) (hl b hb) e
  refine ⟨ov_ext hi2 (fun r hr => ?_) (fun a ha => ov_out (fun r hr => ha r (hl2 r hr))), hi2⟩
  have e : hP L m s h0 (m r) = some (cP L m s r) := ov_get hi (hl r hr)
  rw [e]
  unfold cP
  by_cases h5 : r = 65
  · rw [if_pos h5, h5, hf]
    rfl
  · rw [if_neg h5]
theorem hP_0 {b : Nat} {h : AH} (hb : h b = some (kO 12 (fP [] (fun _ => b) sZ))) : h = hP [] (fun _ => b) sZ h ∧ OInj (liv []) (fun _ => b) := by
  have hi : OInj (liv []) (fun _ => b) := fun r r' h1 h2 _ => by
    have e1 : r = 65 := h1.elim id (fun z => absurd z (List.not_mem_nil))
    have e2 : r' = 65 := h2.elim id (fun z => absurd z (List.not_mem_nil))
    rw [e1, e2]
  exact ⟨ov_ext hi (fun r hr => by
    have e1 : r = 65 := hr.elim id (fun z => absurd z (List.not_mem_nil))
    rw [e1]
    exact hb) (fun _ _ => rfl), hi⟩
section MPX
variable {X : KX} {m : Nat → Nat} {s : MST} {h0 : AH}
def spB (w : Int64) (i : Nat) : Int32 := (w >>> ((nI (56 - 8 * i)).toInt64 &&& 63) &&& lN 255).toInt32
def spF (f : Nat → Int32) (a : Nat) (w : Int64) : Nat → (Nat → Int32)
  | 0 => f
  | i + 1 => upd (spF f a w i) (a + i) (spB w i)
theorem spF_in {f : Nat → Int32} {a : Nat} {w : Int64} {n i : Nat} (h : i < n) : spF f a w n (a + i) = spB w i := by
  induction n with
  | zero => exact absurd h (Nat.not_lt_zero _)
  | succ n ih =>
    show upd (spF f a w n) (a + n) (spB w n) (a + i) = _
    by_cases e : i = n
    · rw [e]
      exact if_pos rfl
    · unfold upd
      rw [if_neg (by omega)]
      exact ih (by omega)
theorem spF_out {f : Nat → Int32} {a : Nat} {w : Int64} {n i : Nat} (h : i < a ∨ a + n ≤ i) : spF f a w n i = f i := by
  induction n with
  | zero => rfl
  | succ n ih =>
    show upd (spF f a w n) (a + n) (spB w n) i = _
    unfold upd
    rw [if_neg (by omega)]
    exact ih (by omega)
set_option maxRecDepth 4000 in
theorem f_spell (hm : MI m) {a : Nat} (ha : a ≤ 48) (w : Int64) : Fn X 0 0 0 yX12_spell cX12_spell 5 none [.ref (m 65), .int (nI a), .long w] (mh m s h0) (fun rv hv => rv = none ∧ hv = mh m (sa s 1 (spF (s.2.1 1) a w (8))) h0) := by
  refine fn_of (by decide) (Nat.le_of_ble_eq_true rfl) (fun M hM => ?_)
  have loop : ∀ j i : Nat, 8 - i = j → i ≤ 8 →  AJ X M yX12_spell cX12_spell 5 none 3 [(0, .ref (m 65)), (1, .int (nI a)), (2, .long w), (4, .int (nI i))] [] (mh m (sa s 1 (spF (s.2.1 1) a w (i))) h0) 0 0 := by
    intro j
    induction j with
    | zero =>
      intro i hjk hkN
      refine a_iload (pc := 3) dX12_spell_3 rfl ?_
      refine a_bipush (pc := 5) dX12_spell_5 ib_8 ?_
      refine a_icmp_geN (pc := 7) (tgt := 40) dX12_spell_7 (by decide) (by omega) (by omega) (fun c7 => ?_) (fun c7 => ?_)
      · have hi : i = 8 := by omega
        subst hi
        refine a_ret_v (pc := 40) hM rfl dX12_spell_40 (by omega) (by omega) ?_
        exact ⟨rfl, rfl⟩
      · exact absurd c7 (by omega)
    | succ j ih =>
      intro i hjk hkN
      refine a_iload (pc := 3) dX12_spell_3 rfl ?_
      refine a_bipush (pc := 5) dX12_spell_5 ib_8 ?_
      refine a_icmp_geN (pc := 7) (tgt := 40) dX12_spell_7 (by decide) (by omega) (by omega) (fun c7 => ?_) (fun c7 => ?_)
      · exact absurd c7 (by omega)
      · refine a_aload_n (pc := 10) dX12_spell_10 rfl rfl ?_
        refine a_getfield (pc := 11) kg_X12_13 dX12_spell_11 (m_obj hm) rfl ?_
        refine a_iload_n (pc := 14) dX12_spell_14 rfl rfl ?_
        refine a_iload (pc := 15) dX12_spell_15 rfl ?_
        refine a_iaddN (pc := 17) dX12_spell_17 ?_
        refine a_lload_n (pc := 18) dX12_spell_18 rfl rfl ?_
        refine a_bipush (pc := 19) dX12_spell_19 ib_56 ?_
        refine a_bipush (pc := 21) dX12_spell_21 ib_8 ?_
        refine a_iload (pc := 23) dX12_spell_23 rfl ?_
        refine a_imulN (pc := 25) dX12_spell_25 ?_
        refine a_isubN (pc := 26) dX12_spell_26 (by omega) ?_
        refine a_lshr (pc := 27) dX12_spell_27 ?_
        refine a_ldc2 (pc := 28) kc_X12_137 dX12_spell_28 ?_
        refine a_topl (z := lN 255) rfl ?_
        refine a_land (pc := 31) dX12_spell_31 ?_
        refine a_l2i (pc := 32) dX12_spell_32 ?_
        refine a_iastore (pc := 33) dX12_spell_33 (m_a1 hm) (a + i) (rfl) (by omega) (by omega) ?_
        refine a_hp (m_p1 hm) ?_
        refine a_hp (show _ = mh m ((sa s 1 (spF (s.2.1 1) a w (i + 1)))) h0 from congrArg (fun t => mh m t h0) (sa_sa)) ?_
        refine a_iincN (pc := 34) (n := 1) dX12_spell_34 (by decide) rfl (by decide) rfl ?_
        refine a_goto (pc := 37) (tgt := 3) dX12_spell_37 (by decide) ?_
        exact a_locR (ih (i + 1) (by omega) (by omega)) ⟨rfl, rfl, rfl, rfl, trivial⟩
  refine a_iconst (pc := 0) dX12_spell_0 ic_0 ?_
  refine a_istore (pc := 1) dX12_spell_1 (by decide) rfl ?_
  refine a_hp (show _ = mh m (sa s 1 (spF (s.2.1 1) a w (0))) h0 by rw [spF, sa_id]) ?_
  exact a_locR (loop _ 0 rfl (Nat.zero_le _)) ⟨rfl, rfl, rfl, rfl, trivial⟩

-- places
theorem fre_s {L L2 : List Nat} {m : Nat → Nat} {h : AH} {k q : Nat} (hw : ∀ r, r ∈ L → h (m r) = none) (hz : h q = none) (hL : L2 = L ++ [k]) (r : Nat) (hr : r ∈ L2) : h (updM m k q r) = none := by
  unfold updM
  by_cases e : r = k
  · rw [if_pos e, hz]
  · rw [if_neg e]
    rw [hL] at hr
    rcases List.mem_append.mp hr with z | z
    · exact hw r z
    · exact absurd (List.mem_singleton.mp z) e
def tx0_0 : Nat → Int32 := fun _ => 0
def tx0_1 : Nat → Int32 := spF tx0_0 0 (lN 8319396939027718204) 8
def tx0_2 : Nat → Int32 := spF tx0_1 8 (lN 2335232355660217120) 8
def tx0_3 : Nat → Int32 := spF tx0_2 16 (lN 7738703066957094972) 8
def tx0_4 : Nat → Int32 := spF tx0_3 24 (lN 2335232355660217120) 8
def tx0_5 : Nat → Int32 := spF tx0_4 32 (lN 8314059567200302195) 8
def tx0_6 : Nat → Int32 := spF tx0_5 40 (lN 2318545033095113587) 8
def tx0_7 : Nat → Int32 := spF tx0_6 48 (lN 2318544795711774752) 8
theorem tx0_ok : ∀ i, i < 56 → okV (tx0_7 i) 256 := by
  unfold okV
  decide +kernel
theorem binN_0 {n k : Nat} (h : n < k) : binN n k = 0 := by
  induction n generalizing k with
  | zero => 
    obtain ⟨j, rfl⟩ : ∃ j, k = j + 1 := ⟨k - 1, by omega⟩
    rfl
  | succ n ih =>
    obtain ⟨j, rfl⟩ : ∃ j, k = j + 1 := ⟨k - 1, by omega⟩
    show binN n j + binN n (j + 1) = 0
    rw [ih (by omega), ih (by omega)]
theorem binN_lt {n k : Nat} (h1 : 1 ≤ k) (h2 : k ≤ n) : binN (n - 1) (k - 1) + binN (n - 1) k = binN n k := by
  obtain ⟨a, rfl⟩ : ∃ a, n = a + 1 := ⟨n - 1, by omega⟩
  obtain ⟨b, rfl⟩ : ∃ b, k = b + 1 := ⟨k - 1, by omega⟩
  rfl
theorem binN_eq {n k : Nat} (h1 : 1 ≤ k) (h2 : k ≤ n) (h3 : n ≤ k) : binN (n - 1) (k - 1) + 0 = binN n k := by
  rw [← binN_lt h1 h2, binN_0 (n := n - 1) (k := k) (by omega)]
theorem binN_z (n : Nat) : binN n 0 = 1 := by cases n <;> rfl
/-- the table up to row n, place k -/
def tabOk (f : Nat → Int64) (n k : Nat) : Prop := ∀ a b, a ≤ 25 → b ≤ 25 → f (26 * a + b) = if a < n ∨ (a = n ∧ b < k) then lN (binN a b) else 0
theorem tabOk_put {f : Nat → Int64} {n k : Nat} {v : Int64} (h : tabOk f n k) (hk : k ≤ 25) (hv : v = lN (binN n k)) : tabOk (vp_updL f (26 * n + k) v) n (k + 1) := by
  intro a b ha hb
  unfold vp_updL
  by_cases e : 26 * a + b = 26 * n + k
  · have e1 : a = n := by omega
    have e2 : b = k := by omega
    rw [if_pos e, e1, e2, if_pos (by omega), hv]
  · rw [if_neg e, h a b ha hb]
    by_cases c : a < n ∨ (a = n ∧ b < k)
    · rw [if_pos c, if_pos (by omega)]
    · rw [if_neg c, if_neg (by omega)]
theorem tabOk_row {f : Nat → Int64} {n : Nat} (h : tabOk f n (n + 1)) : tabOk f (n + 1) 0 := by
  intro a b ha hb
  rw [h a b ha hb]
  by_cases c : a < n ∨ (a = n ∧ b < n + 1)
  · rw [if_pos c, if_pos (by omega)]
  · rw [if_neg c]
    by_cases e : a = n
    · rw [if_pos (by omega), binN_0 (by omega)]
      rfl
    · rw [if_neg (by omega)]
theorem tabOk_g {f : Nat → Int64} {n k a b : Nat} (h : tabOk f n k) (ha : a ≤ 25) (hb : b ≤ 25) (hc : a < n ∨ (a = n ∧ b < k)) : f (26 * a + b) = lN (binN a b) := by
  rw [h a b ha hb, if_pos hc]
/-- a fresh reference: what it holds -/
def Beg (s : MST) : Prop := (∀ k, k ≠ 3 → s.1 k = 0) ∧ (∀ k i, k ≠ 1 → k ≠ 2 → s.2.1 k i = 0) ∧ (s.1 3 = nI 1 ∧ s.2.1 1 = tx0_7 ∧ s.2.1 2 0 = nI 56) ∧ MVc s
set_option maxHeartbeats 4000000 in
set_option maxRecDepth 4000 in
theorem f_init {b : Nat} (hb : h0 b = some (kO 12 (fP [] (fun _ => b) sZ))) : Fn X 1 34 3884 yX12_init cX12_init 3 none [.ref b] h0 (fun rv hv => rv = none ∧ ∃ (m : Nat → Nat) (s : MST), m 65 = b ∧ MI m ∧ hv = mh m s h0 ∧ Beg s ∧ ∀ r, mliv r → r ≠ 65 → h0 (m r) = none) := by
  refine fn_of (by decide) (Nat.le_of_ble_eq_true rfl) (fun M hM => ?_)
  obtain ⟨e0, i0⟩ := hP_0 hb
  have hbb := hb
  obtain ⟨m0, hm0⟩ : ∃ m0, m0 = (fun _ : Nat => b) := ⟨_, rfl⟩
  have mb0 : m0 65 = b := by rw [hm0]
  rw [← hm0] at i0 e0
  refine a_aload_n (pc := 0) dX12_init_0 rfl rfl ?_
  refine a_objInit ko_X12_7 ko_im ko_co dX12_init_1 (by rw [hM.1]; decide) (by rw [hM.1]; exact Nat.le_of_ble_eq_true rfl) ?_
  refine a_hp (show _ = hP [] m0 sZ h0 from e0) ?_
  refine a_aload_n (pc := 4) dX12_init_4 rfl rfl ?_
  refine a_sipush (pc := 5) dX12_init_5 is_960 ?_
  refine a_newI (pc := 8) ka_int dX12_init_8 rfl (by decide) (by rw [hM.1]; exact Nat.le_of_ble_eq_true rfl) (by rw [hM.1]; exact Nat.le_of_ble_eq_true rfl) (fun q0 hq0 => ?_)
  have hn0 : b ≠ q0 := fun z => by rw [← z, ← mb0, show hP [] m0 sZ h0 (m0 65) = _ from ov_get i0 (Or.inl rfl)] at hq0; exact absurd hq0 (by simp)
  refine a_putfieldF (pc := 10) kf_X12_13 rfl dX12_init_10 (fs := fP [] m0 sZ) (by rw [kput_ne hn0, ← mb0]; exact ov_get i0 (Or.inl rfl)) rfl (by rfl) (Nat.le_of_ble_eq_true rfl) ?_
  obtain ⟨e1, i1, z0⟩ := hP_add (s := sZ) (h0 := h0) (cell := kI 960 (fun _ => 0)) i0 (k := 1) (by decide) (by decide) hq0 rfl rfl
  obtain ⟨m1, hm1⟩ : ∃ m1, m1 = updM m0 1 q0 := ⟨_, rfl⟩
  rw [← hm1] at e1 i1
  have mb1 : m1 65 = b := by rw [hm1]; exact mb0
  refine a_hp (show _ = hP [1] m1 sZ h0 by rw [← e1, mb0]) ?_
  refine a_aload_n (pc := 13) dX12_init_13 rfl rfl ?_
  refine a_bipush (pc := 14) dX12_init_14 ib_6 ?_
  refine a_newI (pc := 16) ka_int dX12_init_16 rfl (by decide) (by rw [hM.1]; exact Nat.le_of_ble_eq_true rfl) (by rw [hM.1]; exact Nat.le_of_ble_eq_true rfl) (fun q1 hq1 => ?_)
  have hn1 : b ≠ q1 := fun z => by rw [← z, ← mb1, show hP [1] m1 sZ h0 (m1 65) = _ from ov_get i1 (Or.inl rfl)] at hq1; exact absurd hq1 (by simp)
  refine a_putfieldF (pc := 18) kf_X12_17 rfl dX12_init_18 (fs := fP [1] m1 sZ) (by rw [kput_ne hn1, ← mb1]; exact ov_get i1 (Or.inl rfl)) rfl (by rfl) (Nat.le_of_ble_eq_true rfl) ?_
  obtain ⟨e2, i2, z1⟩ := hP_add (s := sZ) (h0 := h0) (cell := kI 6 (fun _ => 0)) i1 (k := 2) (by decide) (by decide) hq1 rfl rfl
  obtain ⟨m2, hm2⟩ : ∃ m2, m2 = updM m1 2 q1 := ⟨_, rfl⟩
  rw [← hm2] at e2 i2
  have mb2 : m2 65 = b := by rw [hm2]; exact mb1
  refine a_hp (show _ = hP [2, 1] m2 sZ h0 by rw [← e2, mb1]) ?_
  refine a_aload_n (pc := 21) dX12_init_21 rfl rfl ?_
  refine a_sipush (pc := 22) dX12_init_22 is_160 ?_
  refine a_newI (pc := 25) ka_int dX12_init_25 rfl (by decide) (by rw [hM.1]; exact Nat.le_of_ble_eq_true rfl) (by rw [hM.1]; exact Nat.le_of_ble_eq_true rfl) (fun q2 hq2 => ?_)
  have hn2 : b ≠ q2 := fun z => by rw [← z, ← mb2, show hP [2, 1] m2 sZ h0 (m2 65) = _ from ov_get i2 (Or.inl rfl)] at hq2; exact absurd hq2 (by simp)
  refine a_putfieldF (pc := 27) kf_X12_20 rfl dX12_init_27 (fs := fP [2, 1] m2 sZ) (by rw [kput_ne hn2, ← mb2]; exact ov_get i2 (Or.inl rfl)) rfl (by rfl) (Nat.le_of_ble_eq_true rfl) ?_
  obtain ⟨e3, i3, z2⟩ := hP_add (s := sZ) (h0 := h0) (cell := kI 160 (fun _ => 0)) i2 (k := 5) (by decide) (by decide) hq2 rfl rfl
  obtain ⟨m3, hm3⟩ : ∃ m3, m3 = updM m2 5 q2 := ⟨_, rfl⟩
  rw [← hm3] at e3 i3
  have mb3 : m3 65 = b := by rw [hm3]; exact mb2
  refine a_hp (show _ = hP [5, 2, 1] m3 sZ h0 by rw [← e3, mb2]) ?_
  refine a_aload_n (pc := 30) dX12_init_30 rfl rfl ?_
  refine a_sipush (pc := 31) dX12_init_31 is_676 ?_
  refine a_newL (pc := 34) ka_long dX12_init_34 rfl (by decide) (by rw [hM.1]; exact Nat.le_of_ble_eq_true rfl) (by rw [hM.1]; exact Nat.le_of_ble_eq_true rfl) (fun q3 hq3 => ?_)
  have hn3 : b ≠ q3 := fun z => by rw [← z, ← mb3, show hP [5, 2, 1] m3 sZ h0 (m3 65) = _ from ov_get i3 (Or.inl rfl)] at hq3; exact absurd hq3 (by simp)
  refine a_putfieldF (pc := 36) kf_X12_23 rfl dX12_init_36 (fs := fP [5, 2, 1] m3 sZ) (by rw [kput_ne hn3, ← mb3]; exact ov_get i3 (Or.inl rfl)) rfl (by rfl) (Nat.le_of_ble_eq_true rfl) ?_
  obtain ⟨e4, i4, z3⟩ := hP_add (s := sZ) (h0 := h0) (cell := kL 676 (fun _ => 0)) i3 (k := 7) (by decide) (by decide) hq3 rfl rfl
  obtain ⟨m4, hm4⟩ : ∃ m4, m4 = updM m3 7 q3 := ⟨_, rfl⟩
  rw [← hm4] at e4 i4
  have mb4 : m4 65 = b := by rw [hm4]; exact mb3
  refine a_hp (show _ = hP [7, 5, 2, 1] m4 sZ h0 by rw [← e4, mb3]) ?_
  refine a_aload_n (pc := 39) dX12_init_39 rfl rfl ?_
  refine a_bipush (pc := 40) dX12_init_40 ib_20 ?_
  refine a_newI (pc := 42) ka_int dX12_init_42 rfl (by decide) (by rw [hM.1]; exact Nat.le_of_ble_eq_true rfl) (by rw [hM.1]; exact Nat.le_of_ble_eq_true rfl) (fun q4 hq4 => ?_)
  have hn4 : b ≠ q4 := fun z => by rw [← z, ← mb4, show hP [7, 5, 2, 1] m4 sZ h0 (m4 65) = _ from ov_get i4 (Or.inl rfl)] at hq4; exact absurd hq4 (by simp)
  refine a_putfieldF (pc := 44) kf_X12_27 rfl dX12_init_44 (fs := fP [7, 5, 2, 1] m4 sZ) (by rw [kput_ne hn4, ← mb4]; exact ov_get i4 (Or.inl rfl)) rfl (by rfl) (Nat.le_of_ble_eq_true rfl) ?_
  obtain ⟨e5, i5, z4⟩ := hP_add (s := sZ) (h0 := h0) (cell := kI 20 (fun _ => 0)) i4 (k := 8) (by decide) (by decide) hq4 rfl rfl
  obtain ⟨m5, hm5⟩ : ∃ m5, m5 = updM m4 8 q4 := ⟨_, rfl⟩
  rw [← hm5] at e5 i5
  have mb5 : m5 65 = b := by rw [hm5]; exact mb4
  refine a_hp (show _ = hP [8, 7, 5, 2, 1] m5 sZ h0 by rw [← e5, mb4]) ?_
  refine a_aload_n (pc := 47) dX12_init_47 rfl rfl ?_
  refine a_iconst (pc := 48) dX12_init_48 ic_4 ?_
  refine a_newI (pc := 49) ka_int dX12_init_49 rfl (by decide) (by rw [hM.1]; exact Nat.le_of_ble_eq_true rfl) (by rw [hM.1]; exact Nat.le_of_ble_eq_true rfl) (fun q5 hq5 => ?_)
  have hn5 : b ≠ q5 := fun z => by rw [← z, ← mb5, show hP [8, 7, 5, 2, 1] m5 sZ h0 (m5 65) = _ from ov_get i5 (Or.inl rfl)] at hq5; exact absurd hq5 (by simp)
  refine a_putfieldF (pc := 51) kf_X12_30 rfl dX12_init_51 (fs := fP [8, 7, 5, 2, 1] m5 sZ) (by rw [kput_ne hn5, ← mb5]; exact ov_get i5 (Or.inl rfl)) rfl (by rfl) (Nat.le_of_ble_eq_true rfl) ?_
  obtain ⟨e6, i6, z5⟩ := hP_add (s := sZ) (h0 := h0) (cell := kI 4 (fun _ => 0)) i5 (k := 9) (by decide) (by decide) hq5 rfl rfl
  obtain ⟨m6, hm6⟩ : ∃ m6, m6 = updM m5 9 q5 := ⟨_, rfl⟩
  rw [← hm6] at e6 i6
  have mb6 : m6 65 = b := by rw [hm6]; exact mb5
  refine a_hp (show _ = hP [9, 8, 7, 5, 2, 1] m6 sZ h0 by rw [← e6, mb5]) ?_
  refine a_aload_n (pc := 54) dX12_init_54 rfl rfl ?_
  refine a_bipush (pc := 55) dX12_init_55 ib_16 ?_
  refine a_newI (pc := 57) ka_int dX12_init_57 rfl (by decide) (by rw [hM.1]; exact Nat.le_of_ble_eq_true rfl) (by rw [hM.1]; exact Nat.le_of_ble_eq_true rfl) (fun q6 hq6 => ?_)
  have hn6 : b ≠ q6 := fun z => by rw [← z, ← mb6, show hP [9, 8, 7, 5, 2, 1] m6 sZ h0 (m6 65) = _ from ov_get i6 (Or.inl rfl)] at hq6; exact absurd hq6 (by simp)
  refine a_putfieldF (pc := 59) kf_X12_33 rfl dX12_init_59 (fs := fP [9, 8, 7, 5, 2, 1] m6 sZ) (by rw [kput_ne hn6, ← mb6]; exact ov_get i6 (Or.inl rfl)) rfl (by rfl) (Nat.le_of_ble_eq_true rfl) ?_
  obtain ⟨e7, i7, z6⟩ := hP_add (s := sZ) (h0 := h0) (cell := kI 16 (fun _ => 0)) i6 (k := 11) (by decide) (by decide) hq6 rfl rfl
  obtain ⟨m7, hm7⟩ : ∃ m7, m7 = updM m6 11 q6 := ⟨_, rfl⟩
  rw [← hm7] at e7 i7
  have mb7 : m7 65 = b := by rw [hm7]; exact mb6
  refine a_hp (show _ = hP [11, 9, 8, 7, 5, 2, 1] m7 sZ h0 by rw [← e7, mb6]) ?_
  refine a_aload_n (pc := 62) dX12_init_62 rfl rfl ?_
  refine a_bipush (pc := 63) dX12_init_63 ib_16 ?_
  refine a_newI (pc := 65) ka_int dX12_init_65 rfl (by decide) (by rw [hM.1]; exact Nat.le_of_ble_eq_true rfl) (by rw [hM.1]; exact Nat.le_of_ble_eq_true rfl) (fun q7 hq7 => ?_)
  have hn7 : b ≠ q7 := fun z => by rw [← z, ← mb7, show hP [11, 9, 8, 7, 5, 2, 1] m7 sZ h0 (m7 65) = _ from ov_get i7 (Or.inl rfl)] at hq7; exact absurd hq7 (by simp)
  refine a_putfieldF (pc := 67) kf_X12_36 rfl dX12_init_67 (fs := fP [11, 9, 8, 7, 5, 2, 1] m7 sZ) (by rw [kput_ne hn7, ← mb7]; exact ov_get i7 (Or.inl rfl)) rfl (by rfl) (Nat.le_of_ble_eq_true rfl) ?_
  obtain ⟨e8, i8, z7⟩ := hP_add (s := sZ) (h0 := h0) (cell := kI 16 (fun _ => 0)) i7 (k := 12) (by decide) (by decide) hq7 rfl rfl
  obtain ⟨m8, hm8⟩ : ∃ m8, m8 = updM m7 12 q7 := ⟨_, rfl⟩
  rw [← hm8] at e8 i8
  have mb8 : m8 65 = b := by rw [hm8]; exact mb7
  refine a_hp (show _ = hP [12, 11, 9, 8, 7, 5, 2, 1] m8 sZ h0 by rw [← e8, mb7]) ?_
  refine a_aload_n (pc := 70) dX12_init_70 rfl rfl ?_
  refine a_bipush (pc := 71) dX12_init_71 ib_16 ?_
  refine a_newI (pc := 73) ka_int dX12_init_73 rfl (by decide) (by rw [hM.1]; exact Nat.le_of_ble_eq_true rfl) (by rw [hM.1]; exact Nat.le_of_ble_eq_true rfl) (fun q8 hq8 => ?_)
  have hn8 : b ≠ q8 := fun z => by rw [← z, ← mb8, show hP [12, 11, 9, 8, 7, 5, 2, 1] m8 sZ h0 (m8 65) = _ from ov_get i8 (Or.inl rfl)] at hq8; exact absurd hq8 (by simp)
  refine a_putfieldF (pc := 75) kf_X12_39 rfl dX12_init_75 (fs := fP [12, 11, 9, 8, 7, 5, 2, 1] m8 sZ) (by rw [kput_ne hn8, ← mb8]; exact ov_get i8 (Or.inl rfl)) rfl (by rfl) (Nat.le_of_ble_eq_true rfl) ?_
  obtain ⟨e9, i9, z8⟩ := hP_add (s := sZ) (h0 := h0) (cell := kI 16 (fun _ => 0)) i8 (k := 13) (by decide) (by decide) hq8 rfl rfl
  obtain ⟨m9, hm9⟩ : ∃ m9, m9 = updM m8 13 q8 := ⟨_, rfl⟩
  rw [← hm9] at e9 i9
  have mb9 : m9 65 = b := by rw [hm9]; exact mb8
  refine a_hp (show _ = hP [13, 12, 11, 9, 8, 7, 5, 2, 1] m9 sZ h0 by rw [← e9, mb8]) ?_
  refine a_aload_n (pc := 78) dX12_init_78 rfl rfl ?_
  refine a_sipush (pc := 79) dX12_init_79 is_400 ?_
  refine a_newI (pc := 82) ka_int dX12_init_82 rfl (by decide) (by rw [hM.1]; exact Nat.le_of_ble_eq_true rfl) (by rw [hM.1]; exact Nat.le_of_ble_eq_true rfl) (fun q9 hq9 => ?_)
  have hn9 : b ≠ q9 := fun z => by rw [← z, ← mb9, show hP [13, 12, 11, 9, 8, 7, 5, 2, 1] m9 sZ h0 (m9 65) = _ from ov_get i9 (Or.inl rfl)] at hq9; exact absurd hq9 (by simp)
  refine a_putfieldF (pc := 84) kf_X12_42 rfl dX12_init_84 (fs := fP [13, 12, 11, 9, 8, 7, 5, 2, 1] m9 sZ) (by rw [kput_ne hn9, ← mb9]; exact ov_get i9 (Or.inl rfl)) rfl (by rfl) (Nat.le_of_ble_eq_true rfl) ?_
  obtain ⟨e10, i10, z9⟩ := hP_add (s := sZ) (h0 := h0) (cell := kI 400 (fun _ => 0)) i9 (k := 14) (by decide) (by decide) hq9 rfl rfl
  obtain ⟨m10, hm10⟩ : ∃ m10, m10 = updM m9 14 q9 := ⟨_, rfl⟩
  rw [← hm10] at e10 i10
  have mb10 : m10 65 = b := by rw [hm10]; exact mb9
  refine a_hp (show _ = hP [14, 13, 12, 11, 9, 8, 7, 5, 2, 1] m10 sZ h0 by rw [← e10, mb9]) ?_
  refine a_aload_n (pc := 87) dX12_init_87 rfl rfl ?_
  refine a_sipush (pc := 88) dX12_init_88 is_400 ?_
  refine a_newI (pc := 91) ka_int dX12_init_91 rfl (by decide) (by rw [hM.1]; exact Nat.le_of_ble_eq_true rfl) (by rw [hM.1]; exact Nat.le_of_ble_eq_true rfl) (fun q10 hq10 => ?_)
  have hn10 : b ≠ q10 := fun z => by rw [← z, ← mb10, show hP [14, 13, 12, 11, 9, 8, 7, 5, 2, 1] m10 sZ h0 (m10 65) = _ from ov_get i10 (Or.inl rfl)] at hq10; exact absurd hq10 (by simp)
  refine a_putfieldF (pc := 93) kf_X12_45 rfl dX12_init_93 (fs := fP [14, 13, 12, 11, 9, 8, 7, 5, 2, 1] m10 sZ) (by rw [kput_ne hn10, ← mb10]; exact ov_get i10 (Or.inl rfl)) rfl (by rfl) (Nat.le_of_ble_eq_true rfl) ?_
  obtain ⟨e11, i11, z10⟩ := hP_add (s := sZ) (h0 := h0) (cell := kI 400 (fun _ => 0)) i10 (k := 15) (by decide) (by decide) hq10 rfl rfl
  obtain ⟨m11, hm11⟩ : ∃ m11, m11 = updM m10 15 q10 := ⟨_, rfl⟩
  rw [← hm11] at e11 i11
  have mb11 : m11 65 = b := by rw [hm11]; exact mb10
  refine a_hp (show _ = hP [15, 14, 13, 12, 11, 9, 8, 7, 5, 2, 1] m11 sZ h0 by rw [← e11, mb10]) ?_
  refine a_aload_n (pc := 96) dX12_init_96 rfl rfl ?_
  refine a_bipush (pc := 97) dX12_init_97 ib_16 ?_
  refine a_newI (pc := 99) ka_int dX12_init_99 rfl (by decide) (by rw [hM.1]; exact Nat.le_of_ble_eq_true rfl) (by rw [hM.1]; exact Nat.le_of_ble_eq_true rfl) (fun q11 hq11 => ?_)
  have hn11 : b ≠ q11 := fun z => by rw [← z, ← mb11, show hP [15, 14, 13, 12, 11, 9, 8, 7, 5, 2, 1] m11 sZ h0 (m11 65) = _ from ov_get i11 (Or.inl rfl)] at hq11; exact absurd hq11 (by simp)
  refine a_putfieldF (pc := 101) kf_X12_48 rfl dX12_init_101 (fs := fP [15, 14, 13, 12, 11, 9, 8, 7, 5, 2, 1] m11 sZ) (by rw [kput_ne hn11, ← mb11]; exact ov_get i11 (Or.inl rfl)) rfl (by rfl) (Nat.le_of_ble_eq_true rfl) ?_
  obtain ⟨e12, i12, z11⟩ := hP_add (s := sZ) (h0 := h0) (cell := kI 16 (fun _ => 0)) i11 (k := 16) (by decide) (by decide) hq11 rfl rfl
  obtain ⟨m12, hm12⟩ : ∃ m12, m12 = updM m11 16 q11 := ⟨_, rfl⟩
  rw [← hm12] at e12 i12
  have mb12 : m12 65 = b := by rw [hm12]; exact mb11
  refine a_hp (show _ = hP [16, 15, 14, 13, 12, 11, 9, 8, 7, 5, 2, 1] m12 sZ h0 by rw [← e12, mb11]) ?_
  refine a_aload_n (pc := 104) dX12_init_104 rfl rfl ?_
  refine a_bipush (pc := 105) dX12_init_105 ib_16 ?_
  refine a_newI (pc := 107) ka_int dX12_init_107 rfl (by decide) (by rw [hM.1]; exact Nat.le_of_ble_eq_true rfl) (by rw [hM.1]; exact Nat.le_of_ble_eq_true rfl) (fun q12 hq12 => ?_)
  have hn12 : b ≠ q12 := fun z => by rw [← z, ← mb12, show hP [16, 15, 14, 13, 12, 11, 9, 8, 7, 5, 2, 1] m12 sZ h0 (m12 65) = _ from ov_get i12 (Or.inl rfl)] at hq12; exact absurd hq12 (by simp)
  refine a_putfieldF (pc := 109) kf_X12_51 rfl dX12_init_109 (fs := fP [16, 15, 14, 13, 12, 11, 9, 8, 7, 5, 2, 1] m12 sZ) (by rw [kput_ne hn12, ← mb12]; exact ov_get i12 (Or.inl rfl)) rfl (by rfl) (Nat.le_of_ble_eq_true rfl) ?_
  obtain ⟨e13, i13, z12⟩ := hP_add (s := sZ) (h0 := h0) (cell := kI 16 (fun _ => 0)) i12 (k := 17) (by decide) (by decide) hq12 rfl rfl
  obtain ⟨m13, hm13⟩ : ∃ m13, m13 = updM m12 17 q12 := ⟨_, rfl⟩
  rw [← hm13] at e13 i13
  have mb13 : m13 65 = b := by rw [hm13]; exact mb12
  refine a_hp (show _ = hP [17, 16, 15, 14, 13, 12, 11, 9, 8, 7, 5, 2, 1] m13 sZ h0 by rw [← e13, mb12]) ?_
  refine a_aload_n (pc := 112) dX12_init_112 rfl rfl ?_
  refine a_bipush (pc := 113) dX12_init_113 ib_25 ?_
  refine a_newI (pc := 115) ka_int dX12_init_115 rfl (by decide) (by rw [hM.1]; exact Nat.le_of_ble_eq_true rfl) (by rw [hM.1]; exact Nat.le_of_ble_eq_true rfl) (fun q13 hq13 => ?_)
  have hn13 : b ≠ q13 := fun z => by rw [← z, ← mb13, show hP [17, 16, 15, 14, 13, 12, 11, 9, 8, 7, 5, 2, 1] m13 sZ h0 (m13 65) = _ from ov_get i13 (Or.inl rfl)] at hq13; exact absurd hq13 (by simp)
  refine a_putfieldF (pc := 117) kf_X12_54 rfl dX12_init_117 (fs := fP [17, 16, 15, 14, 13, 12, 11, 9, 8, 7, 5, 2, 1] m13 sZ) (by rw [kput_ne hn13, ← mb13]; exact ov_get i13 (Or.inl rfl)) rfl (by rfl) (Nat.le_of_ble_eq_true rfl) ?_
  obtain ⟨e14, i14, z13⟩ := hP_add (s := sZ) (h0 := h0) (cell := kI 25 (fun _ => 0)) i13 (k := 19) (by decide) (by decide) hq13 rfl rfl
  obtain ⟨m14, hm14⟩ : ∃ m14, m14 = updM m13 19 q13 := ⟨_, rfl⟩
  rw [← hm14] at e14 i14
  have mb14 : m14 65 = b := by rw [hm14]; exact mb13
  refine a_hp (show _ = hP [19, 17, 16, 15, 14, 13, 12, 11, 9, 8, 7, 5, 2, 1] m14 sZ h0 by rw [← e14, mb13]) ?_
  refine a_aload_n (pc := 120) dX12_init_120 rfl rfl ?_
  refine a_iconst (pc := 121) dX12_init_121 ic_5 ?_
  refine a_newI (pc := 122) ka_int dX12_init_122 rfl (by decide) (by rw [hM.1]; exact Nat.le_of_ble_eq_true rfl) (by rw [hM.1]; exact Nat.le_of_ble_eq_true rfl) (fun q14 hq14 => ?_)
  have hn14 : b ≠ q14 := fun z => by rw [← z, ← mb14, show hP [19, 17, 16, 15, 14, 13, 12, 11, 9, 8, 7, 5, 2, 1] m14 sZ h0 (m14 65) = _ from ov_get i14 (Or.inl rfl)] at hq14; exact absurd hq14 (by simp)
  refine a_putfieldF (pc := 124) kf_X12_57 rfl dX12_init_124 (fs := fP [19, 17, 16, 15, 14, 13, 12, 11, 9, 8, 7, 5, 2, 1] m14 sZ) (by rw [kput_ne hn14, ← mb14]; exact ov_get i14 (Or.inl rfl)) rfl (by rfl) (Nat.le_of_ble_eq_true rfl) ?_
  obtain ⟨e15, i15, z14⟩ := hP_add (s := sZ) (h0 := h0) (cell := kI 5 (fun _ => 0)) i14 (k := 20) (by decide) (by decide) hq14 rfl rfl
  obtain ⟨m15, hm15⟩ : ∃ m15, m15 = updM m14 20 q14 := ⟨_, rfl⟩
  rw [← hm15] at e15 i15
  have mb15 : m15 65 = b := by rw [hm15]; exact mb14
  refine a_hp (show _ = hP [20, 19, 17, 16, 15, 14, 13, 12, 11, 9, 8, 7, 5, 2, 1] m15 sZ h0 by rw [← e15, mb14]) ?_
  refine a_aload_n (pc := 127) dX12_init_127 rfl rfl ?_
  refine a_bipush (pc := 128) dX12_init_128 ib_26 ?_
  refine a_newL (pc := 130) ka_long dX12_init_130 rfl (by decide) (by rw [hM.1]; exact Nat.le_of_ble_eq_true rfl) (by rw [hM.1]; exact Nat.le_of_ble_eq_true rfl) (fun q15 hq15 => ?_)
  have hn15 : b ≠ q15 := fun z => by rw [← z, ← mb15, show hP [20, 19, 17, 16, 15, 14, 13, 12, 11, 9, 8, 7, 5, 2, 1] m15 sZ h0 (m15 65) = _ from ov_get i15 (Or.inl rfl)] at hq15; exact absurd hq15 (by simp)
  refine a_putfieldF (pc := 132) kf_X12_60 rfl dX12_init_132 (fs := fP [20, 19, 17, 16, 15, 14, 13, 12, 11, 9, 8, 7, 5, 2, 1] m15 sZ) (by rw [kput_ne hn15, ← mb15]; exact ov_get i15 (Or.inl rfl)) rfl (by rfl) (Nat.le_of_ble_eq_true rfl) ?_
  obtain ⟨e16, i16, z15⟩ := hP_add (s := sZ) (h0 := h0) (cell := kL 26 (fun _ => 0)) i15 (k := 21) (by decide) (by decide) hq15 rfl rfl
  obtain ⟨m16, hm16⟩ : ∃ m16, m16 = updM m15 21 q15 := ⟨_, rfl⟩
  rw [← hm16] at e16 i16
  have mb16 : m16 65 = b := by rw [hm16]; exact mb15
  refine a_hp (show _ = hP [21, 20, 19, 17, 16, 15, 14, 13, 12, 11, 9, 8, 7, 5, 2, 1] m16 sZ h0 by rw [← e16, mb15]) ?_
  refine a_aload_n (pc := 135) dX12_init_135 rfl rfl ?_
  refine a_bipush (pc := 136) dX12_init_136 ib_26 ?_
  refine a_newL (pc := 138) ka_long dX12_init_138 rfl (by decide) (by rw [hM.1]; exact Nat.le_of_ble_eq_true rfl) (by rw [hM.1]; exact Nat.le_of_ble_eq_true rfl) (fun q16 hq16 => ?_)
  have hn16 : b ≠ q16 := fun z => by rw [← z, ← mb16, show hP [21, 20, 19, 17, 16, 15, 14, 13, 12, 11, 9, 8, 7, 5, 2, 1] m16 sZ h0 (m16 65) = _ from ov_get i16 (Or.inl rfl)] at hq16; exact absurd hq16 (by simp)
  refine a_putfieldF (pc := 140) kf_X12_63 rfl dX12_init_140 (fs := fP [21, 20, 19, 17, 16, 15, 14, 13, 12, 11, 9, 8, 7, 5, 2, 1] m16 sZ) (by rw [kput_ne hn16, ← mb16]; exact ov_get i16 (Or.inl rfl)) rfl (by rfl) (Nat.le_of_ble_eq_true rfl) ?_
  obtain ⟨e17, i17, z16⟩ := hP_add (s := sZ) (h0 := h0) (cell := kL 26 (fun _ => 0)) i16 (k := 22) (by decide) (by decide) hq16 rfl rfl
  obtain ⟨m17, hm17⟩ : ∃ m17, m17 = updM m16 22 q16 := ⟨_, rfl⟩
  rw [← hm17] at e17 i17
  have mb17 : m17 65 = b := by rw [hm17]; exact mb16
  refine a_hp (show _ = hP [22, 21, 20, 19, 17, 16, 15, 14, 13, 12, 11, 9, 8, 7, 5, 2, 1] m17 sZ h0 by rw [← e17, mb16]) ?_
  refine a_aload_n (pc := 143) dX12_init_143 rfl rfl ?_
  refine a_iconst (pc := 144) dX12_init_144 ic_5 ?_
  refine a_newI (pc := 145) ka_int dX12_init_145 rfl (by decide) (by rw [hM.1]; exact Nat.le_of_ble_eq_true rfl) (by rw [hM.1]; exact Nat.le_of_ble_eq_true rfl) (fun q17 hq17 => ?_)
  have hn17 : b ≠ q17 := fun z => by rw [← z, ← mb17, show hP [22, 21, 20, 19, 17, 16, 15, 14, 13, 12, 11, 9, 8, 7, 5, 2, 1] m17 sZ h0 (m17 65) = _ from ov_get i17 (Or.inl rfl)] at hq17; exact absurd hq17 (by simp)
  refine a_putfieldF (pc := 147) kf_X12_66 rfl dX12_init_147 (fs := fP [22, 21, 20, 19, 17, 16, 15, 14, 13, 12, 11, 9, 8, 7, 5, 2, 1] m17 sZ) (by rw [kput_ne hn17, ← mb17]; exact ov_get i17 (Or.inl rfl)) rfl (by rfl) (Nat.le_of_ble_eq_true rfl) ?_
  obtain ⟨e18, i18, z17⟩ := hP_add (s := sZ) (h0 := h0) (cell := kI 5 (fun _ => 0)) i17 (k := 23) (by decide) (by decide) hq17 rfl rfl
  obtain ⟨m18, hm18⟩ : ∃ m18, m18 = updM m17 23 q17 := ⟨_, rfl⟩
  rw [← hm18] at e18 i18
  have mb18 : m18 65 = b := by rw [hm18]; exact mb17
  refine a_hp (show _ = hP [23, 22, 21, 20, 19, 17, 16, 15, 14, 13, 12, 11, 9, 8, 7, 5, 2, 1] m18 sZ h0 by rw [← e18, mb17]) ?_
  refine a_aload_n (pc := 150) dX12_init_150 rfl rfl ?_
  refine a_bipush (pc := 151) dX12_init_151 ib_10 ?_
  refine a_newI (pc := 153) ka_int dX12_init_153 rfl (by decide) (by rw [hM.1]; exact Nat.le_of_ble_eq_true rfl) (by rw [hM.1]; exact Nat.le_of_ble_eq_true rfl) (fun q18 hq18 => ?_)
  have hn18 : b ≠ q18 := fun z => by rw [← z, ← mb18, show hP [23, 22, 21, 20, 19, 17, 16, 15, 14, 13, 12, 11, 9, 8, 7, 5, 2, 1] m18 sZ h0 (m18 65) = _ from ov_get i18 (Or.inl rfl)] at hq18; exact absurd hq18 (by simp)
  refine a_putfieldF (pc := 155) kf_X12_69 rfl dX12_init_155 (fs := fP [23, 22, 21, 20, 19, 17, 16, 15, 14, 13, 12, 11, 9, 8, 7, 5, 2, 1] m18 sZ) (by rw [kput_ne hn18, ← mb18]; exact ov_get i18 (Or.inl rfl)) rfl (by rfl) (Nat.le_of_ble_eq_true rfl) ?_
  obtain ⟨e19, i19, z18⟩ := hP_add (s := sZ) (h0 := h0) (cell := kI 10 (fun _ => 0)) i18 (k := 24) (by decide) (by decide) hq18 rfl rfl
  obtain ⟨m19, hm19⟩ : ∃ m19, m19 = updM m18 24 q18 := ⟨_, rfl⟩
  rw [← hm19] at e19 i19
  have mb19 : m19 65 = b := by rw [hm19]; exact mb18
  refine a_hp (show _ = hP [24, 23, 22, 21, 20, 19, 17, 16, 15, 14, 13, 12, 11, 9, 8, 7, 5, 2, 1] m19 sZ h0 by rw [← e19, mb18]) ?_
  refine a_aload_n (pc := 158) dX12_init_158 rfl rfl ?_
  refine a_bipush (pc := 159) dX12_init_159 ib_10 ?_
  refine a_newI (pc := 161) ka_int dX12_init_161 rfl (by decide) (by rw [hM.1]; exact Nat.le_of_ble_eq_true rfl) (by rw [hM.1]; exact Nat.le_of_ble_eq_true rfl) (fun q19 hq19 => ?_)
  have hn19 : b ≠ q19 := fun z => by rw [← z, ← mb19, show hP [24, 23, 22, 21, 20, 19, 17, 16, 15, 14, 13, 12, 11, 9, 8, 7, 5, 2, 1] m19 sZ h0 (m19 65) = _ from ov_get i19 (Or.inl rfl)] at hq19; exact absurd hq19 (by simp)
  refine a_putfieldF (pc := 163) kf_X12_72 rfl dX12_init_163 (fs := fP [24, 23, 22, 21, 20, 19, 17, 16, 15, 14, 13, 12, 11, 9, 8, 7, 5, 2, 1] m19 sZ) (by rw [kput_ne hn19, ← mb19]; exact ov_get i19 (Or.inl rfl)) rfl (by rfl) (Nat.le_of_ble_eq_true rfl) ?_
  obtain ⟨e20, i20, z19⟩ := hP_add (s := sZ) (h0 := h0) (cell := kI 10 (fun _ => 0)) i19 (k := 25) (by decide) (by decide) hq19 rfl rfl
  obtain ⟨m20, hm20⟩ : ∃ m20, m20 = updM m19 25 q19 := ⟨_, rfl⟩
  rw [← hm20] at e20 i20
  have mb20 : m20 65 = b := by rw [hm20]; exact mb19
  refine a_hp (show _ = hP [25, 24, 23, 22, 21, 20, 19, 17, 16, 15, 14, 13, 12, 11, 9, 8, 7, 5, 2, 1] m20 sZ h0 by rw [← e20, mb19]) ?_
  refine a_aload_n (pc := 166) dX12_init_166 rfl rfl ?_
  refine a_bipush (pc := 167) dX12_init_167 ib_10 ?_
  refine a_newI (pc := 169) ka_int dX12_init_169 rfl (by decide) (by rw [hM.1]; exact Nat.le_of_ble_eq_true rfl) (by rw [hM.1]; exact Nat.le_of_ble_eq_true rfl) (fun q20 hq20 => ?_)
  have hn20 : b ≠ q20 := fun z => by rw [← z, ← mb20, show hP [25, 24, 23, 22, 21, 20, 19, 17, 16, 15, 14, 13, 12, 11, 9, 8, 7, 5, 2, 1] m20 sZ h0 (m20 65) = _ from ov_get i20 (Or.inl rfl)] at hq20; exact absurd hq20 (by simp)
  refine a_putfieldF (pc := 171) kf_X12_75 rfl dX12_init_171 (fs := fP [25, 24, 23, 22, 21, 20, 19, 17, 16, 15, 14, 13, 12, 11, 9, 8, 7, 5, 2, 1] m20 sZ) (by rw [kput_ne hn20, ← mb20]; exact ov_get i20 (Or.inl rfl)) rfl (by rfl) (Nat.le_of_ble_eq_true rfl) ?_
  obtain ⟨e21, i21, z20⟩ := hP_add (s := sZ) (h0 := h0) (cell := kI 10 (fun _ => 0)) i20 (k := 26) (by decide) (by decide) hq20 rfl rfl
  obtain ⟨m21, hm21⟩ : ∃ m21, m21 = updM m20 26 q20 := ⟨_, rfl⟩
  rw [← hm21] at e21 i21
  have mb21 : m21 65 = b := by rw [hm21]; exact mb20
  refine a_hp (show _ = hP [26, 25, 24, 23, 22, 21, 20, 19, 17, 16, 15, 14, 13, 12, 11, 9, 8, 7, 5, 2, 1] m21 sZ h0 by rw [← e21, mb20]) ?_
  refine a_aload_n (pc := 174) dX12_init_174 rfl rfl ?_
  refine a_bipush (pc := 175) dX12_init_175 ib_10 ?_
  refine a_newI (pc := 177) ka_int dX12_init_177 rfl (by decide) (by rw [hM.1]; exact Nat.le_of_ble_eq_true rfl) (by rw [hM.1]; exact Nat.le_of_ble_eq_true rfl) (fun q21 hq21 => ?_)
  have hn21 : b ≠ q21 := fun z => by rw [← z, ← mb21, show hP [26, 25, 24, 23, 22, 21, 20, 19, 17, 16, 15, 14, 13, 12, 11, 9, 8, 7, 5, 2, 1] m21 sZ h0 (m21 65) = _ from ov_get i21 (Or.inl rfl)] at hq21; exact absurd hq21 (by simp)
  refine a_putfieldF (pc := 179) kf_X12_78 rfl dX12_init_179 (fs := fP [26, 25, 24, 23, 22, 21, 20, 19, 17, 16, 15, 14, 13, 12, 11, 9, 8, 7, 5, 2, 1] m21 sZ) (by rw [kput_ne hn21, ← mb21]; exact ov_get i21 (Or.inl rfl)) rfl (by rfl) (Nat.le_of_ble_eq_true rfl) ?_
  obtain ⟨e22, i22, z21⟩ := hP_add (s := sZ) (h0 := h0) (cell := kI 10 (fun _ => 0)) i21 (k := 27) (by decide) (by decide) hq21 rfl rfl
  obtain ⟨m22, hm22⟩ : ∃ m22, m22 = updM m21 27 q21 := ⟨_, rfl⟩
  rw [← hm22] at e22 i22
  have mb22 : m22 65 = b := by rw [hm22]; exact mb21
  refine a_hp (show _ = hP [27, 26, 25, 24, 23, 22, 21, 20, 19, 17, 16, 15, 14, 13, 12, 11, 9, 8, 7, 5, 2, 1] m22 sZ h0 by rw [← e22, mb21]) ?_
  refine a_aload_n (pc := 182) dX12_init_182 rfl rfl ?_
  refine a_bipush (pc := 183) dX12_init_183 ib_6 ?_
  refine a_newI (pc := 185) ka_int dX12_init_185 rfl (by decide) (by rw [hM.1]; exact Nat.le_of_ble_eq_true rfl) (by rw [hM.1]; exact Nat.le_of_ble_eq_true rfl) (fun q22 hq22 => ?_)
  have hn22 : b ≠ q22 := fun z => by rw [← z, ← mb22, show hP [27, 26, 25, 24, 23, 22, 21, 20, 19, 17, 16, 15, 14, 13, 12, 11, 9, 8, 7, 5, 2, 1] m22 sZ h0 (m22 65) = _ from ov_get i22 (Or.inl rfl)] at hq22; exact absurd hq22 (by simp)
  refine a_putfieldF (pc := 187) kf_X12_81 rfl dX12_init_187 (fs := fP [27, 26, 25, 24, 23, 22, 21, 20, 19, 17, 16, 15, 14, 13, 12, 11, 9, 8, 7, 5, 2, 1] m22 sZ) (by rw [kput_ne hn22, ← mb22]; exact ov_get i22 (Or.inl rfl)) rfl (by rfl) (Nat.le_of_ble_eq_true rfl) ?_
  obtain ⟨e23, i23, z22⟩ := hP_add (s := sZ) (h0 := h0) (cell := kI 6 (fun _ => 0)) i22 (k := 29) (by decide) (by decide) hq22 rfl rfl
  obtain ⟨m23, hm23⟩ : ∃ m23, m23 = updM m22 29 q22 := ⟨_, rfl⟩
  rw [← hm23] at e23 i23
  have mb23 : m23 65 = b := by rw [hm23]; exact mb22
  refine a_hp (show _ = hP [29, 27, 26, 25, 24, 23, 22, 21, 20, 19, 17, 16, 15, 14, 13, 12, 11, 9, 8, 7, 5, 2, 1] m23 sZ h0 by rw [← e23, mb22]) ?_
  refine a_aload_n (pc := 190) dX12_init_190 rfl rfl ?_
  refine a_bipush (pc := 191) dX12_init_191 ib_6 ?_
  refine a_newI (pc := 193) ka_int dX12_init_193 rfl (by decide) (by rw [hM.1]; exact Nat.le_of_ble_eq_true rfl) (by rw [hM.1]; exact Nat.le_of_ble_eq_true rfl) (fun q23 hq23 => ?_)
  have hn23 : b ≠ q23 := fun z => by rw [← z, ← mb23, show hP [29, 27, 26, 25, 24, 23, 22, 21, 20, 19, 17, 16, 15, 14, 13, 12, 11, 9, 8, 7, 5, 2, 1] m23 sZ h0 (m23 65) = _ from ov_get i23 (Or.inl rfl)] at hq23; exact absurd hq23 (by simp)
  refine a_putfieldF (pc := 195) kf_X12_84 rfl dX12_init_195 (fs := fP [29, 27, 26, 25, 24, 23, 22, 21, 20, 19, 17, 16, 15, 14, 13, 12, 11, 9, 8, 7, 5, 2, 1] m23 sZ) (by rw [kput_ne hn23, ← mb23]; exact ov_get i23 (Or.inl rfl)) rfl (by rfl) (Nat.le_of_ble_eq_true rfl) ?_
  obtain ⟨e24, i24, z23⟩ := hP_add (s := sZ) (h0 := h0) (cell := kI 6 (fun _ => 0)) i23 (k := 30) (by decide) (by decide) hq23 rfl rfl
  obtain ⟨m24, hm24⟩ : ∃ m24, m24 = updM m23 30 q23 := ⟨_, rfl⟩
  rw [← hm24] at e24 i24
  have mb24 : m24 65 = b := by rw [hm24]; exact mb23
  refine a_hp (show _ = hP [30, 29, 27, 26, 25, 24, 23, 22, 21, 20, 19, 17, 16, 15, 14, 13, 12, 11, 9, 8, 7, 5, 2, 1] m24 sZ h0 by rw [← e24, mb23]) ?_
  refine a_aload_n (pc := 198) dX12_init_198 rfl rfl ?_
  refine a_bipush (pc := 199) dX12_init_199 ib_25 ?_
  refine a_newI (pc := 201) ka_int dX12_init_201 rfl (by decide) (by rw [hM.1]; exact Nat.le_of_ble_eq_true rfl) (by rw [hM.1]; exact Nat.le_of_ble_eq_true rfl) (fun q24 hq24 => ?_)
  have hn24 : b ≠ q24 := fun z => by rw [← z, ← mb24, show hP [30, 29, 27, 26, 25, 24, 23, 22, 21, 20, 19, 17, 16, 15, 14, 13, 12, 11, 9, 8, 7, 5, 2, 1] m24 sZ h0 (m24 65) = _ from ov_get i24 (Or.inl rfl)] at hq24; exact absurd hq24 (by simp)
  refine a_putfieldF (pc := 203) kf_X12_87 rfl dX12_init_203 (fs := fP [30, 29, 27, 26, 25, 24, 23, 22, 21, 20, 19, 17, 16, 15, 14, 13, 12, 11, 9, 8, 7, 5, 2, 1] m24 sZ) (by rw [kput_ne hn24, ← mb24]; exact ov_get i24 (Or.inl rfl)) rfl (by rfl) (Nat.le_of_ble_eq_true rfl) ?_
  obtain ⟨e25, i25, z24⟩ := hP_add (s := sZ) (h0 := h0) (cell := kI 25 (fun _ => 0)) i24 (k := 51) (by decide) (by decide) hq24 rfl rfl
  obtain ⟨m25, hm25⟩ : ∃ m25, m25 = updM m24 51 q24 := ⟨_, rfl⟩
  rw [← hm25] at e25 i25
  have mb25 : m25 65 = b := by rw [hm25]; exact mb24
  refine a_hp (show _ = hP [51, 30, 29, 27, 26, 25, 24, 23, 22, 21, 20, 19, 17, 16, 15, 14, 13, 12, 11, 9, 8, 7, 5, 2, 1] m25 sZ h0 by rw [← e25, mb24]) ?_
  refine a_aload_n (pc := 206) dX12_init_206 rfl rfl ?_
  refine a_sipush (pc := 207) dX12_init_207 is_400 ?_
  refine a_newI (pc := 210) ka_int dX12_init_210 rfl (by decide) (by rw [hM.1]; exact Nat.le_of_ble_eq_true rfl) (by rw [hM.1]; exact Nat.le_of_ble_eq_true rfl) (fun q25 hq25 => ?_)
  have hn25 : b ≠ q25 := fun z => by rw [← z, ← mb25, show hP [51, 30, 29, 27, 26, 25, 24, 23, 22, 21, 20, 19, 17, 16, 15, 14, 13, 12, 11, 9, 8, 7, 5, 2, 1] m25 sZ h0 (m25 65) = _ from ov_get i25 (Or.inl rfl)] at hq25; exact absurd hq25 (by simp)
  refine a_putfieldF (pc := 212) kf_X12_90 rfl dX12_init_212 (fs := fP [51, 30, 29, 27, 26, 25, 24, 23, 22, 21, 20, 19, 17, 16, 15, 14, 13, 12, 11, 9, 8, 7, 5, 2, 1] m25 sZ) (by rw [kput_ne hn25, ← mb25]; exact ov_get i25 (Or.inl rfl)) rfl (by rfl) (Nat.le_of_ble_eq_true rfl) ?_
  obtain ⟨e26, i26, z25⟩ := hP_add (s := sZ) (h0 := h0) (cell := kI 400 (fun _ => 0)) i25 (k := 52) (by decide) (by decide) hq25 rfl rfl
  obtain ⟨m26, hm26⟩ : ∃ m26, m26 = updM m25 52 q25 := ⟨_, rfl⟩
  rw [← hm26] at e26 i26
  have mb26 : m26 65 = b := by rw [hm26]; exact mb25
  refine a_hp (show _ = hP [52, 51, 30, 29, 27, 26, 25, 24, 23, 22, 21, 20, 19, 17, 16, 15, 14, 13, 12, 11, 9, 8, 7, 5, 2, 1] m26 sZ h0 by rw [← e26, mb25]) ?_
  refine a_aload_n (pc := 215) dX12_init_215 rfl rfl ?_
  refine a_sipush (pc := 216) dX12_init_216 is_400 ?_
  refine a_newI (pc := 219) ka_int dX12_init_219 rfl (by decide) (by rw [hM.1]; exact Nat.le_of_ble_eq_true rfl) (by rw [hM.1]; exact Nat.le_of_ble_eq_true rfl) (fun q26 hq26 => ?_)
  have hn26 : b ≠ q26 := fun z => by rw [← z, ← mb26, show hP [52, 51, 30, 29, 27, 26, 25, 24, 23, 22, 21, 20, 19, 17, 16, 15, 14, 13, 12, 11, 9, 8, 7, 5, 2, 1] m26 sZ h0 (m26 65) = _ from ov_get i26 (Or.inl rfl)] at hq26; exact absurd hq26 (by simp)
  refine a_putfieldF (pc := 221) kf_X12_93 rfl dX12_init_221 (fs := fP [52, 51, 30, 29, 27, 26, 25, 24, 23, 22, 21, 20, 19, 17, 16, 15, 14, 13, 12, 11, 9, 8, 7, 5, 2, 1] m26 sZ) (by rw [kput_ne hn26, ← mb26]; exact ov_get i26 (Or.inl rfl)) rfl (by rfl) (Nat.le_of_ble_eq_true rfl) ?_
  obtain ⟨e27, i27, z26⟩ := hP_add (s := sZ) (h0 := h0) (cell := kI 400 (fun _ => 0)) i26 (k := 53) (by decide) (by decide) hq26 rfl rfl
  obtain ⟨m27, hm27⟩ : ∃ m27, m27 = updM m26 53 q26 := ⟨_, rfl⟩
  rw [← hm27] at e27 i27
  have mb27 : m27 65 = b := by rw [hm27]; exact mb26
  refine a_hp (show _ = hP [53, 52, 51, 30, 29, 27, 26, 25, 24, 23, 22, 21, 20, 19, 17, 16, 15, 14, 13, 12, 11, 9, 8, 7, 5, 2, 1] m27 sZ h0 by rw [← e27, mb26]) ?_
  refine a_aload_n (pc := 224) dX12_init_224 rfl rfl ?_
  refine a_bipush (pc := 225) dX12_init_225 ib_16 ?_
  refine a_newI (pc := 227) ka_int dX12_init_227 rfl (by decide) (by rw [hM.1]; exact Nat.le_of_ble_eq_true rfl) (by rw [hM.1]; exact Nat.le_of_ble_eq_true rfl) (fun q27 hq27 => ?_)
  have hn27 : b ≠ q27 := fun z => by rw [← z, ← mb27, show hP [53, 52, 51, 30, 29, 27, 26, 25, 24, 23, 22, 21, 20, 19, 17, 16, 15, 14, 13, 12, 11, 9, 8, 7, 5, 2, 1] m27 sZ h0 (m27 65) = _ from ov_get i27 (Or.inl rfl)] at hq27; exact absurd hq27 (by simp)
  refine a_putfieldF (pc := 229) kf_X12_96 rfl dX12_init_229 (fs := fP [53, 52, 51, 30, 29, 27, 26, 25, 24, 23, 22, 21, 20, 19, 17, 16, 15, 14, 13, 12, 11, 9, 8, 7, 5, 2, 1] m27 sZ) (by rw [kput_ne hn27, ← mb27]; exact ov_get i27 (Or.inl rfl)) rfl (by rfl) (Nat.le_of_ble_eq_true rfl) ?_
  obtain ⟨e28, i28, z27⟩ := hP_add (s := sZ) (h0 := h0) (cell := kI 16 (fun _ => 0)) i27 (k := 54) (by decide) (by decide) hq27 rfl rfl
  obtain ⟨m28, hm28⟩ : ∃ m28, m28 = updM m27 54 q27 := ⟨_, rfl⟩
  rw [← hm28] at e28 i28
  have mb28 : m28 65 = b := by rw [hm28]; exact mb27
  refine a_hp (show _ = hP [54, 53, 52, 51, 30, 29, 27, 26, 25, 24, 23, 22, 21, 20, 19, 17, 16, 15, 14, 13, 12, 11, 9, 8, 7, 5, 2, 1] m28 sZ h0 by rw [← e28, mb27]) ?_
  refine a_aload_n (pc := 232) dX12_init_232 rfl rfl ?_
  refine a_bipush (pc := 233) dX12_init_233 ib_16 ?_
  refine a_newI (pc := 235) ka_int dX12_init_235 rfl (by decide) (by rw [hM.1]; exact Nat.le_of_ble_eq_true rfl) (by rw [hM.1]; exact Nat.le_of_ble_eq_true rfl) (fun q28 hq28 => ?_)
  have hn28 : b ≠ q28 := fun z => by rw [← z, ← mb28, show hP [54, 53, 52, 51, 30, 29, 27, 26, 25, 24, 23, 22, 21, 20, 19, 17, 16, 15, 14, 13, 12, 11, 9, 8, 7, 5, 2, 1] m28 sZ h0 (m28 65) = _ from ov_get i28 (Or.inl rfl)] at hq28; exact absurd hq28 (by simp)
  refine a_putfieldF (pc := 237) kf_X12_99 rfl dX12_init_237 (fs := fP [54, 53, 52, 51, 30, 29, 27, 26, 25, 24, 23, 22, 21, 20, 19, 17, 16, 15, 14, 13, 12, 11, 9, 8, 7, 5, 2, 1] m28 sZ) (by rw [kput_ne hn28, ← mb28]; exact ov_get i28 (Or.inl rfl)) rfl (by rfl) (Nat.le_of_ble_eq_true rfl) ?_
  obtain ⟨e29, i29, z28⟩ := hP_add (s := sZ) (h0 := h0) (cell := kI 16 (fun _ => 0)) i28 (k := 55) (by decide) (by decide) hq28 rfl rfl
  obtain ⟨m29, hm29⟩ : ∃ m29, m29 = updM m28 55 q28 := ⟨_, rfl⟩
  rw [← hm29] at e29 i29
  have mb29 : m29 65 = b := by rw [hm29]; exact mb28
  refine a_hp (show _ = hP [55, 54, 53, 52, 51, 30, 29, 27, 26, 25, 24, 23, 22, 21, 20, 19, 17, 16, 15, 14, 13, 12, 11, 9, 8, 7, 5, 2, 1] m29 sZ h0 by rw [← e29, mb28]) ?_
  refine a_aload_n (pc := 240) dX12_init_240 rfl rfl ?_
  refine a_bipush (pc := 241) dX12_init_241 ib_10 ?_
  refine a_newI (pc := 243) ka_int dX12_init_243 rfl (by decide) (by rw [hM.1]; exact Nat.le_of_ble_eq_true rfl) (by rw [hM.1]; exact Nat.le_of_ble_eq_true rfl) (fun q29 hq29 => ?_)
  have hn29 : b ≠ q29 := fun z => by rw [← z, ← mb29, show hP [55, 54, 53, 52, 51, 30, 29, 27, 26, 25, 24, 23, 22, 21, 20, 19, 17, 16, 15, 14, 13, 12, 11, 9, 8, 7, 5, 2, 1] m29 sZ h0 (m29 65) = _ from ov_get i29 (Or.inl rfl)] at hq29; exact absurd hq29 (by simp)
  refine a_putfieldF (pc := 245) kf_X12_102 rfl dX12_init_245 (fs := fP [55, 54, 53, 52, 51, 30, 29, 27, 26, 25, 24, 23, 22, 21, 20, 19, 17, 16, 15, 14, 13, 12, 11, 9, 8, 7, 5, 2, 1] m29 sZ) (by rw [kput_ne hn29, ← mb29]; exact ov_get i29 (Or.inl rfl)) rfl (by rfl) (Nat.le_of_ble_eq_true rfl) ?_
  obtain ⟨e30, i30, z29⟩ := hP_add (s := sZ) (h0 := h0) (cell := kI 10 (fun _ => 0)) i29 (k := 56) (by decide) (by decide) hq29 rfl rfl
  obtain ⟨m30, hm30⟩ : ∃ m30, m30 = updM m29 56 q29 := ⟨_, rfl⟩
  rw [← hm30] at e30 i30
  have mb30 : m30 65 = b := by rw [hm30]; exact mb29
  refine a_hp (show _ = hP [56, 55, 54, 53, 52, 51, 30, 29, 27, 26, 25, 24, 23, 22, 21, 20, 19, 17, 16, 15, 14, 13, 12, 11, 9, 8, 7, 5, 2, 1] m30 sZ h0 by rw [← e30, mb29]) ?_
  refine a_aload_n (pc := 248) dX12_init_248 rfl rfl ?_
  refine a_iconst (pc := 249) dX12_init_249 ic_4 ?_
  refine a_newZ (pc := 250) ka_boolean dX12_init_250 rfl (by decide) (by rw [hM.1]; exact Nat.le_of_ble_eq_true rfl) (by rw [hM.1]; exact Nat.le_of_ble_eq_true rfl) (fun q30 hq30 => ?_)
  have hn30 : b ≠ q30 := fun z => by rw [← z, ← mb30, show hP [56, 55, 54, 53, 52, 51, 30, 29, 27, 26, 25, 24, 23, 22, 21, 20, 19, 17, 16, 15, 14, 13, 12, 11, 9, 8, 7, 5, 2, 1] m30 sZ h0 (m30 65) = _ from ov_get i30 (Or.inl rfl)] at hq30; exact absurd hq30 (by simp)
  refine a_putfieldF (pc := 252) kf_X12_105 rfl dX12_init_252 (fs := fP [56, 55, 54, 53, 52, 51, 30, 29, 27, 26, 25, 24, 23, 22, 21, 20, 19, 17, 16, 15, 14, 13, 12, 11, 9, 8, 7, 5, 2, 1] m30 sZ) (by rw [kput_ne hn30, ← mb30]; exact ov_get i30 (Or.inl rfl)) rfl (by rfl) (Nat.le_of_ble_eq_true rfl) ?_
  obtain ⟨e31, i31, z30⟩ := hP_add (s := sZ) (h0 := h0) (cell := kB 4 (fun _ => 0)) i30 (k := 61) (by decide) (by decide) hq30 rfl rfl
  obtain ⟨m31, hm31⟩ : ∃ m31, m31 = updM m30 61 q30 := ⟨_, rfl⟩
  rw [← hm31] at e31 i31
  have mb31 : m31 65 = b := by rw [hm31]; exact mb30
  refine a_hp (show _ = hP [61, 56, 55, 54, 53, 52, 51, 30, 29, 27, 26, 25, 24, 23, 22, 21, 20, 19, 17, 16, 15, 14, 13, 12, 11, 9, 8, 7, 5, 2, 1] m31 sZ h0 by rw [← e31, mb30]) ?_
  refine a_aload_n (pc := 255) dX12_init_255 rfl rfl ?_
  refine a_iconst (pc := 256) dX12_init_256 ic_4 ?_
  refine a_newI (pc := 257) ka_int dX12_init_257 rfl (by decide) (by rw [hM.1]; exact Nat.le_of_ble_eq_true rfl) (by rw [hM.1]; exact Nat.le_of_ble_eq_true rfl) (fun q31 hq31 => ?_)
  have hn31 : b ≠ q31 := fun z => by rw [← z, ← mb31, show hP [61, 56, 55, 54, 53, 52, 51, 30, 29, 27, 26, 25, 24, 23, 22, 21, 20, 19, 17, 16, 15, 14, 13, 12, 11, 9, 8, 7, 5, 2, 1] m31 sZ h0 (m31 65) = _ from ov_get i31 (Or.inl rfl)] at hq31; exact absurd hq31 (by simp)
  refine a_putfieldF (pc := 259) kf_X12_109 rfl dX12_init_259 (fs := fP [61, 56, 55, 54, 53, 52, 51, 30, 29, 27, 26, 25, 24, 23, 22, 21, 20, 19, 17, 16, 15, 14, 13, 12, 11, 9, 8, 7, 5, 2, 1] m31 sZ) (by rw [kput_ne hn31, ← mb31]; exact ov_get i31 (Or.inl rfl)) rfl (by rfl) (Nat.le_of_ble_eq_true rfl) ?_
  obtain ⟨e32, i32, z31⟩ := hP_add (s := sZ) (h0 := h0) (cell := kI 4 (fun _ => 0)) i31 (k := 62) (by decide) (by decide) hq31 rfl rfl
  obtain ⟨m32, hm32⟩ : ∃ m32, m32 = updM m31 62 q31 := ⟨_, rfl⟩
  rw [← hm32] at e32 i32
  have mb32 : m32 65 = b := by rw [hm32]; exact mb31
  refine a_hp (show _ = hP [62, 61, 56, 55, 54, 53, 52, 51, 30, 29, 27, 26, 25, 24, 23, 22, 21, 20, 19, 17, 16, 15, 14, 13, 12, 11, 9, 8, 7, 5, 2, 1] m32 sZ h0 by rw [← e32, mb31]) ?_
  refine a_aload_n (pc := 262) dX12_init_262 rfl rfl ?_
  refine a_iconst (pc := 263) dX12_init_263 ic_4 ?_
  refine a_newI (pc := 264) ka_int dX12_init_264 rfl (by decide) (by rw [hM.1]; exact Nat.le_of_ble_eq_true rfl) (by rw [hM.1]; exact Nat.le_of_ble_eq_true rfl) (fun q32 hq32 => ?_)
  have hn32 : b ≠ q32 := fun z => by rw [← z, ← mb32, show hP [62, 61, 56, 55, 54, 53, 52, 51, 30, 29, 27, 26, 25, 24, 23, 22, 21, 20, 19, 17, 16, 15, 14, 13, 12, 11, 9, 8, 7, 5, 2, 1] m32 sZ h0 (m32 65) = _ from ov_get i32 (Or.inl rfl)] at hq32; exact absurd hq32 (by simp)
  refine a_putfieldF (pc := 266) kf_X12_112 rfl dX12_init_266 (fs := fP [62, 61, 56, 55, 54, 53, 52, 51, 30, 29, 27, 26, 25, 24, 23, 22, 21, 20, 19, 17, 16, 15, 14, 13, 12, 11, 9, 8, 7, 5, 2, 1] m32 sZ) (by rw [kput_ne hn32, ← mb32]; exact ov_get i32 (Or.inl rfl)) rfl (by rfl) (Nat.le_of_ble_eq_true rfl) ?_
  obtain ⟨e33, i33, z32⟩ := hP_add (s := sZ) (h0 := h0) (cell := kI 4 (fun _ => 0)) i32 (k := 63) (by decide) (by decide) hq32 rfl rfl
  obtain ⟨m33, hm33⟩ : ∃ m33, m33 = updM m32 63 q32 := ⟨_, rfl⟩
  rw [← hm33] at e33 i33
  have mb33 : m33 65 = b := by rw [hm33]; exact mb32
  refine a_hp (show _ = hP [63, 62, 61, 56, 55, 54, 53, 52, 51, 30, 29, 27, 26, 25, 24, 23, 22, 21, 20, 19, 17, 16, 15, 14, 13, 12, 11, 9, 8, 7, 5, 2, 1] m33 sZ h0 by rw [← e33, mb32]) ?_
  refine a_aload_n (pc := 269) dX12_init_269 rfl rfl ?_
  refine a_sipush (pc := 270) dX12_init_270 is_160 ?_
  refine a_newI (pc := 273) ka_int dX12_init_273 rfl (by decide) (by rw [hM.1]; exact Nat.le_of_ble_eq_true rfl) (by rw [hM.1]; exact Nat.le_of_ble_eq_true rfl) (fun q33 hq33 => ?_)
  have hn33 : b ≠ q33 := fun z => by rw [← z, ← mb33, show hP [63, 62, 61, 56, 55, 54, 53, 52, 51, 30, 29, 27, 26, 25, 24, 23, 22, 21, 20, 19, 17, 16, 15, 14, 13, 12, 11, 9, 8, 7, 5, 2, 1] m33 sZ h0 (m33 65) = _ from ov_get i33 (Or.inl rfl)] at hq33; exact absurd hq33 (by simp)
  refine a_putfieldF (pc := 275) kf_X12_115 rfl dX12_init_275 (fs := fP [63, 62, 61, 56, 55, 54, 53, 52, 51, 30, 29, 27, 26, 25, 24, 23, 22, 21, 20, 19, 17, 16, 15, 14, 13, 12, 11, 9, 8, 7, 5, 2, 1] m33 sZ) (by rw [kput_ne hn33, ← mb33]; exact ov_get i33 (Or.inl rfl)) rfl (by rfl) (Nat.le_of_ble_eq_true rfl) ?_
  obtain ⟨e34, i34, z33⟩ := hP_add (s := sZ) (h0 := h0) (cell := kI 160 (fun _ => 0)) i33 (k := 64) (by decide) (by decide) hq33 rfl rfl
  obtain ⟨m34, hm34⟩ : ∃ m34, m34 = updM m33 64 q33 := ⟨_, rfl⟩
  rw [← hm34] at e34 i34
  have mb34 : m34 65 = b := by rw [hm34]; exact mb33
  refine a_hp (show _ = hP [64, 63, 62, 61, 56, 55, 54, 53, 52, 51, 30, 29, 27, 26, 25, 24, 23, 22, 21, 20, 19, 17, 16, 15, 14, 13, 12, 11, 9, 8, 7, 5, 2, 1] m34 sZ h0 by rw [← e34, mb33]) ?_
  obtain ⟨eA, hm⟩ := hP_all (s := sZ) (h0 := h0) i34 (by decide) (by intro r hr; exact hr.elim (fun z => by rw [z]; decide) ((by decide : ∀ r, r ∈ [64, 63, 62, 61, 56, 55, 54, 53, 52, 51, 30, 29, 27, 26, 25, 24, 23, 22, 21, 20, 19, 17, 16, 15, 14, 13, 12, 11, 9, 8, 7, 5, 2, 1] → mliv r) r)) rfl
  refine a_hp eA ?_
  obtain ⟨m, hmm⟩ : ∃ m, m = m34 := ⟨_, rfl⟩
  rw [← hmm] at hm ⊢
  have mb : m 65 = b := by rw [hmm]; exact mb34
  clear e1 i1 e2 i2 e3 i3 e4 i4 e5 i5 e6 i6 e7 i7 e8 i8 e9 i9 e10 i10 e11 i11 e12 i12 e13 i13 e14 i14 e15 i15 e16 i16 e17 i17 e18 i18 e19 i19 e20 i20 e21 i21 e22 i22 e23 i23 e24 i24 e25 i25 e26 i26 e27 i27 e28 i28 e29 i29 e30 i30 e31 i31 e32 i32 e33 i33 e34 i34 eA
  have hfr : ∀ r, mliv r → r ≠ 65 → h0 (m r) = none := by
    intro r hr h5
    have hr2 : r ∈ [1, 2, 5, 7, 8, 9, 11, 12, 13, 14, 15, 16, 17, 19, 20, 21, 22, 23, 24, 25, 26, 27, 29, 30, 51, 52, 53, 54, 55, 56, 61, 62, 63, 64] := by
        have e : ∀ r, mliv r → r ≠ 65 → r ∈ [1, 2, 5, 7, 8, 9, 11, 12, 13, 14, 15, 16, 17, 19, 20, 21, 22, 23, 24, 25, 26, 27, 29, 30, 51, 52, 53, 54, 55, 56, 61, 62, 63, 64] := by decide
        exact e r hr h5
    have w0 : ∀ r, r ∈ ([] : List Nat) → h0 (m0 r) = none := fun r hr => absurd hr (List.not_mem_nil)
    have w1 : ∀ r, r ∈ [1] → h0 (m1 r) = none := by rw [hm1]; exact fre_s (L := []) w0 z0 rfl
    have w2 : ∀ r, r ∈ [1, 2] → h0 (m2 r) = none := by rw [hm2]; exact fre_s (L := [1]) w1 z1 rfl
    have w3 : ∀ r, r ∈ [1, 2, 5] → h0 (m3 r) = none := by rw [hm3]; exact fre_s (L := [1, 2]) w2 z2 rfl
    have w4 : ∀ r, r ∈ [1, 2, 5, 7] → h0 (m4 r) = none := by rw [hm4]; exact fre_s (L := [1, 2, 5]) w3 z3 rfl
    have w5 : ∀ r, r ∈ [1, 2, 5, 7, 8] → h0 (m5 r) = none := by rw [hm5]; exact fre_s (L := [1, 2, 5, 7]) w4 z4 rfl
    have w6 : ∀ r, r ∈ [1, 2, 5, 7, 8, 9] → h0 (m6 r) = none := by rw [hm6]; exact fre_s (L := [1, 2, 5, 7, 8]) w5 z5 rfl
    have w7 : ∀ r, r ∈ [1, 2, 5, 7, 8, 9, 11] → h0 (m7 r) = none := by rw [hm7]; exact fre_s (L := [1, 2, 5, 7, 8, 9]) w6 z6 rfl
    have w8 : ∀ r, r ∈ [1, 2, 5, 7, 8, 9, 11, 12] → h0 (m8 r) = none := by rw [hm8]; exact fre_s (L := [1, 2, 5, 7, 8, 9, 11]) w7 z7 rfl
    have w9 : ∀ r, r ∈ [1, 2, 5, 7, 8, 9, 11, 12, 13] → h0 (m9 r) = none := by rw [hm9]; exact fre_s (L := [1, 2, 5, 7, 8, 9, 11, 12]) w8 z8 rfl
    have w10 : ∀ r, r ∈ [1, 2, 5, 7, 8, 9, 11, 12, 13, 14] → h0 (m10 r) = none := by rw [hm10]; exact fre_s (L := [1, 2, 5, 7, 8, 9, 11, 12, 13]) w9 z9 rfl
    have w11 : ∀ r, r ∈ [1, 2, 5, 7, 8, 9, 11, 12, 13, 14, 15] → h0 (m11 r) = none := by rw [hm11]; exact fre_s (L := [1, 2, 5, 7, 8, 9, 11, 12, 13, 14]) w10 z10 rfl
    have w12 : ∀ r, r ∈ [1, 2, 5, 7, 8, 9, 11, 12, 13, 14, 15, 16] → h0 (m12 r) = none := by rw [hm12]; exact fre_s (L := [1, 2, 5, 7, 8, 9, 11, 12, 13, 14, 15]) w11 z11 rfl
    have w13 : ∀ r, r ∈ [1, 2, 5, 7, 8, 9, 11, 12, 13, 14, 15, 16, 17] → h0 (m13 r) = none := by rw [hm13]; exact fre_s (L := [1, 2, 5, 7, 8, 9, 11, 12, 13, 14, 15, 16]) w12 z12 rfl
    have w14 : ∀ r, r ∈ [1, 2, 5, 7, 8, 9, 11, 12, 13, 14, 15, 16, 17, 19] → h0 (m14 r) = none := by rw [hm14]; exact fre_s (L := [1, 2, 5, 7, 8, 9, 11, 12, 13, 14, 15, 16, 17]) w13 z13 rfl
    have w15 : ∀ r, r ∈ [1, 2, 5, 7, 8, 9, 11, 12, 13, 14, 15, 16, 17, 19, 20] → h0 (m15 r) = none := by rw [hm15]; exact fre_s (L := [1, 2, 5, 7, 8, 9, 11, 12, 13, 14, 15, 16, 17, 19]) w14 z14 rfl
    have w16 : ∀ r, r ∈ [1, 2, 5, 7, 8, 9, 11, 12, 13, 14, 15, 16, 17, 19, 20, 21] → h0 (m16 r) = none := by rw [hm16]; exact fre_s (L := [1, 2, 5, 7, 8, 9, 11, 12, 13, 14, 15, 16, 17, 19, 20]) w15 z15 rfl
    have w17 : ∀ r, r ∈ [1, 2, 5, 7, 8, 9, 11, 12, 13, 14, 15, 16, 17, 19, 20, 21, 22] → h0 (m17 r) = none := by rw [hm17]; exact fre_s (L := [1, 2, 5, 7, 8, 9, 11, 12, 13, 14, 15, 16, 17, 19, 20, 21]) w16 z16 rfl
    have w18 : ∀ r, r ∈ [1, 2, 5, 7, 8, 9, 11, 12, 13, 14, 15, 16, 17, 19, 20, 21, 22, 23] → h0 (m18 r) = none := by rw [hm18]; exact fre_s (L := [1, 2, 5, 7, 8, 9, 11, 12, 13, 14, 15, 16, 17, 19, 20, 21, 22]) w17 z17 rfl
    have w19 : ∀ r, r ∈ [1, 2, 5, 7, 8, 9, 11, 12, 13, 14, 15, 16, 17, 19, 20, 21, 22, 23, 24] → h0 (m19 r) = none := by rw [hm19]; exact fre_s (L := [1, 2, 5, 7, 8, 9, 11, 12, 13, 14, 15, 16, 17, 19, 20, 21, 22, 23]) w18 z18 rfl
    have w20 : ∀ r, r ∈ [1, 2, 5, 7, 8, 9, 11, 12, 13, 14, 15, 16, 17, 19, 20, 21, 22, 23, 24, 25] → h0 (m20 r) = none := by rw [hm20]; exact fre_s (L := [1, 2, 5, 7, 8, 9, 11, 12, 13, 14, 15, 16, 17, 19, 20, 21, 22, 23, 24]) w19 z19 rfl
    have w21 : ∀ r, r ∈ [1, 2, 5, 7, 8, 9, 11, 12, 13, 14, 15, 16, 17, 19, 20, 21, 22, 23, 24, 25, 26] → h0 (m21 r) = none := by rw [hm21]; exact fre_s (L := [1, 2, 5, 7, 8, 9, 11, 12, 13, 14, 15, 16, 17, 19, 20, 21, 22, 23, 24, 25]) w20 z20 rfl
    have w22 : ∀ r, r ∈ [1, 2, 5, 7, 8, 9, 11, 12, 13, 14, 15, 16, 17, 19, 20, 21, 22, 23, 24, 25, 26, 27] → h0 (m22 r) = none := by rw [hm22]; exact fre_s (L := [1, 2, 5, 7, 8, 9, 11, 12, 13, 14, 15, 16, 17, 19, 20, 21, 22, 23, 24, 25, 26]) w21 z21 rfl
    have w23 : ∀ r, r ∈ [1, 2, 5, 7, 8, 9, 11, 12, 13, 14, 15, 16, 17, 19, 20, 21, 22, 23, 24, 25, 26, 27, 29] → h0 (m23 r) = none := by rw [hm23]; exact fre_s (L := [1, 2, 5, 7, 8, 9, 11, 12, 13, 14, 15, 16, 17, 19, 20, 21, 22, 23, 24, 25, 26, 27]) w22 z22 rfl
    have w24 : ∀ r, r ∈ [1, 2, 5, 7, 8, 9, 11, 12, 13, 14, 15, 16, 17, 19, 20, 21, 22, 23, 24, 25, 26, 27, 29, 30] → h0 (m24 r) = none := by rw [hm24]; exact fre_s (L := [1, 2, 5, 7, 8, 9, 11, 12, 13, 14, 15, 16, 17, 19, 20, 21, 22, 23, 24, 25, 26, 27, 29]) w23 z23 rfl
    have w25 : ∀ r, r ∈ [1, 2, 5, 7, 8, 9, 11, 12, 13, 14, 15, 16, 17, 19, 20, 21, 22, 23, 24, 25, 26, 27, 29, 30, 51] → h0 (m25 r) = none := by rw [hm25]; exact fre_s (L := [1, 2, 5, 7, 8, 9, 11, 12, 13, 14, 15, 16, 17, 19, 20, 21, 22, 23, 24, 25, 26, 27, 29, 30]) w24 z24 rfl
    have w26 : ∀ r, r ∈ [1, 2, 5, 7, 8, 9, 11, 12, 13, 14, 15, 16, 17, 19, 20, 21, 22, 23, 24, 25, 26, 27, 29, 30, 51, 52] → h0 (m26 r) = none := by rw [hm26]; exact fre_s (L := [1, 2, 5, 7, 8, 9, 11, 12, 13, 14, 15, 16, 17, 19, 20, 21, 22, 23, 24, 25, 26, 27, 29, 30, 51]) w25 z25 rfl
    have w27 : ∀ r, r ∈ [1, 2, 5, 7, 8, 9, 11, 12, 13, 14, 15, 16, 17, 19, 20, 21, 22, 23, 24, 25, 26, 27, 29, 30, 51, 52, 53] → h0 (m27 r) = none := by rw [hm27]; exact fre_s (L := [1, 2, 5, 7, 8, 9, 11, 12, 13, 14, 15, 16, 17, 19, 20, 21, 22, 23, 24, 25, 26, 27, 29, 30, 51, 52]) w26 z26 rfl
    have w28 : ∀ r, r ∈ [1, 2, 5, 7, 8, 9, 11, 12, 13, 14, 15, 16, 17, 19, 20, 21, 22, 23, 24, 25, 26, 27, 29, 30, 51, 52, 53, 54] → h0 (m28 r) = none := by rw [hm28]; exact fre_s (L := [1, 2, 5, 7, 8, 9, 11, 12, 13, 14, 15, 16, 17, 19, 20, 21, 22, 23, 24, 25, 26, 27, 29, 30, 51, 52, 53]) w27 z27 rfl
    have w29 : ∀ r, r ∈ [1, 2, 5, 7, 8, 9, 11, 12, 13, 14, 15, 16, 17, 19, 20, 21, 22, 23, 24, 25, 26, 27, 29, 30, 51, 52, 53, 54, 55] → h0 (m29 r) = none := by rw [hm29]; exact fre_s (L := [1, 2, 5, 7, 8, 9, 11, 12, 13, 14, 15, 16, 17, 19, 20, 21, 22, 23, 24, 25, 26, 27, 29, 30, 51, 52, 53, 54]) w28 z28 rfl
    have w30 : ∀ r, r ∈ [1, 2, 5, 7, 8, 9, 11, 12, 13, 14, 15, 16, 17, 19, 20, 21, 22, 23, 24, 25, 26, 27, 29, 30, 51, 52, 53, 54, 55, 56] → h0 (m30 r) = none := by rw [hm30]; exact fre_s (L := [1, 2, 5, 7, 8, 9, 11, 12, 13, 14, 15, 16, 17, 19, 20, 21, 22, 23, 24, 25, 26, 27, 29, 30, 51, 52, 53, 54, 55]) w29 z29 rfl
    have w31 : ∀ r, r ∈ [1, 2, 5, 7, 8, 9, 11, 12, 13, 14, 15, 16, 17, 19, 20, 21, 22, 23, 24, 25, 26, 27, 29, 30, 51, 52, 53, 54, 55, 56, 61] → h0 (m31 r) = none := by rw [hm31]; exact fre_s (L := [1, 2, 5, 7, 8, 9, 11, 12, 13, 14, 15, 16, 17, 19, 20, 21, 22, 23, 24, 25, 26, 27, 29, 30, 51, 52, 53, 54, 55, 56]) w30 z30 rfl
    have w32 : ∀ r, r ∈ [1, 2, 5, 7, 8, 9, 11, 12, 13, 14, 15, 16, 17, 19, 20, 21, 22, 23, 24, 25, 26, 27, 29, 30, 51, 52, 53, 54, 55, 56, 61, 62] → h0 (m32 r) = none := by rw [hm32]; exact fre_s (L := [1, 2, 5, 7, 8, 9, 11, 12, 13, 14, 15, 16, 17, 19, 20, 21, 22, 23, 24, 25, 26, 27, 29, 30, 51, 52, 53, 54, 55, 56, 61]) w31 z31 rfl
    have w33 : ∀ r, r ∈ [1, 2, 5, 7, 8, 9, 11, 12, 13, 14, 15, 16, 17, 19, 20, 21, 22, 23, 24, 25, 26, 27, 29, 30, 51, 52, 53, 54, 55, 56, 61, 62, 63] → h0 (m33 r) = none := by rw [hm33]; exact fre_s (L := [1, 2, 5, 7, 8, 9, 11, 12, 13, 14, 15, 16, 17, 19, 20, 21, 22, 23, 24, 25, 26, 27, 29, 30, 51, 52, 53, 54, 55, 56, 61, 62]) w32 z32 rfl
    have w34 : ∀ r, r ∈ [1, 2, 5, 7, 8, 9, 11, 12, 13, 14, 15, 16, 17, 19, 20, 21, 22, 23, 24, 25, 26, 27, 29, 30, 51, 52, 53, 54, 55, 56, 61, 62, 63, 64] → h0 (m34 r) = none := by rw [hm34]; exact fre_s (L := [1, 2, 5, 7, 8, 9, 11, 12, 13, 14, 15, 16, 17, 19, 20, 21, 22, 23, 24, 25, 26, 27, 29, 30, 51, 52, 53, 54, 55, 56, 61, 62, 63]) w33 z33 rfl
    rw [hmm]; exact w34 r hr2
  rw [← mb]
  clear z0 hq0 hn0 z1 hq1 hn1 z2 hq2 hn2 z3 hq3 hn3 z4 hq4 hn4 z5 hq5 hn5 z6 hq6 hn6 z7 hq7 hn7 z8 hq8 hn8 z9 hq9 hn9 z10 hq10 hn10 z11 hq11 hn11 z12 hq12 hn12 z13 hq13 hn13 z14 hq14 hn14 z15 hq15 hn15 z16 hq16 hn16 z17 hq17 hn17 z18 hq18 hn18 z19 hq19 hn19 z20 hq20 hn20 z21 hq21 hn21 z22 hq22 hn22 z23 hq23 hn23 z24 hq24 hn24 z25 hq25 hn25 z26 hq26 hn26 z27 hq27 hn27 z28 hq28 hn28 z29 hq29 hn29 z30 hq30 hn30 z31 hq31 hn31 z32 hq32 hn32 z33 hq33 hn33
  have mb' := mb
  have out : ∀ (d n : Nat) (f : Nat → Nat → Int64), 26 - n = d → n ≤ 26 → tabOk (f 7) n 0 → AJ X M yX12_init cX12_init 3 none 355 [(0, .ref (m 65)), (1, .int (nI n))] [] (mh m (wl (si (sa (sa sZ 1 tx0_7) 2 (upd (fun _ => 0) 0 (nI 56))) 3 (nI 1)) f) h0) 34 3884 := by
    intro d
    induction d with
    | zero =>
      intro n f hd hn hT
      refine a_iload_n (pc := 355) dX12_init_355 rfl rfl ?_
      refine a_bipush (pc := 356) dX12_init_356 ib_25 ?_
      refine a_icmp_gtN (pc := 358) (tgt := 439) dX12_init_358 (by decide) (by omega) (by omega) (fun c358 => ?_) (fun c358 => ?_)
      · have hn : n = 26 := by omega
        subst hn
        refine a_ret_v (pc := 439) hM rfl dX12_init_439 (by omega) (by omega) ?_
        exact ⟨rfl, m, _, mb', hm, rfl, ⟨(fun k hk => if_neg hk), (fun k i h1 h2 => (congrFun (if_neg h2) i).trans (congrFun (if_neg h1) i)), ⟨rfl, rfl, rfl⟩, fun a b ha hb => tabOk_g hT ha hb (by omega)⟩, hfr⟩
      · exact absurd c358 (by omega)
    | succ d ih =>
      intro n f hd hn hT
      refine a_iload_n (pc := 355) dX12_init_355 rfl rfl ?_
      refine a_bipush (pc := 356) dX12_init_356 ib_25 ?_
      refine a_icmp_gtN (pc := 358) (tgt := 439) dX12_init_358 (by decide) (by omega) (by omega) (fun c358 => ?_) (fun c358 => ?_)
      · exact absurd c358 (by omega)
      · refine a_aload_n (pc := 361) dX12_init_361 rfl rfl ?_
        refine a_getfield (pc := 362) kg_X12_23 dX12_init_362 (m_obj hm) rfl ?_
        refine a_bipush (pc := 365) dX12_init_365 ib_26 ?_
        refine a_iload_n (pc := 367) dX12_init_367 rfl rfl ?_
        refine a_imulN (pc := 368) dX12_init_368 ?_
        refine a_lconst (pc := 369) (v := lN 1) dX12_init_369 rfl ?_
        refine a_lastore (pc := 370) dX12_init_370 (m_a7 hm) (26 * n) (rfl) (by omega) (by omega) ?_
        refine a_hp (m_p7 hm) ?_
        refine a_hp (show _ = mh m (wl (si (sa (sa sZ 1 tx0_7) 2 (upd (fun _ => 0) 0 (nI 56))) 3 (nI 1)) (updA f 7 (vp_updL (f 7) (26 * n) (lN 1)))) h0 from congrArg (fun t => mh m t h0) (rfl)) ?_
        obtain ⟨f1, hf1⟩ : ∃ f1, f1 = updA f 7 (vp_updL (f 7) (26 * n) (lN 1)) := ⟨_, rfl⟩
        refine a_hp (show _ = mh m (wl (si (sa (sa sZ 1 tx0_7) 2 (upd (fun _ => 0) 0 (nI 56))) 3 (nI 1)) f1) h0 by rw [hf1]) ?_
        refine a_iconst (pc := 371) dX12_init_371 ic_1 ?_
        refine a_istore_n (pc := 372) dX12_init_372 rfl (by decide) rfl ?_
        have ihn := ih
        have inn : ∀ (d k : Nat) (f : Nat → Nat → Int64), n + 1 - k = d → 1 ≤ k ∧ k ≤ n + 1 → tabOk (f 7) n k → AJ X M yX12_init cX12_init 3 none 373 [(0, .ref (m 65)), (1, .int (nI n)), (2, .int (nI k))] [] (mh m (wl (si (sa (sa sZ 1 tx0_7) 2 (upd (fun _ => 0) 0 (nI 56))) 3 (nI 1)) f) h0) 34 3884 := by
          intro d
          induction d with
          | zero =>
            intro k f hd hk hT
            refine a_iload_n (pc := 373) dX12_init_373 rfl rfl ?_
            refine a_iload_n (pc := 374) dX12_init_374 rfl rfl ?_
            refine a_icmp_gtN (pc := 375) (tgt := 433) dX12_init_375 (by decide) (by omega) (by omega) (fun c375 => ?_) (fun c375 => ?_)
            · have hk : k = n + 1 := by omega
              subst hk
              refine a_iincN (pc := 433) (n := 1) dX12_init_433 (by decide) rfl (by decide) rfl ?_
              refine a_goto (pc := 436) (tgt := 355) dX12_init_436 (by decide) ?_
              exact a_locR (ihn (n + 1) f (by omega) (by omega) (tabOk_row hT)) ⟨rfl, rfl, trivial⟩
            · exact absurd c375 (by omega)
          | succ d ih =>
            intro k f hd hk hT
            refine a_iload_n (pc := 373) dX12_init_373 rfl rfl ?_
            refine a_iload_n (pc := 374) dX12_init_374 rfl rfl ?_
            refine a_icmp_gtN (pc := 375) (tgt := 433) dX12_init_375 (by decide) (by omega) (by omega) (fun c375 => ?_) (fun c375 => ?_)
            · exact absurd c375 (by omega)
            · refine a_aload_n (pc := 378) dX12_init_378 rfl rfl ?_
              refine a_getfield (pc := 379) kg_X12_23 dX12_init_379 (m_obj hm) rfl ?_
              refine a_bipush (pc := 382) dX12_init_382 ib_26 ?_
              refine a_iload_n (pc := 384) dX12_init_384 rfl rfl ?_
              refine a_imulN (pc := 385) dX12_init_385 ?_
              refine a_iload_n (pc := 386) dX12_init_386 rfl rfl ?_
              refine a_iaddN (pc := 387) dX12_init_387 ?_
              refine a_aload_n (pc := 388) dX12_init_388 rfl rfl ?_
              refine a_getfield (pc := 389) kg_X12_23 dX12_init_389 (m_obj hm) rfl ?_
              refine a_bipush (pc := 392) dX12_init_392 ib_26 ?_
              refine a_iload_n (pc := 394) dX12_init_394 rfl rfl ?_
              refine a_iconst (pc := 395) dX12_init_395 ic_1 ?_
              refine a_isubN (pc := 396) dX12_init_396 (by omega) ?_
              refine a_imulN (pc := 397) dX12_init_397 ?_
              refine a_iload_n (pc := 398) dX12_init_398 rfl rfl ?_
              refine a_iaddN (pc := 399) dX12_init_399 ?_
              refine a_iconst (pc := 400) dX12_init_400 ic_1 ?_
              refine a_isubN (pc := 401) dX12_init_401 (by omega) ?_
              refine a_laload (pc := 402) dX12_init_402 (m_a7 hm) (26 * (n - 1) + (k - 1)) (congrArg nI (by omega)) (by omega) (by omega) ?_
              refine a_topl (tabOk_g hT (by omega) (by omega) (by omega)) ?_
              refine a_iload_n (pc := 403) dX12_init_403 rfl rfl ?_
              refine a_iload_n (pc := 404) dX12_init_404 rfl rfl ?_
              refine a_icmp_geN (pc := 405) (tgt := 424) dX12_init_405 (by decide) (by omega) (by omega) (fun c405 => ?_) (fun c405 => ?_)
              · have hb0 := binN_eq hk.1 (by omega : k ≤ n) (by omega)
                refine a_lconst (pc := 424) (v := lN 0) dX12_init_424 rfl ?_
                refine a_laddN (pc := 425) dX12_init_425 ?_
                refine a_topl (congrArg lN hb0) ?_
                refine a_lastore (pc := 426) dX12_init_426 (m_a7 hm) (26 * n + k) (rfl) (by omega) (by omega) ?_
                refine a_hp (m_p7 hm) ?_
                refine a_hp (show _ = mh m (wl (si (sa (sa sZ 1 tx0_7) 2 (upd (fun _ => 0) 0 (nI 56))) 3 (nI 1)) (updA f 7 (vp_updL (f 7) (26 * n + k) (lN (binN n k))))) h0 from congrArg (fun t => mh m t h0) (rfl)) ?_
                obtain ⟨f1, hf1⟩ : ∃ f1, f1 = updA f 7 (vp_updL (f 7) (26 * n + k) (lN (binN n k))) := ⟨_, rfl⟩
                refine a_hp (show _ = mh m (wl (si (sa (sa sZ 1 tx0_7) 2 (upd (fun _ => 0) 0 (nI 56))) 3 (nI 1)) f1) h0 by rw [hf1]) ?_
                refine a_iincN (pc := 427) (n := 1) dX12_init_427 (by decide) rfl (by decide) rfl ?_
                refine a_goto (pc := 430) (tgt := 373) dX12_init_430 (by decide) ?_
                exact a_locR (ih (k + 1) f1 (by omega) (by omega) (by rw [hf1]; exact tabOk_put hT (by omega) rfl)) ⟨rfl, rfl, rfl, trivial⟩
              · have hb0 := binN_lt hk.1 (by omega : k ≤ n)
                refine a_aload_n (pc := 408) dX12_init_408 rfl rfl ?_
                refine a_getfield (pc := 409) kg_X12_23 dX12_init_409 (m_obj hm) rfl ?_
                refine a_bipush (pc := 412) dX12_init_412 ib_26 ?_
                refine a_iload_n (pc := 414) dX12_init_414 rfl rfl ?_
                refine a_iconst (pc := 415) dX12_init_415 ic_1 ?_
                refine a_isubN (pc := 416) dX12_init_416 (by omega) ?_
                refine a_imulN (pc := 417) dX12_init_417 ?_
                refine a_iload_n (pc := 418) dX12_init_418 rfl rfl ?_
                refine a_iaddN (pc := 419) dX12_init_419 ?_
                refine a_laload (pc := 420) dX12_init_420 (m_a7 hm) (26 * (n - 1) + k) (rfl) (by omega) (by omega) ?_
                refine a_topl (tabOk_g hT (by omega) (by omega) (by omega)) ?_
                refine a_goto (pc := 421) (tgt := 425) dX12_init_421 (by decide) ?_
                refine a_laddN (pc := 425) dX12_init_425 ?_
                refine a_topl (congrArg lN hb0) ?_
                refine a_lastore (pc := 426) dX12_init_426 (m_a7 hm) (26 * n + k) (rfl) (by omega) (by omega) ?_
                refine a_hp (m_p7 hm) ?_
                refine a_hp (show _ = mh m (wl (si (sa (sa sZ 1 tx0_7) 2 (upd (fun _ => 0) 0 (nI 56))) 3 (nI 1)) (updA f 7 (vp_updL (f 7) (26 * n + k) (lN (binN n k))))) h0 from congrArg (fun t => mh m t h0) (rfl)) ?_
                obtain ⟨f1, hf1⟩ : ∃ f1, f1 = updA f 7 (vp_updL (f 7) (26 * n + k) (lN (binN n k))) := ⟨_, rfl⟩
                refine a_hp (show _ = mh m (wl (si (sa (sa sZ 1 tx0_7) 2 (upd (fun _ => 0) 0 (nI 56))) 3 (nI 1)) f1) h0 by rw [hf1]) ?_
                refine a_iincN (pc := 427) (n := 1) dX12_init_427 (by decide) rfl (by decide) rfl ?_
                refine a_goto (pc := 430) (tgt := 373) dX12_init_430 (by decide) ?_
                exact a_locR (ih (k + 1) f1 (by omega) (by omega) (by rw [hf1]; exact tabOk_put hT (by omega) rfl)) ⟨rfl, rfl, rfl, trivial⟩
        exact a_locR (inn _ 1 f1 rfl (by omega) (by rw [hf1]; exact tabOk_put (k := 0) hT (by omega) (by rw [binN_z]))) ⟨rfl, rfl, rfl, trivial⟩
  refine a_hp (show _ = mh m (sa sZ 1 tx0_0) h0 by rw [show tx0_0 = sZ.2.1 1 from rfl, sa_id]) ?_
  refine a_aload_n (pc := 278) dX12_init_278 rfl rfl ?_
  refine a_iconst (pc := 279) dX12_init_279 ic_0 ?_
  refine a_ldc2 (pc := 280) kc_X12_118 dX12_init_280 ?_
  refine a_topl (z := lN 8319396939027718204) rfl ?_
  refine a_callV (pc := 283) km_X12_120 dX12_init_283 (f_spell (s := (sa sZ 1 tx0_0)) hm (a := 0) (by decide) (lN 8319396939027718204)) rfl rfl (krecv_of (ci := 12) rfl (m_obj hm)) (rok_of hM (by decide) (by decide) (by omega) (by omega)) (Nat.le_of_ble_eq_true rfl) (fun r283 h283 hp283 => ?_)
  obtain ⟨rfl, rfl⟩ := hp283
  refine a_hp (show _ = mh m (sa sZ 1 tx0_1) h0 from congrArg (fun t => mh m t h0) sa_sa) ?_
  refine a_aload_n (pc := 286) dX12_init_286 rfl rfl ?_
  refine a_bipush (pc := 287) dX12_init_287 ib_8 ?_
  refine a_ldc2 (pc := 289) kc_X12_124 dX12_init_289 ?_
  refine a_topl (z := lN 2335232355660217120) rfl ?_
  refine a_callV (pc := 292) km_X12_120 dX12_init_292 (f_spell (s := (sa sZ 1 tx0_1)) hm (a := 8) (by decide) (lN 2335232355660217120)) rfl rfl (krecv_of (ci := 12) rfl (m_obj hm)) (rok_of hM (by decide) (by decide) (by omega) (by omega)) (Nat.le_of_ble_eq_true rfl) (fun r292 h292 hp292 => ?_)
  obtain ⟨rfl, rfl⟩ := hp292
  refine a_hp (show _ = mh m (sa sZ 1 tx0_2) h0 from congrArg (fun t => mh m t h0) sa_sa) ?_
  refine a_aload_n (pc := 295) dX12_init_295 rfl rfl ?_
  refine a_bipush (pc := 296) dX12_init_296 ib_16 ?_
  refine a_ldc2 (pc := 298) kc_X12_126 dX12_init_298 ?_
  refine a_topl (z := lN 7738703066957094972) rfl ?_
  refine a_callV (pc := 301) km_X12_120 dX12_init_301 (f_spell (s := (sa sZ 1 tx0_2)) hm (a := 16) (by decide) (lN 7738703066957094972)) rfl rfl (krecv_of (ci := 12) rfl (m_obj hm)) (rok_of hM (by decide) (by decide) (by omega) (by omega)) (Nat.le_of_ble_eq_true rfl) (fun r301 h301 hp301 => ?_)
  obtain ⟨rfl, rfl⟩ := hp301
  refine a_hp (show _ = mh m (sa sZ 1 tx0_3) h0 from congrArg (fun t => mh m t h0) sa_sa) ?_
  refine a_aload_n (pc := 304) dX12_init_304 rfl rfl ?_
  refine a_bipush (pc := 305) dX12_init_305 ib_24 ?_
  refine a_ldc2 (pc := 307) kc_X12_124 dX12_init_307 ?_
  refine a_topl (z := lN 2335232355660217120) rfl ?_
  refine a_callV (pc := 310) km_X12_120 dX12_init_310 (f_spell (s := (sa sZ 1 tx0_3)) hm (a := 24) (by decide) (lN 2335232355660217120)) rfl rfl (krecv_of (ci := 12) rfl (m_obj hm)) (rok_of hM (by decide) (by decide) (by omega) (by omega)) (Nat.le_of_ble_eq_true rfl) (fun r310 h310 hp310 => ?_)
  obtain ⟨rfl, rfl⟩ := hp310
  refine a_hp (show _ = mh m (sa sZ 1 tx0_4) h0 from congrArg (fun t => mh m t h0) sa_sa) ?_
  refine a_aload_n (pc := 313) dX12_init_313 rfl rfl ?_
  refine a_bipush (pc := 314) dX12_init_314 ib_32 ?_
  refine a_ldc2 (pc := 316) kc_X12_128 dX12_init_316 ?_
  refine a_topl (z := lN 8314059567200302195) rfl ?_
  refine a_callV (pc := 319) km_X12_120 dX12_init_319 (f_spell (s := (sa sZ 1 tx0_4)) hm (a := 32) (by decide) (lN 8314059567200302195)) rfl rfl (krecv_of (ci := 12) rfl (m_obj hm)) (rok_of hM (by decide) (by decide) (by omega) (by omega)) (Nat.le_of_ble_eq_true rfl) (fun r319 h319 hp319 => ?_)
  obtain ⟨rfl, rfl⟩ := hp319
  refine a_hp (show _ = mh m (sa sZ 1 tx0_5) h0 from congrArg (fun t => mh m t h0) sa_sa) ?_
  refine a_aload_n (pc := 322) dX12_init_322 rfl rfl ?_
  refine a_bipush (pc := 323) dX12_init_323 ib_40 ?_
  refine a_ldc2 (pc := 325) kc_X12_130 dX12_init_325 ?_
  refine a_topl (z := lN 2318545033095113587) rfl ?_
  refine a_callV (pc := 328) km_X12_120 dX12_init_328 (f_spell (s := (sa sZ 1 tx0_5)) hm (a := 40) (by decide) (lN 2318545033095113587)) rfl rfl (krecv_of (ci := 12) rfl (m_obj hm)) (rok_of hM (by decide) (by decide) (by omega) (by omega)) (Nat.le_of_ble_eq_true rfl) (fun r328 h328 hp328 => ?_)
  obtain ⟨rfl, rfl⟩ := hp328
  refine a_hp (show _ = mh m (sa sZ 1 tx0_6) h0 from congrArg (fun t => mh m t h0) sa_sa) ?_
  refine a_aload_n (pc := 331) dX12_init_331 rfl rfl ?_
  refine a_bipush (pc := 332) dX12_init_332 ib_48 ?_
  refine a_ldc2 (pc := 334) kc_X12_132 dX12_init_334 ?_
  refine a_topl (z := lN 2318544795711774752) rfl ?_
  refine a_callV (pc := 337) km_X12_120 dX12_init_337 (f_spell (s := (sa sZ 1 tx0_6)) hm (a := 48) (by decide) (lN 2318544795711774752)) rfl rfl (krecv_of (ci := 12) rfl (m_obj hm)) (rok_of hM (by decide) (by decide) (by omega) (by omega)) (Nat.le_of_ble_eq_true rfl) (fun r337 h337 hp337 => ?_)
  obtain ⟨rfl, rfl⟩ := hp337
  refine a_hp (show _ = mh m (sa sZ 1 tx0_7) h0 from congrArg (fun t => mh m t h0) sa_sa) ?_
  refine a_aload_n (pc := 340) dX12_init_340 rfl rfl ?_
  refine a_getfield (pc := 341) kg_X12_17 dX12_init_341 (m_obj hm) rfl ?_
  refine a_iconst (pc := 344) dX12_init_344 ic_0 ?_
  refine a_bipush (pc := 345) dX12_init_345 ib_56 ?_
  refine a_iastore (pc := 347) dX12_init_347 (m_a2 hm) (0) (rfl) (by omega) (by omega) ?_
  refine a_hp (m_p2 hm) ?_
  refine a_aload_n (pc := 348) dX12_init_348 rfl rfl ?_
  refine a_iconst (pc := 349) dX12_init_349 ic_1 ?_
  refine a_putfield (pc := 350) kf_X12_134 dX12_init_350 (m_obj hm) (rfl) (by rfl) (Nat.le_of_ble_eq_true rfl) ?_
  refine a_hp (m_p3 hm) ?_
  refine a_iconst (pc := 353) dX12_init_353 ic_0 ?_
  refine a_istore_n (pc := 354) dX12_init_354 rfl (by decide) rfl ?_
  refine a_hp (show _ = mh m (wl (si (sa (sa sZ 1 tx0_7) 2 (upd (fun _ => 0) 0 (nI 56))) 3 (nI 1)) sZ.2.2.2) h0 from rfl) ?_
  exact a_locR (out _ 0 _ rfl (Nat.zero_le _) (fun a b _ _ => (if_neg (by omega)).symm)) ⟨rfl, rfl, trivial⟩

end MPX

/-! THE READER: all levels; part, read -/
section MQ5
variable {X : KX} {m : Nat → Nat} {s : MST} {h0 : AH}
theorem rC_one (hm : MI m) {F Z : Nat} (h32 : s.1 32 = nI F) (h33 : s.1 33 = nI Z) (hF : F ≤ 800) (hZ : Z ≤ 160) {j d don dei : Nat} (hdo : don + 1 ≤ d) (hde : dei + 1 ≤ d) (hd3 : 3 ≤ d) {on ei : PS → Rs} (hon : ∀ i, j = i + 1 → rC X m s h0 Z don i yX12_one cX12_one 2 on) (hei : ∀ i, j = i + 1 → rC X m s h0 Z dei i yX12_either cX12_either 3 ei) : rC X m s h0 Z d j yX12_one cX12_one 2 (oneL (byP s F Z) Z on ei) :=
  fun p hg hj => ⟨f_one hm h32 h33 hF hZ hdo hde hd3 hon hei p hg hj, one_ok (fun i hi q a b => (hon i hi q a b).2) (fun i hi q a b => (hei i hi q a b).2) hg hj⟩
theorem rC_not (hm : MI m) {F Z : Nat} (h32 : s.1 32 = nI F) (h33 : s.1 33 = nI Z) (hF : F ≤ 800) (hZ : Z ≤ 160) {j d dad dno : Nat} (hda : dad + 1 ≤ d) (hdn : dno + 1 ≤ d) (hd3 : 3 ≤ d) {ad no : PS → Rs} (had : rC X m s h0 Z dad j yX12_added cX12_added 4 ad) (hno : ∀ i, j = i + 1 → rC X m s h0 Z dno i yX12_not cX12_not 4 no) : rC X m s h0 Z d j yX12_not cX12_not 4 (notL (byP s F Z) Z ad no) :=
  fun p hg hj => ⟨f_not hm h32 h33 hF hZ hda hdn hd3 had hno p hg hj, not_ok (fun q a b => (had q a b).2) (fun i hi q a b => (hno i hi q a b).2) hg hj⟩
theorem lev_1 (hm : MI m) {F Z : Nat} (h32 : s.1 32 = nI F) (h33 : s.1 33 = nI Z) (hF : F ≤ 800) (hZ : Z ≤ 160) {j : Nat} {on no ei : PS → Rs} (hon : ∀ i, j = i + 1 → rC X m s h0 Z (3 + 6 * i) i yX12_one cX12_one 2 on) (hno : ∀ i, j = i + 1 → rC X m s h0 Z (6 + 6 * i) i yX12_not cX12_not 4 no) (hei : ∀ i, j = i + 1 → rC X m s h0 Z (8 + 6 * i) i yX12_either cX12_either 3 ei) :
    rC X m s h0 Z (3 + 6 * j) j yX12_one cX12_one 2 (oneL (byP s F Z) Z on ei) ∧ rC X m s h0 Z (6 + 6 * j) j yX12_not cX12_not 4 (notL (byP s F Z) Z (addedL (byP s F Z) Z (termL (byP s F Z) Z (oneL (byP s F Z) Z on ei))) no) ∧ rC X m s h0 Z (8 + 6 * j) j yX12_either cX12_either 3 (eitherL (byP s F Z) Z (bothL (byP s F Z) Z (notL (byP s F Z) Z (addedL (byP s F Z) Z (termL (byP s F Z) Z (oneL (byP s F Z) Z on ei))) no))) := by
  have h1 : rC X m s h0 Z (3 + 6 * j) j yX12_one cX12_one 2 (oneL (byP s F Z) Z on ei) := by
    rcases Nat.eq_zero_or_pos j with hj | hj
    · subst hj
      exact rC_one hm h32 h33 hF hZ (don := 0) (dei := 0) (by omega) (by omega) (by omega) (fun i hi => absurd hi (by omega)) (fun i hi => absurd hi (by omega))
    · exact rC_one hm h32 h33 hF hZ (don := 3 + 6 * (j - 1)) (dei := 8 + 6 * (j - 1)) (by omega) (by omega) (by omega) (fun i hi => by have e : j - 1 = i := (by omega); rw [e]; exact hon i hi) (fun i hi => by have e : j - 1 = i := (by omega); rw [e]; exact hei i hi)
  have h2 := rC_term hm h32 h33 hF hZ (d := 4 + 6 * j) (by omega) (by omega) h1
  have h3 := rC_added hm h32 h33 hF hZ (d := 5 + 6 * j) (by omega) (by omega) h2
  have h4 : rC X m s h0 Z (6 + 6 * j) j yX12_not cX12_not 4 (notL (byP s F Z) Z (addedL (byP s F Z) Z (termL (byP s F Z) Z (oneL (byP s F Z) Z on ei))) no) := by
    rcases Nat.eq_zero_or_pos j with hj | hj
    · subst hj
      exact rC_not hm h32 h33 hF hZ (dno := 0) (by omega) (by omega) (by omega) h3 (fun i hi => absurd hi (by omega))
    · exact rC_not hm h32 h33 hF hZ (dno := 6 + 6 * (j - 1)) (by omega) (by omega) (by omega) h3 (fun i hi => by have e : j - 1 = i := (by omega); rw [e]; exact hno i hi)
  have h5 := rC_both hm h32 h33 hF hZ (d := 7 + 6 * j) (by omega) (by omega) h4
  have h6 := rC_either hm h32 h33 hF hZ (d := 8 + 6 * j) (by omega) (by omega) h5
  exact ⟨h1, h4, h6⟩
theorem lev_C (hm : MI m) {F Z : Nat} (h32 : s.1 32 = nI F) (h33 : s.1 33 = nI Z) (hF : F ≤ 800) (hZ : Z ≤ 160) (j : Nat) : rC X m s h0 Z (3 + 6 * j) j yX12_one cX12_one 2 (lev (byP s F Z) Z j).1 ∧ rC X m s h0 Z (6 + 6 * j) j yX12_not cX12_not 4 (lev (byP s F Z) Z j).2.1 ∧ rC X m s h0 Z (8 + 6 * j) j yX12_either cX12_either 3 (lev (byP s F Z) Z j).2.2 := by
  induction j with
  | zero => exact lev_1 hm h32 h33 hF hZ (fun i hi => absurd hi (by omega)) (fun i hi => absurd hi (by omega)) (fun i hi => absurd hi (by omega))
  | succ j ih => exact lev_1 hm h32 h33 hF hZ (fun i hi => by obtain rfl : j = i := (by omega); exact ih.1) (fun i hi => by obtain rfl : j = i := (by omega); exact ih.2.1) (fun i hi => by obtain rfl : j = i := (by omega); exact ih.2.2)
def partV (b : Nat → Int32) (Z : Nat) (q : PS) : PS := nxP b Z (if isS q 59 = true then q else failP q)
def partU (b : Nat → Int32) (Z : Nat) (ei : PS → Rs) (q : PS) : Rs := if pBad q = true then (eNum 0, partV b Z q) else ((ei q).1, partV b Z (ei q).2)
def partF (b : Nat → Int32) (Z : Nat) (ei : PS → Rs) (key : Int64) (p : PS) : Rs := partU b Z ei (nxP b Z (if isW p key = true then p else failP p))
theorem nxP_k {F Z : Nat} {p : PS} (h : gP Z p) : gP Z (nxP (byP s F Z) Z p) ∧ pOp (nxP (byP s F Z) Z p) = pOp p := ⟨(nxP_g h).1, (nxP_g h).2.2⟩
theorem ite_g {Z : Nat} {p : PS} {c : Bool} (h : gP Z p) : gP Z (if c = true then p else failP p) ∧ pOp (if c = true then p else failP p) = pOp p := by
  split
  · exact ⟨h, rfl⟩
  · exact ⟨(fail_g h).1, (fail_g h).2.2⟩
theorem partV_g {F Z : Nat} {p : PS} (h : gP Z p) : gP Z (partV (byP s F Z) Z p) ∧ pOp (partV (byP s F Z) Z p) = pOp p := ⟨(nxP_k (ite_g h).1).1, (nxP_k (ite_g h).1).2.trans (ite_g h).2⟩
theorem part_g {F Z : Nat} {ei : PS → Rs} (hei : ∀ p, gP Z p → pOp p + 5 = 5 → oK Z p (ei p)) {key : Int64} {p : PS} (h : gP Z p) (ho : pOp p = 0) : gP Z (partF (byP s F Z) Z ei key p).2 ∧ pOp (partF (byP s F Z) Z ei key p).2 = 0 := by
  have h1 := ite_g (c := isW p key) h
  have h2 := nxP_k (s := s) (F := F) h1.1
  unfold partF partU
  generalize (if isW p key = true then p else failP p) = q1 at h1 h2 ⊢
  split
  · exact ⟨(partV_g h2.1).1, by rw [(partV_g h2.1).2, h2.2, h1.2, ho]⟩
  · obtain ⟨a, b, c⟩ := hei _ h2.1 (by omega)
    exact ⟨(partV_g a).1, by rw [(partV_g a).2, c, h2.2, h1.2, ho]⟩
set_option maxRecDepth 4000 in
theorem f_part (hm : MI m) {F Z : Nat} (h32 : s.1 32 = nI F) (h33 : s.1 33 = nI Z) (hF : F ≤ 800) (hZ : Z ≤ 160) (key : Int64) (p : PS) (hg : gP Z p) (hop : pOp p = 0) : Fn X 39 0 0 yX12_part cX12_part 4 (some .int) [.ref (m 65), .long key] (mh m (pst s p) h0) (fun rv hv => rv = some (.int ((partF (byP s F Z) Z (lev (byP s F Z) Z 5).2.2 key p).1.2 s.1)) ∧ hv = mh m (pst s (partF (byP s F Z) Z (lev (byP s F Z) Z 5).2.2 key p).2) h0) := by
  refine fn_of (by decide) (Nat.le_of_ble_eq_true rfl) (fun M hM => ?_)
  have hei := (lev_C (m := m) (s := s) (h0 := h0) (X := X) hm h32 h33 hF hZ 5).2.2
  have t52 : ∀ (q : PS) (e : List Cd × Vl), gP Z q → partF (byP s F Z) Z (lev (byP s F Z) Z 5).2.2 key p = (e, nxP (byP s F Z) Z q) → AJ X M yX12_part cX12_part 4 (some .int) 52 [(0, .ref (m 65)), (3, .int (e.2 s.1))] [] (mh m (pst s q) h0) 0 0 := by
    intro q e hg hs
    refine a_aload_n (pc := 52) dX12_part_52 rfl rfl ?_
    refine a_getfield (pc := 53) kg_X12_278 dX12_part_53 (m_obj hm) rfl ?_
    refine a_topi ((show _ = bI (pBad (q)) from rfl)) ?_
    refine a_if_neB (pc := 56) (tgt := 63) dX12_part_56 (by decide) (fun c56 => ?_) (fun c56 => ?_)
    · have hx : nxP (byP s F Z) Z q = q := if_pos c56
      refine a_iload_n (pc := 63) dX12_part_63 rfl rfl ?_
      refine a_ret_i (pc := 64) hM rfl (rfl) dX12_part_64 (by omega) (by omega) ?_
      exact ⟨by rw [hs], by rw [hs, hx]⟩
    · have hx : nxP (byP s F Z) Z q = nextF (byP s F Z) Z q := if_neg (by rw [c56]; decide)
      refine a_aload_n (pc := 59) dX12_part_59 rfl rfl ?_
      refine a_callV (pc := 60) km_X12_291 dX12_part_60 (f_next hm q h32 h33 hF hZ hg.2.1) rfl rfl (krecv_of (ci := 12) rfl (m_obj hm)) (rok_of hM (by omega) (by decide) (by omega) (by omega)) (Nat.le_of_ble_eq_true rfl) (fun r60 h60 hp60 => ?_)
      obtain ⟨rfl, rfl⟩ := hp60
      refine a_iload_n (pc := 63) dX12_part_63 rfl rfl ?_
      refine a_ret_i (pc := 64) hM rfl (rfl) dX12_part_64 (by omega) (by omega) ?_
      exact ⟨by rw [hs], by rw [hs, hx]⟩
  have t38 : ∀ (q : PS) (e : List Cd × Vl), gP Z q → partF (byP s F Z) Z (lev (byP s F Z) Z 5).2.2 key p = (e, partV (byP s F Z) Z q) → AJ X M yX12_part cX12_part 4 (some .int) 38 [(0, .ref (m 65))] [.int (e.2 s.1)] (mh m (pst s q) h0) 0 0 := by
    intro q e hg hs
    refine a_istore_n (pc := 38) dX12_part_38 rfl (by decide) rfl ?_
    refine a_aload_n (pc := 39) dX12_part_39 rfl rfl ?_
    refine a_bipush (pc := 40) dX12_part_40 ib_59 ?_
    refine a_callV (pc := 42) km_X12_328 dX12_part_42 (f_isSign hm q hg.1 (c := 59) (by decide)) rfl rfl (krecv_of (ci := 12) rfl (m_obj hm)) (rok_of hM (by omega) (by decide) (by omega) (by omega)) (Nat.le_of_ble_eq_true rfl) (fun r42 h42 hp42 => ?_)
    obtain ⟨rfl, rfl⟩ := hp42
    refine a_if_neB (pc := 45) (tgt := 52) dX12_part_45 (by decide) (fun c45 => ?_) (fun c45 => ?_)
    · have hx : (if isS q 59 = true then q else failP q) = q := if_pos c45
      first | exact a_locR (t52 q e hg (hs.trans (by rw [partV, hx]))) ⟨rfl, rfl, trivial⟩ | exact a_locR (t52 (failP q) e (fail_g hg).1 (hs.trans (by rw [partV, hx]))) ⟨rfl, rfl, trivial⟩
    · have hx : (if isS q 59 = true then q else failP q) = failP q := if_neg (by rw [c45]; decide)
      refine a_aload_n (pc := 48) dX12_part_48 rfl rfl ?_
      refine a_callV (pc := 49) km_X12_288 dX12_part_49 (f_fail hm q) rfl rfl (krecv_of (ci := 12) rfl (m_obj hm)) (rok_of hM (by omega) (by decide) (by omega) (by omega)) (Nat.le_of_ble_eq_true rfl) (fun r49 h49 hp49 => ?_)
      obtain ⟨rfl, rfl⟩ := hp49
      first | exact a_locR (t52 q e hg (hs.trans (by rw [partV, hx]))) ⟨rfl, rfl, trivial⟩ | exact a_locR (t52 (failP q) e (fail_g hg).1 (hs.trans (by rw [partV, hx]))) ⟨rfl, rfl, trivial⟩
  have t23 : ∀ (q : PS), gP Z q → pOp q = 0 → partF (byP s F Z) Z (lev (byP s F Z) Z 5).2.2 key p = partU (byP s F Z) Z (lev (byP s F Z) Z 5).2.2 q → AJ X M yX12_part cX12_part 4 (some .int) 23 [(0, .ref (m 65))] [] (mh m (pst s q) h0) 0 0 := by
    intro q hg hop hs
    refine a_aload_n (pc := 23) dX12_part_23 rfl rfl ?_
    refine a_getfield (pc := 24) kg_X12_278 dX12_part_24 (m_obj hm) rfl ?_
    refine a_topi ((show _ = bI (pBad (q)) from rfl)) ?_
    refine a_if_eqB (pc := 27) (tgt := 34) dX12_part_27 (by decide) (fun c27 => ?_) (fun c27 => ?_)
    · obtain ⟨hfn, b1, b2, b3⟩ := hei q hg (by omega)
      refine a_aload_n (pc := 34) dX12_part_34 rfl rfl ?_
      refine a_callV (pc := 35) km_X12_339 dX12_part_35 (hfn) rfl rfl (krecv_of (ci := 12) rfl (m_obj hm)) (rok_of hM (by omega) (by decide) (by omega) (by omega)) (Nat.le_of_ble_eq_true rfl) (fun r35 h35 hp35 => ?_)
      obtain ⟨rfl, rfl⟩ := hp35
      first | exact a_locR (t38 ((lev (byP s F Z) Z 5).2.2 q).2 ((lev (byP s F Z) Z 5).2.2 q).1 b1 (hs.trans (if_neg (by rw [c27]; decide)))) ⟨rfl, trivial⟩ | exact a_locR (t38 q (eNum 0) hg (hs.trans (if_pos c27))) ⟨rfl, trivial⟩
    · refine a_iconst (pc := 30) dX12_part_30 ic_0 ?_
      refine a_goto (pc := 31) (tgt := 38) dX12_part_31 (by decide) ?_
      first | exact a_locR (t38 ((lev (byP s F Z) Z 5).2.2 q).2 ((lev (byP s F Z) Z 5).2.2 q).1 b1 (hs.trans (if_neg (by rw [c27]; decide)))) ⟨rfl, trivial⟩ | exact a_locR (t38 q (eNum 0) hg (hs.trans (if_pos c27))) ⟨rfl, trivial⟩
  have t12 : ∀ (q : PS), gP Z q → pOp q = 0 → partF (byP s F Z) Z (lev (byP s F Z) Z 5).2.2 key p = partU (byP s F Z) Z (lev (byP s F Z) Z 5).2.2 (nxP (byP s F Z) Z q) → AJ X M yX12_part cX12_part 4 (some .int) 12 [(0, .ref (m 65))] [] (mh m (pst s q) h0) 0 0 := by
    intro q hg hop hs
    refine a_aload_n (pc := 12) dX12_part_12 rfl rfl ?_
    refine a_getfield (pc := 13) kg_X12_278 dX12_part_13 (m_obj hm) rfl ?_
    refine a_topi ((show _ = bI (pBad (q)) from rfl)) ?_
    refine a_if_neB (pc := 16) (tgt := 23) dX12_part_16 (by decide) (fun c16 => ?_) (fun c16 => ?_)
    · have hx : nxP (byP s F Z) Z q = q := if_pos c16
      first | exact a_locR (t23 q hg hop (hs.trans (by rw [hx]))) ⟨rfl, trivial⟩ | exact a_locR (t23 (nextF (byP s F Z) Z q) (hx ▸ (nxP_k (s := s) (F := F) hg).1) (by rw [← hx, (nxP_k hg).2, hop]) (hs.trans (by rw [hx]))) ⟨rfl, trivial⟩
    · have hx : nxP (byP s F Z) Z q = nextF (byP s F Z) Z q := if_neg (by rw [c16]; decide)
      refine a_aload_n (pc := 19) dX12_part_19 rfl rfl ?_
      refine a_callV (pc := 20) km_X12_291 dX12_part_20 (f_next hm q h32 h33 hF hZ hg.2.1) rfl rfl (krecv_of (ci := 12) rfl (m_obj hm)) (rok_of hM (by omega) (by decide) (by omega) (by omega)) (Nat.le_of_ble_eq_true rfl) (fun r20 h20 hp20 => ?_)
      obtain ⟨rfl, rfl⟩ := hp20
      first | exact a_locR (t23 q hg hop (hs.trans (by rw [hx]))) ⟨rfl, trivial⟩ | exact a_locR (t23 (nextF (byP s F Z) Z q) (hx ▸ (nxP_k (s := s) (F := F) hg).1) (by rw [← hx, (nxP_k hg).2, hop]) (hs.trans (by rw [hx]))) ⟨rfl, trivial⟩
  refine a_aload_n (pc := 0) dX12_part_0 rfl rfl ?_
  refine a_lload_n (pc := 1) dX12_part_1 rfl rfl ?_
  refine a_callV (pc := 2) km_X12_296 dX12_part_2 (f_isWord hm p hg.1 key) rfl rfl (krecv_of (ci := 12) rfl (m_obj hm)) (rok_of hM (by omega) (by decide) (by omega) (by omega)) (Nat.le_of_ble_eq_true rfl) (fun r2 h2 hp2 => ?_)
  obtain ⟨rfl, rfl⟩ := hp2
  refine a_if_neB (pc := 5) (tgt := 12) dX12_part_5 (by decide) (fun c5 => ?_) (fun c5 => ?_)
  · have hx : (if isW p key = true then p else failP p) = p := if_pos c5
    first | exact a_locR (t12 p hg hop (by rw [partF, hx])) ⟨rfl, trivial⟩ | exact a_locR (t12 (failP p) (fail_g hg).1 (by rw [(fail_g hg).2.2, hop]) (by rw [partF, hx])) ⟨rfl, trivial⟩
  · have hx : (if isW p key = true then p else failP p) = failP p := if_neg (by rw [c5]; decide)
    refine a_aload_n (pc := 8) dX12_part_8 rfl rfl ?_
    refine a_callV (pc := 9) km_X12_288 dX12_part_9 (f_fail hm p) rfl rfl (krecv_of (ci := 12) rfl (m_obj hm)) (rok_of hM (by omega) (by decide) (by omega) (by omega)) (Nat.le_of_ble_eq_true rfl) (fun r9 h9 hp9 => ?_)
    obtain ⟨rfl, rfl⟩ := hp9
    first | exact a_locR (t12 p hg hop (by rw [partF, hx])) ⟨rfl, trivial⟩ | exact a_locR (t12 (failP p) (fail_g hg).1 (by rw [(fail_g hg).2.2, hop]) (by rw [partF, hx])) ⟨rfl, trivial⟩

abbrev Ex : Type := List Cd × Vl
/-- a text read: its three parts, where the reader stands at last -/
def keepF (b : Nat → Int32) (Z : Nat) (ei : PS → Rs) (key : Int64) (q : PS) : Rs := if pBad q = true then (eNum 0, q) else partF b Z ei key q
def endF (q : PS) : PS := if pBad q = true then q else if pTk q = 0 then q else failP q
def readE (b : Nat → Int32) (Z : Nat) (p : PS) : Rs × Rs × Rs :=
  (partF b Z (lev b Z 5).2.2 (lN 388978) (nextF b Z p),
   keepF b Z (lev b Z 5).2.2 (lN 220309) (partF b Z (lev b Z 5).2.2 (lN 388978) (nextF b Z p)).2,
   keepF b Z (lev b Z 5).2.2 (lN 13903) (keepF b Z (lev b Z 5).2.2 (lN 220309) (partF b Z (lev b Z 5).2.2 (lN 388978) (nextF b Z p)).2).2)
def readP (b : Nat → Int32) (Z : Nat) (p : PS) : PS := endF (readE b Z p).2.2.2
def exAt (e : Rs × Rs × Rs) (w : Nat) : Vl := if w = 0 then e.1.1.2 else if w = 1 then e.2.1.1.2 else e.2.2.1.2
def rSt (s : MST) (x Z : Nat) : MST := si (si s 32 (nI (160 * x))) 33 (nI Z)
theorem nI_sur (x : Int32) : ∃ n, x = nI n := ⟨x.toBitVec.toNat, by
  apply Int32.toBitVec_inj.mp
  simp [nI]⟩
/-- where a reading begins -/
def atStart (p : PS) : Prop := pHr p = 0 ∧ pOp p = 0 ∧ pBad p = false ∧ pFt p = 0
theorem start_pst {s : MST} {a c : Nat} (h34 : s.1 34 = nI a) (h35 : s.1 35 = nI c) : si (si (si s 37 (nI 0)) 38 (nI 0)) 39 (bI false) = pst s (a, c, s.2.2.1 36, 0, 0, false, 0) := by
  unfold si pst
  congr 1
  · funext j
    show (if j = 39 then bI false else if j = 38 then nI 0 else if j = 37 then nI 0 else s.1 j) = (if j = 34 then nI a else if j = 35 then nI c else if j = 37 then nI 0 else if j = 38 then nI 0 else if j = 39 then bI false else if j = 40 then s.1 40 else s.1 j)
    by_cases h1 : j = 34
    · subst h1; exact h34
    · by_cases h2 : j = 35
      · subst h2; exact h35
      · by_cases h3 : j = 37
        · subst h3; rfl
        · by_cases h4 : j = 38
          · subst h4; rfl
          · by_cases h5 : j = 39
            · subst h5; rfl
            · by_cases h6 : j = 40
              · subst h6; rfl
              · rw [if_neg h1, if_neg h2, if_neg h3, if_neg h4, if_neg h5, if_neg h6, if_neg h5, if_neg h4, if_neg h3]
  · congr 2
    funext j
    by_cases h : j = 36
    · subst h; rfl
    · exact (if_neg h).symm
theorem b_end {s : MST} {F Z : Nat} : ∀ i, Z ≤ i → byP s F Z i = -1 := fun i hi => if_neg (by omega)
set_option maxRecDepth 4000 in
theorem f_read (hm : MI m) {x w Z : Nat} (hx : x < 6) (hw : w ≤ 2) (hz : s.2.1 2 x = nI Z) (hZ : Z ≤ 160) : Fn X 40 0 0 yX12_read cX12_read 6 (some .int) [.ref (m 65), .int (nI x), .int (nI w)] (mh m s h0) (fun rv hv => ∃ p0 : PS, atStart p0 ∧ rv = some (.int (exAt (readE (byP s (160 * x) Z) Z p0) w (rSt s x Z).1)) ∧ hv = mh m (pst (rSt s x Z) (readP (byP s (160 * x) Z) Z p0)) h0) := by
  refine fn_of (by decide) (Nat.le_of_ble_eq_true rfl) (fun M hM => ?_)
  obtain ⟨a, h34⟩ := nI_sur ((rSt s x Z).1 34)
  obtain ⟨c, h35⟩ := nI_sur ((rSt s x Z).1 35)
  obtain ⟨p0, hp0⟩ : ∃ p0 : PS, p0 = (a, c, (rSt s x Z).2.2.1 36, 0, 0, false, 0) := ⟨_, rfl⟩
  have hei := (lev_C (m := m) (s := (rSt s x Z)) (h0 := h0) (X := X) (F := (160 * x)) (Z := Z) hm rfl rfl (by omega) hZ 5).2.2
  have hn := next_g (b := (byP (rSt s x Z) (160 * x) Z)) (Z := Z) (p := p0) b_end (by rw [hp0]; exact Nat.zero_le _) (by rw [hp0]; exact Nat.zero_le _)
  have hn0 : pOp (nextF (byP (rSt s x Z) (160 * x) Z) Z p0) = 0 := by rw [hn.2.2.1, hp0]
  have hp1 := part_g (s := (rSt s x Z)) (F := (160 * x)) (Z := Z) (key := lN 388978) (ei := (lev (byP (rSt s x Z) (160 * x) Z) Z 5).2.2) (fun r a b => (hei r a b).2) hn.1 hn0
  have t104 : ∀ q : PS, readP (byP (rSt s x Z) (160 * x) Z) Z p0 = q → AJ X M yX12_read cX12_read 6 (some .int) 104 [(0, .ref (m 65)), (2, .int (nI w)), (3, .int ((readE (byP (rSt s x Z) (160 * x) Z) Z p0).1.1.2 (rSt s x Z).1)), (4, .int ((readE (byP (rSt s x Z) (160 * x) Z) Z p0).2.1.1.2 (rSt s x Z).1)), (5, .int ((readE (byP (rSt s x Z) (160 * x) Z) Z p0).2.2.1.2 (rSt s x Z).1))] [] (mh m (pst (rSt s x Z) q) h0) 0 0 := by
    intro q hq
    refine a_iload_n (pc := 104) dX12_read_104 rfl rfl ?_
    refine a_if_neN (pc := 105) (tgt := 112) dX12_read_105 (by decide) (by omega) (fun c105 => ?_) (fun c105 => ?_)
    · refine a_iload_n (pc := 112) dX12_read_112 rfl rfl ?_
      refine a_iconst (pc := 113) dX12_read_113 ic_1 ?_
      refine a_icmp_neN (pc := 114) (tgt := 122) dX12_read_114 (by decide) (by omega) (by omega) (fun c114 => ?_) (fun c114 => ?_)
      · refine a_iload (pc := 122) dX12_read_122 rfl ?_
        refine a_ret_i (pc := 124) hM rfl (rfl) dX12_read_124 (by omega) (by omega) ?_
        exact ⟨p0, by rw [hp0]; exact ⟨rfl, rfl, rfl, rfl⟩, (by first | exact congrArg (fun v => some (Value.int v)) (show _ = exAt _ w _ by rw [exAt, if_pos c105]; rfl) | exact congrArg (fun v => some (Value.int v)) (show _ = exAt _ w _ by rw [exAt, if_neg (by omega), if_pos c114]; rfl) | exact congrArg (fun v => some (Value.int v)) (show _ = exAt _ w _ by rw [exAt, if_neg (by omega), if_neg c114]; rfl)), by rw [← hq]; rfl⟩
      · refine a_iload (pc := 117) dX12_read_117 rfl ?_
        refine a_goto (pc := 119) (tgt := 124) dX12_read_119 (by decide) ?_
        refine a_ret_i (pc := 124) hM rfl (rfl) dX12_read_124 (by omega) (by omega) ?_
        exact ⟨p0, by rw [hp0]; exact ⟨rfl, rfl, rfl, rfl⟩, (by first | exact congrArg (fun v => some (Value.int v)) (show _ = exAt _ w _ by rw [exAt, if_pos c105]; rfl) | exact congrArg (fun v => some (Value.int v)) (show _ = exAt _ w _ by rw [exAt, if_neg (by omega), if_pos c114]; rfl) | exact congrArg (fun v => some (Value.int v)) (show _ = exAt _ w _ by rw [exAt, if_neg (by omega), if_neg c114]; rfl)), by rw [← hq]; rfl⟩
    · refine a_iload_n (pc := 108) dX12_read_108 rfl rfl ?_
      refine a_goto (pc := 109) (tgt := 124) dX12_read_109 (by decide) ?_
      refine a_ret_i (pc := 124) hM rfl (rfl) dX12_read_124 (by omega) (by omega) ?_
      exact ⟨p0, by rw [hp0]; exact ⟨rfl, rfl, rfl, rfl⟩, (by first | exact congrArg (fun v => some (Value.int v)) (show _ = exAt _ w _ by rw [exAt, if_pos c105]; rfl) | exact congrArg (fun v => some (Value.int v)) (show _ = exAt _ w _ by rw [exAt, if_neg (by omega), if_pos c114]; rfl) | exact congrArg (fun v => some (Value.int v)) (show _ = exAt _ w _ by rw [exAt, if_neg (by omega), if_neg c114]; rfl)), by rw [← hq]; rfl⟩
  have t84 : ∀ q : PS, gP Z q → (readE (byP (rSt s x Z) (160 * x) Z) Z p0).2.2.2 = q → AJ X M yX12_read cX12_read 6 (some .int) 84 [(0, .ref (m 65)), (2, .int (nI w)), (3, .int ((readE (byP (rSt s x Z) (160 * x) Z) Z p0).1.1.2 (rSt s x Z).1)), (4, .int ((readE (byP (rSt s x Z) (160 * x) Z) Z p0).2.1.1.2 (rSt s x Z).1))] [.int ((readE (byP (rSt s x Z) (160 * x) Z) Z p0).2.2.1.2 (rSt s x Z).1)] (mh m (pst (rSt s x Z) q) h0) 0 0 := by
    intro q hg hq
    have hk0 := hg.1
    refine a_istore (pc := 84) dX12_read_84 (by decide) rfl ?_
    refine a_aload_n (pc := 86) dX12_read_86 rfl rfl ?_
    refine a_getfield (pc := 87) kg_X12_278 dX12_read_87 (m_obj hm) rfl ?_
    refine a_topi ((show _ = bI (pBad (q)) from rfl)) ?_
    refine a_if_neB (pc := 90) (tgt := 104) dX12_read_90 (by decide) (fun c90 => ?_) (fun c90 => ?_)
    · first | exact a_locR (t104 q (by rw [readP, endF, hq, if_pos c90])) ⟨rfl, rfl, rfl, rfl, rfl, trivial⟩ | exact a_locR (t104 q (by rw [readP, endF, hq, if_neg (by rw [c90]; decide), if_pos c97])) ⟨rfl, rfl, rfl, rfl, rfl, trivial⟩ | exact a_locR (t104 (failP q) (by rw [readP, endF, hq, if_neg (by rw [c90]; decide), if_neg (Nat.ne_of_gt c97)])) ⟨rfl, rfl, rfl, rfl, rfl, trivial⟩
    · refine a_aload_n (pc := 93) dX12_read_93 rfl rfl ?_
      refine a_getfield (pc := 94) kg_X12_257 dX12_read_94 (m_obj hm) rfl ?_
      refine a_topi ((show _ = nI (pTk q) from rfl)) ?_
      refine a_if_eqN (pc := 97) (tgt := 104) dX12_read_97 (by decide) (by omega) (fun c97 => ?_) (fun c97 => ?_)
      · first | exact a_locR (t104 q (by rw [readP, endF, hq, if_pos c90])) ⟨rfl, rfl, rfl, rfl, rfl, trivial⟩ | exact a_locR (t104 q (by rw [readP, endF, hq, if_neg (by rw [c90]; decide), if_pos c97])) ⟨rfl, rfl, rfl, rfl, rfl, trivial⟩ | exact a_locR (t104 (failP q) (by rw [readP, endF, hq, if_neg (by rw [c90]; decide), if_neg (Nat.ne_of_gt c97)])) ⟨rfl, rfl, rfl, rfl, rfl, trivial⟩
      · refine a_aload_n (pc := 100) dX12_read_100 rfl rfl ?_
        refine a_callV (pc := 101) km_X12_288 dX12_read_101 (f_fail hm q) rfl rfl (krecv_of (ci := 12) rfl (m_obj hm)) (rok_of hM (by omega) (by decide) (by omega) (by omega)) (Nat.le_of_ble_eq_true rfl) (fun r101 h101 hp101 => ?_)
        obtain ⟨rfl, rfl⟩ := hp101
        first | exact a_locR (t104 q (by rw [readP, endF, hq, if_pos c90])) ⟨rfl, rfl, rfl, rfl, rfl, trivial⟩ | exact a_locR (t104 q (by rw [readP, endF, hq, if_neg (by rw [c90]; decide), if_pos c97])) ⟨rfl, rfl, rfl, rfl, rfl, trivial⟩ | exact a_locR (t104 (failP q) (by rw [readP, endF, hq, if_neg (by rw [c90]; decide), if_neg (Nat.ne_of_gt c97)])) ⟨rfl, rfl, rfl, rfl, rfl, trivial⟩
  have t64 : ∀ q : PS, gP Z q → pOp q = 0 → (readE (byP (rSt s x Z) (160 * x) Z) Z p0).2.1.2 = q → AJ X M yX12_read cX12_read 6 (some .int) 64 [(0, .ref (m 65)), (2, .int (nI w)), (3, .int ((readE (byP (rSt s x Z) (160 * x) Z) Z p0).1.1.2 (rSt s x Z).1))] [.int ((readE (byP (rSt s x Z) (160 * x) Z) Z p0).2.1.1.2 (rSt s x Z).1)] (mh m (pst (rSt s x Z) q) h0) 0 0 := by
    intro q hg hop hq
    have he : (readE (byP (rSt s x Z) (160 * x) Z) Z p0).2.2 = keepF (byP (rSt s x Z) (160 * x) Z) Z (lev (byP (rSt s x Z) (160 * x) Z) Z 5).2.2 (lN 13903) q := by rw [← hq]; rfl
    refine a_istore (pc := 64) dX12_read_64 (by decide) rfl ?_
    refine a_aload_n (pc := 66) dX12_read_66 rfl rfl ?_
    refine a_getfield (pc := 67) kg_X12_278 dX12_read_67 (m_obj hm) rfl ?_
    refine a_topi ((show _ = bI (pBad (q)) from rfl)) ?_
    refine a_if_eqB (pc := 70) (tgt := 77) dX12_read_70 (by decide) (fun c70 => ?_) (fun c70 => ?_)
    · have hk : keepF (byP (rSt s x Z) (160 * x) Z) Z (lev (byP (rSt s x Z) (160 * x) Z) Z 5).2.2 (lN 13903) q = partF (byP (rSt s x Z) (160 * x) Z) Z (lev (byP (rSt s x Z) (160 * x) Z) Z 5).2.2 (lN 13903) q := if_neg (by rw [c70]; decide)
      refine a_aload_n (pc := 77) dX12_read_77 rfl rfl ?_
      refine a_ldc2 (pc := 78) kc_X12_375 dX12_read_78 ?_
      refine a_topl (z := lN 13903) rfl ?_
      refine a_callV (pc := 81) km_X12_369 dX12_read_81 (f_part (s := (rSt s x Z)) hm rfl rfl (by omega) hZ (lN 13903) q hg hop) rfl rfl (krecv_of (ci := 12) rfl (m_obj hm)) (rok_of hM (by omega) (by decide) (by omega) (by omega)) (Nat.le_of_ble_eq_true rfl) (fun r81 h81 hp81 => ?_)
      obtain ⟨rfl, rfl⟩ := hp81
      have hk2 : gP Z ((readE (byP (rSt s x Z) (160 * x) Z) Z p0).2.2).2 ∧ pOp ((readE (byP (rSt s x Z) (160 * x) Z) Z p0).2.2).2 = 0 := by rw [he, hk]; first | exact part_g (s := (rSt s x Z)) (F := (160 * x)) (Z := Z) (key := lN 13903) (ei := (lev (byP (rSt s x Z) (160 * x) Z) Z 5).2.2) (fun r a b => (hei r a b).2) hg hop | exact ⟨hg, hop⟩
      refine a_hp (show _ = mh m (pst (rSt s x Z) ((readE (byP (rSt s x Z) (160 * x) Z) Z p0).2.2).2) h0 by rw [he, hk]) ?_
      refine a_topi (show _ = ((readE (byP (rSt s x Z) (160 * x) Z) Z p0).2.2).1.2 (rSt s x Z).1 by (rw [he, hk]) <;> rfl) ?_
      exact a_locR (t84 ((readE (byP (rSt s x Z) (160 * x) Z) Z p0).2.2).2 hk2.1 rfl) ⟨rfl, rfl, rfl, rfl, trivial⟩
    · have hk : keepF (byP (rSt s x Z) (160 * x) Z) Z (lev (byP (rSt s x Z) (160 * x) Z) Z 5).2.2 (lN 13903) q = (eNum 0, q) := if_pos c70
      refine a_iconst (pc := 73) dX12_read_73 ic_0 ?_
      refine a_goto (pc := 74) (tgt := 84) dX12_read_74 (by decide) ?_
      have hk2 : gP Z ((readE (byP (rSt s x Z) (160 * x) Z) Z p0).2.2).2 ∧ pOp ((readE (byP (rSt s x Z) (160 * x) Z) Z p0).2.2).2 = 0 := by rw [he, hk]; first | exact part_g (s := (rSt s x Z)) (F := (160 * x)) (Z := Z) (key := lN 13903) (ei := (lev (byP (rSt s x Z) (160 * x) Z) Z 5).2.2) (fun r a b => (hei r a b).2) hg hop | exact ⟨hg, hop⟩
      refine a_hp (show _ = mh m (pst (rSt s x Z) ((readE (byP (rSt s x Z) (160 * x) Z) Z p0).2.2).2) h0 by rw [he, hk]) ?_
      refine a_topi (show _ = ((readE (byP (rSt s x Z) (160 * x) Z) Z p0).2.2).1.2 (rSt s x Z).1 by (rw [he, hk]) <;> rfl) ?_
      exact a_locR (t84 ((readE (byP (rSt s x Z) (160 * x) Z) Z p0).2.2).2 hk2.1 rfl) ⟨rfl, rfl, rfl, rfl, trivial⟩
  have t45 : ∀ q : PS, gP Z q → pOp q = 0 → (readE (byP (rSt s x Z) (160 * x) Z) Z p0).1.2 = q → AJ X M yX12_read cX12_read 6 (some .int) 45 [(0, .ref (m 65)), (2, .int (nI w))] [.int ((readE (byP (rSt s x Z) (160 * x) Z) Z p0).1.1.2 (rSt s x Z).1)] (mh m (pst (rSt s x Z) q) h0) 0 0 := by
    intro q hg hop hq
    have he : (readE (byP (rSt s x Z) (160 * x) Z) Z p0).2.1 = keepF (byP (rSt s x Z) (160 * x) Z) Z (lev (byP (rSt s x Z) (160 * x) Z) Z 5).2.2 (lN 220309) q := by rw [← hq]; rfl
    refine a_istore_n (pc := 45) dX12_read_45 rfl (by decide) rfl ?_
    refine a_aload_n (pc := 46) dX12_read_46 rfl rfl ?_
    refine a_getfield (pc := 47) kg_X12_278 dX12_read_47 (m_obj hm) rfl ?_
    refine a_topi ((show _ = bI (pBad (q)) from rfl)) ?_
    refine a_if_eqB (pc := 50) (tgt := 57) dX12_read_50 (by decide) (fun c50 => ?_) (fun c50 => ?_)
    · have hk : keepF (byP (rSt s x Z) (160 * x) Z) Z (lev (byP (rSt s x Z) (160 * x) Z) Z 5).2.2 (lN 220309) q = partF (byP (rSt s x Z) (160 * x) Z) Z (lev (byP (rSt s x Z) (160 * x) Z) Z 5).2.2 (lN 220309) q := if_neg (by rw [c50]; decide)
      refine a_aload_n (pc := 57) dX12_read_57 rfl rfl ?_
      refine a_ldc2 (pc := 58) kc_X12_373 dX12_read_58 ?_
      refine a_topl (z := lN 220309) rfl ?_
      refine a_callV (pc := 61) km_X12_369 dX12_read_61 (f_part (s := (rSt s x Z)) hm rfl rfl (by omega) hZ (lN 220309) q hg hop) rfl rfl (krecv_of (ci := 12) rfl (m_obj hm)) (rok_of hM (by omega) (by decide) (by omega) (by omega)) (Nat.le_of_ble_eq_true rfl) (fun r61 h61 hp61 => ?_)
      obtain ⟨rfl, rfl⟩ := hp61
      have hk2 : gP Z ((readE (byP (rSt s x Z) (160 * x) Z) Z p0).2.1).2 ∧ pOp ((readE (byP (rSt s x Z) (160 * x) Z) Z p0).2.1).2 = 0 := by rw [he, hk]; first | exact part_g (s := (rSt s x Z)) (F := (160 * x)) (Z := Z) (key := lN 220309) (ei := (lev (byP (rSt s x Z) (160 * x) Z) Z 5).2.2) (fun r a b => (hei r a b).2) hg hop | exact ⟨hg, hop⟩
      refine a_hp (show _ = mh m (pst (rSt s x Z) ((readE (byP (rSt s x Z) (160 * x) Z) Z p0).2.1).2) h0 by rw [he, hk]) ?_
      refine a_topi (show _ = ((readE (byP (rSt s x Z) (160 * x) Z) Z p0).2.1).1.2 (rSt s x Z).1 by (rw [he, hk]) <;> rfl) ?_
      exact a_locR (t64 ((readE (byP (rSt s x Z) (160 * x) Z) Z p0).2.1).2 hk2.1 hk2.2 rfl) ⟨rfl, rfl, rfl, trivial⟩
    · have hk : keepF (byP (rSt s x Z) (160 * x) Z) Z (lev (byP (rSt s x Z) (160 * x) Z) Z 5).2.2 (lN 220309) q = (eNum 0, q) := if_pos c50
      refine a_iconst (pc := 53) dX12_read_53 ic_0 ?_
      refine a_goto (pc := 54) (tgt := 64) dX12_read_54 (by decide) ?_
      have hk2 : gP Z ((readE (byP (rSt s x Z) (160 * x) Z) Z p0).2.1).2 ∧ pOp ((readE (byP (rSt s x Z) (160 * x) Z) Z p0).2.1).2 = 0 := by rw [he, hk]; first | exact part_g (s := (rSt s x Z)) (F := (160 * x)) (Z := Z) (key := lN 220309) (ei := (lev (byP (rSt s x Z) (160 * x) Z) Z 5).2.2) (fun r a b => (hei r a b).2) hg hop | exact ⟨hg, hop⟩
      refine a_hp (show _ = mh m (pst (rSt s x Z) ((readE (byP (rSt s x Z) (160 * x) Z) Z p0).2.1).2) h0 by rw [he, hk]) ?_
      refine a_topi (show _ = ((readE (byP (rSt s x Z) (160 * x) Z) Z p0).2.1).1.2 (rSt s x Z).1 by (rw [he, hk]) <;> rfl) ?_
      exact a_locR (t64 ((readE (byP (rSt s x Z) (160 * x) Z) Z p0).2.1).2 hk2.1 hk2.2 rfl) ⟨rfl, rfl, rfl, trivial⟩
  refine a_aload_n (pc := 0) dX12_read_0 rfl rfl ?_
  refine a_sipush (pc := 1) dX12_read_1 is_160 ?_
  refine a_iload_n (pc := 4) dX12_read_4 rfl rfl ?_
  refine a_imulN (pc := 5) dX12_read_5 ?_
  refine a_putfield (pc := 6) kf_X12_245 dX12_read_6 (m_obj hm) (rfl) (by rfl) (Nat.le_of_ble_eq_true rfl) ?_
  refine a_hp (m_p32 hm) ?_
  refine a_aload_n (pc := 9) dX12_read_9 rfl rfl ?_
  refine a_aload_n (pc := 10) dX12_read_10 rfl rfl ?_
  refine a_getfield (pc := 11) kg_X12_17 dX12_read_11 (m_obj hm) rfl ?_
  refine a_iload_n (pc := 14) dX12_read_14 rfl rfl ?_
  refine a_iaload (pc := 15) dX12_read_15 (m_a2 hm) (x) (rfl) (by omega) (by omega) ?_
  refine a_topi (hz) ?_
  refine a_putfield (pc := 16) kf_X12_242 dX12_read_16 (m_obj hm) (rfl) (by rfl) (Nat.le_of_ble_eq_true rfl) ?_
  refine a_hp (m_p33 hm) ?_
  refine a_aload_n (pc := 19) dX12_read_19 rfl rfl ?_
  refine a_iconst (pc := 20) dX12_read_20 ic_0 ?_
  refine a_putfield (pc := 21) kf_X12_248 dX12_read_21 (m_obj hm) (rfl) (by rfl) (Nat.le_of_ble_eq_true rfl) ?_
  refine a_hp (m_p37 hm) ?_
  refine a_aload_n (pc := 24) dX12_read_24 rfl rfl ?_
  refine a_iconst (pc := 25) dX12_read_25 ic_0 ?_
  refine a_putfield (pc := 26) kf_X12_285 dX12_read_26 (m_obj hm) (rfl) (by rfl) (Nat.le_of_ble_eq_true rfl) ?_
  refine a_hp (m_p38 hm) ?_
  refine a_aload_n (pc := 29) dX12_read_29 rfl rfl ?_
  refine a_iconst (pc := 30) dX12_read_30 ic_0 ?_
  refine a_putfield (pc := 31) kf_X12_278 dX12_read_31 (m_obj hm) (rfl) (by rfl) (Nat.le_of_ble_eq_true rfl) ?_
  refine a_hp (m_p39 hm) ?_
  refine a_hp (show _ = mh m (pst (rSt s x Z) p0) h0 from congrArg (fun t => mh m t h0) ((start_pst (s := (rSt s x Z)) h34 h35).trans (by rw [hp0]))) ?_
  refine a_aload_n (pc := 34) dX12_read_34 rfl rfl ?_
  refine a_callV (pc := 35) km_X12_291 dX12_read_35 (f_next (s := (rSt s x Z)) hm p0 rfl rfl (by omega) hZ (by rw [hp0]; exact Nat.zero_le _)) rfl rfl (krecv_of (ci := 12) rfl (m_obj hm)) (rok_of hM (by omega) (by decide) (by omega) (by omega)) (Nat.le_of_ble_eq_true rfl) (fun r35 h35 hp35 => ?_)
  obtain ⟨rfl, rfl⟩ := hp35
  refine a_aload_n (pc := 38) dX12_read_38 rfl rfl ?_
  refine a_ldc2 (pc := 39) kc_X12_367 dX12_read_39 ?_
  refine a_topl (z := lN 388978) rfl ?_
  refine a_callV (pc := 42) km_X12_369 dX12_read_42 (f_part (s := (rSt s x Z)) hm rfl rfl (by omega) hZ (lN 388978) (nextF (byP (rSt s x Z) (160 * x) Z) Z p0) hn.1 hn0) rfl rfl (krecv_of (ci := 12) rfl (m_obj hm)) (rok_of hM (by omega) (by decide) (by omega) (by omega)) (Nat.le_of_ble_eq_true rfl) (fun r42 h42 hp42 => ?_)
  obtain ⟨rfl, rfl⟩ := hp42
  exact a_locR (t45 (readE (byP (rSt s x Z) (160 * x) Z) Z p0).1.2 hp1.1 hp1.2 rfl) ⟨rfl, rfl, trivial⟩

end MQ5

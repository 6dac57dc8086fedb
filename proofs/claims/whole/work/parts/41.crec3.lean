/-! THE CLASS READS: a whole text -/
section CRQ
variable {X : KX} {h : AH} {s : MST}
theorem lev_ok1 {F Z : Nat} {j : Nat} {on no ei : PS → Rs} (hon : ∀ i, j = i + 1 → ∀ p, gP Z p → pOp p + i = 5 → oK Z p (on p)) (hno : ∀ i, j = i + 1 → ∀ p, gP Z p → pOp p + i = 5 → oK Z p (no p)) (hei : ∀ i, j = i + 1 → ∀ p, gP Z p → pOp p + i = 5 → oK Z p (ei p)) :
    (∀ p, gP Z p → pOp p + j = 5 → oK Z p (oneL (byP s F Z) Z on ei p)) ∧ (∀ p, gP Z p → pOp p + j = 5 → oK Z p (termL (byP s F Z) Z (oneL (byP s F Z) Z on ei) p)) ∧ (∀ p, gP Z p → pOp p + j = 5 → oK Z p (addedL (byP s F Z) Z (termL (byP s F Z) Z (oneL (byP s F Z) Z on ei)) p)) ∧ (∀ p, gP Z p → pOp p + j = 5 → oK Z p ((notL (byP s F Z) Z (addedL (byP s F Z) Z (termL (byP s F Z) Z (oneL (byP s F Z) Z on ei))) no) p)) ∧ (∀ p, gP Z p → pOp p + j = 5 → oK Z p (bothL (byP s F Z) Z (notL (byP s F Z) Z (addedL (byP s F Z) Z (termL (byP s F Z) Z (oneL (byP s F Z) Z on ei))) no) p)) ∧ (∀ p, gP Z p → pOp p + j = 5 → oK Z p (eitherL (byP s F Z) Z (bothL (byP s F Z) Z (notL (byP s F Z) Z (addedL (byP s F Z) Z (termL (byP s F Z) Z (oneL (byP s F Z) Z on ei))) no)) p)) := by
  have h1 : ∀ p, gP Z p → pOp p + j = 5 → oK Z p (oneL (byP s F Z) Z on ei p) := fun p a b => one_ok hon hei a b
  have h2 : ∀ p, gP Z p → pOp p + j = 5 → oK Z p (termL (byP s F Z) Z (oneL (byP s F Z) Z on ei) p) := fun p a b => termL_ok h1 a b
  have h3 : ∀ p, gP Z p → pOp p + j = 5 → oK Z p (addedL (byP s F Z) Z (termL (byP s F Z) Z (oneL (byP s F Z) Z on ei)) p) := fun p a b => addedL_ok h2 a b
  have h4 : ∀ p, gP Z p → pOp p + j = 5 → oK Z p ((notL (byP s F Z) Z (addedL (byP s F Z) Z (termL (byP s F Z) Z (oneL (byP s F Z) Z on ei))) no) p) := fun p a b => not_ok h3 hno a b
  have h5 : ∀ p, gP Z p → pOp p + j = 5 → oK Z p (bothL (byP s F Z) Z (notL (byP s F Z) Z (addedL (byP s F Z) Z (termL (byP s F Z) Z (oneL (byP s F Z) Z on ei))) no) p) := fun p a b => bothL_ok h4 a b
  exact ⟨h1, h2, h3, h4, h5, fun p a b => eitherL_ok h5 a b⟩
theorem lev_ok {F Z : Nat} (j : Nat) : (∀ p, gP Z p → pOp p + j = 5 → oK Z p ((lev (byP s F Z) Z j).1 p)) ∧ (∀ p, gP Z p → pOp p + j = 5 → oK Z p ((lev (byP s F Z) Z j).2.1 p)) ∧ (∀ p, gP Z p → pOp p + j = 5 → oK Z p ((lev (byP s F Z) Z j).2.2 p)) := by
  induction j with
  | zero =>
    have h := lev_ok1 (s := s) (F := F) (Z := Z) (j := 0) (on := fun p => (eNum 0, p)) (no := fun p => (eNum 0, p)) (ei := fun p => (eNum 0, p)) (fun i hi => absurd hi (by omega)) (fun i hi => absurd hi (by omega)) (fun i hi => absurd hi (by omega))
    exact ⟨h.1, h.2.2.2.1, h.2.2.2.2.2⟩
  | succ j ih =>
    have h := lev_ok1 (s := s) (F := F) (Z := Z) (j := j + 1) (on := (lev (byP s F Z) Z j).1) (no := (lev (byP s F Z) Z j).2.1) (ei := (lev (byP s F Z) Z j).2.2) (fun i hi => by obtain rfl : j = i := (by omega); exact ih.1) (fun i hi => by obtain rfl : j = i := (by omega); exact ih.2.1) (fun i hi => by obtain rfl : j = i := (by omega); exact ih.2.2)
    exact ⟨h.1, h.2.2.2.1, h.2.2.2.2.2⟩
theorem c_lev1 {F Z r t kk pp nn cd en c : Nat} {fk fp fn : Nat → Int32} (d : RF h r t kk pp nn cd c fk fp fn) (hT : TokOk (byP s F Z) Z c fk fp fn) (hZ : Z ≤ 160) {j : Nat} {on no ei : PS → Rs} (hon : ∀ i, j = i + 1 → crC X h r t cd en c (byP s F Z) Z (3 + 11 * i) i yX4_part cX4_part 3 [.int (nI 4), .int (nI (5 - i))] (on)) (hno : ∀ i, j = i + 1 → crC X h r t cd en c (byP s F Z) Z (9 + 11 * i) i yX4_part cX4_part 3 [.int (nI 1), .int (nI (5 - i))] (no)) (hei : ∀ i, j = i + 1 → crC X h r t cd en c (byP s F Z) Z (12 + 11 * i) i yX4_chain cX4_chain 5 [.int (nI 0), .int (nI (5 - i))] (ei))
    (oon : ∀ i, j = i + 1 → ∀ p, gP Z p → pOp p + i = 5 → oK Z p (on p)) (ono : ∀ i, j = i + 1 → ∀ p, gP Z p → pOp p + i = 5 → oK Z p (no p)) (oei : ∀ i, j = i + 1 → ∀ p, gP Z p → pOp p + i = 5 → oK Z p (ei p)) (pon : PRp on) (pno : PRp no) (pei : PRp ei) :
    crC X h r t cd en c (byP s F Z) Z (3 + 11 * j) j yX4_part cX4_part 3 [.int (nI 4), .int (nI (5 - j))] (oneL (byP s F Z) Z on ei) ∧ crC X h r t cd en c (byP s F Z) Z (9 + 11 * j) j yX4_part cX4_part 3 [.int (nI 1), .int (nI (5 - j))] ((notL (byP s F Z) Z (addedL (byP s F Z) Z (termL (byP s F Z) Z (oneL (byP s F Z) Z on ei))) no)) ∧ crC X h r t cd en c (byP s F Z) Z (12 + 11 * j) j yX4_chain cX4_chain 5 [.int (nI 0), .int (nI (5 - j))] (eitherL (byP s F Z) Z (bothL (byP s F Z) Z (notL (byP s F Z) Z (addedL (byP s F Z) Z (termL (byP s F Z) Z (oneL (byP s F Z) Z on ei))) no))) := by
  obtain ⟨o1, o2, o3, o4, o5, o6⟩ := lev_ok1 (s := s) (F := F) oon ono oei
  have p1 : PRp (oneL (byP s F Z) Z on ei) := pr_one pon pei
  have p2 : PRp (termL (byP s F Z) Z (oneL (byP s F Z) Z on ei)) := pr_termL p1
  have p3 : PRp (addedL (byP s F Z) Z (termL (byP s F Z) Z (oneL (byP s F Z) Z on ei))) := pr_addedL p2
  have p4 : PRp (notL (byP s F Z) Z (addedL (byP s F Z) Z (termL (byP s F Z) Z (oneL (byP s F Z) Z on ei))) no) := pr_notL p3 pno
  have p5 : PRp (bothL (byP s F Z) Z (notL (byP s F Z) Z (addedL (byP s F Z) Z (termL (byP s F Z) Z (oneL (byP s F Z) Z on ei))) no)) := pr_bothL p4
  have c1 : crC X h r t cd en c (byP s F Z) Z (2 + 11 * j) j yX4_one cX4_one 3 [.int (nI (5 - j))] (oneL (byP s F Z) Z on ei) := by
    rcases Nat.eq_zero_or_pos j with hj | hj
    · subst hj
      exact c_one d hT hZ (dp := 0) (dc := 0) (by omega) (by omega) (by omega) (fun i hi => absurd hi (by omega)) (fun i hi => absurd hi (by omega)) (fun i hi => absurd hi (by omega))
    · exact c_one d hT hZ (dp := 3 + 11 * (j - 1)) (dc := 12 + 11 * (j - 1)) (by omega) (by omega) (by omega) (fun i hi => by have e : j - 1 = i := (by omega); rw [e]; exact hon i hi) (fun i hi => by have e : j - 1 = i := (by omega); rw [e]; exact hei i hi) oei
  have c2 := c_part4 d hT hZ (dd := 3 + 11 * j) (by omega) c1
  have c3 := c_chain4 d hT hZ (dd := 4 + 11 * j) (by omega) (by omega) c2 o1 p1
  have c4 := c_part3 d hT hZ (dd := 5 + 11 * j) (by omega) c3
  have c5 := c_chain3 d hT hZ (dd := 6 + 11 * j) (by omega) (by omega) c4 o2 p2
  have c6 := c_part2 d hT hZ (dd := 7 + 11 * j) (by omega) c5
  have c7 := c_chain2 d hT hZ (dd := 8 + 11 * j) (by omega) (by omega) c6 o3 p3
  have c8 : crC X h r t cd en c (byP s F Z) Z (9 + 11 * j) j yX4_part cX4_part 3 [.int (nI 1), .int (nI (5 - j))] ((notL (byP s F Z) Z (addedL (byP s F Z) Z (termL (byP s F Z) Z (oneL (byP s F Z) Z on ei))) no)) := by
    rcases Nat.eq_zero_or_pos j with hj | hj
    · subst hj
      exact c_part1 d hT hZ (dp := 0) (by omega) (by omega) (by omega) (fun i hi => absurd hi (by omega)) c7
    · exact c_part1 d hT hZ (dp := 9 + 11 * (j - 1)) (by omega) (by omega) (by omega) (fun i hi => by have e : j - 1 = i := (by omega); rw [e]; exact hno i hi) c7
  have c9 := c_chain1 d hT hZ (dd := 10 + 11 * j) (by omega) (by omega) c8 o4 p4
  have c10 := c_part0 d hT hZ (dd := 11 + 11 * j) (by omega) c9
  have c11 := c_chain0 d hT hZ (dd := 12 + 11 * j) (by omega) (by omega) c10 o5 p5
  exact ⟨c2, c8, c11⟩
theorem c_lev {F Z r t kk pp nn cd en c : Nat} {fk fp fn : Nat → Int32} (d : RF h r t kk pp nn cd c fk fp fn) (hT : TokOk (byP s F Z) Z c fk fp fn) (hZ : Z ≤ 160) (j : Nat) : crC X h r t cd en c (byP s F Z) Z (3 + 11 * j) j yX4_part cX4_part 3 [.int (nI 4), .int (nI (5 - j))] ((lev (byP s F Z) Z j).1) ∧ crC X h r t cd en c (byP s F Z) Z (9 + 11 * j) j yX4_part cX4_part 3 [.int (nI 1), .int (nI (5 - j))] ((lev (byP s F Z) Z j).2.1) ∧ crC X h r t cd en c (byP s F Z) Z (12 + 11 * j) j yX4_chain cX4_chain 5 [.int (nI 0), .int (nI (5 - j))] ((lev (byP s F Z) Z j).2.2) := by
  induction j with
  | zero => exact c_lev1 d hT hZ (fun i hi => absurd hi (by omega)) (fun i hi => absurd hi (by omega)) (fun i hi => absurd hi (by omega)) (fun i hi => absurd hi (by omega)) (fun i hi => absurd hi (by omega)) (fun i hi => absurd hi (by omega)) pr_d pr_d pr_d
  | succ j ih =>
    have ho := lev_ok (s := s) (F := F) (Z := Z) j
    have hp := pr_lev (b := (byP s F Z)) (Z := Z) j
    exact c_lev1 d hT hZ (fun i hi => by obtain rfl : j = i := (by omega); exact ih.1) (fun i hi => by obtain rfl : j = i := (by omega); exact ih.2.1) (fun i hi => by obtain rfl : j = i := (by omega); exact ih.2.2) (fun i hi => by obtain rfl : j = i := (by omega); exact ho.1) (fun i hi => by obtain rfl : j = i := (by omega); exact ho.2.1) (fun i hi => by obtain rfl : j = i := (by omega); exact ho.2.2) hp.1 hp.2.1 hp.2.2
/-- once bad, a piece reads nothing on -/
def BDp (F : PS → Rs) : Prop := ∀ p, pBad p = true → (F p).2 = p
section
variable {b : Nat → Int32} {Z : Nat}
theorem bd_one {on ei : PS → Rs} : BDp (oneL b Z on ei) := fun p hb => by
  unfold oneL
  rw [if_neg (bad_S hb 45), if_neg (bad_S hb 40), if_neg (fun z => absurd (hb.symm.trans z.1) (by decide)), if_neg (fun z => absurd (hb.symm.trans z.1) (by decide))]
  exact failP_bad hb
theorem bd_loop {lf : Nat → Rs → Rs} {sub : PS → Rs} (hs : BDp sub) (hl : ∀ f r, pBad r.2 = true → (lf f r).2 = r.2) : BDp (fun p => lf (Z + 1) (sub p)) := fun p hb => by
  have e := hs p hb
  show (lf (Z + 1) (sub p)).2 = p
  rw [hl _ _ (by rw [e]; exact hb), e]
theorem bd_term {sub : PS → Rs} (hs : BDp sub) : BDp (termL b Z sub) := bd_loop (lf := stars b Z sub) hs (fun f r hb => by
  cases f with
  | zero => rfl
  | succ f => rw [stars, if_neg (bad_S hb _)])
theorem bd_added {sub : PS → Rs} (hs : BDp sub) : BDp (addedL b Z sub) := bd_loop (lf := sums b Z sub) hs (fun f r hb => by
  cases f with
  | zero => rfl
  | succ f => rw [sums, if_neg (bad_S hb _), if_neg (bad_S hb _)])
theorem bd_both {sub : PS → Rs} (hs : BDp sub) : BDp (bothL b Z sub) := bd_loop (lf := ands b Z sub) hs (fun f r hb => by
  cases f with
  | zero => rfl
  | succ f => rw [ands, if_neg (bad_W hb _)])
theorem bd_either {sub : PS → Rs} (hs : BDp sub) : BDp (eitherL b Z sub) := bd_loop (lf := orsF b Z sub) hs (fun f r hb => by
  cases f with
  | zero => rfl
  | succ f => rw [orsF, if_neg (bad_W hb _)])
theorem bd_not {ad no : PS → Rs} (ha : BDp ad) : BDp (notL b Z ad no) := fun p hb => by
  have e := ha p hb
  unfold notL
  rw [if_neg (bad_W hb _), if_neg (bad_S (by rw [e]; exact hb) _), if_neg (bad_S (by rw [e]; exact hb) _), e]
theorem bd_lev (j : Nat) : BDp (lev b Z j).2.2 := by
  cases j with
  | zero => exact bd_either (bd_both (bd_not (bd_added (bd_term bd_one))))
  | succ j => exact bd_either (bd_both (bd_not (bd_added (bd_term bd_one))))
end
theorem Rel_ex {b : Nat → Int32} {Z c : Nat} {fk fp fn : Nat → Int32} (hT : TokOk b Z c fk fp fn) (hZ : Z ≤ 160) {p : PS} {k : Nat} {tk ft x : Int32} {T : Bool} (h : RelR b Z c p k tk ft) (hg : gP Z p) (h1 : tk = x ↔ T = true) (h2 : T = true → pBad p = false ∧ gdT p) : RelR b Z c (nxP b Z (if T = true then p else failP p)) (exR c k fk fp tk ft x).1 (exR c k fk fp tk ft x).2.1 (exR c k fk fp tk ft x).2.2 ∧ k ≤ (exR c k fk fp tk ft x).1 := by
  cases hTt : T with
  | true =>
    obtain ⟨hb, hgd⟩ := h2 hTt
    obtain ⟨hs, hR⟩ := Rel_step hT h hb hgd
    have e : exR c k fk fp tk ft x = (k + 1, fk (k + 1), ft) := by rw [exR, if_pos (h1.mpr hTt), hs]
    rw [e, if_pos rfl, nxP, if_neg (by rw [hb]; decide)]
    exact ⟨hR, Nat.le_succ k⟩
  | false =>
    have hn : ¬ tk = x := fun z => absurd (hTt.symm.trans (h1.mp z)) (by decide)
    have e : exR c k fk fp tk ft x = (k, -2, rfF fp k ft) := if_neg hn
    rw [e, if_neg (by decide), nxP_bad (fail_bad p)]
    exact ⟨Rel_fail hT hZ h hg, Nat.le_refl k⟩
theorem RF_en {r t kk pp nn cd en c : Nat} {fk fp fn : Nat → Int32} {e : kE} (d : RF h r t kk pp nn cd c fk fp fn) (h1 : en ≠ t) (h2 : en ≠ kk) (h3 : en ≠ pp) (h4 : en ≠ nn) : RF (kput h en e) r t kk pp nn cd c fk fp fn := ⟨(kput_ne (Ne.symm h1)).trans d.1, (kput_ne (Ne.symm h2)).trans d.2.1, (kput_ne (Ne.symm h3)).trans d.2.2.1, (kput_ne (Ne.symm h4)).trans d.2.2.2.1, d.2.2.2.2⟩
theorem RH_en {r t cd en L k : Nat} {tk ft : Int32} {fc fe : Nat → Int32} (h1 : en ≠ r) (h2 : en ≠ cd) : RH (kput h en (kI 3 fe)) r t cd en L k tk ft fc en = some (kI 3 fe) := (kput_ne h1).trans ((kput_ne h2).trans kput_eq)
theorem RH_sen {r t cd en L k : Nat} {tk ft : Int32} {fc fe fe' : Nat → Int32} (h1 : en ≠ r) (h2 : en ≠ cd) : kput (RH (kput h en (kI 3 fe)) r t cd en L k tk ft fc) en (kI 3 fe') = RH (kput h en (kI 3 fe')) r t cd en L k tk ft fc := by
  unfold RH
  rw [kput_comm (a := r) (b := en) (Ne.symm h1), kput_comm (a := cd) (b := en) (Ne.symm h2), kput_put]
theorem endF_g {p : PS} (h : pBad (endF p) = false) : pBad p = false := by
  cases hb : pBad p with
  | false => rfl
  | true =>
    unfold endF at h
    rw [if_pos hb] at h
    exact absurd (hb.symm.trans h) (by decide)
theorem keepF_2 {b : Nat → Int32} {Z : Nat} {key : Int64} (q : PS) : (keepF b Z (lev b Z 5).2.2 key q).2 = (partF b Z (lev b Z 5).2.2 key q).2 := by
  unfold keepF
  by_cases hb : pBad q = true
  · rw [if_pos hb]
    show q = (partU b Z (lev b Z 5).2.2 (nxP b Z (if isW q key = true then q else failP q))).2
    rw [if_neg (bad_W hb _), failP_bad hb, nxP_bad hb, partU, if_pos hb]
    show q = partV b Z q
    rw [partV_bad hb]
  · rw [if_neg hb]
theorem keepF_1 {b : Nat → Int32} {Z : Nat} {key : Int64} {q : PS} (h : pBad (keepF b Z (lev b Z 5).2.2 key q).2 = false) : (keepF b Z (lev b Z 5).2.2 key q).1 = (partF b Z (lev b Z 5).2.2 key q).1 ∧ pBad q = false := by
  by_cases hb : pBad q = true
  · have e : keepF b Z (lev b Z 5).2.2 key q = (eNum 0, q) := if_pos hb
    rw [e] at h
    exact absurd (hb.symm.trans h) (by decide)
  · have e : keepF b Z (lev b Z 5).2.2 key q = partF b Z (lev b Z 5).2.2 key q := if_neg hb
    rw [e]
    exact ⟨rfl, by cases z : pBad q with | false => rfl | true => exact absurd z hb⟩
theorem ft_b {b : Nat → Int32} {Z c : Nat} {fk fp fn : Nat → Int32} (hT : TokOk b Z c fk fp fn) (hZ : Z ≤ 160) {p : PS} {k : Nat} {tk ft : Int32} (hR : RelR b Z c p k tk ft) (hg : gP Z p) (hb : pBad (endF p) = true) : pFt (endF p) ≤ 160 := by
  unfold endF at hb ⊢
  by_cases q : pBad p = true
  · rw [if_pos q]
    exact (hR.2.2.2.1 q).2
  · rw [if_neg q] at hb ⊢
    by_cases z : pTk p = 0
    · rw [if_pos z] at hb
      exact absurd hb q
    · rw [if_neg z] at hb ⊢
      exact ((Rel_fail hT hZ hR hg).2.2.2.1 hb).2
theorem ii_ne {h : AH} {a b n m : Nat} {f g : Nat → Int32} (ha : h a = some (kI n f)) (hb : h b = some (kI m g)) (hnm : n ≠ m := by decide) : a ≠ b := fun z => by
  rw [z, hb] at ha
  exact hnm (congrArg (fun q => match q with | Sum.inl (_, x) => x.1 | _ => 0) (Option.some.inj ha)).symm
set_option maxHeartbeats 2000000 in
set_option maxRecDepth 4000 in
theorem f_read4 {F Z r t kk pp nn cd en a bt cc0 L0 k0 : Nat} {tk0 ft0 : Int32} {fk0 fp0 fn0 fc0 fe0 f : Nat → Int32} (hTP : TP h a bt Z f) (hok : ∀ i, i < Z → okV (f i) 256) (hTD : TD t kk pp nn) (ht : h t = some (kO 10 [.ref kk, .ref pp, .ref nn, .int (nI cc0)])) (hkk : h kk = some (kI 161 fk0)) (hpp : h pp = some (kI 161 fp0)) (hnn : h nn = some (kI 161 fn0)) (b1 : bt ≠ kk) (b2 : bt ≠ pp) (b3 : bt ≠ nn) (hr : h r = some (kO 4 [.ref t, .ref cd, .ref en, .int (nI L0), .int (nI k0), .int tk0, .int ft0])) (hcd : h cd = some (kI 160 fc0)) (hen : h en = some (kI 3 fe0)) (hB : tB f Z = byP s F Z) (hZ : Z ≤ 160) : Fn X 68 0 0 yX4_read cX4_read 3 (some .int) [.ref r, .ref a] h (fun rv hv => rv = some (.int (if pBad (readP (byP s F Z) Z c0) = true then nI (pFt (readP (byP s F Z) Z c0)) else -1)) ∧ (pBad (readP (byP s F Z) Z c0) = true → pFt (readP (byP s F Z) Z c0) ≤ 160) ∧ ∃ (c : Nat) (fk fp fn fe : Nat → Int32) (L k : Nat) (tk ft : Int32) (fc : Nat → Int32), hv = RH (kput (TH h t kk pp nn c fk fp fn) en (kI 3 fe)) r t cd en L k tk ft fc ∧ (pBad (readP (byP s F Z) Z c0) = false → L ≤ 160 ∧ cod fc 0 ((readE (byP s F Z) Z c0).1.1.1 ++ (readE (byP s F Z) Z c0).2.1.1.1 ++ (readE (byP s F Z) Z c0).2.2.1.1) ∧ L = ((readE (byP s F Z) Z c0).1.1.1 ++ (readE (byP s F Z) Z c0).2.1.1.1 ++ (readE (byP s F Z) Z c0).2.2.1.1).length ∧ fe 0 = nI (readE (byP s F Z) Z c0).1.1.1.length ∧ fe 1 = nI ((readE (byP s F Z) Z c0).1.1.1 ++ (readE (byP s F Z) Z c0).2.1.1.1).length ∧ fe 2 = nI ((readE (byP s F Z) Z c0).1.1.1 ++ (readE (byP s F Z) Z c0).2.1.1.1 ++ (readE (byP s F Z) Z c0).2.2.1.1).length)) := by
  refine fn_of (by decide) (Nat.le_of_ble_eq_true rfl) (fun M hM => ?_)
  refine a_aload_n (pc := 0) dX4_read_0 rfl rfl ?_
  refine a_getfield (pc := 1) kg_X4_12 dX4_read_1 (hr) rfl ?_
  refine a_aload_n (pc := 4) dX4_read_4 rfl rfl ?_
  refine a_callV (pc := 5) km_X4_27 dX4_read_5 (f_cutTape hTP hok hTD ht hkk hpp hnn b1 b2 b3) rfl rfl (krecv_of (by rfl) ht) (rok_of hM (by omega) (by decide) (by omega) (by omega)) (Nat.le_of_ble_eq_true rfl) (fun r5 h5 hp5 => ?_)
  obtain ⟨rfl, c, fk, fp, fn, rfl, hT⟩ := hp5
  rw [hB] at hT
  have hI : itP (byP s F Z) Z 1 = nextF (byP s F Z) Z c0 := rfl
  have eE1 : (readE (byP s F Z) Z c0).1 = (partF (byP s F Z) Z (lev (byP s F Z) Z 5).2.2 (lN (wV 6)) (itP (byP s F Z) Z 1)) := by rw [(show wV 6 = 388978 by decide +kernel)]; rfl
  have eE2 : (readE (byP s F Z) Z c0).2.1 = keepF (byP s F Z) Z (lev (byP s F Z) Z 5).2.2 (lN (wV 7)) (partF (byP s F Z) Z (lev (byP s F Z) Z 5).2.2 (lN (wV 6)) (itP (byP s F Z) Z 1)).2 := by rw [(show wV 6 = 388978 by decide +kernel), (show wV 7 = 220309 by decide +kernel)]; rfl
  have eE3 : (readE (byP s F Z) Z c0).2.2 = keepF (byP s F Z) Z (lev (byP s F Z) Z 5).2.2 (lN (wV 8)) (keepF (byP s F Z) Z (lev (byP s F Z) Z 5).2.2 (lN (wV 7)) (partF (byP s F Z) Z (lev (byP s F Z) Z 5).2.2 (lN (wV 6)) (itP (byP s F Z) Z 1)).2).2 := by rw [(show wV 6 = 388978 by decide +kernel), (show wV 7 = 220309 by decide +kernel), (show wV 8 = 13903 by decide +kernel)]; rfl
  have eRP : (readP (byP s F Z) Z c0) = endF (partF (byP s F Z) Z (lev (byP s F Z) Z 5).2.2 (lN (wV 8)) (partF (byP s F Z) Z (lev (byP s F Z) Z 5).2.2 (lN (wV 7)) (partF (byP s F Z) Z (lev (byP s F Z) Z 5).2.2 (lN (wV 6)) (itP (byP s F Z) Z 1)).2).2).2 := by
    show endF (readE (byP s F Z) Z c0).2.2.2 = _
    rw [eE3, keepF_2, keepF_2]
  have hn1 := next_g (b := (byP s F Z)) (Z := Z) (p := c0) b_end (Nat.zero_le _) (Nat.zero_le _)
  have hei5 := (lev_ok (s := s) (F := F) (Z := Z) 5).2.2
  have hgg1 := part_g (s := s) (F := F) (Z := Z) (key := lN (wV 6)) (ei := (lev (byP s F Z) Z 5).2.2) hei5 hn1.1 (by rw [hn1.2.2.1]; rfl)
  have hgg2 := part_g (s := s) (F := F) (Z := Z) (key := lN (wV 7)) (ei := (lev (byP s F Z) Z 5).2.2) hei5 hgg1.1 hgg1.2
  have hgg3 := part_g (s := s) (F := F) (Z := Z) (key := lN (wV 8)) (ei := (lev (byP s F Z) Z 5).2.2) hei5 hgg2.1 hgg2.2
  have d : RF (TH h t kk pp nn c fk fp fn) r t kk pp nn cd c fk fp fn := ⟨TH_t, TH_k hTD, TH_p hTD, TH_n hTD, hT.1, oi_ne hr hcd, oo_ne ht hr, oi_ne ht hcd, (oi_ne hr hkk).symm, ii_ne hkk hcd, (oi_ne hr hpp).symm, ii_ne hpp hcd, (oi_ne hr hnn).symm, ii_ne hnn hcd⟩
  have n1 : en ≠ t := (oi_ne ht hen).symm
  have n2 : en ≠ kk := ii_ne hen hkk
  have n3 : en ≠ pp := ii_ne hen hpp
  have n4 : en ≠ nn := ii_ne hen hnn
  have n5 : en ≠ r := (oi_ne hr hen).symm
  have n6 : en ≠ cd := ii_ne hen hcd
  have hr2 : TH h t kk pp nn c fk fp fn r = _ := (TH_o (oo_ne hr ht) (oi_ne hr hkk) (oi_ne hr hpp) (oi_ne hr hnn)).trans hr
  have hcd2 : TH h t kk pp nn c fk fp fn cd = _ := (TH_o (oi_ne ht hcd).symm (ii_ne hcd hkk) (ii_ne hcd hpp) (ii_ne hcd hnn)).trans hcd
  have hen2 : TH h t kk pp nn c fk fp fn en = _ := (TH_o n1 n2 n3 n4).trans hen
  have hR0 : RelR (byP s F Z) Z c (itP (byP s F Z) Z 1) 0 (fk 0) (-1) := by
    have h0 := hT.2 0 (fun j hj => absurd hj (Nat.not_lt_zero _))
    have hb0 := itP_bad (byP s F Z) Z 1
    refine ⟨h0.1, ?_, wt_next _, fun z => absurd (hb0.symm.trans z) (by decide), fun _ => ⟨rfl, fun j hj => absurd hj (Nat.not_lt_zero _), 0, ?_⟩⟩
    · rw [h0.2.1]
      unfold tkOf
      rw [hb0, if_neg (by decide)]
    · rw [hI]
      show nextF (byP s F Z) Z c0 = uOp (nextF (byP s F Z) Z c0) 0
      rw [← next_op]
      rfl
  have stg : ∀ (i : Nat) (p : PS) (L k : Nat) (tk ft : Int32) (fc fe : Nat → Int32) (l : List Cd), i < 3 → gP Z p → pOp p = 0 → RelR (byP s F Z) Z c p k tk ft → L ≤ 160 → (pBad p = false → L = l.length ∧ cod fc 0 l ∧ L ≤ k) →
      (∀ (L' k' : Nat) (tk' ft' : Int32) (fc' : Nat → Int32), RelR (byP s F Z) Z c (partF (byP s F Z) Z (lev (byP s F Z) Z 5).2.2 (lN (wV (6 + i))) p).2 k' tk' ft' → L' ≤ 160 → (pBad (partF (byP s F Z) Z (lev (byP s F Z) Z 5).2.2 (lN (wV (6 + i))) p).2 = false → L' = (l ++ (partF (byP s F Z) Z (lev (byP s F Z) Z 5).2.2 (lN (wV (6 + i))) p).1.1).length ∧ cod fc' 0 (l ++ (partF (byP s F Z) Z (lev (byP s F Z) Z 5).2.2 (lN (wV (6 + i))) p).1.1) ∧ L' ≤ k') → AJ X M yX4_read cX4_read 3 (some .int) 41 [(0, .ref r), (2, .int (nI (i + 1)))] [] (RH (kput (TH h t kk pp nn c fk fp fn) en (kI 3 (upd fe i (nI L')))) r t cd en L' k' tk' ft' fc') 0 0) →
      AJ X M yX4_read cX4_read 3 (some .int) 41 [(0, .ref r), (2, .int (nI i))] [] (RH (kput (TH h t kk pp nn c fk fp fn) en (kI 3 fe)) r t cd en L k tk ft fc) 0 0 := by
    intro i p L k tk ft fc fe l hi hg hop hR hL hGd kont
    have hch := (c_lev (X := X) (s := s) (F := F) (h := (kput (TH h t kk pp nn c fk fp fn) en (kI 3 fe))) (r := r) (cd := cd) (en := en) (RF_en d n1 n2 n3 n4) hT hZ 5).2.2
    have tW := tk_W hR.2.2.1 (w := 6 + i) (by omega)
    have hR1 := Rel_ex hT hZ (x := nI (6 + i)) (T := isW p (lN (wV (6 + i)))) hR hg (by rw [hR.2.1]; exact tW) gd_W
    have hite := ite_g (c := isW p (lN (wV (6 + i)))) hg
    have hnk := nxP_k (s := s) (F := F) hite.1
    have hg1 : gP Z (nxP (byP s F Z) Z (if isW p (lN (wV (6 + i))) = true then p else failP p)) := hnk.1
    have hop1 : pOp (nxP (byP s F Z) Z (if isW p (lN (wV (6 + i))) = true then p else failP p)) = 0 := by rw [hnk.2, hite.2, hop]
    have hok := lev_ok (s := s) (F := F) (Z := Z) 5 |>.2.2 (nxP (byP s F Z) Z (if isW p (lN (wV (6 + i))) = true then p else failP p)) hg1 (by omega)
    have hprl := (pr_lev (b := (byP s F Z)) (Z := Z) 5).2.2
    have hgp : pBad (nxP (byP s F Z) Z (if isW p (lN (wV (6 + i))) = true then p else failP p)) = false → pBad p = false := fun z => by
      cases hb : pBad p with
      | false => rfl
      | true =>
        rw [if_neg (bad_W hb _), failP_bad hb, nxP_bad hb] at z
        exact absurd (hb.symm.trans z) (by decide)
    refine a_iload_n (pc := 41) dX4_read_41 rfl rfl ?_
    refine a_iconst (pc := 42) dX4_read_42 ic_3 ?_
    refine a_icmp_geN (pc := 43) (tgt := 82) dX4_read_43 (by decide) (by omega) (by omega) (fun c43 => ?_) (fun c43 => ?_)
    · exact absurd c43 (by omega)
    · refine a_aload_n (pc := 46) dX4_read_46 rfl rfl ?_
      refine a_bipush (pc := 47) dX4_read_47 ib_6 ?_
      refine a_iload_n (pc := 49) dX4_read_49 rfl rfl ?_
      refine a_iaddN (pc := 50) dX4_read_50 ?_
      refine a_callV (pc := 51) km_X4_47 dX4_read_51 (f_expect (RF_en d n1 n2 n3 n4) hR.1 (nI (6 + i))) rfl rfl (krecv_of (by rfl) RH_r) (rok_of hM (by omega) (by decide) (by omega) (by omega)) (Nat.le_of_ble_eq_true rfl) (fun r51 h51 hp51 => ?_)
      obtain ⟨rfl, rfl⟩ := hp51
      refine a_aload_n (pc := 54) dX4_read_54 rfl rfl ?_
      refine a_iconst (pc := 55) dX4_read_55 ic_0 ?_
      refine a_iconst (pc := 56) dX4_read_56 ic_0 ?_
      refine a_callV (pc := 57) km_X4_51 dX4_read_57 (hch (nxP (byP s F Z) Z (if isW p (lN (wV (6 + i))) = true then p else failP p)) L (exR c k fk fp tk ft (nI (6 + i))).1 (exR c k fk fp tk ft (nI (6 + i))).2.1 (exR c k fk fp tk ft (nI (6 + i))).2.2 fc hg1 (by omega) hR1.1 hL (fun z => by have := hGd (hgp z); omega)) rfl rfl (krecv_of (by rfl) RH_r) (rok_of hM (by omega) (by decide) (by omega) (by omega)) (Nat.le_of_ble_eq_true rfl) (fun r57 h57 hp57 => ?_)
      obtain ⟨rfl, L2, k2, tk2, ft2, fc2, rfl, hL2, hR2, hG2⟩ := hp57
      have t59 := tk_S hR2.2.2.1 (c := 59) (by decide)
      have hR3 := Rel_ex hT hZ (x := nI 59) (T := isS ((lev (byP s F Z) Z 5).2.2 (nxP (byP s F Z) Z (if isW p (lN (wV (6 + i))) = true then p else failP p))).2 59) hR2 hok.1 (by rw [hR2.2.1]; exact t59) gd_S
      refine a_aload_n (pc := 60) dX4_read_60 rfl rfl ?_
      refine a_bipush (pc := 61) dX4_read_61 ib_59 ?_
      refine a_callV (pc := 63) km_X4_47 dX4_read_63 (f_expect (RF_en d n1 n2 n3 n4) hR2.1 (nI 59)) rfl rfl (krecv_of (by rfl) RH_r) (rok_of hM (by omega) (by decide) (by omega) (by omega)) (Nat.le_of_ble_eq_true rfl) (fun r63 h63 hp63 => ?_)
      obtain ⟨rfl, rfl⟩ := hp63
      refine a_aload_n (pc := 66) dX4_read_66 rfl rfl ?_
      refine a_getfield (pc := 67) kg_X4_24 dX4_read_67 (RH_r) rfl ?_
      refine a_iload_n (pc := 70) dX4_read_70 rfl rfl ?_
      refine a_aload_n (pc := 71) dX4_read_71 rfl rfl ?_
      refine a_getfield (pc := 72) kg_X4_31 dX4_read_72 (RH_r) rfl ?_
      refine a_topi ((show nI L2 = nI L2 from rfl)) ?_
      refine a_iastore (pc := 75) dX4_read_75 (RH_en n5 n6) (i) (rfl) (by omega) (by omega) ?_
      refine a_hp (RH_sen n5 n6) ?_
      refine a_iincN (pc := 76) (n := 1) dX4_read_76 (by decide) rfl (by decide) rfl ?_
      refine a_goto (pc := 79) (tgt := 41) dX4_read_79 (by decide) ?_
      have e2 : (partF (byP s F Z) Z (lev (byP s F Z) Z 5).2.2 (lN (wV (6 + i))) p).2 = nxP (byP s F Z) Z (if isS ((lev (byP s F Z) Z 5).2.2 (nxP (byP s F Z) Z (if isW p (lN (wV (6 + i))) = true then p else failP p))).2 59 = true then ((lev (byP s F Z) Z 5).2.2 (nxP (byP s F Z) Z (if isW p (lN (wV (6 + i))) = true then p else failP p))).2 else failP ((lev (byP s F Z) Z 5).2.2 (nxP (byP s F Z) Z (if isW p (lN (wV (6 + i))) = true then p else failP p))).2) := by
        show (partU (byP s F Z) Z (lev (byP s F Z) Z 5).2.2 (nxP (byP s F Z) Z (if isW p (lN (wV (6 + i))) = true then p else failP p))).2 = _
        unfold partU
        by_cases hb : pBad (nxP (byP s F Z) Z (if isW p (lN (wV (6 + i))) = true then p else failP p)) = true
        · rw [if_pos hb, bd_lev 5 _ hb]; rfl
        · rw [if_neg hb]; rfl
      have e1 : pBad (partF (byP s F Z) Z (lev (byP s F Z) Z 5).2.2 (lN (wV (6 + i))) p).2 = false → (partF (byP s F Z) Z (lev (byP s F Z) Z 5).2.2 (lN (wV (6 + i))) p).1 = ((lev (byP s F Z) Z 5).2.2 (nxP (byP s F Z) Z (if isW p (lN (wV (6 + i))) = true then p else failP p))).1 := fun hb => by
        show (partU (byP s F Z) Z (lev (byP s F Z) Z 5).2.2 (nxP (byP s F Z) Z (if isW p (lN (wV (6 + i))) = true then p else failP p))).1 = _
        unfold partU
        rw [if_neg (fun z => ?_)]
        rw [e2, bd_lev 5 _ z] at hb
        have hz : pBad (nxP (byP s F Z) Z (if isS (nxP (byP s F Z) Z (if isW p (lN (wV (6 + i))) = true then p else failP p)) 59 = true then (nxP (byP s F Z) Z (if isW p (lN (wV (6 + i))) = true then p else failP p)) else failP (nxP (byP s F Z) Z (if isW p (lN (wV (6 + i))) = true then p else failP p)))) = true := by rw [if_neg (bad_S z _), failP_bad z, nxP_bad z]; exact z
        exact absurd (hz.symm.trans hb) (by decide)
      have hg3 : pBad (partF (byP s F Z) Z (lev (byP s F Z) Z 5).2.2 (lN (wV (6 + i))) p).2 = false → pBad ((lev (byP s F Z) Z 5).2.2 (nxP (byP s F Z) Z (if isW p (lN (wV (6 + i))) = true then p else failP p))).2 = false := fun hb => by
        cases hz : pBad ((lev (byP s F Z) Z 5).2.2 (nxP (byP s F Z) Z (if isW p (lN (wV (6 + i))) = true then p else failP p))).2 with
        | false => rfl
        | true =>
          rw [e2, if_neg (bad_S hz _), failP_bad hz, nxP_bad hz] at hb
          exact absurd (hz.symm.trans hb) (by decide)
      refine a_locR (kont L2 (exR c k2 fk fp tk2 ft2 (nI 59)).1 (exR c k2 fk fp tk2 ft2 (nI 59)).2.1 (exR c k2 fk fp tk2 ft2 (nI 59)).2.2 fc2 (by rw [e2]; exact hR3.1) hL2 (fun hb => ?_)) ⟨rfl, rfl, trivial⟩
      have hgi := hg3 hb
      obtain ⟨a1, a2, a3, a4⟩ := hG2 hgi
      obtain ⟨b1, b2, b3⟩ := hGd (hgp (hprl.g hgi))
      rw [e1 hb, List.length_append]
      have k3 := hR3.2
      have k1 := hR1.2
      refine ⟨by omega, cod_app (cod_cg b2 (fun i hi => a2 i (by omega))) (by rw [Nat.zero_add, ← b1]; exact a3), by omega⟩
  have fin : ∀ (p : PS) (L k : Nat) (tk ft : Int32) (fc fe : Nat → Int32), gP Z p → RelR (byP s F Z) Z c p k tk ft →
      (∀ (k' : Nat) (tk' ft' : Int32) (rv : Option Value) (hv : AH), rv = some (.int (if pBad (endF p) = true then nI (pFt (endF p)) else -1)) → hv = (RH (kput (TH h t kk pp nn c fk fp fn) en (kI 3 fe)) r t cd en L k' tk' ft' fc) → (pBad (endF p) = true → pFt (endF p) ≤ 160) → (fun rv hv => rv = some (.int (if pBad (readP (byP s F Z) Z c0) = true then nI (pFt (readP (byP s F Z) Z c0)) else -1)) ∧ (pBad (readP (byP s F Z) Z c0) = true → pFt (readP (byP s F Z) Z c0) ≤ 160) ∧ ∃ (c : Nat) (fk fp fn fe : Nat → Int32) (L k : Nat) (tk ft : Int32) (fc : Nat → Int32), hv = RH (kput (TH h t kk pp nn c fk fp fn) en (kI 3 fe)) r t cd en L k tk ft fc ∧ (pBad (readP (byP s F Z) Z c0) = false → L ≤ 160 ∧ cod fc 0 ((readE (byP s F Z) Z c0).1.1.1 ++ (readE (byP s F Z) Z c0).2.1.1.1 ++ (readE (byP s F Z) Z c0).2.2.1.1) ∧ L = ((readE (byP s F Z) Z c0).1.1.1 ++ (readE (byP s F Z) Z c0).2.1.1.1 ++ (readE (byP s F Z) Z c0).2.2.1.1).length ∧ fe 0 = nI (readE (byP s F Z) Z c0).1.1.1.length ∧ fe 1 = nI ((readE (byP s F Z) Z c0).1.1.1 ++ (readE (byP s F Z) Z c0).2.1.1.1).length ∧ fe 2 = nI ((readE (byP s F Z) Z c0).1.1.1 ++ (readE (byP s F Z) Z c0).2.1.1.1 ++ (readE (byP s F Z) Z c0).2.2.1.1).length)) rv hv) →
      AJ X M yX4_read cX4_read 3 (some .int) 41 [(0, .ref r), (2, .int (nI 3))] [] (RH (kput (TH h t kk pp nn c fk fp fn) en (kI 3 fe)) r t cd en L k tk ft fc) 0 0 := by
    intro p L k tk ft fc fe hg hR kont
    refine a_iload_n (pc := 41) dX4_read_41 rfl rfl ?_
    refine a_iconst (pc := 42) dX4_read_42 ic_3 ?_
    refine a_icmp_geN (pc := 43) (tgt := 82) dX4_read_43 (by decide) (by omega) (by omega) (fun c43 => ?_) (fun c43 => ?_)
    · refine a_aload_n (pc := 82) dX4_read_82 rfl rfl ?_
      refine a_iconst (pc := 83) dX4_read_83 ic_m1 ?_
      refine a_callV (pc := 84) km_X4_47 dX4_read_84 (f_expect (RF_en d n1 n2 n3 n4) hR.1 (-1)) rfl rfl (krecv_of (by rfl) RH_r) (rok_of hM (by omega) (by decide) (by omega) (by omega)) (Nat.le_of_ble_eq_true rfl) (fun r84 h84 hp84 => ?_)
      obtain ⟨rfl, rfl⟩ := hp84
      refine a_aload_n (pc := 87) dX4_read_87 rfl rfl ?_
      refine a_getfield (pc := 88) kg_X4_35 dX4_read_88 (RH_r) rfl ?_
      refine a_ret_i (pc := 91) hM rfl (rfl) dX4_read_91 (by omega) (by omega) ?_
      have tE := tk_E hR.2.2.1
      rw [← hR.2.1] at tE
      refine kont _ _ _ _ _ ?_ rfl (ft_b hT hZ hR hg)
      cases hb : pBad p with
      | true =>
        have hn : ¬ tk = -1 := fun z => absurd (hb.symm.trans (tE.mp z).1) (by decide)
        obtain ⟨f1, f2⟩ := hR.2.2.2.1 hb
        have e : exR c k fk fp tk ft (-1) = (k, -2, rfF fp k ft) := if_neg hn
        have e2 : rfF fp k ft = ft := if_neg (by rw [f1]; exact nI_nm (by omega) (by decide))
        have e3 : endF p = p := if_pos hb
        rw [e, e3, if_pos hb]
        show some (Value.int (rfF fp k ft)) = _
        rw [e2, f1]
      | false =>
        obtain ⟨f1, f2, -⟩ := hR.2.2.2.2 hb
        by_cases hz : pTk p = 0
        · have e : exR c k fk fp tk ft (-1) = (stK c k, fk (stK c k), ft) := if_pos (tE.mpr ⟨hb, hz⟩)
          have e3 : endF p = p := by rw [endF, if_neg (by rw [hb]; decide), if_pos hz]
          rw [e, e3, if_neg (by rw [hb]; decide)]
          show some (Value.int ft) = _
          rw [f1]
        · have e : exR c k fk fp tk ft (-1) = (k, -2, rfF fp k ft) := if_neg (fun z => hz (tE.mp z).2)
          have e3 : endF p = failP p := by rw [endF, if_neg (by rw [hb]; decide), if_neg hz]
          have hR4 := Rel_fail hT hZ hR hg
          obtain ⟨g1, g2⟩ := hR4.2.2.2.1 (fail_bad p)
          rw [e, e3, if_pos (fail_bad p)]
          show some (Value.int (rfF fp k ft)) = _
          rw [g1]
    · exact absurd c43 (by omega)
  refine a_hp (show _ = (RH (kput (TH h t kk pp nn c fk fp fn) en (kI 3 fe0)) r t cd en L0 k0 tk0 ft0 fc0) from ?hself) ?_
  case hself =>
    unfold RH
    rw [kput_self (h := TH h t kk pp nn c fk fp fn) (a := en) hen2, kput_self (h := TH h t kk pp nn c fk fp fn) (a := cd) hcd2, kput_self (h := TH h t kk pp nn c fk fp fn) (a := r) hr2]
  refine a_aload_n (pc := 8) dX4_read_8 rfl rfl ?_
  refine a_iconst (pc := 9) dX4_read_9 ic_0 ?_
  refine a_putfield (pc := 10) kf_X4_31 dX4_read_10 (RH_r) (rfl) (by rfl) (Nat.le_of_ble_eq_true rfl) ?_
  refine a_hp (RH_s (L' := 0)) ?_
  refine a_aload_n (pc := 13) dX4_read_13 rfl rfl ?_
  refine a_iconst (pc := 14) dX4_read_14 ic_m1 ?_
  refine a_putfield (pc := 15) kf_X4_35 dX4_read_15 (RH_r) (rfl) (by rfl) (Nat.le_of_ble_eq_true rfl) ?_
  refine a_hp RH_s ?_
  refine a_aload_n (pc := 18) dX4_read_18 rfl rfl ?_
  refine a_iconst (pc := 19) dX4_read_19 ic_0 ?_
  refine a_putfield (pc := 20) kf_X4_38 dX4_read_20 (RH_r) (rfl) (by rfl) (Nat.le_of_ble_eq_true rfl) ?_
  refine a_hp (RH_s (k' := 0)) ?_
  refine a_aload_n (pc := 23) dX4_read_23 rfl rfl ?_
  refine a_aload_n (pc := 24) dX4_read_24 rfl rfl ?_
  refine a_getfield (pc := 25) kg_X4_12 dX4_read_25 (RH_r) rfl ?_
  refine a_getfield (pc := 28) kg_X4_41 dX4_read_28 (RH_t (RF_en d n1 n2 n3 n4)) rfl ?_
  refine a_aload_n (pc := 31) dX4_read_31 rfl rfl ?_
  refine a_getfield (pc := 32) kg_X4_38 dX4_read_32 (RH_r) rfl ?_
  refine a_topi ((show nI 0 = nI 0 from rfl)) ?_
  refine a_iaload (pc := 35) dX4_read_35 (RH_k (RF_en d n1 n2 n3 n4)) (0) (rfl) (by omega) (by omega) ?_
  refine a_putfield (pc := 36) kf_X4_44 dX4_read_36 (RH_r) (rfl) (by rfl) (Nat.le_of_ble_eq_true rfl) ?_
  refine a_hp RH_s ?_
  refine a_iconst (pc := 39) dX4_read_39 ic_0 ?_
  refine a_istore_n (pc := 40) dX4_read_40 rfl (by decide) rfl ?_
  refine a_locR (stg 0 (itP (byP s F Z) Z 1) 0 0 (fk 0) (-1) fc0 fe0 [] (by decide) hn1.1 (by rw [hI, hn1.2.2.1]; rfl) hR0 (Nat.zero_le _) (fun _ => ⟨rfl, fun i c hc => by simp at hc, Nat.le_refl 0⟩) (fun L1 k1 tk1 ft1 fc1 hR1 hL1 hG1 => ?_)) ⟨rfl, rfl, trivial⟩
  refine stg 1 (partF (byP s F Z) Z (lev (byP s F Z) Z 5).2.2 (lN (wV 6)) (itP (byP s F Z) Z 1)).2 L1 k1 tk1 ft1 fc1 _ ([] ++ (partF (byP s F Z) Z (lev (byP s F Z) Z 5).2.2 (lN (wV 6)) (itP (byP s F Z) Z 1)).1.1) (by decide) hgg1.1 hgg1.2 hR1 hL1 hG1 (fun L2 k2 tk2 ft2 fc2 hR2 hL2 hG2 => ?_)
  refine stg 2 (partF (byP s F Z) Z (lev (byP s F Z) Z 5).2.2 (lN (wV 7)) (partF (byP s F Z) Z (lev (byP s F Z) Z 5).2.2 (lN (wV 6)) (itP (byP s F Z) Z 1)).2).2 L2 k2 tk2 ft2 fc2 _ ([] ++ (partF (byP s F Z) Z (lev (byP s F Z) Z 5).2.2 (lN (wV 6)) (itP (byP s F Z) Z 1)).1.1 ++ (partF (byP s F Z) Z (lev (byP s F Z) Z 5).2.2 (lN (wV 7)) (partF (byP s F Z) Z (lev (byP s F Z) Z 5).2.2 (lN (wV 6)) (itP (byP s F Z) Z 1)).2).1.1) (by decide) hgg2.1 hgg2.2 hR2 hL2 hG2 (fun L3 k3 tk3 ft3 fc3 hR3 hL3 hG3 => ?_)
  refine fin (partF (byP s F Z) Z (lev (byP s F Z) Z 5).2.2 (lN (wV 8)) (partF (byP s F Z) Z (lev (byP s F Z) Z 5).2.2 (lN (wV 7)) (partF (byP s F Z) Z (lev (byP s F Z) Z 5).2.2 (lN (wV 6)) (itP (byP s F Z) Z 1)).2).2).2 L3 k3 tk3 ft3 fc3 _ hgg3.1 hR3 (fun k' tk' ft' rv hv h1 h2 h0 => ⟨by rw [h1, eRP], by rw [eRP]; exact h0, c, fk, fp, fn, _, L3, k', tk', ft', fc3, h2, fun hb => ?_⟩)
  have hb3 : pBad (partF (byP s F Z) Z (lev (byP s F Z) Z 5).2.2 (lN (wV 8)) (partF (byP s F Z) Z (lev (byP s F Z) Z 5).2.2 (lN (wV 7)) (partF (byP s F Z) Z (lev (byP s F Z) Z 5).2.2 (lN (wV 6)) (itP (byP s F Z) Z 1)).2).2).2 = false := endF_g (by rw [← eRP]; exact hb)
  have q3 := keepF_1 (b := (byP s F Z)) (Z := Z) (key := lN (wV 8)) (q := (partF (byP s F Z) Z (lev (byP s F Z) Z 5).2.2 (lN (wV 7)) (partF (byP s F Z) Z (lev (byP s F Z) Z 5).2.2 (lN (wV 6)) (itP (byP s F Z) Z 1)).2).2) (by rw [keepF_2]; exact hb3)
  have q2 := keepF_1 (b := (byP s F Z)) (Z := Z) (key := lN (wV 7)) (q := (partF (byP s F Z) Z (lev (byP s F Z) Z 5).2.2 (lN (wV 6)) (itP (byP s F Z) Z 1)).2) (by rw [keepF_2]; exact q3.2)
  have w1 : (readE (byP s F Z) Z c0).1.1.1 = (partF (byP s F Z) Z (lev (byP s F Z) Z 5).2.2 (lN (wV 6)) (itP (byP s F Z) Z 1)).1.1 := by rw [eE1]
  have w2 : (readE (byP s F Z) Z c0).2.1.1.1 = (partF (byP s F Z) Z (lev (byP s F Z) Z 5).2.2 (lN (wV 7)) (partF (byP s F Z) Z (lev (byP s F Z) Z 5).2.2 (lN (wV 6)) (itP (byP s F Z) Z 1)).2).1.1 := by rw [eE2, q2.1]
  have w3 : (readE (byP s F Z) Z c0).2.2.1.1 = (partF (byP s F Z) Z (lev (byP s F Z) Z 5).2.2 (lN (wV 8)) (partF (byP s F Z) Z (lev (byP s F Z) Z 5).2.2 (lN (wV 7)) (partF (byP s F Z) Z (lev (byP s F Z) Z 5).2.2 (lN (wV 6)) (itP (byP s F Z) Z 1)).2).2).1.1 := by rw [eE3, keepF_2, q3.1]
  obtain ⟨a1, a2, a3⟩ := hG1 q2.2
  obtain ⟨b1, b2, b3⟩ := hG2 q3.2
  obtain ⟨g1, g2, g3⟩ := hG3 hb3
  rw [w1, w2, w3]
  rw [List.nil_append] at a1 b1 g1 g2
  refine ⟨hL3, g2, g1, ?_, ?_, ?_⟩
  · rw [pk_un (by decide), pk_un (by decide), pk_us, a1]
  · rw [pk_un (by decide), pk_us, b1]
  · rw [pk_us, g1]

end CRQ

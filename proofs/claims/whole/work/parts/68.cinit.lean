/-! THE CLASS: HOW IT BEGINS -/
section CPQ
variable {X : KX} {h : AH} {s : MST} {σ : Nat → Nat → Nat}
/-- a heap told by its newest cells -/
def hL : List (Nat × kE) → AH → AH
  | [], h => h
  | p :: l, h => kput (hL l h) p.1 p.2
theorem hL_out {h : AH} {q : Nat} : ∀ {l : List (Nat × kE)}, q ∉ l.map Prod.fst → hL l h q = h q
  | [], _ => rfl
  | p :: l, hn => (kput_ne (fun z => hn (by rw [z]; exact List.mem_cons_self ..))).trans (hL_out (fun z => hn (List.mem_cons_of_mem _ z)))
theorem hL_get {h : AH} {q : Nat} {e : kE} : ∀ {l : List (Nat × kE)} {j : Nat}, (l.map Prod.fst).Nodup → l[j]? = some (q, e) → hL l h q = some e
  | [], j, _, hj => absurd hj (by simp)
  | p :: l, 0, _, hj => by
    have e0 : p = (q, e) := Option.some.inj hj
    subst e0
    exact kput_eq
  | p :: l, j + 1, nd, hj => by
    have hj : l[j]? = some (q, e) := hj
    have nd := List.nodup_cons.mp nd
    refine (kput_ne (fun z => nd.1 ?_)).trans (hL_get nd.2 hj)
    rw [← z]
    exact List.mem_map.mpr ⟨(q, e), List.mem_of_getElem? hj, rfl⟩
theorem hL_put {h : AH} {q : Nat} {e e2 : kE} : ∀ {l : List (Nat × kE)} {j : Nat}, (l.map Prod.fst).Nodup → l[j]? = some (q, e) → kput (hL l h) q e2 = hL (l.set j (q, e2)) h
  | [], j, _, hj => absurd hj (by simp)
  | p :: l, 0, _, hj => by
    have e0 : p = (q, e) := Option.some.inj hj
    subst e0
    exact kput_put
  | p :: l, j + 1, nd, hj => by
    have hj : l[j]? = some (q, e) := hj
    have nd := List.nodup_cons.mp nd
    have hne : p.1 ≠ q := fun z => nd.1 (by rw [z]; exact List.mem_map.mpr ⟨(q, e), List.mem_of_getElem? hj, rfl⟩)
    show kput (kput (hL l h) p.1 p.2) q e2 = kput (hL (l.set j (q, e2)) h) p.1 p.2
    rw [← hL_put nd.2 hj]
    exact kput_comm hne
theorem hL_no {h : AH} {q : Nat} : ∀ {l : List (Nat × kE)}, hL l h q = none → q ∉ l.map Prod.fst ∧ h q = none
  | [], hq => ⟨by simp, hq⟩
  | p :: l, hq => by
    obtain ⟨h1, h2⟩ := kput_none hq
    obtain ⟨h3, h4⟩ := hL_no h2
    exact ⟨fun z => (List.mem_cons.mp z).elim h1 h3, h4⟩
theorem hL_nd {h : AH} {q : Nat} {e : kE} {l : List (Nat × kE)} (hq : hL l h q = none) (nd : (l.map Prod.fst).Nodup) : (((q, e) :: l).map Prod.fst).Nodup := List.nodup_cons.mpr ⟨(hL_no hq).1, nd⟩
theorem hL_fr {h : AH} {a q : Nat} {e : kE} {l : List (Nat × kE)} (hq : hL l h q = none) (fr : ∀ x, x ∈ l.map Prod.fst → x = a ∨ h x = none) : ∀ x, x ∈ ((q, e) :: l).map Prod.fst → x = a ∨ h x = none := fun x hx => by
  rcases List.mem_cons.mp hx with z | z
  · exact Or.inr (by rw [z]; exact (hL_no hq).2)
  · exact fr x z
def FRb (i : Nat) : Int32 := sB 0 i
def tbB (i : Nat) : Int32 := if i < 56 then tx0_7 i else -1
def tcB (i : Nat) : Int32 := if i < 54 then sB 0 i else -1
theorem tcB_ok : pBad (readP tcB 54 c0) = false := by decide +kernel
theorem tl1 : (readE tbB 56 c0).1.1.1 = (readE tcB 54 c0).1.1.1 := by decide +kernel
theorem tl2 : (readE tbB 56 c0).2.1.1.1 = (readE tcB 54 c0).2.1.1.1 := by decide +kernel
theorem tl3 : (readE tbB 56 c0).2.2.1.1 = (readE tcB 54 c0).2.2.1.1 := by decide +kernel
theorem sB_okd : ∀ i, i < 54 → sB 0 i = nI (sB 0 i).toNatClampNeg ∧ (sB 0 i).toNatClampNeg < 256 := by decide +kernel
/-- the class's state before its first rule is read -/
def uB : MST := si (sa sZ 5 (sB 0)) 6 (nI 54)
theorem fill0_s {f g : Nat → Int32} {k : Nat} : upd (fillO f g 0 k) k (f k) = fillO f g 0 (k + 1) := by
  have e := fillO_s (f := f) (g := g) (off := 0) (i := k)
  rw [Nat.zero_add] at e
  exact e
theorem bytes_put {h : AH} {l : List (Nat × kE)} {p t j1 j2 : Nat} {e1 e2 f1 f2 : kE} (nd : (l.map Prod.fst).Nodup) (h1 : l[j1]? = some (t, e1)) (h2 : (l.set j1 (t, f1))[j2]? = some (p, e2)) : kput (kput (hL l h) t f1) p f2 = hL ((l.set j1 (t, f1)).set j2 (p, f2)) h := by
  have nd2 : ((l.set j1 (t, f1)).map Prod.fst).Nodup := by
    have e : (l.set j1 (t, f1)).map Prod.fst = l.map Prod.fst := by
      rw [List.map_set]
      refine List.ext_getElem? (fun i => ?_)
      rw [List.getElem?_set]
      by_cases q : j1 = i
      · subst q
        have hlt : j1 < l.length := (List.getElem?_eq_some_iff.mp h1).1
        rw [if_pos rfl, if_pos (by rw [List.length_map]; exact hlt), List.getElem?_map, h1]
        rfl
      · rw [if_neg q]
    rw [e]
    exact nd
  rw [hL_put nd h1, hL_put nd2 h2]
theorem lszB (i : Nat) : lsz uB i = 0 := by
  match i with
  | 0 => rfl
  | 1 => rfl
  | 2 => rfl
  | 3 => rfl
  | n + 4 => rfl
def ixI (k i : Nat) : Nat := ([26, 25, 24, 23, 22, 21, 20, 7, 5, 3, 1, 6, 4, 2, 0, 19, 18, 17, 13, 16, 15, 14, 12, 11, 10, 9, 8] : List Nat).getD (([0, 1, 6, 7, 11, 15, 16, 17, 18, 19, 22, 23, 24, 25, 26] : List Nat).getD k 0 + i) 0
def szI (k : Nat) : Nat := ([1, 5, 1, 4, 4, 1, 1, 1, 1, 3, 1, 1, 1, 1, 1] : List Nat).getD k 0
def sgI (D : List Nat) (k i : Nat) : Nat := D.getD (ixI k i) 0
theorem ix_lt : ∀ k, k < 15 → ∀ i, i < szI k → ixI k i < 27 := by decide +kernel
theorem ix_inv : ∀ k, k < 15 → ∀ i, i < szI k → ([4, 3, 4, 3, 4, 3, 4, 3, 14, 13, 12, 11, 10, 8, 9, 9, 9, 7, 6, 5, 2, 1, 1, 1, 1, 1, 0] : List Nat).getD (ixI k i) 0 = k ∧ ([3, 3, 2, 2, 1, 1, 0, 0, 0, 0, 0, 0, 0, 0, 2, 1, 0, 0, 0, 0, 0, 4, 3, 2, 1, 0, 0] : List Nat).getD (ixI k i) 0 = i := by decide +kernel
theorem ix_in (k : Nat) (hk : k < 15) (i : Nat) (hi : i < szI k) (k' : Nat) (hk' : k' < 15) (i' : Nat) (hi' : i' < szI k') (h : ixI k i = ixI k' i') : k = k' ∧ i = i' := by
  obtain ⟨a1, a2⟩ := ix_inv k hk i hi
  obtain ⟨b1, b2⟩ := ix_inv k' hk' i' hi'
  rw [h] at a1 a2
  exact ⟨a1.symm.trans b1, a2.symm.trans b2⟩
theorem getD_inj : ∀ {D : List Nat} {i j : Nat}, D.Nodup → i < D.length → j < D.length → D.getD i 0 = D.getD j 0 → i = j := by
  intro D i j hn hi hj he
  rw [List.getD_eq_getElem?_getD, List.getD_eq_getElem?_getD, List.getElem?_eq_getElem hi, List.getElem?_eq_getElem hj] at he
  exact (List.getElem_inj hn).mp he
theorem clvB {k i : Nat} (h : clv uB k i) : k < 15 ∧ i < szI k := by
  match k, h with
  | 0, h => exact ⟨by decide, (show i < 1 from h)⟩
  | 1, h => exact ⟨by decide, (show i < 5 from h)⟩
  | 2, h => exact ⟨by decide, (show i < 1 from h)⟩
  | 3, h => exact ⟨by decide, (show i < 4 from h)⟩
  | 4, h => exact ⟨by decide, (show i < 4 from h)⟩
  | 5, h => exact ⟨by decide, (show i < 1 from h)⟩
  | 6, h => exact ⟨by decide, (show i < 1 from h)⟩
  | 7, h => exact ⟨by decide, (show i < 1 from h)⟩
  | 8, h => exact ⟨by decide, (show i < 1 from h)⟩
  | 9, h => exact ⟨by decide, (show i < 3 from h)⟩
  | 10, h => exact ⟨by decide, (show i < 1 from h)⟩
  | 11, h => exact ⟨by decide, (show i < 1 from h)⟩
  | 12, h => exact ⟨by decide, (show i < 1 from h)⟩
  | 13, h => exact ⟨by decide, (show i < 1 from h)⟩
  | 14, h => exact ⟨by decide, (show i < 1 from h)⟩
  | 15, h => exact absurd (show i < 0 from h) (Nat.not_lt_zero i)
  | 16, h => exact absurd (show i < 0 from h) (Nat.not_lt_zero i)
  | 17, h => exact absurd (show i < 0 from h) (Nat.not_lt_zero i)
  | 18, h => exact absurd (show i < 0 from h) (Nat.not_lt_zero i)
  | 19, h => exact absurd (show i < 0 from h) (Nat.not_lt_zero i)
  | 20, h => exact absurd (show i < 0 from h) (Nat.not_lt_zero i)
  | 21, h => exact absurd (show i < 0 from h) (Nat.not_lt_zero i)
  | 22, h => exact absurd (show i < 0 from h) (Nat.not_lt_zero i)
  | 23, h => exact absurd (show i < 0 from h) (Nat.not_lt_zero i)
  | 24, h => exact absurd (show i < 0 from h) (Nat.not_lt_zero i)
  | 25, h => exact absurd (show i < 0 from h) (Nat.not_lt_zero i)
  | 26, h => exact absurd (show i < 0 from h) (Nat.not_lt_zero i)
  | 27, h => exact absurd (show i < 0 from h) (Nat.not_lt_zero i)
  | 28, h => exact absurd (show i < 0 from h) (Nat.not_lt_zero i)
  | 29, h => exact absurd (show i < 0 from h) (Nat.not_lt_zero i)
  | 30, h => exact absurd (show 0 < lsz uB i from h.2) (by rw [lszB]; decide)
  | n + 31, h => exact (show False from h).elim
theorem CI_init {h : AH} {i3 s3 i2 s2 i1 s1 i0 s0 nm oa od en cd tk k3 k2 k1 rd ta tp sh l4 l3 l2 l1 l0 a : Nat} (nd : [i3, s3, i2, s2, i1, s1, i0, s0, nm, oa, od, en, cd, tk, k3, k2, k1, rd, ta, tp, sh, l4, l3, l2, l1, l0, a].Nodup) : CI X (sgI [i3, s3, i2, s2, i1, s1, i0, s0, nm, oa, od, en, cd, tk, k3, k2, k1, rd, ta, tp, sh, l4, l3, l2, l1, l0, a]) uB (hL [(i3, kI 40 (fun _ => 0)), (s3, kO 7 [.ref i3, .int (-1), .int 0]), (i2, kI 40 (fun _ => 0)), (s2, kO 7 [.ref i2, .int (-1), .int 0]), (i1, kI 40 (fun _ => 0)), (s1, kO 7 [.ref i1, .int (-1), .int 0]), (i0, kI 40 (fun _ => 0)), (s0, kO 7 [.ref i0, .int (-1), .int 0]), (nm, kI 6 (fun _ => 0)), (oa, kL 26 (fun _ => 0)), (od, kO 2 [.ref oa]), (en, kI 3 (fun _ => 0)), (cd, kI 160 (fun _ => 0)), (tk, kO 10 [.ref k1, .ref k2, .ref k3, .int 0]), (k3, kI 161 (fun _ => 0)), (k2, kI 161 (fun _ => 0)), (k1, kI 161 (fun _ => 0)), (rd, kO 4 [.ref tk, .ref cd, .ref en, .int 0, .int 0, .int 0, .int 0]), (ta, kI 160 (fillO (sB 0) (fun _ => 0) 0 54)), (tp, kO 8 [.ref ta, .int (nI 54)]), (sh, kQ 3 4 (va_up (va_up (va_up (va_up (fun _ => none) 0 (some s0)) 1 (some s1)) 2 (some s2)) 3 (some s3))), (l4, kO 13 [.int 0, .ref (X.2.2.2.1 2), .int 0]), (l3, kO 13 [.int 0, .ref (X.2.2.2.1 2), .int 0]), (l2, kO 13 [.int 0, .ref (X.2.2.2.1 2), .int 0]), (l1, kO 13 [.int 0, .ref (X.2.2.2.1 2), .int 0]), (l0, kO 13 [.int 0, .ref (X.2.2.2.1 2), .int 0]), (a, kO 11 [.ref l0, .ref l1, .ref l2, .ref l3, .ref l4, .ref sh, .ref tp, .ref rd, .ref od, .ref nm, .int 0, .int (-1), .int 0, .int 0])] h) := by
  have nd : (([(i3, kI 40 (fun _ => 0)), (s3, kO 7 [.ref i3, .int (-1), .int 0]), (i2, kI 40 (fun _ => 0)), (s2, kO 7 [.ref i2, .int (-1), .int 0]), (i1, kI 40 (fun _ => 0)), (s1, kO 7 [.ref i1, .int (-1), .int 0]), (i0, kI 40 (fun _ => 0)), (s0, kO 7 [.ref i0, .int (-1), .int 0]), (nm, kI 6 (fun _ => 0)), (oa, kL 26 (fun _ => 0)), (od, kO 2 [.ref oa]), (en, kI 3 (fun _ => 0)), (cd, kI 160 (fun _ => 0)), (tk, kO 10 [.ref k1, .ref k2, .ref k3, .int 0]), (k3, kI 161 (fun _ => 0)), (k2, kI 161 (fun _ => 0)), (k1, kI 161 (fun _ => 0)), (rd, kO 4 [.ref tk, .ref cd, .ref en, .int 0, .int 0, .int 0, .int 0]), (ta, kI 160 (fillO (sB 0) (fun _ => 0) 0 54)), (tp, kO 8 [.ref ta, .int (nI 54)]), (sh, kQ 3 4 (va_up (va_up (va_up (va_up (fun _ => none) 0 (some s0)) 1 (some s1)) 2 (some s2)) 3 (some s3))), (l4, kO 13 [.int 0, .ref (X.2.2.2.1 2), .int 0]), (l3, kO 13 [.int 0, .ref (X.2.2.2.1 2), .int 0]), (l2, kO 13 [.int 0, .ref (X.2.2.2.1 2), .int 0]), (l1, kO 13 [.int 0, .ref (X.2.2.2.1 2), .int 0]), (l0, kO 13 [.int 0, .ref (X.2.2.2.1 2), .int 0]), (a, kO 11 [.ref l0, .ref l1, .ref l2, .ref l3, .ref l4, .ref sh, .ref tp, .ref rd, .ref od, .ref nm, .int 0, .int (-1), .int 0, .int 0])] : List (Nat × kE)).map Prod.fst).Nodup := nd
  refine ⟨fun k i k' i' h1 h2 hz => ?_, fun k i hk => ?_⟩
  · obtain ⟨a1, a2⟩ := clvB h1
    obtain ⟨b1, b2⟩ := clvB h2
    exact ix_in k a1 i a2 k' b1 i' b2 (getD_inj nd (ix_lt k a1 i a2) (ix_lt k' b1 i' b2) hz)
  · obtain ⟨a1, a2⟩ := clvB hk
    rcases (by omega : k = 0 ∨ k = 1 ∨ k = 2 ∨ k = 3 ∨ k = 4 ∨ k = 5 ∨ k = 6 ∨ k = 7 ∨ k = 8 ∨ k = 9 ∨ k = 10 ∨ k = 11 ∨ k = 12 ∨ k = 13 ∨ k = 14) with rfl | rfl | rfl | rfl | rfl | rfl | rfl | rfl | rfl | rfl | rfl | rfl | rfl | rfl | rfl
    · have a2 : i < 1 := a2
      rcases (by omega : i = 0) with rfl
      · exact ⟨_, hL_get (j := 26) nd rfl, (show _ = kO 11 (cfl _ uB) from rfl)⟩
    · have a2 : i < 5 := a2
      rcases (by omega : i = 0 ∨ i = 1 ∨ i = 2 ∨ i = 3 ∨ i = 4) with rfl | rfl | rfl | rfl | rfl
      · exact ⟨_, hL_get (j := 25) nd rfl, (show ∃ md : Int32, kO 13 [.int 0, .ref (X.2.2.2.1 2), .int 0] = kO 13 [.int md, .ref (if lsz uB 0 = 0 then X.2.2.2.1 2 else (sgI [i3, s3, i2, s2, i1, s1, i0, s0, nm, oa, od, en, cd, tk, k3, k2, k1, rd, ta, tp, sh, l4, l3, l2, l1, l0, a]) 30 0), .int (nI (lsz uB 0))] from ⟨0, by rw [lszB, if_pos rfl]; rfl⟩)⟩
      · exact ⟨_, hL_get (j := 24) nd rfl, (show ∃ md : Int32, kO 13 [.int 0, .ref (X.2.2.2.1 2), .int 0] = kO 13 [.int md, .ref (if lsz uB 1 = 0 then X.2.2.2.1 2 else (sgI [i3, s3, i2, s2, i1, s1, i0, s0, nm, oa, od, en, cd, tk, k3, k2, k1, rd, ta, tp, sh, l4, l3, l2, l1, l0, a]) 30 1), .int (nI (lsz uB 1))] from ⟨0, by rw [lszB, if_pos rfl]; rfl⟩)⟩
      · exact ⟨_, hL_get (j := 23) nd rfl, (show ∃ md : Int32, kO 13 [.int 0, .ref (X.2.2.2.1 2), .int 0] = kO 13 [.int md, .ref (if lsz uB 2 = 0 then X.2.2.2.1 2 else (sgI [i3, s3, i2, s2, i1, s1, i0, s0, nm, oa, od, en, cd, tk, k3, k2, k1, rd, ta, tp, sh, l4, l3, l2, l1, l0, a]) 30 2), .int (nI (lsz uB 2))] from ⟨0, by rw [lszB, if_pos rfl]; rfl⟩)⟩
      · exact ⟨_, hL_get (j := 22) nd rfl, (show ∃ md : Int32, kO 13 [.int 0, .ref (X.2.2.2.1 2), .int 0] = kO 13 [.int md, .ref (if lsz uB 3 = 0 then X.2.2.2.1 2 else (sgI [i3, s3, i2, s2, i1, s1, i0, s0, nm, oa, od, en, cd, tk, k3, k2, k1, rd, ta, tp, sh, l4, l3, l2, l1, l0, a]) 30 3), .int (nI (lsz uB 3))] from ⟨0, by rw [lszB, if_pos rfl]; rfl⟩)⟩
      · exact ⟨_, hL_get (j := 21) nd rfl, (show ∃ md : Int32, kO 13 [.int 0, .ref (X.2.2.2.1 2), .int 0] = kO 13 [.int md, .ref (if lsz uB 4 = 0 then X.2.2.2.1 2 else (sgI [i3, s3, i2, s2, i1, s1, i0, s0, nm, oa, od, en, cd, tk, k3, k2, k1, rd, ta, tp, sh, l4, l3, l2, l1, l0, a]) 30 4), .int (nI (lsz uB 4))] from ⟨0, by rw [lszB, if_pos rfl]; rfl⟩)⟩
    · have a2 : i < 1 := a2
      rcases (by omega : i = 0) with rfl
      · exact ⟨_, hL_get (j := 20) nd rfl, ⟨_, rfl, fun j hj => by rcases (by omega : j = 0 ∨ j = 1 ∨ j = 2 ∨ j = 3) with rfl | rfl | rfl | rfl <;> rfl⟩⟩
    · have a2 : i < 4 := a2
      rcases (by omega : i = 0 ∨ i = 1 ∨ i = 2 ∨ i = 3) with rfl | rfl | rfl | rfl
      · exact ⟨_, hL_get (j := 7) nd rfl, ⟨-1, 0, rfl, fun _ => rfl, fun z => absurd (show (0 : Int32) = nI 1 from z) (by decide)⟩⟩
      · exact ⟨_, hL_get (j := 5) nd rfl, ⟨-1, 0, rfl, fun _ => rfl, fun z => absurd (show (0 : Int32) = nI 1 from z) (by decide)⟩⟩
      · exact ⟨_, hL_get (j := 3) nd rfl, ⟨-1, 0, rfl, fun _ => rfl, fun z => absurd (show (0 : Int32) = nI 1 from z) (by decide)⟩⟩
      · exact ⟨_, hL_get (j := 1) nd rfl, ⟨-1, 0, rfl, fun _ => rfl, fun z => absurd (show (0 : Int32) = nI 1 from z) (by decide)⟩⟩
    · have a2 : i < 4 := a2
      rcases (by omega : i = 0 ∨ i = 1 ∨ i = 2 ∨ i = 3) with rfl | rfl | rfl | rfl
      · exact ⟨_, hL_get (j := 6) nd rfl, ⟨fun _ => 0, rfl, fun z => absurd (show (0 : Int32) = nI 1 from z) (by decide)⟩⟩
      · exact ⟨_, hL_get (j := 4) nd rfl, ⟨fun _ => 0, rfl, fun z => absurd (show (0 : Int32) = nI 1 from z) (by decide)⟩⟩
      · exact ⟨_, hL_get (j := 2) nd rfl, ⟨fun _ => 0, rfl, fun z => absurd (show (0 : Int32) = nI 1 from z) (by decide)⟩⟩
      · exact ⟨_, hL_get (j := 0) nd rfl, ⟨fun _ => 0, rfl, fun z => absurd (show (0 : Int32) = nI 1 from z) (by decide)⟩⟩
    · have a2 : i < 1 := a2
      rcases (by omega : i = 0) with rfl
      · exact ⟨_, hL_get (j := 19) nd rfl, (show _ = kO 8 [_, .int (uB.1 6)] from rfl)⟩
    · have a2 : i < 1 := a2
      rcases (by omega : i = 0) with rfl
      · exact ⟨_, hL_get (j := 18) nd rfl, ⟨_, rfl, fun j hj => (fillO_in (Nat.zero_le _) (by have hj : j < 54 := hj; omega)).trans (by rw [Nat.sub_zero]; rfl)⟩⟩
    · have a2 : i < 1 := a2
      rcases (by omega : i = 0) with rfl
      · exact ⟨_, hL_get (j := 17) nd rfl, ⟨0, 0, 0, 0, rfl⟩⟩
    · have a2 : i < 1 := a2
      rcases (by omega : i = 0) with rfl
      · exact ⟨_, hL_get (j := 13) nd rfl, ⟨0, rfl⟩⟩
    · have a2 : i < 3 := a2
      rcases (by omega : i = 0 ∨ i = 1 ∨ i = 2) with rfl | rfl | rfl
      · exact ⟨_, hL_get (j := 16) nd rfl, ⟨_, rfl⟩⟩
      · exact ⟨_, hL_get (j := 15) nd rfl, ⟨_, rfl⟩⟩
      · exact ⟨_, hL_get (j := 14) nd rfl, ⟨_, rfl⟩⟩
    · have a2 : i < 1 := a2
      rcases (by omega : i = 0) with rfl
      · exact ⟨_, hL_get (j := 12) nd rfl, ⟨_, rfl⟩⟩
    · have a2 : i < 1 := a2
      rcases (by omega : i = 0) with rfl
      · exact ⟨_, hL_get (j := 11) nd rfl, ⟨_, rfl⟩⟩
    · have a2 : i < 1 := a2
      rcases (by omega : i = 0) with rfl
      · exact ⟨_, hL_get (j := 10) nd rfl, (show _ = kO 2 [_] from rfl)⟩
    · have a2 : i < 1 := a2
      rcases (by omega : i = 0) with rfl
      · exact ⟨_, hL_get (j := 9) nd rfl, ⟨_, rfl⟩⟩
    · have a2 : i < 1 := a2
      rcases (by omega : i = 0) with rfl
      · exact ⟨_, hL_get (j := 8) nd rfl, ⟨_, rfl⟩⟩
end CPQ

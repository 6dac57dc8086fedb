/-! THE CLASS: ITS STATE READ -/
section CSU
variable {X : KX} {h : AH} {s : MST} {σ : Nat → Nat → Nat} {M : MX}
theorem c_fc (hI : CI X σ s h) : h (σ 0 0) = some (kO 11 (cfl σ s)) := by
  obtain ⟨e, he, hc⟩ := hI.2 0 0 Nat.zero_lt_one
  exact he.trans (congrArg some hc)
theorem c_li (hI : CI X σ s h) {i : Nat} (hi : i < 5) : ∃ md : Int32, h (σ 1 i) = some (kO 13 [.int md, .ref (if lsz s i = 0 then X.2.2.2.1 2 else σ 30 i), .int (nI (lsz s i))]) := by
  obtain ⟨e, he, md, hc⟩ := hI.2 1 i hi
  exact ⟨md, he.trans (congrArg some hc)⟩
theorem c_la (hI : CI X σ s h) {i : Nat} (hi : i < 5) (h0 : 0 < lsz s i) : ∃ (cap : Nat) (F : Nat → Option Nat), h (σ 30 i) = some (kQ 2 cap F) ∧ lsz s i ≤ cap ∧ (cap = 10 ∨ cap = 15 ∨ cap = 22) ∧ ∀ j, j < lsz s i → F j = some (σ (lek i) j) := by
  obtain ⟨e, he, cap, F, rfl, hc⟩ := hI.2 30 i ⟨hi, h0⟩
  exact ⟨cap, F, he, hc⟩
theorem c_LR (hI : CI X σ s h) {i : Nat} (hi : i < 5) : LR X h (σ 1 i) (if lsz s i = 0 then X.2.2.2.1 2 else σ 30 i) (lsz s i) (σ (lek i)) := by
  refine ⟨c_li hI hi, ?_⟩
  rcases Nat.eq_zero_or_pos (lsz s i) with q | q
  · exact Or.inl ⟨q, if_pos q⟩
  · obtain ⟨cap, F, h1, h2⟩ := c_la hI hi q
    exact Or.inr ⟨cap, F, by rw [if_neg (by omega)]; exact h1, h2⟩
theorem kr_t (hI : CI X σ s h) : KRecv X M h "FiveCards" (σ 0 0) := krecv_of (ci := 11) rfl (c_fc hI)
theorem kr_l (hI : CI X σ s h) {i : Nat} (hi : i < 5) : KRecv X M h "java/util/ArrayList" (σ 1 i) := by
  obtain ⟨md, hc⟩ := c_li hI hi
  exact krecv_of (ci := 13) rfl hc
set_option maxRecDepth 4000 in
theorem w_size (hI : CI X σ s h) {i : Nat} (hi : i < 5) : Fn X 0 0 0 yJx4a65c_size_8abf5 cJx4a65c_size_8abf5 1 (some .int) [.ref (σ 1 i)] h (fun rv hv => rv = some (.int (nI (lsz s i))) ∧ hv = h) := by
  obtain ⟨md, hc⟩ := c_li hI hi
  exact f_size hc
set_option maxRecDepth 4000 in
theorem w_get (hI : CI X σ s h) {i j : Nat} (hi : i < 5) (hj : j < lsz s i) : Fn X 2 0 0 yJx4a65c_get_915e3 cJx4a65c_get_915e3 2 (some (.object "java/lang/Object")) [.ref (σ 1 i), .int (nI j)] h (fun rv hv => rv = some (.ref (σ (lek i) j)) ∧ hv = h) := by
  obtain ⟨md, hc⟩ := c_li hI hi
  obtain ⟨cap, F, h1, h2, h3, h4⟩ := c_la hI hi (by omega)
  rw [if_neg (by omega)] at hc
  exact f_get hc h1 h2 (by omega) hj (h4 j hj)
theorem c_pack (hI : CI X σ s h) (hV : MV s) {p : Nat} (hp : p < vI s 10) : ∃ pf : Nat → Int32, h (σ 15 p) = some (kO 3 [.ref (σ 16 p), .int (nI (vA s 9 p))]) ∧ h (σ 16 p) = some (kI 5 pf) ∧ (∀ j, j < 5 → pf j = nI (vA s 8 (5 * p + j))) ∧ ∀ j, j < 5 → okV (pf j) 10 := by
  obtain ⟨e, he, hc⟩ := hI.2 15 p hp
  obtain ⟨e2, he2, pf, rfl, hf⟩ := hI.2 16 p hp
  have hq := hV.1.2 p hp
  refine ⟨pf, by rw [he, show e = _ from hc, hq.1.nI], he2, fun j hj => (hf j hj).trans ((hq.2.2.1 j hj).nI), fun j hj => by rw [hf j hj]; exact hq.2.2.1 j hj⟩
/-- run r as it lies in the heap -/
theorem c_run (hI : CI X σ s h) {r : Nat} (hr : r < vI s 18) : ∃ (ks kp : Int32) (f g : Nat → Int32), h (σ 17 r) = some (rO (s.2.1 11 r) (s.2.1 12 r) (s.2.1 13 r) (s.2.1 16 r) (s.2.1 17 r) ks kp (σ 15 (vA s 11 r)) (σ 18 r) (σ 19 r) (σ 20 r) (σ 21 r) (σ 22 r) (σ 23 r)) ∧ h (σ 18 r) = some (kI (rsz s r) f) ∧ h (σ 19 r) = some (kI (rsz s r) g) ∧ (∀ j, j < rsz s r → f j = s.2.1 14 (25 * r + j)) ∧ (∀ j, j < rsz s r → g j = s.2.1 15 (25 * r + j)) := by
  obtain ⟨e, he, ks, kp, rfl, -⟩ := hI.2 17 r hr
  obtain ⟨e1, he1, f, rfl, hf⟩ := hI.2 18 r hr
  obtain ⟨e2, he2, g, rfl, hg⟩ := hI.2 19 r hr
  exact ⟨ks, kp, f, g, he, he1, he2, hf, hg⟩
theorem c_isR (hI : CI X σ s h) {r : Nat} (hr : r < vI s 18) : ∃ fs, h (σ 17 r) = some (.inr (5, fs)) := by
  obtain ⟨ks, kp, f, g, h1, -⟩ := c_run hI hr
  exact ⟨_, h1⟩
theorem c_isP (hI : CI X σ s h) {p : Nat} (hp : p < vI s 10) : ∃ fs, h (σ 15 p) = some (.inr (3, fs)) := by
  obtain ⟨e, he, hc⟩ := hI.2 15 p hp
  exact ⟨_, he.trans (congrArg some hc)⟩
theorem c_lk (hI : CI X σ s h) (hV : MV s) {k : Nat} (hk : k < vI s 28) : ∃ w : Bool, h (σ 24 k) = some (kO 1 [.int (nI (vA s 24 k)), .int (s.2.1 25 k), .int (s.2.1 26 k), .int (bI (decide (s.2.1 27 k = nI 1))), .int (bI w)]) := by
  obtain ⟨e, he, w, rfl, -⟩ := hI.2 24 k hk
  have hq := hV.2.2.1.2 k hk
  refine ⟨w, ?_⟩
  rw [he, hq.1.nI]
  have h2 : s.2.1 27 k = bI (decide (s.2.1 27 k = nI 1)) := by
    have hb := hq.2.2.2
    rcases (by have := hb.2; omega : (s.2.1 27 k).toNatClampNeg = 0 ∨ (s.2.1 27 k).toNatClampNeg = 1) with q | q
    · have e := hb.nI; rw [q] at e; rw [e]; decide
    · have e := hb.nI; rw [q] at e; rw [e]; decide
  rw [← h2]
theorem c_isL (hI : CI X σ s h) {k : Nat} (hk : k < vI s 28) : ∃ fs, h (σ 24 k) = some (.inr (1, fs)) := by
  obtain ⟨e, he, w, rfl, -⟩ := hI.2 24 k hk
  exact ⟨_, he⟩
theorem c_sc (hI : CI X σ s h) {k : Nat} (hk : k < vI s 31) : h (σ 25 k) = some (kO 6 [.int (s.2.1 29 k), .int (s.2.1 30 k)]) := by
  obtain ⟨e, he, hc⟩ := hI.2 25 k hk
  exact he.trans (congrArg some hc)
theorem c_isS (hI : CI X σ s h) {k : Nat} (hk : k < vI s 31) : ∃ fs, h (σ 25 k) = some (.inr (6, fs)) := ⟨_, c_sc hI hk⟩
theorem c_isT (hI : CI X σ s h) {k : Nat} (hk : k < vI s 3) : ∃ fs, h (σ 26 k) = some (.inr (9, fs)) := by
  obtain ⟨e, he, hc⟩ := hI.2 26 k hk
  exact ⟨_, he.trans (congrArg some hc)⟩
theorem kr_r (hI : CI X σ s h) {r : Nat} (hr : r < vI s 18) : KRecv X M h "FiveCards$Run" (σ 17 r) := by
  obtain ⟨fs, hc⟩ := c_isR hI hr
  exact krecv_of (ci := 5) rfl hc
theorem kr_k (hI : CI X σ s h) {k : Nat} (hk : k < vI s 28) : KRecv X M h "FiveCards$Leak" (σ 24 k) := by
  obtain ⟨fs, hc⟩ := c_isL hI hk
  exact krecv_of (ci := 1) rfl hc
theorem kr_x (hI : CI X σ s h) {k : Nat} (hk : k < vI s 3) : KRecv X M h "FiveCards$Text" (σ 26 k) := by
  obtain ⟨fs, hc⟩ := c_isT hI hk
  exact krecv_of (ci := 9) rfl hc
section CST2
variable {y : MethodName} {cc : ByteArray} {nL : Nat} {rt : Option FieldType} {pc : Nat} {L : List (Nat × Value)} {st : List Value} {uc us : Nat}
theorem a_castE {idx ci a : Nat} {C : String} (hq : Cond.classLink y.cls idx C ∈ BIG) (hc : (kcl[ci]?).map (fun q => q.1) = some C) (ha : ∃ fs, h a = some (.inr (ci, fs))) (hd : decode cc pc = .ok (.checkcast idx, 3)) (kk : AJ X M y cc nL rt (pc + 3) L (.ref a :: st) h uc us) : AJ X M y cc nL rt pc L (.ref a :: st) h uc us := by
  obtain ⟨fs, h1⟩ := ha
  exact a_cast hq hc h1 hd kk
theorem a_topr {a b : Nat} (e : a = b) (k : AJ X M y cc nL rt pc L (.ref b :: st) h uc us) : AJ X M y cc nL rt pc L (.ref a :: st) h uc us := by rw [e]; exact k
end CST2
theorem rz25 (hV : MV s) {r : Nat} (hr : r < vI s 18) : rsz s r ≤ 25 := (MV_run hV hr).2.2.2
theorem rz1 (hV : MV s) {r : Nat} (hr : r < vI s 18) : 1 ≤ rsz s r := (MV_run hV hr).2.2.1
theorem r11 (hV : MV s) {r : Nat} (hr : r < vI s 18) : vA s 11 r < vI s 10 := (hV.2.1.2 r hr).1.2
set_option maxRecDepth 4000 in
theorem w_hits (hI : CI X σ s h) (hV : MV s) {r : Nat} (hr : r < vI s 18) : Fn X 1 0 0 yX5_hits cX5_hits 1 (some .int) [.ref (σ 17 r)] h (fun rv hv => rv = some (.int (nI (hitsP s r (rsz s r)))) ∧ hv = h) := by
  obtain ⟨ks, kp, f, g, h1, h2, h3, hf, hg⟩ := c_run hI hr
  refine (f_chits h1 h2 h3 (rz25 hV hr)).imp (fun rv hv ⟨e1, e2⟩ => ⟨e1.trans ?_, e2⟩)
  rw [cntN_cg (fun i hi => by rw [hf i hi, hg i hi])]
  rfl
set_option maxRecDepth 4000 in
theorem w_next (hI : CI X σ s h) (hV : MV s) {r : Nat} (hr : r < vI s 18) : Fn X 0 0 0 yX5_nextHits cX5_nextHits 3 (some .int) [.ref (σ 17 r)] h (fun rv hv => rv = some (.int (nI (nextP s r (rsz s r)))) ∧ hv = h) := by
  obtain ⟨ks, kp, f, g, h1, h2, h3, hf, hg⟩ := c_run hI hr
  refine (f_cnext h1 h2 h3 (rz25 hV hr)).imp (fun rv hv ⟨e1, e2⟩ => ⟨e1.trans ?_, e2⟩)
  rw [cntN_cg (fun i hi => by rw [hf (i + 1) (by omega), hg i (by omega)])]
  rfl
theorem alike_eq {f : Nat → Int32} {r : Nat} (hf : ∀ j, j < rsz s r → f j = s.2.1 14 (25 * r + j)) : cntN (fun i => decide (f (i + 1) = f (i + 1 - 1))) (rsz s r - 1) = alikeP s r (rsz s r) := by
  rw [cntN_cg (fun i hi => by rw [hf (i + 1) (by omega), hf (i + 1 - 1) (by omega)])]
  rfl
set_option maxRecDepth 4000 in
theorem w_alike (hI : CI X σ s h) (hV : MV s) {r : Nat} (hr : r < vI s 18) : Fn X 0 0 0 yX5_alike cX5_alike 3 (some .int) [.ref (σ 17 r)] h (fun rv hv => rv = some (.int (nI (alikeP s r (rsz s r)))) ∧ hv = h) := by
  obtain ⟨ks, kp, f, g, h1, h2, h3, hf, hg⟩ := c_run hI hr
  refine (f_calike h1 h2 h3 (rz25 hV hr)).imp (fun rv hv ⟨e1, e2⟩ => ⟨e1.trans ?_, e2⟩)
  rw [alike_eq hf]
set_option maxRecDepth 4000 in
theorem w_isOf (hI : CI X σ s h) (hV : MV s) {r : Nat} (hr : r < vI s 18) (q a b : Int32) : Fn X 0 0 0 yX5_isOf cX5_isOf 4 (some .boolean) [.ref (σ 17 r), .int q, .int a, .int b] h (fun rv hv => rv = some (.int (bI (inDay s q a b r))) ∧ hv = h) := by
  obtain ⟨ks, kp, f, g, h1, h2, h3, hf, hg⟩ := c_run hI hr
  exact f_isOf h1 h2 h3 (rz25 hV hr) q a b
theorem ok_dec {x : Int32} {n j : Nat} (h : okV x n) (hj : j < 100) (hn : n ≤ 1000) : decide (x = nI j) = decide (x.toNatClampNeg = j) := by
  have e := h.nI
  by_cases q : x.toNatClampNeg = j
  · rw [decide_eq_true q, decide_eq_true (e.trans (by rw [q]))]
  · rw [decide_eq_false q, decide_eq_false (fun z => q (by rw [z, nI_clamp (by omega)]))]
set_option maxRecDepth 4000 in
theorem w_expAb (hI : CI X σ s h) (hV : MV s) {r : Nat} (hr : r < vI s 18) : Fn X 1 0 0 yX5_expectedAbove cX5_expectedAbove 3 (some .int) [.ref (σ 17 r)] h (fun rv hv => rv = some (.int (nI (expP s r (vA s 11 r) (rsz s r) 5))) ∧ hv = h) := by
  obtain ⟨ks, kp, f, g, h1, h2, h3, hf, hg⟩ := c_run hI hr
  obtain ⟨pf, p1, p2, p3, p4⟩ := c_pack hI hV (r11 hV hr)
  refine (f_expAb h1 h2 h3 (rz25 hV hr) p1 p2 p4).imp (fun rv hv ⟨e1, e2⟩ => ⟨e1.trans ?_, e2⟩)
  congr 3
  unfold exA expP
  refine sumN_congr (fun j hj => ?_)
  have hq := hV.1.2 _ (r11 hV hr)
  have ho := (hV.2.1.2 r hr).2.2.2.2.1
  rw [p3 j hj, nI_clamp (Nat.lt_trans (hq.2.2.1 j hj).2 (by decide)), Nat.mul_comm, cntN_cg (fun i hi => by rw [hg i hi, ok_dec (ho i hi) (by omega) (by decide)])]
  rfl
theorem byL_cg {l l' : Nat → Int32} {c c' : Nat → Nat} (hl : ∀ j, j < 5 → l j = l' j) : ∀ n : Nat, (∀ i, i < n → c i = c' i ∧ c i < 5) → (∀ j, j < 5 → (byL l c n).1 j = (byL l' c' n).1 j) ∧ (byL l c n).2 = (byL l' c' n).2
  | 0, _ => ⟨hl, rfl⟩
  | n + 1, hc => by
    obtain ⟨h1, h2⟩ := byL_cg hl n (fun i hi => hc i (by omega))
    obtain ⟨e, e5⟩ := hc n (by omega)
    have hm : mostL (byL l c n).1 4 = mostL (byL l' c' n).1 4 := by
      have : ∀ k, k < 5 → mostL (byL l c n).1 k = mostL (byL l' c' n).1 k := by
        intro k
        induction k with
        | zero => intro _; rfl
        | succ k ih =>
          intro hk
          have ih := ih (by omega)
          have hle := mostL_le (byL l' c' n).1 k
          show (if _ then _ else _) = (if _ then _ else _)
          rw [ih, h1 (k + 1) hk, h1 _ (by omega)]
      exact this 4 (by decide)
    refine ⟨fun j hj => ?_, ?_⟩
    · show upd (byL l c n).1 (c n) ((byL l c n).1 (c n) - nI 1) j = upd (byL l' c' n).1 (c' n) ((byL l' c' n).1 (c' n) - nI 1) j
      unfold upd
      rw [← e, h1 _ e5, h1 j hj]
    · show (byL l c n).2 + (if c n = mostL (byL l c n).1 4 then 1 else 0) = (byL l' c' n).2 + (if c' n = mostL (byL l' c' n).1 4 then 1 else 0)
      rw [h2, hm, e]
set_option maxRecDepth 4000 in
theorem w_byLeft (hI : CI X σ s h) (hV : MV s) {r : Nat} (hr : r < vI s 18) : Fn X 1 0 0 yX5_hitsByLeft cX5_hitsByLeft 3 (some .int) [.ref (σ 17 r)] h (fun rv hv => rv = some (.int (nI (byL (leftF s (vA s 11 r)) (cnOf s 14 r) (rsz s r)).2)) ∧ CS X σ s h s hv) := by
  obtain ⟨ks, kp, f, g, h1, h2, h3, hf, hg⟩ := c_run hI hr
  obtain ⟨pf, p1, p2, p3, p4⟩ := c_pack hI hV (r11 hV hr)
  obtain ⟨e4, he4, l0, rfl⟩ := hI.2 21 r hr
  have ho := (hV.2.1.2 r hr).2.2.2.1
  refine (f_byLeftC h1 h2 h3 (rz25 hV hr) p1 p2 p4 he4 (fun i hi => by rw [hf i hi]; exact ho i hi) (hI.ne (k := 18) (i := r) hr hr (by omega)) (hI.ne (k := 19) (i := r) hr hr (by omega))).imp (fun rv hv ⟨e1, e2⟩ => ⟨e1.trans ?_, ?_⟩)
  · rw [(byL_cg (l' := leftF s (vA s 11 r)) (c' := cnOf s 14 r) (fun j hj => ?_) (rsz s r) (fun i hi => ?_)).2]
    · unfold va_cpy leftF fillO
      rw [if_pos ⟨Nat.zero_le _, by omega⟩, if_pos ⟨Nat.zero_le _, by omega⟩, Nat.zero_add, Nat.sub_zero, p3 j hj]
      exact ((hV.1.2 _ (r11 hV hr)).2.2.1 j hj).nI.symm
    · rw [hf i hi]
      exact ⟨rfl, (ho i hi).2⟩
  · rw [e2]
    exact hI.put1 (k := 21) hr ⟨_, rfl⟩
theorem givesP_eq (hV : MV s) {k r : Nat} {pf : Nat → Int32} (hk : k < vI s 28) (hr : r < vI s 18) (hpf : ∀ j, j < 5 → pf j = nI (vA s 8 (5 * vA s 11 r + j))) : (if decide (s.2.1 27 k = nI 1) = true then nI 0 else (if nI (rsz s r) < givesV (vA s 24 k) (s.2.1 25 k) (if pf (vA s 26 k) < s.2.1 25 k then pf (vA s 26 k) else s.2.1 25 k) (alikeP s r (rsz s r)) then nI (rsz s r) else givesV (vA s 24 k) (s.2.1 25 k) (if pf (vA s 26 k) < s.2.1 25 k then pf (vA s 26 k) else s.2.1 25 k) (alikeP s r (rsz s r)))) = givesP s k r (rsz s r) := by
  have hl := hV.2.2.1.2 k hk
  have mn : ∀ a b : Int32, (if a < b then a else b) = (if a ≤ b then a else b) := fun a b => by
    by_cases q : a < b
    · rw [if_pos q, if_pos (Int32.le_of_lt q)]
    · rw [if_neg q]
      by_cases q2 : a ≤ b
      · rw [if_pos q2]; exact Int32.le_antisymm (Int32.not_lt.mp q) q2
      · rw [if_neg q2]
  have hh : (if pf (vA s 26 k) < s.2.1 25 k then pf (vA s 26 k) else s.2.1 25 k) = heardP (s.2.1 25 k) (hasP s k r (rsz s r)) := by
    have h5 : vA s 26 k < 5 := hl.2.2.1.2
    have hc := (hV.2.1.2 r hr).2.2.2.2.2 (vA s 26 k) h5
    rw [mn, hpf _ h5, ← hc]
    unfold heardP hasP
    rw [← hl.2.2.1.nI]
  rw [hh, mn]
  unfold givesP capP
  by_cases q : s.2.1 27 k = nI 1
  · rw [if_pos (decide_eq_true q), if_pos q]
  · rw [if_neg (by rw [decide_eq_false q]; decide), if_neg q]
set_option maxRecDepth 4000 in
theorem w_mostH (hI : CI X σ s h) (hV : MV s) {k r : Nat} (hk : k < vI s 28) (hr : r < vI s 18) : Fn X 2 0 0 yX1_mostHits cX1_mostHits 2 (some .int) [.ref (σ 24 k), .ref (σ 17 r)] h (fun rv hv => rv = some (.int (givesP s k r (rsz s r))) ∧ hv = h) := by
  obtain ⟨ks, kp, f, g, h1, h2, h3, hf, hg⟩ := c_run hI hr
  obtain ⟨pf, p1, p2, p3, p4⟩ := c_pack hI hV (r11 hV hr)
  obtain ⟨w, hw⟩ := c_lk hI hV hk
  have hl := hV.2.2.1.2 k hk
  refine (f_mostH hw hl.1.2 h1 h2 h3 (rz25 hV hr) p1 p2 hl.2.2.1.nI hl.2.2.1.2).imp (fun rv hv ⟨e1, e2⟩ => ⟨e1.trans ?_, e2⟩)
  rw [← givesP_eq hV hk hr p3, alike_eq hf]
set_option maxRecDepth 4000 in
theorem w_weight (hI : CI X σ s h) (hV : MV s) {k : Nat} (hk : k < vI s 28) : Fn X 0 0 0 yX1_weight cX1_weight 1 (some .int) [.ref (σ 24 k)] h (fun rv hv => rv = some (.int (cntsP (s.2.1 24 k))) ∧ hv = h) := by
  obtain ⟨w, hw⟩ := c_lk hI hV hk
  have hl := hV.2.2.1.2 k hk
  refine (f_weight hw hl.1.2).imp (fun rv hv ⟨e1, e2⟩ => ⟨e1.trans ?_, e2⟩)
  have h6 : vA s 24 k < 6 := hl.1.2
  rw [hl.1.nI]
  show some (Value.int (k_weights (vA s 24 k))) = some (Value.int (cntsP (nI (vA s 24 k))))
  refine congrArg (fun t => some (Value.int t)) ?_
  generalize vA s 24 k = z at h6 ⊢
  rcases (by omega : z = 0 ∨ z = 1 ∨ z = 2 ∨ z = 3 ∨ z = 4 ∨ z = 5) with rfl | rfl | rfl | rfl | rfl | rfl <;> decide +kernel
set_option maxRecDepth 4000 in
theorem w_under (hI : CI X σ s h) (hV : MV s) {k o : Nat} (hk : k < vI s 28) (ho : o < 6) : Fn X 0 0 0 yX1_isUnder cX1_isUnder 4 (some .boolean) [.ref (σ 24 k), .int (nI o)] h (fun rv hv => rv = some (.int (bI (undB (vA s 24 k) o))) ∧ hv = h) := by
  obtain ⟨w, hw⟩ := c_lk hI hV hk
  exact f_isUnder hw (hV.2.2.1.2 k hk).1.2 ho
end CSU

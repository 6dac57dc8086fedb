/-! THE CLASS: A TEXT READ FROM THE TAPE -/
section CPN
variable {X : KX} {h : AH} {s : MST} {σ : Nat → Nat → Nat}
/-- what reading a text wants of the state -/
def RTp (s : MST) : Prop := s.1 6 = nI (vI s 6) ∧ vI s 6 ≤ 160 ∧ (∀ i, i < vI s 6 → okV (s.2.1 5 i) 256) ∧ (∀ t, t < vI s 3 → vA s 2 t ≤ 160) ∧ (∀ i, i < vI s 18 → (s.2.1 11 i).toNatClampNeg < vI s 10) ∧ vI s 3 < 6
theorem MV.rt (hV : MV s) (h : vI s 3 < 6) : RTp s := by
  obtain ⟨-, -, -, ⟨hn6, hb6⟩, h5, ht⟩ := id hV.2.2.2.2.2.2.1
  refine ⟨hn6, hb6, h5, fun t h3 => ?_, MV.pk hV, h⟩
  have := (ht t h3).1.2
  have : (s.2.1 2 t).toNatClampNeg < 161 := this
  show (s.2.1 2 t).toNatClampNeg ≤ 160
  omega
theorem read_ci {c L k : Nat} {fk fp fn fe fc : Nat → Int32} {tk ft : Int32} (hI : CI X σ s h) : CS X σ s h s (RH (kput (TH h (σ 8 0) (σ 9 0) (σ 9 1) (σ 9 2) c fk fp fn) (σ 11 0) (kI 3 fe)) (σ 7 0) (σ 8 0) (σ 10 0) (σ 11 0) L k tk ft fc) := by
  refine CI.puts (l := [(9, 0, kI 161 fk), (9, 1, kI 161 fp), (9, 2, kI 161 fn), (8, 0, kO 10 [.ref (σ 9 0), .ref (σ 9 1), .ref (σ 9 2), .int (nI c)]), (11, 0, kI 3 fe), (10, 0, kI 160 fc), (7, 0, kO 4 [.ref (σ 8 0), .ref (σ 10 0), .ref (σ 11 0), .int (nI L), .int (nI k), .int tk, .int ft])]) hI (fun _ _ => Iff.rfl) (fun p hp => ?_) (fun _ _ _ _ _ hc => hc)
  simp only [List.mem_cons, List.not_mem_nil, or_false] at hp
  rcases hp with rfl | rfl | rfl | rfl | rfl | rfl | rfl
  · exact ⟨show 0 < 3 by decide, show ∃ f : Nat → Int32, kI 161 fk = kI 161 f from ⟨fk, rfl⟩⟩
  · exact ⟨show 1 < 3 by decide, show ∃ f : Nat → Int32, kI 161 fp = kI 161 f from ⟨fp, rfl⟩⟩
  · exact ⟨show 2 < 3 by decide, show ∃ f : Nat → Int32, kI 161 fn = kI 161 f from ⟨fn, rfl⟩⟩
  · exact ⟨show 0 < 1 by decide, c, rfl⟩
  · exact ⟨show 0 < 1 by decide, show ∃ f : Nat → Int32, kI 3 fe = kI 3 f from ⟨fe, rfl⟩⟩
  · exact ⟨show 0 < 1 by decide, show ∃ f : Nat → Int32, kI 160 fc = kI 160 f from ⟨fc, rfl⟩⟩
  · exact ⟨show 0 < 1 by decide, L, k, tk, ft, rfl⟩
theorem tape0 (hI : CI X σ s h) : CS X σ s h (si s 6 (nI 0)) (kput h (σ 5 0) (kO 8 [.ref (σ 6 0), .int (nI 0)])) := by
  refine CI.puts1 hI (fun k i => clv_si (by decide) k i) (k1 := 5) (i1 := 0) Nat.zero_lt_one ?_ (fun k i e hn hk hc => ?_)
  · show kO 8 [.ref (σ 6 0), .int (nI 0)] = kO 8 [.ref (σ 6 0), .int ((si s 6 (nI 0)).1 6)]
    rw [si_e]
  · by_cases q5 : k = 5
    · subst q5
      exact absurd ⟨rfl, Nat.lt_one_iff.mp hk⟩ hn
    · by_cases q6 : k = 6
      · subst q6
        obtain ⟨f, rfl, hf⟩ := hc
        refine ⟨f, rfl, fun j hj => ?_⟩
        have hj : j < ((si s 6 (nI 0)).1 6).toNatClampNeg := hj
        rw [si_e] at hj
        exact absurd hj (Nat.not_lt_zero j)
      · exact CP_si (nd_6 k q5 q6) hc
theorem CI_sq {s' : MST} (hI : CI X σ s h) (hQ : SQ s s') (hl : ∀ i, i < 5 → lsz s' i = lsz s i) : CS X σ s h s' h := by
  have hv : ∀ k i, clv s' k i ↔ clv s k i := fun k i => by
    by_cases q3 : lof k < 5
    · rw [clv_l q3, clv_l q3, hl _ q3]
    · by_cases q5 : k = 30
      · subst q5
        exact (show clv s' 30 i ↔ (i < 5 ∧ 0 < lsz s' i) from Iff.rfl).trans ((show (i < 5 ∧ 0 < lsz s' i) ↔ (i < 5 ∧ 0 < lsz s i) from ⟨fun z => ⟨z.1, by rw [← hl i z.1]; exact z.2⟩, fun z => ⟨z.1, by rw [hl i z.1]; exact z.2⟩⟩).trans (show (i < 5 ∧ 0 < lsz s i) ↔ clv s 30 i from Iff.rfl))
      · exact clv_o q3 q5
  refine ⟨hv, ⟨fun k i k' i' a b => hI.1 k i k' i' ((hv k i).mp a) ((hv k' i').mp b), fun k i hk => ?_⟩, fun a _ hn => ⟨rfl, fun k i hk => hn k i ((hv k i).mp hk)⟩⟩
  have hk := (hv k i).mp hk
  obtain ⟨e, he, hc⟩ := hI.2 k i hk
  refine ⟨e, he, CP_gr hk hQ (fun _ _ _ => rfl) (fun hz => ?_) hc⟩
  rcases hz with rfl | rfl
  · exact hl i hk
  · exact hl i hk.1
section TXS
variable {s' : MST}
theorem tx_old (hR : RTp s) (h1 : s'.2.1 1 = fillO (s.2.1 5) (s.2.1 1) (160 * vI s 3) (vI s 6)) (h2 : s'.2.1 2 = upd (s.2.1 2) (vI s 3) (nI (vI s 6))) {i : Nat} (hi : i < vI s 3) : txE s' i = txE s i := by
  have e2 : vA s' 2 i = vA s 2 i := by
    show (s'.2.1 2 i).toNatClampNeg = (s.2.1 2 i).toNatClampNeg
    rw [h2, pk_un (by omega)]
  have hz := hR.2.2.2.1 i hi
  have eb : byP s' (160 * i) (vA s 2 i) = byP s (160 * i) (vA s 2 i) := by
    funext j
    unfold byP
    by_cases q : j < vA s 2 i
    · rw [if_pos q, if_pos q, h1, fillO_out (Or.inl (by omega))]
    · rw [if_neg q, if_neg q]
  unfold txE
  rw [e2, eb]
theorem tx_new (hR : RTp s) (h1 : s'.2.1 1 = fillO (s.2.1 5) (s.2.1 1) (160 * vI s 3) (vI s 6)) (h2 : s'.2.1 2 = upd (s.2.1 2) (vI s 3) (nI (vI s 6))) : txE s' (vI s 3) = tapeE s := by
  have hz := hR.2.1
  have e2 : vA s' 2 (vI s 3) = vI s 6 := by
    show (s'.2.1 2 (vI s 3)).toNatClampNeg = _
    rw [h2, pk_us, nI_clamp (by omega)]
  unfold txE
  rw [e2, byP_cg (s := N_txt s) (s' := s') (h1.trans (by unfold N_txt; rw [si_2, sa_n (by decide), sa_e])), byP_tape]
  rfl
theorem SQ_tx (hR : RTp s) (h0 : ∀ j, j ≠ 3 → s'.1 j = (si s 6 (nI 0)).1 j) (h1 : s'.2.1 1 = fillO (s.2.1 5) (s.2.1 1) (160 * vI s 3) (vI s 6)) (h2 : s'.2.1 2 = upd (s.2.1 2) (vI s 3) (nI (vI s 6))) (h3 : ∀ a, a ≠ 1 → a ≠ 2 → s'.2.1 a = s.2.1 a) : SQ (si s 6 (nI 0)) s' := by
  refine ⟨fun j hj => h0 j (by revert hj; revert j; decide), fun q hq => h3 q (by revert hq; revert q; decide) (by revert hq; revert q; decide), fun i hi => ⟨?_, fun j hj => ?_⟩, fun i hi => ⟨fun q hq => ?_, ?_, fun j hj => ?_⟩, fun i hi q hq => ?_, fun i hi => ?_, fun i hi => ?_⟩
  · rw [h3 9 (by decide) (by decide)]; rfl
  · rw [h3 8 (by decide) (by decide)]; rfl
  · rw [h3 q (by revert hq; revert q; decide) (by revert hq; revert q; decide)]; rfl
  · exact rsz_cg (h3 9 (by decide) (by decide)) (h3 11 (by decide) (by decide)) i
  · rw [h3 14 (by decide) (by decide), h3 15 (by decide) (by decide)]; exact ⟨rfl, rfl⟩
  · rw [h3 q (by revert hq; revert q; decide) (by revert hq; revert q; decide)]; rfl
  · rw [h3 29 (by decide) (by decide), h3 30 (by decide) (by decide)]; exact ⟨rfl, rfl⟩
  · exact (tx_old hR h1 h2 hi).trans rfl
end TXS
theorem nt1 : (N_txt s).2.1 1 = fillO (s.2.1 5) (s.2.1 1) (160 * vI s 3) (vI s 6) := by unfold N_txt; rw [si_2, sa_n (by decide), sa_e]
theorem nt2 : (N_txt s).2.1 2 = upd (s.2.1 2) (vI s 3) (nI (vI s 6)) := by unfold N_txt; rw [si_2, sa_e]
theorem nt3 {a : Nat} (h1 : a ≠ 1) (h2 : a ≠ 2) : (N_txt s).2.1 a = s.2.1 a := by unfold N_txt; rw [si_2, sa_n h2, sa_n h1]
theorem nt0 {j : Nat} : (N_txt s).1 j = (si s 6 (nI 0)).1 j := rfl
theorem SQ_txB (hR : RTp s) : SQ (si s 6 (nI 0)) (N_txt s) := SQ_tx hR (fun _ _ => nt0) nt1 nt2 (fun _ => nt3)
theorem SQ_txG (hR : RTp s) : SQ (si s 6 (nI 0)) (si (N_txt s) 3 (nI (vI s 3 + 1))) := SQ_tx hR (fun _ hj => (si_n hj).trans nt0) nt1 nt2 (fun _ => nt3)
theorem cod_l {f : Nat → Int32} {L : Nat} {a b : List Cd} (h : cod f L (a ++ b)) : cod f L a := fun i c hi => h i c (by
  have hl : i < a.length := (List.getElem?_eq_some_iff.mp hi).1
  rw [List.getElem?_append_left hl]; exact hi)
theorem cod_r {f : Nat → Int32} {L : Nat} {a b : List Cd} (h : cod f L (a ++ b)) : cod f (L + a.length) b := fun i c hi => by
  have z := h (a.length + i) c (by rw [List.getElem?_append_right (Nat.le_add_right _ _), Nat.add_sub_cancel_left]; exact hi)
  rw [← Nat.add_assoc] at z
  exact z
theorem cod_f {f f' : Nat → Int32} {a : List Cd} (h : cod f 0 a) (he : ∀ i, i < a.length → f' i = f i) : cod f' 0 a := fun i c hi => by
  have hl : i < a.length := (List.getElem?_eq_some_iff.mp hi).1
  have z := h i c hi
  rw [Nat.zero_add] at z ⊢
  rw [he i hl]
  exact z
theorem app_text {e2 cap2 x c e q L : Nat} {fc fe : Nat → Int32} {F2 : Nat → Option Nat} {md2 : Int32} (hI : CI X σ (si s 6 (nI 0)) h) (hR : RTp s) (hx : h x = none) (hc : h c = none) (ncx : c ≠ x) (he' : h e = none) (nex : e ≠ x) (nec : e ≠ c) (hq : h q = none) (nqx : q ≠ x) (nqc : q ≠ c) (nqe : q ≠ e) (hL : L ≤ 160) (hcod : cod fc 0 ((tapeE s).1.1.1 ++ (tapeE s).2.1.1.1 ++ (tapeE s).2.2.1.1)) (hLl : L = ((tapeE s).1.1.1 ++ (tapeE s).2.1.1.1 ++ (tapeE s).2.2.1.1).length) (hf0 : fe 0 = nI (tapeE s).1.1.1.length) (hf1 : fe 1 = nI ((tapeE s).1.1.1 ++ (tapeE s).2.1.1.1).length) (hf2 : fe 2 = nI ((tapeE s).1.1.1 ++ (tapeE s).2.1.1.1 ++ (tapeE s).2.2.1.1).length) (he : (0 < lsz (si s 6 (nI 0)) 4 ∧ e2 = σ 30 4) ∨ (kput (kput (kput (kput h c (kI L (if L = 160 then fc else va_cpy fc (fun _ => 0) 0 0 (min 160 L)))) e (kI 3 fe)) q (kI L (fun _ => 0))) x (kO 9 [.ref c, .ref e, .ref q])) e2 = none) (hc2 : cap2 = 10 ∨ cap2 = 15 ∨ cap2 = 22) (hn2 : lsz (si s 6 (nI 0)) 4 + 1 ≤ cap2) (hF1 : ∀ i, i < lsz (si s 6 (nI 0)) 4 → F2 i = some (σ (lek 4) i)) (hF2 : F2 (lsz (si s 6 (nI 0)) 4) = some x) : CE X σ (si s 6 (nI 0)) h ((si (N_txt s) 3 (nI (vI s 3 + 1)))) (kput (kput (kput (kput (kput (kput h c (kI L (if L = 160 then fc else va_cpy fc (fun _ => 0) 0 0 (min 160 L)))) e (kI 3 fe)) q (kI L (fun _ => 0))) x (kO 9 [.ref c, .ref e, .ref q])) e2 (kQ 2 cap2 F2)) (σ 1 4) (kO 13 [.int md2, .ref e2, .int (nI (lsz (si s 6 (nI 0)) 4 + 1))])) := by
  have hR3 := hR.2.2.2.2.2
  have e3 : vI (si (N_txt s) 3 (nI (vI s 3 + 1))) 3 = vI s 3 + 1 := by
    show ((si (N_txt s) 3 (nI (vI s 3 + 1))).1 3).toNatClampNeg = _
    rw [si_e, nI_clamp (by omega)]
  have hkp : ∀ y, h y ≠ none → (kput (kput (kput (kput h c (kI L (if L = 160 then fc else va_cpy fc (fun _ => 0) 0 0 (min 160 L)))) e (kI 3 fe)) q (kI L (fun _ => 0))) x (kO 9 [.ref c, .ref e, .ref q])) y = h y := fun y hy => (kput_ne (fun z => hy (by rw [z]; exact hx))).trans ((kput_ne (fun z => hy (by rw [z]; exact hq))).trans ((kput_ne (fun z => hy (by rw [z]; exact he'))).trans (kput_ne (fun z => hy (by rw [z]; exact hc)))))
  have hte : txE (si (N_txt s) 3 (nI (vI s 3 + 1))) (vI s 3) = tapeE s := tx_new hR nt1 nt2
  have t1 : tx1 (si (N_txt s) 3 (nI (vI s 3 + 1))) (vI s 3) = (tapeE s).1.1.1.length := by unfold tx1; rw [hte]
  have t2 : tx2 (si (N_txt s) 3 (nI (vI s 3 + 1))) (vI s 3) = ((tapeE s).1.1.1 ++ (tapeE s).2.1.1.1).length := by unfold tx2; rw [t1, hte, List.length_append]
  have t3 : tx3 (si (N_txt s) 3 (nI (vI s 3 + 1))) (vI s 3) = L := by unfold tx3; rw [t2, hte, hLl]; simp only [List.length_append]
  have hCF : ∀ i, i < L → (if L = 160 then fc else va_cpy fc (fun _ => 0) 0 0 (min 160 L)) i = fc i := fun i hi => by
    by_cases z : L = 160
    · rw [if_pos z]
    · rw [if_neg z]
      refine (if_pos (by omega)).trans ?_
      rw [show 0 + (i - 0) = i by omega]
  have hcod2 : cod (if L = 160 then fc else va_cpy fc (fun _ => 0) 0 0 (min 160 L)) 0 ((tapeE s).1.1.1 ++ (tapeE s).2.1.1.1 ++ (tapeE s).2.2.1.1) := cod_f hcod (fun i hi => hCF i (by rw [hLl]; exact hi))
  refine CI.app (A := fun k => if k = 27 then c else if k = 28 then e else if k = 29 then q else x) hI hR.2.2.2.2.1 (CI.ext hI hkp) hkp (SQ_txG hR) (by decide) (show lsz (si (N_txt s) 3 (nI (vI s 3 + 1))) 4 = lsz (si s 6 (nI 0)) 4 + 1 from e3) (fun i hi h5 => ?_) (fun k hk => ?_) (fun k k' hk hk' hz => ?_) he hc2 hn2 hF1 hF2
  · rcases (by omega : i = 0 ∨ i = 1 ∨ i = 2 ∨ i = 3) with rfl | rfl | rfl | rfl
    · exact congrArg Int32.toNatClampNeg (si_n (s := N_txt s) (by decide))
    · exact congrArg Int32.toNatClampNeg (si_n (s := N_txt s) (by decide))
    · exact congrArg Int32.toNatClampNeg (si_n (s := N_txt s) (by decide))
    · exact congrArg Int32.toNatClampNeg (si_n (s := N_txt s) (by decide))
  · rcases lof_4 hk with rfl | rfl | rfl | rfl
    · refine ⟨hx, _, kput_eq, ?_⟩
      show kO 9 [.ref c, .ref e, .ref q] = kO 9 [.ref (gro σ 4 (lsz (si s 6 (nI 0)) 4) e2 (fun k => if k = 27 then c else if k = 28 then e else if k = 29 then q else x) 27 (lsz (si s 6 (nI 0)) 4)), .ref (gro σ 4 (lsz (si s 6 (nI 0)) 4) e2 (fun k => if k = 27 then c else if k = 28 then e else if k = 29 then q else x) 28 (lsz (si s 6 (nI 0)) 4)), .ref (gro σ 4 (lsz (si s 6 (nI 0)) 4) e2 (fun k => if k = 27 then c else if k = 28 then e else if k = 29 then q else x) 29 (lsz (si s 6 (nI 0)) 4))]
      rw [gro_n (show lof 27 = 4 from rfl) (by decide), gro_n (show lof 28 = 4 from rfl) (by decide), gro_n (show lof 29 = 4 from rfl) (by decide)]
      rfl
    · refine ⟨hc, _, (kput_ne ncx).trans ((kput_ne nqc.symm).trans ((kput_ne nec.symm).trans kput_eq)), ?_⟩
      show ∃ f : Nat → Int32, kI L (if L = 160 then fc else va_cpy fc (fun _ => 0) 0 0 (min 160 L)) = kI (tx3 (si (N_txt s) 3 (nI (vI s 3 + 1))) (vI s 3)) f ∧ tx3 (si (N_txt s) 3 (nI (vI s 3 + 1))) (vI s 3) ≤ 160 ∧ cod f 0 (txE (si (N_txt s) 3 (nI (vI s 3 + 1))) (vI s 3)).1.1.1 ∧ cod f (tx1 (si (N_txt s) 3 (nI (vI s 3 + 1))) (vI s 3)) (txE (si (N_txt s) 3 (nI (vI s 3 + 1))) (vI s 3)).2.1.1.1 ∧ cod f (tx2 (si (N_txt s) 3 (nI (vI s 3 + 1))) (vI s 3)) (txE (si (N_txt s) 3 (nI (vI s 3 + 1))) (vI s 3)).2.2.1.1
      rw [t3, t2, t1, hte]
      refine ⟨(if L = 160 then fc else va_cpy fc (fun _ => 0) 0 0 (min 160 L)), rfl, hL, cod_l (cod_l hcod2), ?_, ?_⟩
      · have z := cod_r (cod_l hcod2)
        rw [Nat.zero_add] at z
        exact z
      · have z := cod_r hcod2
        rw [Nat.zero_add] at z
        exact z
    · refine ⟨he', _, (kput_ne nex).trans ((kput_ne nqe.symm).trans kput_eq), ?_⟩
      show ∃ g : Nat → Int32, kI 3 fe = kI 3 g ∧ g 0 = nI (tx1 (si (N_txt s) 3 (nI (vI s 3 + 1))) (vI s 3)) ∧ g 1 = nI (tx2 (si (N_txt s) 3 (nI (vI s 3 + 1))) (vI s 3)) ∧ g 2 = nI (tx3 (si (N_txt s) 3 (nI (vI s 3 + 1))) (vI s 3))
      rw [t3, t2, t1]
      exact ⟨fe, rfl, hf0, hf1, hf2.trans (by rw [hLl])⟩
    · refine ⟨hq, _, (kput_ne nqx).trans kput_eq, ?_⟩
      show ∃ f : Nat → Int32, kI L (fun _ => 0) = kI (tx3 (si (N_txt s) 3 (nI (vI s 3 + 1))) (vI s 3)) f
      rw [t3]
      exact ⟨_, rfl⟩
  · rcases lof_4 hk with rfl | rfl | rfl | rfl <;> rcases lof_4 hk' with rfl | rfl | rfl | rfl
    · rfl
    · exact absurd hz ncx.symm
    · exact absurd hz nex.symm
    · exact absurd hz nqx.symm
    · exact absurd hz ncx
    · rfl
    · exact absurd hz nec.symm
    · exact absurd hz nqc.symm
    · exact absurd hz nex
    · exact absurd hz nec
    · rfl
    · exact absurd hz nqe.symm
    · exact absurd hz nqx
    · exact absurd hz nqc
    · exact absurd hz nqe
    · rfl
theorem CE.tr2 {s1 s2 : MST} {h1 h2 : AH} {σ1 : Nat → Nat → Nat} (a : CFr σ s h σ1 s1 h1 ∧ ∀ k i, k ≤ 14 → σ1 k i = σ k i) (b : CE X σ1 s1 h1 s2 h2) : CE X σ s h s2 h2 := by
  obtain ⟨σ2, z2, i2, f2⟩ := b
  exact ⟨σ2, fun k i hk => (z2 k i hk).trans (a.2 k i hk), i2, a.1.tr f2⟩
theorem text_keep {x c e q L : Nat} {fc fe : Nat → Int32} (hx : h x = none) (hc : h c = none) (he' : h e = none) (hq : h q = none) : ∀ y, h y ≠ none → (kput (kput (kput (kput h c (kI L (if L = 160 then fc else va_cpy fc (fun _ => 0) 0 0 (min 160 L)))) e (kI 3 fe)) q (kI L (fun _ => 0))) x (kO 9 [.ref c, .ref e, .ref q])) y = h y := fun y hy => (kput_ne (fun z => hy (by rw [z]; exact hx))).trans ((kput_ne (fun z => hy (by rw [z]; exact hq))).trans ((kput_ne (fun z => hy (by rw [z]; exact he'))).trans (kput_ne (fun z => hy (by rw [z]; exact hc)))))
set_option maxRecDepth 4000 in
theorem f_creadTape (hI : CI X σ s h) (hR : RTp s) : Fn X 69 5 400 yX11_readTape cX11_readTape 2 (some .int) [.ref (σ 0 0)] h (fun rv hv => rv = some (.int (if pBad (tapeP s) = true then nI (pFt (tapeP s)) else -1)) ∧ (pBad (tapeP s) = true → pFt (tapeP s) ≤ 160) ∧ CE X σ s h (if pBad (tapeP s) = true then N_txt s else si (N_txt s) 3 (nI (vI s 3 + 1))) hv) := by
  obtain ⟨hn6, hb6, h5, ht2, hpk, h36⟩ := id hR
  obtain ⟨f, hT, hf⟩ := c_tp hI rfl hn6 hb6
  obtain ⟨er, hr, L0, k0, tk0, ft0, rfl⟩ := hI.2 7 0 Nat.zero_lt_one
  obtain ⟨et, ht, cc0, rfl⟩ := hI.2 8 0 Nat.zero_lt_one
  obtain ⟨ek, hkk, fk0, rfl⟩ := hI.2 9 0 (show 0 < 3 by decide)
  obtain ⟨ep, hpp, fp0, rfl⟩ := hI.2 9 1 (show 1 < 3 by decide)
  obtain ⟨en, hnn, fn0, rfl⟩ := hI.2 9 2 (show 2 < 3 by decide)
  obtain ⟨ec, hcd, fc0, rfl⟩ := hI.2 10 0 Nat.zero_lt_one
  obtain ⟨ee, hen, fe0, rfl⟩ := hI.2 11 0 Nat.zero_lt_one
  have q5 : clv s 5 0 := Nat.zero_lt_one
  have q6 : clv s 6 0 := Nat.zero_lt_one
  have q7 : clv s 7 0 := Nat.zero_lt_one
  have q8 : clv s 8 0 := Nat.zero_lt_one
  have q90 : clv s 9 0 := (show 0 < 3 by decide)
  have q91 : clv s 9 1 := (show 1 < 3 by decide)
  have q92 : clv s 9 2 := (show 2 < 3 by decide)
  have q10 : clv s 10 0 := Nat.zero_lt_one
  have q11 : clv s 11 0 := Nat.zero_lt_one
  have hTD : TD (σ 8 0) (σ 9 0) (σ 9 1) (σ 9 2) := ⟨hI.ne q90 q91 (by decide), hI.ne q90 q92 (by decide), hI.ne q91 q92 (by decide), hI.ne q8 q90 (by decide), hI.ne q8 q91 (by decide), hI.ne q8 q92 (by decide)⟩
  have hB : tB f (vI s 6) = byP (N_txt s) (160 * vI s 3) (vI s 6) := by
    rw [byP_tape]
    funext i
    unfold tB tapeB
    by_cases q : i < vI s 6
    · rw [if_pos q, if_pos q]; exact hf i q
    · rw [if_neg q, if_neg q]
  have hok : ∀ i, i < vI s 6 → okV (f i) 256 := fun i hi => by rw [hf i hi]; exact h5 i hi
  refine fn_of (by decide) (Nat.le_of_ble_eq_true rfl) (fun M hM => ?_)
  refine a_aload_n (pc := 0) dX11_readTape_0 rfl rfl ?_
  refine a_getfield (pc := 1) kg_X11_44 dX11_readTape_1 (c_fc hI) rfl ?_
  refine a_aload_n (pc := 4) dX11_readTape_4 rfl rfl ?_
  refine a_getfield (pc := 5) kg_X11_37 dX11_readTape_5 (c_fc hI) rfl ?_
  refine a_callV (pc := 8) km_X11_311 dX11_readTape_8 (f_read4 (s := N_txt s) (F := 160 * vI s 3) hT hok hTD ht hkk hpp hnn (hI.ne q6 q90 (by decide)) (hI.ne q6 q91 (by decide)) (hI.ne q6 q92 (by decide)) hr hcd hen hB hb6) rfl rfl (krecv_of (ci := 4) rfl hr) (rok_of hM (by decide) (by decide) (by omega) (by omega)) (Nat.le_of_ble_eq_true rfl) (fun r8 h8 hp8 => ?_)
  rw [byP_tape] at hp8
  obtain ⟨rfl, hft, c, fk, fp, fn, fe, L, k, tk, ft, fc, hhv, hG⟩ := hp8
  have j1 : CS X σ s h s h8 := by rw [hhv]; exact read_ci hI
  obtain ⟨f8, hT8, -⟩ := c_tp j1.2.1 rfl hn6 hb6
  have hr8 : h8 (σ 7 0) = some (kO 4 [.ref (σ 8 0), .ref (σ 10 0), .ref (σ 11 0), .int (nI L), .int (nI k), .int tk, .int ft]) := by rw [hhv]; exact kput_eq
  have hcd8 : h8 (σ 10 0) = some (kI 160 fc) := by rw [hhv]; exact (kput_ne (hI.ne q10 q7 (by decide))).trans kput_eq
  have hen8 : h8 (σ 11 0) = some (kI 3 fe) := by rw [hhv]; exact (kput_ne (hI.ne q11 q7 (by decide))).trans ((kput_ne (hI.ne q11 q10 (by decide))).trans kput_eq)
  clear hhv
  refine a_istore_n (pc := 11) dX11_readTape_11 rfl (by decide) rfl ?_
  refine a_aload_n (pc := 12) dX11_readTape_12 rfl rfl ?_
  refine a_getfield (pc := 13) kg_X11_37 dX11_readTape_13 (c_fc j1.2.1) rfl ?_
  refine a_iconst (pc := 16) dX11_readTape_16 ic_0 ?_
  refine a_putfield (pc := 17) kf_X11_230 dX11_readTape_17 (hT8.1) (rfl) (by rfl) (Nat.le_of_ble_eq_true rfl) ?_
  refine a_hp (show _ = kput h8 (σ 5 0) (kO 8 [.ref (σ 6 0), .int (nI 0)]) from rfl) ?_
  have j2 := j1.tr (tape0 j1.2.1)
  have hr9 := (kput_ne (e := kO 8 [.ref (σ 6 0), .int (nI 0)]) (hI.ne q7 q5 (by decide))).trans hr8
  have hcd9 := (kput_ne (e := kO 8 [.ref (σ 6 0), .int (nI 0)]) (hI.ne q10 q5 (by decide))).trans hcd8
  have hen9 := (kput_ne (e := kO 8 [.ref (σ 6 0), .int (nI 0)]) (hI.ne q11 q5 (by decide))).trans hen8
  revert j2 hr9 hcd9 hen9
  generalize kput h8 (σ 5 0) (kO 8 [.ref (σ 6 0), .int (nI 0)]) = h9
  intro j2 hr9 hcd9 hen9
  refine a_iload_n (pc := 20) dX11_readTape_20 rfl rfl ?_
  refine a_iconst (pc := 21) dX11_readTape_21 ic_m1 ?_
  refine a_icmp_ne (pc := 22) (tgt := 40) dX11_readTape_22 (by decide) (fun c22 => ?_) (fun c22 => ?_)
  · have hbd : pBad (tapeP s) = true := by
      cases q : pBad (tapeP s) with
      | true => rfl
      | false =>
        have q2 : pBad (readP (tapeB s) (vI s 6) c0) = false := q
        rw [q2] at c22
        exact absurd rfl c22
    refine a_iload_n (pc := 40) dX11_readTape_40 rfl rfl ?_
    refine a_ret_i (pc := 41) hM rfl (rfl) dX11_readTape_41 (by omega) (by omega) ?_
    first
      | exact ⟨rfl, hft, by rw [if_pos hbd]; exact (j2.tr (CI_sq j2.2.1 (SQ_txB hR) (fun i hi => by rcases (by omega : i = 0 ∨ i = 1 ∨ i = 2 ∨ i = 3 ∨ i = 4) with rfl | rfl | rfl | rfl | rfl <;> rfl))).ce⟩
      | exact ⟨rfl, hft, by rw [if_neg (by rw [hbd]; decide)]; exact CE.tr2 ⟨j2.2.2, fun _ _ _ => rfl⟩ hE⟩
  · have hbd : pBad (tapeP s) = false := by
      cases q : pBad (tapeP s) with
      | false => rfl
      | true =>
        have q2 : pBad (readP (tapeB s) (vI s 6) c0) = true := q
        rw [if_pos q2] at c22
        exact absurd c22 (nI_nm (by have := hft q2; omega) (by decide))
    obtain ⟨hL, hcod, hLl, hf0, hf1, hf2⟩ := hG hbd
    refine a_aload_n (pc := 25) dX11_readTape_25 rfl rfl ?_
    refine a_getfield (pc := 26) kg_X11_25 dX11_readTape_26 (c_fc j2.2.1) rfl ?_
    refine a_aload_n (pc := 29) dX11_readTape_29 rfl rfl ?_
    refine a_getfield (pc := 30) kg_X11_44 dX11_readTape_30 (c_fc j2.2.1) rfl ?_
    refine a_callV (pc := 33) km_X11_315 dX11_readTape_33 (f_textRead hr9 hcd9 hen9 hL) rfl rfl (krecv_of (ci := 4) rfl hr9) (rok_of hM (by decide) (by decide) (by omega) (by omega)) (Nat.le_of_ble_eq_true rfl) (fun r33 h33 hp33 => ?_)
    obtain ⟨x, c1, e1, q1, hx, hc, ncx, he', nex, nec, hq, nqx, nqc, nqe, rfl, rfl⟩ := hp33
    have hkp := text_keep (fc := fc) (fe := fe) (L := L) hx hc he' hq
    have hI9 := CI.ext j2.2.1 hkp
    refine a_callV (pc := 36) km_X11_100 dX11_readTape_36 (f_app hI9 (i0 := 4) (by decide) ⟨9, _, _, rfl, kput_eq⟩ (show vI s 3 ≤ 15 by omega)) rfl rfl (kr_l hI9 (i := 4) (by decide)) (rok_of hM (by decide) (by decide) (by omega) (by omega)) (Nat.le_of_ble_eq_true rfl) (fun r36 h36 hp36 => ?_)
    obtain ⟨rfl, md2, e2, cap2, F2, hee, rfl, hc2, hn2, hF1, hF2⟩ := hp36
    have hE := app_text (md2 := md2) j2.2.1 hR hx hc ncx he' nex nec hq nqx nqc nqe hL hcod hLl hf0 hf1 hf2 hee hc2 hn2 hF1 hF2
    refine a_pop (pc := 39) dX11_readTape_39 rfl ?_
    refine a_iload_n (pc := 40) dX11_readTape_40 rfl rfl ?_
    refine a_ret_i (pc := 41) hM rfl (rfl) dX11_readTape_41 (by omega) (by omega) ?_
    first
      | exact ⟨rfl, hft, by rw [if_pos hbd]; exact (j2.tr (CI_sq j2.2.1 (SQ_txB hR) (fun i hi => by rcases (by omega : i = 0 ∨ i = 1 ∨ i = 2 ∨ i = 3 ∨ i = 4) with rfl | rfl | rfl | rfl | rfl <;> rfl))).ce⟩
      | exact ⟨rfl, hft, by rw [if_neg (by rw [hbd]; decide)]; exact CE.tr2 ⟨j2.2.2, fun _ _ _ => rfl⟩ hE⟩

end CPN

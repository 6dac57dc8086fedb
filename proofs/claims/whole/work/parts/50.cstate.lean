/-! THE CLASS: ITS STATE -/
section CST
variable {X : KX} {h : AH} {s : MST}
theorem Fn.imp {d kc ks : Nat} {y : MethodName} {cc : ByteArray} {nL : Nat} {rt : Option FieldType} {args : List Value} {P Q : Option Value → AH → Prop} (hf : Fn X d kc ks y cc nL rt args h P) (hi : ∀ r hv, P r hv → Q r hv) : Fn X d kc ks y cc nL rt args h Q := fun dom sz hd =>
  Free.MetFree.mono (hf dom sz hd) (fun _ _ h => h) (fun _ _ _ _ _ h => h) (fun a s o t _ hq => ⟨⟨by
    obtain ⟨r, h', e1, e2, e3⟩ := hq.1.1
    exact ⟨r, h', e1, hi r h' e2, e3⟩, hq.1.2⟩, hq.2⟩)
def lsz (s : MST) (i : Nat) : Nat := match i with
  | 0 => vI s 10
  | 1 => vI s 18
  | 2 => vI s 28
  | 3 => vI s 31
  | _ => vI s 3
def lek (i : Nat) : Nat := match i with
  | 0 => 15
  | 1 => 17
  | 2 => 24
  | 3 => 25
  | _ => 26
/-- which cells there are: by kind and number -/
def clv (s : MST) (k i : Nat) : Prop := match k with
  | 0 => i < 1
  | 1 => i < 5
  | 2 => i < 1
  | 3 => i < 4
  | 4 => i < 4
  | 5 => i < 1
  | 6 => i < 1
  | 7 => i < 1
  | 8 => i < 1
  | 9 => i < 3
  | 10 => i < 1
  | 11 => i < 1
  | 12 => i < 1
  | 13 => i < 1
  | 14 => i < 1
  | 15 => i < vI s 10
  | 16 => i < vI s 10
  | 17 => i < vI s 18
  | 18 => i < vI s 18
  | 19 => i < vI s 18
  | 20 => i < vI s 18
  | 21 => i < vI s 18
  | 22 => i < vI s 18
  | 23 => i < vI s 18
  | 24 => i < vI s 28
  | 25 => i < vI s 31
  | 26 => i < vI s 3
  | 27 => i < vI s 3
  | 28 => i < vI s 3
  | 29 => i < vI s 3
  | 30 => i < 5 ∧ 0 < lsz s i
  | _ => False
def cfl (σ : Nat → Nat → Nat) (s : MST) : List Value := [.ref (σ 1 0), .ref (σ 1 1), .ref (σ 1 2), .ref (σ 1 3), .ref (σ 1 4), .ref (σ 2 0), .ref (σ 5 0), .ref (σ 7 0), .ref (σ 12 0), .ref (σ 14 0), .int (s.1 4), .int (if s.1 57 = 0 then -1 else s.1 58), .int (s.1 59), .int (s.1 60)]
def txE (s : MST) (t : Nat) : Rs × Rs × Rs := readE (byP s (160 * t) (vA s 2 t)) (vA s 2 t) c0
def tx1 (s : MST) (t : Nat) : Nat := (txE s t).1.1.1.length
def tx2 (s : MST) (t : Nat) : Nat := tx1 s t + (txE s t).2.1.1.1.length
def tx3 (s : MST) (t : Nat) : Nat := tx2 s t + (txE s t).2.2.1.1.length
/-- what a cell holds -/
def CP (X : KX) (σ : Nat → Nat → Nat) (s : MST) (k i : Nat) (e : kE) : Prop := match k with
  | 0 => e = kO 11 (cfl σ s)
  | 1 => ∃ md : Int32, e = kO 13 [.int md, .ref (if lsz s i = 0 then X.2.2.2.1 2 else σ 30 i), .int (nI (lsz s i))]
  | 2 => ∃ F : Nat → Option Nat, e = kQ 3 4 F ∧ ∀ j, j < 4 → F j = some (σ 3 j)
  | 3 => ∃ so sz : Int32, e = kO 7 [.ref (σ 4 i), .int so, .int sz] ∧ (s.2.1 61 i = 0 → so = -1) ∧ (s.2.1 61 i = nI 1 → so = s.2.1 62 i ∧ sz = s.2.1 63 i)
  | 4 => ∃ f : Nat → Int32, e = kI 40 f ∧ (s.2.1 61 i = nI 1 → ∀ j, j < vA s 63 i → f j = s.2.1 64 (40 * i + j))
  | 5 => e = kO 8 [.ref (σ 6 0), .int (s.1 6)]
  | 6 => ∃ f : Nat → Int32, e = kI 160 f ∧ ∀ j, j < vI s 6 → f j = s.2.1 5 j
  | 7 => ∃ (L k : Nat) (tk ft : Int32), e = kO 4 [.ref (σ 8 0), .ref (σ 10 0), .ref (σ 11 0), .int (nI L), .int (nI k), .int tk, .int ft]
  | 8 => ∃ c0 : Nat, e = kO 10 [.ref (σ 9 0), .ref (σ 9 1), .ref (σ 9 2), .int (nI c0)]
  | 9 => ∃ f : Nat → Int32, e = kI 161 f
  | 10 => ∃ f : Nat → Int32, e = kI 160 f
  | 11 => ∃ f : Nat → Int32, e = kI 3 f
  | 12 => e = kO 2 [.ref (σ 13 0)]
  | 13 => ∃ f : Nat → Int64, e = kL 26 f
  | 14 => ∃ f : Nat → Int32, e = kI 6 f
  | 15 => e = kO 3 [.ref (σ 16 i), .int (s.2.1 9 i)]
  | 16 => ∃ f : Nat → Int32, e = kI 5 f ∧ ∀ j, j < 5 → f j = s.2.1 8 (5 * i + j)
  | 17 => ∃ ks kp : Int32, e = rO (s.2.1 11 i) (s.2.1 12 i) (s.2.1 13 i) (s.2.1 16 i) (s.2.1 17 i) ks kp (σ 15 (vA s 11 i)) (σ 18 i) (σ 19 i) (σ 20 i) (σ 21 i) (σ 22 i) (σ 23 i) ∧ (s.1 57 = nI 1 → i < vI s 58 → ks = s.2.1 54 i ∧ kp = s.2.1 55 i)
  | 18 => ∃ f : Nat → Int32, e = kI (rsz s i) f ∧ ∀ j, j < rsz s i → f j = s.2.1 14 (25 * i + j)
  | 19 => ∃ f : Nat → Int32, e = kI (rsz s i) f ∧ ∀ j, j < rsz s i → f j = s.2.1 15 (25 * i + j)
  | 20 => ∃ f : Nat → Int32, e = kI (rsz s i) f
  | 21 => ∃ f : Nat → Int32, e = kI 5 f
  | 22 => ∃ f : Nat → Int32, e = kI (rsz s i) f ∧ (s.1 57 = nI 1 → i < vI s 58 → ∀ j, j < rsz s i → f j = s.2.1 52 (25 * i + j))
  | 23 => ∃ f : Nat → Int32, e = kI (rsz s i) f ∧ (s.1 57 = nI 1 → i < vI s 58 → ∀ j, j < rsz s i → f j = s.2.1 53 (25 * i + j))
  | 24 => ∃ w : Bool, e = kO 1 [.int (s.2.1 24 i), .int (s.2.1 25 i), .int (s.2.1 26 i), .int (s.2.1 27 i), .int (bI w)] ∧ (s.1 57 = nI 1 → i < vI s 59 → bI w = s.2.1 56 i)
  | 25 => e = kO 6 [.int (s.2.1 29 i), .int (s.2.1 30 i)]
  | 26 => e = kO 9 [.ref (σ 27 i), .ref (σ 28 i), .ref (σ 29 i)]
  | 27 => ∃ f : Nat → Int32, e = kI (tx3 s i) f ∧ tx3 s i ≤ 160 ∧ cod f 0 (txE s i).1.1.1 ∧ cod f (tx1 s i) (txE s i).2.1.1.1 ∧ cod f (tx2 s i) (txE s i).2.2.1.1
  | 28 => ∃ g : Nat → Int32, e = kI 3 g ∧ g 0 = nI (tx1 s i) ∧ g 1 = nI (tx2 s i) ∧ g 2 = nI (tx3 s i)
  | 29 => ∃ f : Nat → Int32, e = kI (tx3 s i) f
  | 30 => ∃ (cap : Nat) (F : Nat → Option Nat), e = kQ 2 cap F ∧ lsz s i ≤ cap ∧ (cap = 10 ∨ cap = 15 ∨ cap = 22) ∧ ∀ j, j < lsz s i → F j = some (σ (lek i) j)
  | _ => True
def CInj (s : MST) (σ : Nat → Nat → Nat) : Prop := ∀ k i k' i', clv s k i → clv s k' i' → σ k i = σ k' i' → k = k' ∧ i = i'
def CI (X : KX) (σ : Nat → Nat → Nat) (s : MST) (h : AH) : Prop := CInj s σ ∧ ∀ k i, clv s k i → ∃ e, h (σ k i) = some e ∧ CP X σ s k i e
/-- what isn't the class's stays, and is none of it -/
def CFr (σ : Nat → Nat → Nat) (s : MST) (h : AH) (σ' : Nat → Nat → Nat) (s' : MST) (h' : AH) : Prop := ∀ a, h a ≠ none → (∀ k i, clv s k i → a ≠ σ k i) → h' a = h a ∧ ∀ k i, clv s' k i → a ≠ σ' k i
/-- one step of the class: its places stay -/
def CS (X : KX) (σ : Nat → Nat → Nat) (s : MST) (h : AH) (s' : MST) (h' : AH) : Prop := (∀ k i, clv s' k i ↔ clv s k i) ∧ CI X σ s' h' ∧ CFr σ s h σ s' h'
def CE (X : KX) (σ : Nat → Nat → Nat) (s : MST) (h : AH) (s' : MST) (h' : AH) : Prop := ∃ σ' : Nat → Nat → Nat, (∀ k i, k ≤ 14 → σ' k i = σ k i) ∧ CI X σ' s' h' ∧ CFr σ s h σ' s' h'
theorem CS.ce {σ : Nat → Nat → Nat} {s' : MST} {h' : AH} (hc : CS X σ s h s' h') : CE X σ s h s' h' := ⟨σ, fun _ _ _ => rfl, hc.2.1, hc.2.2⟩
theorem CFr.rf {σ : Nat → Nat → Nat} : CFr σ s h σ s h := fun a _ ha => ⟨rfl, ha⟩
theorem CS.rf {σ : Nat → Nat → Nat} (hI : CI X σ s h) : CS X σ s h s h := ⟨fun _ _ => Iff.rfl, hI, CFr.rf⟩
theorem CFr.tr {σ σ1 σ2 : Nat → Nat → Nat} {s1 s2 : MST} {h1 h2 : AH} (a : CFr σ s h σ1 s1 h1) (b : CFr σ1 s1 h1 σ2 s2 h2) : CFr σ s h σ2 s2 h2 := fun x hx hn => by
  obtain ⟨e1, n1⟩ := a x hx hn
  obtain ⟨e2, n2⟩ := b x (by rw [e1]; exact hx) n1
  exact ⟨e2.trans e1, n2⟩
theorem CS.tr {σ : Nat → Nat → Nat} {s1 s2 : MST} {h1 h2 : AH} (a : CS X σ s h s1 h1) (b : CS X σ s1 h1 s2 h2) : CS X σ s h s2 h2 := ⟨fun k i => (b.1 k i).trans (a.1 k i), b.2.1, a.2.2.tr b.2.2⟩
theorem CE.tr {σ : Nat → Nat → Nat} {s1 s2 : MST} {h1 h2 : AH} (a : CE X σ s h s1 h1) (b : ∀ σ1, (∀ k i, k ≤ 14 → σ1 k i = σ k i) → CI X σ1 s1 h1 → CE X σ1 s1 h1 s2 h2) : CE X σ s h s2 h2 := by
  obtain ⟨σ1, z1, i1, f1⟩ := a
  obtain ⟨σ2, z2, i2, f2⟩ := b σ1 z1 i1
  exact ⟨σ2, fun k i hk => (z2 k i hk).trans (z1 k i hk), i2, f1.tr f2⟩
theorem CI.ne {σ : Nat → Nat → Nat} (hI : CI X σ s h) {k i k' i' : Nat} (h1 : clv s k i) (h2 : clv s k' i') (hn : ¬ (k = k' ∧ i = i')) : σ k i ≠ σ k' i' := fun z => hn (hI.1 k i k' i' h1 h2 z)
def kputs (σ : Nat → Nat → Nat) (h : AH) : List (Nat × Nat × kE) → AH
  | [] => h
  | p :: l => kputs σ (kput h (σ p.1 p.2.1) p.2.2) l
theorem kputs_out {σ : Nat → Nat → Nat} {a : Nat} : ∀ {l : List (Nat × Nat × kE)} {h : AH}, (∀ p, p ∈ l → σ p.1 p.2.1 ≠ a) → kputs σ h l a = h a
  | [], _, _ => rfl
  | p :: l, h, hn => (kputs_out (l := l) (fun q hq => hn q (List.mem_cons_of_mem _ hq))).trans (kput_ne (Ne.symm (hn p (List.mem_cons_self ..))))
theorem kputs_in {σ : Nat → Nat → Nat} {a : Nat} : ∀ {l : List (Nat × Nat × kE)} {h : AH}, (kputs σ h l a = h a) ∨ ∃ p, p ∈ l ∧ σ p.1 p.2.1 = a ∧ kputs σ h l a = some p.2.2
  | [], _ => Or.inl rfl
  | p :: l, h => by
    rcases kputs_in (a := a) (l := l) (h := kput h (σ p.1 p.2.1) p.2.2) with q | ⟨r, hr, e1, e2⟩
    · by_cases z : a = σ p.1 p.2.1
      · exact Or.inr ⟨p, List.mem_cons_self .., z.symm, q.trans (by rw [z]; exact kput_eq)⟩
      · exact Or.inl (q.trans (kput_ne z))
    · exact Or.inr ⟨r, List.mem_cons_of_mem _ hr, e1, e2⟩
theorem CI.puts {σ : Nat → Nat → Nat} {s' : MST} {l : List (Nat × Nat × kE)} (hI : CI X σ s h) (hl : ∀ k i, clv s' k i ↔ clv s k i) (hp : ∀ p, p ∈ l → clv s p.1 p.2.1 ∧ CP X σ s' p.1 p.2.1 p.2.2) (ht : ∀ k i e, (∀ p, p ∈ l → ¬ (k = p.1 ∧ i = p.2.1)) → clv s k i → CP X σ s k i e → CP X σ s' k i e) : CS X σ s h s' (kputs σ h l) := by
  refine ⟨hl, ⟨fun k i k' i' h1 h2 => hI.1 k i k' i' ((hl k i).mp h1) ((hl k' i').mp h2), fun k i hk => ?_⟩, fun a ha hn => ?_⟩
  · have hk := (hl k i).mp hk
    by_cases hm : ∃ p, p ∈ l ∧ k = p.1 ∧ i = p.2.1
    · obtain ⟨p, hpl, rfl, rfl⟩ := hm
      have hl' : ∀ (l2 : List (Nat × Nat × kE)) (h2 : AH), (∀ q, q ∈ l2 → q ∈ l) → p ∈ l2 → ∃ q, q ∈ l2 ∧ σ q.1 q.2.1 = σ p.1 p.2.1 ∧ kputs σ h2 l2 (σ p.1 p.2.1) = some q.2.2 := by
        intro l2
        induction l2 with
        | nil => intro h2 _ hz; exact absurd hz (by simp)
        | cons q l2 ih =>
          intro h2 hsub hz
          rcases kputs_in (a := σ p.1 p.2.1) (l := l2) (h := kput h2 (σ q.1 q.2.1) q.2.2) with e | ⟨r, hr, e1, e2⟩
          · rcases List.mem_cons.mp hz with rfl | hz2
            · exact ⟨p, List.mem_cons_self .., rfl, e.trans kput_eq⟩
            · obtain ⟨r, hr, e1, e2⟩ := ih (kput h2 (σ q.1 q.2.1) q.2.2) (fun x hx => hsub x (List.mem_cons_of_mem _ hx)) hz2
              exact ⟨r, List.mem_cons_of_mem _ hr, e1, e2⟩
          · exact ⟨r, List.mem_cons_of_mem _ hr, e1, e2⟩
      obtain ⟨q, hq, e1, e2⟩ := hl' l h (fun _ z => z) hpl
      obtain ⟨c1, c2⟩ := hp q hq
      obtain ⟨z1, z2⟩ := hI.1 _ _ _ _ c1 hk e1
      exact ⟨q.2.2, e2, by rw [← z1, ← z2]; exact c2⟩
    · have hn : ∀ p, p ∈ l → ¬ (k = p.1 ∧ i = p.2.1) := fun p hpl z => hm ⟨p, hpl, z⟩
      obtain ⟨e, he, hc⟩ := hI.2 k i hk
      refine ⟨e, (kputs_out (fun p hpl z => ?_)).trans he, ht k i e hn hk hc⟩
      obtain ⟨z1, z2⟩ := hI.1 _ _ _ _ (hp p hpl).1 hk z
      exact hn p hpl ⟨z1.symm, z2.symm⟩
  · exact ⟨kputs_out (fun p hpl z => hn _ _ (hp p hpl).1 z.symm), fun k i hk => hn k i ((hl k i).mp hk)⟩
/-- one cell anew, the state told as before -/
theorem CI.put1 {σ : Nat → Nat → Nat} (hI : CI X σ s h) {k i : Nat} {e : kE} (hk : clv s k i) (hp : CP X σ s k i e) : CS X σ s h s (kput h (σ k i) e) :=
  CI.puts (l := [(k, i, e)]) hI (fun _ _ => Iff.rfl) (fun p hpl => by
    rcases List.mem_cons.mp hpl with rfl | z
    · exact ⟨hk, hp⟩
    · exact absurd z (by simp)) (fun _ _ _ _ _ hc => hc)
end CST

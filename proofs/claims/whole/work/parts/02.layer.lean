/-! THE LAYER: a heap of ours is a partial map from addresses to contents; AJ: from here the method comes to its end; Fn: a method's contract over such heaps -/
abbrev KX : Type := Launch × va_G × (Nat → ClassId) × (Nat → Nat) × Value
abbrev kE : Type := (Nat × vp_A) ⊕ (Nat × List Value)
abbrev AH : Type := Nat → Option kE
abbrev kI (n : Nat) (f : Nat → Int32) : kE := .inl (0, n, .inl f)
abbrev kL (n : Nat) (f : Nat → Int64) : kE := .inl (1, n, .inr (.inl f))
abbrev kQ (t n : Nat) (f : Nat → Option Nat) : kE := .inl (t, n, .inr (.inr (.inr (.inr f))))
abbrev kB (n : Nat) (f : Nat → Int32) : kE := .inl (4, n, .inl f)
abbrev kO (c : Nat) (fs : List Value) : kE := .inr (c, fs)
def ktyl : List FieldType := [.int, .long, .object "java/lang/Object", .object "FiveCards$Sheet", .boolean]
def ktys (X : KX) : List (ClassId × FieldType) := [(X.2.2.1 0, .int), (X.2.2.1 1, .long), (X.2.2.1 2, .object "java/lang/Object"), (X.2.2.1 3, .object "FiveCards$Sheet"), (X.2.2.1 4, .boolean)]
theorem ktys_at {X : KX} {t : Nat} {ty : FieldType} (h : ktyl[t]? = some ty) : (ktys X)[t]? = some (X.2.2.1 t, ty) := by
  match t, h with
  | 0, h => cases h; rfl
  | 1, h => cases h; rfl
  | 2, h => cases h; rfl
  | 3, h => cases h; rfl
  | 4, h => cases h; rfl
  | t + 5, h => simp [ktyl] at h
def cE (X : KX) : kE → va_E
  | .inl (t, a) => .inl (X.2.2.1 t, a)
  | .inr o => .inr o
def kws (X : KX) (h : AH) (dom : List Nat) : va_W := dom.map (fun a => (a, cE X ((h a).getD (.inr (0, [])))))
def Dom (h : AH) (dom : List Nat) : Prop := ∀ a, (h a).isSome = true ↔ a ∈ dom
def Rep (X : KX) (A : Nat → Prop) (h : AH) (H : Heap) : Prop := ∃ dom : List Nat, Dom h dom ∧ va_P X.2.1 kcl (kws X h dom) H ∧ va_D A (kws X h dom)
def kput (h : AH) (a : Nat) (e : kE) : AH := fun b => if b = a then some e else h b
theorem kput_eq {h : AH} {a : Nat} {e : kE} : kput h a e a = some e := if_pos rfl
theorem kput_ne {h : AH} {a b : Nat} {e : kE} (hb : b ≠ a) : kput h a e b = h b := if_neg hb
theorem kput_put {h : AH} {a : Nat} {e e' : kE} : kput (kput h a e) a e' = kput h a e' := by
  funext b
  simp only [kput]
  by_cases hb : b = a
  · rw [if_pos hb, if_pos hb]
  · rw [if_neg hb, if_neg hb, if_neg hb]
theorem kput_self {h : AH} {a : Nat} {e : kE} (ha : h a = some e) : kput h a e = h := by
  funext b
  simp only [kput]
  by_cases hb : b = a
  · rw [if_pos hb, hb, ha]
  · rw [if_neg hb]
theorem kput_comm {h : AH} {a b : Nat} {e e' : kE} (hab : a ≠ b) : kput (kput h a e) b e' = kput (kput h b e') a e := by
  funext c
  simp only [kput]
  by_cases hb : c = b
  · rw [if_pos hb, if_neg (fun q => hab (q.symm.trans hb)), if_pos hb]
  · rw [if_neg hb]
    by_cases ha : c = a
    · rw [if_pos ha, if_pos ha]
    · rw [if_neg ha, if_neg ha, if_neg hb]
theorem kput_some {h : AH} {a b : Nat} {e : kE} (hb : (h b).isSome = true) : (kput h a e b).isSome = true := by
  simp only [kput]
  by_cases q : b = a
  · rw [if_pos q]; rfl
  · rw [if_neg q]; exact hb
theorem kws_len {X : KX} {h : AH} {dom : List Nat} : (kws X h dom).length = dom.length := List.length_map _
theorem kws_at {X : KX} {h : AH} {dom : List Nat} {a : Nat} {e : kE} (hD : Dom h dom) (ha : h a = some e) : ∃ q : Nat, dom[q]? = some a ∧ (kws X h dom)[q]? = some (a, cE X e) := by
  have hm : a ∈ dom := (hD a).mp (by rw [ha]; rfl)
  obtain ⟨q, hq⟩ := List.getElem?_of_mem hm
  refine ⟨q, hq, ?_⟩
  rw [kws, List.getElem?_map, hq]
  show some (a, cE X ((h a).getD _)) = _
  rw [ha]
  rfl
theorem kws_mem {X : KX} {h : AH} {dom : List Nat} {k : Nat} {p : Nat × va_E} (hp : (kws X h dom)[k]? = some p) : dom[k]? = some p.1 := by
  rw [kws, List.getElem?_map] at hp
  cases hd : dom[k]? with
  | none => rw [hd] at hp; cases hp
  | some a => rw [hd] at hp; cases hp; rfl
theorem dom_inj {X : KX} {A : Nat → Prop} {h : AH} {dom : List Nat} (hD : va_D A (kws X h dom)) {i j a : Nat} (hi : dom[i]? = some a) (hj : dom[j]? = some a) : i = j := by
  refine hD.1 i j (a, cE X ((h a).getD (.inr (0, [])))) (a, cE X ((h a).getD (.inr (0, [])))) ?_ ?_ rfl
  · rw [kws, List.getElem?_map, hi]; rfl
  · rw [kws, List.getElem?_map, hj]; rfl
theorem kws_set {X : KX} {A : Nat → Prop} {h : AH} {dom : List Nat} {a q : Nat} {e : kE} (hD : va_D A (kws X h dom)) (hq : dom[q]? = some a) : (kws X h dom).set q (a, cE X e) = kws X (kput h a e) dom := by
  refine List.ext_getElem? fun i => ?_
  rw [List.getElem?_set]
  by_cases hi : q = i
  · subst hi
    have hl : q < (kws X h dom).length := by rw [kws_len]; exact (List.getElem?_eq_some_iff.mp hq).1
    rw [if_pos rfl, if_pos hl, kws, List.getElem?_map, hq]
    show _ = some (a, cE X ((kput h a e a).getD _))
    rw [kput_eq]
    rfl
  · rw [if_neg hi, kws, kws, List.getElem?_map, List.getElem?_map]
    cases hd : dom[i]? with
    | none => rfl
    | some b =>
      show some (b, _) = some (b, _)
      have hb : b ≠ a := fun z => hi (dom_inj hD hq (by rw [hd, z]))
      rw [kput_ne hb]
theorem Dom.put {h : AH} {dom : List Nat} {a : Nat} {e0 e : kE} (hD : Dom h dom) (ha : h a = some e0) : Dom (kput h a e) dom := by
  intro b
  by_cases hb : b = a
  · subst hb
    rw [kput_eq, ← hD b, ha]
    exact ⟨fun _ => rfl, fun _ => rfl⟩
  · rw [kput_ne hb]
    exact hD b
theorem Dom.fresh {X : KX} {A : Nat → Prop} {h : AH} {dom : List Nat} {q : Nat} {e : va_E} (hd : Dom h dom) (hD : va_D A (kws X h dom ++ [(q, e)])) : h q = none := by
  cases hq : h q with
  | none => rfl
  | some x =>
    obtain ⟨k, h1, h2⟩ := kws_at (X := X) hd hq
    have hl : k < (kws X h dom).length := (List.getElem?_eq_some_iff.mp h2).1
    have h3 : (kws X h dom ++ [(q, e)])[k]? = some (q, cE X x) := by rw [List.getElem?_append_left hl]; exact h2
    have h4 : (kws X h dom ++ [(q, e)])[(kws X h dom).length]? = some (q, e) := by rw [List.getElem?_append_right (Nat.le_refl _), Nat.sub_self]; rfl
    have := hD.1 _ _ _ _ h3 h4 rfl
    omega
theorem kws_app {X : KX} {h : AH} {dom : List Nat} {q : Nat} {e : kE} (hd : Dom h dom) (hq : h q = none) : kws X h dom ++ [(q, cE X e)] = kws X (kput h q e) (dom ++ [q]) := by
  rw [kws, kws, List.map_append]
  congr 1
  · refine List.map_congr_left fun b hb => ?_
    have hbq : b ≠ q := fun z => by
      have := (hd b).mpr hb
      rw [z, hq] at this
      cases this
    rw [kput_ne hbq]
  · show [(q, cE X e)] = [(q, cE X ((kput h q e q).getD _))]
    rw [kput_eq]
    rfl
theorem Dom.new {h : AH} {dom : List Nat} {q : Nat} {e : kE} (hd : Dom h dom) : Dom (kput h q e) (dom ++ [q]) := by
  intro b
  rw [List.mem_append, List.mem_singleton]
  by_cases hb : b = q
  · subst hb
    rw [kput_eq]
    exact ⟨fun _ => Or.inr rfl, fun _ => rfl⟩
  · rw [kput_ne hb, hd b]
    exact ⟨Or.inl, fun z => z.elim id (fun z => absurd z hb)⟩
def k_strs : List (String × Nat × String × Nat) := [("FiveCards", 66, "stop 8 < hits ; keep 4 < hits ; say hits - leaks - 5 ;", 0), ("FiveCards$Tokens", 73, "hits", 1), ("FiveCards$Tokens", 75, "run", 2), ("FiveCards$Tokens", 77, "all", 3), ("FiveCards$Tokens", 79, "leaks", 4), ("FiveCards$Tokens", 81, "day", 5), ("FiveCards$Tokens", 83, "next", 6), ("FiveCards$Tokens", 85, "stop", 7), ("FiveCards$Tokens", 87, "keep", 8), ("FiveCards$Tokens", 89, "say", 9), ("FiveCards$Tokens", 91, "or", 10), ("FiveCards$Tokens", 93, "and", 11), ("FiveCards$Tokens", 95, "not", 12)]
def k_nests : List (String × Nat × MethodName) := [("FiveCards", 36, ⟨"FiveCards$Tape", "<init>", "()V"⟩), ("FiveCards", 43, ⟨"FiveCards$Reader", "<init>", "()V"⟩), ("FiveCards$Reader", 11, ⟨"FiveCards$Tokens", "<init>", "()V"⟩), ("FiveCards", 50, ⟨"FiveCards$Odds", "<init>", "()V"⟩), ("FiveCards", 65, ⟨"FiveCards$Sheet", "<init>", "()V"⟩), ("FiveCards$Reader", 100, ⟨"FiveCards", "among", "(II)Z"⟩), ("FiveCards$Run", 77, ⟨"FiveCards", "among", "(II)Z"⟩), ("FiveCards", 237, ⟨"FiveCards$Fraction", "<init>", "()V"⟩)]
def k_len : List Nat := [54, 4, 3, 3, 5, 3, 4, 4, 4, 3, 2, 3, 3]
def k_byt : List (List Int32) := [[115, 116, 111, 112, 32, 56, 32, 60, 32, 104, 105, 116, 115, 32, 59, 32, 107, 101, 101, 112, 32, 52, 32, 60, 32, 104, 105, 116, 115, 32, 59, 32, 115, 97, 121, 32, 104, 105, 116, 115, 32, 45, 32, 108, 101, 97, 107, 115, 32, 45, 32, 53, 32, 59], [104, 105, 116, 115], [114, 117, 110], [97, 108, 108], [108, 101, 97, 107, 115], [100, 97, 121], [110, 101, 120, 116], [115, 116, 111, 112], [107, 101, 101, 112], [115, 97, 121], [111, 114], [97, 110, 100], [110, 111, 116]]
def k_under : Nat → Int32 := fun j => match j with
  | 0 => -1
  | 1 => 0
  | 2 => 0
  | 3 => 0
  | 4 => 2
  | _ => 4
def k_weights : Nat → Int32 := fun j => match j with
  | 0 => 1
  | 1 => 2
  | 2 => 1
  | 3 => 4
  | 4 => 2
  | _ => 4
/-- what the start gives of statics, texts and of words that aren't on the tables alone -/
def EFX (X : KX) (A : Nat → Prop) (U : State) : Prop :=
  va_Z RX1 "UNDER" "[I" (.ref (X.2.2.2.1 0)) A U U.heap ∧ va_T .int (X.2.2.2.1 0) 6 (fun j => .int (k_under j)) A U U.heap ∧
  va_Z RX1 "WEIGHTS" "[I" (.ref (X.2.2.2.1 1)) A U U.heap ∧ va_T .int (X.2.2.2.1 1) 6 (fun j => .int (k_weights j)) A U U.heap ∧
  va_Z RJx4a65c "DEFAULTCAPACITY_EMPTY_ELEMENTDATA" "[Ljava/lang/Object;" (.ref (X.2.2.2.1 2)) A U U.heap ∧ va_T (.object "java/lang/Object") (X.2.2.2.1 2) 0 (fun _ => .null) A U U.heap ∧
  va_Z "java/lang/String" "COMPACT_STRINGS" "Z" (.int 1) A U U.heap ∧
  va_Z "jdk/internal/util/Preconditions" "SIOOBE_FORMATTER" "Ljava/util/function/BiFunction;" X.2.2.2.2 A U U.heap ∧
  vk_S 13 k_len k_byt (fun i => X.2.2.2.1 (10 + i)) (fun i => X.2.2.2.1 (30 + i)) A U U.heap ∧
  (∀ q ∈ k_strs, vk_R q.1 q.2.1 q.2.2.1 (X.2.2.2.1 (10 + q.2.2.2)) U) ∧
  (∀ q ∈ k_nests, va_Nw (.methodLinkNest q.1 q.2.1 q.2.2 "FiveCards") U) ∧
  va_Nw (.castable "[I" "java/lang/Cloneable") U ∧ (∀ q ∈ kcl, va_Nw (.castable q.1 "java/lang/Object") U) ∧
  va_AO "FiveCards$Sheet" U ∧ va_AO "java/lang/Object" U ∧ va_Mi "[Ljava/lang/Object;" (X.2.2.2.1 3) U ∧ va_Dc U ∧ (X.2.2.2.2 = .null ∨ ∃ t : Nat, X.2.2.2.2 = .ref t)
theorem efx_move {X : KX} {A B : Nat → Prop} {u U : State} (h : EFX X A u) (hW : u.WarmedH U.vm) (hk : ∀ a : Nat, a < u.heap.size → ¬ A a → U.heap[a]? = u.heap[a]?) (hAB : ∀ q, B q → A q) : EFX X B U := by
  obtain ⟨h1, h2, h3, h4, h5, h6, h7, h8, h9, h10, h11, h12, h13, h14, h15, h16, h17, h18⟩ := h
  have hv := hW.alike
  exact ⟨((h1.kept hk).moved hv).narrow hAB, ((h2.kept hk).moved hv).narrow hAB, ((h3.kept hk).moved hv).narrow hAB, ((h4.kept hk).moved hv).narrow hAB, ((h5.kept hk).moved hv).narrow hAB, ((h6.kept hk).moved hv).narrow hAB, ((h7.kept hk).moved hv).narrow hAB, ((h8.kept hk).moved hv).narrow hAB, ((h9.kept hk).moved hv).narrow hAB,
    fun q hq => vk_R.warm hW (h10 q hq), fun q hq => va_Nw.warmM hW (h11 q hq), va_Nw.warmC hW h12, fun q hq => va_Nw.warmC hW (h13 q hq), h14.moved hv, h15.moved hv, h16.moved hv, h17.moved hv, h18⟩
abbrev MX : Type := Program × Env × Room × State × MethodId × Array Value × List Frame × Method × Code × (State → Prop) × (Nat → Prop)
abbrev mE (M : MX) : Env := M.2.1
abbrev mR (M : MX) : Room := M.2.2.1
abbrev mS (M : MX) : State := M.2.2.2.1
abbrev mI (M : MX) : MethodId := M.2.2.2.2.1
abbrev mArgs (M : MX) : Array Value := M.2.2.2.2.2.1
abbrev mBelow (M : MX) : List Frame := M.2.2.2.2.2.2.1
abbrev mMeth (M : MX) : Method := M.2.2.2.2.2.2.2.1
abbrev mC (M : MX) : Code := M.2.2.2.2.2.2.2.2.1
abbrev mQ (M : MX) : State → Prop := M.2.2.2.2.2.2.2.2.2.1
abbrev mA (M : MX) : Nat → Prop := M.2.2.2.2.2.2.2.2.2.2
abbrev WM (X : KX) (M : MX) (H : Heap) (locs : List Loc) (uc us : Nat) (g : JFrame) : Prop := W M.1 X.1 (mE M) (mR M) (mS M) (mI M) (mArgs M) (mBelow M) (mMeth M) (mC M) H locs uc us (mQ M) g
def MOk (X : KX) (M : MX) (y : MethodName) (cc : ByteArray) (nL : Nat) (rt : Option FieldType) : Prop :=
  M.1.tables.exec = Jvm.exec ∧ (mC M).code = cc ∧ (mC M).maxLocals = nL ∧ (mMeth M).sig.returnType = rt ∧ (mMeth M).locks = false ∧ (mMeth M).name = y.name ∧ (mS M).vm.findClass y.cls = some (mI M).cls ∧ (∀ w ∈ BIG, w.before (mArgs M) (mS M) = true) ∧ va_K X.2.1 kcl (ktys X) (mS M) ∧ EFX X (mA M) (mS M) ∧ (∀ q, (mS M).heap.size ≤ q → mA M q)
def AJ (X : KX) (M : MX) (y : MethodName) (cc : ByteArray) (nL : Nat) (rt : Option FieldType) (pc : Nat) (L : List (Nat × Value)) (st : List Value) (h : AH) (uc us : Nat) : Prop :=
  MOk X M y cc nL rt → ∀ (H : Heap) (locs : List Loc) (ls : Array Slot), Rep X (mA M) h H → va_S (mA M) (mS M).heap H locs → lv_has ls nL L → WM X M H locs uc us (F0 (mI M) pc ls st)
def rmd (d kc ks : Nat) : Room := { frames := d, cells := kc, slots := ks, locals := 40 * d }
def fQ (X : KX) (A : Nat → Prop) (Post : Option Value → AH → Prop) : State → Outcome → State → Prop := fun st o t => (∃ (r : Option Value) (h' : AH), o = .returned r ∧ Post r h' ∧ Rep X A h' t.heap) ∧ va_F A st t
def fB (X : KX) (h : AH) (dom : List Nat) (sz : Nat) (U : State) : Prop := U.heap.size = sz ∧ va_P X.2.1 kcl (kws X h dom) U.heap ∧ va_K X.2.1 kcl (ktys X) U ∧ va_D (fun _ => True) (kws X h dom) ∧ EFX X (va_A (kws X h dom) sz) U
def Fn (X : KX) (d kc ks : Nat) (y : MethodName) (cc : ByteArray) (nL : Nat) (rt : Option FieldType) (args : List Value) (h : AH) (Post : Option Value → AH → Prop) : Prop :=
  ∀ (dom : List Nat) (sz : Nat), Dom h dom → Met X.1 y (Cond.code y cc nL rt :: BIG) (rmd d kc ks) (va_Pc args (fB X h dom sz)) (fun _ => fQ X (va_A (kws X h dom) sz) Post) kc ks (va_A (kws X h dom) sz)
def MSp (X : KX) (M : MX) (d kc ks : Nat) (Post : Option Value → AH → Prop) : Prop := mR M = rmd d kc ks ∧ mQ M = MQ (mBelow M) (fun _ => fQ X (mA M) Post) (mArgs M) (mS M) kc ks (mA M)
theorem fn_of {X : KX} {d kc ks : Nat} {y : MethodName} {cc : ByteArray} {nL : Nat} {rt : Option FieldType} {args : List Value} {h : AH} {Post : Option Value → AH → Prop} (hy : plainName y.cls = true) (hn : (lg_sl args).length ≤ nL)
    (body : ∀ M : MX, MSp X M d kc ks Post → AJ X M y cc nL rt 0 (lv_args 0 args) [] h 0 0) : Fn X d kc ks y cc nL rt args h Post := by
  intro dom sz hd
  refine Met.ofW (cc := cc) (maxL := nL) (ret := rt) hy rfl ?_
  intro p e s m ar below meth c s₁ B hml hv
  obtain ⟨rfl, hsz, hP, hK, hD, hE⟩ := hv
  subst hsz
  have hts := atoms_spec (ws := Cond.code y cc nL rt :: BIG) B.pre
  have hb := body (p, e, rmd d kc ks, s, m, args.toArray, below, meth, c, MQ below (fun _ => fQ X (va_A (kws X h dom) s.heap.size) Post) args.toArray s kc ks (va_A (kws X h dom) s.heap.size), va_A (kws X h dom) s.heap.size) ⟨rfl, rfl⟩
    ⟨B.exec, B.bytes, hml, B.returns, B.notSynchronized, (name_of_methodNamed B.named B.method).1, findClass_of_methodNamed B.named, fun w hw => hts w (List.mem_cons_of_mem _ hw), hK, hE, fun q hq => Or.inr hq⟩
    s.heap [] _ ⟨dom, hd, hP, hD.self⟩ va_S.rf (lv_entry args hn)
  rw [lg_entry_eq]
  exact hb
section LAY
variable {X : KX} {M : MX} {y : MethodName} {cc : ByteArray} {nL : Nat} {rt : Option FieldType} {pc : Nat} {L : List (Nat × Value)} {st : List Value} {h : AH} {uc us : Nat}
theorem a_iconst {n : Int} {v : Int32} (hd : decode cc pc = .ok (.iconst n, 1)) (hv : Int32.ofInt n = v) (k : AJ X M y cc nL rt (pc + 1) L (.int v :: st) h uc us) : AJ X M y cc nL rt pc L st h uc us := fun ok H locs ls hR hS hL => lv_iconst ok.1 ok.2.1 hd hv (k ok H locs ls hR hS hL)
theorem a_bipush {n : Int} {v : Int32} (hd : decode cc pc = .ok (.bipush n, 2)) (hv : (Int8.ofInt n).toInt32 = v) (k : AJ X M y cc nL rt (pc + 2) L (.int v :: st) h uc us) : AJ X M y cc nL rt pc L st h uc us := fun ok H locs ls hR hS hL => lv_bipush ok.1 ok.2.1 hd hv (k ok H locs ls hR hS hL)
theorem a_sipush {n : Int} {v : Int32} (hd : decode cc pc = .ok (.sipush n, 3)) (hv : (Int16.ofInt n).toInt32 = v) (k : AJ X M y cc nL rt (pc + 3) L (.int v :: st) h uc us) : AJ X M y cc nL rt pc L st h uc us := fun ok H locs ls hR hS hL => lv_sipush ok.1 ok.2.1 hd hv (k ok H locs ls hR hS hL)
theorem a_lconst {n : Fin 2} {v : Int64} (hd : decode cc pc = .ok (.lconst n, 1)) (hv : Int64.ofNat (n : Nat) = v) (k : AJ X M y cc nL rt (pc + 1) L (.long v :: st) h uc us) : AJ X M y cc nL rt pc L st h uc us := fun ok H locs ls hR hS hL => lv_lconst ok.1 ok.2.1 hd hv (k ok H locs ls hR hS hL)
theorem a_null  (hd : decode cc pc = .ok (.aconst_null, 1))  (k : AJ X M y cc nL rt (pc + 1) L (.null :: st) h uc us) : AJ X M y cc nL rt pc L st h uc us := fun ok H locs ls hR hS hL => lv_null ok.1 ok.2.1 hd (k ok H locs ls hR hS hL)
theorem lk_in {L : List (Nat × Value)} {i : Nat} {v : Value} (h : L.lookup i = some v) : (i, v) ∈ L := by
  induction L with
  | nil => cases h
  | cons q l ih =>
    obtain ⟨j, w⟩ := q
    rw [List.lookup_cons] at h
    by_cases hj : i = j
    · subst hj
      simp at h
      subst h
      exact List.mem_cons_self
    · have hb : (i == j) = false := by simpa using hj
      rw [hb] at h
      exact List.mem_cons_of_mem _ (ih h)
theorem a_iload_n {i : Nat} {k0 : Fin 4} {x : Int32} (hd : decode cc pc = .ok (.iload_n k0, 1)) (hi : (k0 : Nat) = i) (hl : L.lookup i = some (.int x)) (k : AJ X M y cc nL rt (pc + 1) L (.int x :: st) h uc us) : AJ X M y cc nL rt pc L st h uc us := fun ok H locs ls hR hS hL => lv_iload_n ok.1 ok.2.1 hd hi (hL.2.2 _ (lk_in hl)) (k ok H locs ls hR hS hL)
theorem a_iload {i : Nat} {x : Int32} (hd : decode cc pc = .ok (.iload i, 2))  (hl : L.lookup i = some (.int x)) (k : AJ X M y cc nL rt (pc + 2) L (.int x :: st) h uc us) : AJ X M y cc nL rt pc L st h uc us := fun ok H locs ls hR hS hL => lv_iload ok.1 ok.2.1 hd  (hL.2.2 _ (lk_in hl)) (k ok H locs ls hR hS hL)
theorem a_lload_n {i : Nat} {k0 : Fin 4} {x : Int64} (hd : decode cc pc = .ok (.lload_n k0, 1)) (hi : (k0 : Nat) = i) (hl : L.lookup i = some (.long x)) (k : AJ X M y cc nL rt (pc + 1) L (.long x :: st) h uc us) : AJ X M y cc nL rt pc L st h uc us := fun ok H locs ls hR hS hL => lv_lload_n ok.1 ok.2.1 hd hi (hL.2.2 _ (lk_in hl)) (k ok H locs ls hR hS hL)
theorem a_lload {i : Nat} {x : Int64} (hd : decode cc pc = .ok (.lload i, 2))  (hl : L.lookup i = some (.long x)) (k : AJ X M y cc nL rt (pc + 2) L (.long x :: st) h uc us) : AJ X M y cc nL rt pc L st h uc us := fun ok H locs ls hR hS hL => lv_lload ok.1 ok.2.1 hd  (hL.2.2 _ (lk_in hl)) (k ok H locs ls hR hS hL)
theorem a_aload_n {i : Nat} {k0 : Fin 4} {x : Nat} (hd : decode cc pc = .ok (.aload_n k0, 1)) (hi : (k0 : Nat) = i) (hl : L.lookup i = some (.ref x)) (k : AJ X M y cc nL rt (pc + 1) L (.ref x :: st) h uc us) : AJ X M y cc nL rt pc L st h uc us := fun ok H locs ls hR hS hL => lv_aload_n ok.1 ok.2.1 hd hi (hL.2.2 _ (lk_in hl)) (k ok H locs ls hR hS hL)
theorem a_aload {i : Nat} {x : Nat} (hd : decode cc pc = .ok (.aload i, 2))  (hl : L.lookup i = some (.ref x)) (k : AJ X M y cc nL rt (pc + 2) L (.ref x :: st) h uc us) : AJ X M y cc nL rt pc L st h uc us := fun ok H locs ls hR hS hL => lv_aload ok.1 ok.2.1 hd  (hL.2.2 _ (lk_in hl)) (k ok H locs ls hR hS hL)
theorem a_aload_nN {i : Nat} {k0 : Fin 4} (hd : decode cc pc = .ok (.aload_n k0, 1)) (hi : (k0 : Nat) = i) (hl : L.lookup i = some (.null)) (k : AJ X M y cc nL rt (pc + 1) L (.null :: st) h uc us) : AJ X M y cc nL rt pc L st h uc us := fun ok H locs ls hR hS hL => lv_aload_nN ok.1 ok.2.1 hd hi (hL.2.2 _ (lk_in hl)) (k ok H locs ls hR hS hL)
theorem a_aloadN {i : Nat}  (hd : decode cc pc = .ok (.aload i, 2))  (hl : L.lookup i = some (.null)) (k : AJ X M y cc nL rt (pc + 2) L (.null :: st) h uc us) : AJ X M y cc nL rt pc L st h uc us := fun ok H locs ls hR hS hL => lv_aloadN ok.1 ok.2.1 hd  (hL.2.2 _ (lk_in hl)) (k ok H locs ls hR hS hL)
abbrev lset1 (L : List (Nat × Value)) (i : Nat) (v : Value) : List (Nat × Value) := (i, v) :: L.filter (fun q => !(q.1 == i) && !(q.1 + 1 == i && q.2.category == 2))
abbrev lset2 (L : List (Nat × Value)) (i : Nat) (v : Value) : List (Nat × Value) := (i, v) :: L.filter (fun q => !(q.1 == i) && (!(q.1 == i + 1) && !(q.1 + 1 == i && q.2.category == 2)))
theorem a_istore_n {i : Nat} {k0 : Fin 4} {x : Int32} {L1 : List (Nat × Value)} (hd : decode cc pc = .ok (.istore_n k0, 1)) (hi : (k0 : Nat) = i) (hn : i < nL) (hl : lset1 L i (.int x) = L1) (k : AJ X M y cc nL rt (pc + 1) L1 st h uc us) : AJ X M y cc nL rt pc L (.int x :: st) h uc us := fun ok H locs ls hR hS hL => lv_istore_n ok.1 ok.2.1 hd hi hL hn hl (fun ls1 hL1 => k ok H locs ls1 hR hS hL1)
theorem a_istore {i : Nat} {x : Int32} {L1 : List (Nat × Value)} (hd : decode cc pc = .ok (.istore i, 2))  (hn : i < nL) (hl : lset1 L i (.int x) = L1) (k : AJ X M y cc nL rt (pc + 2) L1 st h uc us) : AJ X M y cc nL rt pc L (.int x :: st) h uc us := fun ok H locs ls hR hS hL => lv_istore ok.1 ok.2.1 hd  hL hn hl (fun ls1 hL1 => k ok H locs ls1 hR hS hL1)
theorem a_lstore_n {i : Nat} {k0 : Fin 4} {x : Int64} {L1 : List (Nat × Value)} (hd : decode cc pc = .ok (.lstore_n k0, 1)) (hi : (k0 : Nat) = i) (hn : i + 1 < nL) (hl : lset2 L i (.long x) = L1) (k : AJ X M y cc nL rt (pc + 1) L1 st h uc us) : AJ X M y cc nL rt pc L (.long x :: st) h uc us := fun ok H locs ls hR hS hL => lv_lstore_n ok.1 ok.2.1 hd hi hL hn hl (fun ls1 hL1 => k ok H locs ls1 hR hS hL1)
theorem a_lstore {i : Nat} {x : Int64} {L1 : List (Nat × Value)} (hd : decode cc pc = .ok (.lstore i, 2))  (hn : i + 1 < nL) (hl : lset2 L i (.long x) = L1) (k : AJ X M y cc nL rt (pc + 2) L1 st h uc us) : AJ X M y cc nL rt pc L (.long x :: st) h uc us := fun ok H locs ls hR hS hL => lv_lstore ok.1 ok.2.1 hd  hL hn hl (fun ls1 hL1 => k ok H locs ls1 hR hS hL1)
theorem a_astore_n {i : Nat} {k0 : Fin 4} {x : Nat} {L1 : List (Nat × Value)} (hd : decode cc pc = .ok (.astore_n k0, 1)) (hi : (k0 : Nat) = i) (hn : i < nL) (hl : lset1 L i (.ref x) = L1) (k : AJ X M y cc nL rt (pc + 1) L1 st h uc us) : AJ X M y cc nL rt pc L (.ref x :: st) h uc us := fun ok H locs ls hR hS hL => lv_astore_n ok.1 ok.2.1 hd hi hL hn hl (fun ls1 hL1 => k ok H locs ls1 hR hS hL1)
theorem a_astore {i : Nat} {x : Nat} {L1 : List (Nat × Value)} (hd : decode cc pc = .ok (.astore i, 2))  (hn : i < nL) (hl : lset1 L i (.ref x) = L1) (k : AJ X M y cc nL rt (pc + 2) L1 st h uc us) : AJ X M y cc nL rt pc L (.ref x :: st) h uc us := fun ok H locs ls hR hS hL => lv_astore ok.1 ok.2.1 hd  hL hn hl (fun ls1 hL1 => k ok H locs ls1 hR hS hL1)
theorem a_astore_nN {i : Nat} {k0 : Fin 4} {L1 : List (Nat × Value)} (hd : decode cc pc = .ok (.astore_n k0, 1)) (hi : (k0 : Nat) = i) (hn : i < nL) (hl : lset1 L i (.null) = L1) (k : AJ X M y cc nL rt (pc + 1) L1 st h uc us) : AJ X M y cc nL rt pc L (.null :: st) h uc us := fun ok H locs ls hR hS hL => lv_astore_nN ok.1 ok.2.1 hd hi hL hn hl (fun ls1 hL1 => k ok H locs ls1 hR hS hL1)
theorem a_astoreN {i : Nat}  {L1 : List (Nat × Value)} (hd : decode cc pc = .ok (.astore i, 2))  (hn : i < nL) (hl : lset1 L i (.null) = L1) (k : AJ X M y cc nL rt (pc + 2) L1 st h uc us) : AJ X M y cc nL rt pc L (.null :: st) h uc us := fun ok H locs ls hR hS hL => lv_astoreN ok.1 ok.2.1 hd  hL hn hl (fun ls1 hL1 => k ok H locs ls1 hR hS hL1)
theorem a_iinc {i : Nat} {n : Int} {x v : Int32} {L1 : List (Nat × Value)} (hd : decode cc pc = .ok (.iinc i n, 3)) (hk : L.lookup i = some (.int x)) (hv : x + Int32.ofInt n = v) (hn : i < nL) (hl : lset1 L i (.int v) = L1) (k : AJ X M y cc nL rt (pc + 3) L1 st h uc us) : AJ X M y cc nL rt pc L st h uc us := fun ok H locs ls hR hS hL => by
  obtain ⟨j, hj⟩ := List.getElem?_of_mem (lk_in hk)
  exact lv_iinc ok.1 ok.2.1 hd hL hj hv hn hl (fun ls1 hL1 => k ok H locs ls1 hR hS hL1)
theorem a_iadd {a b : Int32} (hd : decode cc pc = .ok (.iadd, 1))  (k : AJ X M y cc nL rt (pc + 1) L (.int (a + b) :: st) h uc us) : AJ X M y cc nL rt pc L (.int b :: .int a :: st) h uc us := fun ok H locs ls hR hS hL => lv_iadd ok.1 ok.2.1 hd (k ok H locs ls hR hS hL)
theorem a_isub {a b : Int32} (hd : decode cc pc = .ok (.isub, 1))  (k : AJ X M y cc nL rt (pc + 1) L (.int (a - b) :: st) h uc us) : AJ X M y cc nL rt pc L (.int b :: .int a :: st) h uc us := fun ok H locs ls hR hS hL => lv_isub ok.1 ok.2.1 hd (k ok H locs ls hR hS hL)
theorem a_imul {a b : Int32} (hd : decode cc pc = .ok (.imul, 1))  (k : AJ X M y cc nL rt (pc + 1) L (.int (a * b) :: st) h uc us) : AJ X M y cc nL rt pc L (.int b :: .int a :: st) h uc us := fun ok H locs ls hR hS hL => lv_imul ok.1 ok.2.1 hd (k ok H locs ls hR hS hL)
theorem a_iand {a b : Int32} (hd : decode cc pc = .ok (.iand, 1))  (k : AJ X M y cc nL rt (pc + 1) L (.int (a &&& b) :: st) h uc us) : AJ X M y cc nL rt pc L (.int b :: .int a :: st) h uc us := fun ok H locs ls hR hS hL => lv_iand ok.1 ok.2.1 hd (k ok H locs ls hR hS hL)
theorem a_ior {a b : Int32} (hd : decode cc pc = .ok (.ior, 1))  (k : AJ X M y cc nL rt (pc + 1) L (.int (a ||| b) :: st) h uc us) : AJ X M y cc nL rt pc L (.int b :: .int a :: st) h uc us := fun ok H locs ls hR hS hL => lv_ior ok.1 ok.2.1 hd (k ok H locs ls hR hS hL)
theorem a_ixor {a b : Int32} (hd : decode cc pc = .ok (.ixor, 1))  (k : AJ X M y cc nL rt (pc + 1) L (.int (a ^^^ b) :: st) h uc us) : AJ X M y cc nL rt pc L (.int b :: .int a :: st) h uc us := fun ok H locs ls hR hS hL => lv_ixor ok.1 ok.2.1 hd (k ok H locs ls hR hS hL)
theorem a_ishl {a b : Int32} (hd : decode cc pc = .ok (.ishl, 1))  (k : AJ X M y cc nL rt (pc + 1) L (.int (a <<< (b &&& 31)) :: st) h uc us) : AJ X M y cc nL rt pc L (.int b :: .int a :: st) h uc us := fun ok H locs ls hR hS hL => lv_ishl ok.1 ok.2.1 hd (k ok H locs ls hR hS hL)
theorem a_ishr {a b : Int32} (hd : decode cc pc = .ok (.ishr, 1))  (k : AJ X M y cc nL rt (pc + 1) L (.int (a >>> (b &&& 31)) :: st) h uc us) : AJ X M y cc nL rt pc L (.int b :: .int a :: st) h uc us := fun ok H locs ls hR hS hL => lv_ishr ok.1 ok.2.1 hd (k ok H locs ls hR hS hL)
theorem a_idiv {a b : Int32} (hd : decode cc pc = .ok (.idiv, 1)) (hne : ¬ b = 0) (k : AJ X M y cc nL rt (pc + 1) L (.int (a / b) :: st) h uc us) : AJ X M y cc nL rt pc L (.int b :: .int a :: st) h uc us := fun ok H locs ls hR hS hL => lv_idiv ok.1 ok.2.1 hd hne (k ok H locs ls hR hS hL)
theorem a_irem {a b : Int32} (hd : decode cc pc = .ok (.irem, 1)) (hne : ¬ b = 0) (k : AJ X M y cc nL rt (pc + 1) L (.int (a - a / b * b) :: st) h uc us) : AJ X M y cc nL rt pc L (.int b :: .int a :: st) h uc us := fun ok H locs ls hR hS hL => lv_irem ok.1 ok.2.1 hd hne (k ok H locs ls hR hS hL)
theorem a_ineg {a : Int32} (hd : decode cc pc = .ok (.ineg, 1))  (k : AJ X M y cc nL rt (pc + 1) L (.int (-a) :: st) h uc us) : AJ X M y cc nL rt pc L (.int a :: st) h uc us := fun ok H locs ls hR hS hL => lv_ineg ok.1 ok.2.1 hd (k ok H locs ls hR hS hL)
theorem a_ladd {a b : Int64} (hd : decode cc pc = .ok (.ladd, 1))  (k : AJ X M y cc nL rt (pc + 1) L (.long (a + b) :: st) h uc us) : AJ X M y cc nL rt pc L (.long b :: .long a :: st) h uc us := fun ok H locs ls hR hS hL => lv_ladd ok.1 ok.2.1 hd (k ok H locs ls hR hS hL)
theorem a_lsub {a b : Int64} (hd : decode cc pc = .ok (.lsub, 1))  (k : AJ X M y cc nL rt (pc + 1) L (.long (a - b) :: st) h uc us) : AJ X M y cc nL rt pc L (.long b :: .long a :: st) h uc us := fun ok H locs ls hR hS hL => lv_lsub ok.1 ok.2.1 hd (k ok H locs ls hR hS hL)
theorem a_lmul {a b : Int64} (hd : decode cc pc = .ok (.lmul, 1))  (k : AJ X M y cc nL rt (pc + 1) L (.long (a * b) :: st) h uc us) : AJ X M y cc nL rt pc L (.long b :: .long a :: st) h uc us := fun ok H locs ls hR hS hL => lv_lmul ok.1 ok.2.1 hd (k ok H locs ls hR hS hL)
theorem a_land {a b : Int64} (hd : decode cc pc = .ok (.land, 1))  (k : AJ X M y cc nL rt (pc + 1) L (.long (a &&& b) :: st) h uc us) : AJ X M y cc nL rt pc L (.long b :: .long a :: st) h uc us := fun ok H locs ls hR hS hL => lv_land ok.1 ok.2.1 hd (k ok H locs ls hR hS hL)
theorem a_lor {a b : Int64} (hd : decode cc pc = .ok (.lor, 1))  (k : AJ X M y cc nL rt (pc + 1) L (.long (a ||| b) :: st) h uc us) : AJ X M y cc nL rt pc L (.long b :: .long a :: st) h uc us := fun ok H locs ls hR hS hL => lv_lor ok.1 ok.2.1 hd (k ok H locs ls hR hS hL)
theorem a_ldiv {a b : Int64} (hd : decode cc pc = .ok (.ldiv, 1)) (hne : ¬ b = 0) (k : AJ X M y cc nL rt (pc + 1) L (.long (a / b) :: st) h uc us) : AJ X M y cc nL rt pc L (.long b :: .long a :: st) h uc us := fun ok H locs ls hR hS hL => lv_ldiv ok.1 ok.2.1 hd hne (k ok H locs ls hR hS hL)
theorem a_lrem {a b : Int64} (hd : decode cc pc = .ok (.lrem, 1)) (hne : ¬ b = 0) (k : AJ X M y cc nL rt (pc + 1) L (.long (a - a / b * b) :: st) h uc us) : AJ X M y cc nL rt pc L (.long b :: .long a :: st) h uc us := fun ok H locs ls hR hS hL => lv_lrem ok.1 ok.2.1 hd hne (k ok H locs ls hR hS hL)
theorem a_lneg {a : Int64} (hd : decode cc pc = .ok (.lneg, 1))  (k : AJ X M y cc nL rt (pc + 1) L (.long (-a) :: st) h uc us) : AJ X M y cc nL rt pc L (.long a :: st) h uc us := fun ok H locs ls hR hS hL => lv_lneg ok.1 ok.2.1 hd (k ok H locs ls hR hS hL)
theorem a_lshl {a : Int64} {b : Int32} (hd : decode cc pc = .ok (.lshl, 1))  (k : AJ X M y cc nL rt (pc + 1) L (.long (a <<< (b.toInt64 &&& 63)) :: st) h uc us) : AJ X M y cc nL rt pc L (.int b :: .long a :: st) h uc us := fun ok H locs ls hR hS hL => lv_lshl ok.1 ok.2.1 hd rfl (k ok H locs ls hR hS hL)
theorem a_lshr {a : Int64} {b : Int32} (hd : decode cc pc = .ok (.lshr, 1))  (k : AJ X M y cc nL rt (pc + 1) L (.long (a >>> (b.toInt64 &&& 63)) :: st) h uc us) : AJ X M y cc nL rt pc L (.int b :: .long a :: st) h uc us := fun ok H locs ls hR hS hL => lv_lshr ok.1 ok.2.1 hd rfl (k ok H locs ls hR hS hL)
theorem a_lushr {a : Int64} {b : Int32} (hd : decode cc pc = .ok (.lushr, 1))  (k : AJ X M y cc nL rt (pc + 1) L (.long (a.toUInt64 >>> (b.toInt64.toUInt64 &&& Int64.toUInt64 63)).toInt64 :: st) h uc us) : AJ X M y cc nL rt pc L (.int b :: .long a :: st) h uc us := fun ok H locs ls hR hS hL => lv_lushr ok.1 ok.2.1 hd rfl (k ok H locs ls hR hS hL)
theorem a_lcmp {a b : Int64} (hd : decode cc pc = .ok (.lcmp, 1))  (k : AJ X M y cc nL rt (pc + 1) L (.int (lg_cmp a b) :: st) h uc us) : AJ X M y cc nL rt pc L (.long b :: .long a :: st) h uc us := fun ok H locs ls hR hS hL => W.lcmp ok.1 ok.2.1 hd (k ok H locs ls hR hS hL)
theorem a_i2l {a : Int32} (hd : decode cc pc = .ok (.i2l, 1))  (k : AJ X M y cc nL rt (pc + 1) L (.long a.toInt64 :: st) h uc us) : AJ X M y cc nL rt pc L (.int a :: st) h uc us := fun ok H locs ls hR hS hL => lv_i2l ok.1 ok.2.1 hd rfl (k ok H locs ls hR hS hL)
theorem a_l2i {a : Int64} (hd : decode cc pc = .ok (.l2i, 1))  (k : AJ X M y cc nL rt (pc + 1) L (.int a.toInt32 :: st) h uc us) : AJ X M y cc nL rt pc L (.long a :: st) h uc us := fun ok H locs ls hR hS hL => lv_l2i ok.1 ok.2.1 hd rfl (k ok H locs ls hR hS hL)
theorem a_i2b {a : Int32} (hd : decode cc pc = .ok (.i2b, 1))  (k : AJ X M y cc nL rt (pc + 1) L (.int a.toInt8.toInt32 :: st) h uc us) : AJ X M y cc nL rt pc L (.int a :: st) h uc us := fun ok H locs ls hR hS hL => lv_i2b ok.1 ok.2.1 hd rfl (k ok H locs ls hR hS hL)
theorem a_i2s {a : Int32} (hd : decode cc pc = .ok (.i2s, 1))  (k : AJ X M y cc nL rt (pc + 1) L (.int a.toInt16.toInt32 :: st) h uc us) : AJ X M y cc nL rt pc L (.int a :: st) h uc us := fun ok H locs ls hR hS hL => lv_i2s ok.1 ok.2.1 hd rfl (k ok H locs ls hR hS hL)
theorem a_i2c {a : Int32} (hd : decode cc pc = .ok (.i2c, 1))  (k : AJ X M y cc nL rt (pc + 1) L (.int (a.toUInt32 % 65536).toInt32 :: st) h uc us) : AJ X M y cc nL rt pc L (.int a :: st) h uc us := fun ok H locs ls hR hS hL => lv_i2c ok.1 ok.2.1 hd rfl (k ok H locs ls hR hS hL)
theorem a_dup {v : Value} (hd : decode cc pc = .ok (.dup, 1)) (hv : v.category = 1) (k : AJ X M y cc nL rt (pc + 1) L (v :: v :: st) h uc us) : AJ X M y cc nL rt pc L (v :: st) h uc us := fun ok H locs ls hR hS hL => lv_dup ok.1 ok.2.1 hd hv (k ok H locs ls hR hS hL)
theorem a_pop {v : Value} (hd : decode cc pc = .ok (.pop, 1)) (hv : v.category = 1) (k : AJ X M y cc nL rt (pc + 1) L st h uc us) : AJ X M y cc nL rt pc L (v :: st) h uc us := fun ok H locs ls hR hS hL => lv_pop ok.1 ok.2.1 hd hv (k ok H locs ls hR hS hL)
theorem a_dup2 {v w : Value} (hd : decode cc pc = .ok (.dup2, 1)) (hv : v.category = 1) (hw : w.category = 1) (k : AJ X M y cc nL rt (pc + 1) L (v :: w :: v :: w :: st) h uc us) : AJ X M y cc nL rt pc L (v :: w :: st) h uc us := fun ok H locs ls hR hS hL => lv_dup2_11 ok.1 ok.2.1 hd hv hw (k ok H locs ls hR hS hL)
theorem a_dup_x1 {v w : Value} (hd : decode cc pc = .ok (.dup_x1, 1)) (hv : v.category = 1) (hw : w.category = 1) (k : AJ X M y cc nL rt (pc + 1) L (v :: w :: v :: st) h uc us) : AJ X M y cc nL rt pc L (v :: w :: st) h uc us := fun ok H locs ls hR hS hL => lv_dup_x1 ok.1 ok.2.1 hd hv hw (k ok H locs ls hR hS hL)
theorem a_goto {off : Int} {tgt : Nat} (hd : decode cc pc = .ok (.goto off, 3)) (ht : (pc : Int) + off = (tgt : Int)) (k : AJ X M y cc nL rt tgt L st h uc us) : AJ X M y cc nL rt pc L st h uc us := fun ok H locs ls hR hS hL => lv_goto ok.1 ok.2.1 hd ht (k ok H locs ls hR hS hL)
theorem a_if_eq {a : Int32} {off : Int} {tgt : Nat} (hd : decode cc pc = .ok (.ifCond .eq off, 3)) (ht : (pc : Int) + off = (tgt : Int)) (kt : a = 0 → AJ X M y cc nL rt tgt L st h uc us) (kf : ¬ a = 0 → AJ X M y cc nL rt (pc + 3) L st h uc us) : AJ X M y cc nL rt pc L (.int a :: st) h uc us := fun ok H locs ls hR hS hL => lv_if_eq ok.1 ok.2.1 hd ht (fun c => kt c ok H locs ls hR hS hL) (fun c => kf c ok H locs ls hR hS hL)
theorem a_if_eq_t {a : Int32} {off : Int} {tgt : Nat} (hd : decode cc pc = .ok (.ifCond .eq off, 3)) (ht : (pc : Int) + off = (tgt : Int)) (hc : a = 0) (kt : AJ X M y cc nL rt tgt L st h uc us) : AJ X M y cc nL rt pc L (.int a :: st) h uc us := a_if_eq hd ht (fun _ => kt) (fun c => absurd hc c)
theorem a_if_eq_f {a : Int32} {off : Int} {tgt : Nat} (hd : decode cc pc = .ok (.ifCond .eq off, 3)) (ht : (pc : Int) + off = (tgt : Int)) (hc : ¬ a = 0) (kf : AJ X M y cc nL rt (pc + 3) L st h uc us) : AJ X M y cc nL rt pc L (.int a :: st) h uc us := a_if_eq hd ht (fun c => absurd c hc) (fun _ => kf)
theorem a_icmp_eq {a b : Int32} {off : Int} {tgt : Nat} (hd : decode cc pc = .ok (.if_icmp .eq off, 3)) (ht : (pc : Int) + off = (tgt : Int)) (kt : a = b → AJ X M y cc nL rt tgt L st h uc us) (kf : ¬ a = b → AJ X M y cc nL rt (pc + 3) L st h uc us) : AJ X M y cc nL rt pc L (.int b :: .int a :: st) h uc us := fun ok H locs ls hR hS hL => lv_icmp_eq ok.1 ok.2.1 hd ht (fun c => kt c ok H locs ls hR hS hL) (fun c => kf c ok H locs ls hR hS hL)
theorem a_icmp_eq_t {a b : Int32} {off : Int} {tgt : Nat} (hd : decode cc pc = .ok (.if_icmp .eq off, 3)) (ht : (pc : Int) + off = (tgt : Int)) (hc : a = b) (kt : AJ X M y cc nL rt tgt L st h uc us) : AJ X M y cc nL rt pc L (.int b :: .int a :: st) h uc us := a_icmp_eq hd ht (fun _ => kt) (fun c => absurd hc c)
theorem a_icmp_eq_f {a b : Int32} {off : Int} {tgt : Nat} (hd : decode cc pc = .ok (.if_icmp .eq off, 3)) (ht : (pc : Int) + off = (tgt : Int)) (hc : ¬ a = b) (kf : AJ X M y cc nL rt (pc + 3) L st h uc us) : AJ X M y cc nL rt pc L (.int b :: .int a :: st) h uc us := a_icmp_eq hd ht (fun c => absurd c hc) (fun _ => kf)
theorem a_if_ne {a : Int32} {off : Int} {tgt : Nat} (hd : decode cc pc = .ok (.ifCond .ne off, 3)) (ht : (pc : Int) + off = (tgt : Int)) (kt : ¬ a = 0 → AJ X M y cc nL rt tgt L st h uc us) (kf : a = 0 → AJ X M y cc nL rt (pc + 3) L st h uc us) : AJ X M y cc nL rt pc L (.int a :: st) h uc us := fun ok H locs ls hR hS hL => lv_if_ne ok.1 ok.2.1 hd ht (fun c => kt c ok H locs ls hR hS hL) (fun c => kf c ok H locs ls hR hS hL)
theorem a_if_ne_t {a : Int32} {off : Int} {tgt : Nat} (hd : decode cc pc = .ok (.ifCond .ne off, 3)) (ht : (pc : Int) + off = (tgt : Int)) (hc : ¬ a = 0) (kt : AJ X M y cc nL rt tgt L st h uc us) : AJ X M y cc nL rt pc L (.int a :: st) h uc us := a_if_ne hd ht (fun _ => kt) (fun c => absurd c hc)
theorem a_if_ne_f {a : Int32} {off : Int} {tgt : Nat} (hd : decode cc pc = .ok (.ifCond .ne off, 3)) (ht : (pc : Int) + off = (tgt : Int)) (hc : a = 0) (kf : AJ X M y cc nL rt (pc + 3) L st h uc us) : AJ X M y cc nL rt pc L (.int a :: st) h uc us := a_if_ne hd ht (fun c => absurd c (fun z => z hc)) (fun _ => kf)
theorem a_icmp_ne {a b : Int32} {off : Int} {tgt : Nat} (hd : decode cc pc = .ok (.if_icmp .ne off, 3)) (ht : (pc : Int) + off = (tgt : Int)) (kt : ¬ a = b → AJ X M y cc nL rt tgt L st h uc us) (kf : a = b → AJ X M y cc nL rt (pc + 3) L st h uc us) : AJ X M y cc nL rt pc L (.int b :: .int a :: st) h uc us := fun ok H locs ls hR hS hL => lv_icmp_ne ok.1 ok.2.1 hd ht (fun c => kt c ok H locs ls hR hS hL) (fun c => kf c ok H locs ls hR hS hL)
theorem a_icmp_ne_t {a b : Int32} {off : Int} {tgt : Nat} (hd : decode cc pc = .ok (.if_icmp .ne off, 3)) (ht : (pc : Int) + off = (tgt : Int)) (hc : ¬ a = b) (kt : AJ X M y cc nL rt tgt L st h uc us) : AJ X M y cc nL rt pc L (.int b :: .int a :: st) h uc us := a_icmp_ne hd ht (fun _ => kt) (fun c => absurd c hc)
theorem a_icmp_ne_f {a b : Int32} {off : Int} {tgt : Nat} (hd : decode cc pc = .ok (.if_icmp .ne off, 3)) (ht : (pc : Int) + off = (tgt : Int)) (hc : a = b) (kf : AJ X M y cc nL rt (pc + 3) L st h uc us) : AJ X M y cc nL rt pc L (.int b :: .int a :: st) h uc us := a_icmp_ne hd ht (fun c => absurd c (fun z => z hc)) (fun _ => kf)
theorem a_if_lt {a : Int32} {off : Int} {tgt : Nat} (hd : decode cc pc = .ok (.ifCond .lt off, 3)) (ht : (pc : Int) + off = (tgt : Int)) (kt : a < 0 → AJ X M y cc nL rt tgt L st h uc us) (kf : ¬ a < 0 → AJ X M y cc nL rt (pc + 3) L st h uc us) : AJ X M y cc nL rt pc L (.int a :: st) h uc us := fun ok H locs ls hR hS hL => lv_if_lt ok.1 ok.2.1 hd ht (fun c => kt c ok H locs ls hR hS hL) (fun c => kf c ok H locs ls hR hS hL)
theorem a_if_lt_t {a : Int32} {off : Int} {tgt : Nat} (hd : decode cc pc = .ok (.ifCond .lt off, 3)) (ht : (pc : Int) + off = (tgt : Int)) (hc : a < 0) (kt : AJ X M y cc nL rt tgt L st h uc us) : AJ X M y cc nL rt pc L (.int a :: st) h uc us := a_if_lt hd ht (fun _ => kt) (fun c => absurd hc c)
theorem a_if_lt_f {a : Int32} {off : Int} {tgt : Nat} (hd : decode cc pc = .ok (.ifCond .lt off, 3)) (ht : (pc : Int) + off = (tgt : Int)) (hc : ¬ a < 0) (kf : AJ X M y cc nL rt (pc + 3) L st h uc us) : AJ X M y cc nL rt pc L (.int a :: st) h uc us := a_if_lt hd ht (fun c => absurd c hc) (fun _ => kf)
theorem a_icmp_lt {a b : Int32} {off : Int} {tgt : Nat} (hd : decode cc pc = .ok (.if_icmp .lt off, 3)) (ht : (pc : Int) + off = (tgt : Int)) (kt : a < b → AJ X M y cc nL rt tgt L st h uc us) (kf : ¬ a < b → AJ X M y cc nL rt (pc + 3) L st h uc us) : AJ X M y cc nL rt pc L (.int b :: .int a :: st) h uc us := fun ok H locs ls hR hS hL => lv_icmp_lt ok.1 ok.2.1 hd ht (fun c => kt c ok H locs ls hR hS hL) (fun c => kf c ok H locs ls hR hS hL)
theorem a_icmp_lt_t {a b : Int32} {off : Int} {tgt : Nat} (hd : decode cc pc = .ok (.if_icmp .lt off, 3)) (ht : (pc : Int) + off = (tgt : Int)) (hc : a < b) (kt : AJ X M y cc nL rt tgt L st h uc us) : AJ X M y cc nL rt pc L (.int b :: .int a :: st) h uc us := a_icmp_lt hd ht (fun _ => kt) (fun c => absurd hc c)
theorem a_icmp_lt_f {a b : Int32} {off : Int} {tgt : Nat} (hd : decode cc pc = .ok (.if_icmp .lt off, 3)) (ht : (pc : Int) + off = (tgt : Int)) (hc : ¬ a < b) (kf : AJ X M y cc nL rt (pc + 3) L st h uc us) : AJ X M y cc nL rt pc L (.int b :: .int a :: st) h uc us := a_icmp_lt hd ht (fun c => absurd c hc) (fun _ => kf)
theorem a_if_ge {a : Int32} {off : Int} {tgt : Nat} (hd : decode cc pc = .ok (.ifCond .ge off, 3)) (ht : (pc : Int) + off = (tgt : Int)) (kt : 0 ≤ a → AJ X M y cc nL rt tgt L st h uc us) (kf : ¬ 0 ≤ a → AJ X M y cc nL rt (pc + 3) L st h uc us) : AJ X M y cc nL rt pc L (.int a :: st) h uc us := fun ok H locs ls hR hS hL => lv_if_ge ok.1 ok.2.1 hd ht (fun c => kt c ok H locs ls hR hS hL) (fun c => kf c ok H locs ls hR hS hL)
theorem a_if_ge_t {a : Int32} {off : Int} {tgt : Nat} (hd : decode cc pc = .ok (.ifCond .ge off, 3)) (ht : (pc : Int) + off = (tgt : Int)) (hc : 0 ≤ a) (kt : AJ X M y cc nL rt tgt L st h uc us) : AJ X M y cc nL rt pc L (.int a :: st) h uc us := a_if_ge hd ht (fun _ => kt) (fun c => absurd hc c)
theorem a_if_ge_f {a : Int32} {off : Int} {tgt : Nat} (hd : decode cc pc = .ok (.ifCond .ge off, 3)) (ht : (pc : Int) + off = (tgt : Int)) (hc : ¬ 0 ≤ a) (kf : AJ X M y cc nL rt (pc + 3) L st h uc us) : AJ X M y cc nL rt pc L (.int a :: st) h uc us := a_if_ge hd ht (fun c => absurd c hc) (fun _ => kf)
theorem a_icmp_ge {a b : Int32} {off : Int} {tgt : Nat} (hd : decode cc pc = .ok (.if_icmp .ge off, 3)) (ht : (pc : Int) + off = (tgt : Int)) (kt : b ≤ a → AJ X M y cc nL rt tgt L st h uc us) (kf : ¬ b ≤ a → AJ X M y cc nL rt (pc + 3) L st h uc us) : AJ X M y cc nL rt pc L (.int b :: .int a :: st) h uc us := fun ok H locs ls hR hS hL => lv_icmp_ge ok.1 ok.2.1 hd ht (fun c => kt c ok H locs ls hR hS hL) (fun c => kf c ok H locs ls hR hS hL)
theorem a_icmp_ge_t {a b : Int32} {off : Int} {tgt : Nat} (hd : decode cc pc = .ok (.if_icmp .ge off, 3)) (ht : (pc : Int) + off = (tgt : Int)) (hc : b ≤ a) (kt : AJ X M y cc nL rt tgt L st h uc us) : AJ X M y cc nL rt pc L (.int b :: .int a :: st) h uc us := a_icmp_ge hd ht (fun _ => kt) (fun c => absurd hc c)
theorem a_icmp_ge_f {a b : Int32} {off : Int} {tgt : Nat} (hd : decode cc pc = .ok (.if_icmp .ge off, 3)) (ht : (pc : Int) + off = (tgt : Int)) (hc : ¬ b ≤ a) (kf : AJ X M y cc nL rt (pc + 3) L st h uc us) : AJ X M y cc nL rt pc L (.int b :: .int a :: st) h uc us := a_icmp_ge hd ht (fun c => absurd c hc) (fun _ => kf)
theorem a_if_gt {a : Int32} {off : Int} {tgt : Nat} (hd : decode cc pc = .ok (.ifCond .gt off, 3)) (ht : (pc : Int) + off = (tgt : Int)) (kt : 0 < a → AJ X M y cc nL rt tgt L st h uc us) (kf : ¬ 0 < a → AJ X M y cc nL rt (pc + 3) L st h uc us) : AJ X M y cc nL rt pc L (.int a :: st) h uc us := fun ok H locs ls hR hS hL => lv_if_gt ok.1 ok.2.1 hd ht (fun c => kt c ok H locs ls hR hS hL) (fun c => kf c ok H locs ls hR hS hL)
theorem a_if_gt_t {a : Int32} {off : Int} {tgt : Nat} (hd : decode cc pc = .ok (.ifCond .gt off, 3)) (ht : (pc : Int) + off = (tgt : Int)) (hc : 0 < a) (kt : AJ X M y cc nL rt tgt L st h uc us) : AJ X M y cc nL rt pc L (.int a :: st) h uc us := a_if_gt hd ht (fun _ => kt) (fun c => absurd hc c)
theorem a_if_gt_f {a : Int32} {off : Int} {tgt : Nat} (hd : decode cc pc = .ok (.ifCond .gt off, 3)) (ht : (pc : Int) + off = (tgt : Int)) (hc : ¬ 0 < a) (kf : AJ X M y cc nL rt (pc + 3) L st h uc us) : AJ X M y cc nL rt pc L (.int a :: st) h uc us := a_if_gt hd ht (fun c => absurd c hc) (fun _ => kf)
theorem a_icmp_gt {a b : Int32} {off : Int} {tgt : Nat} (hd : decode cc pc = .ok (.if_icmp .gt off, 3)) (ht : (pc : Int) + off = (tgt : Int)) (kt : b < a → AJ X M y cc nL rt tgt L st h uc us) (kf : ¬ b < a → AJ X M y cc nL rt (pc + 3) L st h uc us) : AJ X M y cc nL rt pc L (.int b :: .int a :: st) h uc us := fun ok H locs ls hR hS hL => lv_icmp_gt ok.1 ok.2.1 hd ht (fun c => kt c ok H locs ls hR hS hL) (fun c => kf c ok H locs ls hR hS hL)
theorem a_icmp_gt_t {a b : Int32} {off : Int} {tgt : Nat} (hd : decode cc pc = .ok (.if_icmp .gt off, 3)) (ht : (pc : Int) + off = (tgt : Int)) (hc : b < a) (kt : AJ X M y cc nL rt tgt L st h uc us) : AJ X M y cc nL rt pc L (.int b :: .int a :: st) h uc us := a_icmp_gt hd ht (fun _ => kt) (fun c => absurd hc c)
theorem a_icmp_gt_f {a b : Int32} {off : Int} {tgt : Nat} (hd : decode cc pc = .ok (.if_icmp .gt off, 3)) (ht : (pc : Int) + off = (tgt : Int)) (hc : ¬ b < a) (kf : AJ X M y cc nL rt (pc + 3) L st h uc us) : AJ X M y cc nL rt pc L (.int b :: .int a :: st) h uc us := a_icmp_gt hd ht (fun c => absurd c hc) (fun _ => kf)
theorem a_if_le {a : Int32} {off : Int} {tgt : Nat} (hd : decode cc pc = .ok (.ifCond .le off, 3)) (ht : (pc : Int) + off = (tgt : Int)) (kt : a ≤ 0 → AJ X M y cc nL rt tgt L st h uc us) (kf : ¬ a ≤ 0 → AJ X M y cc nL rt (pc + 3) L st h uc us) : AJ X M y cc nL rt pc L (.int a :: st) h uc us := fun ok H locs ls hR hS hL => lv_if_le ok.1 ok.2.1 hd ht (fun c => kt c ok H locs ls hR hS hL) (fun c => kf c ok H locs ls hR hS hL)
theorem a_if_le_t {a : Int32} {off : Int} {tgt : Nat} (hd : decode cc pc = .ok (.ifCond .le off, 3)) (ht : (pc : Int) + off = (tgt : Int)) (hc : a ≤ 0) (kt : AJ X M y cc nL rt tgt L st h uc us) : AJ X M y cc nL rt pc L (.int a :: st) h uc us := a_if_le hd ht (fun _ => kt) (fun c => absurd hc c)
theorem a_if_le_f {a : Int32} {off : Int} {tgt : Nat} (hd : decode cc pc = .ok (.ifCond .le off, 3)) (ht : (pc : Int) + off = (tgt : Int)) (hc : ¬ a ≤ 0) (kf : AJ X M y cc nL rt (pc + 3) L st h uc us) : AJ X M y cc nL rt pc L (.int a :: st) h uc us := a_if_le hd ht (fun c => absurd c hc) (fun _ => kf)
theorem a_icmp_le {a b : Int32} {off : Int} {tgt : Nat} (hd : decode cc pc = .ok (.if_icmp .le off, 3)) (ht : (pc : Int) + off = (tgt : Int)) (kt : a ≤ b → AJ X M y cc nL rt tgt L st h uc us) (kf : ¬ a ≤ b → AJ X M y cc nL rt (pc + 3) L st h uc us) : AJ X M y cc nL rt pc L (.int b :: .int a :: st) h uc us := fun ok H locs ls hR hS hL => lv_icmp_le ok.1 ok.2.1 hd ht (fun c => kt c ok H locs ls hR hS hL) (fun c => kf c ok H locs ls hR hS hL)
theorem a_icmp_le_t {a b : Int32} {off : Int} {tgt : Nat} (hd : decode cc pc = .ok (.if_icmp .le off, 3)) (ht : (pc : Int) + off = (tgt : Int)) (hc : a ≤ b) (kt : AJ X M y cc nL rt tgt L st h uc us) : AJ X M y cc nL rt pc L (.int b :: .int a :: st) h uc us := a_icmp_le hd ht (fun _ => kt) (fun c => absurd hc c)
theorem a_icmp_le_f {a b : Int32} {off : Int} {tgt : Nat} (hd : decode cc pc = .ok (.if_icmp .le off, 3)) (ht : (pc : Int) + off = (tgt : Int)) (hc : ¬ a ≤ b) (kf : AJ X M y cc nL rt (pc + 3) L st h uc us) : AJ X M y cc nL rt pc L (.int b :: .int a :: st) h uc us := a_icmp_le hd ht (fun c => absurd c hc) (fun _ => kf)
theorem a_ifnonnull {x : Nat} {off : Int} {tgt : Nat} (hd : decode cc pc = .ok (.ifnonnull off, 3)) (ht : (pc : Int) + off = (tgt : Int)) (k : AJ X M y cc nL rt tgt L st h uc us) : AJ X M y cc nL rt pc L (.ref x :: st) h uc us := fun ok H locs ls hR hS hL => lv_ifnonnull ok.1 ok.2.1 hd ht (k ok H locs ls hR hS hL)
theorem a_ifnonnullN {off : Int} (hd : decode cc pc = .ok (.ifnonnull off, 3))  (k : AJ X M y cc nL rt (pc + 3) L st h uc us) : AJ X M y cc nL rt pc L (.null :: st) h uc us := fun ok H locs ls hR hS hL => lv_ifnonnullN ok.1 ok.2.1 hd (k ok H locs ls hR hS hL)
theorem a_tabOut {dflt lo hi : Int} {offs : Array Int} {len : Nat} {a : Int32} {tgt : Nat} (hd : decode cc pc = .ok (.tableswitch dflt lo hi offs, len)) (hx : a.toInt < lo ∨ hi < a.toInt) (ht : (pc : Int) + dflt = (tgt : Int)) (k : AJ X M y cc nL rt tgt L st h uc us) : AJ X M y cc nL rt pc L (.int a :: st) h uc us := fun ok H locs ls hR hS hL => lv_tableOut ok.1 ok.2.1 hd hx ht (k ok H locs ls hR hS hL)
theorem a_tabIn {dflt lo hi : Int} {offs : Array Int} {len : Nat} {a : Int32} {off : Int} {tgt : Nat} (hd : decode cc pc = .ok (.tableswitch dflt lo hi offs, len)) (h1 : ¬ a.toInt < lo) (h2 : ¬ hi < a.toInt) (ho : offs[(a.toInt - lo).toNat]? = some off) (ht : (pc : Int) + off = (tgt : Int)) (k : AJ X M y cc nL rt tgt L st h uc us) : AJ X M y cc nL rt pc L (.int a :: st) h uc us := fun ok H locs ls hR hS hL => lv_tableIn ok.1 ok.2.1 hd h1 h2 ho ht (k ok H locs ls hR hS hL)
theorem a_look {dflt : Int} {ps : Array (Int × Int)} {len : Nat} {a : Int32} {off : Int} {tgt : Nat} (hd : decode cc pc = .ok (.lookupswitch dflt ps, len)) (hp : (ps.toList.zip (ps.toList.drop 1)).all (fun (a, next) => a.1 < next.1) = true) (ho : Op.lookupswitch.offset ps.toList dflt a.toInt = off) (ht : (pc : Int) + off = (tgt : Int)) (k : AJ X M y cc nL rt tgt L st h uc us) : AJ X M y cc nL rt pc L (.int a :: st) h uc us := fun ok H locs ls hR hS hL => lv_lookup ok.1 ok.2.1 hd hp ho ht (k ok H locs ls hR hS hL)
theorem a_ldc {idx : Nat} {v : Int32} (hq : Cond.constant y.cls idx v ∈ BIG) (hd : decode cc pc = .ok (.ldc idx, 2)) (k : AJ X M y cc nL rt (pc + 2) L (.int v :: st) h uc us) : AJ X M y cc nL rt pc L st h uc us := fun ok H locs ls hR hS hL => lv_ldc ok.1 ok.2.1 ok.2.2.2.2.2.2.1 (ok.2.2.2.2.2.2.2.1 _ hq) hd (k ok H locs ls hR hS hL)
theorem a_ldc2 {idx : Nat} {v : Int64} (hq : Cond.constantLong y.cls idx v ∈ BIG) (hd : decode cc pc = .ok (.ldc2_w idx, 3)) (k : AJ X M y cc nL rt (pc + 3) L (.long v :: st) h uc us) : AJ X M y cc nL rt pc L st h uc us := fun ok H locs ls hR hS hL => lv_ldc2 ok.1 ok.2.1 ok.2.2.2.2.2.2.1 (ok.2.2.2.2.2.2.2.1 _ hq) hd (k ok H locs ls hR hS hL)
theorem a_ldcS {q : String × Nat × String × Nat} (hq : q ∈ k_strs) (ho : y.cls = q.1) (hd : decode cc pc = .ok (.ldc q.2.1, 2)) (k : AJ X M y cc nL rt (pc + 2) L (.ref (X.2.2.2.1 (10 + q.2.2.2)) :: st) h uc us) : AJ X M y cc nL rt pc L st h uc us := fun ok H locs ls hR hS hL => va_ldcS (own := q.1) (tx := q.2.2.1) ok.1 ok.2.1 (by rw [← ho]; exact ok.2.2.2.2.2.2.1) (ok.2.2.2.2.2.2.2.2.2.1.2.2.2.2.2.2.2.2.2.1 q hq) hd (k ok H locs ls hR hS hL)
/-- other names for the same locals: those that L1 lists -/
def subL (L1 L : List (Nat × Value)) : Prop := match L1 with
  | [] => True
  | q :: l => L.lookup q.1 = some q.2 ∧ subL l L
theorem subL_mem {L1 L : List (Nat × Value)} (h : subL L1 L) : ∀ q ∈ L1, q ∈ L := by
  induction L1 with
  | nil => intro q hq; cases hq
  | cons p l ih =>
    intro q hq
    rcases List.mem_cons.mp hq with rfl | hq
    · exact lk_in h.1
    · exact ih h.2 q hq
theorem a_loc {L1 : List (Nat × Value)} (hs : subL L1 L) (k : AJ X M y cc nL rt pc L1 st h uc us) : AJ X M y cc nL rt pc L st h uc us := fun ok H locs ls hR hS hL => k ok H locs ls hR hS ⟨hL.1, hL.2.1, fun q hq => hL.2.2 q (subL_mem hs q hq)⟩
theorem a_st {st1 : List Value} (e : st = st1) (k : AJ X M y cc nL rt pc L st1 h uc us) : AJ X M y cc nL rt pc L st h uc us := e ▸ k
theorem a_hp {h1 : AH} (e : h = h1) (k : AJ X M y cc nL rt pc L st h1 uc us) : AJ X M y cc nL rt pc L st h uc us := e ▸ k
theorem a_wid {uc1 us1 : Nat} (h1 : uc ≤ uc1) (h2 : us ≤ us1) (k : AJ X M y cc nL rt pc L st h uc1 us1) : AJ X M y cc nL rt pc L st h uc us := fun ok H locs ls hR hS hL => W.widen h1 h2 (k ok H locs ls hR hS hL)
def LkF (own : String) (idx ci k : Nat) (ty : FieldType) (fin : Bool) : Prop := ∃ (C : String) (T : u_T) (N : Nat) (ty0 : Nat → FieldType) (ref : String), kcl[ci]? = some (C, T, N) ∧ (∀ w ∈ u_ws C T N, w ∈ BIG) ∧ (∀ k, k < N → parseFieldDescriptor (T k).2.2.1 = some (ty0 k)) ∧ (∀ a, a < N → ∀ b, b < N → a ≠ b → (T a).2.1 ≠ (T b).2.1) ∧ k < N ∧ Cond.fieldLink own idx ref (T k).2.1 (T k).2.2.1 ∈ BIG ∧ (ref = (T k).1 ∨ Cond.sameField ref (T k).1 (T k).2.1 (T k).2.2.1 ∈ BIG) ∧ (T k).2.2.2 = fin ∧ ty0 k = ty ∧ (fin = true → (T k).1 = own)
def LkG (own : String) (idx ci k : Nat) : Prop := ∃ (C : String) (T : u_T) (N : Nat) (ref : String), kcl[ci]? = some (C, T, N) ∧ (∀ w ∈ u_ws C T N, w ∈ BIG) ∧ k < N ∧ Cond.fieldLink own idx ref (T k).2.1 (T k).2.2.1 ∈ BIG ∧ (ref = (T k).1 ∨ Cond.sameField ref (T k).1 (T k).2.1 (T k).2.2.1 ∈ BIG)
theorem lk_same {args : Array Value} {s : State} {ref : String} {f : String × String × String × Bool} (hts : ∀ w ∈ BIG, w.before args s = true) (hr : ref = f.1 ∨ Cond.sameField ref f.1 f.2.1 f.2.2.1 ∈ BIG) : ∀ x, s.fieldFound? f.1 f.2.1 f.2.2.1 = some x → s.fieldFound? ref f.2.1 f.2.2.1 = some x := by
  intro x hx
  rcases hr with rfl | hr
  · exact hx
  · exact u_same (hts _ hr) x hx
theorem a_getfield {idx ci k a : Nat} {fs : List Value} {v : Value} (lk : LkG y.cls idx ci k) (hd : decode cc pc = .ok (.getfield idx, 3)) (ha : h a = some (.inr (ci, fs))) (hv : fs[k]? = some v)
    (kk : AJ X M y cc nL rt (pc + 3) L (v :: st) h uc us) : AJ X M y cc nL rt pc L (.ref a :: st) h uc us := by
  intro ok H locs ls hR hS hL
  obtain ⟨C, T, N, ref, hc, hin, hk, hlink, hsame⟩ := lk
  obtain ⟨dom, hdm, hP, hD⟩ := id hR
  obtain ⟨q0, -, he⟩ := kws_at (X := X) hdm ha
  have hts := ok.2.2.2.2.2.2.2.1
  exact va_get ok.1 ok.2.1 hts hin ok.2.2.2.2.2.2.1 ok.2.2.2.2.2.2.2.2.1 hP q0 he hc k hk (hts _ hlink) (lk_same hts hsame) hv hd (kk ok H locs ls hR hS hL)
theorem rep_set {A : Nat → Prop} {H1 : Heap} {a q0 : Nat} {e0 e : kE} {dom : List Nat} (hdm : Dom h dom) (hD : va_D A (kws X h dom)) (ha : h a = some e0) (hq : dom[q0]? = some a) (hP1 : va_P X.2.1 kcl ((kws X h dom).set q0 (a, cE X e)) H1) (hD1 : va_D A ((kws X h dom).set q0 (a, cE X e))) : Rep X A (kput h a e) H1 :=
  ⟨dom, hdm.put ha, by rw [← kws_set hD hq]; exact hP1, by rw [← kws_set hD hq]; exact hD1⟩
theorem a_putfield {idx ci k a : Nat} {ty : FieldType} {fs : List Value} {v : Value} (lk : LkF y.cls idx ci k ty false) (hd : decode cc pc = .ok (.putfield idx, 3)) (ha : h a = some (.inr (ci, fs))) (hn : narrow ty v = v) (hf : fits ty v = true) (hl : k < fs.length)
    (kk : AJ X M y cc nL rt (pc + 3) L st (kput h a (.inr (ci, fs.set k v))) uc us) : AJ X M y cc nL rt pc L (v :: .ref a :: st) h uc us := by
  intro ok H locs ls hR hS hL
  obtain ⟨C, T, N, ty0, ref, hc, hin, hty, hnm, hk, hlink, hsame, hfin, hty0, -⟩ := lk
  obtain ⟨dom, hdm, hP, hD⟩ := id hR
  obtain ⟨q0, hq, he⟩ := kws_at (X := X) hdm ha
  have hts := ok.2.2.2.2.2.2.2.1
  exact va_put ok.1 ok.2.1 hts hin ty0 hty hnm ok.2.2.2.2.2.2.1 ok.2.2.2.2.2.2.2.2.1 hP hD hS q0 he hc k hk (hts _ hlink) (lk_same hts hsame) hfin (ty := ty) (by rw [hty k hk, hty0]) hn hf hl hd (fun H1 locs1 hP1 hD1 hS1 => kk ok H1 locs1 ls (rep_set hdm hD ha hq (e := .inr (ci, fs.set k v)) hP1 hD1) hS1 hL)
theorem a_putfieldF {idx ci k a : Nat} {ty : FieldType} {fs : List Value} {v : Value} (lk : LkF y.cls idx ci k ty true) (hi : y.name = "<init>") (hd : decode cc pc = .ok (.putfield idx, 3)) (ha : h a = some (.inr (ci, fs))) (hn : narrow ty v = v) (hf : fits ty v = true) (hl : k < fs.length)
    (kk : AJ X M y cc nL rt (pc + 3) L st (kput h a (.inr (ci, fs.set k v))) uc us) : AJ X M y cc nL rt pc L (v :: .ref a :: st) h uc us := by
  intro ok H locs ls hR hS hL
  obtain ⟨C, T, N, ty0, ref, hc, hin, hty, hnm, hk, hlink, hsame, hfin, hty0, hdc⟩ := lk
  obtain ⟨dom, hdm, hP, hD⟩ := id hR
  obtain ⟨q0, hq, he⟩ := kws_at (X := X) hdm ha
  have hts := ok.2.2.2.2.2.2.2.1
  exact va_putF ok.1 ok.2.1 hts hin ty0 hty hnm ok.2.2.2.2.2.2.1 ok.2.2.2.2.2.2.2.2.1 hP hD hS q0 he hc k hk (hts _ hlink) (lk_same hts hsame) hfin (ok.2.2.2.2.2.1.trans hi) (hdc rfl) (ty := ty) (by rw [hty k hk, hty0]) hn hf hl hd (fun H1 locs1 hP1 hD1 hS1 => kk ok H1 locs1 ls (rep_set hdm hD ha hq (e := .inr (ci, fs.set k v)) hP1 hD1) hS1 hL)
theorem in_of {i : Int32} {j n : Nat} (hi : i = nI j) (hj : j < n) (hb : j < 2147483648) : vp_in i n ∧ i.toNatClampNeg = j := by
  have h1 := nI_clamp hb
  subst hi
  refine ⟨fun z => ?_, h1⟩
  rcases z with z | z
  · exact nI_pos hb z
  · rw [h1] at z
    omega
theorem a_iaload {a n : Nat} {f : Nat → Int32} {i : Int32} (hd : decode cc pc = .ok (.iaload, 1)) (ha : h a = some (kI n f)) (j : Nat) (hi : i = nI j) (hj : j < n) (hb : j < 2147483648)
    (kk : AJ X M y cc nL rt (pc + 1) L (.int (f j) :: st) h uc us) : AJ X M y cc nL rt pc L (.int i :: .ref a :: st) h uc us := by
  intro ok H locs ls hR hS hL
  obtain ⟨dom, hdm, hP, hD⟩ := id hR
  obtain ⟨q0, hq, he⟩ := kws_at (X := X) hdm ha
  obtain ⟨h1, h2⟩ := in_of hi hj hb
  refine va_iald ok.1 ok.2.1 ok.2.2.2.2.2.2.2.2.1 hP q0 0 he (ktys_at (t := 0) rfl) h1 hd ?_
  rw [h2]
  exact kk ok H locs ls hR hS hL
theorem a_laload {a n : Nat} {f : Nat → Int64} {i : Int32} (hd : decode cc pc = .ok (.laload, 1)) (ha : h a = some (kL n f)) (j : Nat) (hi : i = nI j) (hj : j < n) (hb : j < 2147483648)
    (kk : AJ X M y cc nL rt (pc + 1) L (.long (f j) :: st) h uc us) : AJ X M y cc nL rt pc L (.int i :: .ref a :: st) h uc us := by
  intro ok H locs ls hR hS hL
  obtain ⟨dom, hdm, hP, hD⟩ := id hR
  obtain ⟨q0, hq, he⟩ := kws_at (X := X) hdm ha
  obtain ⟨h1, h2⟩ := in_of hi hj hb
  refine va_lald ok.1 ok.2.1 ok.2.2.2.2.2.2.2.2.1 hP q0 1 he (ktys_at (t := 1) rfl) h1 hd ?_
  rw [h2]
  exact kk ok H locs ls hR hS hL
theorem a_baload {a n : Nat} {f : Nat → Int32} {i : Int32} (hd : decode cc pc = .ok (.baload, 1)) (ha : h a = some (kB n f)) (j : Nat) (hi : i = nI j) (hj : j < n) (hb : j < 2147483648)
    (kk : AJ X M y cc nL rt (pc + 1) L (.int (f j) :: st) h uc us) : AJ X M y cc nL rt pc L (.int i :: .ref a :: st) h uc us := by
  intro ok H locs ls hR hS hL
  obtain ⟨dom, hdm, hP, hD⟩ := id hR
  obtain ⟨q0, hq, he⟩ := kws_at (X := X) hdm ha
  obtain ⟨h1, h2⟩ := in_of hi hj hb
  refine va_zald ok.1 ok.2.1 ok.2.2.2.2.2.2.2.2.1 hP q0 4 he (ktys_at (t := 4) rfl) h1 hd ?_
  rw [h2]
  exact kk ok H locs ls hR hS hL
theorem a_aaload {t a n : Nat} {C : String} {f : Nat → Option Nat} {i : Int32} (ht : ktyl[t]? = some (.object C)) (hd : decode cc pc = .ok (.aaload, 1)) (ha : h a = some (kQ t n f)) (j : Nat) (hi : i = nI j) (hj : j < n) (hb : j < 2147483648)
    (kk : AJ X M y cc nL rt (pc + 1) L (va_rf (f j) :: st) h uc us) : AJ X M y cc nL rt pc L (.int i :: .ref a :: st) h uc us := by
  intro ok H locs ls hR hS hL
  obtain ⟨dom, hdm, hP, hD⟩ := id hR
  obtain ⟨q0, hq, he⟩ := kws_at (X := X) hdm ha
  obtain ⟨h1, h2⟩ := in_of hi hj hb
  refine va_aldq ok.1 ok.2.1 ok.2.2.2.2.2.2.2.2.1 hP q0 t he (ktys_at ht) h1 hd ?_
  rw [h2]
  exact kk ok H locs ls hR hS hL
theorem a_iastore {a n : Nat} {f : Nat → Int32} {i x : Int32} (hd : decode cc pc = .ok (.iastore, 1)) (ha : h a = some (kI n f)) (j : Nat) (hi : i = nI j) (hj : j < n) (hb : j < 2147483648)
    (kk : AJ X M y cc nL rt (pc + 1) L st (kput h a (kI n (upd f j x))) uc us) : AJ X M y cc nL rt pc L (.int x :: .int i :: .ref a :: st) h uc us := by
  intro ok H locs ls hR hS hL
  obtain ⟨dom, hdm, hP, hD⟩ := id hR
  obtain ⟨q0, hq, he⟩ := kws_at (X := X) hdm ha
  obtain ⟨h1, h2⟩ := in_of hi hj hb
  refine va_iast ok.1 ok.2.1 ok.2.2.2.2.2.2.2.2.1 hP hD hS q0 0 he (ktys_at (t := 0) rfl) h1 hd (fun H1 locs1 hP1 hD1 hS1 => ?_)
  rw [h2] at hP1 hD1
  exact kk ok H1 locs1 ls (rep_set hdm hD ha hq (e := kI n (upd f j x)) hP1 hD1) hS1 hL
theorem a_lastore {a n : Nat} {f : Nat → Int64} {i : Int32} {x : Int64} (hd : decode cc pc = .ok (.lastore, 1)) (ha : h a = some (kL n f)) (j : Nat) (hi : i = nI j) (hj : j < n) (hb : j < 2147483648)
    (kk : AJ X M y cc nL rt (pc + 1) L st (kput h a (kL n (vp_updL f j x))) uc us) : AJ X M y cc nL rt pc L (.long x :: .int i :: .ref a :: st) h uc us := by
  intro ok H locs ls hR hS hL
  obtain ⟨dom, hdm, hP, hD⟩ := id hR
  obtain ⟨q0, hq, he⟩ := kws_at (X := X) hdm ha
  obtain ⟨h1, h2⟩ := in_of hi hj hb
  refine va_last ok.1 ok.2.1 ok.2.2.2.2.2.2.2.2.1 hP hD hS q0 1 he (ktys_at (t := 1) rfl) h1 hd (fun H1 locs1 hP1 hD1 hS1 => ?_)
  rw [h2] at hP1 hD1
  exact kk ok H1 locs1 ls (rep_set hdm hD ha hq (e := kL n (vp_updL f j x)) hP1 hD1) hS1 hL
theorem a_bastore {a n : Nat} {f : Nat → Int32} {i x : Int32} (hd : decode cc pc = .ok (.bastore, 1)) (ha : h a = some (kB n f)) (j : Nat) (hi : i = nI j) (hj : j < n) (hb : j < 2147483648) (hx : vp_nar .boolean x = x)
    (kk : AJ X M y cc nL rt (pc + 1) L st (kput h a (kB n (upd f j x))) uc us) : AJ X M y cc nL rt pc L (.int x :: .int i :: .ref a :: st) h uc us := by
  intro ok H locs ls hR hS hL
  obtain ⟨dom, hdm, hP, hD⟩ := id hR
  obtain ⟨q0, hq, he⟩ := kws_at (X := X) hdm ha
  obtain ⟨h1, h2⟩ := in_of hi hj hb
  refine va_zast ok.1 ok.2.1 ok.2.2.2.2.2.2.2.2.1 hP hD hS q0 4 he (ktys_at (t := 4) rfl) h1 hd (fun H1 locs1 hP1 hD1 hS1 => ?_)
  rw [h2, hx] at hP1 hD1
  exact kk ok H1 locs1 ls (rep_set hdm hD ha hq (e := kB n (upd f j x)) hP1 hD1) hS1 hL
/-- storing an object into a row of its own class -/
theorem a_aastoreE {t a n ci v : Nat} {r : vw_C} {vs : List Value} {f : Nat → Option Nat} {i : Int32} (ht : ktyl[t]? = some (.object r.1)) (hc : kcl[ci]? = some r) (hd : decode cc pc = .ok (.aastore, 1)) (ha : h a = some (kQ t n f)) (hv : h v = some (.inr (ci, vs))) (j : Nat) (hi : i = nI j) (hj : j < n) (hb : j < 2147483648)
    (kk : AJ X M y cc nL rt (pc + 1) L st (kput h a (kQ t n (va_up f j (some v)))) uc us) : AJ X M y cc nL rt pc L (.ref v :: .int i :: .ref a :: st) h uc us := by
  intro ok H locs ls hR hS hL
  obtain ⟨dom, hdm, hP, hD⟩ := id hR
  obtain ⟨q0, hq, he⟩ := kws_at (X := X) hdm ha
  obtain ⟨q1, -, hev⟩ := kws_at (X := X) hdm hv
  obtain ⟨h1, h2⟩ := in_of hi hj hb
  refine va_astq ok.1 ok.2.1 ok.2.2.2.2.2.2.2.2.1 hP hD hS q0 t q1 ci he (ktys_at ht) hev hc h1 hd (fun H1 locs1 hP1 hD1 hS1 => ?_)
  rw [h2] at hP1 hD1
  exact kk ok H1 locs1 ls (rep_set hdm hD ha hq (e := kQ t n (va_up f j (some v))) hP1 hD1) hS1 hL
theorem k_any {A : Nat → Prop} {s : State} {H : Heap} {dom : List Nat} {ci v : Nat} {r : vw_C} {vs : List Value} (hK : va_K X.2.1 kcl (ktys X) s) (hE : EFX X A s) (hP : va_P X.2.1 kcl (kws X h dom) H) (hdm : Dom h dom) (hc : kcl[ci]? = some r) (hv : h v = some (.inr (ci, vs))) : va_Any "java/lang/Object" s H v := by
  obtain ⟨q1, -, hev⟩ := kws_at (X := X) hdm hv
  refine va_rAny hK hP hev hc (fun comp c0 h1 h2 => ?_)
  have hw := hE.2.2.2.2.2.2.2.2.2.2.2.2.1 r (List.mem_of_getElem? hc)
  exact vb_asgC hw comp c0 h1 h2
theorem a_aastoreO {a n ci v : Nat} {r : vw_C} {vs : List Value} {f : Nat → Option Nat} {i : Int32} (hc : kcl[ci]? = some r) (hd : decode cc pc = .ok (.aastore, 1)) (ha : h a = some (kQ 2 n f)) (hv : h v = some (.inr (ci, vs))) (j : Nat) (hi : i = nI j) (hj : j < n) (hb : j < 2147483648)
    (kk : AJ X M y cc nL rt (pc + 1) L st (kput h a (kQ 2 n (va_up f j (some v)))) uc us) : AJ X M y cc nL rt pc L (.ref v :: .int i :: .ref a :: st) h uc us := by
  intro ok H locs ls hR hS hL
  obtain ⟨dom, hdm, hP, hD⟩ := id hR
  obtain ⟨q0, hq, he⟩ := kws_at (X := X) hdm ha
  obtain ⟨h1, h2⟩ := in_of hi hj hb
  refine va_astqM ok.1 ok.2.1 ok.2.2.2.2.2.2.2.2.1 hP hD hS q0 2 he (ktys_at (t := 2) rfl) (k_any ok.2.2.2.2.2.2.2.2.1 ok.2.2.2.2.2.2.2.2.2.1 hP hdm hc hv) h1 hd (fun H1 locs1 hP1 hD1 hS1 => ?_)
  rw [h2] at hP1 hD1
  exact kk ok H1 locs1 ls (rep_set hdm hD ha hq (e := kQ 2 n (va_up f j (some v))) hP1 hD1) hS1 hL
theorem a_alen {a t n : Nat} {x : vp_A} {ty : FieldType} (ht : ktyl[t]? = some ty) (hd : decode cc pc = .ok (.arraylength, 1)) (ha : h a = some (.inl (t, x))) (hn : x.1 = n)
    (kk : AJ X M y cc nL rt (pc + 1) L (.int (nI n) :: st) h uc us) : AJ X M y cc nL rt pc L (.ref a :: st) h uc us := by
  intro ok H locs ls hR hS hL
  obtain ⟨dom, hdm, hP, hD⟩ := id hR
  obtain ⟨q0, hq, he⟩ := kws_at (X := X) hdm ha
  exact va_alen ok.1 ok.2.1 ok.2.2.2.2.2.2.2.2.1 hP q0 t he (ktys_at ht) (v := nI n) (by rw [hn]; rfl) hd (kk ok H locs ls hR hS hL)
theorem ra_inj {s : State} {c1 c2 : ClassId} {ty : FieldType} (h1 : va_RA s c1 ty) (h2 : va_RA s c2 ty) : c1 = c2 := by
  cases ty with
  | object C =>
    obtain ⟨_, _, -, -, -, a⟩ := h1
    obtain ⟨_, _, -, -, -, b⟩ := h2
    exact Option.some.inj (a.symm.trans b)
  | _ => exact Option.some.inj (h1.symm.trans h2)
theorem k_cls {s : State} {cA : ClassId} {t : Nat} {ty : FieldType} (ht : ktyl[t]? = some ty) (hK : va_K X.2.1 kcl (ktys X ++ [(cA, ty)]) s) : cA = X.2.2.1 t := by
  have hl : t < (ktys X).length := (List.getElem?_eq_some_iff.mp (ktys_at (X := X) ht)).1
  have h1 := (hK.2 t (X.2.2.1 t, ty) (by rw [List.getElem?_append_left hl]; exact ktys_at ht)).2
  have h2 := (hK.2 (ktys X).length (cA, ty) (by rw [List.getElem?_append_right (Nat.le_refl _), Nat.sub_self]; rfl)).2
  exact ra_inj h2 h1
theorem rep_new {A : Nat → Prop} {H1 : Heap} {q : Nat} {e : kE} {dom : List Nat} (hdm : Dom h dom) (hq : h q = none) (hP1 : va_P X.2.1 kcl (kws X h dom ++ [(q, cE X e)]) H1) (hD1 : va_D A (kws X h dom ++ [(q, cE X e)])) : Rep X A (kput h q e) H1 :=
  ⟨dom ++ [q], hdm.new, by rw [← kws_app hdm hq]; exact hP1, by rw [← kws_app hdm hq]; exact hD1⟩
theorem cl_nI {x : Int32} {N : Nat} (hx : x = nI N) (hN : N ≤ 1000000) : ¬ x < 0 ∧ x.toNatClampNeg = N := by
  subst hx
  exact ⟨nI_pos (by omega), nI_clamp (by omega)⟩
theorem a_newI {x : Int32} {N : Nat} (hq : Cond.arrayClass .int ∈ BIG) (hd : decode cc pc = .ok (.newarray .int, 2)) (hx : x = nI N) (hN : N ≤ 1000000) (hc : uc + 1 ≤ (mR M).cells) (hs : us + N ≤ (mR M).slots)
    (kk : ∀ q : Nat, h q = none → AJ X M y cc nL rt (pc + 2) L (.ref q :: st) (kput h q (kI N (fun _ => 0))) (uc + 1) (us + N)) : AJ X M y cc nL rt pc L (.int x :: st) h uc us := by
  intro ok H locs ls hR hS hL
  obtain ⟨dom, hdm, hP, hD⟩ := id hR
  obtain ⟨h1, h2⟩ := cl_nI hx hN
  refine va_newa (atype := .int) (ty := .int) (N' := N) (a0 := (N, .inl (fun _ => 0))) ok.1 ok.2.1 (ok.2.2.2.2.2.2.2.1 _ hq) rfl ok.2.2.2.2.2.2.2.2.1 hP hD hS ok.2.2.2.2.2.2.2.2.2.2 (fun cA => rfl) h1 h2 (by show N * 4 ≤ 536870912; omega) hc hs hd (fun q cA H1 hK1 hP1 hD1 hS1 => ?_)
  have e := k_cls (t := 0) rfl hK1
  subst e
  have hqn : h q = none := hdm.fresh hD1
  exact kk q hqn ok H1 locs ls (rep_new hdm hqn (e := kI N (fun _ => 0)) hP1 hD1) hS1 hL
theorem a_newL {x : Int32} {N : Nat} (hq : Cond.arrayClass .long ∈ BIG) (hd : decode cc pc = .ok (.newarray .long, 2)) (hx : x = nI N) (hN : N ≤ 1000000) (hc : uc + 1 ≤ (mR M).cells) (hs : us + N ≤ (mR M).slots)
    (kk : ∀ q : Nat, h q = none → AJ X M y cc nL rt (pc + 2) L (.ref q :: st) (kput h q (kL N (fun _ => 0))) (uc + 1) (us + N)) : AJ X M y cc nL rt pc L (.int x :: st) h uc us := by
  intro ok H locs ls hR hS hL
  obtain ⟨dom, hdm, hP, hD⟩ := id hR
  obtain ⟨h1, h2⟩ := cl_nI hx hN
  refine va_newa (atype := .long) (ty := .long) (N' := N) (a0 := (N, .inr (.inl (fun _ => 0)))) ok.1 ok.2.1 (ok.2.2.2.2.2.2.2.1 _ hq) rfl ok.2.2.2.2.2.2.2.2.1 hP hD hS ok.2.2.2.2.2.2.2.2.2.2 (fun cA => rfl) h1 h2 (by show N * 8 ≤ 536870912; omega) hc hs hd (fun q cA H1 hK1 hP1 hD1 hS1 => ?_)
  have e := k_cls (t := 1) rfl hK1
  subst e
  have hqn : h q = none := hdm.fresh hD1
  exact kk q hqn ok H1 locs ls (rep_new hdm hqn (e := kL N (fun _ => 0)) hP1 hD1) hS1 hL
theorem a_newZ {x : Int32} {N : Nat} (hq : Cond.arrayClass .boolean ∈ BIG) (hd : decode cc pc = .ok (.newarray .boolean, 2)) (hx : x = nI N) (hN : N ≤ 1000000) (hc : uc + 1 ≤ (mR M).cells) (hs : us + N ≤ (mR M).slots)
    (kk : ∀ q : Nat, h q = none → AJ X M y cc nL rt (pc + 2) L (.ref q :: st) (kput h q (kB N (fun _ => 0))) (uc + 1) (us + N)) : AJ X M y cc nL rt pc L (.int x :: st) h uc us := by
  intro ok H locs ls hR hS hL
  obtain ⟨dom, hdm, hP, hD⟩ := id hR
  obtain ⟨h1, h2⟩ := cl_nI hx hN
  refine va_newa (atype := .boolean) (ty := .boolean) (N' := N) (a0 := (N, .inl (fun _ => 0))) ok.1 ok.2.1 (ok.2.2.2.2.2.2.2.1 _ hq) rfl ok.2.2.2.2.2.2.2.2.1 hP hD hS ok.2.2.2.2.2.2.2.2.2.2 (fun cA => rfl) h1 h2 (by show N * 1 ≤ 536870912; omega) hc hs hd (fun q cA H1 hK1 hP1 hD1 hS1 => ?_)
  have e := k_cls (t := 4) rfl hK1
  subst e
  have hqn : h q = none := hdm.fresh hD1
  exact kk q hqn ok H1 locs ls (rep_new hdm hqn (e := kB N (fun _ => 0)) hP1 hD1) hS1 hL
theorem a_newQ {x : Int32} {N t idx : Nat} {C : String} (ht : ktyl[t]? = some (.object C)) (hC : C = "FiveCards$Sheet" ∨ C = "java/lang/Object") (hq : Cond.classLink y.cls idx C ∈ BIG) (hd : decode cc pc = .ok (.anewarray idx, 3)) (hx : x = nI N) (hN : N ≤ 1000000) (hc : uc + 1 ≤ (mR M).cells) (hs : us + N ≤ (mR M).slots)
    (kk : ∀ q : Nat, h q = none → AJ X M y cc nL rt (pc + 3) L (.ref q :: st) (kput h q (kQ t N (fun _ => none))) (uc + 1) (us + N)) : AJ X M y cc nL rt pc L (.int x :: st) h uc us := by
  intro ok H locs ls hR hS hL
  obtain ⟨dom, hdm, hP, hD⟩ := id hR
  obtain ⟨h1, h2⟩ := cl_nI hx hN
  have hE := ok.2.2.2.2.2.2.2.2.2.1
  have hAO : va_AO C (mS M) := by
    rcases hC with rfl | rfl
    · exact hE.2.2.2.2.2.2.2.2.2.2.2.2.2.1
    · exact hE.2.2.2.2.2.2.2.2.2.2.2.2.2.2.1
  refine va_newq (C := C) (N' := N) ok.1 ok.2.1 ok.2.2.2.2.2.2.1 (ok.2.2.2.2.2.2.2.1 _ hq) hAO ok.2.2.2.2.2.2.2.2.1 hP hD hS ok.2.2.2.2.2.2.2.2.2.2 h1 h2 (by omega) hc hs hd (fun q cA H1 hK1 hP1 hD1 hS1 => ?_)
  have e := k_cls ht hK1
  subst e
  have hqn : h q = none := hdm.fresh hD1
  exact kk q hqn ok H1 locs ls (rep_new hdm hqn (e := kQ t N (fun _ => none)) hP1 hD1) hS1 hL
def LkN (own : String) (idx ci N : Nat) (fs : List Value) : Prop := ∃ (C : String) (T : u_T) (ty0 : Nat → FieldType), kcl[ci]? = some (C, T, N) ∧ (∀ w ∈ u_ws C T N, w ∈ BIG) ∧ (∀ k, k < N → parseFieldDescriptor (T k).2.2.1 = some (ty0 k)) ∧ Cond.classLink own idx C ∈ BIG ∧ Cond.instantiable C N ∈ BIG ∧ Cond.initialized C ∈ BIG ∧ ∀ j, j < N → defaultValue (ty0 j) = vp_V fs j
theorem a_new {idx ci N : Nat} {fs : List Value} (lk : LkN y.cls idx ci N fs) (hd : decode cc pc = .ok (.new idx, 3)) (hc : uc + 1 ≤ (mR M).cells) (hs : us + N ≤ (mR M).slots)
    (kk : ∀ q : Nat, h q = none → AJ X M y cc nL rt (pc + 3) L (.ref q :: st) (kput h q (kO ci fs)) (uc + 1) (us + N)) : AJ X M y cc nL rt pc L st h uc us := by
  intro ok H locs ls hR hS hL
  obtain ⟨dom, hdm, hP, hD⟩ := id hR
  obtain ⟨C, T, ty0, h1, hin, hty, h2, h3, h4, h5⟩ := lk
  have hts := ok.2.2.2.2.2.2.2.1
  refine va_new (ci := ci) ok.1 ok.2.1 hts hin ty0 hty ok.2.2.2.2.2.2.1 (hts _ h2) (hts _ h3) (hts _ h4) ok.2.2.2.2.2.2.2.2.1 hP hD hS ok.2.2.2.2.2.2.2.2.2.2 h1 h5 hc hs hd (fun q H1 hP1 hD1 hS1 => ?_)
  have hqn : h q = none := hdm.fresh hD1
  exact kk q hqn ok H1 locs ls (rep_new hdm hqn (e := kO ci fs) hP1 hD1) hS1 hL
theorem a_cast {idx ci a : Nat} {C : String} {fs : List Value} (hq : Cond.classLink y.cls idx C ∈ BIG) (hc : (kcl[ci]?).map (fun q => q.1) = some C) (ha : h a = some (.inr (ci, fs))) (hd : decode cc pc = .ok (.checkcast idx, 3))
    (kk : AJ X M y cc nL rt (pc + 3) L (.ref a :: st) h uc us) : AJ X M y cc nL rt pc L (.ref a :: st) h uc us := by
  intro ok H locs ls hR hS hL
  obtain ⟨dom, hdm, hP, hD⟩ := id hR
  obtain ⟨q0, -, he⟩ := kws_at (X := X) hdm ha
  cases hk : kcl[ci]? with
  | none => rw [hk] at hc; cases hc
  | some r =>
    rw [hk] at hc
    cases hc
    exact va_castE ok.1 ok.2.1 ok.2.2.2.2.2.2.1 (ok.2.2.2.2.2.2.2.1 _ hq) (va_recv ok.2.2.2.2.2.2.2.2.1 hP hk he) hd (kk ok H locs ls hR hS hL)
theorem a_castN {idx : Nat} (hd : decode cc pc = .ok (.checkcast idx, 3)) (kk : AJ X M y cc nL rt (pc + 3) L (.null :: st) h uc us) : AJ X M y cc nL rt pc L (.null :: st) h uc us :=
  fun ok H locs ls hR hS hL => lv_castN ok.1 ok.2.1 hd (kk ok H locs ls hR hS hL)
/-- the name of an array class -/
theorem k_nm {s : State} {t : Nat} {ty : FieldType} {nm : String} (hK : va_K X.2.1 kcl (ktys X) s) (ht : ktyl[t]? = some ty) (hn : "[" ++ ty.toString = nm) : s.vm.findClass nm = some (X.2.2.1 t) := by
  have h2 := (hK.2 t (X.2.2.1 t, ty) (ktys_at ht)).2
  rw [← hn]
  cases ty with
  | object C =>
    obtain ⟨_, _, -, -, -, b⟩ := h2
    exact b
  | _ => exact h2
theorem a_castA {idx t a : Nat} {nm : String} {ty : FieldType} {x : vp_A} (hq : Cond.classLink y.cls idx nm ∈ BIG) (ht : ktyl[t]? = some ty) (hn : "[" ++ ty.toString = nm) (ha : h a = some (.inl (t, x))) (hd : decode cc pc = .ok (.checkcast idx, 3))
    (kk : AJ X M y cc nL rt (pc + 3) L (.ref a :: st) h uc us) : AJ X M y cc nL rt pc L (.ref a :: st) h uc us := by
  intro ok H locs ls hR hS hL
  obtain ⟨dom, hdm, hP, hD⟩ := id hR
  obtain ⟨q0, -, he⟩ := kws_at (X := X) hdm ha
  exact va_castA ok.1 ok.2.1 ok.2.2.2.2.2.2.1 (ok.2.2.2.2.2.2.2.1 _ hq) hP q0 he (k_nm ok.2.2.2.2.2.2.2.2.1 ht hn) hd (kk ok H locs ls hR hS hL)
theorem a_ret_i {d kc ks : Nat} {Post : Option Value → AH → Prop} {v : Int32} {ty : FieldType} (hM : MSp X M d kc ks Post) (hr : rt = some ty) (hn : narrow ty (.int v) = .int v) (hd : decode cc pc = .ok (.ireturn, 1)) (hc : uc ≤ kc) (hs : us ≤ ks) (hp : Post (some (.int v)) h) : AJ X M y cc nL rt pc L [.int v] h uc us := by
  intro ok H locs ls hR hS hL
  refine W.widen hc hs ?_
  rw [hM.2]
  exact W.zret ok.1 ok.2.1 (ok.2.2.2.1.trans hr) hn (fun t ht hW => ⟨⟨_, h, rfl, hp, by rw [ht]; exact hR⟩, hS.F ht⟩) hS.2.2 hd ok.2.2.2.2.1
theorem a_ret_l {d kc ks : Nat} {Post : Option Value → AH → Prop} {v : Int64} (hM : MSp X M d kc ks Post) (hr : rt = some .long) (hd : decode cc pc = .ok (.lreturn, 1)) (hc : uc ≤ kc) (hs : us ≤ ks) (hp : Post (some (.long v)) h) : AJ X M y cc nL rt pc L [.long v] h uc us := by
  intro ok H locs ls hR hS hL
  refine W.widen hc hs ?_
  rw [hM.2]
  exact W.lret ok.1 ok.2.1 (ok.2.2.2.1.trans hr) (fun t ht hW => ⟨⟨_, h, rfl, hp, by rw [ht]; exact hR⟩, hS.F ht⟩) hS.2.2 hd ok.2.2.2.2.1
theorem a_ret_v {d kc ks : Nat} {Post : Option Value → AH → Prop} (hM : MSp X M d kc ks Post) (hr : rt = none) (hd : decode cc pc = .ok (.return_, 1)) (hc : uc ≤ kc) (hs : us ≤ ks) (hp : Post none h) : AJ X M y cc nL rt pc L [] h uc us := by
  intro ok H locs ls hR hS hL
  refine W.widen hc hs ?_
  rw [hM.2]
  exact W.vret ok.1 ok.2.1 (ok.2.2.2.1.trans hr) (fun t ht hW => ⟨⟨_, h, rfl, hp, by rw [ht]; exact hR⟩, hS.F ht⟩) hS.2.2 hd ok.2.2.2.2.1
theorem a_ret_a {d kc ks : Nat} {Post : Option Value → AH → Prop} {v : Value} {ty : FieldType} (hM : MSp X M d kc ks Post) (hr : rt = some ty) (hrt : (∃ n, ty = .object n) ∨ ∃ t, ty = .array t) (hv : v = .null ∨ ∃ a, v = .ref a) (hd : decode cc pc = .ok (.areturn, 1)) (hc : uc ≤ kc) (hs : us ≤ ks) (hp : Post (some v) h) : AJ X M y cc nL rt pc L [v] h uc us := by
  intro ok H locs ls hR hS hL
  refine W.widen hc hs ?_
  rw [hM.2]
  exact W.aret ok.1 ok.2.1 (ok.2.2.2.1.trans hr) hrt hv (fun t ht hW => ⟨⟨_, h, rfl, hp, by rw [ht]; exact hR⟩, hS.F ht⟩) hS.2.2 hd ok.2.2.2.2.1
theorem fb_blind {dom : List Nat} {sz : Nat} {args : List Value} : FrameBlind (va_Pc args (fB X h dom sz)) := by
  intro a U g mk q
  obtain ⟨q0, q1, qP, qK, qD, qE⟩ := q
  exact ⟨q0, q1, qP, va_K.moved (u := U) (U := U.calling g mk a) (Vm.Alike.refl U.vm) qK, qD, efx_move (u := U) (U := U.calling g mk a) qE (State.WarmedH.refl U) (fun _ _ _ => rfl) (fun _ z => z)⟩
theorem a_in {dom : List Nat} {H : Heap} {locs : List Loc} (ok : MOk X M y cc nL rt) (hD : va_D (mA M) (kws X h dom)) (hS : va_S (mA M) (mS M).heap H locs) : ∀ q, va_A (kws X h dom) H.size q → mA M q := by
  intro q hq
  rcases hq with ⟨k, e, hk⟩ | hq
  · exact hD.2 k _ hk
  · exact ok.2.2.2.2.2.2.2.2.2.2 q (Nat.le_trans hS.1 hq)
theorem fb_of {dom : List Nat} {H : Heap} {locs : List Loc} (ok : MOk X M y cc nL rt) (hP : va_P X.2.1 kcl (kws X h dom) H) (hD : va_D (mA M) (kws X h dom)) (hS : va_S (mA M) (mS M).heap H locs) (U : State) (hU : U.heap = H) (hW : (mS M).WarmedH U.vm) : fB X h dom H.size U :=
  ⟨by rw [hU], by rw [hU]; exact hP, va_K.moved hW.alike ok.2.2.2.2.2.2.2.2.1, hD.weaken (fun _ _ _ _ => trivial), efx_move ok.2.2.2.2.2.2.2.2.2.1 hW (fun a h1 h2 => by rw [hU]; exact hS.2.1 a h1 h2) (a_in ok hD hS)⟩
theorem call_fin {Post : Option Value → AH → Prop} {stk : List Value} {kc' ks' : Nat} {dom : List Nat} {H : Heap} {locs : List Loc} {ls : Array Slot} (ok : MOk X M y cc nL rt) (hD : va_D (mA M) (kws X h dom)) (hS : va_S (mA M) (mS M).heap H locs) (hL : lv_has ls nL L)
    (hr : va_Run M.1 X.1 (mE M) (mR M) (mS M) (mI M) (mArgs M) (mBelow M) (mMeth M) (mC M) H locs uc us kc' ks' (F0 (mI M) pc ls stk) st (fQ X (va_A (kws X h dom) H.size) Post) (va_A (kws X h dom) H.size))
    (kk : ∀ (r : Option Value) (h' : AH), Post r h' → AJ X M y cc nL rt (pc + 3) L (r.toList ++ st) h' (uc + kc') (us + ks')) : WM X M H locs uc us (F0 (mI M) pc ls stk) := by
  have hA1 := a_in ok hD hS
  intro T hT XX
  obtain ⟨v, st₀, t, T', Lc, h0, X', hLc, e1, e2, ⟨⟨r, h', hv, hp, hR'⟩, hz, hk⟩, hst⟩ := hr T hT XX
  cases hv
  rw [h0] at hz hk
  obtain ⟨dom', hdm', hP', hD'⟩ := hR'
  obtain ⟨t2, a1, b1⟩ := kk _ h' hp ok T'.heap (locs ++ Lc) ls ⟨dom', hdm', by rw [e1]; exact hP', hD'.weaken (fun _ _ _ z => hA1 _ z)⟩
    ⟨Nat.le_trans hS.1 (by rw [e1]; exact hz), fun q h1 h2 => by rw [e1, hk q (Nat.lt_of_lt_of_le h1 hS.1) (fun z => h2 (hA1 q z))]; exact hS.2.1 q h1 h2, fun q hq => by
      rcases List.mem_append.mp hq with h | h
      · exact hS.2.2 q h
      · exact hA1 _ (hLc q h)⟩ hL T' rfl X'
  exact ⟨t2, hst t2 a1, b1⟩
theorem big_good {w : Cond} (hw : w ∈ BIG) : w ∈ BIG ∧ ((w.onTables && w.keeps) = true ∨ ∃ ty, w = .arrayClass ty) := ⟨hw, good_of_word (List.mem_filter.mp hw).2⟩
theorem big_code {y' : MethodName} {cc' : ByteArray} {nL' : Nat} {rt' : Option FieldType} (hq : Cond.code y' cc' nL' rt' ∈ BIG) : GoodIn BIG (Cond.code y' cc' nL' rt' :: BIG) := by
  intro w hw
  rcases List.mem_cons.mp hw with rfl | hw
  · exact big_good hq
  · exact big_good hw
def notMH (y : MethodName) : Prop := y.cls ≠ "java/lang/invoke/MethodHandle" ∧ y.cls ≠ "java/lang/invoke/VarHandle"
def LkV (own : String) (idx : Nat) (y : MethodName) (cc : ByteArray) (nL : Nat) (rt : Option FieldType) (n : Nat) : Prop := Cond.methodLink own idx y ∈ BIG ∧ Cond.instanceMethod y ∈ BIG ∧ Cond.selects y.cls y y ∈ BIG ∧ Cond.initialized y.cls ∈ BIG ∧ Cond.code y cc nL rt ∈ BIG ∧ notMH y ∧ (parseMethodDescriptor y.desc).map (fun d => d.parameters.length) = some n
def LkS (own : String) (idx : Nat) (y : MethodName) (cc : ByteArray) (nL : Nat) (rt : Option FieldType) (n : Nat) : Prop := (Cond.methodLink own idx y ∈ BIG ∨ (own, idx, y) ∈ k_nests) ∧ Cond.static y ∈ BIG ∧ Cond.initialized y.cls ∈ BIG ∧ Cond.code y cc nL rt ∈ BIG ∧ notMH y ∧ (parseMethodDescriptor y.desc).map (fun d => d.parameters.length) = some n
def LkI (own : String) (idx : Nat) (y : MethodName) (cc : ByteArray) (nL : Nat) (n : Nat) : Prop := (Cond.methodLink own idx y ∈ BIG ∨ (own, idx, y) ∈ k_nests) ∧ Cond.instanceMethod y ∈ BIG ∧ Cond.initialized y.cls ∈ BIG ∧ Cond.code y cc nL none ∈ BIG ∧ y.name = "<init>" ∧ notMH y ∧ (parseMethodDescriptor y.desc).map (fun d => d.parameters.length) = some n
def KRecv (X : KX) (M : MX) (h : AH) (C : String) (b : Nat) : Prop := va_K X.2.1 kcl (ktys X) (mS M) → EFX X (mA M) (mS M) → ∀ (H : Heap) (locs : List Loc), Rep X (mA M) h H → va_S (mA M) (mS M).heap H locs → ∃ cellB : Cell, H[b]? = some cellB ∧ cellB.vm.isStatics = false ∧ (mS M).vm.findClass C = some cellB.cls
theorem krecv_of {b ci : Nat} {fs : List Value} {C : String} (hc : (kcl[ci]?).map (fun q => q.1) = some C) (hb : h b = some (.inr (ci, fs))) : KRecv X M h C b := by
  intro hK _ H locs hR _
  obtain ⟨dom, hdm, hP, hD⟩ := hR
  obtain ⟨q0, -, he⟩ := kws_at (X := X) hdm hb
  cases hk : kcl[ci]? with
  | none => rw [hk] at hc; cases hc
  | some r =>
    rw [hk] at hc
    cases hc
    exact va_recv hK hP hk he
theorem krecv_str {i : Nat} (hi : i < 13) : KRecv X M h "java/lang/String" (X.2.2.2.1 (10 + i)) := by
  intro _ hE H locs _ hS
  exact vk_recv (adK := fun i => X.2.2.2.1 (10 + i)) hE.2.2.2.2.2.2.2.2.1 hi hS
def Rok (M : MX) (d' nL' c s : Nat) : Prop := d' + 1 ≤ (mR M).frames ∧ 8 + (nL' + 11) + 40 * d' ≤ (mR M).locals ∧ c ≤ (mR M).cells ∧ s ≤ (mR M).slots
theorem rok_of {d kc ks d' nL' c s : Nat} {Post : Option Value → AH → Prop} (hM : MSp X M d kc ks Post) (h1 : d' + 1 ≤ d) (h2 : nL' ≤ 21) (h3 : c ≤ kc) (h4 : s ≤ ks) : Rok M d' nL' c s := by
  unfold Rok
  rw [hM.1]
  exact ⟨h1, by show 8 + (nL' + 11) + 40 * d' ≤ 40 * d; omega, h3, h4⟩
theorem a_callV {idx b n d' kc' ks' : Nat} {y' : MethodName} {cc' : ByteArray} {nL' : Nat} {rt' : Option FieldType} {As stk : List Value} {Post : Option Value → AH → Prop} (lk : LkV y.cls idx y' cc' nL' rt' n) (hd : decode cc pc = .ok (.invokevirtual idx, 3)) (hf : Fn X d' kc' ks' y' cc' nL' rt' (.ref b :: As) h Post) (hst : stk = As.reverse ++ .ref b :: st) (hn : As.length = n) (hb : KRecv X M h y'.cls b) (hr : Rok M d' nL' (uc + kc') (us + ks')) (hw : (st.map fun v => v.category).sum ≤ 8)
    (kk : ∀ (r : Option Value) (h' : AH), Post r h' → AJ X M y cc nL rt (pc + 3) L (r.toList ++ st) h' (uc + kc') (us + ks')) : AJ X M y cc nL rt pc L stk h uc us := by
  intro ok H locs ls hR hS hL
  obtain ⟨dom, hdm, hP, hD⟩ := id hR
  obtain ⟨l1, l2, l3, l4, l5, l6, l7⟩ := lk
  have hts := ok.2.2.2.2.2.2.2.1
  have hG : GoodIn BIG (wsV y.cls idx y'.cls y' (Cond.code y' cc' nL' rt' :: BIG)) := by
    intro w hw
    rcases List.mem_append.mp hw with hw | hw
    · simp only [List.mem_cons, List.not_mem_nil, or_false] at hw
      rcases hw with rfl | rfl | rfl | rfl
      · exact big_good l1
      · exact big_good l2
      · exact big_good l3
      · exact big_good l4
    · exact big_code l5 w hw
  exact call_fin ok hD hS hL (va_runV (As := As) (rest := st) (Ts := BIG) ⟨ok.1, ok.2.1, ok.2.2.1, ok.2.2.2.2.2.2.1, hts⟩ (hf dom H.size hdm) (cwV n hts hG rfl rfl rfl ⟨rfl, l6.1, l6.2, l7⟩ ⟨hr.1, hr.2.1⟩)
    ⟨fb_blind, hb ok.2.2.2.2.2.2.2.2.1 ok.2.2.2.2.2.2.2.2.2.1 H locs hR hS, fun U hU hW => ⟨rfl, fb_of ok hP hD hS U hU hW⟩⟩ rfl hn hL.1 hst (lv_room hw) hd ⟨hr.2.2.1, hr.2.2.2⟩) kk
theorem a_callS {idx n d' kc' ks' : Nat} {y' : MethodName} {cc' : ByteArray} {nL' : Nat} {rt' : Option FieldType} {As stk : List Value} {Post : Option Value → AH → Prop} (lk : LkS y.cls idx y' cc' nL' rt' n) (hd : decode cc pc = .ok (.invokestatic idx, 3)) (hf : Fn X d' kc' ks' y' cc' nL' rt' As h Post) (hst : stk = As.reverse ++ st) (hn : As.length = n) (hr : Rok M d' nL' (uc + kc') (us + ks')) (hw : (st.map fun v => v.category).sum ≤ 8)
    (kk : ∀ (r : Option Value) (h' : AH), Post r h' → AJ X M y cc nL rt (pc + 3) L (r.toList ++ st) h' (uc + kc') (us + ks')) : AJ X M y cc nL rt pc L stk h uc us := by
  intro ok H locs ls hR hS hL
  obtain ⟨dom, hdm, hP, hD⟩ := id hR
  obtain ⟨l1, l2, l4, l5, l6, l7⟩ := lk
  have hts := ok.2.2.2.2.2.2.2.1
  rcases l1 with l1 | l1
  · have hG : GoodIn BIG (va_wsS y.cls idx y' (Cond.code y' cc' nL' rt' :: BIG)) := by
      intro w hw
      rcases List.mem_append.mp hw with hw | hw
      · simp only [List.mem_cons, List.not_mem_nil, or_false] at hw
        rcases hw with rfl | rfl | rfl
        · exact big_good l1
        · exact big_good l2
        · exact big_good l4
      · exact big_code l5 w hw
    exact call_fin ok hD hS hL (va_runS (As := As) (rest := st) (Ts := BIG) ⟨ok.1, ok.2.1, ok.2.2.1, ok.2.2.2.2.2.2.1, hts⟩ (hf dom H.size hdm) (va_cwS n hts hG rfl rfl rfl ⟨l6.1, l6.2, l7⟩ ⟨hr.1, hr.2.1⟩)
      ⟨fb_blind, fun U hU hW => ⟨rfl, fb_of ok hP hD hS U hU hW⟩⟩ rfl hn hL.1 hst (lv_room hw) hd ⟨hr.2.2.1, hr.2.2.2⟩) kk
  · have hnw := ok.2.2.2.2.2.2.2.2.2.1.2.2.2.2.2.2.2.2.2.2.1 _ l1
    exact call_fin ok hD hS hL (va_runSN (As := As) (rest := st) (Ts := BIG) ⟨ok.1, ok.2.1, ok.2.2.1, ok.2.2.2.2.2.2.1, hts⟩ (hf dom H.size hdm) ⟨va_cnB n hts (big_code l5) rfl rfl rfl hnw (hts _ l4) ⟨l6.1, l6.2, l7⟩ ⟨hr.1, hr.2.1⟩, hts _ l2, trivial⟩
      ⟨fb_blind, fun U hU hW => ⟨rfl, fb_of ok hP hD hS U hU hW⟩⟩ rfl hn hL.1 hst (lv_room hw) hd ⟨hr.2.2.1, hr.2.2.2⟩) kk
theorem a_callI {idx b n d' kc' ks' : Nat} {y' : MethodName} {cc' : ByteArray} {nL' : Nat} {As stk : List Value} {Post : Option Value → AH → Prop} (lk : LkI y.cls idx y' cc' nL' n) (hd : decode cc pc = .ok (.invokespecial idx, 3)) (hf : Fn X d' kc' ks' y' cc' nL' none (.ref b :: As) h Post) (hst : stk = As.reverse ++ .ref b :: st) (hn : As.length = n) (hr : Rok M d' nL' (uc + kc') (us + ks')) (hw : (st.map fun v => v.category).sum ≤ 8)
    (kk : ∀ (r : Option Value) (h' : AH), Post r h' → AJ X M y cc nL rt (pc + 3) L (r.toList ++ st) h' (uc + kc') (us + ks')) : AJ X M y cc nL rt pc L stk h uc us := by
  intro ok H locs ls hR hS hL
  obtain ⟨dom, hdm, hP, hD⟩ := id hR
  obtain ⟨l1, l2, l4, l5, l0, l6, l7⟩ := lk
  have hts := ok.2.2.2.2.2.2.2.1
  rcases l1 with l1 | l1
  · exact call_fin ok hD hS hL (va_runI (As := As) (rest := st) (Ts := BIG) ⟨ok.1, ok.2.1, ok.2.2.1, ok.2.2.2.2.2.2.1, hts⟩ (hf dom H.size hdm) (cwI n hts (big_code l5) rfl rfl rfl (hts _ l4) (hts _ l1) (hts _ l2) l0 ⟨l6.1, l6.2, l7⟩ ⟨hr.1, hr.2.1⟩)
      ⟨fb_blind, fun U hU hW => ⟨rfl, fb_of ok hP hD hS U hU hW⟩⟩ rfl hn hL.1 hst (lv_room hw) hd ⟨hr.2.2.1, hr.2.2.2⟩) kk
  · have hnw := ok.2.2.2.2.2.2.2.2.2.1.2.2.2.2.2.2.2.2.2.2.1 _ l1
    exact call_fin ok hD hS hL (va_runIN (As := As) (rest := st) (Ts := BIG) ⟨ok.1, ok.2.1, ok.2.2.1, ok.2.2.2.2.2.2.1, hts⟩ (hf dom H.size hdm) ⟨va_cnB n hts (big_code l5) rfl rfl rfl hnw (hts _ l4) ⟨l6.1, l6.2, l7⟩ ⟨hr.1, hr.2.1⟩, l0, hts _ l2⟩
      ⟨fb_blind, fun U hU hW => ⟨rfl, fb_of ok hP hD hS U hU hW⟩⟩ rfl hn hL.1 hst (lv_room hw) hd ⟨hr.2.2.1, hr.2.2.2⟩) kk
theorem a_objInit {idx b : Nat} (hq : Cond.methodLink y.cls idx objectInit ∈ BIG) (hq2 : Cond.instanceMethod objectInit ∈ BIG) (hq3 : Cond.code objectInit ⟨#[0xb1]⟩ 1 none ∈ BIG) (hd : decode cc pc = .ok (.invokespecial idx, 3)) (h1 : 1 ≤ (mR M).frames) (h2 : (st.map fun v => v.category).sum + 12 ≤ (mR M).locals)
    (kk : AJ X M y cc nL rt (pc + 3) L st h uc us) : AJ X M y cc nL rt pc L (.ref b :: st) h uc us := by
  intro ok H locs ls hR hS hL
  have hts := ok.2.2.2.2.2.2.2.1
  exact W.objInit ok.1 ok.2.1 ok.2.2.2.2.2.2.1 (hts _ hq) (hts _ hq2) (hts _ hq3) rfl (by rw [ok.2.2.1]; exact hL.1) rfl hd h1 (by show 2 * 0 + _ + 12 ≤ _; omega) (kk ok H locs ls hR hS hL)
end LAY

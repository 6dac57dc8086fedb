/-! MORE ROWS: statics, tables, texts, copies -/
theorem ks_Jx4a65c_39 : Cond.fieldLink RJx4a65c 39 "java/util/ArrayList" "DEFAULTCAPACITY_EMPTY_ELEMENTDATA" "[Ljava/lang/Object;" ∈ BIG := big_of 46 (by decide +kernel) rfl
theorem ks_J0_38 : Cond.fieldLink RJ0 38 "java/lang/String" "COMPACT_STRINGS" "Z" ∈ BIG := big_of 170 (by decide +kernel) rfl
theorem ks_J0_1053 : Cond.fieldLink RJ0 1053 "jdk/internal/util/Preconditions" "SIOOBE_FORMATTER" "Ljava/util/function/BiFunction;" ∈ BIG := big_of 186 (by decide +kernel) rfl
theorem kcl_J7_316 : Cond.methodLink RJ7 316 ⟨"[I", "clone", "()Ljava/lang/Object;"⟩ ∈ BIG := big_of 326 (by decide +kernel) rfl
theorem kcp_J7_150 : Cond.methodLink RJ7 150 arraycopyName ∈ BIG := big_of 336 (by decide +kernel) rfl
theorem kcl_X4_61 : Cond.methodLink RX4 61 ⟨"[I", "clone", "()Ljava/lang/Object;"⟩ ∈ BIG := big_of 339 (by decide +kernel) rfl
theorem kcp_X5_55 : Cond.methodLink RX5 55 arraycopyName ∈ BIG := big_of 595 (by decide +kernel) rfl
theorem ks_X1_25 : Cond.fieldLink RX1 25 "FiveCards$Leak" "WEIGHTS" "[I" ∈ BIG := big_of 748 (by decide +kernel) rfl
theorem kcp_X11_295 : Cond.methodLink RX11 295 arraycopyName ∈ BIG := big_of 918 (by decide +kernel) rfl
theorem ks_X1_21 : Cond.fieldLink RX1 21 "FiveCards$Leak" "UNDER" "[I" ∈ BIG := big_of 932 (by decide +kernel) rfl
theorem ks_J0_9 : Cond.fieldLink RJ0 9 "java/lang/String" "value" "[B" ∈ BIG := big_of 1490 (by decide +kernel) rfl
theorem ks_J0_15 : Cond.fieldLink RJ0 15 "java/lang/String" "coder" "B" ∈ BIG := big_of 1491 (by decide +kernel) rfl
theorem kac_n : Cond.native arraycopyName ∈ BIG := big_of 338 (by decide +kernel) rfl
theorem kac_s : Cond.static arraycopyName ∈ BIG := big_of 337 (by decide +kernel) rfl
theorem kac_i : Cond.initialized "java/lang/System" ∈ BIG := big_of 17 (by decide +kernel) rfl
theorem kcn_s : Cond.sameMethod "[I" "java/lang/Object" "clone" "()Ljava/lang/Object;" ∈ BIG := big_of 327 (by decide +kernel) rfl
theorem kcn_n : Cond.native ⟨"java/lang/Object", "clone", "()Ljava/lang/Object;"⟩ ∈ BIG := big_of 328 (by decide +kernel) rfl
theorem kcn_i : Cond.instanceMethod ⟨"java/lang/Object", "clone", "()Ljava/lang/Object;"⟩ ∈ BIG := big_of 329 (by decide +kernel) rfl
theorem kcn_l : Cond.selects "[I" ⟨"[I", "clone", "()Ljava/lang/Object;"⟩ ⟨"java/lang/Object", "clone", "()Ljava/lang/Object;"⟩ ∈ BIG := big_of 330 (by decide +kernel) rfl
theorem kgc_l : Cond.methodLink RJ7 86 ⟨"java/lang/Object", "getClass", "()Ljava/lang/Class;"⟩ ∈ BIG := big_of 383 (by decide +kernel) rfl
theorem kgc_s : Cond.selects "[Ljava/lang/Object;" ⟨"java/lang/Object", "getClass", "()Ljava/lang/Class;"⟩ ⟨"java/lang/Object", "getClass", "()Ljava/lang/Class;"⟩ ∈ BIG := big_of 1482 (by decide +kernel) rfl
theorem kgc_i : Cond.instanceMethod ⟨"java/lang/Object", "getClass", "()Ljava/lang/Class;"⟩ ∈ BIG := big_of 384 (by decide +kernel) rfl
theorem kgc_n : Cond.native ⟨"java/lang/Object", "getClass", "()Ljava/lang/Class;"⟩ ∈ BIG := big_of 400 (by decide +kernel) rfl
section LAY2
variable {X : KX} {M : MX} {y : MethodName} {cc : ByteArray} {nL : Nat} {rt : Option FieldType} {pc : Nat} {L : List (Nat × Value)} {st : List Value} {h : AH} {uc us : Nat}
theorem a_gets {idx : Nat} {C n d : String} {v : Value} (hz : ∀ A U, EFX X A U → va_Z C n d v A U U.heap) (hq : Cond.fieldLink y.cls idx C n d ∈ BIG) (hd : decode cc pc = .ok (.getstatic idx, 3)) (kk : AJ X M y cc nL rt (pc + 3) L (v :: st) h uc us) : AJ X M y cc nL rt pc L st h uc us := by
  intro ok H locs ls hR hS hL
  exact va_gets ok.1 ok.2.1 (hz _ _ ok.2.2.2.2.2.2.2.2.2.1) hS ok.2.2.2.2.2.2.1 (ok.2.2.2.2.2.2.2.1 _ hq) (fun x hx => hx) hd (kk ok H locs ls hR hS hL)
theorem a_tiload {t N : Nat} {g : Nat → Int32} {i : Int32} (hz : ∀ A U, EFX X A U → va_T .int t N (fun j => .int (g j)) A U U.heap) (hd : decode cc pc = .ok (.iaload, 1)) (j : Nat) (hi : i = nI j) (hj : j < N) (hb : j < 2147483648) (kk : AJ X M y cc nL rt (pc + 1) L (.int (g j) :: st) h uc us) : AJ X M y cc nL rt pc L (.int i :: .ref t :: st) h uc us := by
  intro ok H locs ls hR hS hL
  obtain ⟨h1, h2⟩ := in_of hi hj hb
  exact va_ti ok.1 ok.2.1 (hz _ _ ok.2.2.2.2.2.2.2.2.2.1) hS h1 (by rw [h2]) hd (kk ok H locs ls hR hS hL)
theorem a_tbload {t N : Nat} {g : Nat → Int32} {i : Int32} (hz : ∀ A U, EFX X A U → va_T .byte t N (fun j => .int (g j)) A U U.heap) (hd : decode cc pc = .ok (.baload, 1)) (j : Nat) (hi : i = nI j) (hj : j < N) (hb : j < 2147483648) (kk : AJ X M y cc nL rt (pc + 1) L (.int (g j) :: st) h uc us) : AJ X M y cc nL rt pc L (.int i :: .ref t :: st) h uc us := by
  intro ok H locs ls hR hS hL
  obtain ⟨h1, h2⟩ := in_of hi hj hb
  exact va_tb ok.1 ok.2.1 (hz _ _ ok.2.2.2.2.2.2.2.2.2.1) hS h1 (by rw [h2]) hd (kk ok H locs ls hR hS hL)
theorem a_tlen {t N : Nat} {ty : FieldType} {g : Nat → Value} (hz : ∀ A U, EFX X A U → va_T ty t N g A U U.heap) (hd : decode cc pc = .ok (.arraylength, 1)) (kk : AJ X M y cc nL rt (pc + 1) L (.int (nI N) :: st) h uc us) : AJ X M y cc nL rt pc L (.ref t :: st) h uc us := by
  intro ok H locs ls hR hS hL
  exact va_tlen ok.1 ok.2.1 (hz _ _ ok.2.2.2.2.2.2.2.2.2.1) hS (v := nI N) rfl hd (kk ok H locs ls hR hS hL)
theorem a_getS {idx q : Nat} {C n d : String} {v : Value} (hz : ∀ A U, EFX X A U → va_OF C n d v q A U U.heap) (hq : Cond.fieldLink y.cls idx C n d ∈ BIG) (hd : decode cc pc = .ok (.getfield idx, 3)) (kk : AJ X M y cc nL rt (pc + 3) L (v :: st) h uc us) : AJ X M y cc nL rt pc L (.ref q :: st) h uc us := by
  intro ok H locs ls hR hS hL
  exact vk_getf ok.1 ok.2.1 (hz _ _ ok.2.2.2.2.2.2.2.2.2.1) hS ok.2.2.2.2.2.2.1 (ok.2.2.2.2.2.2.2.1 _ hq) (fun x hx => hx) hd (kk ok H locs ls hR hS hL)
theorem a_acmp_eq {a b : Nat} {off : Int} {tgt : Nat} (hd : decode cc pc = .ok (.if_acmp .eq off, 3)) (ht : (pc : Int) + off = (tgt : Int)) (kt : a = b → AJ X M y cc nL rt tgt L st h uc us) (kf : ¬ a = b → AJ X M y cc nL rt (pc + 3) L st h uc us) : AJ X M y cc nL rt pc L (.ref b :: .ref a :: st) h uc us := fun ok H locs ls hR hS hL =>
  lv_acmp_eq (rx := some a) (ry := some b) ok.1 ok.2.1 hd ht (fun c => kt (Option.some.inj c) ok H locs ls hR hS hL) (fun c => kf (fun e => c (congrArg some e)) ok H locs ls hR hS hL)
theorem a_acmp_ne {a b : Nat} {off : Int} {tgt : Nat} (hd : decode cc pc = .ok (.if_acmp .ne off, 3)) (ht : (pc : Int) + off = (tgt : Int)) (kt : ¬ a = b → AJ X M y cc nL rt tgt L st h uc us) (kf : a = b → AJ X M y cc nL rt (pc + 3) L st h uc us) : AJ X M y cc nL rt pc L (.ref b :: .ref a :: st) h uc us := fun ok H locs ls hR hS hL =>
  lv_acmp_ne (rx := some a) (ry := some b) ok.1 ok.2.1 hd ht (fun c => kt (fun e => c (congrArg some e)) ok H locs ls hR hS hL) (fun c => kf (Option.some.inj c) ok H locs ls hR hS hL)
theorem a_copyI {idx a0 a1 n0 n1 sp dp n : Nat} {x z w : Int32} {f g : Nat → Int32} (hq : Cond.methodLink y.cls idx arraycopyName ∈ BIG) (hd : decode cc pc = .ok (.invokestatic idx, 3)) (h0 : h a0 = some (kI n0 f)) (h1 : h a1 = some (kI n1 g)) (hx : x = nI sp) (hz : z = nI dp) (hw : w = nI n) (hsp : sp + n ≤ n0) (hdp : dp + n ≤ n1) (b0 : n0 ≤ 1000000) (b1 : n1 ≤ 1000000) (hf : 1 ≤ (mR M).frames) (hl : (st.map fun v => v.category).sum + 26 ≤ (mR M).locals)
    (kk : AJ X M y cc nL rt (pc + 3) L st (kput h a1 (kI n1 (va_cpy f g sp dp n))) uc us) : AJ X M y cc nL rt pc L (.int w :: .int z :: .ref a1 :: .int x :: .ref a0 :: st) h uc us := by
  intro ok H locs ls hR hS hL
  obtain ⟨dom, hdm, hP, hD⟩ := id hR
  obtain ⟨q0, -, he0⟩ := kws_at (X := X) hdm h0
  obtain ⟨q1, hq1, he1⟩ := kws_at (X := X) hdm h1
  have hts := ok.2.2.2.2.2.2.2.1
  subst hx hz hw
  have c1 := nI_clamp (n := sp) (by omega)
  have c2 := nI_clamp (n := dp) (by omega)
  have c3 := nI_clamp (n := n) (by omega)
  refine va_copyi ok.1 ok.2.1 (ok.2.2.1.trans hL.1.symm) ok.2.2.2.2.2.2.1 (hts _ hq) (hts _ kac_n) (hts _ kac_s) (hts _ kac_i) ok.2.2.2.2.2.2.2.2.1 hP hD hS q0 q1 0 0 he0 he1 (ktys_at (t := 0) rfl) (ktys_at (t := 0) rfl) rfl (nI_pos (by omega)) (nI_pos (by omega)) (nI_pos (by omega)) (by rw [c1, c3]; exact hsp) (by rw [c2, c3]; exact hdp) (fun i _ => rfl) hf (by have e : nativeFrameWords "java/lang/System" "arraycopy" 5 + 11 ≤ 26 := (by decide); omega) hd (fun H1 locs1 hP1 hD1 hS1 => ?_)
  rw [c1, c2, c3] at hP1 hD1
  exact kk ok H1 locs1 ls (rep_set hdm hD h1 hq1 (e := kI n1 (va_cpy f g sp dp n)) hP1 hD1) hS1 hL
theorem a_copyQ {idx a0 a1 n0 n1 sp dp n : Nat} {x z w : Int32} {f g : Nat → Option Nat} (hq : Cond.methodLink y.cls idx arraycopyName ∈ BIG) (hd : decode cc pc = .ok (.invokestatic idx, 3)) (h0 : h a0 = some (kQ 2 n0 f)) (h1 : h a1 = some (kQ 2 n1 g)) (hx : x = nI sp) (hz : z = nI dp) (hw : w = nI n) (hsp : sp + n ≤ n0) (hdp : dp + n ≤ n1) (b0 : n0 ≤ 1000000) (b1 : n1 ≤ 1000000) (hel : ∀ i, i < n → ∀ v, f (sp + i) = some v → ∃ ci r vs, kcl[ci]? = some r ∧ h v = some (.inr (ci, vs))) (hf : 1 ≤ (mR M).frames) (hl : (st.map fun v => v.category).sum + 26 ≤ (mR M).locals)
    (kk : AJ X M y cc nL rt (pc + 3) L st (kput h a1 (kQ 2 n1 (va_cpy f g sp dp n))) uc us) : AJ X M y cc nL rt pc L (.int w :: .int z :: .ref a1 :: .int x :: .ref a0 :: st) h uc us := by
  intro ok H locs ls hR hS hL
  obtain ⟨dom, hdm, hP, hD⟩ := id hR
  obtain ⟨q0, -, he0⟩ := kws_at (X := X) hdm h0
  obtain ⟨q1, hq1, he1⟩ := kws_at (X := X) hdm h1
  have hts := ok.2.2.2.2.2.2.2.1
  subst hx hz hw
  have c1 := nI_clamp (n := sp) (by omega)
  have c2 := nI_clamp (n := dp) (by omega)
  have c3 := nI_clamp (n := n) (by omega)
  refine va_copyM (E0 := "java/lang/Object") (E1 := "java/lang/Object") ok.1 ok.2.1 (ok.2.2.1.trans hL.1.symm) ok.2.2.2.2.2.2.1 (hts _ hq) (hts _ kac_n) (hts _ kac_s) (hts _ kac_i) ok.2.2.2.2.2.2.2.2.1 hP hD hS q0 q1 2 2 he0 he1 (ktys_at (t := 2) rfl) (ktys_at (t := 2) rfl) (nI_pos (by omega)) (nI_pos (by omega)) (nI_pos (by omega)) (by rw [c1, c3]; exact hsp) (by rw [c2, c3]; exact hdp) (fun i hi v hv => ?_) hf (by have e : nativeFrameWords "java/lang/System" "arraycopy" 5 + 11 ≤ 26 := (by decide); omega) hd (fun H1 locs1 hP1 hD1 hS1 => ?_)
  · rw [c3] at hi
    rw [c1] at hv
    obtain ⟨ci, r, vs, hc, he⟩ := hel i hi v hv
    exact k_any ok.2.2.2.2.2.2.2.2.1 ok.2.2.2.2.2.2.2.2.2.1 hP hdm hc he
  · rw [c1, c2, c3] at hP1 hD1
    exact kk ok H1 locs1 ls (rep_set hdm hD h1 hq1 (e := kQ 2 n1 (va_cpy f g sp dp n)) hP1 hD1) hS1 hL
theorem a_cloneI {idx a n : Nat} {f : Nat → Int32} (hq : Cond.methodLink y.cls idx ⟨"[I", "clone", "()Ljava/lang/Object;"⟩ ∈ BIG) (hd : decode cc pc = .ok (.invokevirtual idx, 3)) (ha : h a = some (kI n f)) (hf : 1 ≤ (mR M).frames) (hl : (st.map fun v => v.category).sum + 14 ≤ (mR M).locals) (hc : uc + 1 ≤ (mR M).cells) (hs : us + n ≤ (mR M).slots)
    (kk : ∀ q : Nat, h q = none → AJ X M y cc nL rt (pc + 3) L (.ref q :: st) (kput h q (kI n f)) (uc + 1) (us + n)) : AJ X M y cc nL rt pc L (.ref a :: st) h uc us := by
  intro ok H locs ls hR hS hL
  obtain ⟨dom, hdm, hP, hD⟩ := id hR
  obtain ⟨q0, -, he0⟩ := kws_at (X := X) hdm ha
  have hts := ok.2.2.2.2.2.2.2.1
  have hK := ok.2.2.2.2.2.2.2.2.1
  have hE := ok.2.2.2.2.2.2.2.2.2.1
  refine va_clone ok.1 ok.2.1 (ok.2.2.1.trans hL.1.symm) ok.2.2.2.2.2.2.1 (hts _ hq) (hts _ kcn_s) (hts _ kcn_n) (hts _ kcn_i) (hts _ kcn_l) hE.2.2.2.2.2.2.2.2.2.2.2.1 hK hP hD hS ok.2.2.2.2.2.2.2.2.2.2 q0 0 he0 (ktys_at (t := 0) rfl) (hK.2 0 _ (ktys_at (t := 0) rfl)).2 (fun i v hv => ?_) hf hl hc hs hd (fun q H1 hK1 hP1 hD1 hS1 => ?_)
  · have hsz : i < (vp_cell (X.2.2.1 0) (n, Sum.inl f)).slots.size := (Array.getElem?_eq_some_iff.mp hv).1
    obtain ⟨hlt, e⟩ := Array.getElem?_eq_some_iff.mp hv
    subst e
    simp [vp_cell, arrV, fits]
  · have hqn : h q = none := hdm.fresh hD1
    exact kk q hqn ok H1 locs ls (rep_new hdm hqn (e := kI n f) hP1 hD1) hS1 hL
theorem a_ldcM (hq : Cond.classLink y.cls 110 "[Ljava/lang/Object;" ∈ BIG) (hd : decode cc pc = .ok (.ldc 110, 2)) (kk : AJ X M y cc nL rt (pc + 2) L (.ref (X.2.2.2.1 3) :: st) h uc us) : AJ X M y cc nL rt pc L st h uc us := by
  intro ok H locs ls hR hS hL
  have hE := ok.2.2.2.2.2.2.2.2.2.1
  exact va_ldcM ok.1 ok.2.1 ok.2.2.2.2.2.2.1 (ok.2.2.2.2.2.2.2.1 _ hq) hE.2.2.2.2.2.2.2.2.2.2.2.2.2.2.2.1 hd (kk ok H locs ls hR hS hL)
theorem a_getC {a n : Nat} {f : Nat → Option Nat} (hy : y.cls = RJ7) (hd : decode cc pc = .ok (.invokevirtual 86, 3)) (ha : h a = some (kQ 2 n f)) (hf : 1 ≤ (mR M).frames) (hl : (st.map fun v => v.category).sum + 14 ≤ (mR M).locals) (kk : AJ X M y cc nL rt (pc + 3) L (.ref (X.2.2.2.1 3) :: st) h uc us) : AJ X M y cc nL rt pc L (.ref a :: st) h uc us := by
  intro ok H locs ls hR hS hL
  obtain ⟨dom, hdm, hP, hD⟩ := id hR
  obtain ⟨q0, -, he0⟩ := kws_at (X := X) hdm ha
  have hts := ok.2.2.2.2.2.2.2.1
  have hK := ok.2.2.2.2.2.2.2.2.1
  have hE := ok.2.2.2.2.2.2.2.2.2.1
  refine va_getC ok.1 ok.2.1 (ok.2.2.1.trans hL.1.symm) ok.2.2.2.2.2.2.1 (hts _ (by rw [hy]; exact kgc_l)) (hE.2.2.2.2.2.2.2.2.2.2.2.2.2.2.2.2.1).use (hts _ kgc_s) (hts _ kgc_i) (hts _ kgc_n) hE.2.2.2.2.2.2.2.2.2.2.2.2.2.2.2.1 ?_ hf hl hd (kk ok H locs ls hR hS hL)
  have hc : H[a]? = some (vp_cell (X.2.2.1 2) (n, .inr (.inr (.inr (.inr f))))) := hP q0 _ he0
  exact ⟨_, hc, rfl, va_nmO (hK.2 2 _ (ktys_at (t := 2) rfl)).2 (by decide)⟩
theorem no_nest {own : String} {idx : Nat} {z : MethodName} (h : Cond.methodLink own idx z ∈ BIG ∨ (own, idx, z) ∈ k_nests) (hz : z.cls = "java/lang/Math") : Cond.methodLink own idx z ∈ BIG := by
  rcases h with h | h
  · exact h
  · have e : ∀ q ∈ k_nests, q.2.2.cls ≠ "java/lang/Math" := by decide
    exact absurd hz (e _ h)
theorem a_mmax {idx : Nat} {x z : Int32} (lk : LkS y.cls idx yJ9_max_7cf53 cJ9_max_7cf53 2 (some .int) 2) (hd : decode cc pc = .ok (.invokestatic idx, 3)) (hf : 1 ≤ (mR M).frames) (hl : (st.map fun v => v.category).sum + 13 ≤ (mR M).locals) (hc : uc ≤ (mR M).cells) (hs : us ≤ (mR M).slots) (kk : AJ X M y cc nL rt (pc + 3) L (.int (if x < z then z else x) :: st) h uc us) : AJ X M y cc nL rt pc L (.int z :: .int x :: st) h uc us := by
  intro ok H locs ls hR hS hL
  have hts := ok.2.2.2.2.2.2.2.1
  exact va_mmax ok.1 ok.2.1 (ok.2.2.1.trans hL.1.symm) ok.2.2.2.2.2.2.1 (hts _ (no_nest lk.1 rfl)) (hts _ lk.2.1) (hts _ lk.2.2.1) (hts _ lk.2.2.2.1) hf hl hc hs hd (kk ok H locs ls hR hS hL)
theorem a_mmin {idx : Nat} {x z : Int32} (lk : LkS y.cls idx yJ9_min_7cf53 cJ9_min_7cf53 2 (some .int) 2) (hd : decode cc pc = .ok (.invokestatic idx, 3)) (hf : 1 ≤ (mR M).frames) (hl : (st.map fun v => v.category).sum + 13 ≤ (mR M).locals) (hc : uc ≤ (mR M).cells) (hs : us ≤ (mR M).slots) (kk : AJ X M y cc nL rt (pc + 3) L (.int (if z < x then z else x) :: st) h uc us) : AJ X M y cc nL rt pc L (.int z :: .int x :: st) h uc us := by
  intro ok H locs ls hR hS hL
  have hts := ok.2.2.2.2.2.2.2.1
  exact va_mmin ok.1 ok.2.1 (ok.2.2.1.trans hL.1.symm) ok.2.2.2.2.2.2.1 (hts _ (no_nest lk.1 rfl)) (hts _ lk.2.1) (hts _ lk.2.2.1) (hts _ lk.2.2.2.1) hf hl hc hs hd (kk ok H locs ls hR hS hL)
def absL (a : Int64) : Int64 := if a < 0 then -a else a
theorem a_mabs {idx : Nat} {x : Int64} (lk : LkS y.cls idx yJ9_abs_067f4 cJ9_abs_067f4 2 (some .long) 1) (hd : decode cc pc = .ok (.invokestatic idx, 3)) (hf : 1 ≤ (mR M).frames) (hl : (st.map fun v => v.category).sum + 13 ≤ (mR M).locals) (hc : uc ≤ (mR M).cells) (hs : us ≤ (mR M).slots) (kk : AJ X M y cc nL rt (pc + 3) L (.long (absL x) :: st) h uc us) : AJ X M y cc nL rt pc L (.long x :: st) h uc us := by
  intro ok H locs ls hR hS hL
  have hts := ok.2.2.2.2.2.2.2.1
  intro T hT XS
  have hcode := hts _ lk.2.2.2.1
  obtain ⟨v, T', X', ⟨first, t, hpost⟩, hstep⟩ := XS.staticByContractV (S := Lib.MathLoose.abs_long.spec) ok.1 ok.2.2.2.2.2.2.1 (hts _ (no_nest lk.1 rfl)) (hts _ lk.2.1) (hts _ lk.2.2.1) hcode (by decide)
    (Lib.MathLoose.abs_long.meetsLoose X.1) rfl rfl rfl rfl
    (fun args' first o s₂ h => by
      cases o with
      | returned r => exact ⟨r, rfl⟩
      | threw y =>
        have hr : (Cond.returned).holds args' first (some (.threw y)) s₂ [] = true := by
          rcases (Cond.holds_or_iff _ _).mp h with h | ⟨-, h⟩
          · simp only [Cond.holds_and, Bool.and_eq_true] at h
            exact h.2.1
          · rw [Cond.holds_and, Bool.and_eq_true] at h
            rcases (Cond.holds_or_iff _ _).mp h.2 with h | ⟨-, h⟩
            · simp only [Cond.holds_and, Bool.and_eq_true] at h
              exact h.2.1
            · simp only [Cond.holds_and, Bool.and_eq_true] at h
              exact h.2.1
        simp [Cond.holds, Cond.value] at hr)
    (g := F0 (mI M) pc ls (.long x :: st)) rfl (by show ls.size = _; rw [ok.2.2.1]; exact hL.1) (argsL := [.long x]) (rest := st)
    (fun sig hs => by
      have h : parseMethodDescriptor "(J)J" = some { parameters := [.long], returnType := some .long } := by decide +kernel
      rw [show yJ9_abs_067f4.desc = "(J)J" from rfl, h] at hs
      rw [← Option.some.inj hs]; rfl)
    rfl (by rw [ok.2.1]; exact hd)
    (fun vm' hW => by
      simp only [Lib.MathLoose.abs_long.spec, Cond.before_and, Bool.and_eq_true]
      refine ⟨?_, rfl, rfl⟩
      have q := hcode
      rw [← Cond.code_setVm hW.alike] at q
      simp only [Cond.before, Cond.holds, Cond.value, State.methodNamed?, State.vm_setVm] at q ⊢
      exact q)
    (by show 0 + 1 ≤ _; omega) (by show 2 * 0 + _ + (2 + 11) + 0 ≤ _; omega) (by show uc + 0 ≤ _; omega) (by show us + 0 ≤ _; omega)
  obtain ⟨t2, a1, b1⟩ := kk ok H locs ls hR hS hL (T.setVm T') hT X'
  refine ⟨t2, hstep t2 ?_, b1⟩
  have e : v = some (.long (absL x)) := by
    unfold absL
    by_cases h1 : 0 < x
    · rw [if_neg (fun z => absurd (Int64.lt_trans h1 z) (Int64.lt_irrefl))]
      rcases v with _ | w
      · simp [Lib.MathLoose.abs_long.spec, Cond.after, Cond.holds, Cond.value, Term.eval, h1] at hpost
      · cases w <;> simp [Lib.MathLoose.abs_long.spec, Cond.after, Cond.holds, Cond.value, Term.eval, h1] at hpost
        rename_i r
        by_cases hr : r = x <;> simp [hr] at hpost ⊢
    · by_cases h2 : x = 0
      · subst h2
        rw [if_neg (by decide)]
        rcases v with _ | w
        · simp [Lib.MathLoose.abs_long.spec, Cond.after, Cond.holds, Cond.value, Term.eval] at hpost
        · cases w <;> simp [Lib.MathLoose.abs_long.spec, Cond.after, Cond.holds, Cond.value, Term.eval] at hpost
          rename_i r
          by_cases hr : r = 0 <;> simp [hr] at hpost ⊢
      · rw [if_pos (Int64.lt_of_le_of_ne (Int64.not_lt.mp h1) h2)]
        rcases v with _ | w
        · simp [Lib.MathLoose.abs_long.spec, Cond.after, Cond.holds, Cond.value, Term.eval, h1, h2] at hpost
        · have e2 : Unary.lneg.apply (.long x) = some (.long (-x)) := rfl
          cases w <;> simp [Lib.MathLoose.abs_long.spec, Cond.after, Cond.holds, Cond.value, Term.eval, h1, h2, e2] at hpost
          rename_i r
          by_cases hr : r = -x <;> simp [hr] at hpost ⊢
  rw [e]
  exact a1
end LAY2

/-! THE LAW: its start -/
/-! THE CLAIM OUT OF ONE WALK OF THE LAW'S BODY. Your part is whole_start (and what it stands on); all else here is the same for every law, but numbers. -/
def R_law : String := "FiveCardsLaw"
def lw_P (b : Addr) (xs : List Int32) (args : Array Value) (s : State) : Prop := args = #[.ref b] ∧ s.IntsAt b xs ∧ xs.length ≤ 3072 ∧ (Jvm.Cond.and given_1 narrow_1).before args s = true
def lw_Q (_ : Array Value) (s : State) (o : Outcome) (t : State) : Prop := o = .returned (some (.int 1)) ∧ Framed s o t [] room_1.cells room_1.slots
def lw_Z (below : List Frame) (a : Array Value) (s : State) : State → Prop := fun t => ∃ o, t.status = .running ∧ Ended t below o ∧ lw_Q a s o t
/-- the law's own end, with 1 on the stack, nothing written that was there before, its room as the claim has it -/
theorem lw_ret {p : Program} {l : Launch} {e : Env} {s : State} {m : MethodId} {below : List Frame} {meth : Method} {c : Code} {b : Nat} (hx : p.tables.exec = Jvm.exec) (hb : c.code = code) (hr : meth.sig.returnType = ret) (hlocks : meth.locks = false) {pc : Nat} {H : Heap} {ls : Array Slot} (hdg : decode code pc = .ok (.ireturn, 1)) : W p l e room_1 s m #[Value.ref b] below meth c H [] room_1.cells room_1.slots (lw_Z below #[Value.ref b] s) (F0 m pc ls [.int 1]) := by
  intro T hT X
  obtain ⟨fs, hret, hrun, hended, hW, hframe⟩ := X.leave (v := some (.int 1)) (hlocks := hlocks) (fun h => by rw [hr] at h; cases h)
  have hmeth' : T.vm.method? m = some meth := X.method'
  refine ⟨T.setFrames fs, ?_, .returned (some (.int 1)), hrun, hended, rfl, ⟨_, rfl⟩, hW, hframe⟩
  jvm_step X.here [X.here.top, hx, hb, hdg, hmeth', hr, ret, narrow_b1]
  (try refine ⟨rfl, ?_⟩); (try refine ⟨rfl, ?_⟩)
  first | (intro acts; rw [hret _ acts rfl rfl rfl]) | rw [hret _ _ rfl rfl rfl]
  exact Steps.refl _
/-- what holds at the law's entry: the machine, the code, the tables' words (any of lw_tbl by 'hts w (by decide +kernel)'), the script of L ints xs at the cell b, what the Statement gives of the start (any of its parts by flat_of_before) -/
def lw_At (p : Program) (s : State) (m : MethodId) (meth : Method) (c : Code) (b L : Nat) (xs : Nat → Int32) : Prop :=
  p.tables.exec = Jvm.exec ∧ c.code = code ∧ meth.sig.returnType = ret ∧ c.maxLocals = 4 ∧ s.vm.findClass R_law = some m.cls ∧ (∀ w ∈ lw_tbl, w.before #[Value.ref b] s = true) ∧ va_X b L xs s s.heap ∧ b < s.heap.size ∧ meth.locks = false ∧ (Jvm.Cond.and given_1 narrow_1).before #[Value.ref b] s = true
theorem lt_of {w : Cond} (i : Nat) (h : tables_1[i]? = some w) : w ∈ lw_tbl := List.mem_append_right _ (List.mem_of_getElem? h)
theorem big_lw {w : Cond} (h : w ∈ BIG) : w ∈ lw_tbl := (List.mem_filter.mp h).1
def nrw : List Cond := flatC (Cond.and given_1 narrow_1)
def k_tm (i : Nat) : Term := Term.string (k_strs.getD i ("", 0, "", 0)).1 (k_strs.getD i ("", 0, "", 0)).2.1
abbrev k_tv (i : Nat) : Term := .field (k_tm i) "java/lang/String" "value" "[B"
def k_at : List Nat := [46, 104, 113, 122, 132, 145, 157, 171, 186, 202, 218, 234, 252]
theorem nr_ex : ∀ i, i < 13 → nrw[k_at.getD i 0]? = some (Cond.exactly (k_tm i) "java/lang/String") := by decide +kernel
theorem nr_co : ∀ i, i < 13 → nrw[k_at.getD i 0 + 1]? = some (Cond.eq (.field (k_tm i) "java/lang/String" "coder" "B") (.int 0)) := by decide +kernel
theorem nr_ar : ∀ i, i < 13 → nrw[k_at.getD i 0 + 2]? = some (Cond.arrayOf (k_tv i) .byte) := by decide +kernel
theorem nr_le : ∀ i, i < 13 → nrw[k_at.getD i 0 + 3]? = some (Cond.eq (.length (k_tv i)) (.int (Int32.ofNat (k_len.getD i 0)))) := by decide +kernel
theorem nr_el : ∀ i, i < 13 → ∀ j, j < k_len.getD i 0 → nrw[k_at.getD i 0 + 4 + j]? = some (Cond.eq (.elem (k_tv i) (.int (Int32.ofNat j))) (.int ((k_byt.getD i []).getD j 0))) := by decide +kernel
theorem nr_ne : ∀ j, j < 13 → ∀ i, i < j → nrw[k_at.getD j 0 + 4 + k_len.getD j 0 + i]? = some (Cond.not (Cond.eq (k_tm i) (k_tm j))) := by decide +kernel
abbrev t_un : Term := .static "FiveCards$Leak" "UNDER" "[I"
abbrev t_we : Term := .static "FiveCards$Leak" "WEIGHTS" "[I"
abbrev t_em : Term := .static "java/util/ArrayList" "DEFAULTCAPACITY_EMPTY_ELEMENTDATA" "[Ljava/lang/Object;"
theorem nr_un : ∀ j, j < 6 → nrw[25 + j]? = some (Cond.eq (.elem t_un (.int (Int32.ofNat j))) (.int (k_under j))) := by decide +kernel
theorem nr_we : ∀ j, j < 6 → nrw[16 + j]? = some (Cond.eq (.elem t_we (.int (Int32.ofNat j))) (.int (k_weights j))) := by decide +kernel
def adX (u w e mi : Nat) (K V : Nat → Nat) (n : Nat) : Nat := if n < 10 then ([u, w, e, mi] : List Nat).getD n 0 else if n < 30 then K (n - 10) else V (n - 30)
theorem adX_K {u w e mi : Nat} {K V : Nat → Nat} {i : Nat} (h : i < 13) : adX u w e mi K V (10 + i) = K i := by
  unfold adX
  rw [if_neg (by omega), if_pos (by omega), Nat.add_sub_cancel_left]
theorem adX_V {u w e mi : Nat} {K V : Nat → Nat} {i : Nat} : adX u w e mi K V (30 + i) = V i := by
  unfold adX
  rw [if_neg (by omega), if_neg (by omega), Nat.add_sub_cancel_left]
theorem law_start {p : Program} {s : State} {m : MethodId} {meth : Method} {c : Code} {b L : Nat} {xs : Nat → Int32} (l : Launch) (C0 : lw_At p s m meth c b L xs) : ∃ X : KX, X.1 = l ∧ va_K X.2.1 kcl (ktys X) s ∧ EFX X (fun q => s.heap.size ≤ q) s := by
  obtain ⟨hx, hb, hr, hml, hown, hts, hX, hbl, hlocks, hgv⟩ := id C0
  have hA : ∀ a : Nat, a < s.heap.size → ¬ (fun q => s.heap.size ≤ q) a := fun a h => Nat.not_le.mpr h
  have hq0 : ∀ w, w ∈ nrw → w.before #[Value.ref b] s = true := flat_of_before _ hgv
  have hq : ∀ (i : Nat) (w : Cond), nrw[i]? = some w → w.before #[Value.ref b] s = true := fun i w h => hq0 w (List.mem_of_getElem? h)
  obtain ⟨c0, i0, hK0⟩ := u_known (C := RX0) (T := TX0) (N := 2) (n := 2) hts (fun w hw => big_lw (bw_X0 w hw)) (hts _ (lt_of 809 (by decide +kernel)))
  obtain ⟨c1, i1, hK1⟩ := u_known (C := RX1) (T := TX1) (N := 5) (n := 5) hts (fun w hw => big_lw (bw_X1 w hw)) (hts _ (lt_of 646 (by decide +kernel)))
  obtain ⟨c2, i2, hK2⟩ := u_known (C := RX2) (T := TX2) (N := 1) (n := 1) hts (fun w hw => big_lw (bw_X2 w hw)) (hts _ (lt_of 131 (by decide +kernel)))
  obtain ⟨c3, i3, hK3⟩ := u_known (C := RX3) (T := TX3) (N := 2) (n := 2) hts (fun w hw => big_lw (bw_X3 w hw)) (hts _ (lt_of 461 (by decide +kernel)))
  obtain ⟨c4, i4, hK4⟩ := u_known (C := RX4) (T := TX4) (N := 7) (n := 7) hts (fun w hw => big_lw (bw_X4 w hw)) (hts _ (lt_of 80 (by decide +kernel)))
  obtain ⟨c5, i5, hK5⟩ := u_known (C := RX5) (T := TX5) (N := 14) (n := 14) hts (fun w hw => big_lw (bw_X5 w hw)) (hts _ (lt_of 488 (by decide +kernel)))
  obtain ⟨c6, i6, hK6⟩ := u_known (C := RX6) (T := TX6) (N := 2) (n := 2) hts (fun w hw => big_lw (bw_X6 w hw)) (hts _ (lt_of 758 (by decide +kernel)))
  obtain ⟨c7, i7, hK7⟩ := u_known (C := RX7) (T := TX7) (N := 3) (n := 3) hts (fun w hw => big_lw (bw_X7 w hw)) (hts _ (lt_of 141 (by decide +kernel)))
  obtain ⟨c8, i8, hK8⟩ := u_known (C := RX8) (T := TX8) (N := 2) (n := 2) hts (fun w hw => big_lw (bw_X8 w hw)) (hts _ (lt_of 63 (by decide +kernel)))
  obtain ⟨c9, i9, hK9⟩ := u_known (C := RX9) (T := TX9) (N := 3) (n := 3) hts (fun w hw => big_lw (bw_X9 w hw)) (hts _ (lt_of 322 (by decide +kernel)))
  obtain ⟨c10, i10, hK10⟩ := u_known (C := RX10) (T := TX10) (N := 4) (n := 4) hts (fun w hw => big_lw (bw_X10 w hw)) (hts _ (lt_of 86 (by decide +kernel)))
  obtain ⟨c11, i11, hK11⟩ := u_known (C := RX11) (T := TX11) (N := 14) (n := 14) hts (fun w hw => big_lw (bw_X11 w hw)) (hts _ (lt_of 27 (by decide +kernel)))
  obtain ⟨c12, i12, hK12⟩ := u_known (C := RX12) (T := TX12) (N := 65) (n := 65) hts (fun w hw => big_lw (bw_X12 w hw)) (hts _ (lt_of 935 (by decide +kernel)))
  obtain ⟨c13, i13, hK13⟩ := u_known (C := RJx4a65c) (T := TJx4a65c) (N := 3) (n := 3) hts (fun w hw => big_lw (bw_Jx4a65c w hw)) (hts _ (lt_of 35 (by decide +kernel)))
  obtain ⟨a_int, k_int, p_int, x_int, y_int, z_int⟩ := Cond.arrayClass_spec (hts (Cond.arrayClass .int) (lt_of 78 (by decide +kernel)))
  obtain ⟨a_long, k_long, p_long, x_long, y_long, z_long⟩ := Cond.arrayClass_spec (hts (Cond.arrayClass .long) (lt_of 140 (by decide +kernel)))
  obtain ⟨a_boolean, k_boolean, p_boolean, x_boolean, y_boolean, z_boolean⟩ := Cond.arrayClass_spec (hts (Cond.arrayClass .boolean) (lt_of 1146 (by decide +kernel)))
  obtain ⟨p_obj, a_obj, k_obj, x_obj, -, y_obj, z_obj, v_obj⟩ := Cond.arrayOver_spec (hts (Cond.arrayOver (.object "java/lang/Object")) (lt_of 405 (by decide +kernel)))
  obtain ⟨p_she, a_she, k_she, x_she, -, y_she, z_she, v_she⟩ := Cond.arrayOver_spec (hts (Cond.arrayOver (.object "FiveCards$Sheet")) (lt_of 61 (by decide +kernel)))
  obtain ⟨u, hu, hU⟩ := va_Tof (tm := t_un) (ty := .int) (N := 6) (f := fun j => .int (k_under j)) (by decide) (hq 23 (Cond.arrayOf t_un .int) (by decide +kernel)) (va_eqt (hq 24 (Cond.eq (.length t_un) (.int 6)) (by decide +kernel))) (fun j hj => va_eqt (hq _ _ (nr_un j hj))) hA
  obtain ⟨w, hw, hW⟩ := va_Tof (tm := t_we) (ty := .int) (N := 6) (f := fun j => .int (k_weights j)) (by decide) (hq 14 (Cond.arrayOf t_we .int) (by decide +kernel)) (va_eqt (hq 15 (Cond.eq (.length t_we) (.int 6)) (by decide +kernel))) (fun j hj => va_eqt (hq _ _ (nr_we j hj))) hA
  obtain ⟨e, he, hE⟩ := va_Tof (tm := t_em) (ty := .object "java/lang/Object") (N := 0) (f := fun _ => .null) (by decide) (hq 5 (Cond.arrayOf t_em (.object "java/lang/Object")) (by decide +kernel)) (va_eqt (hq 7 (Cond.eq (.length t_em) (.int 0)) (by decide +kernel))) (fun j hj => absurd hj (Nat.not_lt_zero j)) hA
  obtain ⟨mi, hmi⟩ := va_Mi.of (hq 45 (Cond.isRef (.mirror "[Ljava/lang/Object;")) (by decide +kernel))
  obtain ⟨sv, hsv, hsr⟩ := Cond.isRef_spec (hq 9 (Cond.isRef (.static "jdk/internal/util/Preconditions" "SIOOBE_FORMATTER" "Ljava/util/function/BiFunction;")) (by decide +kernel))
  obtain ⟨aK, aV, hS, hSe⟩ := vk_Sof (tm := k_tm) (len := k_len) (byt := k_byt) (by decide) (fun i hi => hq _ _ (nr_ex i hi)) (fun i hi => hq _ _ (nr_co i hi)) (fun i hi => hq _ _ (nr_ar i hi)) (fun i hi => hq _ _ (nr_le i hi)) (fun i hi j hj => hq _ _ (nr_el i hi j hj)) (fun i j hi hj hij => if z : i < j then Or.inl (hq _ _ (nr_ne j hj i z)) else Or.inr (hq _ _ (nr_ne i hi j (by omega)))) hA
  refine ⟨(l, (fun k => ([c0, c1, c2, c3, c4, c5, c6, c7, c8, c9, c10, c11, c12, c13] : List ClassId).getD k c0, fun k => ([i0, i1, i2, i3, i4, i5, i6, i7, i8, i9, i10, i11, i12, i13] : List (Nat → Nat)).getD k i0), fun k => ([a_int, a_long, a_obj, a_she, a_boolean] : List ClassId).getD k a_int, adX u w e mi aK aV, sv), rfl, ⟨fun k q hk => ?_, fun k q hk => ?_⟩, ?_⟩
  · match k, hk with
    | 0, hk => cases hk; exact hK0
    | 1, hk => cases hk; exact hK1
    | 2, hk => cases hk; exact hK2
    | 3, hk => cases hk; exact hK3
    | 4, hk => cases hk; exact hK4
    | 5, hk => cases hk; exact hK5
    | 6, hk => cases hk; exact hK6
    | 7, hk => cases hk; exact hK7
    | 8, hk => cases hk; exact hK8
    | 9, hk => cases hk; exact hK9
    | 10, hk => cases hk; exact hK10
    | 11, hk => cases hk; exact hK11
    | 12, hk => cases hk; exact hK12
    | 13, hk => cases hk; exact hK13
    | k + 14, hk => exact absurd hk (by simp [kcl])
  · match k, hk with
    | 0, hk => cases hk; exact ⟨fun n z => ⟨(fun k h => by cases h), k_int, y_int, p_int, z_int⟩, x_int⟩
    | 1, hk => cases hk; exact ⟨fun n z => ⟨(fun k h => by cases h), k_long, y_long, p_long, z_long⟩, x_long⟩
    | 2, hk => cases hk; exact ⟨fun n z => ⟨(fun k h => by cases h), k_obj, y_obj, p_obj, z_obj⟩, k_obj, p_obj, y_obj, z_obj, x_obj, v_obj⟩
    | 3, hk => cases hk; exact ⟨fun n z => ⟨(fun k h => by cases h), k_she, y_she, p_she, z_she⟩, k_she, p_she, y_she, z_she, x_she, v_she⟩
    | 4, hk => cases hk; exact ⟨fun n z => ⟨(fun k h => by cases h), k_boolean, y_boolean, p_boolean, z_boolean⟩, x_boolean⟩
    | k + 5, hk => exact absurd hk (by simp [ktys])
  · refine ⟨va_Zref (hts _ (lt_of 933 (by decide +kernel))) (hts _ (lt_of 23 (by decide +kernel))) hu hA, hU, va_Zref (hts _ (lt_of 749 (by decide +kernel))) (hts _ (lt_of 23 (by decide +kernel))) hw hA, hW, va_Zref (hts _ (lt_of 47 (by decide +kernel))) (hts _ (lt_of 4 (by decide +kernel))) he hA, hE, va_Zof (hts _ (lt_of 171 (by decide +kernel))) (hts _ (lt_of 10 (by decide +kernel))) (va_eqt (hq 8 (Cond.eq (.static "java/lang/String" "COMPACT_STRINGS" "Z") (.int 1)) (by decide +kernel))) hA, va_Zof (hts _ (lt_of 187 (by decide +kernel))) (hts _ (lt_of 12 (by decide +kernel))) hsv hA, ?_, ?_, ?_, va_Nw.of rfl (hts _ (lt_of 331 (by decide +kernel))), ?_, va_AO.of (hts (Cond.arrayOver (.object "FiveCards$Sheet")) (lt_of 61 (by decide +kernel))), va_AO.of (hts (Cond.arrayOver (.object "java/lang/Object")) (lt_of 405 (by decide +kernel))), hmi, va_Dc.of (hts _ (lt_of 1483 (by decide +kernel))), ?_⟩
    · refine ⟨fun i hi => ?_, fun i j hi hj hz => hS.2 i j hi hj ?_⟩
      · obtain ⟨q1, q2, q3, q4⟩ := hS.1 i hi
        show va_O _ (adX u w e mi aK aV (10 + i)) _ _ _ ∧ va_OF _ _ _ _ (adX u w e mi aK aV (10 + i)) _ _ _ ∧ va_OF _ _ _ (.ref (adX u w e mi aK aV (30 + i))) (adX u w e mi aK aV (10 + i)) _ _ _ ∧ va_T _ (adX u w e mi aK aV (30 + i)) _ _ _ _ _
        rw [adX_K hi, adX_V]
        exact ⟨q1, q2, q3, q4⟩
      · have hz : adX u w e mi aK aV (10 + i) = adX u w e mi aK aV (10 + j) := hz
        rw [adX_K hi, adX_K hj] at hz
        exact hz
    · exact List.forall_mem_cons.mpr ⟨(by show vk_R "FiveCards" 66 "stop 8 < hits ; keep 4 < hits ; say hits - leaks - 5 ;" (adX u w e mi aK aV (10 + 0)) s; rw [adX_K (by decide)]; exact vk_R.of (hts _ (lt_of 161 (by decide +kernel))) (hSe 0 (by decide))), List.forall_mem_cons.mpr ⟨(by show vk_R "FiveCards$Tokens" 73 "hits" (adX u w e mi aK aV (10 + 1)) s; rw [adX_K (by decide)]; exact vk_R.of (hts _ (lt_of 249 (by decide +kernel))) (hSe 1 (by decide))), List.forall_mem_cons.mpr ⟨(by show vk_R "FiveCards$Tokens" 75 "run" (adX u w e mi aK aV (10 + 2)) s; rw [adX_K (by decide)]; exact vk_R.of (hts _ (lt_of 250 (by decide +kernel))) (hSe 2 (by decide))), List.forall_mem_cons.mpr ⟨(by show vk_R "FiveCards$Tokens" 77 "all" (adX u w e mi aK aV (10 + 3)) s; rw [adX_K (by decide)]; exact vk_R.of (hts _ (lt_of 251 (by decide +kernel))) (hSe 3 (by decide))), List.forall_mem_cons.mpr ⟨(by show vk_R "FiveCards$Tokens" 79 "leaks" (adX u w e mi aK aV (10 + 4)) s; rw [adX_K (by decide)]; exact vk_R.of (hts _ (lt_of 252 (by decide +kernel))) (hSe 4 (by decide))), List.forall_mem_cons.mpr ⟨(by show vk_R "FiveCards$Tokens" 81 "day" (adX u w e mi aK aV (10 + 5)) s; rw [adX_K (by decide)]; exact vk_R.of (hts _ (lt_of 253 (by decide +kernel))) (hSe 5 (by decide))), List.forall_mem_cons.mpr ⟨(by show vk_R "FiveCards$Tokens" 83 "next" (adX u w e mi aK aV (10 + 6)) s; rw [adX_K (by decide)]; exact vk_R.of (hts _ (lt_of 254 (by decide +kernel))) (hSe 6 (by decide))), List.forall_mem_cons.mpr ⟨(by show vk_R "FiveCards$Tokens" 85 "stop" (adX u w e mi aK aV (10 + 7)) s; rw [adX_K (by decide)]; exact vk_R.of (hts _ (lt_of 255 (by decide +kernel))) (hSe 7 (by decide))), List.forall_mem_cons.mpr ⟨(by show vk_R "FiveCards$Tokens" 87 "keep" (adX u w e mi aK aV (10 + 8)) s; rw [adX_K (by decide)]; exact vk_R.of (hts _ (lt_of 256 (by decide +kernel))) (hSe 8 (by decide))), List.forall_mem_cons.mpr ⟨(by show vk_R "FiveCards$Tokens" 89 "say" (adX u w e mi aK aV (10 + 9)) s; rw [adX_K (by decide)]; exact vk_R.of (hts _ (lt_of 257 (by decide +kernel))) (hSe 9 (by decide))), List.forall_mem_cons.mpr ⟨(by show vk_R "FiveCards$Tokens" 91 "or" (adX u w e mi aK aV (10 + 10)) s; rw [adX_K (by decide)]; exact vk_R.of (hts _ (lt_of 258 (by decide +kernel))) (hSe 10 (by decide))), List.forall_mem_cons.mpr ⟨(by show vk_R "FiveCards$Tokens" 93 "and" (adX u w e mi aK aV (10 + 11)) s; rw [adX_K (by decide)]; exact vk_R.of (hts _ (lt_of 259 (by decide +kernel))) (hSe 11 (by decide))), List.forall_mem_cons.mpr ⟨(by show vk_R "FiveCards$Tokens" 95 "not" (adX u w e mi aK aV (10 + 12)) s; rw [adX_K (by decide)]; exact vk_R.of (hts _ (lt_of 260 (by decide +kernel))) (hSe 12 (by decide))), fun _ h => absurd h List.not_mem_nil⟩⟩⟩⟩⟩⟩⟩⟩⟩⟩⟩⟩⟩
    · exact List.forall_mem_cons.mpr ⟨va_Nw.of rfl (hts _ (lt_of 64 (by decide +kernel))), List.forall_mem_cons.mpr ⟨va_Nw.of rfl (hts _ (lt_of 81 (by decide +kernel))), List.forall_mem_cons.mpr ⟨va_Nw.of rfl (hts _ (lt_of 87 (by decide +kernel))), List.forall_mem_cons.mpr ⟨va_Nw.of rfl (hts _ (lt_of 132 (by decide +kernel))), List.forall_mem_cons.mpr ⟨va_Nw.of rfl (hts _ (lt_of 142 (by decide +kernel))), List.forall_mem_cons.mpr ⟨va_Nw.of rfl (hts _ (lt_of 307 (by decide +kernel))), List.forall_mem_cons.mpr ⟨va_Nw.of rfl (hts _ (lt_of 578 (by decide +kernel))), List.forall_mem_cons.mpr ⟨va_Nw.of rfl (hts _ (lt_of 810 (by decide +kernel))), fun _ h => absurd h List.not_mem_nil⟩⟩⟩⟩⟩⟩⟩⟩
    · exact List.forall_mem_cons.mpr ⟨va_Nw.of rfl (hts _ (lt_of 1479 (by decide +kernel))), List.forall_mem_cons.mpr ⟨va_Nw.of rfl (hts _ (lt_of 1477 (by decide +kernel))), List.forall_mem_cons.mpr ⟨va_Nw.of rfl (hts _ (lt_of 1472 (by decide +kernel))), List.forall_mem_cons.mpr ⟨va_Nw.of rfl (hts _ (lt_of 1475 (by decide +kernel))), List.forall_mem_cons.mpr ⟨va_Nw.of rfl (hts _ (lt_of 1470 (by decide +kernel))), List.forall_mem_cons.mpr ⟨va_Nw.of rfl (hts _ (lt_of 1476 (by decide +kernel))), List.forall_mem_cons.mpr ⟨va_Nw.of rfl (hts _ (lt_of 1478 (by decide +kernel))), List.forall_mem_cons.mpr ⟨va_Nw.of rfl (hts _ (lt_of 1466 (by decide +kernel))), List.forall_mem_cons.mpr ⟨va_Nw.of rfl (hts _ (lt_of 1469 (by decide +kernel))), List.forall_mem_cons.mpr ⟨va_Nw.of rfl (hts _ (lt_of 1473 (by decide +kernel))), List.forall_mem_cons.mpr ⟨va_Nw.of rfl (hts _ (lt_of 1471 (by decide +kernel))), List.forall_mem_cons.mpr ⟨va_Nw.of rfl (hts _ (lt_of 1467 (by decide +kernel))), List.forall_mem_cons.mpr ⟨va_Nw.of rfl (hts _ (lt_of 1474 (by decide +kernel))), List.forall_mem_cons.mpr ⟨va_Nw.of rfl (hts _ (lt_of 1468 (by decide +kernel))), fun _ h => absurd h List.not_mem_nil⟩⟩⟩⟩⟩⟩⟩⟩⟩⟩⟩⟩⟩⟩
    · cases sv <;> first | exact Or.inl rfl | exact Or.inr ⟨_, rfl⟩ | exact absurd hsr Bool.false_ne_true

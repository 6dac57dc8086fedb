/-! THE LAW: one call on both sides -/
section LWO
variable {X : KX} {M : MX} {b L a : Nat} {xs : Nat → Int32} {m : Nat → Nat} {s t : MST} {σ : Nat → Nat → Nat} {h : AH}
/-- what the law's rows know of the machine -/
def LC (M : MX) (b L : Nat) (xs : Nat → Int32) : Prop := mR M = room_1 ∧ va_X b L xs (mS M) (mS M).heap ∧ b < (mS M).heap.size ∧ ¬ mA M b
theorem a_slen {y : MethodName} {cc : ByteArray} {nL : Nat} {rt : Option FieldType} {pc : Nat} {Lc : List (Nat × Value)} {st : List Value} {uc us : Nat} (hC : LC M b L xs) (hd : decode cc pc = .ok (.arraylength, 1)) (kk : AJ X M y cc nL rt (pc + 1) Lc (.int (nI L) :: st) h uc us) : AJ X M y cc nL rt pc Lc (.ref b :: st) h uc us := fun ok H locs ls hR hS hL => va_slen ok.1 ok.2.1 hC.2.1 hC.2.2.1 hC.2.2.2 hS hd (kk ok H locs ls hR hS hL)
theorem a_sld {y : MethodName} {cc : ByteArray} {nL : Nat} {rt : Option FieldType} {pc i : Nat} {Lc : List (Nat × Value)} {st : List Value} {uc us : Nat} (hC : LC M b L xs) (hL : L ≤ 3072) (hi : i < L) (hd : decode cc pc = .ok (.iaload, 1)) (kk : AJ X M y cc nL rt (pc + 1) Lc (.int (xs i) :: st) h uc us) : AJ X M y cc nL rt pc Lc (.int (nI i) :: .ref b :: st) h uc us := fun ok H locs ls hR hS hL2 => by
  have e : (nI i).toNatClampNeg = i := nI_clamp (by omega)
  refine va_sld ok.1 ok.2.1 hC.2.1 hC.2.2.1 hC.2.2.2 hS (i := nI i) (fun z => ?_) hd ?_
  · rcases z with z | z
    · exact nI_pos (by omega) z
    · rw [e] at z
      omega
  · rw [e]
    exact kk ok H locs ls hR hS hL2
theorem rok_law {d' nL' c s : Nat} (hC : LC M b L xs) (h1 : d' ≤ 2000) (h2 : nL' ≤ 21) (h3 : c ≤ 500000) (h4 : s ≤ 7000000) : Rok M d' nL' c s := by
  unfold Rok
  rw [hC.1]
  exact ⟨Nat.le_trans (by omega : d' + 1 ≤ 2001) (Nat.le_of_ble_eq_true rfl), Nat.le_trans (by omega : 8 + (nL' + 11) + 40 * d' ≤ 80040) (Nat.le_of_ble_eq_true rfl), Nat.le_trans h3 (Nat.le_of_ble_eq_true rfl), Nat.le_trans h4 (Nat.le_of_ble_eq_true rfl)⟩
/-- both sides at one state: the class's places by σ, the reference's by m -/
def LI (X : KX) (m : Nat → Nat) (t : MST) (σ : Nat → Nat → Nat) (h : AH) (a : Nat) : Prop := MI m ∧ MV t ∧ CI X σ t h ∧ (∀ r, mliv r → h (m r) = some (mc m t r)) ∧ (∀ r, mliv r → ∀ k i, clv t k i → m r ≠ σ k i) ∧ σ 0 0 = a
theorem LI.at (hL : LI X m t σ h a) : h = mh m t h := ov_ext hL.1 hL.2.2.2.1 (fun _ _ => rfl)
theorem li_1 {t1 : MST} {hv : AH} (hL : LI X m t σ h a) (hE : CE X σ t h t1 hv) : hv = mh m t hv ∧ ∃ σ' : Nat → Nat → Nat, σ' 0 0 = a ∧ CI X σ' t1 hv ∧ ∀ r, mliv r → ∀ k i, clv t1 k i → m r ≠ σ' k i := by
  obtain ⟨σ', z, hI, hF⟩ := hE
  have fr : ∀ r, mliv r → hv (m r) = h (m r) ∧ ∀ k i, clv t1 k i → m r ≠ σ' k i := fun r hr => hF (m r) (by rw [hL.2.2.2.1 r hr]; exact Option.some_ne_none _) (fun k i hk => hL.2.2.2.2.1 r hr k i hk)
  exact ⟨ov_ext hL.1 (fun r hr => (fr r hr).1.trans (hL.2.2.2.1 r hr)) (fun _ _ => rfl), σ', (z 0 0 (by decide)).trans hL.2.2.2.2.2, hI, fun r hr => (fr r hr).2⟩
theorem SP.sy {a b : MST} (h : SP a b) : SP b a := ⟨fun k hk => (h.1 k hk).symm, fun k hk => (h.2.1 k hk).symm, h.2.2.symm⟩
theorem li_2 {t1 t2 : MST} {hv : AH} {σ' : Nat → Nat → Nat} (hm : MI m) (z : σ' 0 0 = a) (hI : CI X σ' t1 hv) (ap : ∀ r, mliv r → ∀ k i, clv t1 k i → m r ≠ σ' k i) (hV : MV t1) (hS : SP t2 t1) : LI X m t2 σ' (mh m t2 hv) a := by
  have hc := CI_sp hS.sy hI
  refine ⟨hm, MV_sp hS.sy hV, ⟨hc.2.1.1, fun k i hk => ?_⟩, fun r hr => ov_get hm hr, fun r hr k i hk => ap r hr k i ((hc.1 k i).mp hk), z⟩
  obtain ⟨e, he, hcp⟩ := hc.2.1.2 k i hk
  exact ⟨e, (ov_out (fun r hr => ap r hr k i ((hc.1 k i).mp hk))).trans he, hcp⟩
theorem ro_told (x w : Int32) : (R_told s x w).2 = s := by
  unfold R_told
  (repeat' split) <;> rfl
theorem ro_exact (x q w : Int32) : (R_exact s x q w).2 = s := by
  unfold R_exact
  (repeat' split) <;> rfl
theorem ro_gives (x y : Int32) : (R_gives s x y).2 = s := by
  unfold R_gives
  (repeat' split) <;> rfl
theorem ro_counts (x : Int32) : (R_counts s x).2 = s := by
  unfold R_counts
  (repeat' split) <;> rfl
theorem ro_plan (x w : Int32) : (R_plan s x w).2 = s := by
  unfold R_plan
  (repeat' split) <;> rfl
theorem ro_weighs (x : Int32) : (R_weighs s x).2 = s := by
  unfold R_weighs
  (repeat' split) <;> rfl
theorem ro_series (g kept w : Int32) : (R_series s g kept w).2 = s := by
  unfold R_series
  (repeat' split) <;> rfl
theorem ro_best (d : Int32) : (R_best s d).2 = s := by
  unfold R_best
  (repeat' split) <;> rfl
theorem ro_falls (g d w : Int32) : (R_falls s g d w).2 = s := by
  unfold R_falls
  (repeat' split) <;> rfl
theorem ro_mixed (x d n : Int32) : (R_mixed s x d n).2 = s := by
  unfold R_mixed
  (repeat' split) <;> rfl
theorem ro_count (x : Int32) : (R_count s x).2 = s := by
  unfold R_count
  (repeat' split) <;> rfl
theorem ro_taken (x kk : Int32) : (R_taken s x kk).2 = s := by
  unfold R_taken
  (repeat' split) <;> rfl
set_option maxRecDepth 4000 in
theorem law_pack {nm ds : String} {k uc us : Nat} (hC : LC M b L xs) (hL3 : L ≤ 3072) (hk : 6 * k + 6 ≤ L) (hu : uc ≤ 300000) (hs : us ≤ 6000000) (hL : LI X m t σ h a) (kk : ∀ t' σ' h', LI X m t' σ' h' a → AJ X M ⟨RL, nm, ds⟩ cL_law 4 ret 1268 [(0, .ref b), (1, .ref a), (2, .ref (m 65)), (3, .int (nI (6 * k)))] [] h' (uc + 200) (us + 10000)) : AJ X M ⟨RL, nm, ds⟩ cL_law 4 ret 172 [(0, .ref b), (1, .ref a), (2, .ref (m 65)), (3, .int (nI (6 * k)))] [] h uc us := by
  have hm := hL.1
  have ha := hL.2.2.2.2.2
  subst ha
  refine a_aload_n (pc := 172) dL_law_172 rfl rfl ?_
  refine a_aload_n (pc := 173) dL_law_173 rfl rfl ?_
  refine a_iload_n (pc := 174) dL_law_174 rfl rfl ?_
  refine a_iconst (pc := 175) dL_law_175 ic_1 ?_
  refine a_iaddN (pc := 176) dL_law_176 ?_
  refine a_sld (pc := 177) (i := 6 * k + 1) hC hL3 (by omega) dL_law_177 ?_
  refine a_callV (pc := 178) km_L_13 dL_law_178 (f_cpack hL.2.2.1 hL.2.1 _) rfl rfl (kr_t hL.2.2.1) (rok_law hC (by decide) (by decide) (by omega) (by omega)) (Nat.le_of_ble_eq_true rfl) (fun r178 h178 hp178 => ?_)
  obtain ⟨rfl, hE⟩ := hp178
  obtain ⟨e1, σ', z1, i1, ap1⟩ := li_1 hL hE
  refine a_hp e1 ?_
  refine a_aload_n (pc := 181) dL_law_181 rfl rfl ?_
  refine a_aload_n (pc := 182) dL_law_182 rfl rfl ?_
  refine a_iload_n (pc := 183) dL_law_183 rfl rfl ?_
  refine a_iconst (pc := 184) dL_law_184 ic_1 ?_
  refine a_iaddN (pc := 185) dL_law_185 ?_
  refine a_sld (pc := 186) (i := 6 * k + 1) hC hL3 (by omega) dL_law_186 ?_
  refine a_callV (pc := 187) km_L_17 dL_law_187 (f_pack hm hL.2.1 _) rfl rfl (krecv_of (ci := 12) rfl (m_obj hm)) (rok_law hC (by decide) (by decide) (by omega) (by omega)) (Nat.le_of_ble_eq_true rfl) (fun r187 h187 hp187 => ?_)
  obtain ⟨rfl, t2, rfl, hsp⟩ := hp187
  refine a_icmp_eq (pc := 190) (tgt := 1268) dL_law_190 (by decide) (fun c190 => ?_) (fun c190 => ?_)
  · exact a_wid (by omega) (by omega) (kk t2 σ' _ (li_2 hm z1 i1 ap1 (MV_pack hL.2.1 _) hsp))
  · exact absurd rfl c190
set_option maxRecDepth 4000 in
theorem law_run {nm ds : String} {k uc us : Nat} (hC : LC M b L xs) (hL3 : L ≤ 3072) (hk : 6 * k + 6 ≤ L) (hu : uc ≤ 300000) (hs : us ≤ 6000000) (hL : LI X m t σ h a) (kk : ∀ t' σ' h', LI X m t' σ' h' a → AJ X M ⟨RL, nm, ds⟩ cL_law 4 ret 1268 [(0, .ref b), (1, .ref a), (2, .ref (m 65)), (3, .int (nI (6 * k)))] [] h' (uc + 200) (us + 10000)) : AJ X M ⟨RL, nm, ds⟩ cL_law 4 ret 195 [(0, .ref b), (1, .ref a), (2, .ref (m 65)), (3, .int (nI (6 * k)))] [] h uc us := by
  have hm := hL.1
  have ha := hL.2.2.2.2.2
  subst ha
  refine a_aload_n (pc := 195) dL_law_195 rfl rfl ?_
  refine a_aload_n (pc := 196) dL_law_196 rfl rfl ?_
  refine a_iload_n (pc := 197) dL_law_197 rfl rfl ?_
  refine a_iconst (pc := 198) dL_law_198 ic_1 ?_
  refine a_iaddN (pc := 199) dL_law_199 ?_
  refine a_sld (pc := 200) (i := 6 * k + 1) hC hL3 (by omega) dL_law_200 ?_
  refine a_aload_n (pc := 201) dL_law_201 rfl rfl ?_
  refine a_iload_n (pc := 202) dL_law_202 rfl rfl ?_
  refine a_iconst (pc := 203) dL_law_203 ic_2 ?_
  refine a_iaddN (pc := 204) dL_law_204 ?_
  refine a_sld (pc := 205) (i := 6 * k + 2) hC hL3 (by omega) dL_law_205 ?_
  refine a_aload_n (pc := 206) dL_law_206 rfl rfl ?_
  refine a_iload_n (pc := 207) dL_law_207 rfl rfl ?_
  refine a_iconst (pc := 208) dL_law_208 ic_3 ?_
  refine a_iaddN (pc := 209) dL_law_209 ?_
  refine a_sld (pc := 210) (i := 6 * k + 3) hC hL3 (by omega) dL_law_210 ?_
  refine a_callV (pc := 211) km_L_18 dL_law_211 (f_crun hL.2.2.1 hL.2.1 _ _ _) rfl rfl (kr_t hL.2.2.1) (rok_law hC (by decide) (by decide) (by omega) (by omega)) (Nat.le_of_ble_eq_true rfl) (fun r211 h211 hp211 => ?_)
  obtain ⟨rfl, hE⟩ := hp211
  obtain ⟨e1, σ', z1, i1, ap1⟩ := li_1 hL hE
  refine a_hp e1 ?_
  refine a_aload_n (pc := 214) dL_law_214 rfl rfl ?_
  refine a_aload_n (pc := 215) dL_law_215 rfl rfl ?_
  refine a_iload_n (pc := 216) dL_law_216 rfl rfl ?_
  refine a_iconst (pc := 217) dL_law_217 ic_1 ?_
  refine a_iaddN (pc := 218) dL_law_218 ?_
  refine a_sld (pc := 219) (i := 6 * k + 1) hC hL3 (by omega) dL_law_219 ?_
  refine a_aload_n (pc := 220) dL_law_220 rfl rfl ?_
  refine a_iload_n (pc := 221) dL_law_221 rfl rfl ?_
  refine a_iconst (pc := 222) dL_law_222 ic_2 ?_
  refine a_iaddN (pc := 223) dL_law_223 ?_
  refine a_sld (pc := 224) (i := 6 * k + 2) hC hL3 (by omega) dL_law_224 ?_
  refine a_aload_n (pc := 225) dL_law_225 rfl rfl ?_
  refine a_iload_n (pc := 226) dL_law_226 rfl rfl ?_
  refine a_iconst (pc := 227) dL_law_227 ic_3 ?_
  refine a_iaddN (pc := 228) dL_law_228 ?_
  refine a_sld (pc := 229) (i := 6 * k + 3) hC hL3 (by omega) dL_law_229 ?_
  refine a_callV (pc := 230) km_L_22 dL_law_230 (f_run hm hL.2.1 _ _ _) rfl rfl (krecv_of (ci := 12) rfl (m_obj hm)) (rok_law hC (by decide) (by decide) (by omega) (by omega)) (Nat.le_of_ble_eq_true rfl) (fun r230 h230 hp230 => ?_)
  obtain ⟨rfl, t2, rfl, hsp⟩ := hp230
  refine a_icmp_eq (pc := 233) (tgt := 1268) dL_law_233 (by decide) (fun c233 => ?_) (fun c233 => ?_)
  · exact a_wid (by omega) (by omega) (kk t2 σ' _ (li_2 hm z1 i1 ap1 (MV_R_run hL.2.1 _ _ _) hsp))
  · exact absurd rfl c233
set_option maxRecDepth 4000 in
theorem law_at {nm ds : String} {k uc us : Nat} (hC : LC M b L xs) (hL3 : L ≤ 3072) (hk : 6 * k + 6 ≤ L) (hu : uc ≤ 300000) (hs : us ≤ 6000000) (hL : LI X m t σ h a) (kk : ∀ t' σ' h', LI X m t' σ' h' a → AJ X M ⟨RL, nm, ds⟩ cL_law 4 ret 1268 [(0, .ref b), (1, .ref a), (2, .ref (m 65)), (3, .int (nI (6 * k)))] [] h' (uc + 200) (us + 10000)) : AJ X M ⟨RL, nm, ds⟩ cL_law 4 ret 238 [(0, .ref b), (1, .ref a), (2, .ref (m 65)), (3, .int (nI (6 * k)))] [] h uc us := by
  have hm := hL.1
  have ha := hL.2.2.2.2.2
  subst ha
  refine a_aload_n (pc := 238) dL_law_238 rfl rfl ?_
  refine a_aload_n (pc := 239) dL_law_239 rfl rfl ?_
  refine a_iload_n (pc := 240) dL_law_240 rfl rfl ?_
  refine a_iconst (pc := 241) dL_law_241 ic_1 ?_
  refine a_iaddN (pc := 242) dL_law_242 ?_
  refine a_sld (pc := 243) (i := 6 * k + 1) hC hL3 (by omega) dL_law_243 ?_
  refine a_aload_n (pc := 244) dL_law_244 rfl rfl ?_
  refine a_iload_n (pc := 245) dL_law_245 rfl rfl ?_
  refine a_iconst (pc := 246) dL_law_246 ic_2 ?_
  refine a_iaddN (pc := 247) dL_law_247 ?_
  refine a_sld (pc := 248) (i := 6 * k + 2) hC hL3 (by omega) dL_law_248 ?_
  refine a_aload_n (pc := 249) dL_law_249 rfl rfl ?_
  refine a_iload_n (pc := 250) dL_law_250 rfl rfl ?_
  refine a_iconst (pc := 251) dL_law_251 ic_3 ?_
  refine a_iaddN (pc := 252) dL_law_252 ?_
  refine a_sld (pc := 253) (i := 6 * k + 3) hC hL3 (by omega) dL_law_253 ?_
  refine a_callV (pc := 254) km_L_23 dL_law_254 (f_cat hL.2.2.1 hL.2.1 _ _ _) rfl rfl (kr_t hL.2.2.1) (rok_law hC (by decide) (by decide) (by omega) (by omega)) (Nat.le_of_ble_eq_true rfl) (fun r254 h254 hp254 => ?_)
  obtain ⟨rfl, hE⟩ := hp254
  obtain ⟨e1, σ', z1, i1, ap1⟩ := li_1 hL hE
  refine a_hp e1 ?_
  refine a_aload_n (pc := 257) dL_law_257 rfl rfl ?_
  refine a_aload_n (pc := 258) dL_law_258 rfl rfl ?_
  refine a_iload_n (pc := 259) dL_law_259 rfl rfl ?_
  refine a_iconst (pc := 260) dL_law_260 ic_1 ?_
  refine a_iaddN (pc := 261) dL_law_261 ?_
  refine a_sld (pc := 262) (i := 6 * k + 1) hC hL3 (by omega) dL_law_262 ?_
  refine a_aload_n (pc := 263) dL_law_263 rfl rfl ?_
  refine a_iload_n (pc := 264) dL_law_264 rfl rfl ?_
  refine a_iconst (pc := 265) dL_law_265 ic_2 ?_
  refine a_iaddN (pc := 266) dL_law_266 ?_
  refine a_sld (pc := 267) (i := 6 * k + 2) hC hL3 (by omega) dL_law_267 ?_
  refine a_aload_n (pc := 268) dL_law_268 rfl rfl ?_
  refine a_iload_n (pc := 269) dL_law_269 rfl rfl ?_
  refine a_iconst (pc := 270) dL_law_270 ic_3 ?_
  refine a_iaddN (pc := 271) dL_law_271 ?_
  refine a_sld (pc := 272) (i := 6 * k + 3) hC hL3 (by omega) dL_law_272 ?_
  refine a_callV (pc := 273) km_L_26 dL_law_273 (f_at hm hL.2.1 _ _ _) rfl rfl (krecv_of (ci := 12) rfl (m_obj hm)) (rok_law hC (by decide) (by decide) (by omega) (by omega)) (Nat.le_of_ble_eq_true rfl) (fun r273 h273 hp273 => ?_)
  obtain ⟨rfl, rfl⟩ := hp273
  refine a_icmp_eq (pc := 276) (tgt := 1268) dL_law_276 (by decide) (fun c276 => ?_) (fun c276 => ?_)
  · exact a_wid (by omega) (by omega) (kk t σ' _ (li_2 hm z1 i1 ap1 (hL.2.1) SP.rfl))
  · exact absurd rfl c276
set_option maxRecDepth 4000 in
theorem law_guess {nm ds : String} {k uc us : Nat} (hC : LC M b L xs) (hL3 : L ≤ 3072) (hk : 6 * k + 6 ≤ L) (hu : uc ≤ 300000) (hs : us ≤ 6000000) (hL : LI X m t σ h a) (kk : ∀ t' σ' h', LI X m t' σ' h' a → AJ X M ⟨RL, nm, ds⟩ cL_law 4 ret 1268 [(0, .ref b), (1, .ref a), (2, .ref (m 65)), (3, .int (nI (6 * k)))] [] h' (uc + 200) (us + 10000)) : AJ X M ⟨RL, nm, ds⟩ cL_law 4 ret 281 [(0, .ref b), (1, .ref a), (2, .ref (m 65)), (3, .int (nI (6 * k)))] [] h uc us := by
  have hm := hL.1
  have ha := hL.2.2.2.2.2
  subst ha
  refine a_aload_n (pc := 281) dL_law_281 rfl rfl ?_
  refine a_aload_n (pc := 282) dL_law_282 rfl rfl ?_
  refine a_iload_n (pc := 283) dL_law_283 rfl rfl ?_
  refine a_iconst (pc := 284) dL_law_284 ic_1 ?_
  refine a_iaddN (pc := 285) dL_law_285 ?_
  refine a_sld (pc := 286) (i := 6 * k + 1) hC hL3 (by omega) dL_law_286 ?_
  refine a_aload_n (pc := 287) dL_law_287 rfl rfl ?_
  refine a_iload_n (pc := 288) dL_law_288 rfl rfl ?_
  refine a_iconst (pc := 289) dL_law_289 ic_2 ?_
  refine a_iaddN (pc := 290) dL_law_290 ?_
  refine a_sld (pc := 291) (i := 6 * k + 2) hC hL3 (by omega) dL_law_291 ?_
  refine a_aload_n (pc := 292) dL_law_292 rfl rfl ?_
  refine a_iload_n (pc := 293) dL_law_293 rfl rfl ?_
  refine a_iconst (pc := 294) dL_law_294 ic_3 ?_
  refine a_iaddN (pc := 295) dL_law_295 ?_
  refine a_sld (pc := 296) (i := 6 * k + 3) hC hL3 (by omega) dL_law_296 ?_
  refine a_callV (pc := 297) km_L_27 dL_law_297 (f_cguess hL.2.2.1 hL.2.1 _ _ _) rfl rfl (kr_t hL.2.2.1) (rok_law hC (by decide) (by decide) (by omega) (by omega)) (Nat.le_of_ble_eq_true rfl) (fun r297 h297 hp297 => ?_)
  obtain ⟨rfl, hE⟩ := hp297
  obtain ⟨e1, σ', z1, i1, ap1⟩ := li_1 hL hE
  refine a_hp e1 ?_
  refine a_aload_n (pc := 300) dL_law_300 rfl rfl ?_
  refine a_aload_n (pc := 301) dL_law_301 rfl rfl ?_
  refine a_iload_n (pc := 302) dL_law_302 rfl rfl ?_
  refine a_iconst (pc := 303) dL_law_303 ic_1 ?_
  refine a_iaddN (pc := 304) dL_law_304 ?_
  refine a_sld (pc := 305) (i := 6 * k + 1) hC hL3 (by omega) dL_law_305 ?_
  refine a_aload_n (pc := 306) dL_law_306 rfl rfl ?_
  refine a_iload_n (pc := 307) dL_law_307 rfl rfl ?_
  refine a_iconst (pc := 308) dL_law_308 ic_2 ?_
  refine a_iaddN (pc := 309) dL_law_309 ?_
  refine a_sld (pc := 310) (i := 6 * k + 2) hC hL3 (by omega) dL_law_310 ?_
  refine a_aload_n (pc := 311) dL_law_311 rfl rfl ?_
  refine a_iload_n (pc := 312) dL_law_312 rfl rfl ?_
  refine a_iconst (pc := 313) dL_law_313 ic_3 ?_
  refine a_iaddN (pc := 314) dL_law_314 ?_
  refine a_sld (pc := 315) (i := 6 * k + 3) hC hL3 (by omega) dL_law_315 ?_
  refine a_callV (pc := 316) km_L_30 dL_law_316 (f_guess hm hL.2.1 _ _ _) rfl rfl (krecv_of (ci := 12) rfl (m_obj hm)) (rok_law hC (by decide) (by decide) (by omega) (by omega)) (Nat.le_of_ble_eq_true rfl) (fun r316 h316 hp316 => ?_)
  obtain ⟨rfl, t2, rfl, hsp⟩ := hp316
  refine a_icmp_eq (pc := 319) (tgt := 1268) dL_law_319 (by decide) (fun c319 => ?_) (fun c319 => ?_)
  · exact a_wid (by omega) (by omega) (kk t2 σ' _ (li_2 hm z1 i1 ap1 (MV_guess hL.2.1 _ _ _) hsp))
  · exact absurd rfl c319
set_option maxRecDepth 4000 in
theorem law_slip {nm ds : String} {k uc us : Nat} (hC : LC M b L xs) (hL3 : L ≤ 3072) (hk : 6 * k + 6 ≤ L) (hu : uc ≤ 300000) (hs : us ≤ 6000000) (hL : LI X m t σ h a) (kk : ∀ t' σ' h', LI X m t' σ' h' a → AJ X M ⟨RL, nm, ds⟩ cL_law 4 ret 1268 [(0, .ref b), (1, .ref a), (2, .ref (m 65)), (3, .int (nI (6 * k)))] [] h' (uc + 200) (us + 10000)) : AJ X M ⟨RL, nm, ds⟩ cL_law 4 ret 324 [(0, .ref b), (1, .ref a), (2, .ref (m 65)), (3, .int (nI (6 * k)))] [] h uc us := by
  have hm := hL.1
  have ha := hL.2.2.2.2.2
  subst ha
  refine a_aload_n (pc := 324) dL_law_324 rfl rfl ?_
  refine a_aload_n (pc := 325) dL_law_325 rfl rfl ?_
  refine a_iload_n (pc := 326) dL_law_326 rfl rfl ?_
  refine a_iconst (pc := 327) dL_law_327 ic_1 ?_
  refine a_iaddN (pc := 328) dL_law_328 ?_
  refine a_sld (pc := 329) (i := 6 * k + 1) hC hL3 (by omega) dL_law_329 ?_
  refine a_aload_n (pc := 330) dL_law_330 rfl rfl ?_
  refine a_iload_n (pc := 331) dL_law_331 rfl rfl ?_
  refine a_iconst (pc := 332) dL_law_332 ic_2 ?_
  refine a_iaddN (pc := 333) dL_law_333 ?_
  refine a_sld (pc := 334) (i := 6 * k + 2) hC hL3 (by omega) dL_law_334 ?_
  refine a_aload_n (pc := 335) dL_law_335 rfl rfl ?_
  refine a_iload_n (pc := 336) dL_law_336 rfl rfl ?_
  refine a_iconst (pc := 337) dL_law_337 ic_3 ?_
  refine a_iaddN (pc := 338) dL_law_338 ?_
  refine a_sld (pc := 339) (i := 6 * k + 3) hC hL3 (by omega) dL_law_339 ?_
  refine a_callV (pc := 340) km_L_31 dL_law_340 (f_cslipX hL.2.2.1 hL.2.1 _ _ _) rfl rfl (kr_t hL.2.2.1) (rok_law hC (by decide) (by decide) (by omega) (by omega)) (Nat.le_of_ble_eq_true rfl) (fun r340 h340 hp340 => ?_)
  obtain ⟨rfl, hE⟩ := hp340
  obtain ⟨e1, σ', z1, i1, ap1⟩ := li_1 hL hE
  refine a_hp e1 ?_
  refine a_aload_n (pc := 343) dL_law_343 rfl rfl ?_
  refine a_aload_n (pc := 344) dL_law_344 rfl rfl ?_
  refine a_iload_n (pc := 345) dL_law_345 rfl rfl ?_
  refine a_iconst (pc := 346) dL_law_346 ic_1 ?_
  refine a_iaddN (pc := 347) dL_law_347 ?_
  refine a_sld (pc := 348) (i := 6 * k + 1) hC hL3 (by omega) dL_law_348 ?_
  refine a_aload_n (pc := 349) dL_law_349 rfl rfl ?_
  refine a_iload_n (pc := 350) dL_law_350 rfl rfl ?_
  refine a_iconst (pc := 351) dL_law_351 ic_2 ?_
  refine a_iaddN (pc := 352) dL_law_352 ?_
  refine a_sld (pc := 353) (i := 6 * k + 2) hC hL3 (by omega) dL_law_353 ?_
  refine a_aload_n (pc := 354) dL_law_354 rfl rfl ?_
  refine a_iload_n (pc := 355) dL_law_355 rfl rfl ?_
  refine a_iconst (pc := 356) dL_law_356 ic_3 ?_
  refine a_iaddN (pc := 357) dL_law_357 ?_
  refine a_sld (pc := 358) (i := 6 * k + 3) hC hL3 (by omega) dL_law_358 ?_
  refine a_callV (pc := 359) km_L_34 dL_law_359 (f_slip hm hL.2.1 _ _ _) rfl rfl (krecv_of (ci := 12) rfl (m_obj hm)) (rok_law hC (by decide) (by decide) (by omega) (by omega)) (Nat.le_of_ble_eq_true rfl) (fun r359 h359 hp359 => ?_)
  obtain ⟨rfl, t2, rfl, hsp⟩ := hp359
  refine a_icmp_eq (pc := 362) (tgt := 1268) dL_law_362 (by decide) (fun c362 => ?_) (fun c362 => ?_)
  · exact a_wid (by omega) (by omega) (kk t2 σ' _ (li_2 hm z1 i1 ap1 (MV_slip hL.2.1 _ _ _) hsp))
  · exact absurd rfl c362
set_option maxRecDepth 4000 in
theorem law_cut {nm ds : String} {k uc us : Nat} (hC : LC M b L xs) (hL3 : L ≤ 3072) (hk : 6 * k + 6 ≤ L) (hu : uc ≤ 300000) (hs : us ≤ 6000000) (hL : LI X m t σ h a) (kk : ∀ t' σ' h', LI X m t' σ' h' a → AJ X M ⟨RL, nm, ds⟩ cL_law 4 ret 1268 [(0, .ref b), (1, .ref a), (2, .ref (m 65)), (3, .int (nI (6 * k)))] [] h' (uc + 200) (us + 10000)) : AJ X M ⟨RL, nm, ds⟩ cL_law 4 ret 367 [(0, .ref b), (1, .ref a), (2, .ref (m 65)), (3, .int (nI (6 * k)))] [] h uc us := by
  have hm := hL.1
  have ha := hL.2.2.2.2.2
  subst ha
  refine a_aload_n (pc := 367) dL_law_367 rfl rfl ?_
  refine a_aload_n (pc := 368) dL_law_368 rfl rfl ?_
  refine a_iload_n (pc := 369) dL_law_369 rfl rfl ?_
  refine a_iconst (pc := 370) dL_law_370 ic_1 ?_
  refine a_iaddN (pc := 371) dL_law_371 ?_
  refine a_sld (pc := 372) (i := 6 * k + 1) hC hL3 (by omega) dL_law_372 ?_
  refine a_aload_n (pc := 373) dL_law_373 rfl rfl ?_
  refine a_iload_n (pc := 374) dL_law_374 rfl rfl ?_
  refine a_iconst (pc := 375) dL_law_375 ic_2 ?_
  refine a_iaddN (pc := 376) dL_law_376 ?_
  refine a_sld (pc := 377) (i := 6 * k + 2) hC hL3 (by omega) dL_law_377 ?_
  refine a_callV (pc := 378) km_L_35 dL_law_378 (f_ccutX hL.2.2.1 hL.2.1 _ _) rfl rfl (kr_t hL.2.2.1) (rok_law hC (by decide) (by decide) (by omega) (by omega)) (Nat.le_of_ble_eq_true rfl) (fun r378 h378 hp378 => ?_)
  obtain ⟨rfl, hE⟩ := hp378
  obtain ⟨e1, σ', z1, i1, ap1⟩ := li_1 hL hE
  refine a_hp e1 ?_
  refine a_aload_n (pc := 381) dL_law_381 rfl rfl ?_
  refine a_aload_n (pc := 382) dL_law_382 rfl rfl ?_
  refine a_iload_n (pc := 383) dL_law_383 rfl rfl ?_
  refine a_iconst (pc := 384) dL_law_384 ic_1 ?_
  refine a_iaddN (pc := 385) dL_law_385 ?_
  refine a_sld (pc := 386) (i := 6 * k + 1) hC hL3 (by omega) dL_law_386 ?_
  refine a_aload_n (pc := 387) dL_law_387 rfl rfl ?_
  refine a_iload_n (pc := 388) dL_law_388 rfl rfl ?_
  refine a_iconst (pc := 389) dL_law_389 ic_2 ?_
  refine a_iaddN (pc := 390) dL_law_390 ?_
  refine a_sld (pc := 391) (i := 6 * k + 2) hC hL3 (by omega) dL_law_391 ?_
  refine a_callV (pc := 392) km_L_39 dL_law_392 (f_cut hm hL.2.1 _ _) rfl rfl (krecv_of (ci := 12) rfl (m_obj hm)) (rok_law hC (by decide) (by decide) (by omega) (by omega)) (Nat.le_of_ble_eq_true rfl) (fun r392 h392 hp392 => ?_)
  obtain ⟨rfl, t2, rfl, hsp⟩ := hp392
  refine a_icmp_eq (pc := 395) (tgt := 1268) dL_law_395 (by decide) (fun c395 => ?_) (fun c395 => ?_)
  · exact a_wid (by omega) (by omega) (kk t2 σ' _ (li_2 hm z1 i1 ap1 (MV_cut hL.2.1 _ _) hsp))
  · exact absurd rfl c395
set_option maxRecDepth 4000 in
theorem law_shuffle {nm ds : String} {k uc us : Nat} (hC : LC M b L xs) (hL3 : L ≤ 3072) (hk : 6 * k + 6 ≤ L) (hu : uc ≤ 300000) (hs : us ≤ 6000000) (hL : LI X m t σ h a) (kk : ∀ t' σ' h', LI X m t' σ' h' a → AJ X M ⟨RL, nm, ds⟩ cL_law 4 ret 1268 [(0, .ref b), (1, .ref a), (2, .ref (m 65)), (3, .int (nI (6 * k)))] [] h' (uc + 200) (us + 10000)) : AJ X M ⟨RL, nm, ds⟩ cL_law 4 ret 400 [(0, .ref b), (1, .ref a), (2, .ref (m 65)), (3, .int (nI (6 * k)))] [] h uc us := by
  have hm := hL.1
  have ha := hL.2.2.2.2.2
  subst ha
  refine a_aload_n (pc := 400) dL_law_400 rfl rfl ?_
  refine a_aload_n (pc := 401) dL_law_401 rfl rfl ?_
  refine a_iload_n (pc := 402) dL_law_402 rfl rfl ?_
  refine a_iconst (pc := 403) dL_law_403 ic_1 ?_
  refine a_iaddN (pc := 404) dL_law_404 ?_
  refine a_sld (pc := 405) (i := 6 * k + 1) hC hL3 (by omega) dL_law_405 ?_
  refine a_aload_n (pc := 406) dL_law_406 rfl rfl ?_
  refine a_iload_n (pc := 407) dL_law_407 rfl rfl ?_
  refine a_iconst (pc := 408) dL_law_408 ic_2 ?_
  refine a_iaddN (pc := 409) dL_law_409 ?_
  refine a_sld (pc := 410) (i := 6 * k + 2) hC hL3 (by omega) dL_law_410 ?_
  refine a_callV (pc := 411) km_L_40 dL_law_411 (f_cshuf hL.2.2.1 hL.2.1 _ _) rfl rfl (kr_t hL.2.2.1) (rok_law hC (by decide) (by decide) (by omega) (by omega)) (Nat.le_of_ble_eq_true rfl) (fun r411 h411 hp411 => ?_)
  obtain ⟨rfl, hE⟩ := hp411
  obtain ⟨e1, σ', z1, i1, ap1⟩ := li_1 hL hE
  refine a_hp e1 ?_
  refine a_aload_n (pc := 414) dL_law_414 rfl rfl ?_
  refine a_aload_n (pc := 415) dL_law_415 rfl rfl ?_
  refine a_iload_n (pc := 416) dL_law_416 rfl rfl ?_
  refine a_iconst (pc := 417) dL_law_417 ic_1 ?_
  refine a_iaddN (pc := 418) dL_law_418 ?_
  refine a_sld (pc := 419) (i := 6 * k + 1) hC hL3 (by omega) dL_law_419 ?_
  refine a_aload_n (pc := 420) dL_law_420 rfl rfl ?_
  refine a_iload_n (pc := 421) dL_law_421 rfl rfl ?_
  refine a_iconst (pc := 422) dL_law_422 ic_2 ?_
  refine a_iaddN (pc := 423) dL_law_423 ?_
  refine a_sld (pc := 424) (i := 6 * k + 2) hC hL3 (by omega) dL_law_424 ?_
  refine a_callV (pc := 425) km_L_43 dL_law_425 (f_shuffle hm hL.2.1 _ _) rfl rfl (krecv_of (ci := 12) rfl (m_obj hm)) (rok_law hC (by decide) (by decide) (by omega) (by omega)) (Nat.le_of_ble_eq_true rfl) (fun r425 h425 hp425 => ?_)
  obtain ⟨rfl, t2, rfl, hsp⟩ := hp425
  refine a_icmp_eq (pc := 428) (tgt := 1268) dL_law_428 (by decide) (fun c428 => ?_) (fun c428 => ?_)
  · exact a_wid (by omega) (by omega) (kk t2 σ' _ (li_2 hm z1 i1 ap1 (MV_shuffle hL.2.1 _ _) hsp))
  · exact absurd rfl c428
set_option maxRecDepth 4000 in
theorem law_told {nm ds : String} {k uc us : Nat} (hC : LC M b L xs) (hL3 : L ≤ 3072) (hk : 6 * k + 6 ≤ L) (hu : uc ≤ 300000) (hs : us ≤ 6000000) (hL : LI X m t σ h a) (kk : ∀ t' σ' h', LI X m t' σ' h' a → AJ X M ⟨RL, nm, ds⟩ cL_law 4 ret 1268 [(0, .ref b), (1, .ref a), (2, .ref (m 65)), (3, .int (nI (6 * k)))] [] h' (uc + 200) (us + 10000)) : AJ X M ⟨RL, nm, ds⟩ cL_law 4 ret 433 [(0, .ref b), (1, .ref a), (2, .ref (m 65)), (3, .int (nI (6 * k)))] [] h uc us := by
  have hm := hL.1
  have ha := hL.2.2.2.2.2
  subst ha
  refine a_aload_n (pc := 433) dL_law_433 rfl rfl ?_
  refine a_aload_n (pc := 434) dL_law_434 rfl rfl ?_
  refine a_iload_n (pc := 435) dL_law_435 rfl rfl ?_
  refine a_iconst (pc := 436) dL_law_436 ic_1 ?_
  refine a_iaddN (pc := 437) dL_law_437 ?_
  refine a_sld (pc := 438) (i := 6 * k + 1) hC hL3 (by omega) dL_law_438 ?_
  refine a_aload_n (pc := 439) dL_law_439 rfl rfl ?_
  refine a_iload_n (pc := 440) dL_law_440 rfl rfl ?_
  refine a_iconst (pc := 441) dL_law_441 ic_2 ?_
  refine a_iaddN (pc := 442) dL_law_442 ?_
  refine a_sld (pc := 443) (i := 6 * k + 2) hC hL3 (by omega) dL_law_443 ?_
  refine a_callV (pc := 444) km_L_44 dL_law_444 (f_ctold hL.2.2.1 hL.2.1 _ _) rfl rfl (kr_t hL.2.2.1) (rok_law hC (by decide) (by decide) (by omega) (by omega)) (Nat.le_of_ble_eq_true rfl) (fun r444 h444 hp444 => ?_)
  obtain ⟨rfl, hE⟩ := hp444
  obtain ⟨e1, σ', z1, i1, ap1⟩ := li_1 hL hE
  refine a_hp e1 ?_
  refine a_aload_n (pc := 447) dL_law_447 rfl rfl ?_
  refine a_aload_n (pc := 448) dL_law_448 rfl rfl ?_
  refine a_iload_n (pc := 449) dL_law_449 rfl rfl ?_
  refine a_iconst (pc := 450) dL_law_450 ic_1 ?_
  refine a_iaddN (pc := 451) dL_law_451 ?_
  refine a_sld (pc := 452) (i := 6 * k + 1) hC hL3 (by omega) dL_law_452 ?_
  refine a_aload_n (pc := 453) dL_law_453 rfl rfl ?_
  refine a_iload_n (pc := 454) dL_law_454 rfl rfl ?_
  refine a_iconst (pc := 455) dL_law_455 ic_2 ?_
  refine a_iaddN (pc := 456) dL_law_456 ?_
  refine a_sld (pc := 457) (i := 6 * k + 2) hC hL3 (by omega) dL_law_457 ?_
  refine a_callV (pc := 458) km_L_47 dL_law_458 (f_told hm hL.2.1 _ _) rfl rfl (krecv_of (ci := 12) rfl (m_obj hm)) (rok_law hC (by decide) (by decide) (by omega) (by omega)) (Nat.le_of_ble_eq_true rfl) (fun r458 h458 hp458 => ?_)
  obtain ⟨rfl, t2, rfl, hsp⟩ := hp458
  refine a_icmp_eq (pc := 461) (tgt := 1268) dL_law_461 (by decide) (fun c461 => ?_) (fun c461 => ?_)
  · exact a_wid (by omega) (by omega) (kk t2 σ' _ (li_2 hm z1 i1 ap1 ((by rw [ro_told]; exact hL.2.1)) hsp))
  · exact absurd rfl c461
set_option maxRecDepth 4000 in
theorem law_exact {nm ds : String} {k uc us : Nat} (hC : LC M b L xs) (hL3 : L ≤ 3072) (hk : 6 * k + 6 ≤ L) (hu : uc ≤ 300000) (hs : us ≤ 6000000) (hL : LI X m t σ h a) (kk : ∀ t' σ' h', LI X m t' σ' h' a → AJ X M ⟨RL, nm, ds⟩ cL_law 4 ret 1268 [(0, .ref b), (1, .ref a), (2, .ref (m 65)), (3, .int (nI (6 * k)))] [] h' (uc + 200) (us + 10000)) : AJ X M ⟨RL, nm, ds⟩ cL_law 4 ret 466 [(0, .ref b), (1, .ref a), (2, .ref (m 65)), (3, .int (nI (6 * k)))] [] h uc us := by
  have hm := hL.1
  have ha := hL.2.2.2.2.2
  subst ha
  refine a_aload_n (pc := 466) dL_law_466 rfl rfl ?_
  refine a_aload_n (pc := 467) dL_law_467 rfl rfl ?_
  refine a_iload_n (pc := 468) dL_law_468 rfl rfl ?_
  refine a_iconst (pc := 469) dL_law_469 ic_1 ?_
  refine a_iaddN (pc := 470) dL_law_470 ?_
  refine a_sld (pc := 471) (i := 6 * k + 1) hC hL3 (by omega) dL_law_471 ?_
  refine a_aload_n (pc := 472) dL_law_472 rfl rfl ?_
  refine a_iload_n (pc := 473) dL_law_473 rfl rfl ?_
  refine a_iconst (pc := 474) dL_law_474 ic_2 ?_
  refine a_iaddN (pc := 475) dL_law_475 ?_
  refine a_sld (pc := 476) (i := 6 * k + 2) hC hL3 (by omega) dL_law_476 ?_
  refine a_aload_n (pc := 477) dL_law_477 rfl rfl ?_
  refine a_iload_n (pc := 478) dL_law_478 rfl rfl ?_
  refine a_iconst (pc := 479) dL_law_479 ic_3 ?_
  refine a_iaddN (pc := 480) dL_law_480 ?_
  refine a_sld (pc := 481) (i := 6 * k + 3) hC hL3 (by omega) dL_law_481 ?_
  refine a_callV (pc := 482) km_L_48 dL_law_482 (f_cexact hL.2.2.1 hL.2.1 _ _ _) rfl rfl (kr_t hL.2.2.1) (rok_law hC (by decide) (by decide) (by omega) (by omega)) (Nat.le_of_ble_eq_true rfl) (fun r482 h482 hp482 => ?_)
  obtain ⟨rfl, hE⟩ := hp482
  obtain ⟨e1, σ', z1, i1, ap1⟩ := li_1 hL hE
  refine a_hp e1 ?_
  refine a_aload_n (pc := 485) dL_law_485 rfl rfl ?_
  refine a_aload_n (pc := 486) dL_law_486 rfl rfl ?_
  refine a_iload_n (pc := 487) dL_law_487 rfl rfl ?_
  refine a_iconst (pc := 488) dL_law_488 ic_1 ?_
  refine a_iaddN (pc := 489) dL_law_489 ?_
  refine a_sld (pc := 490) (i := 6 * k + 1) hC hL3 (by omega) dL_law_490 ?_
  refine a_aload_n (pc := 491) dL_law_491 rfl rfl ?_
  refine a_iload_n (pc := 492) dL_law_492 rfl rfl ?_
  refine a_iconst (pc := 493) dL_law_493 ic_2 ?_
  refine a_iaddN (pc := 494) dL_law_494 ?_
  refine a_sld (pc := 495) (i := 6 * k + 2) hC hL3 (by omega) dL_law_495 ?_
  refine a_aload_n (pc := 496) dL_law_496 rfl rfl ?_
  refine a_iload_n (pc := 497) dL_law_497 rfl rfl ?_
  refine a_iconst (pc := 498) dL_law_498 ic_3 ?_
  refine a_iaddN (pc := 499) dL_law_499 ?_
  refine a_sld (pc := 500) (i := 6 * k + 3) hC hL3 (by omega) dL_law_500 ?_
  refine a_callV (pc := 501) km_L_52 dL_law_501 (f_exact hm hL.2.1 _ _ _) rfl rfl (krecv_of (ci := 12) rfl (m_obj hm)) (rok_law hC (by decide) (by decide) (by omega) (by omega)) (Nat.le_of_ble_eq_true rfl) (fun r501 h501 hp501 => ?_)
  obtain ⟨rfl, t2, rfl, hsp⟩ := hp501
  refine a_lif_eq (pc := 504) (tgt := 1268) dL_law_504 dL_law_505 (by decide) (fun c505 => ?_) (fun c505 => ?_)
  · exact a_wid (by omega) (by omega) (kk t2 σ' _ (li_2 hm z1 i1 ap1 ((by rw [ro_exact]; exact hL.2.1)) hsp))
  · exact absurd rfl c505
set_option maxRecDepth 4000 in
theorem law_leak {nm ds : String} {k uc us : Nat} (hC : LC M b L xs) (hL3 : L ≤ 3072) (hk : 6 * k + 6 ≤ L) (hu : uc ≤ 300000) (hs : us ≤ 6000000) (hL : LI X m t σ h a) (kk : ∀ t' σ' h', LI X m t' σ' h' a → AJ X M ⟨RL, nm, ds⟩ cL_law 4 ret 1268 [(0, .ref b), (1, .ref a), (2, .ref (m 65)), (3, .int (nI (6 * k)))] [] h' (uc + 200) (us + 10000)) : AJ X M ⟨RL, nm, ds⟩ cL_law 4 ret 510 [(0, .ref b), (1, .ref a), (2, .ref (m 65)), (3, .int (nI (6 * k)))] [] h uc us := by
  have hm := hL.1
  have ha := hL.2.2.2.2.2
  subst ha
  refine a_aload_n (pc := 510) dL_law_510 rfl rfl ?_
  refine a_aload_n (pc := 511) dL_law_511 rfl rfl ?_
  refine a_iload_n (pc := 512) dL_law_512 rfl rfl ?_
  refine a_iconst (pc := 513) dL_law_513 ic_1 ?_
  refine a_iaddN (pc := 514) dL_law_514 ?_
  refine a_sld (pc := 515) (i := 6 * k + 1) hC hL3 (by omega) dL_law_515 ?_
  refine a_aload_n (pc := 516) dL_law_516 rfl rfl ?_
  refine a_iload_n (pc := 517) dL_law_517 rfl rfl ?_
  refine a_iconst (pc := 518) dL_law_518 ic_2 ?_
  refine a_iaddN (pc := 519) dL_law_519 ?_
  refine a_sld (pc := 520) (i := 6 * k + 2) hC hL3 (by omega) dL_law_520 ?_
  refine a_aload_n (pc := 521) dL_law_521 rfl rfl ?_
  refine a_iload_n (pc := 522) dL_law_522 rfl rfl ?_
  refine a_iconst (pc := 523) dL_law_523 ic_3 ?_
  refine a_iaddN (pc := 524) dL_law_524 ?_
  refine a_sld (pc := 525) (i := 6 * k + 3) hC hL3 (by omega) dL_law_525 ?_
  refine a_callV (pc := 526) km_L_53 dL_law_526 (f_cleak hL.2.2.1 hL.2.1 _ _ _) rfl rfl (kr_t hL.2.2.1) (rok_law hC (by decide) (by decide) (by omega) (by omega)) (Nat.le_of_ble_eq_true rfl) (fun r526 h526 hp526 => ?_)
  obtain ⟨rfl, hE⟩ := hp526
  obtain ⟨e1, σ', z1, i1, ap1⟩ := li_1 hL hE
  refine a_hp e1 ?_
  refine a_aload_n (pc := 529) dL_law_529 rfl rfl ?_
  refine a_aload_n (pc := 530) dL_law_530 rfl rfl ?_
  refine a_iload_n (pc := 531) dL_law_531 rfl rfl ?_
  refine a_iconst (pc := 532) dL_law_532 ic_1 ?_
  refine a_iaddN (pc := 533) dL_law_533 ?_
  refine a_sld (pc := 534) (i := 6 * k + 1) hC hL3 (by omega) dL_law_534 ?_
  refine a_aload_n (pc := 535) dL_law_535 rfl rfl ?_
  refine a_iload_n (pc := 536) dL_law_536 rfl rfl ?_
  refine a_iconst (pc := 537) dL_law_537 ic_2 ?_
  refine a_iaddN (pc := 538) dL_law_538 ?_
  refine a_sld (pc := 539) (i := 6 * k + 2) hC hL3 (by omega) dL_law_539 ?_
  refine a_aload_n (pc := 540) dL_law_540 rfl rfl ?_
  refine a_iload_n (pc := 541) dL_law_541 rfl rfl ?_
  refine a_iconst (pc := 542) dL_law_542 ic_3 ?_
  refine a_iaddN (pc := 543) dL_law_543 ?_
  refine a_sld (pc := 544) (i := 6 * k + 3) hC hL3 (by omega) dL_law_544 ?_
  refine a_callV (pc := 545) km_L_56 dL_law_545 (f_leak hm hL.2.1 _ _ _) rfl rfl (krecv_of (ci := 12) rfl (m_obj hm)) (rok_law hC (by decide) (by decide) (by omega) (by omega)) (Nat.le_of_ble_eq_true rfl) (fun r545 h545 hp545 => ?_)
  obtain ⟨rfl, t2, rfl, hsp⟩ := hp545
  refine a_icmp_eq (pc := 548) (tgt := 1268) dL_law_548 (by decide) (fun c548 => ?_) (fun c548 => ?_)
  · exact a_wid (by omega) (by omega) (kk t2 σ' _ (li_2 hm z1 i1 ap1 (MV_leak hL.2.1 _ _ _) hsp))
  · exact absurd rfl c548
set_option maxRecDepth 4000 in
theorem law_shut {nm ds : String} {k uc us : Nat} (hC : LC M b L xs) (hL3 : L ≤ 3072) (hk : 6 * k + 6 ≤ L) (hu : uc ≤ 300000) (hs : us ≤ 6000000) (hL : LI X m t σ h a) (kk : ∀ t' σ' h', LI X m t' σ' h' a → AJ X M ⟨RL, nm, ds⟩ cL_law 4 ret 1268 [(0, .ref b), (1, .ref a), (2, .ref (m 65)), (3, .int (nI (6 * k)))] [] h' (uc + 200) (us + 10000)) : AJ X M ⟨RL, nm, ds⟩ cL_law 4 ret 553 [(0, .ref b), (1, .ref a), (2, .ref (m 65)), (3, .int (nI (6 * k)))] [] h uc us := by
  have hm := hL.1
  have ha := hL.2.2.2.2.2
  subst ha
  refine a_aload_n (pc := 553) dL_law_553 rfl rfl ?_
  refine a_aload_n (pc := 554) dL_law_554 rfl rfl ?_
  refine a_iload_n (pc := 555) dL_law_555 rfl rfl ?_
  refine a_iconst (pc := 556) dL_law_556 ic_1 ?_
  refine a_iaddN (pc := 557) dL_law_557 ?_
  refine a_sld (pc := 558) (i := 6 * k + 1) hC hL3 (by omega) dL_law_558 ?_
  refine a_aload_n (pc := 559) dL_law_559 rfl rfl ?_
  refine a_iload_n (pc := 560) dL_law_560 rfl rfl ?_
  refine a_iconst (pc := 561) dL_law_561 ic_2 ?_
  refine a_iaddN (pc := 562) dL_law_562 ?_
  refine a_sld (pc := 563) (i := 6 * k + 2) hC hL3 (by omega) dL_law_563 ?_
  refine a_callV (pc := 564) km_L_57 dL_law_564 (f_cshut hL.2.2.1 hL.2.1 _ _) rfl rfl (kr_t hL.2.2.1) (rok_law hC (by decide) (by decide) (by omega) (by omega)) (Nat.le_of_ble_eq_true rfl) (fun r564 h564 hp564 => ?_)
  obtain ⟨rfl, hE⟩ := hp564
  obtain ⟨e1, σ', z1, i1, ap1⟩ := li_1 hL hE
  refine a_hp e1 ?_
  refine a_aload_n (pc := 567) dL_law_567 rfl rfl ?_
  refine a_aload_n (pc := 568) dL_law_568 rfl rfl ?_
  refine a_iload_n (pc := 569) dL_law_569 rfl rfl ?_
  refine a_iconst (pc := 570) dL_law_570 ic_1 ?_
  refine a_iaddN (pc := 571) dL_law_571 ?_
  refine a_sld (pc := 572) (i := 6 * k + 1) hC hL3 (by omega) dL_law_572 ?_
  refine a_aload_n (pc := 573) dL_law_573 rfl rfl ?_
  refine a_iload_n (pc := 574) dL_law_574 rfl rfl ?_
  refine a_iconst (pc := 575) dL_law_575 ic_2 ?_
  refine a_iaddN (pc := 576) dL_law_576 ?_
  refine a_sld (pc := 577) (i := 6 * k + 2) hC hL3 (by omega) dL_law_577 ?_
  refine a_callV (pc := 578) km_L_60 dL_law_578 (f_shut hm hL.2.1 _ _) rfl rfl (krecv_of (ci := 12) rfl (m_obj hm)) (rok_law hC (by decide) (by decide) (by omega) (by omega)) (Nat.le_of_ble_eq_true rfl) (fun r578 h578 hp578 => ?_)
  obtain ⟨rfl, t2, rfl, hsp⟩ := hp578
  refine a_icmp_eq (pc := 581) (tgt := 1268) dL_law_581 (by decide) (fun c581 => ?_) (fun c581 => ?_)
  · exact a_wid (by omega) (by omega) (kk t2 σ' _ (li_2 hm z1 i1 ap1 (MV_shut hL.2.1 _ _) hsp))
  · exact absurd rfl c581
set_option maxRecDepth 4000 in
theorem law_gives {nm ds : String} {k uc us : Nat} (hC : LC M b L xs) (hL3 : L ≤ 3072) (hk : 6 * k + 6 ≤ L) (hu : uc ≤ 300000) (hs : us ≤ 6000000) (hL : LI X m t σ h a) (kk : ∀ t' σ' h', LI X m t' σ' h' a → AJ X M ⟨RL, nm, ds⟩ cL_law 4 ret 1268 [(0, .ref b), (1, .ref a), (2, .ref (m 65)), (3, .int (nI (6 * k)))] [] h' (uc + 200) (us + 10000)) : AJ X M ⟨RL, nm, ds⟩ cL_law 4 ret 586 [(0, .ref b), (1, .ref a), (2, .ref (m 65)), (3, .int (nI (6 * k)))] [] h uc us := by
  have hm := hL.1
  have ha := hL.2.2.2.2.2
  subst ha
  refine a_aload_n (pc := 586) dL_law_586 rfl rfl ?_
  refine a_aload_n (pc := 587) dL_law_587 rfl rfl ?_
  refine a_iload_n (pc := 588) dL_law_588 rfl rfl ?_
  refine a_iconst (pc := 589) dL_law_589 ic_1 ?_
  refine a_iaddN (pc := 590) dL_law_590 ?_
  refine a_sld (pc := 591) (i := 6 * k + 1) hC hL3 (by omega) dL_law_591 ?_
  refine a_aload_n (pc := 592) dL_law_592 rfl rfl ?_
  refine a_iload_n (pc := 593) dL_law_593 rfl rfl ?_
  refine a_iconst (pc := 594) dL_law_594 ic_2 ?_
  refine a_iaddN (pc := 595) dL_law_595 ?_
  refine a_sld (pc := 596) (i := 6 * k + 2) hC hL3 (by omega) dL_law_596 ?_
  refine a_callV (pc := 597) km_L_61 dL_law_597 (f_cgives hL.2.2.1 hL.2.1 _ _) rfl rfl (kr_t hL.2.2.1) (rok_law hC (by decide) (by decide) (by omega) (by omega)) (Nat.le_of_ble_eq_true rfl) (fun r597 h597 hp597 => ?_)
  obtain ⟨rfl, hE⟩ := hp597
  obtain ⟨e1, σ', z1, i1, ap1⟩ := li_1 hL hE
  refine a_hp e1 ?_
  refine a_aload_n (pc := 600) dL_law_600 rfl rfl ?_
  refine a_aload_n (pc := 601) dL_law_601 rfl rfl ?_
  refine a_iload_n (pc := 602) dL_law_602 rfl rfl ?_
  refine a_iconst (pc := 603) dL_law_603 ic_1 ?_
  refine a_iaddN (pc := 604) dL_law_604 ?_
  refine a_sld (pc := 605) (i := 6 * k + 1) hC hL3 (by omega) dL_law_605 ?_
  refine a_aload_n (pc := 606) dL_law_606 rfl rfl ?_
  refine a_iload_n (pc := 607) dL_law_607 rfl rfl ?_
  refine a_iconst (pc := 608) dL_law_608 ic_2 ?_
  refine a_iaddN (pc := 609) dL_law_609 ?_
  refine a_sld (pc := 610) (i := 6 * k + 2) hC hL3 (by omega) dL_law_610 ?_
  refine a_callV (pc := 611) km_L_64 dL_law_611 (f_gives hm hL.2.1 _ _) rfl rfl (krecv_of (ci := 12) rfl (m_obj hm)) (rok_law hC (by decide) (by decide) (by omega) (by omega)) (Nat.le_of_ble_eq_true rfl) (fun r611 h611 hp611 => ?_)
  obtain ⟨rfl, t2, rfl, hsp⟩ := hp611
  refine a_icmp_eq (pc := 614) (tgt := 1268) dL_law_614 (by decide) (fun c614 => ?_) (fun c614 => ?_)
  · exact a_wid (by omega) (by omega) (kk t2 σ' _ (li_2 hm z1 i1 ap1 ((by rw [ro_gives]; exact hL.2.1)) hsp))
  · exact absurd rfl c614
set_option maxRecDepth 4000 in
theorem law_counts {nm ds : String} {k uc us : Nat} (hC : LC M b L xs) (hL3 : L ≤ 3072) (hk : 6 * k + 6 ≤ L) (hu : uc ≤ 300000) (hs : us ≤ 6000000) (hL : LI X m t σ h a) (kk : ∀ t' σ' h', LI X m t' σ' h' a → AJ X M ⟨RL, nm, ds⟩ cL_law 4 ret 1268 [(0, .ref b), (1, .ref a), (2, .ref (m 65)), (3, .int (nI (6 * k)))] [] h' (uc + 200) (us + 10000)) : AJ X M ⟨RL, nm, ds⟩ cL_law 4 ret 619 [(0, .ref b), (1, .ref a), (2, .ref (m 65)), (3, .int (nI (6 * k)))] [] h uc us := by
  have hm := hL.1
  have ha := hL.2.2.2.2.2
  subst ha
  refine a_aload_n (pc := 619) dL_law_619 rfl rfl ?_
  refine a_aload_n (pc := 620) dL_law_620 rfl rfl ?_
  refine a_iload_n (pc := 621) dL_law_621 rfl rfl ?_
  refine a_iconst (pc := 622) dL_law_622 ic_1 ?_
  refine a_iaddN (pc := 623) dL_law_623 ?_
  refine a_sld (pc := 624) (i := 6 * k + 1) hC hL3 (by omega) dL_law_624 ?_
  refine a_callV (pc := 625) km_L_65 dL_law_625 (f_ccounts hL.2.2.1 hL.2.1 _) rfl rfl (kr_t hL.2.2.1) (rok_law hC (by decide) (by decide) (by omega) (by omega)) (Nat.le_of_ble_eq_true rfl) (fun r625 h625 hp625 => ?_)
  obtain ⟨rfl, hE⟩ := hp625
  obtain ⟨e1, σ', z1, i1, ap1⟩ := li_1 hL hE
  refine a_hp e1 ?_
  refine a_aload_n (pc := 628) dL_law_628 rfl rfl ?_
  refine a_aload_n (pc := 629) dL_law_629 rfl rfl ?_
  refine a_iload_n (pc := 630) dL_law_630 rfl rfl ?_
  refine a_iconst (pc := 631) dL_law_631 ic_1 ?_
  refine a_iaddN (pc := 632) dL_law_632 ?_
  refine a_sld (pc := 633) (i := 6 * k + 1) hC hL3 (by omega) dL_law_633 ?_
  refine a_callV (pc := 634) km_L_68 dL_law_634 (f_counts hm hL.2.1 _) rfl rfl (krecv_of (ci := 12) rfl (m_obj hm)) (rok_law hC (by decide) (by decide) (by omega) (by omega)) (Nat.le_of_ble_eq_true rfl) (fun r634 h634 hp634 => ?_)
  obtain ⟨rfl, t2, rfl, hsp⟩ := hp634
  refine a_icmp_eq (pc := 637) (tgt := 1268) dL_law_637 (by decide) (fun c637 => ?_) (fun c637 => ?_)
  · exact a_wid (by omega) (by omega) (kk t2 σ' _ (li_2 hm z1 i1 ap1 ((by rw [ro_counts]; exact hL.2.1)) hsp))
  · exact absurd rfl c637
set_option maxRecDepth 4000 in
theorem law_screen {nm ds : String} {k uc us : Nat} (hC : LC M b L xs) (hL3 : L ≤ 3072) (hk : 6 * k + 6 ≤ L) (hu : uc ≤ 300000) (hs : us ≤ 6000000) (hL : LI X m t σ h a) (kk : ∀ t' σ' h', LI X m t' σ' h' a → AJ X M ⟨RL, nm, ds⟩ cL_law 4 ret 1268 [(0, .ref b), (1, .ref a), (2, .ref (m 65)), (3, .int (nI (6 * k)))] [] h' (uc + 200) (us + 10000)) : AJ X M ⟨RL, nm, ds⟩ cL_law 4 ret 642 [(0, .ref b), (1, .ref a), (2, .ref (m 65)), (3, .int (nI (6 * k)))] [] h uc us := by
  have hm := hL.1
  have ha := hL.2.2.2.2.2
  subst ha
  refine a_aload_n (pc := 642) dL_law_642 rfl rfl ?_
  refine a_aload_n (pc := 643) dL_law_643 rfl rfl ?_
  refine a_iload_n (pc := 644) dL_law_644 rfl rfl ?_
  refine a_iconst (pc := 645) dL_law_645 ic_1 ?_
  refine a_iaddN (pc := 646) dL_law_646 ?_
  refine a_sld (pc := 647) (i := 6 * k + 1) hC hL3 (by omega) dL_law_647 ?_
  refine a_aload_n (pc := 648) dL_law_648 rfl rfl ?_
  refine a_iload_n (pc := 649) dL_law_649 rfl rfl ?_
  refine a_iconst (pc := 650) dL_law_650 ic_2 ?_
  refine a_iaddN (pc := 651) dL_law_651 ?_
  refine a_sld (pc := 652) (i := 6 * k + 2) hC hL3 (by omega) dL_law_652 ?_
  refine a_callV (pc := 653) km_L_69 dL_law_653 (f_cscreen hL.2.2.1 hL.2.1 _ _) rfl rfl (kr_t hL.2.2.1) (rok_law hC (by decide) (by decide) (by omega) (by omega)) (Nat.le_of_ble_eq_true rfl) (fun r653 h653 hp653 => ?_)
  obtain ⟨rfl, hE⟩ := hp653
  obtain ⟨e1, σ', z1, i1, ap1⟩ := li_1 hL hE
  refine a_hp e1 ?_
  refine a_aload_n (pc := 656) dL_law_656 rfl rfl ?_
  refine a_aload_n (pc := 657) dL_law_657 rfl rfl ?_
  refine a_iload_n (pc := 658) dL_law_658 rfl rfl ?_
  refine a_iconst (pc := 659) dL_law_659 ic_1 ?_
  refine a_iaddN (pc := 660) dL_law_660 ?_
  refine a_sld (pc := 661) (i := 6 * k + 1) hC hL3 (by omega) dL_law_661 ?_
  refine a_aload_n (pc := 662) dL_law_662 rfl rfl ?_
  refine a_iload_n (pc := 663) dL_law_663 rfl rfl ?_
  refine a_iconst (pc := 664) dL_law_664 ic_2 ?_
  refine a_iaddN (pc := 665) dL_law_665 ?_
  refine a_sld (pc := 666) (i := 6 * k + 2) hC hL3 (by omega) dL_law_666 ?_
  refine a_callV (pc := 667) km_L_72 dL_law_667 (f_screen hm hL.2.1 _ _) rfl rfl (krecv_of (ci := 12) rfl (m_obj hm)) (rok_law hC (by decide) (by decide) (by omega) (by omega)) (Nat.le_of_ble_eq_true rfl) (fun r667 h667 hp667 => ?_)
  obtain ⟨rfl, t2, rfl, hsp⟩ := hp667
  refine a_icmp_eq (pc := 670) (tgt := 1268) dL_law_670 (by decide) (fun c670 => ?_) (fun c670 => ?_)
  · exact a_wid (by omega) (by omega) (kk t2 σ' _ (li_2 hm z1 i1 ap1 (MV_screen hL.2.1 _ _) hsp))
  · exact absurd rfl c670
set_option maxRecDepth 4000 in
theorem law_plan {nm ds : String} {k uc us : Nat} (hC : LC M b L xs) (hL3 : L ≤ 3072) (hk : 6 * k + 6 ≤ L) (hu : uc ≤ 300000) (hs : us ≤ 6000000) (hL : LI X m t σ h a) (kk : ∀ t' σ' h', LI X m t' σ' h' a → AJ X M ⟨RL, nm, ds⟩ cL_law 4 ret 1268 [(0, .ref b), (1, .ref a), (2, .ref (m 65)), (3, .int (nI (6 * k)))] [] h' (uc + 200) (us + 10000)) : AJ X M ⟨RL, nm, ds⟩ cL_law 4 ret 675 [(0, .ref b), (1, .ref a), (2, .ref (m 65)), (3, .int (nI (6 * k)))] [] h uc us := by
  have hm := hL.1
  have ha := hL.2.2.2.2.2
  subst ha
  refine a_aload_n (pc := 675) dL_law_675 rfl rfl ?_
  refine a_aload_n (pc := 676) dL_law_676 rfl rfl ?_
  refine a_iload_n (pc := 677) dL_law_677 rfl rfl ?_
  refine a_iconst (pc := 678) dL_law_678 ic_1 ?_
  refine a_iaddN (pc := 679) dL_law_679 ?_
  refine a_sld (pc := 680) (i := 6 * k + 1) hC hL3 (by omega) dL_law_680 ?_
  refine a_aload_n (pc := 681) dL_law_681 rfl rfl ?_
  refine a_iload_n (pc := 682) dL_law_682 rfl rfl ?_
  refine a_iconst (pc := 683) dL_law_683 ic_2 ?_
  refine a_iaddN (pc := 684) dL_law_684 ?_
  refine a_sld (pc := 685) (i := 6 * k + 2) hC hL3 (by omega) dL_law_685 ?_
  refine a_callV (pc := 686) km_L_73 dL_law_686 (f_cplan hL.2.2.1 hL.2.1 _ _) rfl rfl (kr_t hL.2.2.1) (rok_law hC (by decide) (by decide) (by omega) (by omega)) (Nat.le_of_ble_eq_true rfl) (fun r686 h686 hp686 => ?_)
  obtain ⟨rfl, hE⟩ := hp686
  obtain ⟨e1, σ', z1, i1, ap1⟩ := li_1 hL hE
  refine a_hp e1 ?_
  refine a_aload_n (pc := 689) dL_law_689 rfl rfl ?_
  refine a_aload_n (pc := 690) dL_law_690 rfl rfl ?_
  refine a_iload_n (pc := 691) dL_law_691 rfl rfl ?_
  refine a_iconst (pc := 692) dL_law_692 ic_1 ?_
  refine a_iaddN (pc := 693) dL_law_693 ?_
  refine a_sld (pc := 694) (i := 6 * k + 1) hC hL3 (by omega) dL_law_694 ?_
  refine a_aload_n (pc := 695) dL_law_695 rfl rfl ?_
  refine a_iload_n (pc := 696) dL_law_696 rfl rfl ?_
  refine a_iconst (pc := 697) dL_law_697 ic_2 ?_
  refine a_iaddN (pc := 698) dL_law_698 ?_
  refine a_sld (pc := 699) (i := 6 * k + 2) hC hL3 (by omega) dL_law_699 ?_
  refine a_callV (pc := 700) km_L_76 dL_law_700 (f_plan hm hL.2.1 _ _) rfl rfl (krecv_of (ci := 12) rfl (m_obj hm)) (rok_law hC (by decide) (by decide) (by omega) (by omega)) (Nat.le_of_ble_eq_true rfl) (fun r700 h700 hp700 => ?_)
  obtain ⟨rfl, t2, rfl, hsp⟩ := hp700
  refine a_icmp_eq (pc := 703) (tgt := 1268) dL_law_703 (by decide) (fun c703 => ?_) (fun c703 => ?_)
  · exact a_wid (by omega) (by omega) (kk t2 σ' _ (li_2 hm z1 i1 ap1 ((by rw [ro_plan]; exact hL.2.1)) hsp))
  · exact absurd rfl c703
set_option maxRecDepth 4000 in
theorem law_weighs {nm ds : String} {k uc us : Nat} (hC : LC M b L xs) (hL3 : L ≤ 3072) (hk : 6 * k + 6 ≤ L) (hu : uc ≤ 300000) (hs : us ≤ 6000000) (hL : LI X m t σ h a) (kk : ∀ t' σ' h', LI X m t' σ' h' a → AJ X M ⟨RL, nm, ds⟩ cL_law 4 ret 1268 [(0, .ref b), (1, .ref a), (2, .ref (m 65)), (3, .int (nI (6 * k)))] [] h' (uc + 200) (us + 10000)) : AJ X M ⟨RL, nm, ds⟩ cL_law 4 ret 708 [(0, .ref b), (1, .ref a), (2, .ref (m 65)), (3, .int (nI (6 * k)))] [] h uc us := by
  have hm := hL.1
  have ha := hL.2.2.2.2.2
  subst ha
  refine a_aload_n (pc := 708) dL_law_708 rfl rfl ?_
  refine a_aload_n (pc := 709) dL_law_709 rfl rfl ?_
  refine a_iload_n (pc := 710) dL_law_710 rfl rfl ?_
  refine a_iconst (pc := 711) dL_law_711 ic_1 ?_
  refine a_iaddN (pc := 712) dL_law_712 ?_
  refine a_sld (pc := 713) (i := 6 * k + 1) hC hL3 (by omega) dL_law_713 ?_
  refine a_callV (pc := 714) km_L_77 dL_law_714 (f_cweighs hL.2.2.1 hL.2.1 _) rfl rfl (kr_t hL.2.2.1) (rok_law hC (by decide) (by decide) (by omega) (by omega)) (Nat.le_of_ble_eq_true rfl) (fun r714 h714 hp714 => ?_)
  obtain ⟨rfl, hE⟩ := hp714
  obtain ⟨e1, σ', z1, i1, ap1⟩ := li_1 hL hE
  refine a_hp e1 ?_
  refine a_aload_n (pc := 717) dL_law_717 rfl rfl ?_
  refine a_aload_n (pc := 718) dL_law_718 rfl rfl ?_
  refine a_iload_n (pc := 719) dL_law_719 rfl rfl ?_
  refine a_iconst (pc := 720) dL_law_720 ic_1 ?_
  refine a_iaddN (pc := 721) dL_law_721 ?_
  refine a_sld (pc := 722) (i := 6 * k + 1) hC hL3 (by omega) dL_law_722 ?_
  refine a_callV (pc := 723) km_L_80 dL_law_723 (f_weighs hm hL.2.1 _) rfl rfl (krecv_of (ci := 12) rfl (m_obj hm)) (rok_law hC (by decide) (by decide) (by omega) (by omega)) (Nat.le_of_ble_eq_true rfl) (fun r723 h723 hp723 => ?_)
  obtain ⟨rfl, t2, rfl, hsp⟩ := hp723
  refine a_icmp_eq (pc := 726) (tgt := 1268) dL_law_726 (by decide) (fun c726 => ?_) (fun c726 => ?_)
  · exact a_wid (by omega) (by omega) (kk t2 σ' _ (li_2 hm z1 i1 ap1 ((by rw [ro_weighs]; exact hL.2.1)) hsp))
  · exact absurd rfl c726
set_option maxRecDepth 4000 in
theorem law_feed {nm ds : String} {k uc us : Nat} (hC : LC M b L xs) (hL3 : L ≤ 3072) (hk : 6 * k + 6 ≤ L) (hu : uc ≤ 300000) (hs : us ≤ 6000000) (hL : LI X m t σ h a) (kk : ∀ t' σ' h', LI X m t' σ' h' a → AJ X M ⟨RL, nm, ds⟩ cL_law 4 ret 1268 [(0, .ref b), (1, .ref a), (2, .ref (m 65)), (3, .int (nI (6 * k)))] [] h' (uc + 200) (us + 10000)) : AJ X M ⟨RL, nm, ds⟩ cL_law 4 ret 731 [(0, .ref b), (1, .ref a), (2, .ref (m 65)), (3, .int (nI (6 * k)))] [] h uc us := by
  have hm := hL.1
  have ha := hL.2.2.2.2.2
  subst ha
  refine a_aload_n (pc := 731) dL_law_731 rfl rfl ?_
  refine a_aload_n (pc := 732) dL_law_732 rfl rfl ?_
  refine a_iload_n (pc := 733) dL_law_733 rfl rfl ?_
  refine a_iconst (pc := 734) dL_law_734 ic_1 ?_
  refine a_iaddN (pc := 735) dL_law_735 ?_
  refine a_sld (pc := 736) (i := 6 * k + 1) hC hL3 (by omega) dL_law_736 ?_
  refine a_aload_n (pc := 737) dL_law_737 rfl rfl ?_
  refine a_iload_n (pc := 738) dL_law_738 rfl rfl ?_
  refine a_iconst (pc := 739) dL_law_739 ic_2 ?_
  refine a_iaddN (pc := 740) dL_law_740 ?_
  refine a_sld (pc := 741) (i := 6 * k + 2) hC hL3 (by omega) dL_law_741 ?_
  refine a_i2l (pc := 742) dL_law_742 ?_
  refine a_bipush (pc := 743) dL_law_743 ib_32 ?_
  refine a_lshl (pc := 745) dL_law_745 ?_
  refine a_aload_n (pc := 746) dL_law_746 rfl rfl ?_
  refine a_iload_n (pc := 747) dL_law_747 rfl rfl ?_
  refine a_iconst (pc := 748) dL_law_748 ic_3 ?_
  refine a_iaddN (pc := 749) dL_law_749 ?_
  refine a_sld (pc := 750) (i := 6 * k + 3) hC hL3 (by omega) dL_law_750 ?_
  refine a_i2l (pc := 751) dL_law_751 ?_
  refine a_ldc2 (pc := 752) kc_L_81 dL_law_752 ?_
  refine a_topl (z := lN 4294967295) rfl ?_
  refine a_land (pc := 755) dL_law_755 ?_
  refine a_lor (pc := 756) dL_law_756 ?_
  refine a_callV (pc := 757) km_L_83 dL_law_757 (f_cfeed hL.2.2.1 hL.2.1 _ _) rfl rfl (kr_t hL.2.2.1) (rok_law hC (by decide) (by decide) (by omega) (by omega)) (Nat.le_of_ble_eq_true rfl) (fun r757 h757 hp757 => ?_)
  obtain ⟨rfl, hE⟩ := hp757
  obtain ⟨e1, σ', z1, i1, ap1⟩ := li_1 hL hE
  refine a_hp e1 ?_
  refine a_aload_n (pc := 760) dL_law_760 rfl rfl ?_
  refine a_aload_n (pc := 761) dL_law_761 rfl rfl ?_
  refine a_iload_n (pc := 762) dL_law_762 rfl rfl ?_
  refine a_iconst (pc := 763) dL_law_763 ic_1 ?_
  refine a_iaddN (pc := 764) dL_law_764 ?_
  refine a_sld (pc := 765) (i := 6 * k + 1) hC hL3 (by omega) dL_law_765 ?_
  refine a_aload_n (pc := 766) dL_law_766 rfl rfl ?_
  refine a_iload_n (pc := 767) dL_law_767 rfl rfl ?_
  refine a_iconst (pc := 768) dL_law_768 ic_2 ?_
  refine a_iaddN (pc := 769) dL_law_769 ?_
  refine a_sld (pc := 770) (i := 6 * k + 2) hC hL3 (by omega) dL_law_770 ?_
  refine a_i2l (pc := 771) dL_law_771 ?_
  refine a_bipush (pc := 772) dL_law_772 ib_32 ?_
  refine a_lshl (pc := 774) dL_law_774 ?_
  refine a_aload_n (pc := 775) dL_law_775 rfl rfl ?_
  refine a_iload_n (pc := 776) dL_law_776 rfl rfl ?_
  refine a_iconst (pc := 777) dL_law_777 ic_3 ?_
  refine a_iaddN (pc := 778) dL_law_778 ?_
  refine a_sld (pc := 779) (i := 6 * k + 3) hC hL3 (by omega) dL_law_779 ?_
  refine a_i2l (pc := 780) dL_law_780 ?_
  refine a_ldc2 (pc := 781) kc_L_81 dL_law_781 ?_
  refine a_topl (z := lN 4294967295) rfl ?_
  refine a_land (pc := 784) dL_law_784 ?_
  refine a_lor (pc := 785) dL_law_785 ?_
  refine a_callV (pc := 786) km_L_87 dL_law_786 (f_feed hm hL.2.1 _ _) rfl rfl (krecv_of (ci := 12) rfl (m_obj hm)) (rok_law hC (by decide) (by decide) (by omega) (by omega)) (Nat.le_of_ble_eq_true rfl) (fun r786 h786 hp786 => ?_)
  obtain ⟨rfl, t2, rfl, hsp⟩ := hp786
  refine a_icmp_eq (pc := 789) (tgt := 1268) dL_law_789 (by decide) (fun c789 => ?_) (fun c789 => ?_)
  · exact a_wid (by omega) (by omega) (kk t2 σ' _ (li_2 hm z1 i1 ap1 (MV_feed hL.2.1 _ _) hsp))
  · exact absurd rfl c789
set_option maxRecDepth 4000 in
theorem law_text {nm ds : String} {k uc us : Nat} (hC : LC M b L xs) (hL3 : L ≤ 3072) (hk : 6 * k + 6 ≤ L) (hu : uc ≤ 300000) (hs : us ≤ 6000000) (hL : LI X m t σ h a) (kk : ∀ t' σ' h', LI X m t' σ' h' a → AJ X M ⟨RL, nm, ds⟩ cL_law 4 ret 1268 [(0, .ref b), (1, .ref a), (2, .ref (m 65)), (3, .int (nI (6 * k)))] [] h' (uc + 200) (us + 10000)) : AJ X M ⟨RL, nm, ds⟩ cL_law 4 ret 794 [(0, .ref b), (1, .ref a), (2, .ref (m 65)), (3, .int (nI (6 * k)))] [] h uc us := by
  have hm := hL.1
  have ha := hL.2.2.2.2.2
  subst ha
  refine a_aload_n (pc := 794) dL_law_794 rfl rfl ?_
  refine a_callV (pc := 795) km_L_88 dL_law_795 (f_ctext hL.2.2.1 hL.2.1) rfl rfl (kr_t hL.2.2.1) (rok_law hC (by decide) (by decide) (by omega) (by omega)) (Nat.le_of_ble_eq_true rfl) (fun r795 h795 hp795 => ?_)
  obtain ⟨rfl, hE⟩ := hp795
  obtain ⟨e1, σ', z1, i1, ap1⟩ := li_1 hL hE
  refine a_hp e1 ?_
  refine a_aload_n (pc := 798) dL_law_798 rfl rfl ?_
  refine a_callV (pc := 799) km_L_92 dL_law_799 (f_text hm hL.2.1) rfl rfl (krecv_of (ci := 12) rfl (m_obj hm)) (rok_law hC (by decide) (by decide) (by omega) (by omega)) (Nat.le_of_ble_eq_true rfl) (fun r799 h799 hp799 => ?_)
  obtain ⟨rfl, t2, rfl, hsp⟩ := hp799
  refine a_icmp_eq (pc := 802) (tgt := 1268) dL_law_802 (by decide) (fun c802 => ?_) (fun c802 => ?_)
  · exact a_wid (by omega) (by omega) (kk t2 σ' _ (li_2 hm z1 i1 ap1 (MV_text hL.2.1) hsp))
  · exact absurd rfl c802
set_option maxRecDepth 4000 in
theorem law_force {nm ds : String} {k uc us : Nat} (hC : LC M b L xs) (hL3 : L ≤ 3072) (hk : 6 * k + 6 ≤ L) (hu : uc ≤ 300000) (hs : us ≤ 6000000) (hL : LI X m t σ h a) (kk : ∀ t' σ' h', LI X m t' σ' h' a → AJ X M ⟨RL, nm, ds⟩ cL_law 4 ret 1268 [(0, .ref b), (1, .ref a), (2, .ref (m 65)), (3, .int (nI (6 * k)))] [] h' (uc + 200) (us + 10000)) : AJ X M ⟨RL, nm, ds⟩ cL_law 4 ret 807 [(0, .ref b), (1, .ref a), (2, .ref (m 65)), (3, .int (nI (6 * k)))] [] h uc us := by
  have hm := hL.1
  have ha := hL.2.2.2.2.2
  subst ha
  refine a_aload_n (pc := 807) dL_law_807 rfl rfl ?_
  refine a_aload_n (pc := 808) dL_law_808 rfl rfl ?_
  refine a_iload_n (pc := 809) dL_law_809 rfl rfl ?_
  refine a_iconst (pc := 810) dL_law_810 ic_1 ?_
  refine a_iaddN (pc := 811) dL_law_811 ?_
  refine a_sld (pc := 812) (i := 6 * k + 1) hC hL3 (by omega) dL_law_812 ?_
  refine a_callV (pc := 813) km_L_93 dL_law_813 (f_cforce hL.2.2.1 hL.2.1 _) rfl rfl (kr_t hL.2.2.1) (rok_law hC (by decide) (by decide) (by omega) (by omega)) (Nat.le_of_ble_eq_true rfl) (fun r813 h813 hp813 => ?_)
  obtain ⟨rfl, hE⟩ := hp813
  obtain ⟨e1, σ', z1, i1, ap1⟩ := li_1 hL hE
  refine a_hp e1 ?_
  refine a_aload_n (pc := 816) dL_law_816 rfl rfl ?_
  refine a_aload_n (pc := 817) dL_law_817 rfl rfl ?_
  refine a_iload_n (pc := 818) dL_law_818 rfl rfl ?_
  refine a_iconst (pc := 819) dL_law_819 ic_1 ?_
  refine a_iaddN (pc := 820) dL_law_820 ?_
  refine a_sld (pc := 821) (i := 6 * k + 1) hC hL3 (by omega) dL_law_821 ?_
  refine a_callV (pc := 822) km_L_96 dL_law_822 (f_force hm hL.2.1 _) rfl rfl (krecv_of (ci := 12) rfl (m_obj hm)) (rok_law hC (by decide) (by decide) (by omega) (by omega)) (Nat.le_of_ble_eq_true rfl) (fun r822 h822 hp822 => ?_)
  obtain ⟨rfl, t2, rfl, hsp⟩ := hp822
  refine a_icmp_eq (pc := 825) (tgt := 1268) dL_law_825 (by decide) (fun c825 => ?_) (fun c825 => ?_)
  · exact a_wid (by omega) (by omega) (kk t2 σ' _ (li_2 hm z1 i1 ap1 (MV_force hL.2.1 _) hsp))
  · exact absurd rfl c825
set_option maxRecDepth 4000 in
theorem law_series {nm ds : String} {k uc us : Nat} (hC : LC M b L xs) (hL3 : L ≤ 3072) (hk : 6 * k + 6 ≤ L) (hu : uc ≤ 300000) (hs : us ≤ 6000000) (hL : LI X m t σ h a) (kk : ∀ t' σ' h', LI X m t' σ' h' a → AJ X M ⟨RL, nm, ds⟩ cL_law 4 ret 1268 [(0, .ref b), (1, .ref a), (2, .ref (m 65)), (3, .int (nI (6 * k)))] [] h' (uc + 200) (us + 10000)) : AJ X M ⟨RL, nm, ds⟩ cL_law 4 ret 830 [(0, .ref b), (1, .ref a), (2, .ref (m 65)), (3, .int (nI (6 * k)))] [] h uc us := by
  have hm := hL.1
  have ha := hL.2.2.2.2.2
  subst ha
  refine a_aload_n (pc := 830) dL_law_830 rfl rfl ?_
  refine a_aload_n (pc := 831) dL_law_831 rfl rfl ?_
  refine a_iload_n (pc := 832) dL_law_832 rfl rfl ?_
  refine a_iconst (pc := 833) dL_law_833 ic_1 ?_
  refine a_iaddN (pc := 834) dL_law_834 ?_
  refine a_sld (pc := 835) (i := 6 * k + 1) hC hL3 (by omega) dL_law_835 ?_
  refine a_aload_n (pc := 836) dL_law_836 rfl rfl ?_
  refine a_iload_n (pc := 837) dL_law_837 rfl rfl ?_
  refine a_iconst (pc := 838) dL_law_838 ic_2 ?_
  refine a_iaddN (pc := 839) dL_law_839 ?_
  refine a_sld (pc := 840) (i := 6 * k + 2) hC hL3 (by omega) dL_law_840 ?_
  refine a_aload_n (pc := 841) dL_law_841 rfl rfl ?_
  refine a_iload_n (pc := 842) dL_law_842 rfl rfl ?_
  refine a_iconst (pc := 843) dL_law_843 ic_3 ?_
  refine a_iaddN (pc := 844) dL_law_844 ?_
  refine a_sld (pc := 845) (i := 6 * k + 3) hC hL3 (by omega) dL_law_845 ?_
  refine a_callV (pc := 846) km_L_97 dL_law_846 (f_cseries hL.2.2.1 hL.2.1 _ _ _) rfl rfl (kr_t hL.2.2.1) (rok_law hC (by decide) (by decide) (by omega) (by omega)) (Nat.le_of_ble_eq_true rfl) (fun r846 h846 hp846 => ?_)
  obtain ⟨rfl, hE⟩ := hp846
  obtain ⟨e1, σ', z1, i1, ap1⟩ := li_1 hL hE
  refine a_hp e1 ?_
  refine a_aload_n (pc := 849) dL_law_849 rfl rfl ?_
  refine a_aload_n (pc := 850) dL_law_850 rfl rfl ?_
  refine a_iload_n (pc := 851) dL_law_851 rfl rfl ?_
  refine a_iconst (pc := 852) dL_law_852 ic_1 ?_
  refine a_iaddN (pc := 853) dL_law_853 ?_
  refine a_sld (pc := 854) (i := 6 * k + 1) hC hL3 (by omega) dL_law_854 ?_
  refine a_aload_n (pc := 855) dL_law_855 rfl rfl ?_
  refine a_iload_n (pc := 856) dL_law_856 rfl rfl ?_
  refine a_iconst (pc := 857) dL_law_857 ic_2 ?_
  refine a_iaddN (pc := 858) dL_law_858 ?_
  refine a_sld (pc := 859) (i := 6 * k + 2) hC hL3 (by omega) dL_law_859 ?_
  refine a_aload_n (pc := 860) dL_law_860 rfl rfl ?_
  refine a_iload_n (pc := 861) dL_law_861 rfl rfl ?_
  refine a_iconst (pc := 862) dL_law_862 ic_3 ?_
  refine a_iaddN (pc := 863) dL_law_863 ?_
  refine a_sld (pc := 864) (i := 6 * k + 3) hC hL3 (by omega) dL_law_864 ?_
  refine a_callV (pc := 865) km_L_100 dL_law_865 (f_series hm hL.2.1 _ _ _) rfl rfl (krecv_of (ci := 12) rfl (m_obj hm)) (rok_law hC (by decide) (by decide) (by omega) (by omega)) (Nat.le_of_ble_eq_true rfl) (fun r865 h865 hp865 => ?_)
  obtain ⟨rfl, t2, rfl, hsp⟩ := hp865
  refine a_lif_eq (pc := 868) (tgt := 1268) dL_law_868 dL_law_869 (by decide) (fun c869 => ?_) (fun c869 => ?_)
  · exact a_wid (by omega) (by omega) (kk t2 σ' _ (li_2 hm z1 i1 ap1 ((by rw [ro_series]; exact hL.2.1)) hsp))
  · exact absurd rfl c869
set_option maxRecDepth 4000 in
theorem law_best {nm ds : String} {k uc us : Nat} (hC : LC M b L xs) (hL3 : L ≤ 3072) (hk : 6 * k + 6 ≤ L) (hu : uc ≤ 300000) (hs : us ≤ 6000000) (hL : LI X m t σ h a) (kk : ∀ t' σ' h', LI X m t' σ' h' a → AJ X M ⟨RL, nm, ds⟩ cL_law 4 ret 1268 [(0, .ref b), (1, .ref a), (2, .ref (m 65)), (3, .int (nI (6 * k)))] [] h' (uc + 200) (us + 10000)) : AJ X M ⟨RL, nm, ds⟩ cL_law 4 ret 874 [(0, .ref b), (1, .ref a), (2, .ref (m 65)), (3, .int (nI (6 * k)))] [] h uc us := by
  have hm := hL.1
  have ha := hL.2.2.2.2.2
  subst ha
  refine a_aload_n (pc := 874) dL_law_874 rfl rfl ?_
  refine a_aload_n (pc := 875) dL_law_875 rfl rfl ?_
  refine a_iload_n (pc := 876) dL_law_876 rfl rfl ?_
  refine a_iconst (pc := 877) dL_law_877 ic_1 ?_
  refine a_iaddN (pc := 878) dL_law_878 ?_
  refine a_sld (pc := 879) (i := 6 * k + 1) hC hL3 (by omega) dL_law_879 ?_
  refine a_callV (pc := 880) km_L_101 dL_law_880 (f_cbest hL.2.2.1 hL.2.1 _) rfl rfl (kr_t hL.2.2.1) (rok_law hC (by decide) (by decide) (by omega) (by omega)) (Nat.le_of_ble_eq_true rfl) (fun r880 h880 hp880 => ?_)
  obtain ⟨rfl, hE⟩ := hp880
  obtain ⟨e1, σ', z1, i1, ap1⟩ := li_1 hL hE
  refine a_hp e1 ?_
  refine a_aload_n (pc := 883) dL_law_883 rfl rfl ?_
  refine a_aload_n (pc := 884) dL_law_884 rfl rfl ?_
  refine a_iload_n (pc := 885) dL_law_885 rfl rfl ?_
  refine a_iconst (pc := 886) dL_law_886 ic_1 ?_
  refine a_iaddN (pc := 887) dL_law_887 ?_
  refine a_sld (pc := 888) (i := 6 * k + 1) hC hL3 (by omega) dL_law_888 ?_
  refine a_callV (pc := 889) km_L_104 dL_law_889 (f_best hm hL.2.1 _) rfl rfl (krecv_of (ci := 12) rfl (m_obj hm)) (rok_law hC (by decide) (by decide) (by omega) (by omega)) (Nat.le_of_ble_eq_true rfl) (fun r889 h889 hp889 => ?_)
  obtain ⟨rfl, t2, rfl, hsp⟩ := hp889
  refine a_icmp_eq (pc := 892) (tgt := 1268) dL_law_892 (by decide) (fun c892 => ?_) (fun c892 => ?_)
  · exact a_wid (by omega) (by omega) (kk t2 σ' _ (li_2 hm z1 i1 ap1 ((by rw [ro_best]; exact hL.2.1)) hsp))
  · exact absurd rfl c892
set_option maxRecDepth 4000 in
theorem law_falls {nm ds : String} {k uc us : Nat} (hC : LC M b L xs) (hL3 : L ≤ 3072) (hk : 6 * k + 6 ≤ L) (hu : uc ≤ 300000) (hs : us ≤ 6000000) (hL : LI X m t σ h a) (kk : ∀ t' σ' h', LI X m t' σ' h' a → AJ X M ⟨RL, nm, ds⟩ cL_law 4 ret 1268 [(0, .ref b), (1, .ref a), (2, .ref (m 65)), (3, .int (nI (6 * k)))] [] h' (uc + 200) (us + 10000)) : AJ X M ⟨RL, nm, ds⟩ cL_law 4 ret 897 [(0, .ref b), (1, .ref a), (2, .ref (m 65)), (3, .int (nI (6 * k)))] [] h uc us := by
  have hm := hL.1
  have ha := hL.2.2.2.2.2
  subst ha
  refine a_aload_n (pc := 897) dL_law_897 rfl rfl ?_
  refine a_aload_n (pc := 898) dL_law_898 rfl rfl ?_
  refine a_iload_n (pc := 899) dL_law_899 rfl rfl ?_
  refine a_iconst (pc := 900) dL_law_900 ic_1 ?_
  refine a_iaddN (pc := 901) dL_law_901 ?_
  refine a_sld (pc := 902) (i := 6 * k + 1) hC hL3 (by omega) dL_law_902 ?_
  refine a_aload_n (pc := 903) dL_law_903 rfl rfl ?_
  refine a_iload_n (pc := 904) dL_law_904 rfl rfl ?_
  refine a_iconst (pc := 905) dL_law_905 ic_2 ?_
  refine a_iaddN (pc := 906) dL_law_906 ?_
  refine a_sld (pc := 907) (i := 6 * k + 2) hC hL3 (by omega) dL_law_907 ?_
  refine a_aload_n (pc := 908) dL_law_908 rfl rfl ?_
  refine a_iload_n (pc := 909) dL_law_909 rfl rfl ?_
  refine a_iconst (pc := 910) dL_law_910 ic_3 ?_
  refine a_iaddN (pc := 911) dL_law_911 ?_
  refine a_sld (pc := 912) (i := 6 * k + 3) hC hL3 (by omega) dL_law_912 ?_
  refine a_callV (pc := 913) km_L_105 dL_law_913 (f_cfalls hL.2.2.1 hL.2.1 _ _ _) rfl rfl (kr_t hL.2.2.1) (rok_law hC (by decide) (by decide) (by omega) (by omega)) (Nat.le_of_ble_eq_true rfl) (fun r913 h913 hp913 => ?_)
  obtain ⟨rfl, hE⟩ := hp913
  obtain ⟨e1, σ', z1, i1, ap1⟩ := li_1 hL hE
  refine a_hp e1 ?_
  refine a_aload_n (pc := 916) dL_law_916 rfl rfl ?_
  refine a_aload_n (pc := 917) dL_law_917 rfl rfl ?_
  refine a_iload_n (pc := 918) dL_law_918 rfl rfl ?_
  refine a_iconst (pc := 919) dL_law_919 ic_1 ?_
  refine a_iaddN (pc := 920) dL_law_920 ?_
  refine a_sld (pc := 921) (i := 6 * k + 1) hC hL3 (by omega) dL_law_921 ?_
  refine a_aload_n (pc := 922) dL_law_922 rfl rfl ?_
  refine a_iload_n (pc := 923) dL_law_923 rfl rfl ?_
  refine a_iconst (pc := 924) dL_law_924 ic_2 ?_
  refine a_iaddN (pc := 925) dL_law_925 ?_
  refine a_sld (pc := 926) (i := 6 * k + 2) hC hL3 (by omega) dL_law_926 ?_
  refine a_aload_n (pc := 927) dL_law_927 rfl rfl ?_
  refine a_iload_n (pc := 928) dL_law_928 rfl rfl ?_
  refine a_iconst (pc := 929) dL_law_929 ic_3 ?_
  refine a_iaddN (pc := 930) dL_law_930 ?_
  refine a_sld (pc := 931) (i := 6 * k + 3) hC hL3 (by omega) dL_law_931 ?_
  refine a_callV (pc := 932) km_L_108 dL_law_932 (f_falls hm hL.2.1 _ _ _) rfl rfl (krecv_of (ci := 12) rfl (m_obj hm)) (rok_law hC (by decide) (by decide) (by omega) (by omega)) (Nat.le_of_ble_eq_true rfl) (fun r932 h932 hp932 => ?_)
  obtain ⟨rfl, t2, rfl, hsp⟩ := hp932
  refine a_lif_eq (pc := 935) (tgt := 1268) dL_law_935 dL_law_936 (by decide) (fun c936 => ?_) (fun c936 => ?_)
  · exact a_wid (by omega) (by omega) (kk t2 σ' _ (li_2 hm z1 i1 ap1 ((by rw [ro_falls]; exact hL.2.1)) hsp))
  · exact absurd rfl c936
set_option maxRecDepth 4000 in
theorem law_mixed {nm ds : String} {k uc us : Nat} (hC : LC M b L xs) (hL3 : L ≤ 3072) (hk : 6 * k + 6 ≤ L) (hu : uc ≤ 300000) (hs : us ≤ 6000000) (hL : LI X m t σ h a) (kk : ∀ t' σ' h', LI X m t' σ' h' a → AJ X M ⟨RL, nm, ds⟩ cL_law 4 ret 1268 [(0, .ref b), (1, .ref a), (2, .ref (m 65)), (3, .int (nI (6 * k)))] [] h' (uc + 200) (us + 10000)) : AJ X M ⟨RL, nm, ds⟩ cL_law 4 ret 941 [(0, .ref b), (1, .ref a), (2, .ref (m 65)), (3, .int (nI (6 * k)))] [] h uc us := by
  have hm := hL.1
  have ha := hL.2.2.2.2.2
  subst ha
  refine a_aload_n (pc := 941) dL_law_941 rfl rfl ?_
  refine a_aload_n (pc := 942) dL_law_942 rfl rfl ?_
  refine a_iload_n (pc := 943) dL_law_943 rfl rfl ?_
  refine a_iconst (pc := 944) dL_law_944 ic_1 ?_
  refine a_iaddN (pc := 945) dL_law_945 ?_
  refine a_sld (pc := 946) (i := 6 * k + 1) hC hL3 (by omega) dL_law_946 ?_
  refine a_aload_n (pc := 947) dL_law_947 rfl rfl ?_
  refine a_iload_n (pc := 948) dL_law_948 rfl rfl ?_
  refine a_iconst (pc := 949) dL_law_949 ic_2 ?_
  refine a_iaddN (pc := 950) dL_law_950 ?_
  refine a_sld (pc := 951) (i := 6 * k + 2) hC hL3 (by omega) dL_law_951 ?_
  refine a_aload_n (pc := 952) dL_law_952 rfl rfl ?_
  refine a_iload_n (pc := 953) dL_law_953 rfl rfl ?_
  refine a_iconst (pc := 954) dL_law_954 ic_3 ?_
  refine a_iaddN (pc := 955) dL_law_955 ?_
  refine a_sld (pc := 956) (i := 6 * k + 3) hC hL3 (by omega) dL_law_956 ?_
  refine a_callV (pc := 957) km_L_109 dL_law_957 (f_cmixed hL.2.2.1 hL.2.1 _ _ _) rfl rfl (kr_t hL.2.2.1) (rok_law hC (by decide) (by decide) (by omega) (by omega)) (Nat.le_of_ble_eq_true rfl) (fun r957 h957 hp957 => ?_)
  obtain ⟨rfl, hE⟩ := hp957
  obtain ⟨e1, σ', z1, i1, ap1⟩ := li_1 hL hE
  refine a_hp e1 ?_
  refine a_aload_n (pc := 960) dL_law_960 rfl rfl ?_
  refine a_aload_n (pc := 961) dL_law_961 rfl rfl ?_
  refine a_iload_n (pc := 962) dL_law_962 rfl rfl ?_
  refine a_iconst (pc := 963) dL_law_963 ic_1 ?_
  refine a_iaddN (pc := 964) dL_law_964 ?_
  refine a_sld (pc := 965) (i := 6 * k + 1) hC hL3 (by omega) dL_law_965 ?_
  refine a_aload_n (pc := 966) dL_law_966 rfl rfl ?_
  refine a_iload_n (pc := 967) dL_law_967 rfl rfl ?_
  refine a_iconst (pc := 968) dL_law_968 ic_2 ?_
  refine a_iaddN (pc := 969) dL_law_969 ?_
  refine a_sld (pc := 970) (i := 6 * k + 2) hC hL3 (by omega) dL_law_970 ?_
  refine a_aload_n (pc := 971) dL_law_971 rfl rfl ?_
  refine a_iload_n (pc := 972) dL_law_972 rfl rfl ?_
  refine a_iconst (pc := 973) dL_law_973 ic_3 ?_
  refine a_iaddN (pc := 974) dL_law_974 ?_
  refine a_sld (pc := 975) (i := 6 * k + 3) hC hL3 (by omega) dL_law_975 ?_
  refine a_callV (pc := 976) km_L_112 dL_law_976 (f_mixed hm hL.2.1 _ _ _) rfl rfl (krecv_of (ci := 12) rfl (m_obj hm)) (rok_law hC (by decide) (by decide) (by omega) (by omega)) (Nat.le_of_ble_eq_true rfl) (fun r976 h976 hp976 => ?_)
  obtain ⟨rfl, t2, rfl, hsp⟩ := hp976
  refine a_icmp_eq (pc := 979) (tgt := 1268) dL_law_979 (by decide) (fun c979 => ?_) (fun c979 => ?_)
  · exact a_wid (by omega) (by omega) (kk t2 σ' _ (li_2 hm z1 i1 ap1 ((by rw [ro_mixed]; exact hL.2.1)) hsp))
  · exact absurd rfl c979
set_option maxRecDepth 4000 in
theorem law_image {nm ds : String} {k uc us : Nat} (hC : LC M b L xs) (hL3 : L ≤ 3072) (hk : 6 * k + 6 ≤ L) (hu : uc ≤ 300000) (hs : us ≤ 6000000) (hL : LI X m t σ h a) (kk : ∀ t' σ' h', LI X m t' σ' h' a → AJ X M ⟨RL, nm, ds⟩ cL_law 4 ret 1268 [(0, .ref b), (1, .ref a), (2, .ref (m 65)), (3, .int (nI (6 * k)))] [] h' (uc + 200) (us + 10000)) : AJ X M ⟨RL, nm, ds⟩ cL_law 4 ret 984 [(0, .ref b), (1, .ref a), (2, .ref (m 65)), (3, .int (nI (6 * k)))] [] h uc us := by
  have hm := hL.1
  have ha := hL.2.2.2.2.2
  subst ha
  refine a_aload_n (pc := 984) dL_law_984 rfl rfl ?_
  refine a_callV (pc := 985) km_L_113 dL_law_985 (f_cimage hL.2.2.1 hL.2.1) rfl rfl (kr_t hL.2.2.1) (rok_law hC (by decide) (by decide) (by omega) (by omega)) (Nat.le_of_ble_eq_true rfl) (fun r985 h985 hp985 => ?_)
  obtain ⟨rfl, hE⟩ := hp985
  obtain ⟨e1, σ', z1, i1, ap1⟩ := li_1 hL hE
  refine a_hp e1 ?_
  refine a_aload_n (pc := 988) dL_law_988 rfl rfl ?_
  refine a_callV (pc := 989) km_L_116 dL_law_989 (f_image hm hL.2.1) rfl rfl (krecv_of (ci := 12) rfl (m_obj hm)) (rok_law hC (by decide) (by decide) (by omega) (by omega)) (Nat.le_of_ble_eq_true rfl) (fun r989 h989 hp989 => ?_)
  obtain ⟨rfl, t2, rfl, hsp⟩ := hp989
  refine a_icmp_eq (pc := 992) (tgt := 1268) dL_law_992 (by decide) (fun c992 => ?_) (fun c992 => ?_)
  · exact a_wid (by omega) (by omega) (kk t2 σ' _ (li_2 hm z1 i1 ap1 (MV_image hL.2.1) hsp))
  · exact absurd rfl c992
set_option maxRecDepth 4000 in
theorem law_back {nm ds : String} {k uc us : Nat} (hC : LC M b L xs) (hL3 : L ≤ 3072) (hk : 6 * k + 6 ≤ L) (hu : uc ≤ 300000) (hs : us ≤ 6000000) (hL : LI X m t σ h a) (kk : ∀ t' σ' h', LI X m t' σ' h' a → AJ X M ⟨RL, nm, ds⟩ cL_law 4 ret 1268 [(0, .ref b), (1, .ref a), (2, .ref (m 65)), (3, .int (nI (6 * k)))] [] h' (uc + 200) (us + 10000)) : AJ X M ⟨RL, nm, ds⟩ cL_law 4 ret 997 [(0, .ref b), (1, .ref a), (2, .ref (m 65)), (3, .int (nI (6 * k)))] [] h uc us := by
  have hm := hL.1
  have ha := hL.2.2.2.2.2
  subst ha
  refine a_aload_n (pc := 997) dL_law_997 rfl rfl ?_
  refine a_callV (pc := 998) km_L_117 dL_law_998 (f_cback hL.2.2.1 hL.2.1) rfl rfl (kr_t hL.2.2.1) (rok_law hC (by decide) (by decide) (by omega) (by omega)) (Nat.le_of_ble_eq_true rfl) (fun r998 h998 hp998 => ?_)
  obtain ⟨rfl, hE⟩ := hp998
  obtain ⟨e1, σ', z1, i1, ap1⟩ := li_1 hL hE
  refine a_hp e1 ?_
  refine a_aload_n (pc := 1001) dL_law_1001 rfl rfl ?_
  refine a_callV (pc := 1002) km_L_120 dL_law_1002 (f_back hm hL.2.1) rfl rfl (krecv_of (ci := 12) rfl (m_obj hm)) (rok_law hC (by decide) (by decide) (by omega) (by omega)) (Nat.le_of_ble_eq_true rfl) (fun r1002 h1002 hp1002 => ?_)
  obtain ⟨rfl, t2, rfl, hsp⟩ := hp1002
  refine a_icmp_eq (pc := 1005) (tgt := 1268) dL_law_1005 (by decide) (fun c1005 => ?_) (fun c1005 => ?_)
  · exact a_wid (by omega) (by omega) (kk t2 σ' _ (li_2 hm z1 i1 ap1 (MV_back hL.2.1) hsp))
  · exact absurd rfl c1005
set_option maxRecDepth 4000 in
theorem law_count {nm ds : String} {k uc us : Nat} (hC : LC M b L xs) (hL3 : L ≤ 3072) (hk : 6 * k + 6 ≤ L) (hu : uc ≤ 300000) (hs : us ≤ 6000000) (hL : LI X m t σ h a) (kk : ∀ t' σ' h', LI X m t' σ' h' a → AJ X M ⟨RL, nm, ds⟩ cL_law 4 ret 1268 [(0, .ref b), (1, .ref a), (2, .ref (m 65)), (3, .int (nI (6 * k)))] [] h' (uc + 200) (us + 10000)) : AJ X M ⟨RL, nm, ds⟩ cL_law 4 ret 1010 [(0, .ref b), (1, .ref a), (2, .ref (m 65)), (3, .int (nI (6 * k)))] [] h uc us := by
  have hm := hL.1
  have ha := hL.2.2.2.2.2
  subst ha
  refine a_aload_n (pc := 1010) dL_law_1010 rfl rfl ?_
  refine a_aload_n (pc := 1011) dL_law_1011 rfl rfl ?_
  refine a_iload_n (pc := 1012) dL_law_1012 rfl rfl ?_
  refine a_iconst (pc := 1013) dL_law_1013 ic_1 ?_
  refine a_iaddN (pc := 1014) dL_law_1014 ?_
  refine a_sld (pc := 1015) (i := 6 * k + 1) hC hL3 (by omega) dL_law_1015 ?_
  refine a_callV (pc := 1016) km_L_121 dL_law_1016 (f_ccount hL.2.2.1 hL.2.1 _) rfl rfl (kr_t hL.2.2.1) (rok_law hC (by decide) (by decide) (by omega) (by omega)) (Nat.le_of_ble_eq_true rfl) (fun r1016 h1016 hp1016 => ?_)
  obtain ⟨rfl, hE⟩ := hp1016
  obtain ⟨e1, σ', z1, i1, ap1⟩ := li_1 hL hE
  refine a_hp e1 ?_
  refine a_aload_n (pc := 1019) dL_law_1019 rfl rfl ?_
  refine a_aload_n (pc := 1020) dL_law_1020 rfl rfl ?_
  refine a_iload_n (pc := 1021) dL_law_1021 rfl rfl ?_
  refine a_iconst (pc := 1022) dL_law_1022 ic_1 ?_
  refine a_iaddN (pc := 1023) dL_law_1023 ?_
  refine a_sld (pc := 1024) (i := 6 * k + 1) hC hL3 (by omega) dL_law_1024 ?_
  refine a_callV (pc := 1025) km_L_124 dL_law_1025 (f_count hm hL.2.1 _) rfl rfl (krecv_of (ci := 12) rfl (m_obj hm)) (rok_law hC (by decide) (by decide) (by omega) (by omega)) (Nat.le_of_ble_eq_true rfl) (fun r1025 h1025 hp1025 => ?_)
  obtain ⟨rfl, t2, rfl, hsp⟩ := hp1025
  refine a_icmp_eq (pc := 1028) (tgt := 1268) dL_law_1028 (by decide) (fun c1028 => ?_) (fun c1028 => ?_)
  · exact a_wid (by omega) (by omega) (kk t2 σ' _ (li_2 hm z1 i1 ap1 ((by rw [ro_count]; exact hL.2.1)) hsp))
  · exact absurd rfl c1028
set_option maxRecDepth 4000 in
theorem law_sheet {nm ds : String} {k uc us : Nat} (hC : LC M b L xs) (hL3 : L ≤ 3072) (hk : 6 * k + 6 ≤ L) (hu : uc ≤ 300000) (hs : us ≤ 6000000) (hL : LI X m t σ h a) (kk : ∀ t' σ' h', LI X m t' σ' h' a → AJ X M ⟨RL, nm, ds⟩ cL_law 4 ret 1268 [(0, .ref b), (1, .ref a), (2, .ref (m 65)), (3, .int (nI (6 * k)))] [] h' (uc + 200) (us + 10000)) : AJ X M ⟨RL, nm, ds⟩ cL_law 4 ret 1033 [(0, .ref b), (1, .ref a), (2, .ref (m 65)), (3, .int (nI (6 * k)))] [] h uc us := by
  have hm := hL.1
  have ha := hL.2.2.2.2.2
  subst ha
  refine a_aload_n (pc := 1033) dL_law_1033 rfl rfl ?_
  refine a_aload_n (pc := 1034) dL_law_1034 rfl rfl ?_
  refine a_iload_n (pc := 1035) dL_law_1035 rfl rfl ?_
  refine a_iconst (pc := 1036) dL_law_1036 ic_1 ?_
  refine a_iaddN (pc := 1037) dL_law_1037 ?_
  refine a_sld (pc := 1038) (i := 6 * k + 1) hC hL3 (by omega) dL_law_1038 ?_
  refine a_aload_n (pc := 1039) dL_law_1039 rfl rfl ?_
  refine a_iload_n (pc := 1040) dL_law_1040 rfl rfl ?_
  refine a_iconst (pc := 1041) dL_law_1041 ic_2 ?_
  refine a_iaddN (pc := 1042) dL_law_1042 ?_
  refine a_sld (pc := 1043) (i := 6 * k + 2) hC hL3 (by omega) dL_law_1043 ?_
  refine a_aload_n (pc := 1044) dL_law_1044 rfl rfl ?_
  refine a_iload_n (pc := 1045) dL_law_1045 rfl rfl ?_
  refine a_iconst (pc := 1046) dL_law_1046 ic_3 ?_
  refine a_iaddN (pc := 1047) dL_law_1047 ?_
  refine a_sld (pc := 1048) (i := 6 * k + 3) hC hL3 (by omega) dL_law_1048 ?_
  refine a_callV (pc := 1049) km_L_125 dL_law_1049 (f_csheet hL.2.2.1 hL.2.1 _ _ _) rfl rfl (kr_t hL.2.2.1) (rok_law hC (by decide) (by decide) (by omega) (by omega)) (Nat.le_of_ble_eq_true rfl) (fun r1049 h1049 hp1049 => ?_)
  obtain ⟨rfl, hE⟩ := hp1049
  obtain ⟨e1, σ', z1, i1, ap1⟩ := li_1 hL hE
  refine a_hp e1 ?_
  refine a_aload_n (pc := 1052) dL_law_1052 rfl rfl ?_
  refine a_aload_n (pc := 1053) dL_law_1053 rfl rfl ?_
  refine a_iload_n (pc := 1054) dL_law_1054 rfl rfl ?_
  refine a_iconst (pc := 1055) dL_law_1055 ic_1 ?_
  refine a_iaddN (pc := 1056) dL_law_1056 ?_
  refine a_sld (pc := 1057) (i := 6 * k + 1) hC hL3 (by omega) dL_law_1057 ?_
  refine a_aload_n (pc := 1058) dL_law_1058 rfl rfl ?_
  refine a_iload_n (pc := 1059) dL_law_1059 rfl rfl ?_
  refine a_iconst (pc := 1060) dL_law_1060 ic_2 ?_
  refine a_iaddN (pc := 1061) dL_law_1061 ?_
  refine a_sld (pc := 1062) (i := 6 * k + 2) hC hL3 (by omega) dL_law_1062 ?_
  refine a_aload_n (pc := 1063) dL_law_1063 rfl rfl ?_
  refine a_iload_n (pc := 1064) dL_law_1064 rfl rfl ?_
  refine a_iconst (pc := 1065) dL_law_1065 ic_3 ?_
  refine a_iaddN (pc := 1066) dL_law_1066 ?_
  refine a_sld (pc := 1067) (i := 6 * k + 3) hC hL3 (by omega) dL_law_1067 ?_
  refine a_callV (pc := 1068) km_L_128 dL_law_1068 (f_sheet hm hL.2.1 _ _ _) rfl rfl (krecv_of (ci := 12) rfl (m_obj hm)) (rok_law hC (by decide) (by decide) (by omega) (by omega)) (Nat.le_of_ble_eq_true rfl) (fun r1068 h1068 hp1068 => ?_)
  obtain ⟨rfl, t2, rfl, hsp⟩ := hp1068
  refine a_icmp_eq (pc := 1071) (tgt := 1268) dL_law_1071 (by decide) (fun c1071 => ?_) (fun c1071 => ?_)
  · exact a_wid (by omega) (by omega) (kk t2 σ' _ (li_2 hm z1 i1 ap1 (MV_sheet hL.2.1 _ _ _) hsp))
  · exact absurd rfl c1071
set_option maxRecDepth 4000 in
theorem law_cell {nm ds : String} {k uc us : Nat} (hC : LC M b L xs) (hL3 : L ≤ 3072) (hk : 6 * k + 6 ≤ L) (hu : uc ≤ 300000) (hs : us ≤ 6000000) (hL : LI X m t σ h a) (kk : ∀ t' σ' h', LI X m t' σ' h' a → AJ X M ⟨RL, nm, ds⟩ cL_law 4 ret 1268 [(0, .ref b), (1, .ref a), (2, .ref (m 65)), (3, .int (nI (6 * k)))] [] h' (uc + 200) (us + 10000)) : AJ X M ⟨RL, nm, ds⟩ cL_law 4 ret 1076 [(0, .ref b), (1, .ref a), (2, .ref (m 65)), (3, .int (nI (6 * k)))] [] h uc us := by
  have hm := hL.1
  have ha := hL.2.2.2.2.2
  subst ha
  refine a_aload_n (pc := 1076) dL_law_1076 rfl rfl ?_
  refine a_aload_n (pc := 1077) dL_law_1077 rfl rfl ?_
  refine a_iload_n (pc := 1078) dL_law_1078 rfl rfl ?_
  refine a_iconst (pc := 1079) dL_law_1079 ic_1 ?_
  refine a_iaddN (pc := 1080) dL_law_1080 ?_
  refine a_sld (pc := 1081) (i := 6 * k + 1) hC hL3 (by omega) dL_law_1081 ?_
  refine a_aload_n (pc := 1082) dL_law_1082 rfl rfl ?_
  refine a_iload_n (pc := 1083) dL_law_1083 rfl rfl ?_
  refine a_iconst (pc := 1084) dL_law_1084 ic_2 ?_
  refine a_iaddN (pc := 1085) dL_law_1085 ?_
  refine a_sld (pc := 1086) (i := 6 * k + 2) hC hL3 (by omega) dL_law_1086 ?_
  refine a_aload_n (pc := 1087) dL_law_1087 rfl rfl ?_
  refine a_iload_n (pc := 1088) dL_law_1088 rfl rfl ?_
  refine a_iconst (pc := 1089) dL_law_1089 ic_3 ?_
  refine a_iaddN (pc := 1090) dL_law_1090 ?_
  refine a_sld (pc := 1091) (i := 6 * k + 3) hC hL3 (by omega) dL_law_1091 ?_
  refine a_callV (pc := 1092) km_L_129 dL_law_1092 (f_ccell hL.2.2.1 hL.2.1 _ _ _) rfl rfl (kr_t hL.2.2.1) (rok_law hC (by decide) (by decide) (by omega) (by omega)) (Nat.le_of_ble_eq_true rfl) (fun r1092 h1092 hp1092 => ?_)
  obtain ⟨rfl, hE⟩ := hp1092
  obtain ⟨e1, σ', z1, i1, ap1⟩ := li_1 hL hE
  refine a_hp e1 ?_
  refine a_aload_n (pc := 1095) dL_law_1095 rfl rfl ?_
  refine a_aload_n (pc := 1096) dL_law_1096 rfl rfl ?_
  refine a_iload_n (pc := 1097) dL_law_1097 rfl rfl ?_
  refine a_iconst (pc := 1098) dL_law_1098 ic_1 ?_
  refine a_iaddN (pc := 1099) dL_law_1099 ?_
  refine a_sld (pc := 1100) (i := 6 * k + 1) hC hL3 (by omega) dL_law_1100 ?_
  refine a_aload_n (pc := 1101) dL_law_1101 rfl rfl ?_
  refine a_iload_n (pc := 1102) dL_law_1102 rfl rfl ?_
  refine a_iconst (pc := 1103) dL_law_1103 ic_2 ?_
  refine a_iaddN (pc := 1104) dL_law_1104 ?_
  refine a_sld (pc := 1105) (i := 6 * k + 2) hC hL3 (by omega) dL_law_1105 ?_
  refine a_aload_n (pc := 1106) dL_law_1106 rfl rfl ?_
  refine a_iload_n (pc := 1107) dL_law_1107 rfl rfl ?_
  refine a_iconst (pc := 1108) dL_law_1108 ic_3 ?_
  refine a_iaddN (pc := 1109) dL_law_1109 ?_
  refine a_sld (pc := 1110) (i := 6 * k + 3) hC hL3 (by omega) dL_law_1110 ?_
  refine a_callV (pc := 1111) km_L_132 dL_law_1111 (f_cell hm hL.2.1 _ _ _) rfl rfl (krecv_of (ci := 12) rfl (m_obj hm)) (rok_law hC (by decide) (by decide) (by omega) (by omega)) (Nat.le_of_ble_eq_true rfl) (fun r1111 h1111 hp1111 => ?_)
  obtain ⟨rfl, t2, rfl, hsp⟩ := hp1111
  refine a_icmp_eq (pc := 1114) (tgt := 1268) dL_law_1114 (by decide) (fun c1114 => ?_) (fun c1114 => ?_)
  · exact a_wid (by omega) (by omega) (kk t2 σ' _ (li_2 hm z1 i1 ap1 (MV_cell hL.2.1 _ _ _) hsp))
  · exact absurd rfl c1114
set_option maxRecDepth 4000 in
theorem law_copy {nm ds : String} {k uc us : Nat} (hC : LC M b L xs) (hL3 : L ≤ 3072) (hk : 6 * k + 6 ≤ L) (hu : uc ≤ 300000) (hs : us ≤ 6000000) (hL : LI X m t σ h a) (kk : ∀ t' σ' h', LI X m t' σ' h' a → AJ X M ⟨RL, nm, ds⟩ cL_law 4 ret 1268 [(0, .ref b), (1, .ref a), (2, .ref (m 65)), (3, .int (nI (6 * k)))] [] h' (uc + 200) (us + 10000)) : AJ X M ⟨RL, nm, ds⟩ cL_law 4 ret 1119 [(0, .ref b), (1, .ref a), (2, .ref (m 65)), (3, .int (nI (6 * k)))] [] h uc us := by
  have hm := hL.1
  have ha := hL.2.2.2.2.2
  subst ha
  refine a_aload_n (pc := 1119) dL_law_1119 rfl rfl ?_
  refine a_aload_n (pc := 1120) dL_law_1120 rfl rfl ?_
  refine a_iload_n (pc := 1121) dL_law_1121 rfl rfl ?_
  refine a_iconst (pc := 1122) dL_law_1122 ic_1 ?_
  refine a_iaddN (pc := 1123) dL_law_1123 ?_
  refine a_sld (pc := 1124) (i := 6 * k + 1) hC hL3 (by omega) dL_law_1124 ?_
  refine a_aload_n (pc := 1125) dL_law_1125 rfl rfl ?_
  refine a_iload_n (pc := 1126) dL_law_1126 rfl rfl ?_
  refine a_iconst (pc := 1127) dL_law_1127 ic_2 ?_
  refine a_iaddN (pc := 1128) dL_law_1128 ?_
  refine a_sld (pc := 1129) (i := 6 * k + 2) hC hL3 (by omega) dL_law_1129 ?_
  refine a_aload_n (pc := 1130) dL_law_1130 rfl rfl ?_
  refine a_iload_n (pc := 1131) dL_law_1131 rfl rfl ?_
  refine a_iconst (pc := 1132) dL_law_1132 ic_3 ?_
  refine a_iaddN (pc := 1133) dL_law_1133 ?_
  refine a_sld (pc := 1134) (i := 6 * k + 3) hC hL3 (by omega) dL_law_1134 ?_
  refine a_aload_n (pc := 1135) dL_law_1135 rfl rfl ?_
  refine a_iload_n (pc := 1136) dL_law_1136 rfl rfl ?_
  refine a_iconst (pc := 1137) dL_law_1137 ic_4 ?_
  refine a_iaddN (pc := 1138) dL_law_1138 ?_
  refine a_sld (pc := 1139) (i := 6 * k + 4) hC hL3 (by omega) dL_law_1139 ?_
  refine a_aload_n (pc := 1140) dL_law_1140 rfl rfl ?_
  refine a_iload_n (pc := 1141) dL_law_1141 rfl rfl ?_
  refine a_iconst (pc := 1142) dL_law_1142 ic_5 ?_
  refine a_iaddN (pc := 1143) dL_law_1143 ?_
  refine a_sld (pc := 1144) (i := 6 * k + 5) hC hL3 (by omega) dL_law_1144 ?_
  refine a_callV (pc := 1145) km_L_133 dL_law_1145 (f_ccopy hL.2.2.1 hL.2.1 _ _ _ _ _) rfl rfl (kr_t hL.2.2.1) (rok_law hC (by decide) (by decide) (by omega) (by omega)) (Nat.le_of_ble_eq_true rfl) (fun r1145 h1145 hp1145 => ?_)
  obtain ⟨rfl, hE⟩ := hp1145
  obtain ⟨e1, σ', z1, i1, ap1⟩ := li_1 hL hE
  refine a_hp e1 ?_
  refine a_aload_n (pc := 1148) dL_law_1148 rfl rfl ?_
  refine a_aload_n (pc := 1149) dL_law_1149 rfl rfl ?_
  refine a_iload_n (pc := 1150) dL_law_1150 rfl rfl ?_
  refine a_iconst (pc := 1151) dL_law_1151 ic_1 ?_
  refine a_iaddN (pc := 1152) dL_law_1152 ?_
  refine a_sld (pc := 1153) (i := 6 * k + 1) hC hL3 (by omega) dL_law_1153 ?_
  refine a_aload_n (pc := 1154) dL_law_1154 rfl rfl ?_
  refine a_iload_n (pc := 1155) dL_law_1155 rfl rfl ?_
  refine a_iconst (pc := 1156) dL_law_1156 ic_2 ?_
  refine a_iaddN (pc := 1157) dL_law_1157 ?_
  refine a_sld (pc := 1158) (i := 6 * k + 2) hC hL3 (by omega) dL_law_1158 ?_
  refine a_aload_n (pc := 1159) dL_law_1159 rfl rfl ?_
  refine a_iload_n (pc := 1160) dL_law_1160 rfl rfl ?_
  refine a_iconst (pc := 1161) dL_law_1161 ic_3 ?_
  refine a_iaddN (pc := 1162) dL_law_1162 ?_
  refine a_sld (pc := 1163) (i := 6 * k + 3) hC hL3 (by omega) dL_law_1163 ?_
  refine a_aload_n (pc := 1164) dL_law_1164 rfl rfl ?_
  refine a_iload_n (pc := 1165) dL_law_1165 rfl rfl ?_
  refine a_iconst (pc := 1166) dL_law_1166 ic_4 ?_
  refine a_iaddN (pc := 1167) dL_law_1167 ?_
  refine a_sld (pc := 1168) (i := 6 * k + 4) hC hL3 (by omega) dL_law_1168 ?_
  refine a_aload_n (pc := 1169) dL_law_1169 rfl rfl ?_
  refine a_iload_n (pc := 1170) dL_law_1170 rfl rfl ?_
  refine a_iconst (pc := 1171) dL_law_1171 ic_5 ?_
  refine a_iaddN (pc := 1172) dL_law_1172 ?_
  refine a_sld (pc := 1173) (i := 6 * k + 5) hC hL3 (by omega) dL_law_1173 ?_
  refine a_callV (pc := 1174) km_L_137 dL_law_1174 (f_copy hm hL.2.1 _ _ _ _ _) rfl rfl (krecv_of (ci := 12) rfl (m_obj hm)) (rok_law hC (by decide) (by decide) (by omega) (by omega)) (Nat.le_of_ble_eq_true rfl) (fun r1174 h1174 hp1174 => ?_)
  obtain ⟨rfl, t2, rfl, hsp⟩ := hp1174
  refine a_icmp_eq (pc := 1177) (tgt := 1268) dL_law_1177 (by decide) (fun c1177 => ?_) (fun c1177 => ?_)
  · exact a_wid (by omega) (by omega) (kk t2 σ' _ (li_2 hm z1 i1 ap1 (MV_copy hL.2.1 _ _ _ _ _) hsp))
  · exact absurd rfl c1177
set_option maxRecDepth 4000 in
theorem law_runs {nm ds : String} {k uc us : Nat} (hC : LC M b L xs) (hL3 : L ≤ 3072) (hk : 6 * k + 6 ≤ L) (hu : uc ≤ 300000) (hs : us ≤ 6000000) (hL : LI X m t σ h a) (kk : ∀ t' σ' h', LI X m t' σ' h' a → AJ X M ⟨RL, nm, ds⟩ cL_law 4 ret 1268 [(0, .ref b), (1, .ref a), (2, .ref (m 65)), (3, .int (nI (6 * k)))] [] h' (uc + 200) (us + 10000)) : AJ X M ⟨RL, nm, ds⟩ cL_law 4 ret 1182 [(0, .ref b), (1, .ref a), (2, .ref (m 65)), (3, .int (nI (6 * k)))] [] h uc us := by
  have hm := hL.1
  have ha := hL.2.2.2.2.2
  subst ha
  refine a_aload_n (pc := 1182) dL_law_1182 rfl rfl ?_
  refine a_aload_n (pc := 1183) dL_law_1183 rfl rfl ?_
  refine a_iload_n (pc := 1184) dL_law_1184 rfl rfl ?_
  refine a_iconst (pc := 1185) dL_law_1185 ic_1 ?_
  refine a_iaddN (pc := 1186) dL_law_1186 ?_
  refine a_sld (pc := 1187) (i := 6 * k + 1) hC hL3 (by omega) dL_law_1187 ?_
  refine a_aload_n (pc := 1188) dL_law_1188 rfl rfl ?_
  refine a_iload_n (pc := 1189) dL_law_1189 rfl rfl ?_
  refine a_iconst (pc := 1190) dL_law_1190 ic_2 ?_
  refine a_iaddN (pc := 1191) dL_law_1191 ?_
  refine a_sld (pc := 1192) (i := 6 * k + 2) hC hL3 (by omega) dL_law_1192 ?_
  refine a_aload_n (pc := 1193) dL_law_1193 rfl rfl ?_
  refine a_iload_n (pc := 1194) dL_law_1194 rfl rfl ?_
  refine a_iconst (pc := 1195) dL_law_1195 ic_3 ?_
  refine a_iaddN (pc := 1196) dL_law_1196 ?_
  refine a_sld (pc := 1197) (i := 6 * k + 3) hC hL3 (by omega) dL_law_1197 ?_
  refine a_aload_n (pc := 1198) dL_law_1198 rfl rfl ?_
  refine a_iload_n (pc := 1199) dL_law_1199 rfl rfl ?_
  refine a_iconst (pc := 1200) dL_law_1200 ic_4 ?_
  refine a_iaddN (pc := 1201) dL_law_1201 ?_
  refine a_sld (pc := 1202) (i := 6 * k + 4) hC hL3 (by omega) dL_law_1202 ?_
  refine a_callV (pc := 1203) km_L_138 dL_law_1203 (f_cruns hL.2.2.1 hL.2.1 _ _ _ _) rfl rfl (kr_t hL.2.2.1) (rok_law hC (by decide) (by decide) (by omega) (by omega)) (Nat.le_of_ble_eq_true rfl) (fun r1203 h1203 hp1203 => ?_)
  obtain ⟨rfl, hE⟩ := hp1203
  obtain ⟨e1, σ', z1, i1, ap1⟩ := li_1 hL hE
  refine a_hp e1 ?_
  refine a_aload_n (pc := 1206) dL_law_1206 rfl rfl ?_
  refine a_aload_n (pc := 1207) dL_law_1207 rfl rfl ?_
  refine a_iload_n (pc := 1208) dL_law_1208 rfl rfl ?_
  refine a_iconst (pc := 1209) dL_law_1209 ic_1 ?_
  refine a_iaddN (pc := 1210) dL_law_1210 ?_
  refine a_sld (pc := 1211) (i := 6 * k + 1) hC hL3 (by omega) dL_law_1211 ?_
  refine a_aload_n (pc := 1212) dL_law_1212 rfl rfl ?_
  refine a_iload_n (pc := 1213) dL_law_1213 rfl rfl ?_
  refine a_iconst (pc := 1214) dL_law_1214 ic_2 ?_
  refine a_iaddN (pc := 1215) dL_law_1215 ?_
  refine a_sld (pc := 1216) (i := 6 * k + 2) hC hL3 (by omega) dL_law_1216 ?_
  refine a_aload_n (pc := 1217) dL_law_1217 rfl rfl ?_
  refine a_iload_n (pc := 1218) dL_law_1218 rfl rfl ?_
  refine a_iconst (pc := 1219) dL_law_1219 ic_3 ?_
  refine a_iaddN (pc := 1220) dL_law_1220 ?_
  refine a_sld (pc := 1221) (i := 6 * k + 3) hC hL3 (by omega) dL_law_1221 ?_
  refine a_aload_n (pc := 1222) dL_law_1222 rfl rfl ?_
  refine a_iload_n (pc := 1223) dL_law_1223 rfl rfl ?_
  refine a_iconst (pc := 1224) dL_law_1224 ic_4 ?_
  refine a_iaddN (pc := 1225) dL_law_1225 ?_
  refine a_sld (pc := 1226) (i := 6 * k + 4) hC hL3 (by omega) dL_law_1226 ?_
  refine a_callV (pc := 1227) km_L_142 dL_law_1227 (f_runs hm hL.2.1 _ _ _ _) rfl rfl (krecv_of (ci := 12) rfl (m_obj hm)) (rok_law hC (by decide) (by decide) (by omega) (by omega)) (Nat.le_of_ble_eq_true rfl) (fun r1227 h1227 hp1227 => ?_)
  obtain ⟨rfl, t2, rfl, hsp⟩ := hp1227
  refine a_icmp_eq (pc := 1230) (tgt := 1268) dL_law_1230 (by decide) (fun c1230 => ?_) (fun c1230 => ?_)
  · exact a_wid (by omega) (by omega) (kk t2 σ' _ (li_2 hm z1 i1 ap1 (MV_runs hL.2.1 _ _ _ _) hsp))
  · exact absurd rfl c1230
set_option maxRecDepth 4000 in
theorem law_taken {nm ds : String} {k uc us : Nat} (hC : LC M b L xs) (hL3 : L ≤ 3072) (hk : 6 * k + 6 ≤ L) (hu : uc ≤ 300000) (hs : us ≤ 6000000) (hL : LI X m t σ h a) (kk : ∀ t' σ' h', LI X m t' σ' h' a → AJ X M ⟨RL, nm, ds⟩ cL_law 4 ret 1268 [(0, .ref b), (1, .ref a), (2, .ref (m 65)), (3, .int (nI (6 * k)))] [] h' (uc + 200) (us + 10000)) : AJ X M ⟨RL, nm, ds⟩ cL_law 4 ret 1235 [(0, .ref b), (1, .ref a), (2, .ref (m 65)), (3, .int (nI (6 * k)))] [] h uc us := by
  have hm := hL.1
  have ha := hL.2.2.2.2.2
  subst ha
  refine a_aload_n (pc := 1235) dL_law_1235 rfl rfl ?_
  refine a_aload_n (pc := 1236) dL_law_1236 rfl rfl ?_
  refine a_iload_n (pc := 1237) dL_law_1237 rfl rfl ?_
  refine a_iconst (pc := 1238) dL_law_1238 ic_1 ?_
  refine a_iaddN (pc := 1239) dL_law_1239 ?_
  refine a_sld (pc := 1240) (i := 6 * k + 1) hC hL3 (by omega) dL_law_1240 ?_
  refine a_aload_n (pc := 1241) dL_law_1241 rfl rfl ?_
  refine a_iload_n (pc := 1242) dL_law_1242 rfl rfl ?_
  refine a_iconst (pc := 1243) dL_law_1243 ic_2 ?_
  refine a_iaddN (pc := 1244) dL_law_1244 ?_
  refine a_sld (pc := 1245) (i := 6 * k + 2) hC hL3 (by omega) dL_law_1245 ?_
  refine a_callV (pc := 1246) km_L_143 dL_law_1246 (f_ctaken hL.2.2.1 hL.2.1 _ _) rfl rfl (kr_t hL.2.2.1) (rok_law hC (by decide) (by decide) (by omega) (by omega)) (Nat.le_of_ble_eq_true rfl) (fun r1246 h1246 hp1246 => ?_)
  obtain ⟨rfl, hE⟩ := hp1246
  obtain ⟨e1, σ', z1, i1, ap1⟩ := li_1 hL hE
  refine a_hp e1 ?_
  refine a_aload_n (pc := 1249) dL_law_1249 rfl rfl ?_
  refine a_aload_n (pc := 1250) dL_law_1250 rfl rfl ?_
  refine a_iload_n (pc := 1251) dL_law_1251 rfl rfl ?_
  refine a_iconst (pc := 1252) dL_law_1252 ic_1 ?_
  refine a_iaddN (pc := 1253) dL_law_1253 ?_
  refine a_sld (pc := 1254) (i := 6 * k + 1) hC hL3 (by omega) dL_law_1254 ?_
  refine a_aload_n (pc := 1255) dL_law_1255 rfl rfl ?_
  refine a_iload_n (pc := 1256) dL_law_1256 rfl rfl ?_
  refine a_iconst (pc := 1257) dL_law_1257 ic_2 ?_
  refine a_iaddN (pc := 1258) dL_law_1258 ?_
  refine a_sld (pc := 1259) (i := 6 * k + 2) hC hL3 (by omega) dL_law_1259 ?_
  refine a_callV (pc := 1260) km_L_146 dL_law_1260 (f_taken hm hL.2.1 _ _) rfl rfl (krecv_of (ci := 12) rfl (m_obj hm)) (rok_law hC (by decide) (by decide) (by omega) (by omega)) (Nat.le_of_ble_eq_true rfl) (fun r1260 h1260 hp1260 => ?_)
  obtain ⟨rfl, t2, rfl, hsp⟩ := hp1260
  refine a_icmp_eq (pc := 1263) (tgt := 1268) dL_law_1263 (by decide) (fun c1263 => ?_) (fun c1263 => ?_)
  · exact a_wid (by omega) (by omega) (kk t2 σ' _ (li_2 hm z1 i1 ap1 ((by rw [ro_taken]; exact hL.2.1)) hsp))
  · exact absurd rfl c1263
end LWO

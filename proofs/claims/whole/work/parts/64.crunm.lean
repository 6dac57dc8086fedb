/-! THE CLASS: A RUN MORE -/
section CPL
variable {X : KX} {h : AH} {s : MST} {σ : Nat → Nat → Nat}
section RNS
variable {p : Nat} {g d : Int32}
theorem nrn_1 {j : Nat} (hj : j ≠ 18) : (N_run s p g d).1 j = s.1 j := si_n hj
theorem nrn_c : vI (N_run s p g d) 18 = (nI (vI s 18 + 1)).toNatClampNeg := congrArg Int32.toNatClampNeg si_e
theorem nrn_a {j : Nat} (h11 : j ≠ 11) (h12 : j ≠ 12) (h13 : j ≠ 13) (h16 : j ≠ 16) (h17 : j ≠ 17) (h14 : j ≠ 14) (h15 : j ≠ 15) : (N_run s p g d).2.1 j = s.2.1 j := by unfold N_run; rw [si_2, sa_n h15, sa_n h14, sa_n h17, sa_n h16, sa_n h13, sa_n h12, sa_n h11]
theorem nrn_11 : (N_run s p g d).2.1 11 = upd (s.2.1 11) (vI s 18) (nI p) := by unfold N_run; rw [si_2, sa_n (by decide), sa_n (by decide), sa_n (by decide), sa_n (by decide), sa_n (by decide), sa_n (by decide), sa_e]
theorem nrn_12 : (N_run s p g d).2.1 12 = upd (s.2.1 12) (vI s 18) g := by unfold N_run; rw [si_2, sa_n (by decide), sa_n (by decide), sa_n (by decide), sa_n (by decide), sa_n (by decide), sa_e]
theorem nrn_13 : (N_run s p g d).2.1 13 = upd (s.2.1 13) (vI s 18) d := by unfold N_run; rw [si_2, sa_n (by decide), sa_n (by decide), sa_n (by decide), sa_n (by decide), sa_e]
theorem nrn_16 : (N_run s p g d).2.1 16 = upd (s.2.1 16) (vI s 18) (nI 0) := by unfold N_run; rw [si_2, sa_n (by decide), sa_n (by decide), sa_n (by decide), sa_e]
theorem nrn_17 : (N_run s p g d).2.1 17 = upd (s.2.1 17) (vI s 18) (nI 0) := by unfold N_run; rw [si_2, sa_n (by decide), sa_n (by decide), sa_e]
theorem nrn_14 : (N_run s p g d).2.1 14 = fillO (fun i => nI (sgP s p i)) (s.2.1 14) (25 * vI s 18) (vA s 9 p) := by unfold N_run; rw [si_2, sa_n (by decide), sa_e]
theorem nrn_15 : (N_run s p g d).2.1 15 = fillO (fun _ => nI 0) (s.2.1 15) (25 * vI s 18) (vA s 9 p) := by unfold N_run; rw [si_2, sa_e]
theorem SQ_nrn (hV : MV s) : SQ s (N_run s p g d) := by
  refine ⟨fun j hj => nrn_1 (by revert hj; revert j; decide), fun q hq => nrn_a (by revert hq; revert q; decide) (by revert hq; revert q; decide) (by revert hq; revert q; decide) (by revert hq; revert q; decide) (by revert hq; revert q; decide) (by revert hq; revert q; decide) (by revert hq; revert q; decide), fun i hi => ⟨?_, fun j hj => ?_⟩, fun i hi => ⟨fun q hq => ?_, ?_, fun j hj => ?_⟩, fun i hi q hq => ?_, fun i hi => ?_, fun i hi => ?_⟩
  · rw [nrn_a (by decide) (by decide) (by decide) (by decide) (by decide) (by decide) (by decide)]
  · rw [nrn_a (by decide) (by decide) (by decide) (by decide) (by decide) (by decide) (by decide)]
  · have hin : i ≠ vI s 18 := by omega
    have hq : q = 11 ∨ q = 12 ∨ q = 13 ∨ q = 16 ∨ q = 17 := by simpa using hq
    rcases hq with rfl | rfl | rfl | rfl | rfl
    · rw [nrn_11, pk_un hin]
    · rw [nrn_12, pk_un hin]
    · rw [nrn_13, pk_un hin]
    · rw [nrn_16, pk_un hin]
    · rw [nrn_17, pk_un hin]
  · show ((N_run s p g d).2.1 9 ((N_run s p g d).2.1 11 i).toNatClampNeg).toNatClampNeg = (s.2.1 9 (s.2.1 11 i).toNatClampNeg).toNatClampNeg
    rw [nrn_a (j := 9) (by decide) (by decide) (by decide) (by decide) (by decide) (by decide) (by decide), nrn_11, pk_un (show i ≠ vI s 18 by omega)]
  · have h25 := rz25 hV hi
    rw [nrn_14, nrn_15, fillO_out (Or.inl (by omega)), fillO_out (Or.inl (by omega))]
    exact ⟨rfl, rfl⟩
  · rw [nrn_a (by revert hq; revert q; decide) (by revert hq; revert q; decide) (by revert hq; revert q; decide) (by revert hq; revert q; decide) (by revert hq; revert q; decide) (by revert hq; revert q; decide) (by revert hq; revert q; decide)]
  · rw [nrn_a (by decide) (by decide) (by decide) (by decide) (by decide) (by decide) (by decide), nrn_a (by decide) (by decide) (by decide) (by decide) (by decide) (by decide) (by decide)]
    exact ⟨rfl, rfl⟩
  · exact txE_cg (nrn_a (by decide) (by decide) (by decide) (by decide) (by decide) (by decide) (by decide)) (nrn_a (by decide) (by decide) (by decide) (by decide) (by decide) (by decide) (by decide)) i
def rnA (x cd gs sp lf kc kg : Nat) (k : Nat) : Nat := match k with
  | 18 => cd
  | 19 => gs
  | 20 => sp
  | 21 => lf
  | 22 => kc
  | 23 => kg
  | _ => x
theorem CI.ext {h1 : AH} (hI : CI X σ s h) (hk : ∀ a, h a ≠ none → h1 a = h a) : CI X σ s h1 := ⟨hI.1, fun k i hki => by
  obtain ⟨e, he, hc⟩ := hI.2 k i hki
  exact ⟨e, (hk _ (by rw [he]; exact Option.some_ne_none e)).trans he, hc⟩⟩
theorem app_run {e2 cap2 x lf cd gs sp kc kg : Nat} {f : Nat → Int32} {F2 : Nat → Option Nat} {md2 : Int32} (hI : CI X σ s h) (hV : MV s) (hx : h x = none) (hlf : (kput h x (kO 5 [.int 0, .null, .int 0, .int 0, .null, .null, .int 0, .int 0, .null, .null, .null, .null, .int 0, .int 0])) lf = none) (hcd : (kput (kput h x (kO 5 [.int 0, .null, .int 0, .int 0, .null, .null, .int 0, .int 0, .null, .null, .null, .null, .int 0, .int 0])) lf (kI 5 (fun _ => 0))) cd = none) (hgs : (kput (kput (kput h x (kO 5 [.int 0, .null, .int 0, .int 0, .null, .null, .int 0, .int 0, .null, .null, .null, .null, .int 0, .int 0])) lf (kI 5 (fun _ => 0))) cd (kI (vA s 9 p) (fun _ => 0))) gs = none) (hsp : (kput (kput (kput (kput h x (kO 5 [.int 0, .null, .int 0, .int 0, .null, .null, .int 0, .int 0, .null, .null, .null, .null, .int 0, .int 0])) lf (kI 5 (fun _ => 0))) cd (kI (vA s 9 p) (fun _ => 0))) gs (kI (vA s 9 p) (fun _ => 0))) sp = none) (hkc : (kput (kput (kput (kput (kput h x (kO 5 [.int 0, .null, .int 0, .int 0, .null, .null, .int 0, .int 0, .null, .null, .null, .null, .int 0, .int 0])) lf (kI 5 (fun _ => 0))) cd (kI (vA s 9 p) (fun _ => 0))) gs (kI (vA s 9 p) (fun _ => 0))) sp (kI (vA s 9 p) (fun _ => 0))) kc = none) (hkg : (kput (kput (kput (kput (kput (kput h x (kO 5 [.int 0, .null, .int 0, .int 0, .null, .null, .int 0, .int 0, .null, .null, .null, .null, .int 0, .int 0])) lf (kI 5 (fun _ => 0))) cd (kI (vA s 9 p) (fun _ => 0))) gs (kI (vA s 9 p) (fun _ => 0))) sp (kI (vA s 9 p) (fun _ => 0))) kc (kI (vA s 9 p) (fun _ => 0))) kg = none) (hf : ∀ i, i < vA s 9 p → f i = nI (sgP s p i)) (hp : p < vI s 10) (h16 : vI s 18 < 16) (he : (0 < lsz s 1 ∧ e2 = σ 30 1) ∨ (kput (kput (kput (kput (kput (kput (kput (kput (kput h x (kO 5 [.int 0, .null, .int 0, .int 0, .null, .null, .int 0, .int 0, .null, .null, .null, .null, .int 0, .int 0])) lf (kI 5 (fun _ => 0))) cd (kI (vA s 9 p) (fun _ => 0))) gs (kI (vA s 9 p) (fun _ => 0))) sp (kI (vA s 9 p) (fun _ => 0))) kc (kI (vA s 9 p) (fun _ => 0))) kg (kI (vA s 9 p) (fun _ => 0))) cd (kI (vA s 9 p) f)) x (rO (nI p) g d 0 0 0 0 (σ 15 p) cd gs sp lf kc kg)) e2 = none) (hc2 : cap2 = 10 ∨ cap2 = 15 ∨ cap2 = 22) (hn2 : lsz s 1 + 1 ≤ cap2) (hF1 : ∀ i, i < lsz s 1 → F2 i = some (σ (lek 1) i)) (hF2 : F2 (lsz s 1) = some x) : CE X σ s h (N_run s p g d) (kput (kput (kput (kput (kput (kput (kput (kput (kput (kput (kput h x (kO 5 [.int 0, .null, .int 0, .int 0, .null, .null, .int 0, .int 0, .null, .null, .null, .null, .int 0, .int 0])) lf (kI 5 (fun _ => 0))) cd (kI (vA s 9 p) (fun _ => 0))) gs (kI (vA s 9 p) (fun _ => 0))) sp (kI (vA s 9 p) (fun _ => 0))) kc (kI (vA s 9 p) (fun _ => 0))) kg (kI (vA s 9 p) (fun _ => 0))) cd (kI (vA s 9 p) f)) x (rO (nI p) g d 0 0 0 0 (σ 15 p) cd gs sp lf kc kg)) e2 (kQ 2 cap2 F2)) (σ 1 1) (kO 13 [.int md2, .ref e2, .int (nI (lsz s 1 + 1))])) := by
  obtain ⟨n_lf_x, y_lf_x⟩ := kput_none hlf
  obtain ⟨n_cd_lf, y_cd_lf⟩ := kput_none hcd
  obtain ⟨n_cd_x, y_cd_x⟩ := kput_none y_cd_lf
  obtain ⟨n_gs_cd, y_gs_cd⟩ := kput_none hgs
  obtain ⟨n_gs_lf, y_gs_lf⟩ := kput_none y_gs_cd
  obtain ⟨n_gs_x, y_gs_x⟩ := kput_none y_gs_lf
  obtain ⟨n_sp_gs, y_sp_gs⟩ := kput_none hsp
  obtain ⟨n_sp_cd, y_sp_cd⟩ := kput_none y_sp_gs
  obtain ⟨n_sp_lf, y_sp_lf⟩ := kput_none y_sp_cd
  obtain ⟨n_sp_x, y_sp_x⟩ := kput_none y_sp_lf
  obtain ⟨n_kc_sp, y_kc_sp⟩ := kput_none hkc
  obtain ⟨n_kc_gs, y_kc_gs⟩ := kput_none y_kc_sp
  obtain ⟨n_kc_cd, y_kc_cd⟩ := kput_none y_kc_gs
  obtain ⟨n_kc_lf, y_kc_lf⟩ := kput_none y_kc_cd
  obtain ⟨n_kc_x, y_kc_x⟩ := kput_none y_kc_lf
  obtain ⟨n_kg_kc, y_kg_kc⟩ := kput_none hkg
  obtain ⟨n_kg_sp, y_kg_sp⟩ := kput_none y_kg_kc
  obtain ⟨n_kg_gs, y_kg_gs⟩ := kput_none y_kg_sp
  obtain ⟨n_kg_cd, y_kg_cd⟩ := kput_none y_kg_gs
  obtain ⟨n_kg_lf, y_kg_lf⟩ := kput_none y_kg_cd
  obtain ⟨n_kg_x, y_kg_x⟩ := kput_none y_kg_lf
  have b10 : vI s 10 ≤ 4 := hV.1.1.2
  have e18 : vI (N_run s p g d) 18 = vI s 18 + 1 := nrn_c.trans (nI_clamp (by omega))
  have hkp : ∀ y, h y ≠ none → (kput (kput (kput (kput (kput (kput (kput (kput (kput h x (kO 5 [.int 0, .null, .int 0, .int 0, .null, .null, .int 0, .int 0, .null, .null, .null, .null, .int 0, .int 0])) lf (kI 5 (fun _ => 0))) cd (kI (vA s 9 p) (fun _ => 0))) gs (kI (vA s 9 p) (fun _ => 0))) sp (kI (vA s 9 p) (fun _ => 0))) kc (kI (vA s 9 p) (fun _ => 0))) kg (kI (vA s 9 p) (fun _ => 0))) cd (kI (vA s 9 p) f)) x (rO (nI p) g d 0 0 0 0 (σ 15 p) cd gs sp lf kc kg)) y = h y := fun y hy => (kput_ne (fun z => hy (by rw [z]; exact hx))).trans ((kput_ne (fun z => hy (by rw [z]; exact y_cd_x))).trans ((kput_ne (fun z => hy (by rw [z]; exact y_kg_x))).trans ((kput_ne (fun z => hy (by rw [z]; exact y_kc_x))).trans ((kput_ne (fun z => hy (by rw [z]; exact y_sp_x))).trans ((kput_ne (fun z => hy (by rw [z]; exact y_gs_x))).trans ((kput_ne (fun z => hy (by rw [z]; exact y_cd_x))).trans ((kput_ne (fun z => hy (by rw [z]; exact y_lf_x))).trans ((kput_ne (fun z => hy (by rw [z]; exact hx))).trans (rfl)))))))))
  have e11 : (N_run s p g d).2.1 11 (vI s 18) = nI p := by rw [nrn_11, pk_us]
  have erz : rsz (N_run s p g d) (vI s 18) = vA s 9 p := by
    show ((N_run s p g d).2.1 9 ((N_run s p g d).2.1 11 (vI s 18)).toNatClampNeg).toNatClampNeg = (s.2.1 9 p).toNatClampNeg
    rw [e11, nI_clamp (by omega), nrn_a (j := 9) (by decide) (by decide) (by decide) (by decide) (by decide) (by decide) (by decide)]
  have vac : (N_run s p g d).1 57 = nI 1 → vI s 18 < vI (N_run s p g d) 58 → False := fun y1 y2 => by
    rw [nrn_1 (by decide)] at y1
    have e58 : vI (N_run s p g d) 58 = vI s 58 := congrArg Int32.toNatClampNeg (nrn_1 (by decide))
    rw [e58] at y2
    have hm : vI s 58 ≤ vI s 18 := (hV.2.2.2.2.1.2 y1).1.2
    omega
  have g17 : (gro σ 1 (vI s 18) e2 (rnA x cd gs sp lf kc kg)) 17 (vI s 18) = x := gro_n (show lof 17 = 1 from rfl) (by decide)
  have g18 : (gro σ 1 (vI s 18) e2 (rnA x cd gs sp lf kc kg)) 18 (vI s 18) = cd := gro_n (show lof 18 = 1 from rfl) (by decide)
  have g19 : (gro σ 1 (vI s 18) e2 (rnA x cd gs sp lf kc kg)) 19 (vI s 18) = gs := gro_n (show lof 19 = 1 from rfl) (by decide)
  have g20 : (gro σ 1 (vI s 18) e2 (rnA x cd gs sp lf kc kg)) 20 (vI s 18) = sp := gro_n (show lof 20 = 1 from rfl) (by decide)
  have g21 : (gro σ 1 (vI s 18) e2 (rnA x cd gs sp lf kc kg)) 21 (vI s 18) = lf := gro_n (show lof 21 = 1 from rfl) (by decide)
  have g22 : (gro σ 1 (vI s 18) e2 (rnA x cd gs sp lf kc kg)) 22 (vI s 18) = kc := gro_n (show lof 22 = 1 from rfl) (by decide)
  have g23 : (gro σ 1 (vI s 18) e2 (rnA x cd gs sp lf kc kg)) 23 (vI s 18) = kg := gro_n (show lof 23 = 1 from rfl) (by decide)
  have g15 : (gro σ 1 (vI s 18) e2 (rnA x cd gs sp lf kc kg)) 15 p = σ 15 p := gro_o (fun z => absurd z.1 (by decide)) (fun z => absurd z.1 (by decide))
  refine CI.app (A := rnA x cd gs sp lf kc kg) hI (MV.pk hV) (CI.ext hI hkp) hkp (SQ_nrn hV) (by decide) (show lsz (N_run s p g d) 1 = lsz s 1 + 1 from e18) (fun i hi h5 => ?_) (fun k hk => ?_) (fun k k' hk hk' hz => ?_) he hc2 hn2 hF1 hF2
  · rcases (by omega : i = 0 ∨ i = 2 ∨ i = 3 ∨ i = 4) with rfl | rfl | rfl | rfl
    · exact congrArg Int32.toNatClampNeg (nrn_1 (by decide))
    · exact congrArg Int32.toNatClampNeg (nrn_1 (by decide))
    · exact congrArg Int32.toNatClampNeg (nrn_1 (by decide))
    · exact congrArg Int32.toNatClampNeg (nrn_1 (by decide))
  · rcases lof_1 hk with rfl | rfl | rfl | rfl | rfl | rfl | rfl
    · refine ⟨hx, _, kput_eq, 0, 0, ?_, fun y1 y2 => (vac y1 y2).elim⟩
      show rO (nI p) g d 0 0 0 0 (σ 15 p) cd gs sp lf kc kg = rO ((N_run s p g d).2.1 11 (vI s 18)) ((N_run s p g d).2.1 12 (vI s 18)) ((N_run s p g d).2.1 13 (vI s 18)) ((N_run s p g d).2.1 16 (vI s 18)) ((N_run s p g d).2.1 17 (vI s 18)) 0 0 ((gro σ 1 (vI s 18) e2 (rnA x cd gs sp lf kc kg)) 15 ((N_run s p g d).2.1 11 (vI s 18)).toNatClampNeg) ((gro σ 1 (vI s 18) e2 (rnA x cd gs sp lf kc kg)) 18 (vI s 18)) ((gro σ 1 (vI s 18) e2 (rnA x cd gs sp lf kc kg)) 19 (vI s 18)) ((gro σ 1 (vI s 18) e2 (rnA x cd gs sp lf kc kg)) 20 (vI s 18)) ((gro σ 1 (vI s 18) e2 (rnA x cd gs sp lf kc kg)) 21 (vI s 18)) ((gro σ 1 (vI s 18) e2 (rnA x cd gs sp lf kc kg)) 22 (vI s 18)) ((gro σ 1 (vI s 18) e2 (rnA x cd gs sp lf kc kg)) 23 (vI s 18))
      rw [e11, nI_clamp (by omega), nrn_12, nrn_13, nrn_16, nrn_17, pk_us, pk_us, pk_us, pk_us, g15, g18, g19, g20, g21, g22, g23]
      rfl
    · refine ⟨y_cd_x, _, (kput_ne n_cd_x).trans (kput_eq), f, ?_, fun j hj => ?_⟩
      · exact congrArg (fun t => kI t f) erz.symm
      · have hj : j < rsz (N_run s p g d) (vI s 18) := hj
        rw [erz] at hj
        show f j = (N_run s p g d).2.1 14 (25 * vI s 18 + j)
        rw [nrn_14, fillO_in (by omega) (by omega), hf j hj]
        exact congrArg (fun t => nI (sgP s p t)) (by omega)
    · refine ⟨y_gs_x, _, (kput_ne n_gs_x).trans ((kput_ne n_gs_cd).trans ((kput_ne (Ne.symm n_kg_gs)).trans ((kput_ne (Ne.symm n_kc_gs)).trans ((kput_ne (Ne.symm n_sp_gs)).trans (kput_eq))))), (fun _ => 0), ?_, fun j hj => ?_⟩
      · exact congrArg (fun t => kI t (fun _ => 0)) erz.symm
      · have hj : j < rsz (N_run s p g d) (vI s 18) := hj
        rw [erz] at hj
        show (0 : Int32) = (N_run s p g d).2.1 15 (25 * vI s 18 + j)
        rw [nrn_15, fillO_in (by omega) (by omega)]
        rfl
    · exact ⟨y_sp_x, _, (kput_ne n_sp_x).trans ((kput_ne n_sp_cd).trans ((kput_ne (Ne.symm n_kg_sp)).trans ((kput_ne (Ne.symm n_kc_sp)).trans (kput_eq)))), (fun _ => 0), congrArg (fun t => kI t (fun _ => 0)) erz.symm⟩
    · exact ⟨y_lf_x, _, (kput_ne n_lf_x).trans ((kput_ne (Ne.symm n_cd_lf)).trans ((kput_ne (Ne.symm n_kg_lf)).trans ((kput_ne (Ne.symm n_kc_lf)).trans ((kput_ne (Ne.symm n_sp_lf)).trans ((kput_ne (Ne.symm n_gs_lf)).trans ((kput_ne (Ne.symm n_cd_lf)).trans (kput_eq))))))), (fun _ => 0), rfl⟩
    · exact ⟨y_kc_x, _, (kput_ne n_kc_x).trans ((kput_ne n_kc_cd).trans ((kput_ne (Ne.symm n_kg_kc)).trans (kput_eq))), (fun _ => 0), congrArg (fun t => kI t (fun _ => 0)) erz.symm, fun y1 y2 => (vac y1 y2).elim⟩
    · exact ⟨y_kg_x, _, (kput_ne n_kg_x).trans ((kput_ne n_kg_cd).trans (kput_eq)), (fun _ => 0), congrArg (fun t => kI t (fun _ => 0)) erz.symm, fun y1 y2 => (vac y1 y2).elim⟩
  · rcases lof_1 hk with rfl | rfl | rfl | rfl | rfl | rfl | rfl <;> rcases lof_1 hk' with rfl | rfl | rfl | rfl | rfl | rfl | rfl
    · rfl
    · exact absurd hz (Ne.symm n_cd_x)
    · exact absurd hz (Ne.symm n_gs_x)
    · exact absurd hz (Ne.symm n_sp_x)
    · exact absurd hz (Ne.symm n_lf_x)
    · exact absurd hz (Ne.symm n_kc_x)
    · exact absurd hz (Ne.symm n_kg_x)
    · exact absurd hz n_cd_x
    · rfl
    · exact absurd hz (Ne.symm n_gs_cd)
    · exact absurd hz (Ne.symm n_sp_cd)
    · exact absurd hz n_cd_lf
    · exact absurd hz (Ne.symm n_kc_cd)
    · exact absurd hz (Ne.symm n_kg_cd)
    · exact absurd hz n_gs_x
    · exact absurd hz n_gs_cd
    · rfl
    · exact absurd hz (Ne.symm n_sp_gs)
    · exact absurd hz n_gs_lf
    · exact absurd hz (Ne.symm n_kc_gs)
    · exact absurd hz (Ne.symm n_kg_gs)
    · exact absurd hz n_sp_x
    · exact absurd hz n_sp_cd
    · exact absurd hz n_sp_gs
    · rfl
    · exact absurd hz n_sp_lf
    · exact absurd hz (Ne.symm n_kc_sp)
    · exact absurd hz (Ne.symm n_kg_sp)
    · exact absurd hz n_lf_x
    · exact absurd hz (Ne.symm n_cd_lf)
    · exact absurd hz (Ne.symm n_gs_lf)
    · exact absurd hz (Ne.symm n_sp_lf)
    · rfl
    · exact absurd hz (Ne.symm n_kc_lf)
    · exact absurd hz (Ne.symm n_kg_lf)
    · exact absurd hz n_kc_x
    · exact absurd hz n_kc_cd
    · exact absurd hz n_kc_gs
    · exact absurd hz n_kc_sp
    · exact absurd hz n_kc_lf
    · rfl
    · exact absurd hz (Ne.symm n_kg_kc)
    · exact absurd hz n_kg_x
    · exact absurd hz n_kg_cd
    · exact absurd hz n_kg_gs
    · exact absurd hz n_kg_sp
    · exact absurd hz n_kg_lf
    · exact absurd hz n_kg_kc
    · rfl
end RNS
theorem run_keep {x lf cd gs sp kc kg p : Nat} {g d : Int32} {f : Nat → Int32} (hx : h x = none) (hlf : (kput h x (kO 5 [.int 0, .null, .int 0, .int 0, .null, .null, .int 0, .int 0, .null, .null, .null, .null, .int 0, .int 0])) lf = none) (hcd : (kput (kput h x (kO 5 [.int 0, .null, .int 0, .int 0, .null, .null, .int 0, .int 0, .null, .null, .null, .null, .int 0, .int 0])) lf (kI 5 (fun _ => 0))) cd = none) (hgs : (kput (kput (kput h x (kO 5 [.int 0, .null, .int 0, .int 0, .null, .null, .int 0, .int 0, .null, .null, .null, .null, .int 0, .int 0])) lf (kI 5 (fun _ => 0))) cd (kI (vA s 9 p) (fun _ => 0))) gs = none) (hsp : (kput (kput (kput (kput h x (kO 5 [.int 0, .null, .int 0, .int 0, .null, .null, .int 0, .int 0, .null, .null, .null, .null, .int 0, .int 0])) lf (kI 5 (fun _ => 0))) cd (kI (vA s 9 p) (fun _ => 0))) gs (kI (vA s 9 p) (fun _ => 0))) sp = none) (hkc : (kput (kput (kput (kput (kput h x (kO 5 [.int 0, .null, .int 0, .int 0, .null, .null, .int 0, .int 0, .null, .null, .null, .null, .int 0, .int 0])) lf (kI 5 (fun _ => 0))) cd (kI (vA s 9 p) (fun _ => 0))) gs (kI (vA s 9 p) (fun _ => 0))) sp (kI (vA s 9 p) (fun _ => 0))) kc = none) (hkg : (kput (kput (kput (kput (kput (kput h x (kO 5 [.int 0, .null, .int 0, .int 0, .null, .null, .int 0, .int 0, .null, .null, .null, .null, .int 0, .int 0])) lf (kI 5 (fun _ => 0))) cd (kI (vA s 9 p) (fun _ => 0))) gs (kI (vA s 9 p) (fun _ => 0))) sp (kI (vA s 9 p) (fun _ => 0))) kc (kI (vA s 9 p) (fun _ => 0))) kg = none) : ∀ y, h y ≠ none → (kput (kput (kput (kput (kput (kput (kput (kput (kput h x (kO 5 [.int 0, .null, .int 0, .int 0, .null, .null, .int 0, .int 0, .null, .null, .null, .null, .int 0, .int 0])) lf (kI 5 (fun _ => 0))) cd (kI (vA s 9 p) (fun _ => 0))) gs (kI (vA s 9 p) (fun _ => 0))) sp (kI (vA s 9 p) (fun _ => 0))) kc (kI (vA s 9 p) (fun _ => 0))) kg (kI (vA s 9 p) (fun _ => 0))) cd (kI (vA s 9 p) f)) x (rO (nI p) g d 0 0 0 0 (σ 15 p) cd gs sp lf kc kg)) y = h y := by
  obtain ⟨n_lf_x, y_lf_x⟩ := kput_none hlf
  obtain ⟨n_cd_lf, y_cd_lf⟩ := kput_none hcd
  obtain ⟨n_cd_x, y_cd_x⟩ := kput_none y_cd_lf
  obtain ⟨n_gs_cd, y_gs_cd⟩ := kput_none hgs
  obtain ⟨n_gs_lf, y_gs_lf⟩ := kput_none y_gs_cd
  obtain ⟨n_gs_x, y_gs_x⟩ := kput_none y_gs_lf
  obtain ⟨n_sp_gs, y_sp_gs⟩ := kput_none hsp
  obtain ⟨n_sp_cd, y_sp_cd⟩ := kput_none y_sp_gs
  obtain ⟨n_sp_lf, y_sp_lf⟩ := kput_none y_sp_cd
  obtain ⟨n_sp_x, y_sp_x⟩ := kput_none y_sp_lf
  obtain ⟨n_kc_sp, y_kc_sp⟩ := kput_none hkc
  obtain ⟨n_kc_gs, y_kc_gs⟩ := kput_none y_kc_sp
  obtain ⟨n_kc_cd, y_kc_cd⟩ := kput_none y_kc_gs
  obtain ⟨n_kc_lf, y_kc_lf⟩ := kput_none y_kc_cd
  obtain ⟨n_kc_x, y_kc_x⟩ := kput_none y_kc_lf
  obtain ⟨n_kg_kc, y_kg_kc⟩ := kput_none hkg
  obtain ⟨n_kg_sp, y_kg_sp⟩ := kput_none y_kg_kc
  obtain ⟨n_kg_gs, y_kg_gs⟩ := kput_none y_kg_sp
  obtain ⟨n_kg_cd, y_kg_cd⟩ := kput_none y_kg_gs
  obtain ⟨n_kg_lf, y_kg_lf⟩ := kput_none y_kg_cd
  obtain ⟨n_kg_x, y_kg_x⟩ := kput_none y_kg_lf
  exact fun y hy => (kput_ne (fun z => hy (by rw [z]; exact hx))).trans ((kput_ne (fun z => hy (by rw [z]; exact y_cd_x))).trans ((kput_ne (fun z => hy (by rw [z]; exact y_kg_x))).trans ((kput_ne (fun z => hy (by rw [z]; exact y_kc_x))).trans ((kput_ne (fun z => hy (by rw [z]; exact y_sp_x))).trans ((kput_ne (fun z => hy (by rw [z]; exact y_gs_x))).trans ((kput_ne (fun z => hy (by rw [z]; exact y_cd_x))).trans ((kput_ne (fun z => hy (by rw [z]; exact y_lf_x))).trans ((kput_ne (fun z => hy (by rw [z]; exact hx))).trans (rfl)))))))))
set_option maxRecDepth 4000 in
theorem f_crun (hI : CI X σ s h) (hV : MV s) (x g d : Int32) : Fn X 7 8 240 yX11_run cX11_run 4 (some .int) [.ref (σ 0 0), .int x, .int g, .int d] h (fun rv hv => rv = some (.int (R_run s x g d).1) ∧ CE X σ s h (R_run s x g d).2 hv) := by
  have b10 : vI s 10 ≤ 4 := hV.1.1.2
  have b18 : vI s 18 ≤ 16 := hV.2.1.1.2
  have b28 : vI s 28 ≤ 10 := hV.2.2.1.1.2
  have b31 : vI s 31 ≤ 6 := hV.2.2.2.1.1.2
  have b3 : vI s 3 ≤ 6 := hV.2.2.2.2.2.2.1.1.2
  refine fn_of (by decide) (Nat.le_of_ble_eq_true rfl) (fun M hM => ?_)
  refine a_iload_n (pc := 0) dX11_run_0 rfl rfl ?_
  refine a_aload_n (pc := 1) dX11_run_1 rfl rfl ?_
  refine a_getfield (pc := 2) kg_X11_10 dX11_run_2 (c_fc hI) rfl ?_
  refine a_callV (pc := 5) km_X11_97 dX11_run_5 (w_size hI (i := 0) (by decide)) rfl rfl (kr_l hI (i := 0) (by decide)) (rok_of hM (by decide) (by decide) (by omega) (by omega)) (Nat.le_of_ble_eq_true rfl) (fun r5 h5 hp5 => ?_)
  obtain ⟨rfl, rfl⟩ := And.intro hp5.1 hp5.2.symm
  refine a_topi (show _ = nI (vI s 10) from rfl) ?_
  refine a_callS (pc := 8) km_X11_103 dX11_run_8 (f_among x (by omega)) rfl rfl (rok_of hM (by decide) (by decide) (by omega) (by omega)) (Nat.le_of_ble_eq_true rfl) (fun r8 h8 hp8 => ?_)
  obtain ⟨rfl, rfl⟩ := And.intro hp8.1 hp8.2.symm
  refine a_if_eqB (pc := 11) (tgt := 32) dX11_run_11 (by decide) (fun c11 => ?_) (fun c11 => ?_)
  · have e : R_run s x g d = (-2, s) := by unfold R_run; rw [c11]; rfl
    refine a_bipush (pc := 32) dX11_run_32 ib_m2 ?_
    refine a_ret_i (pc := 34) hM rfl (rfl) dX11_run_34 (by omega) (by omega) ?_
    exact pubI e rfl (CS.rf hI).ce
  · obtain ⟨p, hp, rfl⟩ := inN_of c11 (by omega)
    have ep : (nI p).toNatClampNeg = p := nI_clamp (by omega)
    refine a_iload_n (pc := 14) dX11_run_14 rfl rfl ?_
    refine a_bipush (pc := 15) dX11_run_15 ib_8 ?_
    refine a_callS (pc := 17) km_X11_103 dX11_run_17 (f_among g (by decide)) rfl rfl (rok_of hM (by decide) (by decide) (by omega) (by omega)) (Nat.le_of_ble_eq_true rfl) (fun r17 h17 hp17 => ?_)
    obtain ⟨rfl, rfl⟩ := And.intro hp17.1 hp17.2.symm
    refine a_if_eqB (pc := 20) (tgt := 32) dX11_run_20 (by decide) (fun c20 => ?_) (fun c20 => ?_)
    · have e : R_run s (nI p) g d = (-2, s) := by unfold R_run; rw [c11, c20]; rfl
      refine a_bipush (pc := 32) dX11_run_32 ib_m2 ?_
      refine a_ret_i (pc := 34) hM rfl (rfl) dX11_run_34 (by omega) (by omega) ?_
      exact pubI e rfl (CS.rf hI).ce
    · refine a_iload_n (pc := 23) dX11_run_23 rfl rfl ?_
      refine a_bipush (pc := 24) dX11_run_24 ib_100 ?_
      refine a_callS (pc := 26) km_X11_103 dX11_run_26 (f_among d (by decide)) rfl rfl (rok_of hM (by decide) (by decide) (by omega) (by omega)) (Nat.le_of_ble_eq_true rfl) (fun r26 h26 hp26 => ?_)
      obtain ⟨rfl, rfl⟩ := And.intro hp26.1 hp26.2.symm
      refine a_if_neB (pc := 29) (tgt := 35) dX11_run_29 (by decide) (fun c29 => ?_) (fun c29 => ?_)
      · have e : R_run s (nI p) g d = (nI (vI s 18), N_run s p g d) ∨ vI s 18 = 16 := by unfold R_run; rw [c11, c20, c29, ep]; exact (Decidable.em (vI s 18 = 16)).elim Or.inr (fun q => Or.inl ((if_pos rfl).trans (if_neg q)))
        refine a_aload_n (pc := 35) dX11_run_35 rfl rfl ?_
        refine a_getfield (pc := 36) kg_X11_16 dX11_run_36 (c_fc hI) rfl ?_
        refine a_callV (pc := 39) km_X11_97 dX11_run_39 (w_size hI (i := 1) (by decide)) rfl rfl (kr_l hI (i := 1) (by decide)) (rok_of hM (by decide) (by decide) (by omega) (by omega)) (Nat.le_of_ble_eq_true rfl) (fun r39 h39 hp39 => ?_)
        obtain ⟨rfl, rfl⟩ := And.intro hp39.1 hp39.2.symm
        refine a_topi (show _ = nI (vI s 18) from rfl) ?_
        refine a_bipush (pc := 42) dX11_run_42 ib_16 ?_
        refine a_icmp_ltN (pc := 44) (tgt := 50) dX11_run_44 (by decide) (by omega) (by omega) (fun c44 => ?_) (fun c44 => ?_)
        · have h16 : vI s 18 < 16 := c44
          refine a_aload_n (pc := 50) dX11_run_50 rfl rfl ?_
          refine a_getfield (pc := 51) kg_X11_16 dX11_run_51 (c_fc hI) rfl ?_
          refine a_new (pc := 54) kn_X11_107 dX11_run_54 (by rw [hM.1]; simp only [rmd]; omega) (by rw [hM.1]; simp only [rmd]; omega) (fun x0 hx0 => ?_)
          refine a_dup (pc := 57) dX11_run_57 rfl ?_
          refine a_iload_n (pc := 58) dX11_run_58 rfl rfl ?_
          refine a_aload_n (pc := 59) dX11_run_59 rfl rfl ?_
          refine a_getfield (pc := 60) kg_X11_10 dX11_run_60 (c_fc (CI.new hI hx0).2.1) rfl ?_
          refine a_iload_n (pc := 63) dX11_run_63 rfl rfl ?_
          refine a_callV (pc := 64) km_X11_109 dX11_run_64 (w_get (CI.new hI hx0).2.1 (i := 0) (j := p) (by decide) (show p < vI s 10 from hp)) rfl rfl (kr_l (CI.new hI hx0).2.1 (i := 0) (by decide)) (rok_of hM (by decide) (by decide) (by omega) (by omega)) (Nat.le_of_ble_eq_true rfl) (fun r64 h64 hp64 => ?_)
          obtain ⟨rfl, rfl⟩ := And.intro hp64.1 hp64.2.symm
          refine a_topr (show _ = σ 15 p from rfl) ?_
          refine a_castE (pc := 67) kl_X11_90 rfl (c_isP (CI.new hI hx0).2.1 (show p < vI s 10 from hp)) dX11_run_67 ?_
          refine a_iload_n (pc := 70) dX11_run_70 rfl rfl ?_
          refine a_iload_n (pc := 71) dX11_run_71 rfl rfl ?_
          obtain ⟨pf, hp1, hp2, hp3, hp4⟩ := c_pack (CI.new hI hx0).2.1 hV hp
          have h25 : vA s 9 p ≤ 25 := by have := (hV.1.2 p hp).1.2; unfold vA; omega
          refine a_callI (pc := 72) km_X11_113 dX11_run_72 (f_ruInit (s := s) (p := p) kput_eq hp1 hp2 h25 hp3 (cumP_5 (hV.1.2 p hp).2.2.2)) rfl rfl (rok_of hM (by decide) (by decide) (by omega) (by omega)) (Nat.le_of_ble_eq_true rfl) (fun r72 h72 hp72 => ?_)
          obtain ⟨rfl, lf, cd, gs, sp, kc, kg, f, hlf, hcd, hgs, hsp, hkc, hkg, hf, rfl⟩ := hp72
          have hk1 := run_keep (σ := σ) (p := p) (g := g) (d := d) (f := f) hx0 hlf hcd hgs hsp hkc hkg
          have hI1 := CI.ext hI hk1
          refine a_callV (pc := 75) km_X11_100 dX11_run_75 (f_app hI1 (i0 := 1) (by decide) ⟨5, _, _, rfl, kput_eq⟩ (show vI s 18 ≤ 15 by omega)) rfl rfl (kr_l hI1 (i := 1) (by decide)) (rok_of hM (by decide) (by decide) (by omega) (by omega)) (Nat.le_of_ble_eq_true rfl) (fun r75 h75 hp75 => ?_)
          obtain ⟨rfl, md2, e2, cap2, F2, hee, rfl, hc2, hn2, hF1, hF2⟩ := hp75
          have hE := app_run (md2 := md2) (g := g) (d := d) hI hV hx0 hlf hcd hgs hsp hkc hkg hf hp h16 hee hc2 hn2 hF1 hF2
          obtain ⟨σ', z0, hI', hF'⟩ := hE
          have e18 : vI (N_run s p g d) 18 = vI s 18 + 1 := nrn_c.trans (nI_clamp (by omega))
          have fc' := c_fc hI'
          rw [z0 0 0 (by decide)] at fc'
          refine a_pop (pc := 78) dX11_run_78 rfl ?_
          refine a_aload_n (pc := 79) dX11_run_79 rfl rfl ?_
          refine a_getfield (pc := 80) kg_X11_16 dX11_run_80 (fc') rfl ?_
          refine a_callV (pc := 83) km_X11_97 dX11_run_83 (w_size hI' (i := 1) (by decide)) rfl rfl (kr_l hI' (i := 1) (by decide)) (rok_of hM (by decide) (by decide) (by omega) (by omega)) (Nat.le_of_ble_eq_true rfl) (fun r83 h83 hp83 => ?_)
          obtain ⟨rfl, rfl⟩ := And.intro hp83.1 hp83.2.symm
          refine a_topi (show _ = nI (vI s 18 + 1) from congrArg nI e18) ?_
          refine a_iconst (pc := 86) dX11_run_86 ic_1 ?_
          refine a_isubN (pc := 87) dX11_run_87 (by omega) ?_
          refine a_ret_i (pc := 88) hM rfl (rfl) dX11_run_88 (by omega) (by omega) ?_
          exact pubI (e.resolve_right (by omega)) rfl ⟨σ', z0, hI', hF'⟩
        · have h16 : vI s 18 = 16 := by omega
          have e2 : R_run s (nI p) g d = (-4, s) := by unfold R_run; rw [c11, c20, c29, ep]; exact (if_pos rfl).trans (if_pos h16)
          refine a_bipush (pc := 47) dX11_run_47 ib_m4 ?_
          refine a_ret_i (pc := 49) hM rfl (rfl) dX11_run_49 (by omega) (by omega) ?_
          exact pubI e2 rfl (CS.rf hI).ce
      · have e : R_run s (nI p) g d = (-2, s) := by unfold R_run; rw [c11, c20, c29]; rfl
        refine a_bipush (pc := 32) dX11_run_32 ib_m2 ?_
        refine a_ret_i (pc := 34) hM rfl (rfl) dX11_run_34 (by omega) (by omega) ?_
        exact pubI e rfl (CS.rf hI).ce

end CPL

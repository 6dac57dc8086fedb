/-! A HEAP LAID OVER ANOTHER ONE: the live roles' cells at their addresses -/
noncomputable def ov {α : Type} (live : α → Prop) (σ : α → Nat) (c : α → kE) (h0 : AH) : AH := fun a => @dite _ (∃ r, live r ∧ σ r = a) (Classical.propDecidable _) (fun h => some (c (Classical.choose h))) (fun _ => h0 a)
abbrev OInj {α : Type} (live : α → Prop) (σ : α → Nat) : Prop := ∀ r r' : α, live r → live r' → σ r = σ r' → r = r'
theorem ov_get {α : Type} {live : α → Prop} {σ : α → Nat} {c : α → kE} {h0 : AH} (hi : OInj live σ) {r : α} (hr : live r) : ov live σ c h0 (σ r) = some (c r) := by
  have he : ∃ r', live r' ∧ σ r' = σ r := ⟨r, hr, rfl⟩
  unfold ov
  rw [dif_pos he]
  have := Classical.choose_spec he
  rw [hi _ _ this.1 hr this.2]
theorem ov_out {α : Type} {live : α → Prop} {σ : α → Nat} {c : α → kE} {h0 : AH} {a : Nat} (ha : ∀ r, live r → σ r ≠ a) : ov live σ c h0 a = h0 a := by
  unfold ov
  rw [dif_neg]
  rintro ⟨r, h1, h2⟩
  exact ha r h1 h2
theorem ov_ext {α : Type} {live : α → Prop} {σ : α → Nat} {c : α → kE} {h0 h : AH} (hi : OInj live σ) (h1 : ∀ r, live r → h (σ r) = some (c r)) (h2 : ∀ a, (∀ r, live r → σ r ≠ a) → h a = h0 a) : h = ov live σ c h0 := by
  funext a
  by_cases he : ∃ r, live r ∧ σ r = a
  · obtain ⟨r, hr, rfl⟩ := he
    rw [h1 r hr, ov_get hi hr]
  · have hn : ∀ r, live r → σ r ≠ a := fun r hr z => he ⟨r, hr, z⟩
    rw [h2 a hn, ov_out hn]
theorem ov_congr {α : Type} {live : α → Prop} {σ : α → Nat} {c c' : α → kE} {h0 : AH} (hi : OInj live σ) (h : ∀ r, live r → c r = c' r) : ov live σ c h0 = ov live σ c' h0 :=
  ov_ext hi (fun r hr => by rw [ov_get hi hr, h r hr]) (fun a ha => ov_out ha)
theorem ov_put {α : Type} {live : α → Prop} {σ : α → Nat} {c c' : α → kE} {h0 : AH} (hi : OInj live σ) {r : α} {e : kE} (hr : live r) (h1 : c' r = e) (h2 : ∀ q, live q → q ≠ r → c' q = c q) : kput (ov live σ c h0) (σ r) e = ov live σ c' h0 := by
  refine ov_ext hi (fun q hq => ?_) (fun a ha => ?_)
  · by_cases hqr : q = r
    · subst hqr
      rw [kput_eq, h1]
    · rw [kput_ne (fun z => hqr (hi q r hq hr z)), ov_get hi hq, h2 q hq hqr]
  · rw [kput_ne (fun z => ha r hr z.symm), ov_out ha]
theorem ov_comm {α β : Type} {l1 : α → Prop} {l2 : β → Prop} {σ1 : α → Nat} {σ2 : β → Nat} {c1 : α → kE} {c2 : β → kE} {h0 : AH} (hi1 : OInj l1 σ1) (hi2 : OInj l2 σ2) (hd : ∀ r q, l1 r → l2 q → σ1 r ≠ σ2 q) : ov l1 σ1 c1 (ov l2 σ2 c2 h0) = ov l2 σ2 c2 (ov l1 σ1 c1 h0) := by
  refine ov_ext hi2 (fun q hq => ?_) (fun a ha => ?_)
  · rw [ov_out (fun r hr => hd r q hr hq), ov_get hi2 hq]
  · by_cases he : ∃ r, l1 r ∧ σ1 r = a
    · obtain ⟨r, hr, rfl⟩ := he
      rw [ov_get hi1 hr, ov_get hi1 hr]
    · have hn : ∀ r, l1 r → σ1 r ≠ a := fun r hr z => he ⟨r, hr, z⟩
      rw [ov_out hn, ov_out hn, ov_out ha]
/-! THE REFERENCE's STATE: its int fields, its int arrays, its long fields, its long arrays, by their numbers among its fields -/
abbrev MST : Type := (Nat → Int32) × (Nat → Nat → Int32) × (Nat → Int64) × (Nat → Nat → Int64)
def si (s : MST) (k : Nat) (v : Int32) : MST := (fun j => if j = k then v else s.1 j, s.2.1, s.2.2.1, s.2.2.2)
def sa (s : MST) (k : Nat) (f : Nat → Int32) : MST := (s.1, fun j => if j = k then f else s.2.1 j, s.2.2.1, s.2.2.2)
def sl (s : MST) (k : Nat) (v : Int64) : MST := (s.1, s.2.1, fun j => if j = k then v else s.2.2.1 j, s.2.2.2)
def sb (s : MST) (k : Nat) (f : Nat → Int64) : MST := (s.1, s.2.1, s.2.2.1, fun j => if j = k then f else s.2.2.2 j)
def mflds (m : Nat → Nat) (s : MST) : List Value := [.int (s.1 0), .ref (m 1), .ref (m 2), .int (s.1 3), .int (s.1 4), .ref (m 5), .int (s.1 6), .ref (m 7), .ref (m 8), .ref (m 9), .int (s.1 10), .ref (m 11), .ref (m 12), .ref (m 13), .ref (m 14), .ref (m 15), .ref (m 16), .ref (m 17), .int (s.1 18), .ref (m 19), .ref (m 20), .ref (m 21), .ref (m 22), .ref (m 23), .ref (m 24), .ref (m 25), .ref (m 26), .ref (m 27), .int (s.1 28), .ref (m 29), .ref (m 30), .int (s.1 31), .int (s.1 32), .int (s.1 33), .int (s.1 34), .int (s.1 35), .long (s.2.2.1 36), .int (s.1 37), .int (s.1 38), .int (s.1 39), .int (s.1 40), .int (s.1 41), .int (s.1 42), .int (s.1 43), .int (s.1 44), .int (s.1 45), .int (s.1 46), .long (s.2.2.1 47), .long (s.2.2.1 48), .int (s.1 49), .int (s.1 50), .ref (m 51), .ref (m 52), .ref (m 53), .ref (m 54), .ref (m 55), .ref (m 56), .int (s.1 57), .int (s.1 58), .int (s.1 59), .int (s.1 60), .ref (m 61), .ref (m 62), .ref (m 63), .ref (m 64)]
abbrev mliv (r : Nat) : Prop := r ∈ [1, 2, 5, 7, 8, 9, 11, 12, 13, 14, 15, 16, 17, 19, 20, 21, 22, 23, 24, 25, 26, 27, 29, 30, 51, 52, 53, 54, 55, 56, 61, 62, 63, 64, 65]
def mc (m : Nat → Nat) (s : MST) (r : Nat) : kE := match r with
  | 65 => kO 12 (mflds m s)
  | 1 => kI 960 (s.2.1 1)
  | 2 => kI 6 (s.2.1 2)
  | 5 => kI 160 (s.2.1 5)
  | 7 => kL 676 (s.2.2.2 7)
  | 8 => kI 20 (s.2.1 8)
  | 9 => kI 4 (s.2.1 9)
  | 11 => kI 16 (s.2.1 11)
  | 12 => kI 16 (s.2.1 12)
  | 13 => kI 16 (s.2.1 13)
  | 14 => kI 400 (s.2.1 14)
  | 15 => kI 400 (s.2.1 15)
  | 16 => kI 16 (s.2.1 16)
  | 17 => kI 16 (s.2.1 17)
  | 19 => kI 25 (s.2.1 19)
  | 20 => kI 5 (s.2.1 20)
  | 21 => kL 26 (s.2.2.2 21)
  | 22 => kL 26 (s.2.2.2 22)
  | 23 => kI 5 (s.2.1 23)
  | 24 => kI 10 (s.2.1 24)
  | 25 => kI 10 (s.2.1 25)
  | 26 => kI 10 (s.2.1 26)
  | 27 => kI 10 (s.2.1 27)
  | 29 => kI 6 (s.2.1 29)
  | 30 => kI 6 (s.2.1 30)
  | 51 => kI 25 (s.2.1 51)
  | 52 => kI 400 (s.2.1 52)
  | 53 => kI 400 (s.2.1 53)
  | 54 => kI 16 (s.2.1 54)
  | 55 => kI 16 (s.2.1 55)
  | 56 => kI 10 (s.2.1 56)
  | 61 => kB 4 (s.2.1 61)
  | 62 => kI 4 (s.2.1 62)
  | 63 => kI 4 (s.2.1 63)
  | 64 => kI 160 (s.2.1 64)
  | _ => kI 0 (fun _ => 0)
noncomputable def mh (m : Nat → Nat) (s : MST) (h0 : AH) : AH := ov mliv m (mc m s) h0
abbrev MI (m : Nat → Nat) : Prop := OInj mliv m
section MHH
variable {m : Nat → Nat} {s : MST} {h0 : AH}
theorem m_obj (hm : MI m) : mh m s h0 (m 65) = some (kO 12 (mflds m s)) := ov_get hm (by decide)
theorem mc_sa {k r : Nat} {f : Nat → Int32} (hr : r ≠ k) : mc m (sa s k f) r = mc m s r := by
  unfold mc
  split <;> first | rfl | (simp only [sa]; rw [if_neg hr])
theorem mc_sb {k r : Nat} {f : Nat → Int64} (hr : r ≠ k) : mc m (sb s k f) r = mc m s r := by
  unfold mc
  split <;> first | rfl | (simp only [sb]; rw [if_neg hr])
theorem mc_si {k r : Nat} {v : Int32} (hr : r ≠ 65) : mc m (si s k v) r = mc m s r := by
  unfold mc
  split <;> first | rfl | exact absurd rfl hr
theorem mc_sl {k r : Nat} {v : Int64} (hr : r ≠ 65) : mc m (sl s k v) r = mc m s r := by
  unfold mc
  split <;> first | rfl | exact absurd rfl hr
theorem m_a1 (hm : MI m) : mh m s h0 (m 1) = some (kI 960 (s.2.1 1)) := ov_get hm (r := 1) (by decide)
theorem m_p1 (hm : MI m) {f : Nat → Int32} : kput (mh m s h0) (m 1) (kI 960 f) = mh m (sa s 1 f) h0 := ov_put hm (r := 1) (by decide) rfl (fun q _ hq => mc_sa hq)
theorem m_a2 (hm : MI m) : mh m s h0 (m 2) = some (kI 6 (s.2.1 2)) := ov_get hm (r := 2) (by decide)
theorem m_p2 (hm : MI m) {f : Nat → Int32} : kput (mh m s h0) (m 2) (kI 6 f) = mh m (sa s 2 f) h0 := ov_put hm (r := 2) (by decide) rfl (fun q _ hq => mc_sa hq)
theorem m_a5 (hm : MI m) : mh m s h0 (m 5) = some (kI 160 (s.2.1 5)) := ov_get hm (r := 5) (by decide)
theorem m_p5 (hm : MI m) {f : Nat → Int32} : kput (mh m s h0) (m 5) (kI 160 f) = mh m (sa s 5 f) h0 := ov_put hm (r := 5) (by decide) rfl (fun q _ hq => mc_sa hq)
theorem m_a7 (hm : MI m) : mh m s h0 (m 7) = some (kL 676 (s.2.2.2 7)) := ov_get hm (r := 7) (by decide)
theorem m_p7 (hm : MI m) {f : Nat → Int64} : kput (mh m s h0) (m 7) (kL 676 f) = mh m (sb s 7 f) h0 := ov_put hm (r := 7) (by decide) rfl (fun q _ hq => mc_sb hq)
theorem m_a8 (hm : MI m) : mh m s h0 (m 8) = some (kI 20 (s.2.1 8)) := ov_get hm (r := 8) (by decide)
theorem m_p8 (hm : MI m) {f : Nat → Int32} : kput (mh m s h0) (m 8) (kI 20 f) = mh m (sa s 8 f) h0 := ov_put hm (r := 8) (by decide) rfl (fun q _ hq => mc_sa hq)
theorem m_a9 (hm : MI m) : mh m s h0 (m 9) = some (kI 4 (s.2.1 9)) := ov_get hm (r := 9) (by decide)
theorem m_p9 (hm : MI m) {f : Nat → Int32} : kput (mh m s h0) (m 9) (kI 4 f) = mh m (sa s 9 f) h0 := ov_put hm (r := 9) (by decide) rfl (fun q _ hq => mc_sa hq)
theorem m_a11 (hm : MI m) : mh m s h0 (m 11) = some (kI 16 (s.2.1 11)) := ov_get hm (r := 11) (by decide)
theorem m_p11 (hm : MI m) {f : Nat → Int32} : kput (mh m s h0) (m 11) (kI 16 f) = mh m (sa s 11 f) h0 := ov_put hm (r := 11) (by decide) rfl (fun q _ hq => mc_sa hq)
theorem m_a12 (hm : MI m) : mh m s h0 (m 12) = some (kI 16 (s.2.1 12)) := ov_get hm (r := 12) (by decide)
theorem m_p12 (hm : MI m) {f : Nat → Int32} : kput (mh m s h0) (m 12) (kI 16 f) = mh m (sa s 12 f) h0 := ov_put hm (r := 12) (by decide) rfl (fun q _ hq => mc_sa hq)
theorem m_a13 (hm : MI m) : mh m s h0 (m 13) = some (kI 16 (s.2.1 13)) := ov_get hm (r := 13) (by decide)
theorem m_p13 (hm : MI m) {f : Nat → Int32} : kput (mh m s h0) (m 13) (kI 16 f) = mh m (sa s 13 f) h0 := ov_put hm (r := 13) (by decide) rfl (fun q _ hq => mc_sa hq)
theorem m_a14 (hm : MI m) : mh m s h0 (m 14) = some (kI 400 (s.2.1 14)) := ov_get hm (r := 14) (by decide)
theorem m_p14 (hm : MI m) {f : Nat → Int32} : kput (mh m s h0) (m 14) (kI 400 f) = mh m (sa s 14 f) h0 := ov_put hm (r := 14) (by decide) rfl (fun q _ hq => mc_sa hq)
theorem m_a15 (hm : MI m) : mh m s h0 (m 15) = some (kI 400 (s.2.1 15)) := ov_get hm (r := 15) (by decide)
theorem m_p15 (hm : MI m) {f : Nat → Int32} : kput (mh m s h0) (m 15) (kI 400 f) = mh m (sa s 15 f) h0 := ov_put hm (r := 15) (by decide) rfl (fun q _ hq => mc_sa hq)
theorem m_a16 (hm : MI m) : mh m s h0 (m 16) = some (kI 16 (s.2.1 16)) := ov_get hm (r := 16) (by decide)
theorem m_p16 (hm : MI m) {f : Nat → Int32} : kput (mh m s h0) (m 16) (kI 16 f) = mh m (sa s 16 f) h0 := ov_put hm (r := 16) (by decide) rfl (fun q _ hq => mc_sa hq)
theorem m_a17 (hm : MI m) : mh m s h0 (m 17) = some (kI 16 (s.2.1 17)) := ov_get hm (r := 17) (by decide)
theorem m_p17 (hm : MI m) {f : Nat → Int32} : kput (mh m s h0) (m 17) (kI 16 f) = mh m (sa s 17 f) h0 := ov_put hm (r := 17) (by decide) rfl (fun q _ hq => mc_sa hq)
theorem m_a19 (hm : MI m) : mh m s h0 (m 19) = some (kI 25 (s.2.1 19)) := ov_get hm (r := 19) (by decide)
theorem m_p19 (hm : MI m) {f : Nat → Int32} : kput (mh m s h0) (m 19) (kI 25 f) = mh m (sa s 19 f) h0 := ov_put hm (r := 19) (by decide) rfl (fun q _ hq => mc_sa hq)
theorem m_a20 (hm : MI m) : mh m s h0 (m 20) = some (kI 5 (s.2.1 20)) := ov_get hm (r := 20) (by decide)
theorem m_p20 (hm : MI m) {f : Nat → Int32} : kput (mh m s h0) (m 20) (kI 5 f) = mh m (sa s 20 f) h0 := ov_put hm (r := 20) (by decide) rfl (fun q _ hq => mc_sa hq)
theorem m_a21 (hm : MI m) : mh m s h0 (m 21) = some (kL 26 (s.2.2.2 21)) := ov_get hm (r := 21) (by decide)
theorem m_p21 (hm : MI m) {f : Nat → Int64} : kput (mh m s h0) (m 21) (kL 26 f) = mh m (sb s 21 f) h0 := ov_put hm (r := 21) (by decide) rfl (fun q _ hq => mc_sb hq)
theorem m_a22 (hm : MI m) : mh m s h0 (m 22) = some (kL 26 (s.2.2.2 22)) := ov_get hm (r := 22) (by decide)
theorem m_p22 (hm : MI m) {f : Nat → Int64} : kput (mh m s h0) (m 22) (kL 26 f) = mh m (sb s 22 f) h0 := ov_put hm (r := 22) (by decide) rfl (fun q _ hq => mc_sb hq)
theorem m_a23 (hm : MI m) : mh m s h0 (m 23) = some (kI 5 (s.2.1 23)) := ov_get hm (r := 23) (by decide)
theorem m_p23 (hm : MI m) {f : Nat → Int32} : kput (mh m s h0) (m 23) (kI 5 f) = mh m (sa s 23 f) h0 := ov_put hm (r := 23) (by decide) rfl (fun q _ hq => mc_sa hq)
theorem m_a24 (hm : MI m) : mh m s h0 (m 24) = some (kI 10 (s.2.1 24)) := ov_get hm (r := 24) (by decide)
theorem m_p24 (hm : MI m) {f : Nat → Int32} : kput (mh m s h0) (m 24) (kI 10 f) = mh m (sa s 24 f) h0 := ov_put hm (r := 24) (by decide) rfl (fun q _ hq => mc_sa hq)
theorem m_a25 (hm : MI m) : mh m s h0 (m 25) = some (kI 10 (s.2.1 25)) := ov_get hm (r := 25) (by decide)
theorem m_p25 (hm : MI m) {f : Nat → Int32} : kput (mh m s h0) (m 25) (kI 10 f) = mh m (sa s 25 f) h0 := ov_put hm (r := 25) (by decide) rfl (fun q _ hq => mc_sa hq)
theorem m_a26 (hm : MI m) : mh m s h0 (m 26) = some (kI 10 (s.2.1 26)) := ov_get hm (r := 26) (by decide)
theorem m_p26 (hm : MI m) {f : Nat → Int32} : kput (mh m s h0) (m 26) (kI 10 f) = mh m (sa s 26 f) h0 := ov_put hm (r := 26) (by decide) rfl (fun q _ hq => mc_sa hq)
theorem m_a27 (hm : MI m) : mh m s h0 (m 27) = some (kI 10 (s.2.1 27)) := ov_get hm (r := 27) (by decide)
theorem m_p27 (hm : MI m) {f : Nat → Int32} : kput (mh m s h0) (m 27) (kI 10 f) = mh m (sa s 27 f) h0 := ov_put hm (r := 27) (by decide) rfl (fun q _ hq => mc_sa hq)
theorem m_a29 (hm : MI m) : mh m s h0 (m 29) = some (kI 6 (s.2.1 29)) := ov_get hm (r := 29) (by decide)
theorem m_p29 (hm : MI m) {f : Nat → Int32} : kput (mh m s h0) (m 29) (kI 6 f) = mh m (sa s 29 f) h0 := ov_put hm (r := 29) (by decide) rfl (fun q _ hq => mc_sa hq)
theorem m_a30 (hm : MI m) : mh m s h0 (m 30) = some (kI 6 (s.2.1 30)) := ov_get hm (r := 30) (by decide)
theorem m_p30 (hm : MI m) {f : Nat → Int32} : kput (mh m s h0) (m 30) (kI 6 f) = mh m (sa s 30 f) h0 := ov_put hm (r := 30) (by decide) rfl (fun q _ hq => mc_sa hq)
theorem m_a51 (hm : MI m) : mh m s h0 (m 51) = some (kI 25 (s.2.1 51)) := ov_get hm (r := 51) (by decide)
theorem m_p51 (hm : MI m) {f : Nat → Int32} : kput (mh m s h0) (m 51) (kI 25 f) = mh m (sa s 51 f) h0 := ov_put hm (r := 51) (by decide) rfl (fun q _ hq => mc_sa hq)
theorem m_a52 (hm : MI m) : mh m s h0 (m 52) = some (kI 400 (s.2.1 52)) := ov_get hm (r := 52) (by decide)
theorem m_p52 (hm : MI m) {f : Nat → Int32} : kput (mh m s h0) (m 52) (kI 400 f) = mh m (sa s 52 f) h0 := ov_put hm (r := 52) (by decide) rfl (fun q _ hq => mc_sa hq)
theorem m_a53 (hm : MI m) : mh m s h0 (m 53) = some (kI 400 (s.2.1 53)) := ov_get hm (r := 53) (by decide)
theorem m_p53 (hm : MI m) {f : Nat → Int32} : kput (mh m s h0) (m 53) (kI 400 f) = mh m (sa s 53 f) h0 := ov_put hm (r := 53) (by decide) rfl (fun q _ hq => mc_sa hq)
theorem m_a54 (hm : MI m) : mh m s h0 (m 54) = some (kI 16 (s.2.1 54)) := ov_get hm (r := 54) (by decide)
theorem m_p54 (hm : MI m) {f : Nat → Int32} : kput (mh m s h0) (m 54) (kI 16 f) = mh m (sa s 54 f) h0 := ov_put hm (r := 54) (by decide) rfl (fun q _ hq => mc_sa hq)
theorem m_a55 (hm : MI m) : mh m s h0 (m 55) = some (kI 16 (s.2.1 55)) := ov_get hm (r := 55) (by decide)
theorem m_p55 (hm : MI m) {f : Nat → Int32} : kput (mh m s h0) (m 55) (kI 16 f) = mh m (sa s 55 f) h0 := ov_put hm (r := 55) (by decide) rfl (fun q _ hq => mc_sa hq)
theorem m_a56 (hm : MI m) : mh m s h0 (m 56) = some (kI 10 (s.2.1 56)) := ov_get hm (r := 56) (by decide)
theorem m_p56 (hm : MI m) {f : Nat → Int32} : kput (mh m s h0) (m 56) (kI 10 f) = mh m (sa s 56 f) h0 := ov_put hm (r := 56) (by decide) rfl (fun q _ hq => mc_sa hq)
theorem m_a61 (hm : MI m) : mh m s h0 (m 61) = some (kB 4 (s.2.1 61)) := ov_get hm (r := 61) (by decide)
theorem m_p61 (hm : MI m) {f : Nat → Int32} : kput (mh m s h0) (m 61) (kB 4 f) = mh m (sa s 61 f) h0 := ov_put hm (r := 61) (by decide) rfl (fun q _ hq => mc_sa hq)
theorem m_a62 (hm : MI m) : mh m s h0 (m 62) = some (kI 4 (s.2.1 62)) := ov_get hm (r := 62) (by decide)
theorem m_p62 (hm : MI m) {f : Nat → Int32} : kput (mh m s h0) (m 62) (kI 4 f) = mh m (sa s 62 f) h0 := ov_put hm (r := 62) (by decide) rfl (fun q _ hq => mc_sa hq)
theorem m_a63 (hm : MI m) : mh m s h0 (m 63) = some (kI 4 (s.2.1 63)) := ov_get hm (r := 63) (by decide)
theorem m_p63 (hm : MI m) {f : Nat → Int32} : kput (mh m s h0) (m 63) (kI 4 f) = mh m (sa s 63 f) h0 := ov_put hm (r := 63) (by decide) rfl (fun q _ hq => mc_sa hq)
theorem m_a64 (hm : MI m) : mh m s h0 (m 64) = some (kI 160 (s.2.1 64)) := ov_get hm (r := 64) (by decide)
theorem m_p64 (hm : MI m) {f : Nat → Int32} : kput (mh m s h0) (m 64) (kI 160 f) = mh m (sa s 64 f) h0 := ov_put hm (r := 64) (by decide) rfl (fun q _ hq => mc_sa hq)
theorem m_p0 (hm : MI m) {v : Int32} : kput (mh m s h0) (m 65) (kO 12 ((mflds m s).set 0 (.int v))) = mh m (si s 0 v) h0 := ov_put hm (r := 65) (by decide) rfl (fun q _ hq => mc_si hq)
theorem m_p3 (hm : MI m) {v : Int32} : kput (mh m s h0) (m 65) (kO 12 ((mflds m s).set 3 (.int v))) = mh m (si s 3 v) h0 := ov_put hm (r := 65) (by decide) rfl (fun q _ hq => mc_si hq)
theorem m_p4 (hm : MI m) {v : Int32} : kput (mh m s h0) (m 65) (kO 12 ((mflds m s).set 4 (.int v))) = mh m (si s 4 v) h0 := ov_put hm (r := 65) (by decide) rfl (fun q _ hq => mc_si hq)
theorem m_p6 (hm : MI m) {v : Int32} : kput (mh m s h0) (m 65) (kO 12 ((mflds m s).set 6 (.int v))) = mh m (si s 6 v) h0 := ov_put hm (r := 65) (by decide) rfl (fun q _ hq => mc_si hq)
theorem m_p10 (hm : MI m) {v : Int32} : kput (mh m s h0) (m 65) (kO 12 ((mflds m s).set 10 (.int v))) = mh m (si s 10 v) h0 := ov_put hm (r := 65) (by decide) rfl (fun q _ hq => mc_si hq)
theorem m_p18 (hm : MI m) {v : Int32} : kput (mh m s h0) (m 65) (kO 12 ((mflds m s).set 18 (.int v))) = mh m (si s 18 v) h0 := ov_put hm (r := 65) (by decide) rfl (fun q _ hq => mc_si hq)
theorem m_p28 (hm : MI m) {v : Int32} : kput (mh m s h0) (m 65) (kO 12 ((mflds m s).set 28 (.int v))) = mh m (si s 28 v) h0 := ov_put hm (r := 65) (by decide) rfl (fun q _ hq => mc_si hq)
theorem m_p31 (hm : MI m) {v : Int32} : kput (mh m s h0) (m 65) (kO 12 ((mflds m s).set 31 (.int v))) = mh m (si s 31 v) h0 := ov_put hm (r := 65) (by decide) rfl (fun q _ hq => mc_si hq)
theorem m_p32 (hm : MI m) {v : Int32} : kput (mh m s h0) (m 65) (kO 12 ((mflds m s).set 32 (.int v))) = mh m (si s 32 v) h0 := ov_put hm (r := 65) (by decide) rfl (fun q _ hq => mc_si hq)
theorem m_p33 (hm : MI m) {v : Int32} : kput (mh m s h0) (m 65) (kO 12 ((mflds m s).set 33 (.int v))) = mh m (si s 33 v) h0 := ov_put hm (r := 65) (by decide) rfl (fun q _ hq => mc_si hq)
theorem m_p34 (hm : MI m) {v : Int32} : kput (mh m s h0) (m 65) (kO 12 ((mflds m s).set 34 (.int v))) = mh m (si s 34 v) h0 := ov_put hm (r := 65) (by decide) rfl (fun q _ hq => mc_si hq)
theorem m_p35 (hm : MI m) {v : Int32} : kput (mh m s h0) (m 65) (kO 12 ((mflds m s).set 35 (.int v))) = mh m (si s 35 v) h0 := ov_put hm (r := 65) (by decide) rfl (fun q _ hq => mc_si hq)
theorem m_p36 (hm : MI m) {v : Int64} : kput (mh m s h0) (m 65) (kO 12 ((mflds m s).set 36 (.long v))) = mh m (sl s 36 v) h0 := ov_put hm (r := 65) (by decide) rfl (fun q _ hq => mc_sl hq)
theorem m_p37 (hm : MI m) {v : Int32} : kput (mh m s h0) (m 65) (kO 12 ((mflds m s).set 37 (.int v))) = mh m (si s 37 v) h0 := ov_put hm (r := 65) (by decide) rfl (fun q _ hq => mc_si hq)
theorem m_p38 (hm : MI m) {v : Int32} : kput (mh m s h0) (m 65) (kO 12 ((mflds m s).set 38 (.int v))) = mh m (si s 38 v) h0 := ov_put hm (r := 65) (by decide) rfl (fun q _ hq => mc_si hq)
theorem m_p39 (hm : MI m) {v : Int32} : kput (mh m s h0) (m 65) (kO 12 ((mflds m s).set 39 (.int v))) = mh m (si s 39 v) h0 := ov_put hm (r := 65) (by decide) rfl (fun q _ hq => mc_si hq)
theorem m_p40 (hm : MI m) {v : Int32} : kput (mh m s h0) (m 65) (kO 12 ((mflds m s).set 40 (.int v))) = mh m (si s 40 v) h0 := ov_put hm (r := 65) (by decide) rfl (fun q _ hq => mc_si hq)
theorem m_p41 (hm : MI m) {v : Int32} : kput (mh m s h0) (m 65) (kO 12 ((mflds m s).set 41 (.int v))) = mh m (si s 41 v) h0 := ov_put hm (r := 65) (by decide) rfl (fun q _ hq => mc_si hq)
theorem m_p42 (hm : MI m) {v : Int32} : kput (mh m s h0) (m 65) (kO 12 ((mflds m s).set 42 (.int v))) = mh m (si s 42 v) h0 := ov_put hm (r := 65) (by decide) rfl (fun q _ hq => mc_si hq)
theorem m_p43 (hm : MI m) {v : Int32} : kput (mh m s h0) (m 65) (kO 12 ((mflds m s).set 43 (.int v))) = mh m (si s 43 v) h0 := ov_put hm (r := 65) (by decide) rfl (fun q _ hq => mc_si hq)
theorem m_p44 (hm : MI m) {v : Int32} : kput (mh m s h0) (m 65) (kO 12 ((mflds m s).set 44 (.int v))) = mh m (si s 44 v) h0 := ov_put hm (r := 65) (by decide) rfl (fun q _ hq => mc_si hq)
theorem m_p45 (hm : MI m) {v : Int32} : kput (mh m s h0) (m 65) (kO 12 ((mflds m s).set 45 (.int v))) = mh m (si s 45 v) h0 := ov_put hm (r := 65) (by decide) rfl (fun q _ hq => mc_si hq)
theorem m_p46 (hm : MI m) {v : Int32} : kput (mh m s h0) (m 65) (kO 12 ((mflds m s).set 46 (.int v))) = mh m (si s 46 v) h0 := ov_put hm (r := 65) (by decide) rfl (fun q _ hq => mc_si hq)
theorem m_p47 (hm : MI m) {v : Int64} : kput (mh m s h0) (m 65) (kO 12 ((mflds m s).set 47 (.long v))) = mh m (sl s 47 v) h0 := ov_put hm (r := 65) (by decide) rfl (fun q _ hq => mc_sl hq)
theorem m_p48 (hm : MI m) {v : Int64} : kput (mh m s h0) (m 65) (kO 12 ((mflds m s).set 48 (.long v))) = mh m (sl s 48 v) h0 := ov_put hm (r := 65) (by decide) rfl (fun q _ hq => mc_sl hq)
theorem m_p49 (hm : MI m) {v : Int32} : kput (mh m s h0) (m 65) (kO 12 ((mflds m s).set 49 (.int v))) = mh m (si s 49 v) h0 := ov_put hm (r := 65) (by decide) rfl (fun q _ hq => mc_si hq)
theorem m_p50 (hm : MI m) {v : Int32} : kput (mh m s h0) (m 65) (kO 12 ((mflds m s).set 50 (.int v))) = mh m (si s 50 v) h0 := ov_put hm (r := 65) (by decide) rfl (fun q _ hq => mc_si hq)
theorem m_p57 (hm : MI m) {v : Int32} : kput (mh m s h0) (m 65) (kO 12 ((mflds m s).set 57 (.int v))) = mh m (si s 57 v) h0 := ov_put hm (r := 65) (by decide) rfl (fun q _ hq => mc_si hq)
theorem m_p58 (hm : MI m) {v : Int32} : kput (mh m s h0) (m 65) (kO 12 ((mflds m s).set 58 (.int v))) = mh m (si s 58 v) h0 := ov_put hm (r := 65) (by decide) rfl (fun q _ hq => mc_si hq)
theorem m_p59 (hm : MI m) {v : Int32} : kput (mh m s h0) (m 65) (kO 12 ((mflds m s).set 59 (.int v))) = mh m (si s 59 v) h0 := ov_put hm (r := 65) (by decide) rfl (fun q _ hq => mc_si hq)
theorem m_p60 (hm : MI m) {v : Int32} : kput (mh m s h0) (m 65) (kO 12 ((mflds m s).set 60 (.int v))) = mh m (si s 60 v) h0 := ov_put hm (r := 65) (by decide) rfl (fun q _ hq => mc_si hq)
end MHH

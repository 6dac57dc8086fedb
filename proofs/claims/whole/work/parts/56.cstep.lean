/-! THE CLASS: HOW ITS STATE CHANGES -/
section CPD
variable {X : KX} {h : AH} {s : MST} {σ : Nat → Nat → Nat}
def cD1 (k : Nat) : List Nat := match k with
  | 0 => [4, 57, 58, 59, 60]
  | 1 => [10, 18, 28, 31, 3]
  | 5 => [6]
  | 6 => [6]
  | 17 => [57, 58]
  | 22 => [57, 58]
  | 23 => [57, 58]
  | 24 => [57, 59]
  | 30 => [10, 18, 28, 31, 3]
  | _ => []
def cDA (k : Nat) : List Nat := match k with
  | 3 => [61, 62, 63]
  | 4 => [61, 63, 64]
  | 6 => [5]
  | 15 => [9]
  | 16 => [8]
  | 17 => [11, 12, 13, 16, 17, 54, 55]
  | 18 => [9, 11, 14]
  | 19 => [9, 11, 15]
  | 20 => [9, 11]
  | 22 => [9, 11, 52]
  | 23 => [9, 11, 53]
  | 24 => [24, 25, 26, 27, 56]
  | 25 => [29, 30]
  | 27 => [1, 2]
  | 28 => [1, 2]
  | 29 => [1, 2]
  | _ => []
section CGL
variable {s' : MST}
theorem lsz_cg (h : ∀ j, j ∈ [10, 18, 28, 31, 3] → s'.1 j = s.1 j) (i : Nat) : lsz s' i = lsz s i := by
  match i with
  | 0 => exact congrArg Int32.toNatClampNeg (h 10 (by decide))
  | 1 => exact congrArg Int32.toNatClampNeg (h 18 (by decide))
  | 2 => exact congrArg Int32.toNatClampNeg (h 28 (by decide))
  | 3 => exact congrArg Int32.toNatClampNeg (h 31 (by decide))
  | n + 4 => exact congrArg Int32.toNatClampNeg (h 3 (by decide))
theorem rsz_cg (h9 : s'.2.1 9 = s.2.1 9) (h11 : s'.2.1 11 = s.2.1 11) (i : Nat) : rsz s' i = rsz s i := by
  show (s'.2.1 9 (s'.2.1 11 i).toNatClampNeg).toNatClampNeg = (s.2.1 9 (s.2.1 11 i).toNatClampNeg).toNatClampNeg
  rw [h9, h11]
theorem byP_cg (h1 : s'.2.1 1 = s.2.1 1) (F Z : Nat) : byP s' F Z = byP s F Z := by
  funext i
  unfold byP
  rw [h1]
theorem txE_cg (h1 : s'.2.1 1 = s.2.1 1) (h2 : s'.2.1 2 = s.2.1 2) (i : Nat) : txE s' i = txE s i := by
  unfold txE
  rw [byP_cg h1]
  show readE (byP s (160 * i) (s'.2.1 2 i).toNatClampNeg) (s'.2.1 2 i).toNatClampNeg c0 = readE (byP s (160 * i) (s.2.1 2 i).toNatClampNeg) (s.2.1 2 i).toNatClampNeg c0
  rw [h2]
theorem tx1_cg {t i : Nat} (h : txE s' i = txE s t) : tx1 s' i = tx1 s t := by unfold tx1; rw [h]
theorem tx2_cg {t i : Nat} (h : txE s' i = txE s t) : tx2 s' i = tx2 s t := by unfold tx2; rw [tx1_cg h, h]
theorem tx3_cg {t i : Nat} (h : txE s' i = txE s t) : tx3 s' i = tx3 s t := by unfold tx3; rw [tx2_cg h, h]
theorem clv_cg (h : ∀ j, j ∈ [10, 18, 28, 31, 3] → s'.1 j = s.1 j) (k i : Nat) : clv s' k i ↔ clv s k i := by
  have e (j : Nat) (hj : j ∈ [10, 18, 28, 31, 3]) : vI s' j = vI s j := congrArg Int32.toNatClampNeg (h j hj)
  match k with
  | 0 => exact (show clv s' 0 i ↔ i < 1 from Iff.rfl).trans (show i < 1 ↔ clv s 0 i from Iff.rfl)
  | 1 => exact (show clv s' 1 i ↔ i < 5 from Iff.rfl).trans (show i < 5 ↔ clv s 1 i from Iff.rfl)
  | 2 => exact (show clv s' 2 i ↔ i < 1 from Iff.rfl).trans (show i < 1 ↔ clv s 2 i from Iff.rfl)
  | 3 => exact (show clv s' 3 i ↔ i < 4 from Iff.rfl).trans (show i < 4 ↔ clv s 3 i from Iff.rfl)
  | 4 => exact (show clv s' 4 i ↔ i < 4 from Iff.rfl).trans (show i < 4 ↔ clv s 4 i from Iff.rfl)
  | 5 => exact (show clv s' 5 i ↔ i < 1 from Iff.rfl).trans (show i < 1 ↔ clv s 5 i from Iff.rfl)
  | 6 => exact (show clv s' 6 i ↔ i < 1 from Iff.rfl).trans (show i < 1 ↔ clv s 6 i from Iff.rfl)
  | 7 => exact (show clv s' 7 i ↔ i < 1 from Iff.rfl).trans (show i < 1 ↔ clv s 7 i from Iff.rfl)
  | 8 => exact (show clv s' 8 i ↔ i < 1 from Iff.rfl).trans (show i < 1 ↔ clv s 8 i from Iff.rfl)
  | 9 => exact (show clv s' 9 i ↔ i < 3 from Iff.rfl).trans (show i < 3 ↔ clv s 9 i from Iff.rfl)
  | 10 => exact (show clv s' 10 i ↔ i < 1 from Iff.rfl).trans (show i < 1 ↔ clv s 10 i from Iff.rfl)
  | 11 => exact (show clv s' 11 i ↔ i < 1 from Iff.rfl).trans (show i < 1 ↔ clv s 11 i from Iff.rfl)
  | 12 => exact (show clv s' 12 i ↔ i < 1 from Iff.rfl).trans (show i < 1 ↔ clv s 12 i from Iff.rfl)
  | 13 => exact (show clv s' 13 i ↔ i < 1 from Iff.rfl).trans (show i < 1 ↔ clv s 13 i from Iff.rfl)
  | 14 => exact (show clv s' 14 i ↔ i < 1 from Iff.rfl).trans (show i < 1 ↔ clv s 14 i from Iff.rfl)
  | 15 => exact (show clv s' 15 i ↔ i < vI s' 10 from Iff.rfl).trans ((show i < vI s' 10 ↔ i < vI s 10 from by rw [e 10 (by decide)]).trans (show i < vI s 10 ↔ clv s 15 i from Iff.rfl))
  | 16 => exact (show clv s' 16 i ↔ i < vI s' 10 from Iff.rfl).trans ((show i < vI s' 10 ↔ i < vI s 10 from by rw [e 10 (by decide)]).trans (show i < vI s 10 ↔ clv s 16 i from Iff.rfl))
  | 17 => exact (show clv s' 17 i ↔ i < vI s' 18 from Iff.rfl).trans ((show i < vI s' 18 ↔ i < vI s 18 from by rw [e 18 (by decide)]).trans (show i < vI s 18 ↔ clv s 17 i from Iff.rfl))
  | 18 => exact (show clv s' 18 i ↔ i < vI s' 18 from Iff.rfl).trans ((show i < vI s' 18 ↔ i < vI s 18 from by rw [e 18 (by decide)]).trans (show i < vI s 18 ↔ clv s 18 i from Iff.rfl))
  | 19 => exact (show clv s' 19 i ↔ i < vI s' 18 from Iff.rfl).trans ((show i < vI s' 18 ↔ i < vI s 18 from by rw [e 18 (by decide)]).trans (show i < vI s 18 ↔ clv s 19 i from Iff.rfl))
  | 20 => exact (show clv s' 20 i ↔ i < vI s' 18 from Iff.rfl).trans ((show i < vI s' 18 ↔ i < vI s 18 from by rw [e 18 (by decide)]).trans (show i < vI s 18 ↔ clv s 20 i from Iff.rfl))
  | 21 => exact (show clv s' 21 i ↔ i < vI s' 18 from Iff.rfl).trans ((show i < vI s' 18 ↔ i < vI s 18 from by rw [e 18 (by decide)]).trans (show i < vI s 18 ↔ clv s 21 i from Iff.rfl))
  | 22 => exact (show clv s' 22 i ↔ i < vI s' 18 from Iff.rfl).trans ((show i < vI s' 18 ↔ i < vI s 18 from by rw [e 18 (by decide)]).trans (show i < vI s 18 ↔ clv s 22 i from Iff.rfl))
  | 23 => exact (show clv s' 23 i ↔ i < vI s' 18 from Iff.rfl).trans ((show i < vI s' 18 ↔ i < vI s 18 from by rw [e 18 (by decide)]).trans (show i < vI s 18 ↔ clv s 23 i from Iff.rfl))
  | 24 => exact (show clv s' 24 i ↔ i < vI s' 28 from Iff.rfl).trans ((show i < vI s' 28 ↔ i < vI s 28 from by rw [e 28 (by decide)]).trans (show i < vI s 28 ↔ clv s 24 i from Iff.rfl))
  | 25 => exact (show clv s' 25 i ↔ i < vI s' 31 from Iff.rfl).trans ((show i < vI s' 31 ↔ i < vI s 31 from by rw [e 31 (by decide)]).trans (show i < vI s 31 ↔ clv s 25 i from Iff.rfl))
  | 26 => exact (show clv s' 26 i ↔ i < vI s' 3 from Iff.rfl).trans ((show i < vI s' 3 ↔ i < vI s 3 from by rw [e 3 (by decide)]).trans (show i < vI s 3 ↔ clv s 26 i from Iff.rfl))
  | 27 => exact (show clv s' 27 i ↔ i < vI s' 3 from Iff.rfl).trans ((show i < vI s' 3 ↔ i < vI s 3 from by rw [e 3 (by decide)]).trans (show i < vI s 3 ↔ clv s 27 i from Iff.rfl))
  | 28 => exact (show clv s' 28 i ↔ i < vI s' 3 from Iff.rfl).trans ((show i < vI s' 3 ↔ i < vI s 3 from by rw [e 3 (by decide)]).trans (show i < vI s 3 ↔ clv s 28 i from Iff.rfl))
  | 29 => exact (show clv s' 29 i ↔ i < vI s' 3 from Iff.rfl).trans ((show i < vI s' 3 ↔ i < vI s 3 from by rw [e 3 (by decide)]).trans (show i < vI s 3 ↔ clv s 29 i from Iff.rfl))
  | 30 => exact (show clv s' 30 i ↔ (i < 5 ∧ 0 < lsz s' i) from Iff.rfl).trans ((show (i < 5 ∧ 0 < lsz s' i) ↔ (i < 5 ∧ 0 < lsz s i) from by rw [lsz_cg h]).trans (show (i < 5 ∧ 0 < lsz s i) ↔ clv s 30 i from Iff.rfl))
  | n + 31 => exact (show clv s' (n + 31) i ↔ False from Iff.rfl).trans (show False ↔ clv s (n + 31) i from Iff.rfl)
theorem CP_cg {k i : Nat} {e : kE} (h1 : ∀ j, j ∈ cD1 k → s'.1 j = s.1 j) (h2 : ∀ a, a ∈ cDA k → s'.2.1 a = s.2.1 a) (hc : CP X σ s k i e) : CP X σ s' k i e := by
  match k, h1, h2, hc with
  | 0, h1, h2, hc =>
    have hc2 : e = kO 11 (cfl σ s) := hc
    show e = kO 11 (cfl σ s')
    unfold cfl at hc2 ⊢
    rw [h1 4 (by decide), h1 57 (by decide), h1 58 (by decide), h1 59 (by decide), h1 60 (by decide)]
    exact hc2
  | 1, h1, h2, hc =>
    have hc2 : ∃ md : Int32, e = kO 13 [.int md, .ref (if lsz s i = 0 then X.2.2.2.1 2 else σ 30 i), .int (nI (lsz s i))] := hc
    show ∃ md : Int32, e = kO 13 [.int md, .ref (if lsz s' i = 0 then X.2.2.2.1 2 else σ 30 i), .int (nI (lsz s' i))]
    rw [lsz_cg h1]
    exact hc2
  | 2, h1, h2, hc =>
    have hc2 : ∃ F : Nat → Option Nat, e = kQ 3 4 F ∧ ∀ j, j < 4 → F j = some (σ 3 j) := hc
    show ∃ F : Nat → Option Nat, e = kQ 3 4 F ∧ ∀ j, j < 4 → F j = some (σ 3 j)
    exact hc2
  | 3, h1, h2, hc =>
    have hc2 : ∃ so sz : Int32, e = kO 7 [.ref (σ 4 i), .int so, .int sz] ∧ (s.2.1 61 i = 0 → so = -1) ∧ (s.2.1 61 i = nI 1 → so = s.2.1 62 i ∧ sz = s.2.1 63 i) := hc
    show ∃ so sz : Int32, e = kO 7 [.ref (σ 4 i), .int so, .int sz] ∧ (s'.2.1 61 i = 0 → so = -1) ∧ (s'.2.1 61 i = nI 1 → so = s'.2.1 62 i ∧ sz = s'.2.1 63 i)
    rw [h2 61 (by decide), h2 62 (by decide), h2 63 (by decide)]
    exact hc2
  | 4, h1, h2, hc =>
    have hc2 : ∃ f : Nat → Int32, e = kI 40 f ∧ (s.2.1 61 i = nI 1 → ∀ j, j < (s.2.1 63 i).toNatClampNeg → f j = s.2.1 64 (40 * i + j)) := hc
    show ∃ f : Nat → Int32, e = kI 40 f ∧ (s'.2.1 61 i = nI 1 → ∀ j, j < (s'.2.1 63 i).toNatClampNeg → f j = s'.2.1 64 (40 * i + j))
    rw [h2 61 (by decide), h2 63 (by decide), h2 64 (by decide)]
    exact hc2
  | 5, h1, h2, hc =>
    have hc2 : e = kO 8 [.ref (σ 6 0), .int (s.1 6)] := hc
    show e = kO 8 [.ref (σ 6 0), .int (s'.1 6)]
    rw [h1 6 (by decide)]
    exact hc2
  | 6, h1, h2, hc =>
    have hc2 : ∃ f : Nat → Int32, e = kI 160 f ∧ ∀ j, j < (s.1 6).toNatClampNeg → f j = s.2.1 5 j := hc
    show ∃ f : Nat → Int32, e = kI 160 f ∧ ∀ j, j < (s'.1 6).toNatClampNeg → f j = s'.2.1 5 j
    rw [h1 6 (by decide), h2 5 (by decide)]
    exact hc2
  | 7, h1, h2, hc =>
    have hc2 : ∃ (L k : Nat) (tk ft : Int32), e = kO 4 [.ref (σ 8 0), .ref (σ 10 0), .ref (σ 11 0), .int (nI L), .int (nI k), .int tk, .int ft] := hc
    show ∃ (L k : Nat) (tk ft : Int32), e = kO 4 [.ref (σ 8 0), .ref (σ 10 0), .ref (σ 11 0), .int (nI L), .int (nI k), .int tk, .int ft]
    exact hc2
  | 8, h1, h2, hc =>
    have hc2 : ∃ c0 : Nat, e = kO 10 [.ref (σ 9 0), .ref (σ 9 1), .ref (σ 9 2), .int (nI c0)] := hc
    show ∃ c0 : Nat, e = kO 10 [.ref (σ 9 0), .ref (σ 9 1), .ref (σ 9 2), .int (nI c0)]
    exact hc2
  | 9, h1, h2, hc =>
    have hc2 : ∃ f : Nat → Int32, e = kI 161 f := hc
    show ∃ f : Nat → Int32, e = kI 161 f
    exact hc2
  | 10, h1, h2, hc =>
    have hc2 : ∃ f : Nat → Int32, e = kI 160 f := hc
    show ∃ f : Nat → Int32, e = kI 160 f
    exact hc2
  | 11, h1, h2, hc =>
    have hc2 : ∃ f : Nat → Int32, e = kI 3 f := hc
    show ∃ f : Nat → Int32, e = kI 3 f
    exact hc2
  | 12, h1, h2, hc =>
    have hc2 : e = kO 2 [.ref (σ 13 0)] := hc
    show e = kO 2 [.ref (σ 13 0)]
    exact hc2
  | 13, h1, h2, hc =>
    have hc2 : ∃ f : Nat → Int64, e = kL 26 f := hc
    show ∃ f : Nat → Int64, e = kL 26 f
    exact hc2
  | 14, h1, h2, hc =>
    have hc2 : ∃ f : Nat → Int32, e = kI 6 f := hc
    show ∃ f : Nat → Int32, e = kI 6 f
    exact hc2
  | 15, h1, h2, hc =>
    have hc2 : e = kO 3 [.ref (σ 16 i), .int (s.2.1 9 i)] := hc
    show e = kO 3 [.ref (σ 16 i), .int (s'.2.1 9 i)]
    rw [h2 9 (by decide)]
    exact hc2
  | 16, h1, h2, hc =>
    have hc2 : ∃ f : Nat → Int32, e = kI 5 f ∧ ∀ j, j < 5 → f j = s.2.1 8 (5 * i + j) := hc
    show ∃ f : Nat → Int32, e = kI 5 f ∧ ∀ j, j < 5 → f j = s'.2.1 8 (5 * i + j)
    rw [h2 8 (by decide)]
    exact hc2
  | 17, h1, h2, hc =>
    have hc2 : ∃ ks kp : Int32, e = rO (s.2.1 11 i) (s.2.1 12 i) (s.2.1 13 i) (s.2.1 16 i) (s.2.1 17 i) ks kp (σ 15 (s.2.1 11 i).toNatClampNeg) (σ 18 i) (σ 19 i) (σ 20 i) (σ 21 i) (σ 22 i) (σ 23 i) ∧ (s.1 57 = nI 1 → i < (s.1 58).toNatClampNeg → ks = s.2.1 54 i ∧ kp = s.2.1 55 i) := hc
    show ∃ ks kp : Int32, e = rO (s'.2.1 11 i) (s'.2.1 12 i) (s'.2.1 13 i) (s'.2.1 16 i) (s'.2.1 17 i) ks kp (σ 15 (s'.2.1 11 i).toNatClampNeg) (σ 18 i) (σ 19 i) (σ 20 i) (σ 21 i) (σ 22 i) (σ 23 i) ∧ (s'.1 57 = nI 1 → i < (s'.1 58).toNatClampNeg → ks = s'.2.1 54 i ∧ kp = s'.2.1 55 i)
    rw [h1 57 (by decide), h1 58 (by decide), h2 11 (by decide), h2 12 (by decide), h2 13 (by decide), h2 16 (by decide), h2 17 (by decide), h2 54 (by decide), h2 55 (by decide)]
    exact hc2
  | 18, h1, h2, hc =>
    have hc2 : ∃ f : Nat → Int32, e = kI (rsz s i) f ∧ ∀ j, j < rsz s i → f j = s.2.1 14 (25 * i + j) := hc
    show ∃ f : Nat → Int32, e = kI (rsz s' i) f ∧ ∀ j, j < rsz s' i → f j = s'.2.1 14 (25 * i + j)
    rw [rsz_cg (h2 9 (by decide)) (h2 11 (by decide)), h2 14 (by decide)]
    exact hc2
  | 19, h1, h2, hc =>
    have hc2 : ∃ f : Nat → Int32, e = kI (rsz s i) f ∧ ∀ j, j < rsz s i → f j = s.2.1 15 (25 * i + j) := hc
    show ∃ f : Nat → Int32, e = kI (rsz s' i) f ∧ ∀ j, j < rsz s' i → f j = s'.2.1 15 (25 * i + j)
    rw [rsz_cg (h2 9 (by decide)) (h2 11 (by decide)), h2 15 (by decide)]
    exact hc2
  | 20, h1, h2, hc =>
    have hc2 : ∃ f : Nat → Int32, e = kI (rsz s i) f := hc
    show ∃ f : Nat → Int32, e = kI (rsz s' i) f
    rw [rsz_cg (h2 9 (by decide)) (h2 11 (by decide))]
    exact hc2
  | 21, h1, h2, hc =>
    have hc2 : ∃ f : Nat → Int32, e = kI 5 f := hc
    show ∃ f : Nat → Int32, e = kI 5 f
    exact hc2
  | 22, h1, h2, hc =>
    have hc2 : ∃ f : Nat → Int32, e = kI (rsz s i) f ∧ (s.1 57 = nI 1 → i < (s.1 58).toNatClampNeg → ∀ j, j < rsz s i → f j = s.2.1 52 (25 * i + j)) := hc
    show ∃ f : Nat → Int32, e = kI (rsz s' i) f ∧ (s'.1 57 = nI 1 → i < (s'.1 58).toNatClampNeg → ∀ j, j < rsz s' i → f j = s'.2.1 52 (25 * i + j))
    rw [rsz_cg (h2 9 (by decide)) (h2 11 (by decide)), h1 57 (by decide), h1 58 (by decide), h2 52 (by decide)]
    exact hc2
  | 23, h1, h2, hc =>
    have hc2 : ∃ f : Nat → Int32, e = kI (rsz s i) f ∧ (s.1 57 = nI 1 → i < (s.1 58).toNatClampNeg → ∀ j, j < rsz s i → f j = s.2.1 53 (25 * i + j)) := hc
    show ∃ f : Nat → Int32, e = kI (rsz s' i) f ∧ (s'.1 57 = nI 1 → i < (s'.1 58).toNatClampNeg → ∀ j, j < rsz s' i → f j = s'.2.1 53 (25 * i + j))
    rw [rsz_cg (h2 9 (by decide)) (h2 11 (by decide)), h1 57 (by decide), h1 58 (by decide), h2 53 (by decide)]
    exact hc2
  | 24, h1, h2, hc =>
    have hc2 : ∃ w : Bool, e = kO 1 [.int (s.2.1 24 i), .int (s.2.1 25 i), .int (s.2.1 26 i), .int (s.2.1 27 i), .int (bI w)] ∧ (s.1 57 = nI 1 → i < (s.1 59).toNatClampNeg → bI w = s.2.1 56 i) := hc
    show ∃ w : Bool, e = kO 1 [.int (s'.2.1 24 i), .int (s'.2.1 25 i), .int (s'.2.1 26 i), .int (s'.2.1 27 i), .int (bI w)] ∧ (s'.1 57 = nI 1 → i < (s'.1 59).toNatClampNeg → bI w = s'.2.1 56 i)
    rw [h1 57 (by decide), h1 59 (by decide), h2 24 (by decide), h2 25 (by decide), h2 26 (by decide), h2 27 (by decide), h2 56 (by decide)]
    exact hc2
  | 25, h1, h2, hc =>
    have hc2 : e = kO 6 [.int (s.2.1 29 i), .int (s.2.1 30 i)] := hc
    show e = kO 6 [.int (s'.2.1 29 i), .int (s'.2.1 30 i)]
    rw [h2 29 (by decide), h2 30 (by decide)]
    exact hc2
  | 26, h1, h2, hc =>
    have hc2 : e = kO 9 [.ref (σ 27 i), .ref (σ 28 i), .ref (σ 29 i)] := hc
    show e = kO 9 [.ref (σ 27 i), .ref (σ 28 i), .ref (σ 29 i)]
    exact hc2
  | 27, h1, h2, hc =>
    have hc2 : ∃ f : Nat → Int32, e = kI (tx3 s i) f ∧ tx3 s i ≤ 160 ∧ cod f 0 (txE s i).1.1.1 ∧ cod f (tx1 s i) (txE s i).2.1.1.1 ∧ cod f (tx2 s i) (txE s i).2.2.1.1 := hc
    show ∃ f : Nat → Int32, e = kI (tx3 s' i) f ∧ tx3 s' i ≤ 160 ∧ cod f 0 (txE s' i).1.1.1 ∧ cod f (tx1 s' i) (txE s' i).2.1.1.1 ∧ cod f (tx2 s' i) (txE s' i).2.2.1.1
    have te := txE_cg (h2 1 (by decide)) (h2 2 (by decide)) i
    rw [tx3_cg te, tx2_cg te, tx1_cg te, te]
    exact hc2
  | 28, h1, h2, hc =>
    have hc2 : ∃ g : Nat → Int32, e = kI 3 g ∧ g 0 = nI (tx1 s i) ∧ g 1 = nI (tx2 s i) ∧ g 2 = nI (tx3 s i) := hc
    show ∃ g : Nat → Int32, e = kI 3 g ∧ g 0 = nI (tx1 s' i) ∧ g 1 = nI (tx2 s' i) ∧ g 2 = nI (tx3 s' i)
    have te := txE_cg (h2 1 (by decide)) (h2 2 (by decide)) i
    rw [tx3_cg te, tx2_cg te, tx1_cg te]
    exact hc2
  | 29, h1, h2, hc =>
    have hc2 : ∃ f : Nat → Int32, e = kI (tx3 s i) f := hc
    show ∃ f : Nat → Int32, e = kI (tx3 s' i) f
    have te := txE_cg (h2 1 (by decide)) (h2 2 (by decide)) i
    rw [tx3_cg te]
    exact hc2
  | 30, h1, h2, hc =>
    have hc2 : ∃ (cap : Nat) (F : Nat → Option Nat), e = kQ 2 cap F ∧ lsz s i ≤ cap ∧ (cap = 10 ∨ cap = 15 ∨ cap = 22) ∧ ∀ j, j < lsz s i → F j = some (σ (lek i) j) := hc
    show ∃ (cap : Nat) (F : Nat → Option Nat), e = kQ 2 cap F ∧ lsz s' i ≤ cap ∧ (cap = 10 ∨ cap = 15 ∨ cap = 22) ∧ ∀ j, j < lsz s' i → F j = some (σ (lek i) j)
    rw [lsz_cg h1]
    exact hc2
  | n + 31, _, _, hc => exact trivial
end CGL
theorem sa_1 {k : Nat} {g : Nat → Int32} : (sa s k g).1 = s.1 := rfl
theorem sa_n {k a : Nat} {g : Nat → Int32} (h : a ≠ k) : (sa s k g).2.1 a = s.2.1 a := if_neg h
theorem sa_e {k : Nat} {g : Nat → Int32} : (sa s k g).2.1 k = g := if_pos rfl
theorem si_n {k a : Nat} {v : Int32} (h : a ≠ k) : (si s k v).1 a = s.1 a := if_neg h
theorem si_e {k : Nat} {v : Int32} : (si s k v).1 k = v := if_pos rfl
theorem si_2 {k : Nat} {v : Int32} : (si s k v).2.1 = s.2.1 := rfl
theorem CP_sa {a k i : Nat} {e : kE} {g : Nat → Int32} (hk : a ∉ cDA k) (hc : CP X σ s k i e) : CP X σ (sa s a g) k i e := CP_cg (fun j _ => by rw [sa_1]) (fun b hb => sa_n (fun z => hk (z ▸ hb))) hc
theorem CP_si {a k i : Nat} {e : kE} {v : Int32} (hk : a ∉ cD1 k) (hc : CP X σ s k i e) : CP X σ (si s a v) k i e := CP_cg (fun j hj => si_n (fun z => hk (z ▸ hj))) (fun b _ => by rw [si_2]) hc
theorem clv_sa {a : Nat} {g : Nat → Int32} (k i : Nat) : clv (sa s a g) k i ↔ clv s k i := clv_cg (fun j _ => by rw [sa_1]) k i
theorem clv_si {a : Nat} {v : Int32} (ha : a ∉ [10, 18, 28, 31, 3]) (k i : Nat) : clv (si s a v) k i ↔ clv s k i := clv_cg (fun j hj => si_n (fun z => ha (by rw [← z]; exact hj))) k i
theorem nD_5 (k : Nat) : k ≠ 6 → 5 ∉ cDA k := by
  match k with
  | 0 => exact fun _ => by decide
  | 1 => exact fun _ => by decide
  | 2 => exact fun _ => by decide
  | 3 => exact fun _ => by decide
  | 4 => exact fun _ => by decide
  | 5 => exact fun _ => by decide
  | 6 => exact fun h6 => absurd rfl h6
  | 7 => exact fun _ => by decide
  | 8 => exact fun _ => by decide
  | 9 => exact fun _ => by decide
  | 10 => exact fun _ => by decide
  | 11 => exact fun _ => by decide
  | 12 => exact fun _ => by decide
  | 13 => exact fun _ => by decide
  | 14 => exact fun _ => by decide
  | 15 => exact fun _ => by decide
  | 16 => exact fun _ => by decide
  | 17 => exact fun _ => by decide
  | 18 => exact fun _ => by decide
  | 19 => exact fun _ => by decide
  | 20 => exact fun _ => by decide
  | 21 => exact fun _ => by decide
  | 22 => exact fun _ => by decide
  | 23 => exact fun _ => by decide
  | 24 => exact fun _ => by decide
  | 25 => exact fun _ => by decide
  | 26 => exact fun _ => by decide
  | 27 => exact fun _ => by decide
  | 28 => exact fun _ => by decide
  | 29 => exact fun _ => by decide
  | 30 => exact fun _ => by decide
  | n + 31 => exact fun _ => (by decide : 5 ∉ ([] : List Nat))
theorem nD_14 (k : Nat) : k ≠ 18 → 14 ∉ cDA k := by
  match k with
  | 0 => exact fun _ => by decide
  | 1 => exact fun _ => by decide
  | 2 => exact fun _ => by decide
  | 3 => exact fun _ => by decide
  | 4 => exact fun _ => by decide
  | 5 => exact fun _ => by decide
  | 6 => exact fun _ => by decide
  | 7 => exact fun _ => by decide
  | 8 => exact fun _ => by decide
  | 9 => exact fun _ => by decide
  | 10 => exact fun _ => by decide
  | 11 => exact fun _ => by decide
  | 12 => exact fun _ => by decide
  | 13 => exact fun _ => by decide
  | 14 => exact fun _ => by decide
  | 15 => exact fun _ => by decide
  | 16 => exact fun _ => by decide
  | 17 => exact fun _ => by decide
  | 18 => exact fun h18 => absurd rfl h18
  | 19 => exact fun _ => by decide
  | 20 => exact fun _ => by decide
  | 21 => exact fun _ => by decide
  | 22 => exact fun _ => by decide
  | 23 => exact fun _ => by decide
  | 24 => exact fun _ => by decide
  | 25 => exact fun _ => by decide
  | 26 => exact fun _ => by decide
  | 27 => exact fun _ => by decide
  | 28 => exact fun _ => by decide
  | 29 => exact fun _ => by decide
  | 30 => exact fun _ => by decide
  | n + 31 => exact fun _ => (by decide : 14 ∉ ([] : List Nat))
theorem nD_15 (k : Nat) : k ≠ 19 → 15 ∉ cDA k := by
  match k with
  | 0 => exact fun _ => by decide
  | 1 => exact fun _ => by decide
  | 2 => exact fun _ => by decide
  | 3 => exact fun _ => by decide
  | 4 => exact fun _ => by decide
  | 5 => exact fun _ => by decide
  | 6 => exact fun _ => by decide
  | 7 => exact fun _ => by decide
  | 8 => exact fun _ => by decide
  | 9 => exact fun _ => by decide
  | 10 => exact fun _ => by decide
  | 11 => exact fun _ => by decide
  | 12 => exact fun _ => by decide
  | 13 => exact fun _ => by decide
  | 14 => exact fun _ => by decide
  | 15 => exact fun _ => by decide
  | 16 => exact fun _ => by decide
  | 17 => exact fun _ => by decide
  | 18 => exact fun _ => by decide
  | 19 => exact fun h19 => absurd rfl h19
  | 20 => exact fun _ => by decide
  | 21 => exact fun _ => by decide
  | 22 => exact fun _ => by decide
  | 23 => exact fun _ => by decide
  | 24 => exact fun _ => by decide
  | 25 => exact fun _ => by decide
  | 26 => exact fun _ => by decide
  | 27 => exact fun _ => by decide
  | 28 => exact fun _ => by decide
  | 29 => exact fun _ => by decide
  | 30 => exact fun _ => by decide
  | n + 31 => exact fun _ => (by decide : 15 ∉ ([] : List Nat))
theorem nD_16 (k : Nat) : k ≠ 17 → 16 ∉ cDA k := by
  match k with
  | 0 => exact fun _ => by decide
  | 1 => exact fun _ => by decide
  | 2 => exact fun _ => by decide
  | 3 => exact fun _ => by decide
  | 4 => exact fun _ => by decide
  | 5 => exact fun _ => by decide
  | 6 => exact fun _ => by decide
  | 7 => exact fun _ => by decide
  | 8 => exact fun _ => by decide
  | 9 => exact fun _ => by decide
  | 10 => exact fun _ => by decide
  | 11 => exact fun _ => by decide
  | 12 => exact fun _ => by decide
  | 13 => exact fun _ => by decide
  | 14 => exact fun _ => by decide
  | 15 => exact fun _ => by decide
  | 16 => exact fun _ => by decide
  | 17 => exact fun h17 => absurd rfl h17
  | 18 => exact fun _ => by decide
  | 19 => exact fun _ => by decide
  | 20 => exact fun _ => by decide
  | 21 => exact fun _ => by decide
  | 22 => exact fun _ => by decide
  | 23 => exact fun _ => by decide
  | 24 => exact fun _ => by decide
  | 25 => exact fun _ => by decide
  | 26 => exact fun _ => by decide
  | 27 => exact fun _ => by decide
  | 28 => exact fun _ => by decide
  | 29 => exact fun _ => by decide
  | 30 => exact fun _ => by decide
  | n + 31 => exact fun _ => (by decide : 16 ∉ ([] : List Nat))
theorem nD_17 (k : Nat) : k ≠ 17 → 17 ∉ cDA k := by
  match k with
  | 0 => exact fun _ => by decide
  | 1 => exact fun _ => by decide
  | 2 => exact fun _ => by decide
  | 3 => exact fun _ => by decide
  | 4 => exact fun _ => by decide
  | 5 => exact fun _ => by decide
  | 6 => exact fun _ => by decide
  | 7 => exact fun _ => by decide
  | 8 => exact fun _ => by decide
  | 9 => exact fun _ => by decide
  | 10 => exact fun _ => by decide
  | 11 => exact fun _ => by decide
  | 12 => exact fun _ => by decide
  | 13 => exact fun _ => by decide
  | 14 => exact fun _ => by decide
  | 15 => exact fun _ => by decide
  | 16 => exact fun _ => by decide
  | 17 => exact fun h17 => absurd rfl h17
  | 18 => exact fun _ => by decide
  | 19 => exact fun _ => by decide
  | 20 => exact fun _ => by decide
  | 21 => exact fun _ => by decide
  | 22 => exact fun _ => by decide
  | 23 => exact fun _ => by decide
  | 24 => exact fun _ => by decide
  | 25 => exact fun _ => by decide
  | 26 => exact fun _ => by decide
  | 27 => exact fun _ => by decide
  | 28 => exact fun _ => by decide
  | 29 => exact fun _ => by decide
  | 30 => exact fun _ => by decide
  | n + 31 => exact fun _ => (by decide : 17 ∉ ([] : List Nat))
theorem nD_27 (k : Nat) : k ≠ 24 → 27 ∉ cDA k := by
  match k with
  | 0 => exact fun _ => by decide
  | 1 => exact fun _ => by decide
  | 2 => exact fun _ => by decide
  | 3 => exact fun _ => by decide
  | 4 => exact fun _ => by decide
  | 5 => exact fun _ => by decide
  | 6 => exact fun _ => by decide
  | 7 => exact fun _ => by decide
  | 8 => exact fun _ => by decide
  | 9 => exact fun _ => by decide
  | 10 => exact fun _ => by decide
  | 11 => exact fun _ => by decide
  | 12 => exact fun _ => by decide
  | 13 => exact fun _ => by decide
  | 14 => exact fun _ => by decide
  | 15 => exact fun _ => by decide
  | 16 => exact fun _ => by decide
  | 17 => exact fun _ => by decide
  | 18 => exact fun _ => by decide
  | 19 => exact fun _ => by decide
  | 20 => exact fun _ => by decide
  | 21 => exact fun _ => by decide
  | 22 => exact fun _ => by decide
  | 23 => exact fun _ => by decide
  | 24 => exact fun h24 => absurd rfl h24
  | 25 => exact fun _ => by decide
  | 26 => exact fun _ => by decide
  | 27 => exact fun _ => by decide
  | 28 => exact fun _ => by decide
  | 29 => exact fun _ => by decide
  | 30 => exact fun _ => by decide
  | n + 31 => exact fun _ => (by decide : 27 ∉ ([] : List Nat))
theorem nD_61 (k : Nat) : k ≠ 3 → k ≠ 4 → 61 ∉ cDA k := by
  match k with
  | 0 => exact fun _ _ => by decide
  | 1 => exact fun _ _ => by decide
  | 2 => exact fun _ _ => by decide
  | 3 => exact fun h3 h4 => absurd rfl h3
  | 4 => exact fun h3 h4 => absurd rfl h4
  | 5 => exact fun _ _ => by decide
  | 6 => exact fun _ _ => by decide
  | 7 => exact fun _ _ => by decide
  | 8 => exact fun _ _ => by decide
  | 9 => exact fun _ _ => by decide
  | 10 => exact fun _ _ => by decide
  | 11 => exact fun _ _ => by decide
  | 12 => exact fun _ _ => by decide
  | 13 => exact fun _ _ => by decide
  | 14 => exact fun _ _ => by decide
  | 15 => exact fun _ _ => by decide
  | 16 => exact fun _ _ => by decide
  | 17 => exact fun _ _ => by decide
  | 18 => exact fun _ _ => by decide
  | 19 => exact fun _ _ => by decide
  | 20 => exact fun _ _ => by decide
  | 21 => exact fun _ _ => by decide
  | 22 => exact fun _ _ => by decide
  | 23 => exact fun _ _ => by decide
  | 24 => exact fun _ _ => by decide
  | 25 => exact fun _ _ => by decide
  | 26 => exact fun _ _ => by decide
  | 27 => exact fun _ _ => by decide
  | 28 => exact fun _ _ => by decide
  | 29 => exact fun _ _ => by decide
  | 30 => exact fun _ _ => by decide
  | n + 31 => exact fun _ _ => (by decide : 61 ∉ ([] : List Nat))
theorem nD_62 (k : Nat) : k ≠ 3 → 62 ∉ cDA k := by
  match k with
  | 0 => exact fun _ => by decide
  | 1 => exact fun _ => by decide
  | 2 => exact fun _ => by decide
  | 3 => exact fun h3 => absurd rfl h3
  | 4 => exact fun _ => by decide
  | 5 => exact fun _ => by decide
  | 6 => exact fun _ => by decide
  | 7 => exact fun _ => by decide
  | 8 => exact fun _ => by decide
  | 9 => exact fun _ => by decide
  | 10 => exact fun _ => by decide
  | 11 => exact fun _ => by decide
  | 12 => exact fun _ => by decide
  | 13 => exact fun _ => by decide
  | 14 => exact fun _ => by decide
  | 15 => exact fun _ => by decide
  | 16 => exact fun _ => by decide
  | 17 => exact fun _ => by decide
  | 18 => exact fun _ => by decide
  | 19 => exact fun _ => by decide
  | 20 => exact fun _ => by decide
  | 21 => exact fun _ => by decide
  | 22 => exact fun _ => by decide
  | 23 => exact fun _ => by decide
  | 24 => exact fun _ => by decide
  | 25 => exact fun _ => by decide
  | 26 => exact fun _ => by decide
  | 27 => exact fun _ => by decide
  | 28 => exact fun _ => by decide
  | 29 => exact fun _ => by decide
  | 30 => exact fun _ => by decide
  | n + 31 => exact fun _ => (by decide : 62 ∉ ([] : List Nat))
theorem nD_63 (k : Nat) : k ≠ 3 → k ≠ 4 → 63 ∉ cDA k := by
  match k with
  | 0 => exact fun _ _ => by decide
  | 1 => exact fun _ _ => by decide
  | 2 => exact fun _ _ => by decide
  | 3 => exact fun h3 h4 => absurd rfl h3
  | 4 => exact fun h3 h4 => absurd rfl h4
  | 5 => exact fun _ _ => by decide
  | 6 => exact fun _ _ => by decide
  | 7 => exact fun _ _ => by decide
  | 8 => exact fun _ _ => by decide
  | 9 => exact fun _ _ => by decide
  | 10 => exact fun _ _ => by decide
  | 11 => exact fun _ _ => by decide
  | 12 => exact fun _ _ => by decide
  | 13 => exact fun _ _ => by decide
  | 14 => exact fun _ _ => by decide
  | 15 => exact fun _ _ => by decide
  | 16 => exact fun _ _ => by decide
  | 17 => exact fun _ _ => by decide
  | 18 => exact fun _ _ => by decide
  | 19 => exact fun _ _ => by decide
  | 20 => exact fun _ _ => by decide
  | 21 => exact fun _ _ => by decide
  | 22 => exact fun _ _ => by decide
  | 23 => exact fun _ _ => by decide
  | 24 => exact fun _ _ => by decide
  | 25 => exact fun _ _ => by decide
  | 26 => exact fun _ _ => by decide
  | 27 => exact fun _ _ => by decide
  | 28 => exact fun _ _ => by decide
  | 29 => exact fun _ _ => by decide
  | 30 => exact fun _ _ => by decide
  | n + 31 => exact fun _ _ => (by decide : 63 ∉ ([] : List Nat))
theorem nD_64 (k : Nat) : k ≠ 4 → 64 ∉ cDA k := by
  match k with
  | 0 => exact fun _ => by decide
  | 1 => exact fun _ => by decide
  | 2 => exact fun _ => by decide
  | 3 => exact fun _ => by decide
  | 4 => exact fun h4 => absurd rfl h4
  | 5 => exact fun _ => by decide
  | 6 => exact fun _ => by decide
  | 7 => exact fun _ => by decide
  | 8 => exact fun _ => by decide
  | 9 => exact fun _ => by decide
  | 10 => exact fun _ => by decide
  | 11 => exact fun _ => by decide
  | 12 => exact fun _ => by decide
  | 13 => exact fun _ => by decide
  | 14 => exact fun _ => by decide
  | 15 => exact fun _ => by decide
  | 16 => exact fun _ => by decide
  | 17 => exact fun _ => by decide
  | 18 => exact fun _ => by decide
  | 19 => exact fun _ => by decide
  | 20 => exact fun _ => by decide
  | 21 => exact fun _ => by decide
  | 22 => exact fun _ => by decide
  | 23 => exact fun _ => by decide
  | 24 => exact fun _ => by decide
  | 25 => exact fun _ => by decide
  | 26 => exact fun _ => by decide
  | 27 => exact fun _ => by decide
  | 28 => exact fun _ => by decide
  | 29 => exact fun _ => by decide
  | 30 => exact fun _ => by decide
  | n + 31 => exact fun _ => (by decide : 64 ∉ ([] : List Nat))
theorem nD_52 (k : Nat) : k ≠ 22 → 52 ∉ cDA k := by
  match k with
  | 0 => exact fun _ => by decide
  | 1 => exact fun _ => by decide
  | 2 => exact fun _ => by decide
  | 3 => exact fun _ => by decide
  | 4 => exact fun _ => by decide
  | 5 => exact fun _ => by decide
  | 6 => exact fun _ => by decide
  | 7 => exact fun _ => by decide
  | 8 => exact fun _ => by decide
  | 9 => exact fun _ => by decide
  | 10 => exact fun _ => by decide
  | 11 => exact fun _ => by decide
  | 12 => exact fun _ => by decide
  | 13 => exact fun _ => by decide
  | 14 => exact fun _ => by decide
  | 15 => exact fun _ => by decide
  | 16 => exact fun _ => by decide
  | 17 => exact fun _ => by decide
  | 18 => exact fun _ => by decide
  | 19 => exact fun _ => by decide
  | 20 => exact fun _ => by decide
  | 21 => exact fun _ => by decide
  | 22 => exact fun h22 => absurd rfl h22
  | 23 => exact fun _ => by decide
  | 24 => exact fun _ => by decide
  | 25 => exact fun _ => by decide
  | 26 => exact fun _ => by decide
  | 27 => exact fun _ => by decide
  | 28 => exact fun _ => by decide
  | 29 => exact fun _ => by decide
  | 30 => exact fun _ => by decide
  | n + 31 => exact fun _ => (by decide : 52 ∉ ([] : List Nat))
theorem nD_53 (k : Nat) : k ≠ 23 → 53 ∉ cDA k := by
  match k with
  | 0 => exact fun _ => by decide
  | 1 => exact fun _ => by decide
  | 2 => exact fun _ => by decide
  | 3 => exact fun _ => by decide
  | 4 => exact fun _ => by decide
  | 5 => exact fun _ => by decide
  | 6 => exact fun _ => by decide
  | 7 => exact fun _ => by decide
  | 8 => exact fun _ => by decide
  | 9 => exact fun _ => by decide
  | 10 => exact fun _ => by decide
  | 11 => exact fun _ => by decide
  | 12 => exact fun _ => by decide
  | 13 => exact fun _ => by decide
  | 14 => exact fun _ => by decide
  | 15 => exact fun _ => by decide
  | 16 => exact fun _ => by decide
  | 17 => exact fun _ => by decide
  | 18 => exact fun _ => by decide
  | 19 => exact fun _ => by decide
  | 20 => exact fun _ => by decide
  | 21 => exact fun _ => by decide
  | 22 => exact fun _ => by decide
  | 23 => exact fun h23 => absurd rfl h23
  | 24 => exact fun _ => by decide
  | 25 => exact fun _ => by decide
  | 26 => exact fun _ => by decide
  | 27 => exact fun _ => by decide
  | 28 => exact fun _ => by decide
  | 29 => exact fun _ => by decide
  | 30 => exact fun _ => by decide
  | n + 31 => exact fun _ => (by decide : 53 ∉ ([] : List Nat))
theorem nD_54 (k : Nat) : k ≠ 17 → 54 ∉ cDA k := by
  match k with
  | 0 => exact fun _ => by decide
  | 1 => exact fun _ => by decide
  | 2 => exact fun _ => by decide
  | 3 => exact fun _ => by decide
  | 4 => exact fun _ => by decide
  | 5 => exact fun _ => by decide
  | 6 => exact fun _ => by decide
  | 7 => exact fun _ => by decide
  | 8 => exact fun _ => by decide
  | 9 => exact fun _ => by decide
  | 10 => exact fun _ => by decide
  | 11 => exact fun _ => by decide
  | 12 => exact fun _ => by decide
  | 13 => exact fun _ => by decide
  | 14 => exact fun _ => by decide
  | 15 => exact fun _ => by decide
  | 16 => exact fun _ => by decide
  | 17 => exact fun h17 => absurd rfl h17
  | 18 => exact fun _ => by decide
  | 19 => exact fun _ => by decide
  | 20 => exact fun _ => by decide
  | 21 => exact fun _ => by decide
  | 22 => exact fun _ => by decide
  | 23 => exact fun _ => by decide
  | 24 => exact fun _ => by decide
  | 25 => exact fun _ => by decide
  | 26 => exact fun _ => by decide
  | 27 => exact fun _ => by decide
  | 28 => exact fun _ => by decide
  | 29 => exact fun _ => by decide
  | 30 => exact fun _ => by decide
  | n + 31 => exact fun _ => (by decide : 54 ∉ ([] : List Nat))
theorem nD_55 (k : Nat) : k ≠ 17 → 55 ∉ cDA k := by
  match k with
  | 0 => exact fun _ => by decide
  | 1 => exact fun _ => by decide
  | 2 => exact fun _ => by decide
  | 3 => exact fun _ => by decide
  | 4 => exact fun _ => by decide
  | 5 => exact fun _ => by decide
  | 6 => exact fun _ => by decide
  | 7 => exact fun _ => by decide
  | 8 => exact fun _ => by decide
  | 9 => exact fun _ => by decide
  | 10 => exact fun _ => by decide
  | 11 => exact fun _ => by decide
  | 12 => exact fun _ => by decide
  | 13 => exact fun _ => by decide
  | 14 => exact fun _ => by decide
  | 15 => exact fun _ => by decide
  | 16 => exact fun _ => by decide
  | 17 => exact fun h17 => absurd rfl h17
  | 18 => exact fun _ => by decide
  | 19 => exact fun _ => by decide
  | 20 => exact fun _ => by decide
  | 21 => exact fun _ => by decide
  | 22 => exact fun _ => by decide
  | 23 => exact fun _ => by decide
  | 24 => exact fun _ => by decide
  | 25 => exact fun _ => by decide
  | 26 => exact fun _ => by decide
  | 27 => exact fun _ => by decide
  | 28 => exact fun _ => by decide
  | 29 => exact fun _ => by decide
  | 30 => exact fun _ => by decide
  | n + 31 => exact fun _ => (by decide : 55 ∉ ([] : List Nat))
theorem nD_56 (k : Nat) : k ≠ 24 → 56 ∉ cDA k := by
  match k with
  | 0 => exact fun _ => by decide
  | 1 => exact fun _ => by decide
  | 2 => exact fun _ => by decide
  | 3 => exact fun _ => by decide
  | 4 => exact fun _ => by decide
  | 5 => exact fun _ => by decide
  | 6 => exact fun _ => by decide
  | 7 => exact fun _ => by decide
  | 8 => exact fun _ => by decide
  | 9 => exact fun _ => by decide
  | 10 => exact fun _ => by decide
  | 11 => exact fun _ => by decide
  | 12 => exact fun _ => by decide
  | 13 => exact fun _ => by decide
  | 14 => exact fun _ => by decide
  | 15 => exact fun _ => by decide
  | 16 => exact fun _ => by decide
  | 17 => exact fun _ => by decide
  | 18 => exact fun _ => by decide
  | 19 => exact fun _ => by decide
  | 20 => exact fun _ => by decide
  | 21 => exact fun _ => by decide
  | 22 => exact fun _ => by decide
  | 23 => exact fun _ => by decide
  | 24 => exact fun h24 => absurd rfl h24
  | 25 => exact fun _ => by decide
  | 26 => exact fun _ => by decide
  | 27 => exact fun _ => by decide
  | 28 => exact fun _ => by decide
  | 29 => exact fun _ => by decide
  | 30 => exact fun _ => by decide
  | n + 31 => exact fun _ => (by decide : 56 ∉ ([] : List Nat))
theorem nd_4 (k : Nat) : k ≠ 0 → 4 ∉ cD1 k := by
  match k with
  | 0 => exact fun h0 => absurd rfl h0
  | 1 => exact fun _ => by decide
  | 2 => exact fun _ => by decide
  | 3 => exact fun _ => by decide
  | 4 => exact fun _ => by decide
  | 5 => exact fun _ => by decide
  | 6 => exact fun _ => by decide
  | 7 => exact fun _ => by decide
  | 8 => exact fun _ => by decide
  | 9 => exact fun _ => by decide
  | 10 => exact fun _ => by decide
  | 11 => exact fun _ => by decide
  | 12 => exact fun _ => by decide
  | 13 => exact fun _ => by decide
  | 14 => exact fun _ => by decide
  | 15 => exact fun _ => by decide
  | 16 => exact fun _ => by decide
  | 17 => exact fun _ => by decide
  | 18 => exact fun _ => by decide
  | 19 => exact fun _ => by decide
  | 20 => exact fun _ => by decide
  | 21 => exact fun _ => by decide
  | 22 => exact fun _ => by decide
  | 23 => exact fun _ => by decide
  | 24 => exact fun _ => by decide
  | 25 => exact fun _ => by decide
  | 26 => exact fun _ => by decide
  | 27 => exact fun _ => by decide
  | 28 => exact fun _ => by decide
  | 29 => exact fun _ => by decide
  | 30 => exact fun _ => by decide
  | n + 31 => exact fun _ => (by decide : 4 ∉ ([] : List Nat))
theorem nd_6 (k : Nat) : k ≠ 5 → k ≠ 6 → 6 ∉ cD1 k := by
  match k with
  | 0 => exact fun _ _ => by decide
  | 1 => exact fun _ _ => by decide
  | 2 => exact fun _ _ => by decide
  | 3 => exact fun _ _ => by decide
  | 4 => exact fun _ _ => by decide
  | 5 => exact fun h5 h6 => absurd rfl h5
  | 6 => exact fun h5 h6 => absurd rfl h6
  | 7 => exact fun _ _ => by decide
  | 8 => exact fun _ _ => by decide
  | 9 => exact fun _ _ => by decide
  | 10 => exact fun _ _ => by decide
  | 11 => exact fun _ _ => by decide
  | 12 => exact fun _ _ => by decide
  | 13 => exact fun _ _ => by decide
  | 14 => exact fun _ _ => by decide
  | 15 => exact fun _ _ => by decide
  | 16 => exact fun _ _ => by decide
  | 17 => exact fun _ _ => by decide
  | 18 => exact fun _ _ => by decide
  | 19 => exact fun _ _ => by decide
  | 20 => exact fun _ _ => by decide
  | 21 => exact fun _ _ => by decide
  | 22 => exact fun _ _ => by decide
  | 23 => exact fun _ _ => by decide
  | 24 => exact fun _ _ => by decide
  | 25 => exact fun _ _ => by decide
  | 26 => exact fun _ _ => by decide
  | 27 => exact fun _ _ => by decide
  | 28 => exact fun _ _ => by decide
  | 29 => exact fun _ _ => by decide
  | 30 => exact fun _ _ => by decide
  | n + 31 => exact fun _ _ => (by decide : 6 ∉ ([] : List Nat))
theorem nd_57 (k : Nat) : k ≠ 0 → k ≠ 17 → k ≠ 22 → k ≠ 23 → k ≠ 24 → 57 ∉ cD1 k := by
  match k with
  | 0 => exact fun h0 h17 h22 h23 h24 => absurd rfl h0
  | 1 => exact fun _ _ _ _ _ => by decide
  | 2 => exact fun _ _ _ _ _ => by decide
  | 3 => exact fun _ _ _ _ _ => by decide
  | 4 => exact fun _ _ _ _ _ => by decide
  | 5 => exact fun _ _ _ _ _ => by decide
  | 6 => exact fun _ _ _ _ _ => by decide
  | 7 => exact fun _ _ _ _ _ => by decide
  | 8 => exact fun _ _ _ _ _ => by decide
  | 9 => exact fun _ _ _ _ _ => by decide
  | 10 => exact fun _ _ _ _ _ => by decide
  | 11 => exact fun _ _ _ _ _ => by decide
  | 12 => exact fun _ _ _ _ _ => by decide
  | 13 => exact fun _ _ _ _ _ => by decide
  | 14 => exact fun _ _ _ _ _ => by decide
  | 15 => exact fun _ _ _ _ _ => by decide
  | 16 => exact fun _ _ _ _ _ => by decide
  | 17 => exact fun h0 h17 h22 h23 h24 => absurd rfl h17
  | 18 => exact fun _ _ _ _ _ => by decide
  | 19 => exact fun _ _ _ _ _ => by decide
  | 20 => exact fun _ _ _ _ _ => by decide
  | 21 => exact fun _ _ _ _ _ => by decide
  | 22 => exact fun h0 h17 h22 h23 h24 => absurd rfl h22
  | 23 => exact fun h0 h17 h22 h23 h24 => absurd rfl h23
  | 24 => exact fun h0 h17 h22 h23 h24 => absurd rfl h24
  | 25 => exact fun _ _ _ _ _ => by decide
  | 26 => exact fun _ _ _ _ _ => by decide
  | 27 => exact fun _ _ _ _ _ => by decide
  | 28 => exact fun _ _ _ _ _ => by decide
  | 29 => exact fun _ _ _ _ _ => by decide
  | 30 => exact fun _ _ _ _ _ => by decide
  | n + 31 => exact fun _ _ _ _ _ => (by decide : 57 ∉ ([] : List Nat))
theorem nd_58 (k : Nat) : k ≠ 0 → k ≠ 17 → k ≠ 22 → k ≠ 23 → 58 ∉ cD1 k := by
  match k with
  | 0 => exact fun h0 h17 h22 h23 => absurd rfl h0
  | 1 => exact fun _ _ _ _ => by decide
  | 2 => exact fun _ _ _ _ => by decide
  | 3 => exact fun _ _ _ _ => by decide
  | 4 => exact fun _ _ _ _ => by decide
  | 5 => exact fun _ _ _ _ => by decide
  | 6 => exact fun _ _ _ _ => by decide
  | 7 => exact fun _ _ _ _ => by decide
  | 8 => exact fun _ _ _ _ => by decide
  | 9 => exact fun _ _ _ _ => by decide
  | 10 => exact fun _ _ _ _ => by decide
  | 11 => exact fun _ _ _ _ => by decide
  | 12 => exact fun _ _ _ _ => by decide
  | 13 => exact fun _ _ _ _ => by decide
  | 14 => exact fun _ _ _ _ => by decide
  | 15 => exact fun _ _ _ _ => by decide
  | 16 => exact fun _ _ _ _ => by decide
  | 17 => exact fun h0 h17 h22 h23 => absurd rfl h17
  | 18 => exact fun _ _ _ _ => by decide
  | 19 => exact fun _ _ _ _ => by decide
  | 20 => exact fun _ _ _ _ => by decide
  | 21 => exact fun _ _ _ _ => by decide
  | 22 => exact fun h0 h17 h22 h23 => absurd rfl h22
  | 23 => exact fun h0 h17 h22 h23 => absurd rfl h23
  | 24 => exact fun _ _ _ _ => by decide
  | 25 => exact fun _ _ _ _ => by decide
  | 26 => exact fun _ _ _ _ => by decide
  | 27 => exact fun _ _ _ _ => by decide
  | 28 => exact fun _ _ _ _ => by decide
  | 29 => exact fun _ _ _ _ => by decide
  | 30 => exact fun _ _ _ _ => by decide
  | n + 31 => exact fun _ _ _ _ => (by decide : 58 ∉ ([] : List Nat))
theorem nd_59 (k : Nat) : k ≠ 0 → k ≠ 24 → 59 ∉ cD1 k := by
  match k with
  | 0 => exact fun h0 h24 => absurd rfl h0
  | 1 => exact fun _ _ => by decide
  | 2 => exact fun _ _ => by decide
  | 3 => exact fun _ _ => by decide
  | 4 => exact fun _ _ => by decide
  | 5 => exact fun _ _ => by decide
  | 6 => exact fun _ _ => by decide
  | 7 => exact fun _ _ => by decide
  | 8 => exact fun _ _ => by decide
  | 9 => exact fun _ _ => by decide
  | 10 => exact fun _ _ => by decide
  | 11 => exact fun _ _ => by decide
  | 12 => exact fun _ _ => by decide
  | 13 => exact fun _ _ => by decide
  | 14 => exact fun _ _ => by decide
  | 15 => exact fun _ _ => by decide
  | 16 => exact fun _ _ => by decide
  | 17 => exact fun _ _ => by decide
  | 18 => exact fun _ _ => by decide
  | 19 => exact fun _ _ => by decide
  | 20 => exact fun _ _ => by decide
  | 21 => exact fun _ _ => by decide
  | 22 => exact fun _ _ => by decide
  | 23 => exact fun _ _ => by decide
  | 24 => exact fun h0 h24 => absurd rfl h24
  | 25 => exact fun _ _ => by decide
  | 26 => exact fun _ _ => by decide
  | 27 => exact fun _ _ => by decide
  | 28 => exact fun _ _ => by decide
  | 29 => exact fun _ _ => by decide
  | 30 => exact fun _ _ => by decide
  | n + 31 => exact fun _ _ => (by decide : 59 ∉ ([] : List Nat))
theorem nd_60 (k : Nat) : k ≠ 0 → 60 ∉ cD1 k := by
  match k with
  | 0 => exact fun h0 => absurd rfl h0
  | 1 => exact fun _ => by decide
  | 2 => exact fun _ => by decide
  | 3 => exact fun _ => by decide
  | 4 => exact fun _ => by decide
  | 5 => exact fun _ => by decide
  | 6 => exact fun _ => by decide
  | 7 => exact fun _ => by decide
  | 8 => exact fun _ => by decide
  | 9 => exact fun _ => by decide
  | 10 => exact fun _ => by decide
  | 11 => exact fun _ => by decide
  | 12 => exact fun _ => by decide
  | 13 => exact fun _ => by decide
  | 14 => exact fun _ => by decide
  | 15 => exact fun _ => by decide
  | 16 => exact fun _ => by decide
  | 17 => exact fun _ => by decide
  | 18 => exact fun _ => by decide
  | 19 => exact fun _ => by decide
  | 20 => exact fun _ => by decide
  | 21 => exact fun _ => by decide
  | 22 => exact fun _ => by decide
  | 23 => exact fun _ => by decide
  | 24 => exact fun _ => by decide
  | 25 => exact fun _ => by decide
  | 26 => exact fun _ => by decide
  | 27 => exact fun _ => by decide
  | 28 => exact fun _ => by decide
  | 29 => exact fun _ => by decide
  | 30 => exact fun _ => by decide
  | n + 31 => exact fun _ => (by decide : 60 ∉ ([] : List Nat))
theorem CI.puts1 {s' : MST} {k1 i1 : Nat} {e1 : kE} (hI : CI X σ s h) (hl : ∀ k i, clv s' k i ↔ clv s k i) (h1 : clv s k1 i1) (n1 : CP X σ s' k1 i1 e1) (ht : ∀ k i e, ¬ (k = k1 ∧ i = i1) → clv s k i → CP X σ s k i e → CP X σ s' k i e) : CS X σ s h s' (kput h (σ k1 i1) e1) :=
  CI.puts (l := [(k1, i1, e1)]) hI hl (fun p hp => by
    rcases List.mem_cons.mp hp with rfl | hp
    · exact ⟨h1, n1⟩
    · exact absurd hp (by simp)) (fun k i e hn hk hc => ht k i e (hn _ (List.mem_cons_self ..)) hk hc)
theorem CI.puts2 {s' : MST} {k1 i1 k2 i2 : Nat} {e1 e2 : kE} (hI : CI X σ s h) (hl : ∀ k i, clv s' k i ↔ clv s k i) (h1 : clv s k1 i1) (h2 : clv s k2 i2) (n1 : CP X σ s' k1 i1 e1) (n2 : CP X σ s' k2 i2 e2) (ht : ∀ k i e, ¬ (k = k1 ∧ i = i1) → ¬ (k = k2 ∧ i = i2) → clv s k i → CP X σ s k i e → CP X σ s' k i e) : CS X σ s h s' (kput (kput h (σ k1 i1) e1) (σ k2 i2) e2) :=
  CI.puts (l := [(k1, i1, e1), (k2, i2, e2)]) hI hl (fun p hp => by
    rcases List.mem_cons.mp hp with rfl | hp
    · exact ⟨h1, n1⟩
    · rcases List.mem_cons.mp hp with rfl | hp
      · exact ⟨h2, n2⟩
      · exact absurd hp (by simp)) (fun k i e hn hk hc => ht k i e (hn _ (List.mem_cons_self ..)) (hn _ (List.mem_cons_of_mem _ (List.mem_cons_self ..))) hk hc)
theorem CI.puts3 {s' : MST} {k1 i1 k2 i2 k3 i3 : Nat} {e1 e2 e3 : kE} (hI : CI X σ s h) (hl : ∀ k i, clv s' k i ↔ clv s k i) (h1 : clv s k1 i1) (h2 : clv s k2 i2) (h3 : clv s k3 i3) (n1 : CP X σ s' k1 i1 e1) (n2 : CP X σ s' k2 i2 e2) (n3 : CP X σ s' k3 i3 e3) (ht : ∀ k i e, ¬ (k = k1 ∧ i = i1) → ¬ (k = k2 ∧ i = i2) → ¬ (k = k3 ∧ i = i3) → clv s k i → CP X σ s k i e → CP X σ s' k i e) : CS X σ s h s' (kput (kput (kput h (σ k1 i1) e1) (σ k2 i2) e2) (σ k3 i3) e3) :=
  CI.puts (l := [(k1, i1, e1), (k2, i2, e2), (k3, i3, e3)]) hI hl (fun p hp => by
    rcases List.mem_cons.mp hp with rfl | hp
    · exact ⟨h1, n1⟩
    · rcases List.mem_cons.mp hp with rfl | hp
      · exact ⟨h2, n2⟩
      · rcases List.mem_cons.mp hp with rfl | hp
        · exact ⟨h3, n3⟩
        · exact absurd hp (by simp)) (fun k i e hn hk hc => ht k i e (hn _ (List.mem_cons_self ..)) (hn _ (List.mem_cons_of_mem _ (List.mem_cons_self ..))) (hn _ (List.mem_cons_of_mem _ (List.mem_cons_of_mem _ (List.mem_cons_self ..)))) hk hc)
theorem c_run2 (hI : CI X σ s h) {r : Nat} (hr : r < vI s 18) : ∃ (ks kp : Int32) (f g : Nat → Int32), h (σ 17 r) = some (rO (s.2.1 11 r) (s.2.1 12 r) (s.2.1 13 r) (s.2.1 16 r) (s.2.1 17 r) ks kp (σ 15 (vA s 11 r)) (σ 18 r) (σ 19 r) (σ 20 r) (σ 21 r) (σ 22 r) (σ 23 r)) ∧ h (σ 18 r) = some (kI (rsz s r) f) ∧ h (σ 19 r) = some (kI (rsz s r) g) ∧ (∀ j, j < rsz s r → f j = s.2.1 14 (25 * r + j)) ∧ (∀ j, j < rsz s r → g j = s.2.1 15 (25 * r + j)) ∧ (s.1 57 = nI 1 → r < vI s 58 → ks = s.2.1 54 r ∧ kp = s.2.1 55 r) := by
  obtain ⟨e, he, ks, kp, rfl, hk⟩ := hI.2 17 r hr
  obtain ⟨e1, he1, f, rfl, hf⟩ := hI.2 18 r hr
  obtain ⟨e2, he2, g, rfl, hg⟩ := hI.2 19 r hr
  exact ⟨ks, kp, f, g, he, he1, he2, hf, hg, hk⟩
/-- the cards of run r anew -/
theorem st14 (hI : CI X σ s h) (hV : MV s) {r : Nat} {F f' : Nat → Int32} (hr : r < vI s 18) (h1 : ∀ j, j < rsz s r → f' j = F (25 * r + j)) (h2 : ∀ q, (q < 25 * r ∨ 25 * r + rsz s r ≤ q) → F q = s.2.1 14 q) : CS X σ s h (sa s 14 F) (kput h (σ 18 r) (kI (rsz s r) f')) :=
  CI.puts1 hI clv_sa (k1 := 18) (i1 := r) hr ⟨f', rfl, h1⟩ (fun k i e hn hk hc => by
    by_cases q : k = 18
    · subst q
      obtain ⟨f, rfl, hf⟩ := hc
      refine ⟨f, rfl, fun j hj => (hf j hj).trans (h2 _ ?_).symm⟩
      have hir : i ≠ r := fun z => hn ⟨rfl, z⟩
      have h25 := rz25 hV (r := i) hk
      have h25r := rz25 hV hr
      have hj : j < rsz s i := hj
      omega
    · exact CP_sa (nD_14 k q) hc)
theorem st15 (hI : CI X σ s h) (hV : MV s) {r : Nat} {F f' : Nat → Int32} (hr : r < vI s 18) (h1 : ∀ j, j < rsz s r → f' j = F (25 * r + j)) (h2 : ∀ q, (q < 25 * r ∨ 25 * r + rsz s r ≤ q) → F q = s.2.1 15 q) : CS X σ s h (sa s 15 F) (kput h (σ 19 r) (kI (rsz s r) f')) :=
  CI.puts1 hI clv_sa (k1 := 19) (i1 := r) hr ⟨f', rfl, h1⟩ (fun k i e hn hk hc => by
    by_cases q : k = 19
    · subst q
      obtain ⟨f, rfl, hf⟩ := hc
      refine ⟨f, rfl, fun j hj => (hf j hj).trans (h2 _ ?_).symm⟩
      have hir : i ≠ r := fun z => hn ⟨rfl, z⟩
      have h25 := rz25 hV (r := i) hk
      have h25r := rz25 hV hr
      have hj : j < rsz s i := hj
      omega
    · exact CP_sa (nD_15 k q) hc)
/-- what run r says of itself anew -/
theorem st17 (hI : CI X σ s h) {r : Nat} {ks kp a b : Int32} (hr : r < vI s 18) (hk : s.1 57 = nI 1 → r < vI s 58 → ks = s.2.1 54 r ∧ kp = s.2.1 55 r) : CS X σ s h (sa (sa s 17 (upd (s.2.1 17) r b)) 16 (upd (s.2.1 16) r a)) (kput h (σ 17 r) (rO (s.2.1 11 r) (s.2.1 12 r) (s.2.1 13 r) a b ks kp (σ 15 (vA s 11 r)) (σ 18 r) (σ 19 r) (σ 20 r) (σ 21 r) (σ 22 r) (σ 23 r))) :=
  CI.puts1 hI (fun k i => (clv_sa k i).trans (clv_sa k i)) (k1 := 17) (i1 := r) hr ⟨ks, kp, by show _ = rO _ _ _ (upd (s.2.1 16) r a r) (upd (s.2.1 17) r b r) _ _ _ _ _ _ _ _ _; rw [pk_us, pk_us]; rfl, hk⟩ (fun k i e hn _ hc => by
    by_cases q : k = 17
    · subst q
      obtain ⟨k1, k2, rfl, hc⟩ := hc
      have hir : i ≠ r := fun z => hn ⟨rfl, z⟩
      refine ⟨k1, k2, ?_, hc⟩
      show _ = rO _ _ _ (upd (s.2.1 16) r a i) (upd (s.2.1 17) r b i) _ _ _ _ _ _ _ _ _
      rw [pk_un hir, pk_un hir]
      rfl
    · exact CP_sa (nD_16 k q) (CP_sa (nD_17 k q) hc))
theorem kne_up {σ : Nat → Nat → Nat} (hI : CI X σ s h) {k i k' i' : Nat} {e : kE} (h1 : clv s k i) (h2 : clv s k' i') (hn : ¬ (k = k' ∧ i = i')) : kput h (σ k i) e (σ k' i') = h (σ k' i') := kput_ne (fun z => hI.ne h2 h1 (fun q => hn ⟨q.1.symm, q.2.symm⟩) z)
end CPD

/-! ROWS OVER NUMBERS: ints that are nI of a number, longs that are lN of one, truth values -/
/-! plain facts on numbers and arrays, to paste: each family by itself; over the kit's rows on nI and upd -/
/-! ===== order of ints, in all its forms, and through longs ===== -/
theorem fa_lt (a b : Int32) : a < b ↔ a.toInt < b.toInt := Int32.lt_iff_toInt_lt
theorem fa_le (a b : Int32) : a ≤ b ↔ a.toInt ≤ b.toInt := Int32.le_iff_toInt_le
theorem fa_eq (a b : Int32) : a = b ↔ a.toInt = b.toInt := Int32.toInt_inj.symm
theorem fa_lt64 (a b : Int64) : a < b ↔ a.toInt < b.toInt := Int64.lt_iff_toInt_lt
theorem fa_le64 (a b : Int64) : a ≤ b ↔ a.toInt ≤ b.toInt := Int64.le_iff_toInt_le
theorem fa_eq64 (a b : Int64) : a = b ↔ a.toInt = b.toInt := Int64.toInt_inj.symm
/-- a comparison of two ints taken as longs -/
theorem fa_wide_lt (a b : Int32) : a.toInt64 < b.toInt64 ↔ a < b := by rw [fa_lt64, fa_lt, Int32.toInt_toInt64, Int32.toInt_toInt64]
theorem fa_wide_le (a b : Int32) : a.toInt64 ≤ b.toInt64 ↔ a ≤ b := by rw [fa_le64, fa_le, Int32.toInt_toInt64, Int32.toInt_toInt64]
theorem fa_wide_eq (a b : Int32) : a.toInt64 = b.toInt64 ↔ a = b := by rw [fa_eq64, fa_eq, Int32.toInt_toInt64, Int32.toInt_toInt64]
/-- one strict comparison gives all the others -/
theorem fa_of_lt {a b : Int32} (h : a < b) : a ≤ b ∧ ¬ b ≤ a ∧ ¬ b < a ∧ a ≠ b ∧ b ≠ a := by
  rw [fa_lt] at h
  refine ⟨?_, ?_, ?_, ?_, ?_⟩
  · rw [fa_le]; omega
  · rw [fa_le]; omega
  · rw [fa_lt]; omega
  · intro e; rw [fa_eq] at e; omega
  · intro e; rw [fa_eq] at e; omega
theorem fa_of_nlt {a b : Int32} (h : ¬ a < b) : b ≤ a := by
  rw [fa_lt] at h
  rw [fa_le]
  omega
theorem fa_of_nle {a b : Int32} (h : ¬ a ≤ b) : b < a := by
  rw [fa_le] at h
  rw [fa_lt]
  omega
theorem fa_le_ne {a b : Int32} (h : a ≤ b) (h2 : a ≠ b) : a < b := by
  rw [fa_le] at h
  rw [fa_lt]
  have h3 : a.toInt ≠ b.toInt := fun e => h2 ((fa_eq a b).mpr e)
  omega
theorem fa_three (a b : Int32) : a < b ∨ a = b ∨ b < a := by
  rw [fa_lt, fa_lt, fa_eq]
  omega
theorem fa_trans {a b c : Int32} (h : a < b) (h2 : b ≤ c) : a < c := by
  rw [fa_lt] at *
  rw [fa_le] at h2
  omega
/-! ===== small literals as numbers ===== -/
theorem fa_lit (n : Nat) : (OfNat.ofNat n : Int32) = nI n := rfl
theorem fa_litL (n : Nat) : (OfNat.ofNat n : Int64) = lN n := rfl
/-! ===== bits of a number: 'or', masks, one bit ===== -/
theorem fa_and (a b : Nat) : nI a &&& nI b = nI (a &&& b) := by
  apply Int32.toBitVec_inj.1
  show BitVec.ofNat 32 a &&& BitVec.ofNat 32 b = BitVec.ofNat 32 (a &&& b)
  apply BitVec.eq_of_getLsbD_eq
  intro i hi
  simp [hi]
theorem fa_or (a b : Nat) : nI a ||| nI b = nI (a ||| b) := by
  apply Int32.toBitVec_inj.1
  show BitVec.ofNat 32 a ||| BitVec.ofNat 32 b = BitVec.ofNat 32 (a ||| b)
  apply BitVec.eq_of_getLsbD_eq
  intro i hi
  simp [hi]
/-- a remainder by a power of two, as a mask -/
theorem fa_mask (n k : Nat) : nI n &&& nI (2 ^ k - 1) = nI (n % 2 ^ k) := by rw [fa_and, Nat.and_two_pow_sub_one_eq_mod]
/-- 'or' of a high part and a low one that don't meet is their sum -/
theorem fa_or_sum {a k : Nat} (b : Nat) (h : a < 2 ^ k) : nI (2 ^ k * b) ||| nI a = nI (2 ^ k * b + a) := by rw [fa_or, Nat.two_pow_add_eq_or_of_lt h]
/-- one bit, by 'and' with a power of two -/
theorem fa_bit {n j : Nat} (hj : j < 31) : nI n &&& nI (2 ^ j) = 0 ↔ n.testBit j = false := by
  have h2 : (2 : Nat) ^ j < 2 ^ 31 := Nat.pow_lt_pow_right (by decide) hj
  have hle : n &&& 2 ^ j ≤ 2 ^ j := Nat.and_le_right
  have e : n &&& 2 ^ j = 0 ↔ n.testBit j = false := by
    constructor
    · intro h
      have h1 : (n &&& 2 ^ j).testBit j = false := by rw [h]; simp
      rw [Nat.testBit_and] at h1
      first | simpa using h1 | simpa [Nat.testBit_two_pow_self] using h1 | simpa [Nat.testBit_two_pow] using h1
    · intro h
      apply Nat.eq_of_testBit_eq
      intro i
      rw [Nat.testBit_and]
      by_cases hi : j = i
      · subst hi; simp [h]
      · first | (simp [Nat.testBit_two_pow, hi]; done) | (simp [Nat.testBit_two_pow_of_ne hi]; done)
  rw [fa_and]
  constructor
  · intro h
    apply e.mp
    rcases Nat.eq_zero_or_pos (n &&& 2 ^ j) with z | z
    · exact z
    · exact absurd h (nI_ne0 z (Nat.lt_of_le_of_lt hle h2))
  · intro h
    rw [e.mpr h]; exact nI_0
/-- a remainder by a power of two of a number that isn't negative, as Java divides -/
theorem fa_rem {a k : Nat} (ha : a < 2 ^ 31) (hk : k < 31) : nI a - nI a / nI (2 ^ k) * nI (2 ^ k) = nI (a % 2 ^ k) := pk_rem ha (Nat.two_pow_pos k) (Nat.pow_lt_pow_right (by decide) hk)
/-! ===== cuts to a byte, a short ===== -/
theorem fa_byte_xor (x y : Int32) : (x ^^^ y).toInt8 = x.toInt8 ^^^ y.toInt8 := by
  apply Int8.toBitVec_inj.1
  apply BitVec.eq_of_getLsbD_eq
  intro i hi
  first | (simp [hi]; done) | (simp [hi, BitVec.getLsbD_setWidth, BitVec.getLsbD_signExtend]; done)
theorem fa_short_xor (x y : Int32) : (x ^^^ y).toInt16 = x.toInt16 ^^^ y.toInt16 := by
  apply Int16.toBitVec_inj.1
  apply BitVec.eq_of_getLsbD_eq
  intro i hi
  first | (simp [hi]; done) | (simp [hi, BitVec.getLsbD_setWidth, BitVec.getLsbD_signExtend]; done)
/-- the cut to a byte sees the low byte alone -/
theorem fa_byte_low (x : Int32) : (x &&& 255).toInt8 = x.toInt8 := by
  apply Int8.toBitVec_inj.1
  apply BitVec.eq_of_getLsbD_eq
  intro i hi
  have h2 : (255 : Int32).toBitVec.getLsbD i = true := by
    have : ∀ j : Fin 8, (255 : Int32).toBitVec.getLsbD j.val = true := by decide +kernel
    exact this ⟨i, hi⟩
  have h4 : (x &&& 255).toBitVec.getLsbD i = x.toBitVec.getLsbD i := by
    show (x.toBitVec &&& (255 : Int32).toBitVec).getLsbD i = _
    rw [BitVec.getLsbD_and, h2, Bool.and_true]
  have h3 : i < 32 := by omega
  first
    | (show (((x &&& 255).toBitVec).signExtend 8).getLsbD i = (x.toBitVec.signExtend 8).getLsbD i; rw [BitVec.getLsbD_signExtend, BitVec.getLsbD_signExtend, if_pos h3, if_pos h3, h4])
    | (show (((x &&& 255).toBitVec).setWidth 8).getLsbD i = (x.toBitVec.setWidth 8).getLsbD i; rw [BitVec.getLsbD_setWidth, BitVec.getLsbD_setWidth, h4])
    | (simp [hi, h3, h4]; done)
theorem fa_short_low (x : Int32) : (x &&& 65535).toInt16 = x.toInt16 := by
  apply Int16.toBitVec_inj.1
  apply BitVec.eq_of_getLsbD_eq
  intro i hi
  have h2 : (65535 : Int32).toBitVec.getLsbD i = true := by
    have : ∀ j : Fin 16, (65535 : Int32).toBitVec.getLsbD j.val = true := by decide +kernel
    exact this ⟨i, hi⟩
  have h4 : (x &&& 65535).toBitVec.getLsbD i = x.toBitVec.getLsbD i := by
    show (x.toBitVec &&& (65535 : Int32).toBitVec).getLsbD i = _
    rw [BitVec.getLsbD_and, h2, Bool.and_true]
  have h3 : i < 32 := by omega
  first
    | (show (((x &&& 65535).toBitVec).signExtend 16).getLsbD i = (x.toBitVec.signExtend 16).getLsbD i; rw [BitVec.getLsbD_signExtend, BitVec.getLsbD_signExtend, if_pos h3, if_pos h3, h4])
    | (show (((x &&& 65535).toBitVec).setWidth 16).getLsbD i = (x.toBitVec.setWidth 16).getLsbD i; rw [BitVec.getLsbD_setWidth, BitVec.getLsbD_setWidth, h4])
    | (simp [hi, h3, h4]; done)
/-- a small number is its own byte, its own short -/
theorem fa_byte_small {n : Nat} (h : n < 128) : (nI n).toInt8.toInt32 = nI n := by
  have : ∀ j : Fin 128, (nI j.val).toInt8.toInt32 = nI j.val := by decide +kernel
  exact this ⟨n, h⟩
/-! ===== absolute difference ===== -/
theorem fa_absdiff {a b : Nat} (ha : a < 2 ^ 31) (hb : b < 2 ^ 31) : (if nI a < nI b then nI b - nI a else nI a - nI b) = nI (if a < b then b - a else a - b) := by
  by_cases h : a < b
  · rw [if_pos (nI_lt h hb), if_pos h]
    exact pk_sub (Nat.le_of_lt h)
  · rw [if_neg (nI_nlt (Nat.le_of_not_lt h) ha), if_neg h]
    exact pk_sub (Nat.le_of_not_lt h)
/-! ===== an array behind i stores, a conditional store, a row copied ===== -/
/-- f where k < i, what stood there else -/
def fa_fill {α : Type} (f g : Nat → α) (i : Nat) : Nat → α := fun k => if k < i then f k else g k
theorem fa_fill_0 {α : Type} (f g : Nat → α) : fa_fill f g 0 = g := funext fun k => if_neg (Nat.not_lt_zero k)
theorem fa_fill_in {α : Type} {f g : Nat → α} {i k : Nat} (h : k < i) : fa_fill f g i k = f k := if_pos h
theorem fa_fill_out {α : Type} {f g : Nat → α} {i k : Nat} (h : i ≤ k) : fa_fill f g i k = g k := if_neg (Nat.not_lt.mpr h)
theorem fa_fill_succ (f g : Nat → Int32) (i : Nat) : upd (fa_fill f g i) i (f i) = fa_fill f g (i + 1) := by
  funext k
  by_cases e : k = i
  · subst e
    rw [pk_us]
    exact (if_pos (Nat.lt_succ_self k)).symm
  · rw [pk_un e]
    by_cases h : k < i
    · rw [fa_fill_in h, fa_fill_in (Nat.lt_succ_of_lt h)]
    · rw [fa_fill_out (Nat.le_of_not_lt h), fa_fill_out (by omega)]
/-- a store that changes nothing -/
theorem fa_upd_same {f : Nat → Int32} {i : Nat} {x : Int32} (h : f i = x) : upd f i x = f := by
  funext k
  by_cases e : k = i
  · subst e
    rw [pk_us, h]
  · rw [pk_un e]
/-- a store under a condition, told as one -/
theorem fa_upd_if (c : Prop) [Decidable c] (f : Nat → Int32) (i : Nat) (x : Int32) : (if c then upd f i x else f) = upd f i (if c then x else f i) := by
  by_cases h : c
  · rw [if_pos h, if_pos h]
  · rw [if_neg h, if_neg h, fa_upd_same rfl]
/-- two stores at one place, at two -/
theorem fa_upd_twice (f : Nat → Int32) (i : Nat) (x y : Int32) : upd (upd f i x) i y = upd f i y := by
  funext k
  by_cases e : k = i
  · subst e
    rw [pk_us, pk_us]
  · rw [pk_un e, pk_un e, pk_un e]
theorem fa_upd_swap (f : Nat → Int32) {i j : Nat} (h : i ≠ j) (x y : Int32) : upd (upd f i x) j y = upd (upd f j y) i x := by
  funext k
  by_cases e : k = i
  · subst e
    rw [pk_un h, pk_us, pk_us]
  · by_cases e2 : k = j
    · subst e2
      rw [pk_us, pk_un e, pk_us]
    · rw [pk_un e2, pk_un e, pk_un e, pk_un e2]
/-! ===== the first index with a property; a count ===== -/
/-- the first k < n with p k, n if there is none -/
def fa_first (p : Nat → Bool) : Nat → Nat
  | 0 => 0
  | n + 1 => if fa_first p n < n then fa_first p n else if p n then n else n + 1
theorem fa_first_le (p : Nat → Bool) : ∀ n, fa_first p n ≤ n
  | 0 => Nat.le_refl 0
  | n + 1 => by
    have ih := fa_first_le p n
    unfold fa_first
    split
    · omega
    · split
      · omega
      · omega
theorem fa_first_no (p : Nat → Bool) : ∀ n k, k < fa_first p n → p k = false
  | 0, k, h => absurd h (Nat.not_lt_zero k)
  | n + 1, k, h => by
    have ih := fa_first_no p n
    have hl := fa_first_le p n
    unfold fa_first at h
    split at h
    · exact ih k h
    · rename_i h1
      split at h
      · exact ih k (by omega)
      · rename_i h2
        by_cases e : k = n
        · subst e
          exact Bool.eq_false_iff.mpr h2
        · exact ih k (by omega)
theorem fa_first_yes (p : Nat → Bool) : ∀ n, fa_first p n < n → p (fa_first p n) = true
  | 0, h => absurd h (Nat.not_lt_zero _)
  | n + 1, h => by
    have ih := fa_first_yes p n
    have hl := fa_first_le p n
    unfold fa_first at h ⊢
    split at h
    · rename_i h1
      rw [if_pos h1]
      exact ih h1
    · rename_i h1
      rw [if_neg h1]
      split at h
      · rename_i h2
        rw [if_pos h2]
        exact h2
      · omega
/-- how many k < n have p k -/
def fa_cnt (p : Nat → Bool) : Nat → Nat
  | 0 => 0
  | n + 1 => fa_cnt p n + if p n then 1 else 0
theorem fa_cnt_le (p : Nat → Bool) : ∀ n, fa_cnt p n ≤ n
  | 0 => Nat.le_refl 0
  | n + 1 => by
    have ih := fa_cnt_le p n
    unfold fa_cnt
    split
    · omega
    · omega
theorem fa_cnt_yes {p : Nat → Bool} {n : Nat} (h : p n = true) : fa_cnt p (n + 1) = fa_cnt p n + 1 := by rw [fa_cnt, if_pos h]
theorem fa_cnt_no {p : Nat → Bool} {n : Nat} (h : p n = false) : fa_cnt p (n + 1) = fa_cnt p n := by rw [fa_cnt, if_neg (by rw [h]; decide)]; rfl
theorem fa_cnt_cong {p q : Nat → Bool} : ∀ {n : Nat}, (∀ k, k < n → p k = q k) → fa_cnt p n = fa_cnt q n
  | 0, _ => rfl
  | n + 1, h => by rw [fa_cnt, fa_cnt, fa_cnt_cong (fun k hk => h k (Nat.lt_succ_of_lt hk)), h n (Nat.lt_succ_self n)]
/-! ===== an answer carried into a post; a branch on a boolean answer ===== -/
theorem fa_post {α : Type} {P : α → Prop} {x y : α} (h : x = y) (hp : P y) : P x := h ▸ hp
theorem fa_post2 {α β : Type} {P : α → β → Prop} {x y : α} {u v : β} (h : x = y) (h2 : u = v) (hp : P y v) : P x u := h ▸ h2 ▸ hp
theorem fa_bool {r : Int32} {b : Bool} (h : r = if b then 1 else 0) : (r = 0 ↔ b = false) ∧ (¬ r = 0 ↔ b = true) := by
  subst h
  cases b
  · exact ⟨⟨fun _ => rfl, fun _ => rfl⟩, ⟨fun h => absurd rfl h, fun h => absurd h (by decide)⟩⟩
  · exact ⟨⟨fun h => absurd h (by decide), fun h => absurd h (by decide)⟩, ⟨fun _ => rfl, fun _ => by decide⟩⟩
/-- a boolean's narrowing changes nothing -/
theorem fa_bool_and {r : Int32} (h : r = 0 ∨ r = 1) : r &&& 1 = r := by
  rcases h with rfl | rfl
  · decide
  · decide
theorem fa_bool_prop {c : Prop} [Decidable c] {r : Int32} (h : r = if c then 1 else 0) : (r = 0 ↔ ¬ c) ∧ (¬ r = 0 ↔ c) := by
  subst h
  by_cases hc : c
  · rw [if_pos hc]
    exact ⟨⟨fun h => absurd h (by decide), fun h => absurd hc h⟩, ⟨fun _ => hc, fun _ => by decide⟩⟩
  · rw [if_neg hc]
    exact ⟨⟨fun _ => hc, fun _ => rfl⟩, ⟨fun h => absurd rfl h, fun h => absurd h hc⟩⟩

def bI (b : Bool) : Int32 := if b then 1 else 0
theorem bI_t {b : Bool} (h : b = true) : bI b = 1 := by subst h; rfl
theorem bI_f {b : Bool} (h : b = false) : bI b = 0 := by subst h; rfl
theorem bI_0 {b : Bool} : bI b = 0 ↔ b = false := by cases b <;> decide
theorem bI_nar (b : Bool) : narrow .boolean (.int (bI b)) = .int (bI b) := by cases b <;> decide +kernel
def inN (x : Int32) (n : Nat) : Bool := decide (0 ≤ x.toInt) && decide (x.toInt < n)
theorem inN_of {x : Int32} {n : Nat} (h : inN x n = true) (hn : n < 2147483648) : ∃ j : Nat, j < n ∧ x = nI j := by
  simp only [inN, Bool.and_eq_true, decide_eq_true_eq] at h
  exact vp_in_of (vp_in_iff.mpr h) hn
theorem inN_nI {j n : Nat} (hj : j < 2147483648) : inN (nI j) n = decide (j < n) := by
  rw [inN, nI_toInt hj]
  by_cases h : j < n
  · rw [decide_eq_true h, decide_eq_true (by omega : (j : Int) < n), decide_eq_true (by omega : (0 : Int) ≤ j)]; rfl
  · rw [decide_eq_false h, decide_eq_false (by omega : ¬ (j : Int) < n), Bool.and_false]
theorem ic_0 : Int32.ofInt 0 = nI 0 := by decide
theorem ic_1 : Int32.ofInt 1 = nI 1 := by decide
theorem ic_2 : Int32.ofInt 2 = nI 2 := by decide
theorem ic_3 : Int32.ofInt 3 = nI 3 := by decide
theorem ic_4 : Int32.ofInt 4 = nI 4 := by decide
theorem ic_5 : Int32.ofInt 5 = nI 5 := by decide
theorem ib_m100 : (Int8.ofInt (-100)).toInt32 = (-100) := by decide
theorem ib_m14 : (Int8.ofInt (-14)).toInt32 = (-14) := by decide
theorem ib_m13 : (Int8.ofInt (-13)).toInt32 = (-13) := by decide
theorem ib_m12 : (Int8.ofInt (-12)).toInt32 = (-12) := by decide
theorem ib_m11 : (Int8.ofInt (-11)).toInt32 = (-11) := by decide
theorem ib_m4 : (Int8.ofInt (-4)).toInt32 = (-4) := by decide
theorem ib_m3 : (Int8.ofInt (-3)).toInt32 = (-3) := by decide
theorem ib_m2 : (Int8.ofInt (-2)).toInt32 = (-2) := by decide
theorem ib_6 : (Int8.ofInt 6).toInt32 = nI 6 := by decide
theorem ib_8 : (Int8.ofInt 8).toInt32 = nI 8 := by decide
theorem ib_10 : (Int8.ofInt 10).toInt32 = nI 10 := by decide
theorem ib_11 : (Int8.ofInt 11).toInt32 = nI 11 := by decide
theorem ib_12 : (Int8.ofInt 12).toInt32 = nI 12 := by decide
theorem ib_13 : (Int8.ofInt 13).toInt32 = nI 13 := by decide
theorem ib_16 : (Int8.ofInt 16).toInt32 = nI 16 := by decide
theorem ib_20 : (Int8.ofInt 20).toInt32 = nI 20 := by decide
theorem ib_24 : (Int8.ofInt 24).toInt32 = nI 24 := by decide
theorem ib_25 : (Int8.ofInt 25).toInt32 = nI 25 := by decide
theorem ib_26 : (Int8.ofInt 26).toInt32 = nI 26 := by decide
theorem ib_31 : (Int8.ofInt 31).toInt32 = nI 31 := by decide
theorem ib_32 : (Int8.ofInt 32).toInt32 = nI 32 := by decide
theorem ib_40 : (Int8.ofInt 40).toInt32 = nI 40 := by decide
theorem ib_41 : (Int8.ofInt 41).toInt32 = nI 41 := by decide
theorem ib_42 : (Int8.ofInt 42).toInt32 = nI 42 := by decide
theorem ib_43 : (Int8.ofInt 43).toInt32 = nI 43 := by decide
theorem ib_45 : (Int8.ofInt 45).toInt32 = nI 45 := by decide
theorem ib_48 : (Int8.ofInt 48).toInt32 = nI 48 := by decide
theorem ib_50 : (Int8.ofInt 50).toInt32 = nI 50 := by decide
theorem ib_56 : (Int8.ofInt 56).toInt32 = nI 56 := by decide
theorem ib_57 : (Int8.ofInt 57).toInt32 = nI 57 := by decide
theorem ib_59 : (Int8.ofInt 59).toInt32 = nI 59 := by decide
theorem ib_60 : (Int8.ofInt 60).toInt32 = nI 60 := by decide
theorem ib_61 : (Int8.ofInt 61).toInt32 = nI 61 := by decide
theorem ib_97 : (Int8.ofInt 97).toInt32 = nI 97 := by decide
theorem ib_100 : (Int8.ofInt 100).toInt32 = nI 100 := by decide
theorem ib_122 : (Int8.ofInt 122).toInt32 = nI 122 := by decide
theorem is_160 : (Int16.ofInt 160).toInt32 = nI 160 := by decide
theorem is_161 : (Int16.ofInt 161).toInt32 = nI 161 := by decide
theorem is_255 : (Int16.ofInt 255).toInt32 = nI 255 := by decide
theorem is_400 : (Int16.ofInt 400).toInt32 = nI 400 := by decide
theorem is_676 : (Int16.ofInt 676).toInt32 = nI 676 := by decide
theorem is_960 : (Int16.ofInt 960).toInt32 = nI 960 := by decide
theorem is_1000 : (Int16.ofInt 1000).toInt32 = nI 1000 := by decide
theorem ic_m1 : Int32.ofInt (-1) = -1 := by decide
section NUM
variable {X : KX} {M : MX} {y : MethodName} {cc : ByteArray} {nL : Nat} {rt : Option FieldType} {pc : Nat} {L : List (Nat × Value)} {st : List Value} {h : AH} {uc us : Nat}
theorem a_topi {x z : Int32} (e : x = z) (k : AJ X M y cc nL rt pc L (.int z :: st) h uc us) : AJ X M y cc nL rt pc L (.int x :: st) h uc us := e ▸ k
theorem a_topl {x z : Int64} (e : x = z) (k : AJ X M y cc nL rt pc L (.long z :: st) h uc us) : AJ X M y cc nL rt pc L (.long x :: st) h uc us := e ▸ k
theorem a_topv {x z : Value} (e : x = z) (k : AJ X M y cc nL rt pc L (z :: st) h uc us) : AJ X M y cc nL rt pc L (x :: st) h uc us := e ▸ k
theorem a_2nd {w : Value} {x z : Int32} (e : x = z) (k : AJ X M y cc nL rt pc L (w :: .int z :: st) h uc us) : AJ X M y cc nL rt pc L (w :: .int x :: st) h uc us := e ▸ k
theorem a_iaddN {a b : Nat} (hd : decode cc pc = .ok (.iadd, 1))  (k : AJ X M y cc nL rt (pc + 1) L (.int (nI (a + b)) :: st) h uc us) : AJ X M y cc nL rt pc L (.int (nI b) :: .int (nI a) :: st) h uc us := a_iadd hd  (a_topi (nI_add a b) k)
theorem a_isubN {a b : Nat} (hd : decode cc pc = .ok (.isub, 1)) (hab : b ≤ a) (k : AJ X M y cc nL rt (pc + 1) L (.int (nI (a - b)) :: st) h uc us) : AJ X M y cc nL rt pc L (.int (nI b) :: .int (nI a) :: st) h uc us := a_isub hd  (a_topi (pk_sub hab) k)
theorem a_imulN {a b : Nat} (hd : decode cc pc = .ok (.imul, 1))  (k : AJ X M y cc nL rt (pc + 1) L (.int (nI (a * b)) :: st) h uc us) : AJ X M y cc nL rt pc L (.int (nI b) :: .int (nI a) :: st) h uc us := a_imul hd  (a_topi (pk_mul a b) k)
theorem a_idivN {a b : Nat} (hd : decode cc pc = .ok (.idiv, 1)) (ha : a < 2147483648) (h0 : 0 < b) (hb : b < 2147483648) (k : AJ X M y cc nL rt (pc + 1) L (.int (nI (a / b)) :: st) h uc us) : AJ X M y cc nL rt pc L (.int (nI b) :: .int (nI a) :: st) h uc us := a_idiv hd (nI_ne0 h0 hb) (a_topi (pk_div ha h0 hb) k)
theorem a_iremN {a b : Nat} (hd : decode cc pc = .ok (.irem, 1)) (ha : a < 2147483648) (h0 : 0 < b) (hb : b < 2147483648) (k : AJ X M y cc nL rt (pc + 1) L (.int (nI (a % b)) :: st) h uc us) : AJ X M y cc nL rt pc L (.int (nI b) :: .int (nI a) :: st) h uc us := a_irem hd (nI_ne0 h0 hb) (a_topi (pk_rem ha h0 hb) k)
theorem a_iincN {i n x : Nat} {z : Int} {L1 : List (Nat × Value)} (hd : decode cc pc = .ok (.iinc i z, 3)) (hz : Int32.ofInt z = nI n) (hk : L.lookup i = some (.int (nI x))) (hn : i < nL) (hl : lset1 L i (.int (nI (x + n))) = L1) (k : AJ X M y cc nL rt (pc + 3) L1 st h uc us) : AJ X M y cc nL rt pc L st h uc us := a_iinc hd hk (by rw [hz, nI_add]) hn hl k
theorem a_i2lN {a : Nat} (hd : decode cc pc = .ok (.i2l, 1)) (ha : a < 2147483648) (k : AJ X M y cc nL rt (pc + 1) L (.long (lN a) :: st) h uc us) : AJ X M y cc nL rt pc L (.int (nI a) :: st) h uc us := a_i2l hd (a_topl (nI_l ha) k)
theorem a_l2iN {a : Nat} (hd : decode cc pc = .ok (.l2i, 1)) (k : AJ X M y cc nL rt (pc + 1) L (.int (nI a) :: st) h uc us) : AJ X M y cc nL rt pc L (.long (lN a) :: st) h uc us := a_l2i hd (a_topi (lN_i a) k)
theorem lN_ne0 {n : Nat} (h0 : 0 < n) (h : n < 2 ^ 63) : ¬ lN n = 0 := by
  intro q
  have a := pk_lT h
  rw [q] at a
  have b : (0 : Int64).toInt = 0 := by decide
  omega
theorem a_laddN {a b : Nat} (hd : decode cc pc = .ok (.ladd, 1))  (k : AJ X M y cc nL rt (pc + 1) L (.long (lN (a + b)) :: st) h uc us) : AJ X M y cc nL rt pc L (.long (lN b) :: .long (lN a) :: st) h uc us := a_ladd hd  (a_topl (lN_add a b) k)
theorem a_lmulN {a b : Nat} (hd : decode cc pc = .ok (.lmul, 1))  (k : AJ X M y cc nL rt (pc + 1) L (.long (lN (a * b)) :: st) h uc us) : AJ X M y cc nL rt pc L (.long (lN b) :: .long (lN a) :: st) h uc us := a_lmul hd  (a_topl (lN_mul a b) k)
theorem a_lsubN {a b : Nat} (hd : decode cc pc = .ok (.lsub, 1)) (hab : b ≤ a) (k : AJ X M y cc nL rt (pc + 1) L (.long (lN (a - b)) :: st) h uc us) : AJ X M y cc nL rt pc L (.long (lN b) :: .long (lN a) :: st) h uc us := a_lsub hd  (a_topl (lN_sub hab) k)
theorem a_ldivN {a b : Nat} (hd : decode cc pc = .ok (.ldiv, 1)) (ha : a < 2 ^ 63) (h0 : 0 < b) (hb : b < 2 ^ 63) (k : AJ X M y cc nL rt (pc + 1) L (.long (lN (a / b)) :: st) h uc us) : AJ X M y cc nL rt pc L (.long (lN b) :: .long (lN a) :: st) h uc us := a_ldiv hd (lN_ne0 h0 hb) (a_topl (pk_lDiv ha h0 hb) k)
theorem a_lremN {a b : Nat} (hd : decode cc pc = .ok (.lrem, 1)) (ha : a < 2 ^ 63) (h0 : 0 < b) (hb : b < 2 ^ 63) (k : AJ X M y cc nL rt (pc + 1) L (.long (lN (a % b)) :: st) h uc us) : AJ X M y cc nL rt pc L (.long (lN b) :: .long (lN a) :: st) h uc us := a_lrem hd (lN_ne0 h0 hb) (a_topl (pk_lRem ha h0 hb) k)
theorem a_icmp_eqN {a b : Nat} {off : Int} {tgt : Nat} (hd : decode cc pc = .ok (.if_icmp .eq off, 3)) (ht : (pc : Int) + off = (tgt : Int)) (ha : a < 2147483648) (hb : b < 2147483648) (kt : a = b → AJ X M y cc nL rt tgt L st h uc us) (kf : ¬ a = b → AJ X M y cc nL rt (pc + 3) L st h uc us) : AJ X M y cc nL rt pc L (.int (nI b) :: .int (nI a) :: st) h uc us := a_icmp_eq hd ht (fun c => kt ((nI_eq ha hb).mp c)) (fun c => kf (fun z => c ((nI_eq ha hb).mpr z)))
theorem a_icmp_neN {a b : Nat} {off : Int} {tgt : Nat} (hd : decode cc pc = .ok (.if_icmp .ne off, 3)) (ht : (pc : Int) + off = (tgt : Int)) (ha : a < 2147483648) (hb : b < 2147483648) (kt : ¬ a = b → AJ X M y cc nL rt tgt L st h uc us) (kf : a = b → AJ X M y cc nL rt (pc + 3) L st h uc us) : AJ X M y cc nL rt pc L (.int (nI b) :: .int (nI a) :: st) h uc us := a_icmp_ne hd ht (fun c => kt (fun z => c ((nI_eq ha hb).mpr z))) (fun c => kf ((nI_eq ha hb).mp c))
theorem a_icmp_ltN {a b : Nat} {off : Int} {tgt : Nat} (hd : decode cc pc = .ok (.if_icmp .lt off, 3)) (ht : (pc : Int) + off = (tgt : Int)) (ha : a < 2147483648) (hb : b < 2147483648) (kt : a < b → AJ X M y cc nL rt tgt L st h uc us) (kf : b ≤ a → AJ X M y cc nL rt (pc + 3) L st h uc us) : AJ X M y cc nL rt pc L (.int (nI b) :: .int (nI a) :: st) h uc us := a_icmp_lt hd ht (fun c => kt ((nI_ltI ha hb).mp c)) (fun c => kf (Nat.not_lt.mp (fun z => c ((nI_ltI ha hb).mpr z))))
theorem a_icmp_geN {a b : Nat} {off : Int} {tgt : Nat} (hd : decode cc pc = .ok (.if_icmp .ge off, 3)) (ht : (pc : Int) + off = (tgt : Int)) (ha : a < 2147483648) (hb : b < 2147483648) (kt : b ≤ a → AJ X M y cc nL rt tgt L st h uc us) (kf : a < b → AJ X M y cc nL rt (pc + 3) L st h uc us) : AJ X M y cc nL rt pc L (.int (nI b) :: .int (nI a) :: st) h uc us := a_icmp_ge hd ht (fun c => kt ((nI_leI hb ha).mp c)) (fun c => kf (Nat.not_le.mp (fun z => c ((nI_leI hb ha).mpr z))))
theorem a_icmp_gtN {a b : Nat} {off : Int} {tgt : Nat} (hd : decode cc pc = .ok (.if_icmp .gt off, 3)) (ht : (pc : Int) + off = (tgt : Int)) (ha : a < 2147483648) (hb : b < 2147483648) (kt : b < a → AJ X M y cc nL rt tgt L st h uc us) (kf : a ≤ b → AJ X M y cc nL rt (pc + 3) L st h uc us) : AJ X M y cc nL rt pc L (.int (nI b) :: .int (nI a) :: st) h uc us := a_icmp_gt hd ht (fun c => kt ((nI_ltI hb ha).mp c)) (fun c => kf (Nat.not_lt.mp (fun z => c ((nI_ltI hb ha).mpr z))))
theorem a_icmp_leN {a b : Nat} {off : Int} {tgt : Nat} (hd : decode cc pc = .ok (.if_icmp .le off, 3)) (ht : (pc : Int) + off = (tgt : Int)) (ha : a < 2147483648) (hb : b < 2147483648) (kt : a ≤ b → AJ X M y cc nL rt tgt L st h uc us) (kf : b < a → AJ X M y cc nL rt (pc + 3) L st h uc us) : AJ X M y cc nL rt pc L (.int (nI b) :: .int (nI a) :: st) h uc us := a_icmp_le hd ht (fun c => kt ((nI_leI ha hb).mp c)) (fun c => kf (Nat.not_le.mp (fun z => c ((nI_leI ha hb).mpr z))))
theorem a_if_eqN {a : Nat} {off : Int} {tgt : Nat} (hd : decode cc pc = .ok (.ifCond .eq off, 3)) (ht : (pc : Int) + off = (tgt : Int)) (ha : a < 2147483648) (kt : a = 0 → AJ X M y cc nL rt tgt L st h uc us) (kf : 0 < a → AJ X M y cc nL rt (pc + 3) L st h uc us) : AJ X M y cc nL rt pc L (.int (nI a) :: st) h uc us := a_if_eq hd ht (fun c => kt ((nI_eq (b := 0) ha (by omega)).mp c)) (fun c => kf (Nat.pos_of_ne_zero (fun z => c ((nI_eq (b := 0) ha (by omega)).mpr z))))
theorem a_if_neN {a : Nat} {off : Int} {tgt : Nat} (hd : decode cc pc = .ok (.ifCond .ne off, 3)) (ht : (pc : Int) + off = (tgt : Int)) (ha : a < 2147483648) (kt : 0 < a → AJ X M y cc nL rt tgt L st h uc us) (kf : a = 0 → AJ X M y cc nL rt (pc + 3) L st h uc us) : AJ X M y cc nL rt pc L (.int (nI a) :: st) h uc us := a_if_ne hd ht (fun c => kt (Nat.pos_of_ne_zero (fun z => c ((nI_eq (b := 0) ha (by omega)).mpr z)))) (fun c => kf ((nI_eq (b := 0) ha (by omega)).mp c))
theorem a_if_ltN {a : Nat} {off : Int} {tgt : Nat} (hd : decode cc pc = .ok (.ifCond .lt off, 3)) (ht : (pc : Int) + off = (tgt : Int)) (ha : a < 2147483648) (kt : False → AJ X M y cc nL rt tgt L st h uc us) (kf : True → AJ X M y cc nL rt (pc + 3) L st h uc us) : AJ X M y cc nL rt pc L (.int (nI a) :: st) h uc us := a_if_lt hd ht (fun c => kt (nI_pos ha c)) (fun _ => kf trivial)
theorem a_if_geN {a : Nat} {off : Int} {tgt : Nat} (hd : decode cc pc = .ok (.ifCond .ge off, 3)) (ht : (pc : Int) + off = (tgt : Int)) (ha : a < 2147483648) (kt : True → AJ X M y cc nL rt tgt L st h uc us) (kf : False → AJ X M y cc nL rt (pc + 3) L st h uc us) : AJ X M y cc nL rt pc L (.int (nI a) :: st) h uc us := a_if_ge hd ht (fun _ => kt trivial) (fun c => kf (c (nI_pos' ha)))
theorem a_if_gtN {a : Nat} {off : Int} {tgt : Nat} (hd : decode cc pc = .ok (.ifCond .gt off, 3)) (ht : (pc : Int) + off = (tgt : Int)) (ha : a < 2147483648) (kt : 0 < a → AJ X M y cc nL rt tgt L st h uc us) (kf : a = 0 → AJ X M y cc nL rt (pc + 3) L st h uc us) : AJ X M y cc nL rt pc L (.int (nI a) :: st) h uc us := a_if_gt hd ht (fun c => kt ((nI_ltI (a := 0) (by omega) ha).mp c)) (fun c => kf (Nat.eq_zero_of_not_pos (fun z => c ((nI_ltI (a := 0) (by omega) ha).mpr z))))
theorem a_if_leN {a : Nat} {off : Int} {tgt : Nat} (hd : decode cc pc = .ok (.ifCond .le off, 3)) (ht : (pc : Int) + off = (tgt : Int)) (ha : a < 2147483648) (kt : a = 0 → AJ X M y cc nL rt tgt L st h uc us) (kf : 0 < a → AJ X M y cc nL rt (pc + 3) L st h uc us) : AJ X M y cc nL rt pc L (.int (nI a) :: st) h uc us := a_if_le hd ht (fun c => kt (Nat.le_zero.mp ((nI_leI (b := 0) ha (by omega)).mp c))) (fun c => kf (Nat.not_le.mp (fun z => c ((nI_leI (b := 0) ha (by omega)).mpr z))))
theorem a_if_eqB {b : Bool} {off : Int} {tgt : Nat} (hd : decode cc pc = .ok (.ifCond .eq off, 3)) (ht : (pc : Int) + off = (tgt : Int)) (kt : b = false → AJ X M y cc nL rt tgt L st h uc us) (kf : b = true → AJ X M y cc nL rt (pc + 3) L st h uc us) : AJ X M y cc nL rt pc L (.int (bI b) :: st) h uc us := a_if_eq hd ht (fun c => kt (bI_0.mp c)) (fun c => kf (by cases b; exact absurd rfl c; rfl))
theorem a_if_neB {b : Bool} {off : Int} {tgt : Nat} (hd : decode cc pc = .ok (.ifCond .ne off, 3)) (ht : (pc : Int) + off = (tgt : Int)) (kt : b = true → AJ X M y cc nL rt tgt L st h uc us) (kf : b = false → AJ X M y cc nL rt (pc + 3) L st h uc us) : AJ X M y cc nL rt pc L (.int (bI b) :: st) h uc us := a_if_ne hd ht (fun c => kt (by cases b; exact absurd rfl c; rfl)) (fun c => kf (bI_0.mp c))
theorem lg_s (a b : Int64) : (lg_cmp a b < 0 ↔ a < b) ∧ (0 ≤ lg_cmp a b ↔ b ≤ a) ∧ (0 < lg_cmp a b ↔ b < a) ∧ (lg_cmp a b ≤ 0 ↔ a ≤ b) ∧ (lg_cmp a b = 0 ↔ a = b) := by
  unfold lg_cmp
  simp only [gt_iff_lt, Int64.lt_iff_toInt_lt, Int64.le_iff_toInt_le, ← Int64.toInt_inj]
  repeat' split
  all_goals (refine ⟨?_, ?_, ?_, ?_, ?_⟩ <;> (constructor <;> intro q <;> first | omega | (revert q; decide) | (exfalso; revert q; decide) | decide))
theorem a_lif_lt {a b : Int64} {off : Int} {tgt : Nat} (hd0 : decode cc pc = .ok (.lcmp, 1)) (hd : decode cc (pc + 1) = .ok (.ifCond .lt off, 3)) (ht : ((pc + 1 : Nat) : Int) + off = (tgt : Int)) (kt : a < b → AJ X M y cc nL rt tgt L st h uc us) (kf : b ≤ a → AJ X M y cc nL rt (pc + 1 + 3) L st h uc us) : AJ X M y cc nL rt pc L (.long b :: .long a :: st) h uc us := a_lcmp hd0 (a_if_lt hd ht (fun c => kt ((lg_s a b).1.mp c)) (fun c => kf (Int64.not_lt.mp (fun z => c ((lg_s a b).1.mpr z)))))
theorem a_lif_ge {a b : Int64} {off : Int} {tgt : Nat} (hd0 : decode cc pc = .ok (.lcmp, 1)) (hd : decode cc (pc + 1) = .ok (.ifCond .ge off, 3)) (ht : ((pc + 1 : Nat) : Int) + off = (tgt : Int)) (kt : b ≤ a → AJ X M y cc nL rt tgt L st h uc us) (kf : a < b → AJ X M y cc nL rt (pc + 1 + 3) L st h uc us) : AJ X M y cc nL rt pc L (.long b :: .long a :: st) h uc us := a_lcmp hd0 (a_if_ge hd ht (fun c => kt ((lg_s a b).2.1.mp c)) (fun c => kf (Int64.not_le.mp (fun z => c ((lg_s a b).2.1.mpr z)))))
theorem a_lif_gt {a b : Int64} {off : Int} {tgt : Nat} (hd0 : decode cc pc = .ok (.lcmp, 1)) (hd : decode cc (pc + 1) = .ok (.ifCond .gt off, 3)) (ht : ((pc + 1 : Nat) : Int) + off = (tgt : Int)) (kt : b < a → AJ X M y cc nL rt tgt L st h uc us) (kf : a ≤ b → AJ X M y cc nL rt (pc + 1 + 3) L st h uc us) : AJ X M y cc nL rt pc L (.long b :: .long a :: st) h uc us := a_lcmp hd0 (a_if_gt hd ht (fun c => kt ((lg_s a b).2.2.1.mp c)) (fun c => kf (Int64.not_lt.mp (fun z => c ((lg_s a b).2.2.1.mpr z)))))
theorem a_lif_le {a b : Int64} {off : Int} {tgt : Nat} (hd0 : decode cc pc = .ok (.lcmp, 1)) (hd : decode cc (pc + 1) = .ok (.ifCond .le off, 3)) (ht : ((pc + 1 : Nat) : Int) + off = (tgt : Int)) (kt : a ≤ b → AJ X M y cc nL rt tgt L st h uc us) (kf : b < a → AJ X M y cc nL rt (pc + 1 + 3) L st h uc us) : AJ X M y cc nL rt pc L (.long b :: .long a :: st) h uc us := a_lcmp hd0 (a_if_le hd ht (fun c => kt ((lg_s a b).2.2.2.1.mp c)) (fun c => kf (Int64.not_le.mp (fun z => c ((lg_s a b).2.2.2.1.mpr z)))))
theorem a_lif_eq {a b : Int64} {off : Int} {tgt : Nat} (hd0 : decode cc pc = .ok (.lcmp, 1)) (hd : decode cc (pc + 1) = .ok (.ifCond .eq off, 3)) (ht : ((pc + 1 : Nat) : Int) + off = (tgt : Int)) (kt : a = b → AJ X M y cc nL rt tgt L st h uc us) (kf : ¬ a = b → AJ X M y cc nL rt (pc + 1 + 3) L st h uc us) : AJ X M y cc nL rt pc L (.long b :: .long a :: st) h uc us := a_lcmp hd0 (a_if_eq hd ht (fun c => kt ((lg_s a b).2.2.2.2.mp c)) (fun c => kf (fun z => c ((lg_s a b).2.2.2.2.mpr z))))
theorem a_lif_ne {a b : Int64} {off : Int} {tgt : Nat} (hd0 : decode cc pc = .ok (.lcmp, 1)) (hd : decode cc (pc + 1) = .ok (.ifCond .ne off, 3)) (ht : ((pc + 1 : Nat) : Int) + off = (tgt : Int)) (kt : ¬ a = b → AJ X M y cc nL rt tgt L st h uc us) (kf : a = b → AJ X M y cc nL rt (pc + 1 + 3) L st h uc us) : AJ X M y cc nL rt pc L (.long b :: .long a :: st) h uc us := a_lcmp hd0 (a_if_ne hd ht (fun c => kt (fun z => c ((lg_s a b).2.2.2.2.mpr z))) (fun c => kf ((lg_s a b).2.2.2.2.mp c)))
end NUM

/-! THE CLASS: THE SAME ODDS -/
section COI
variable {pk gu : Nat → Nat}
theorem sumN_z {f : Nat → Nat} {n : Nat} (h : ∀ k, k < n → f k = 0) : sumN f n = 0 := by
  induction n with
  | zero => rfl
  | succ n ih =>
    show sumN f n + f n = 0
    rw [ih (fun k hk => h k (by omega)), h n (by omega)]
theorem sumN_x {f : Nat → Nat} {a : Nat} : ∀ {b : Nat}, a ≤ b → (∀ k, a ≤ k → k < b → f k = 0) → sumN f b = sumN f a
  | 0, hab, _ => by rw [show a = 0 by omega]
  | b + 1, hab, h => by
    rcases Nat.lt_or_ge a (b + 1) with q | q
    · show sumN f b + f b = _
      rw [sumN_x (by omega) (fun k h1 h2 => h k h1 (by omega)), h b (by omega) (by omega), Nat.add_zero]
    · rw [show a = b + 1 by omega]
theorem sumN_hd {f : Nat → Nat} : ∀ n : Nat, sumN f (n + 1) = f 0 + sumN (fun k => f (k + 1)) n
  | 0 => by show 0 + f 0 = f 0 + 0; omega
  | n + 1 => by
    have h := sumN_hd (f := f) n
    show sumN f (n + 1) + f (n + 1) = f 0 + (sumN (fun k => f (k + 1)) n + f (n + 1))
    omega
theorem sumN_rev : ∀ (n : Nat) (f : Nat → Nat), sumN (fun k => f (n - k)) (n + 1) = sumN f (n + 1)
  | 0, f => rfl
  | n + 1, f => by
    have h := sumN_rev n f
    rw [sumN_hd (f := fun k => f (n + 1 - k)) (n + 1)]
    show f (n + 1 - 0) + sumN (fun k => f (n + 1 - (k + 1))) (n + 1) = sumN f (n + 1) + f (n + 1)
    rw [show (fun k => f (n + 1 - (k + 1))) = (fun k => f (n - k)) from funext (fun k => by rw [Nat.add_sub_add_right]), h]
    show f (n + 1) + _ = _
    omega
theorem bfN_s (j : Nat) : bfN pk (j + 1) = bfN pk j + pk j := rfl
theorem hN_z : ∀ (j m : Nat), bfN pk j < m → hN pk gu j m = 0
  | 0, m, h => by show (if m = 0 then 1 else 0) = 0; rw [if_neg (by omega)]
  | j + 1, m, h => sumN_z (fun k hk => by
    rw [bfN_s] at h
    unfold hW
    rw [if_neg (by intro z; have := Nat.min_le_left (pk j) (gu j); omega)])
def chA (C : Nat → Nat) (gu c more m n : Nat) : Nat := if n ≤ more then C (m - n) * binN gu n * bz c m (more - n) else 0
theorem chS_A {C : Nat → Nat} {gu c more m : Nat} : chS C gu c more m = sumN (chA C gu c more m) (m + 1) := by
  show sumN (chT C gu c more m) (min more m + 1) = _
  have hx : sumN (chA C gu c more m) (m + 1) = sumN (chA C gu c more m) (min more m + 1) := sumN_x (by omega) (fun k h1 h2 => if_neg (by omega))
  rw [hx]
  exact sumN_congr (fun k hk => (if_pos (by omega)).symm)
theorem ch_step {j m : Nat} : chS (hN pk gu j) (gu j) (bfN pk (j + 1)) (pk j) m = hN pk gu (j + 1) m := by
  rw [chS_A, ← sumN_rev]
  show _ = sumN (hW pk gu j (hN pk gu j) m) (bfN pk j + 1)
  have e1 : sumN (fun k => if k ≤ m then chA (hN pk gu j) (gu j) (bfN pk (j + 1)) (pk j) m (m - k) else 0) (m + 1 + bfN pk j) = sumN (fun k => chA (hN pk gu j) (gu j) (bfN pk (j + 1)) (pk j) m (m - k)) (m + 1) := by
    rw [sumN_x (a := m + 1) (by omega) (fun k h1 h2 => if_neg (by omega))]
    exact sumN_congr (fun k hk => if_pos (by omega))
  rw [← e1, sumN_x (a := bfN pk j + 1) (b := m + 1 + bfN pk j) (by omega) (fun k h1 h2 => by
    by_cases q : k ≤ m
    · rw [if_pos q]
      unfold chA
      by_cases q2 : m - k ≤ pk j
      · rw [if_pos q2, show m - (m - k) = k by omega, hN_z j k (by omega), Nat.zero_mul, Nat.zero_mul]
      · rw [if_neg q2]
    · rw [if_neg q])]
  refine sumN_congr (fun k hk => ?_)
  unfold hW
  by_cases q : k ≤ m
  · rw [if_pos q]
    unfold chA
    by_cases q2 : m - k ≤ pk j
    · rw [if_pos q2, show m - (m - k) = k by omega]
      unfold bz
      rw [if_pos (by rw [bfN_s]; omega)]
      by_cases q3 : m - k ≤ gu j
      · rw [if_pos ⟨q, by omega⟩]
      · rw [if_neg (by omega), binN_0 (by omega), Nat.mul_zero, Nat.zero_mul]
    · rw [if_neg q2, if_neg (by omega)]
  · rw [if_neg q, if_neg (by omega)]
theorem chN_hN : ∀ (j m : Nat), chN pk gu j m = hN pk gu j m
  | 0, m => rfl
  | j + 1, m => by
    have h : chN pk gu j = hN pk gu j := funext (fun m => chN_hN j m)
    show chS (chN pk gu j) (gu j) (bfN pk (j + 1)) (pk j) m = _
    rw [h, ch_step]
theorem hN_all : ∀ j : Nat, hN pk gu j 0 = allN pk j
  | 0 => rfl
  | j + 1 => by
    rw [← chN_hN]
    show sumN (chT (chN pk gu j) (gu j) (bfN pk (j + 1)) (pk j) 0) (min (pk j) 0 + 1) = allN pk j * binN (bfN pk (j + 1)) (pk j)
    rw [Nat.min_zero]
    show 0 + chN pk gu j (0 - 0) * binN (gu j) 0 * bz (bfN pk (j + 1)) 0 (pk j - 0) = _
    rw [Nat.zero_add, Nat.sub_zero, chN_hN, hN_all j, binN_z, Nat.mul_one]
    unfold bz
    rw [if_pos (Nat.zero_le _), Nat.sub_zero, Nat.sub_zero]
theorem lN_1m (x : Int64) : lN 1 * x = x := Int64.one_mul x
theorem exC_S {q : Nat} : ∀ n : Nat, exC (hN pk gu 5) q n = exS pk gu q n
  | 0 => rfl
  | n + 1 => by
    show exC (hN pk gu 5) q n + _ = exS pk gu q n + _
    rw [exC_S n]
    congr 1
    by_cases h : n % 2 = 0
    · rw [if_pos h, if_pos h, lN_1m]
      exact (lN_mul _ _).symm
    · rw [if_neg h, if_neg h, ← lN_mul, Int64.neg_mul, Int64.one_mul, Int64.neg_mul]
theorem exS_x {q a : Nat} (h : bfN pk 5 < q + a) : ∀ b : Nat, a ≤ b → exS pk gu q b = exS pk gu q a
  | 0, hab => by rw [show a = 0 by omega]
  | b + 1, hab => by
    rcases Nat.lt_or_ge a (b + 1) with z | z
    · show exS pk gu q b + _ = _
      rw [exS_x h b (by omega), hN_z 5 (q + b) (by omega), show lN 0 = 0 from rfl, Int64.mul_zero, Int64.add_zero]
    · rw [show a = b + 1 by omega]
theorem ex_all {q : Nat} (hb : bfN pk 5 ≤ 25) (hq : q ≤ 25) : exC (chN pk gu 5) q (26 - q) = exS pk gu q (bfN pk 5 + 1 - q) := by
  rw [show chN pk gu 5 = hN pk gu 5 from funext (fun m => chN_hN 5 m), exC_S]
  exact exS_x (by omega) _ (by omega)
theorem all_all : chN pk gu 5 0 = allN pk 5 := by rw [chN_hN, hN_all]
end COI

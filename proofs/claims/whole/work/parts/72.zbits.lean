/-! counting bits -/
theorem zland (x y : Nat) : nI x &&& nI y = nI (x &&& y) := by
  apply Int32.toBitVec_inj.mp
  exact (BitVec.ofNat_and (w := 32) (x := x) (y := y)).symm
def zpo : Nat → Nat → Nat
  | 0, _ => 0
  | f + 1, n => n % 2 + zpo f (n / 2)
def zbcA (n : Nat) : Nat := n - (n / 2 &&& 1431655765)
def zbcB (a : Nat) : Nat := (a &&& 858993459) + (a / 4 &&& 858993459)
def zbcC (b : Nat) : Nat := (b + b / 16) &&& 252645135
def zbcD (c : Nat) : Nat := c + c / 256
def zbcE (d : Nat) : Nat := d + d / 65536 &&& 63
theorem zbc_d : ∀ i, i < 128 → ∀ j, j < 256 → (fun n => zbcE (zbcD (zbcC (zbcB (zbcA n)))) = zpo 15 n) (256 * i + j) := by decide +kernel
theorem zbc_ok {n : Nat} (h : n < 32768) : zbcE (zbcD (zbcC (zbcB (zbcA n)))) = zpo 15 n := by
  have := zbc_d (n / 256) (by omega) (n % 256) (by omega)
  rw [show 256 * (n / 256) + n % 256 = n by omega] at this
  exact this
theorem zand1_f : ∀ f n, n < 2 ^ f → n ≠ 0 → zpo f n = zpo f (n &&& (n - 1)) + 1
  | 0, n, h, h0 => absurd (Nat.lt_one_iff.mp h) h0
  | f + 1, n, h, h0 => by
    have d2 : (n &&& (n - 1)) / 2 = n / 2 &&& (n - 1) / 2 := Nat.and_div_two
    have m2 : (n &&& (n - 1)) % 2 = 0 := by
      rcases Nat.mod_two_eq_zero_or_one (n &&& (n - 1)) with q | q
      · exact q
      · have := Nat.and_mod_two_eq_one.mp q
        omega
    show n % 2 + zpo f (n / 2) = (n &&& (n - 1)) % 2 + zpo f ((n &&& (n - 1)) / 2) + 1
    rw [m2, d2]
    rcases Nat.mod_two_eq_zero_or_one n with q | q
    · have e : (n - 1) / 2 = n / 2 - 1 := by omega
      have h2 : 2 ^ (f + 1) = 2 ^ f * 2 := Nat.pow_succ 2 f
      rw [e, q, zand1_f f (n / 2) (by omega) (by omega)]
      omega
    · have e : (n - 1) / 2 = n / 2 := by omega
      rw [e, q, Nat.and_self]
      omega
theorem zand1 {n : Nat} (h : n < 32768) (h0 : n ≠ 0) : zpo 15 n = zpo 15 (n &&& (n - 1)) + 1 := zand1_f 15 n h h0
theorem zpo_le : ∀ f n, zpo f n ≤ f
  | 0, _ => Nat.le_refl _
  | f + 1, n => by
    have := zpo_le f (n / 2)
    show n % 2 + zpo f (n / 2) ≤ f + 1
    omega

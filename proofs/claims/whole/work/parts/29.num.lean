/-! whole numbers: Int32 and Int64 of Nat, bits, powers modulo p -/
theorem q_nI (n : Nat) : Int32.ofInt (n : Int) = nI n := rfl
theorem q_and1 {a : Int} (h0 : 0 ≤ a) (h1 : a < 2147483648) : Int32.ofInt a &&& Int32.ofInt 1 = Int32.ofInt (a % 2) := by
  have e : a = ((a.toNat : Nat) : Int) := (Int.toNat_of_nonneg h0).symm
  rw [e, q_nI, pk_andN (n := a.toNat) (by omega) 1 (by decide)]
  rw [← q_nI]
  congr 1
theorem q_shr1 {a : Int} (h0 : 0 ≤ a) (h1 : a < 2147483648) : Int32.ofInt a >>> (Int32.ofInt 1 &&& 31) = Int32.ofInt (a / 2) := by
  have e : a = ((a.toNat : Nat) : Int) := (Int.toNat_of_nonneg h0).symm
  rw [e, q_nI, pk_shrN (n := a.toNat) (by omega) _ 1 (by decide)]
  rw [← q_nI]
  congr 1
theorem pw_mod (a b k p : Nat) : (a % p) * (b % p) ^ k % p = a * b ^ k % p := by
  rw [Nat.mul_mod, Nat.mod_mod, ← Nat.pow_mod, ← Nat.mul_mod]
theorem pw_odd {r s l p : Nat} (h : l % 2 = 1) : (r * s % p) * (s * s % p) ^ (l / 2) % p = r * s ^ l % p := by
  rw [pw_mod]
  congr 1
  have e : l = 2 * (l / 2) + 1 := by omega
  conv => rhs; rw [e, Nat.pow_succ, Nat.pow_mul, Nat.pow_two]
  rw [Nat.mul_assoc, Nat.mul_comm s]
theorem pw_even {r s l p : Nat} (h : l % 2 = 0) : r * (s * s % p) ^ (l / 2) % p = r * s ^ l % p := by
  rw [Nat.mul_mod, ← Nat.pow_mod, ← Nat.mul_mod]
  congr 2
  have e : l = 2 * (l / 2) := by omega
  conv => rhs; rw [e, Nat.pow_mul, Nat.pow_two]
theorem mul_lt_sq {a b p : Nat} (ha : a < p) (hb : b < p) (hp : p ≤ 100003) : a * b < 10000600009 := by
  have := Nat.mul_le_mul (show a ≤ 100002 by omega) (show b ≤ 100002 by omega)
  omega
theorem q_xorJ {a b : Int} (ha : RJ a) (hb : RJ b) (h0 : 0 ≤ b) : ((Int64.ofInt a ^^^ Int64.ofInt b).toInt < 0 ↔ a < 0) := by
  have e1 : (Int64.ofInt a).toInt = a := q_tJ2 ha
  have e2 : (Int64.ofInt b).toInt = b := q_tJ2 hb
  have m : ∀ x : Int64, x.toInt < 0 ↔ x.toBitVec.msb = true := by
    intro x
    rw [BitVec.msb_eq_toInt]
    exact decide_eq_true_iff.symm
  rw [m, Int64.toBitVec_xor, BitVec.msb_xor]
  have k2 : (Int64.ofInt b).toBitVec.msb = false := by
    cases h : (Int64.ofInt b).toBitVec.msb with
    | false => rfl
    | true =>
      have := (m _).mpr h
      omega
  rw [k2, Bool.xor_false, ← m, e1]

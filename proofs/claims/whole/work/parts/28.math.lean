/-! number theory: primes, Fermat, orders, primitive roots -/
def Pr (n : Nat) : Prop := 2 ≤ n ∧ ∀ d, d ∣ n → d = 1 ∨ d = n
theorem pr_div : ∀ (n : Nat), 2 ≤ n → ∃ r, Pr r ∧ r ∣ n := by
  intro n
  induction n using Nat.strongRecOn with
  | ind n ih =>
    intro h
    by_cases hp : ∀ d, d ∣ n → d = 1 ∨ d = n
    · exact ⟨n, ⟨h, hp⟩, Nat.dvd_refl n⟩
    · obtain ⟨d, hd⟩ := Classical.not_forall.mp hp
      obtain ⟨h1, h2⟩ := Classical.not_imp.mp hd
      have h3 := not_or.mp h2
      have h4 : d ≤ n := Nat.le_of_dvd (by omega) h1
      have h5 : d ≠ 0 := by
        intro e
        subst e
        have := Nat.eq_zero_of_zero_dvd h1
        omega
      obtain ⟨r, hr, hrd⟩ := ih d (by omega) (by omega)
      exact ⟨r, hr, Nat.dvd_trans hrd h1⟩
theorem pr_cop {r m : Nat} (hr : Pr r) (h : ¬ r ∣ m) : Nat.gcd r m = 1 := by
  rcases hr.2 _ (Nat.gcd_dvd_left r m) with e | e
  · exact e
  · exact absurd (e ▸ Nat.gcd_dvd_right r m) h
theorem pr_mul {r a b : Nat} (hr : Pr r) (h : r ∣ a * b) : r ∣ a ∨ r ∣ b := by
  by_cases ha : r ∣ a
  · exact Or.inl ha
  · exact Or.inr (Nat.Coprime.dvd_of_dvd_mul_left (pr_cop hr ha) h)
theorem pr_pow {r a : Nat} (hr : Pr r) : ∀ k, r ∣ a ^ k → r ∣ a
  | 0, h => by
    rw [Nat.pow_zero] at h
    have h2 := Nat.le_of_dvd Nat.one_pos h
    have h3 := hr.1
    omega
  | k + 1, h => by
    rw [Nat.pow_succ] at h
    rcases pr_mul hr h with h | h
    · exact pr_pow hr k h
    · exact h
theorem pr_eq {r q : Nat} (hr : Pr r) (hq : Pr q) (h : r ∣ q) : r = q := by
  rcases hq.2 r h with e | e
  · have := hr.1
    omega
  · exact e
/-- binomials -/
def ch : Nat → Nat → Nat
  | _, 0 => 1
  | 0, _ + 1 => 0
  | n + 1, k + 1 => ch n k + ch n (k + 1)
theorem ch_0 (n : Nat) : ch n 0 = 1 := by cases n <;> rfl
theorem ch_big : ∀ (n k : Nat), n < k → ch n k = 0
  | 0, 0, h => by omega
  | 0, _ + 1, _ => rfl
  | n + 1, 0, h => by omega
  | n + 1, k + 1, h => by
    show ch n k + ch n (k + 1) = 0
    rw [ch_big n k (by omega), ch_big n (k + 1) (by omega)]
theorem ch_self : ∀ n, ch n n = 1
  | 0 => rfl
  | n + 1 => by
    show ch n n + ch n (n + 1) = 1
    rw [ch_self n, ch_big n (n + 1) (by omega)]
theorem ch_abs : ∀ (n k : Nat), (k + 1) * ch (n + 1) (k + 1) = (n + 1) * ch n k
  | 0, 0 => rfl
  | 0, k + 1 => by
    show (k + 2) * (ch 0 (k + 1) + ch 0 (k + 2)) = 1 * ch 0 (k + 1)
    rfl
  | n + 1, 0 => by
    have h : 1 * ch (n + 1) 1 = (n + 1) * ch n 0 := ch_abs n 0
    show 1 * (ch (n + 1) 0 + ch (n + 1) 1) = (n + 2) * ch (n + 1) 0
    rw [ch_0] at h ⊢
    omega
  | n + 1, k + 1 => by
    have h1 := ch_abs n k
    have h2 := ch_abs n (k + 1)
    show (k + 2) * (ch (n + 1) (k + 1) + ch (n + 1) (k + 2)) = (n + 2) * ch (n + 1) (k + 1)
    have e1 : ch (n + 1) (k + 1) = ch n k + ch n (k + 1) := rfl
    rw [Nat.mul_add, h2]
    have e2 : (k + 2) * ch (n + 1) (k + 1) = (k + 1) * ch (n + 1) (k + 1) + ch (n + 1) (k + 1) := by
      rw [show k + 2 = (k + 1) + 1 from rfl, Nat.add_mul, Nat.one_mul]
    rw [e2, h1]
    have e3 : (n + 2) * ch (n + 1) (k + 1) = (n + 1) * ch (n + 1) (k + 1) + ch (n + 1) (k + 1) := by
      rw [show n + 2 = (n + 1) + 1 from rfl, Nat.add_mul, Nat.one_mul]
    have e4 : (n + 1) * ch (n + 1) (k + 1) = (n + 1) * ch n k + (n + 1) * ch n (k + 1) := by
      rw [e1, Nat.mul_add]
    omega
def bs (a n : Nat) : Nat → Nat
  | 0 => 0
  | m + 1 => bs a n m + ch n m * a ^ m
theorem bs_step (a n : Nat) : ∀ m, bs a (n + 1) (m + 1) = bs a n (m + 1) + a * bs a n m
  | 0 => by
    show 0 + ch (n + 1) 0 * a ^ 0 = 0 + ch n 0 * a ^ 0 + a * 0
    rw [ch_0, ch_0]
    rfl
  | m + 1 => by
    show bs a (n + 1) (m + 1) + (ch n m + ch n (m + 1)) * a ^ (m + 1) = bs a n (m + 1) + ch n (m + 1) * a ^ (m + 1) + a * (bs a n m + ch n m * a ^ m)
    rw [bs_step a n m, Nat.add_mul, Nat.mul_add]
    have e : ch n m * a ^ (m + 1) = a * (ch n m * a ^ m) := by
      rw [Nat.pow_succ, ← Nat.mul_assoc, Nat.mul_comm]
    omega
theorem bs_big (a n : Nat) : ∀ k, bs a n (n + 1 + k) = bs a n (n + 1)
  | 0 => rfl
  | k + 1 => by
    show bs a n (n + 1 + k) + ch n (n + 1 + k) * _ = _
    rw [ch_big n (n + 1 + k) (by omega), Nat.zero_mul, Nat.add_zero, bs_big a n k]
theorem bs_pow (a : Nat) : ∀ n, (a + 1) ^ n = bs a n (n + 1)
  | 0 => by
    show 1 = 0 + ch 0 0 * a ^ 0
    rfl
  | n + 1 => by
    rw [bs_step, Nat.pow_succ, bs_pow a n]
    have e : bs a n (n + 1 + 1) = bs a n (n + 1) := bs_big a n 1
    rw [e, Nat.mul_add, Nat.mul_one, Nat.mul_comm a, Nat.add_comm]
theorem ch_pr {p k : Nat} (hp : Pr p) (h0 : 0 < k) (h1 : k < p) : p ∣ ch p k := by
  obtain ⟨p', rfl⟩ : ∃ p', p = p' + 1 := ⟨p - 1, by have := hp.1; omega⟩
  obtain ⟨k', rfl⟩ : ∃ k', k = k' + 1 := ⟨k - 1, by omega⟩
  have h := ch_abs p' k'
  have h2 : p' + 1 ∣ (k' + 1) * ch (p' + 1) (k' + 1) := by rw [h]; exact Nat.dvd_mul_right _ _
  rcases pr_mul hp h2 with h3 | h3
  · have := Nat.le_of_dvd (by omega) h3
    omega
  · exact h3
theorem bs_pr {p a : Nat} (hp : Pr p) : ∀ m, m < p → bs a p (m + 1) % p = 1 % p
  | 0, _ => by
    show (0 + ch p 0 * a ^ 0) % p = _
    rw [ch_0]
    simp
  | m + 1, h => by
    show (bs a p (m + 1) + ch p (m + 1) * a ^ (m + 1)) % p = _
    obtain ⟨c, hc⟩ := ch_pr hp (show 0 < m + 1 by omega) h
    rw [hc, Nat.mul_assoc, Nat.add_mul_mod_self_left, bs_pr hp m (by omega)]
theorem fermat0 {p : Nat} (hp : Pr p) : ∀ a, a ^ p % p = a % p
  | 0 => by
    have := hp.1
    rw [Nat.zero_pow (by omega)]
  | a + 1 => by
    have h2 := hp.1
    rw [bs_pow]
    obtain ⟨p', e⟩ : ∃ p', p = p' + 1 := ⟨p - 1, by omega⟩
    have h3 : bs a p (p + 1) = bs a p p + ch p p * a ^ p := rfl
    rw [h3, ch_self, Nat.one_mul, Nat.add_mod, fermat0 hp a]
    have h4 : bs a p p % p = 1 % p := by
      have := bs_pr (a := a) hp p' (by omega)
      rw [← e] at this
      exact this
    rw [h4, ← Nat.add_mod, Nat.add_comm]
theorem dvd_of_mod {p x y : Nat} (h : x % p = y % p) : p ∣ y - x := Nat.dvd_of_mod_eq_zero (Nat.sub_mod_eq_zero_of_mod_eq h.symm)
theorem mod_of_dvd {p x y : Nat} (hl : x ≤ y) (h : p ∣ y - x) : x % p = y % p := by
  obtain ⟨c, hc⟩ := h
  have e : y = x + p * c := by omega
  rw [e, Nat.add_mul_mod_self_left]
theorem cancel {p a x y : Nat} (hp : Pr p) (ha : ¬ p ∣ a) (h : a * x % p = a * y % p) : x % p = y % p := by
  rcases Nat.le_total x y with hl | hl
  · have h1 : p ∣ a * y - a * x := dvd_of_mod h
    rw [← Nat.mul_sub] at h1
    rcases pr_mul hp h1 with h2 | h2
    · exact absurd h2 ha
    · exact mod_of_dvd hl h2
  · have h1 : p ∣ a * x - a * y := dvd_of_mod h.symm
    rw [← Nat.mul_sub] at h1
    rcases pr_mul hp h1 with h2 | h2
    · exact absurd h2 ha
    · exact (mod_of_dvd hl h2).symm
theorem fermat {p a : Nat} (hp : Pr p) (ha : ¬ p ∣ a) : a ^ (p - 1) % p = 1 := by
  have h2 := hp.1
  have h := fermat0 hp a
  have e : a ^ p = a * a ^ (p - 1) := by
    rw [← Nat.pow_succ']
    congr 1
    omega
  rw [e] at h
  have h3 := cancel hp ha (h.trans (by rw [Nat.mul_one]) : a * a ^ (p - 1) % p = a * 1 % p)
  rw [h3, Nat.mod_eq_of_lt (by omega)]

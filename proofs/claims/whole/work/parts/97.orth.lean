/-! sums and congruences modulo a prime; the transforms' orthogonality -/
def SM (h : Nat → Int) : Nat → Int
  | 0 => 0
  | m + 1 => SM h m + h m
theorem SM_cong {f h : Nat → Int} : ∀ m : Nat, (∀ i, i < m → f i = h i) → SM f m = SM h m
  | 0, _ => rfl
  | m + 1, e => by
    show SM f m + f m = SM h m + h m
    rw [SM_cong m (fun i hi => e i (by omega)), e m (by omega)]
theorem SM_add {f h : Nat → Int} : ∀ m : Nat, SM (fun i => f i + h i) m = SM f m + SM h m
  | 0 => rfl
  | m + 1 => by
    show SM (fun i => f i + h i) m + (f m + h m) = (SM f m + f m) + (SM h m + h m)
    rw [SM_add m]
    omega
theorem SM_mul {c : Int} {f : Nat → Int} : ∀ m : Nat, SM (fun i => c * f i) m = c * SM f m
  | 0 => (Int.mul_zero c).symm
  | m + 1 => by
    show SM (fun i => c * f i) m + c * f m = c * (SM f m + f m)
    rw [SM_mul m, Int.mul_add]
theorem SM_zero : ∀ m : Nat, SM (fun _ => 0) m = 0
  | 0 => rfl
  | m + 1 => by
    show SM (fun _ => 0) m + 0 = 0
    rw [SM_zero m]
    rfl
theorem SM_swap {F : Nat → Nat → Int} (n : Nat) : ∀ m : Nat, SM (fun i => SM (fun j => F i j) n) m = SM (fun j => SM (fun i => F i j) m) n
  | 0 => (SM_zero n).symm
  | m + 1 => by
    show SM (fun i => SM (fun j => F i j) n) m + SM (fun j => F m j) n = SM (fun j => SM (fun i => F i j) m + F m j) n
    rw [SM_swap n m, SM_add]
theorem SM_front {h : Nat → Int} : ∀ m : Nat, SM h (m + 1) = h 0 + SM (fun i => h (i + 1)) m
  | 0 => by
    show 0 + h 0 = h 0 + 0
    omega
  | m + 1 => by
    show SM h (m + 1) + h (m + 1) = h 0 + (SM (fun i => h (i + 1)) m + h (m + 1))
    rw [SM_front m]
    omega
theorem sfx_SM {f : Int → Int} {x : Int} : ∀ (m : Nat) (j : Int), sfx f x m j = SM (fun i => f (j + (i : Int)) * x ^ i) m
  | 0, _ => rfl
  | m + 1, j => by
    show f j + x * sfx f x m (j + 1) = _
    rw [SM_front, sfx_SM m (j + 1), ← SM_mul]
    congr 1
    · show f j = f (j + ((0 : Nat) : Int)) * x ^ 0
      rw [Int.pow_zero, Int.mul_one]
      congr 1
      omega
    · refine SM_cong m (fun i _ => ?_)
      show x * (f (j + 1 + (i : Int)) * x ^ i) = f (j + ((i + 1 : Nat) : Int)) * x ^ (i + 1)
      rw [show j + ((i + 1 : Nat) : Int) = j + 1 + (i : Int) by omega, Int.pow_succ]
      grind
/-- congruence modulo p -/
def Cg (p : Nat) (x y : Int) : Prop := (p : Int) ∣ x - y
theorem Cg.refl {p : Nat} (x : Int) : Cg p x x := ⟨0, by omega⟩
theorem Cg.of {p : Nat} {x y : Int} (h : x = y) : Cg p x y := h ▸ Cg.refl x
theorem Cg.symm {p : Nat} {x y : Int} (h : Cg p x y) : Cg p y x := by
  obtain ⟨c, hc⟩ := h
  exact ⟨-c, by rw [Int.mul_neg, ← hc]; omega⟩
theorem Cg.trans {p : Nat} {x y z : Int} (h : Cg p x y) (h2 : Cg p y z) : Cg p x z := by
  obtain ⟨c, hc⟩ := h
  obtain ⟨d, hd⟩ := h2
  exact ⟨c + d, by rw [Int.mul_add, ← hc, ← hd]; omega⟩
theorem Cg.add {p : Nat} {x y z w : Int} (h : Cg p x y) (h2 : Cg p z w) : Cg p (x + z) (y + w) := by
  obtain ⟨c, hc⟩ := h
  obtain ⟨d, hd⟩ := h2
  exact ⟨c + d, by rw [Int.mul_add, ← hc, ← hd]; omega⟩
theorem Cg.mul {p : Nat} {x y z w : Int} (h : Cg p x y) (h2 : Cg p z w) : Cg p (x * z) (y * w) := by
  obtain ⟨c, hc⟩ := h
  obtain ⟨d, hd⟩ := h2
  exact ⟨c * z + y * d, by grind⟩
theorem Cg.pow {p : Nat} {x y : Int} (h : Cg p x y) : ∀ n : Nat, Cg p (x ^ n) (y ^ n)
  | 0 => by
    rw [Int.pow_zero, Int.pow_zero]
    exact Cg.refl _
  | n + 1 => by
    rw [Int.pow_succ, Int.pow_succ]
    exact (Cg.pow h n).mul h
theorem Cg.mod {p : Nat} (x : Int) : Cg p (x % (p : Int)) x := ⟨-(x / (p : Int)), by have := Int.mul_ediv_add_emod x (p : Int); rw [Int.mul_neg]; omega⟩
theorem Cg.eq {p : Nat} {x y : Int} (h : Cg p x y) : x % (p : Int) = y % (p : Int) := Int.emod_eq_emod_iff_emod_sub_eq_zero.mpr (Int.emod_eq_zero_of_dvd h)
theorem Cg.of_eq {p : Nat} {x y : Int} (h : x % (p : Int) = y % (p : Int)) : Cg p x y := Int.dvd_of_emod_eq_zero (Int.emod_eq_emod_iff_emod_sub_eq_zero.mp h)
theorem Cg.sm {p : Nat} {f h : Nat → Int} : ∀ m : Nat, (∀ i, i < m → Cg p (f i) (h i)) → Cg p (SM f m) (SM h m)
  | 0, _ => Cg.refl _
  | m + 1, e => (Cg.sm m (fun i hi => e i (by omega))).add (e m (by omega))
theorem Cg.nat {p x y : Nat} (h : x % p = y % p) : Cg p (x : Int) (y : Int) := Cg.of_eq (by omega)
theorem Cg.nmod {p : Nat} (x : Nat) : Cg p ((x % p : Nat) : Int) (x : Int) := Cg.nat (Nat.mod_mod x p)
theorem geo {z : Int} : ∀ L : Nat, (z - 1) * SM (fun j => z ^ j) L = z ^ L - 1
  | 0 => by
    show (z - 1) * 0 = z ^ 0 - 1
    rw [Int.pow_zero, Int.mul_zero]
    rfl
  | L + 1 => by
    show (z - 1) * (SM (fun j => z ^ j) L + z ^ L) = z ^ (L + 1) - 1
    rw [Int.mul_add, geo L, Int.pow_succ]
    grind
theorem geo0 {p L : Nat} {z : Int} (hp : Pr p) (h1 : Cg p (z ^ L) 1) (h2 : ¬ Cg p z 1) : Cg p (SM (fun j => z ^ j) L) 0 := by
  have h3 : (p : Int) ∣ (z - 1) * SM (fun j => z ^ j) L := by
    rw [geo]
    exact h1
  rcases int_pr_mul hp h3 with h | h
  · exact absurd h h2
  · exact (show (p : Int) ∣ SM (fun j => z ^ j) L - 0 by rw [Int.sub_zero]; exact h)
theorem SM_one : ∀ L : Nat, SM (fun _ => 1) L = (L : Int)
  | 0 => rfl
  | L + 1 => by
    show SM (fun _ => 1) L + 1 = _
    rw [SM_one L]
    omega
theorem Cg.one_pow {p : Nat} {x : Int} (h : Cg p x 1) (n : Nat) : Cg p (x ^ n) 1 := by
  have := h.pow n
  rw [Int.one_pow] at this
  exact this
/-- a root of order L with its inverse -/
def RtOk (p L : Nat) (w r : Int) : Prop := Cg p (w ^ L) 1 ∧ Cg p (w * r) 1 ∧ ∀ d : Nat, 0 < d → d < L → ¬ Cg p (w ^ d) 1
theorem rt_term {p L : Nat} {w r : Int} (h : RtOk p L w r) (n : Nat) : Cg p (w ^ n * r ^ n) 1 := by
  rw [← Int.mul_pow]
  exact h.2.1.one_pow n
theorem orth {p L : Nat} {w r : Int} (hp : Pr p) (h : RtOk p L w r) {e k : Nat} (h1 : e < k + 2 * L) (h2 : k < e + L) : Cg p (SM (fun j => w ^ (j * e) * r ^ (j * k)) L) (if e = k ∨ e = k + L then (L : Int) else 0) := by
  have hr : Cg p (r ^ L) 1 := by
    have h3 := rt_term h L
    have h4 := h.1.mul (Cg.refl (r ^ L))
    rw [Int.one_mul] at h4
    exact h4.symm.trans h3
  by_cases c1 : e = k
  · rw [if_pos (Or.inl c1), ← SM_one L]
    refine Cg.sm L (fun j _ => ?_)
    rw [c1]
    exact rt_term h (j * k)
  · by_cases c2 : e = k + L
    · rw [if_pos (Or.inr c2), ← SM_one L]
      refine Cg.sm L (fun j _ => ?_)
      have e1 : w ^ (j * e) * r ^ (j * k) = (w ^ (j * k) * r ^ (j * k)) * (w ^ L) ^ j := by
        rw [c2, Nat.mul_add, Int.pow_add, ← Int.pow_mul, Nat.mul_comm L j]
        grind
      rw [e1]
      have := (rt_term h (j * k)).mul (h.1.one_pow j)
      rw [Int.one_mul] at this
      exact this
    · rw [if_neg (by omega)]
      rcases Nat.lt_or_ge e k with z | z
      · have hz : Cg p (SM (fun j => w ^ (j * e) * r ^ (j * k)) L) (SM (fun j => (r ^ (k - e)) ^ j) L) := by
          refine Cg.sm L (fun j _ => ?_)
          have e1 : w ^ (j * e) * r ^ (j * k) = (w ^ (j * e) * r ^ (j * e)) * (r ^ (k - e)) ^ j := by
            rw [show j * k = j * e + (k - e) * j by rw [Nat.mul_comm (k - e) j, ← Nat.mul_add]; congr 1; omega, Int.pow_add, ← Int.pow_mul]
            grind
          rw [e1]
          have := (rt_term h (j * e)).mul (Cg.refl ((r ^ (k - e)) ^ j))
          rw [Int.one_mul] at this
          exact this
        refine hz.trans (geo0 hp ?_ (fun hc => ?_))
        · rw [← Int.pow_mul, Nat.mul_comm, Int.pow_mul]
          exact hr.one_pow _
        · refine h.2.2 (k - e) (by omega) (by omega) ?_
          have h3 := rt_term h (k - e)
          have h4 := (Cg.refl (p := p) (w ^ (k - e))).mul hc
          rw [Int.mul_one] at h4
          exact h4.symm.trans h3
      · have hz : Cg p (SM (fun j => w ^ (j * e) * r ^ (j * k)) L) (SM (fun j => (w ^ (e - k)) ^ j) L) := by
          refine Cg.sm L (fun j _ => ?_)
          have e1 : w ^ (j * e) * r ^ (j * k) = (w ^ (j * k) * r ^ (j * k)) * (w ^ (e - k)) ^ j := by
            rw [show j * e = j * k + (e - k) * j by rw [Nat.mul_comm (e - k) j, ← Nat.mul_add]; congr 1; omega, Int.pow_add, ← Int.pow_mul]
            grind
          rw [e1]
          have := (rt_term h (j * k)).mul (Cg.refl ((w ^ (e - k)) ^ j))
          rw [Int.one_mul] at this
          exact this
        refine hz.trans (geo0 hp ?_ (fun hc => ?_))
        · rw [← Int.pow_mul, Nat.mul_comm, Int.pow_mul]
          exact h.1.one_pow _
        · rcases Nat.lt_or_ge (e - k) L with z2 | z2
          · exact h.2.2 (e - k) (by omega) z2 hc
          · refine h.2.2 (e - k - L) (by omega) (by omega) ?_
            rw [show e - k = (e - k - L) + L by omega, Int.pow_add] at hc
            have h4 := (Cg.refl (p := p) (w ^ (e - k - L))).mul h.1
            rw [Int.mul_one] at h4
            exact h4.symm.trans hc

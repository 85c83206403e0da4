/-! orders modulo a prime, roots of polynomials, primitive roots -/
theorem pow_mod1 {p a k : Nat} (hp : 2 ≤ p) (h : a ^ k % p = 1) (j : Nat) : a ^ (k * j) % p = 1 := by
  rw [Nat.pow_mul, Nat.pow_mod, h, Nat.one_pow, Nat.mod_eq_of_lt (by omega)]
theorem pow_addm {p a : Nat} (k j : Nat) : a ^ (k + j) % p = (a ^ k % p) * (a ^ j % p) % p := by
  rw [Nat.pow_add, Nat.mul_mod]
theorem pow_sub1 {p a k j : Nat} (hp : 2 ≤ p) (h1 : a ^ k % p = 1) (h2 : a ^ (k + j) % p = 1) : a ^ j % p = 1 := by
  rw [pow_addm, h1, Nat.one_mul, Nat.mod_mod] at h2
  exact h2
theorem pow_gcd {p a : Nat} (hp : 2 ≤ p) : ∀ (k j : Nat), a ^ k % p = 1 → a ^ j % p = 1 → a ^ Nat.gcd k j % p = 1 := by
  intro k
  induction k using Nat.strongRecOn with
  | ind k ih =>
    intro j h1 h2
    by_cases hk : k = 0
    · subst hk
      rw [Nat.gcd_zero_left]
      exact h2
    · rw [Nat.gcd_rec]
      refine ih (j % k) (Nat.mod_lt _ (by omega)) k ?_ h1
      have e : k * (j / k) + j % k = j := Nat.div_add_mod j k
      exact pow_sub1 hp (pow_mod1 hp h1 (j / k)) (by rw [e]; exact h2)
theorem pow_cop {p a k j : Nat} (hp : 2 ≤ p) (h1 : a ^ k % p = 1) (h2 : a ^ j % p = 1) (hg : Nat.gcd k j = 1) : a % p = 1 := by
  have := pow_gcd hp k j h1 h2
  rw [hg, Nat.pow_one] at this
  exact this
/-- polynomials of degree d at most with the coefficient a before x ^ d, as functions -/
def Poly : Nat → Int → (Int → Int) → Prop
  | 0, a, f => ∀ x, f x = a
  | d + 1, a, f => ∀ r, ∃ q, Poly d a q ∧ ∀ x, f x = f r + (x - r) * q x
theorem poly_add : ∀ (d : Nat) {a b : Int} {f h : Int → Int}, Poly d a f → Poly d b h → Poly d (a + b) (fun x => f x + h x)
  | 0, a, b, f, h, hf, hh => fun x => by
    show f x + h x = a + b
    rw [hf x, hh x]
  | d + 1, a, b, f, h, hf, hh => fun r => by
    obtain ⟨q1, p1, e1⟩ := hf r
    obtain ⟨q2, p2, e2⟩ := hh r
    refine ⟨_, poly_add d p1 p2, fun x => ?_⟩
    show f x + h x = f r + h r + (x - r) * (q1 x + q2 x)
    rw [Int.mul_add, e1 x, e2 x]
    omega
theorem poly_mul : ∀ (d : Nat) {a c : Int} {f : Int → Int}, Poly d a f → Poly d (c * a) (fun x => c * f x)
  | 0, a, c, f, hf => fun x => by
    show c * f x = c * a
    rw [hf x]
  | d + 1, a, c, f, hf => fun r => by
    obtain ⟨q1, p1, e1⟩ := hf r
    refine ⟨_, poly_mul d (c := c) p1, fun x => ?_⟩
    show c * f x = c * f r + (x - r) * (c * q1 x)
    rw [e1 x, Int.mul_add, ← Int.mul_assoc, ← Int.mul_assoc, Int.mul_comm c (x - r)]
theorem poly_up : ∀ (d : Nat) {a : Int} {f : Int → Int}, Poly d a f → Poly (d + 1) 0 f
  | 0, a, f, hf => fun r => ⟨fun _ => 0, fun _ => rfl, fun x => by
    show f x = f r + (x - r) * 0
    rw [hf x, hf r, Int.mul_zero, Int.add_zero]⟩
  | d + 1, a, f, hf => fun r => by
    obtain ⟨q1, p1, e1⟩ := hf r
    exact ⟨q1, poly_up d p1, e1⟩
theorem poly_x : ∀ (d : Nat) {a c : Int} {f : Int → Int}, Poly d a f → Poly (d + 1) a (fun x => x * f x + c)
  | 0, a, c, f, hf => fun r => ⟨fun _ => a, fun _ => rfl, fun x => by
    show x * f x + c = r * f r + c + (x - r) * a
    rw [hf x, hf r, Int.sub_mul]
    omega⟩
  | d + 1, a, c, f, hf => fun r => by
    obtain ⟨q1, p1, e1⟩ := hf r
    have h2 := poly_up d (poly_mul d (c := r) p1)
    have h3 := poly_add (d + 1) hf h2
    rw [Int.add_zero] at h3
    refine ⟨_, h3, fun x => ?_⟩
    show x * f x + c = r * f r + c + (x - r) * (f x + r * q1 x)
    have e2 : (x - r) * (f x + r * q1 x) = x * f x - r * f x + r * ((x - r) * q1 x) := by
      rw [Int.mul_add, Int.sub_mul, ← Int.mul_assoc, ← Int.mul_assoc, Int.mul_comm (x - r) r]
    have e3 : r * f x = r * f r + r * ((x - r) * q1 x) := by
      rw [← Int.mul_add]
      exact congrArg (fun z => r * z) (e1 x)
    omega
theorem poly_pow (c : Int) : ∀ d : Nat, Poly (d + 1) 1 (fun x => x ^ (d + 1) + c)
  | 0 => by
    have h := poly_x 0 (a := 1) (c := c) (f := fun _ => 1) (fun _ => rfl)
    have e : (fun x : Int => x ^ (0 + 1) + c) = fun x => x * 1 + c := by
      funext x
      rw [Nat.zero_add, Int.pow_succ, Int.pow_zero, Int.one_mul, Int.mul_one]
    rw [e]
    exact h
  | d + 1 => by
    have h := poly_x (d + 1) (c := c) (poly_pow 0 d)
    have e : (fun x : Int => x ^ (d + 1 + 1) + c) = fun x => x * (x ^ (d + 1) + 0) + c := by
      funext x
      rw [Int.pow_succ x (d + 1), Int.add_zero, Int.mul_comm]
    rw [e]
    exact h
theorem int_pr_mul {p : Nat} {a b : Int} (hp : Pr p) (h : (p : Int) ∣ a * b) : (p : Int) ∣ a ∨ (p : Int) ∣ b := by
  have h1 : p ∣ a.natAbs * b.natAbs := by
    rw [← Int.natAbs_mul]
    exact Int.ofNat_dvd_left.mp h
  rcases pr_mul hp h1 with h2 | h2
  · exact Or.inl (Int.ofNat_dvd_left.mpr h2)
  · exact Or.inr (Int.ofNat_dvd_left.mpr h2)
/-- a polynomial has no more roots than its degree -/
theorem poly_roots {p : Nat} (hp : Pr p) : ∀ (d : Nat) {a : Int} {f : Int → Int}, Poly d a f → ¬ (p : Int) ∣ a → ∀ xs : List Int, xs.Pairwise (fun x y => ¬ (p : Int) ∣ y - x) → (∀ x ∈ xs, (p : Int) ∣ f x) → xs.length ≤ d
  | 0, a, f, hf, ha, [], _, _ => Nat.le_refl 0
  | 0, a, f, hf, ha, x :: xs, _, hr => by
    have := hr x List.mem_cons_self
    rw [hf x] at this
    exact absurd this ha
  | d + 1, a, f, hf, ha, [], _, _ => Nat.zero_le _
  | d + 1, a, f, hf, ha, r :: xs, hd, hr => by
    obtain ⟨q, h1, h2⟩ := hf r
    obtain ⟨d1, d2⟩ := List.pairwise_cons.mp hd
    have h3 := poly_roots hp d h1 ha xs d2 (fun x hx => by
      have e1 := hr x (List.mem_cons_of_mem _ hx)
      have e2 := hr r List.mem_cons_self
      rw [h2 x] at e1
      have e3 : (p : Int) ∣ (x - r) * q x := by
        have e5 := Int.dvd_sub e1 e2
        rw [show f r + (x - r) * q x - f r = (x - r) * q x by omega] at e5
        exact e5
      rcases int_pr_mul hp e3 with e4 | e4
      · exact absurd e4 (d1 x hx)
      · exact e4)
    rw [List.length_cons]
    omega
/-- not all numbers but 0 have the same small power 1 -/
theorem pow_not1 {p d : Nat} (hp : Pr p) (h0 : 0 < d) (h1 : d < p - 1) : ∃ a, 0 < a ∧ a < p ∧ a ^ d % p ≠ 1 := by
  refine Classical.byContradiction fun hc => ?_
  have hall : ∀ a, 0 < a → a < p → a ^ d % p = 1 := fun a g1 g2 => Classical.byContradiction fun h => hc ⟨a, g1, g2, h⟩
  obtain ⟨d', rfl⟩ : ∃ d', d = d' + 1 := ⟨d - 1, by omega⟩
  have h2 := hp.1
  have h := poly_roots hp (d' + 1) (poly_pow (-1) d') (by
    intro h
    have h5 : p ∣ 1 := Int.ofNat_dvd_left.mp h
    have h6 := Nat.le_of_dvd Nat.one_pos h5
    omega) ((List.range (p - 1)).map (fun k => ((k + 1 : Nat) : Int))) ?_ ?_
  · rw [List.length_map, List.length_range] at h
    omega
  · rw [List.pairwise_map]
    refine List.Pairwise.imp_of_mem ?_ List.pairwise_lt_range
    intro a b ha hb hab hdv
    have g1 := List.mem_range.mp ha
    have g2 := List.mem_range.mp hb
    have g3 : ((b + 1 : Nat) : Int) - ((a + 1 : Nat) : Int) = ((b - a : Nat) : Int) := by omega
    rw [g3] at hdv
    have g4 := Nat.le_of_dvd (by omega) (Int.ofNat_dvd.mp hdv)
    omega
  · intro x hx
    obtain ⟨k, hk, rfl⟩ := List.mem_map.mp hx
    have g1 := List.mem_range.mp hk
    have g2 := hall (k + 1) (by omega) (by omega)
    show (p : Int) ∣ ((k + 1 : Nat) : Int) ^ (d' + 1) + -1
    rw [← Int.natCast_pow]
    have g3 := Nat.div_add_mod ((k + 1) ^ (d' + 1)) p
    rw [g2] at g3
    refine ⟨(((k + 1) ^ (d' + 1) / p : Nat) : Int), ?_⟩
    have g4 : (((k + 1) ^ (d' + 1) : Nat) : Int) = (p : Int) * (((k + 1) ^ (d' + 1) / p : Nat) : Int) + 1 := by
      rw [← Int.natCast_mul]
      omega
    omega
/-- g has the order m: g ^ m is 1, no smaller power by a prime factor is -/
def OrdIs (p g m : Nat) : Prop := g ^ m % p = 1 ∧ ∀ r, Pr r → r ∣ m → g ^ (m / r) % p ≠ 1
theorem mod1 {p : Nat} (hp : 2 ≤ p) : 1 % p = 1 := Nat.mod_eq_of_lt (by omega)
theorem mulpow_mod {p a b k : Nat} : (a * b) ^ k % p = (a ^ k % p) * (b ^ k % p) % p := by
  rw [Nat.mul_pow, Nat.mul_mod]
theorem pow_pow1 {p a k j : Nat} (hp : 2 ≤ p) (h : a ^ k % p = 1) : (a ^ k) ^ j % p = 1 := by
  rw [← Nat.pow_mul]
  exact pow_mod1 hp h j
/-- orders that are coprime multiply -/
theorem ord_mul {p x y a b : Nat} (hp : 2 ≤ p) (hx : OrdIs p x a) (hy : OrdIs p y b) (hg : Nat.gcd a b = 1) (ha : 0 < a) (hb : 0 < b) : OrdIs p (x * y) (a * b) := by
  constructor
  · rw [mulpow_mod, pow_mod1 hp hx.1, Nat.mul_comm a b, pow_mod1 hp hy.1, Nat.one_mul, mod1 hp]
  · intro r hr hrd h1
    rw [mulpow_mod] at h1
    rcases pr_mul hr hrd with hd | hd
    · obtain ⟨c, rfl⟩ := hd
      have hr0 := hr.1
      have e1 : r * c * b / r = c * b := by rw [Nat.mul_assoc, Nat.mul_div_cancel_left _ (by omega)]
      have e2 : r * c / r = c := Nat.mul_div_cancel_left _ (by omega)
      rw [e1, Nat.mul_comm c b, pow_mod1 hp hy.1, Nat.mul_one, Nat.mod_mod, Nat.mul_comm b c] at h1
      have h2 := hx.2 r hr (Nat.dvd_mul_right _ _)
      rw [e2] at h2
      refine h2 (pow_cop hp (k := r) (j := b) ?_ ?_ ?_)
      · rw [← Nat.pow_mul, Nat.mul_comm c r]
        exact hx.1
      · rw [← Nat.pow_mul]
        exact h1
      · exact Nat.eq_one_of_dvd_one (by rw [← hg]; exact Nat.gcd_dvd_gcd_of_dvd_left b (Nat.dvd_mul_right r c))
    · obtain ⟨c, rfl⟩ := hd
      have hr0 := hr.1
      have e1 : a * (r * c) / r = a * c := by rw [← Nat.mul_assoc, Nat.mul_comm a r, Nat.mul_assoc, Nat.mul_div_cancel_left _ (by omega)]
      have e2 : r * c / r = c := Nat.mul_div_cancel_left _ (by omega)
      rw [e1, pow_mod1 hp hx.1, Nat.one_mul, Nat.mod_mod, Nat.mul_comm a c] at h1
      have h2 := hy.2 r hr (Nat.dvd_mul_right _ _)
      rw [e2] at h2
      refine h2 (pow_cop hp (k := r) (j := a) ?_ ?_ ?_)
      · rw [← Nat.pow_mul, Nat.mul_comm c r]
        exact hy.1
      · rw [← Nat.pow_mul]
        exact h1
      · refine Nat.eq_one_of_dvd_one ?_
        rw [← hg, Nat.gcd_comm a]
        exact Nat.gcd_dvd_gcd_of_dvd_left a (Nat.dvd_mul_right r c)
/-- the part of a number that a prime makes -/
theorem pr_part {q : Nat} (hq : Pr q) : ∀ m, 0 < m → ∃ e m', m = q ^ e * m' ∧ ¬ q ∣ m' := by
  intro m
  induction m using Nat.strongRecOn with
  | ind m ih =>
    intro h
    by_cases hd : q ∣ m
    · obtain ⟨c, rfl⟩ := hd
      have h2 := hq.1
      have h3 : 0 < c := Nat.pos_of_mul_pos_right h |> fun h => by
        rcases Nat.eq_zero_or_pos c with e | e
        · subst e
          omega
        · exact e
      have h4 : c < q * c := by
        have := Nat.mul_le_mul_right c h2
        omega
      obtain ⟨e, m', h5, h6⟩ := ih c h4 h3
      exact ⟨e + 1, m', by rw [h5, Nat.pow_succ, Nat.mul_comm _ q, Nat.mul_assoc], h6⟩
    · exact ⟨0, m, by rw [Nat.pow_zero, Nat.one_mul], hd⟩
theorem ord_ex {p : Nat} (hp : Pr p) (h3 : 3 ≤ p) : ∀ m, 0 < m → m ∣ p - 1 → ∃ g, OrdIs p g m := by
  intro m
  induction m using Nat.strongRecOn with
  | ind m ih =>
    intro h0 hm
    by_cases h1 : m = 1
    · subst h1
      refine ⟨1, by rw [Nat.one_pow, mod1 (by omega)], fun r hr hrd => ?_⟩
      have := Nat.le_of_dvd Nat.one_pos hrd
      have := hr.1
      omega
    · obtain ⟨q, hq, hqd⟩ := pr_div m (by omega)
      obtain ⟨e, m', he, hnd⟩ := pr_part hq m h0
      have hq2 := hq.1
      have hm0 : 0 < m' := by
        rcases Nat.eq_zero_or_pos m' with z | z
        · subst z
          omega
        · exact z
      have he0 : e ≠ 0 := by
        intro z
        subst z
        rw [Nat.pow_zero, Nat.one_mul] at he
        exact hnd (he ▸ hqd)
      obtain ⟨e', rfl⟩ : ∃ e', e = e' + 1 := ⟨e - 1, by omega⟩
      have hqe : q ≤ q ^ (e' + 1) := Nat.le_self_pow (by omega) q
      have hlt : m' < m := by
        rw [he]
        have := Nat.mul_le_mul_right m' (Nat.le_trans hq2 hqe)
        omega
      obtain ⟨y, hy⟩ := ih m' hlt hm0 (Nat.dvd_trans ⟨q ^ (e' + 1), by rw [he, Nat.mul_comm]⟩ hm)
      have hqm : q ^ (e' + 1) ∣ p - 1 := Nat.dvd_trans ⟨m', he⟩ hm
      obtain ⟨c, hc⟩ := hqm
      have hqp : q * (q ^ e' * c) = p - 1 := by
        rw [hc, Nat.pow_succ, Nat.mul_comm (q ^ e') q, Nat.mul_assoc]
      have hd0 : 0 < q ^ e' * c := by
        rcases Nat.eq_zero_or_pos (q ^ e' * c) with z | z
        · rw [z] at hqp
          omega
        · exact z
      have hd1 : q ^ e' * c < p - 1 := by
        have := Nat.mul_le_mul_right (q ^ e' * c) hq2
        omega
      obtain ⟨a, a0, a1, a2⟩ := pow_not1 hp hd0 hd1
      have hx : OrdIs p (a ^ c) (q ^ (e' + 1)) := by
        constructor
        · rw [← Nat.pow_mul, Nat.mul_comm c, ← hc]
          refine fermat hp (fun h => ?_)
          have := Nat.le_of_dvd a0 h
          omega
        · intro r hr hrd
          have hrq := pr_eq hr hq (pr_pow hr _ hrd)
          subst hrq
          rw [Nat.pow_succ, Nat.mul_div_cancel _ (by omega), ← Nat.pow_mul, Nat.mul_comm c]
          exact a2
      refine ⟨a ^ c * y, ?_⟩
      rw [he]
      refine ord_mul (by omega) hx hy ?_ (Nat.pow_pos (by omega)) hm0
      exact Nat.Coprime.pow_left _ (pr_cop hq hnd)
/-- g makes all numbers but 0 -/
def IsGen (p g : Nat) : Prop := ∀ r, Pr r → r ∣ p - 1 → g ^ ((p - 1) / r) % p ≠ 1
theorem gen_ex {p : Nat} (hp : Pr p) (h3 : 3 ≤ p) : ∃ g, 2 ≤ g ∧ g < p ∧ IsGen p g := by
  obtain ⟨g, h1, h2⟩ := ord_ex hp h3 (p - 1) (by omega) (Nat.dvd_refl _)
  have hg : IsGen p (g % p) := by
    intro r hr hd
    rw [← Nat.pow_mod]
    exact h2 r hr hd
  refine ⟨g % p, ?_, Nat.mod_lt _ (by omega), hg⟩
  obtain ⟨r, hr, hrd⟩ := pr_div (p - 1) (by omega)
  have h4 := hg r hr hrd
  rcases Nat.lt_or_ge (g % p) 2 with h | h
  · exfalso
    have h5 : g % p = 0 ∨ g % p = 1 := by omega
    rcases h5 with e | e
    · rw [Nat.pow_mod, e, Nat.zero_pow (by omega)] at h1
      simp at h1
    · rw [e, Nat.one_pow] at h4
      exact h4 (mod1 (by omega))
  · exact h
/-- the least one -/
def GenOf (p g : Nat) : Prop := 2 ≤ g ∧ g < p ∧ IsGen p g ∧ ∀ h, 2 ≤ h → h < g → ¬ IsGen p h
theorem GenOf.uniq {p g h : Nat} (hg : GenOf p g) (hh : GenOf p h) : g = h := by
  rcases Nat.lt_trichotomy g h with e | e | e
  · exact absurd hg.2.2.1 (hh.2.2.2 g hg.1 e)
  · exact e
  · exact absurd hh.2.2.1 (hg.2.2.2 h hh.1 e)
/-- the least exponent above 0 with the power 1 -/
def LeastOrd (p u e : Nat) : Prop := 0 < e ∧ u ^ e % p = 1 ∧ ∀ d, 0 < d → d < e → u ^ d % p ≠ 1
theorem ord_dvd {p u e d : Nat} (hp : 2 ≤ p) (h : LeastOrd p u e) (hd : u ^ d % p = 1) : e ∣ d := by
  have e1 : e * (d / e) + d % e = d := Nat.div_add_mod d e
  have h1 : u ^ (d % e) % p = 1 := pow_sub1 hp (pow_mod1 hp h.2.1 (d / e)) (by rw [e1]; exact hd)
  rcases Nat.eq_zero_or_pos (d % e) with h2 | h2
  · exact Nat.dvd_of_mod_eq_zero h2
  · exact absurd h1 (h.2.2 _ h2 (Nat.mod_lt _ h.1))
theorem ord_least {p u m : Nat} (hp : 2 ≤ p) (h0 : 0 < m) (h : OrdIs p u m) : LeastOrd p u m := by
  refine ⟨h0, h.1, ?_⟩
  intro d
  induction d using Nat.strongRecOn with
  | ind d ih =>
    intro hd0 hd hc
    have hl : LeastOrd p u d := ⟨hd0, hc, fun d' a b => ih d' b a (by omega)⟩
    obtain ⟨k, hk⟩ := ord_dvd hp hl h.1
    have hk2 : 2 ≤ k := by
      rcases Nat.lt_or_ge k 2 with z | z
      · have : k = 0 ∨ k = 1 := by omega
        rcases this with z | z
        · rw [z] at hk
          omega
        · rw [z, Nat.mul_one] at hk
          omega
      · exact z
    obtain ⟨r, hr, c, hc2⟩ := pr_div k hk2
    have hr0 := hr.1
    have e1 : m / r = d * c := by
      rw [hk, hc2, Nat.mul_comm r c, ← Nat.mul_assoc, Nat.mul_div_cancel _ (by omega)]
    refine h.2 r hr ⟨d * c, by rw [hk, hc2, ← Nat.mul_assoc, Nat.mul_comm d r, Nat.mul_assoc]⟩ ?_
    rw [e1]
    exact pow_mod1 hp hc c
theorem LeastOrd.uniq {p u e d : Nat} (h : LeastOrd p u e) (h' : LeastOrd p u d) : e = d := by
  rcases Nat.lt_trichotomy e d with z | z | z
  · exact absurd h.2.1 (h'.2.2 e h.1 z)
  · exact z
  · exact absurd h'.2.1 (h.2.2 d h'.1 z)
theorem gen_ord {p g : Nat} (hp : Pr p) (h3 : 3 ≤ p) (hg0 : ¬ p ∣ g) (hg : IsGen p g) : LeastOrd p g (p - 1) := ord_least (by omega) (by omega) ⟨fermat hp hg0, hg⟩

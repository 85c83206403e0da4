/-! the prime factors of p - 1 -/
noncomputable def isf (n k : Nat) : Nat := @ite Nat (Pr k ∧ k ∣ n) (Classical.propDecidable _) 1 0
theorem isf_1 {n k : Nat} (h : Pr k ∧ k ∣ n) : isf n k = 1 := by
  unfold isf
  rw [if_pos h]
theorem isf_0 {n k : Nat} (h : ¬ (Pr k ∧ k ∣ n)) : isf n k = 0 := by
  unfold isf
  rw [if_neg h]
/-- how many primes below k divide n -/
noncomputable def npf (n : Nat) : Nat → Nat
  | 0 => 0
  | k + 1 => npf n k + isf n k
theorem npf_none {n a : Nat} : ∀ k, (∀ r, a ≤ r → r < a + k → ¬ (Pr r ∧ r ∣ n)) → npf n (a + k) = npf n a
  | 0, _ => rfl
  | k + 1, h => by
    show npf n (a + k) + isf n (a + k) = _
    rw [isf_0 (h (a + k) (by omega) (by omega)), Nat.add_zero, npf_none k (fun r h1 h2 => h r h1 (by omega))]
theorem npf_one {n a b r0 : Nat} (h1 : a ≤ r0) (h2 : r0 < b) (h3 : Pr r0 ∧ r0 ∣ n) (h4 : ∀ r, a ≤ r → r < b → r ≠ r0 → ¬ (Pr r ∧ r ∣ n)) : npf n b = npf n a + 1 := by
  obtain ⟨k, rfl⟩ : ∃ k, r0 = a + k := ⟨r0 - a, by omega⟩
  obtain ⟨m, rfl⟩ : ∃ m, b = a + k + 1 + m := ⟨b - (a + k + 1), by omega⟩
  rw [npf_none m (fun r g1 g2 => h4 r (by omega) (by omega) (by omega))]
  show npf n (a + k) + isf n (a + k) = _
  rw [isf_1 h3, npf_none k (fun r g1 g2 => h4 r g1 (by omega) (by omega))]
def FacOk (p : Nat) (ff : Int → Int) (fc : Nat) : Prop := fc ≤ 6 ∧ (∀ i : Nat, i < fc → ∃ r, Pr r ∧ r ∣ p - 1 ∧ ff i = (r : Int)) ∧ (∀ r, Pr r → r ∣ p - 1 → ∃ i : Nat, i < fc ∧ ff i = (r : Int)) ∧ fc = npf (p - 1) p
def lbf : Nat → Nat
  | 0 => 1
  | 1 => 2
  | k + 2 => lbf (k + 1) * (2 * k + 3)
/-- no divisor below q, and q divides: q is a prime -/
theorem low_pr {rest q : Nat} (hq : 2 ≤ q) (low : ∀ d, 2 ≤ d → d < q → ¬ d ∣ rest) (hd : q ∣ rest) : Pr q := by
  refine ⟨hq, fun d h => ?_⟩
  have h1 := Nat.le_of_dvd (by omega) h
  have h2 : d ≠ 0 := by
    intro e
    subst e
    have := Nat.eq_zero_of_zero_dvd h
    omega
  rcases Nat.lt_or_ge d 2 with h3 | h3
  · exact Or.inl (by omega)
  · rcases Nat.lt_or_ge d q with h4 | h4
    · exact absurd (Nat.dvd_trans h hd) (low d h3 h4)
    · exact Or.inr (by omega)
theorem low_rest {rest q : Nat} (hr : 2 ≤ rest) (low : ∀ d, 2 ≤ d → d < q → ¬ d ∣ rest) (hq : rest < q * q) : Pr rest := by
  refine ⟨hr, fun d h => ?_⟩
  obtain ⟨c, hc⟩ := h
  have hd0 : d ≠ 0 := by
    intro e
    subst e
    omega
  have hc0 : c ≠ 0 := by
    intro e
    subst e
    omega
  rcases Nat.lt_or_ge d 2 with h1 | h1
  · exact Or.inl (by omega)
  · rcases Nat.lt_or_ge c 2 with h2 | h2
    · have : c = 1 := by omega
      subst this
      exact Or.inr (by omega)
    · exfalso
      rcases Nat.lt_or_ge d q with h3 | h3
      · exact low d h1 h3 ⟨c, hc⟩
      · rcases Nat.lt_or_ge c q with h4 | h4
        · exact low c h2 h4 ⟨d, by rw [hc, Nat.mul_comm]⟩
        · have := Nat.mul_le_mul h3 h4
          omega
/-- the loop's facts: behind q the rest is left, fc factors are found -/
def FJ (n : Nat) (q rest fc : Nat) (ff : Int → Int) : Prop :=
  1 ≤ rest ∧ rest ∣ n ∧ 2 ≤ q ∧ (∀ d, 2 ≤ d → d < q → ¬ d ∣ rest) ∧ (∀ r, Pr r → q ≤ r → r ∣ n → r ∣ rest) ∧ (∀ i : Nat, i < fc → ∃ r, Pr r ∧ r ∣ n ∧ r < q ∧ ff i = (r : Int)) ∧ (∀ r, Pr r → r ∣ n → r < q → ∃ i : Nat, i < fc ∧ ff i = (r : Int)) ∧ fc = npf n q ∧
  ∃ P, P * rest ≤ n ∧ lbf fc ≤ P ∧ 2 * fc ≤ q ∧ (1 ≤ fc → 3 ≤ q) ∧ fc ≤ 6
theorem two_of_even {r k : Nat} (hr : Pr r) (h : r = 2 * k) : r = 2 := by
  rcases hr.2 2 ⟨k, h⟩ with e | e
  · omega
  · exact e.symm
/-- the next prime factor r finds room, and pays -/
theorem fj_room {n q rest fc r : Nat} {ff : Int → Int} (hn : n ≤ 100002) (h : FJ n q rest fc ff) (hr : Pr r) (hqr : q ≤ r) (hd : r ∣ rest) : fc < 6 ∧ ∃ P, P * (rest / r) ≤ n ∧ lbf (fc + 1) ≤ P ∧ 2 * (fc + 1) ≤ r + 1 ∧ 3 ≤ r + 1 := by
  obtain ⟨h1, h2, h3, h4, h5, h6, h7, h8, P, g1, g2, g3, g4, g5⟩ := h
  have hr2 := hr.1
  have hodd : 1 ≤ fc → 2 * fc + 1 ≤ r := by
    intro hf
    have := g4 hf
    rcases Nat.lt_or_ge r (2 * fc + 1) with z | z
    · have e : r = 2 * fc := by omega
      have := two_of_even hr e
      omega
    · exact z
  obtain ⟨c, hc⟩ := hd
  have e1 : rest / r = c := by rw [hc, Nat.mul_div_cancel_left _ (by omega)]
  have hc0 : 1 ≤ c := by
    rcases Nat.eq_zero_or_pos c with z | z
    · subst z
      omega
    · exact z
  have hP : P * r * c ≤ n := by
    rw [Nat.mul_assoc, ← hc]
    exact g1
  have hlb : lbf (fc + 1) ≤ P * r := by
    match fc, hodd, g2 with
    | 0, _, g2 =>
      show 2 ≤ P * r
      have := Nat.mul_le_mul (show 1 ≤ P from g2) hr2
      omega
    | k + 1, ho, g2 =>
      show lbf (k + 1) * (2 * k + 3) ≤ P * r
      exact Nat.mul_le_mul g2 (by have := ho (by omega); omega)
  have hf6 : fc < 6 := by
    rcases Nat.lt_or_ge fc 6 with z | z
    · exact z
    · exfalso
      have e6 : fc = 6 := by omega
      subst e6
      have e7 : lbf 7 = 270270 := rfl
      rw [e7] at hlb
      have := Nat.le_mul_of_pos_right (P * r) hc0
      omega
  refine ⟨hf6, P * r, by rw [e1]; exact hP, hlb, ?_, by omega⟩
  rcases Nat.eq_zero_or_pos fc with z | z
  · omega
  · have := hodd z
    omega
/-- q takes no part -/
theorem fj_skip {n q rest fc : Nat} {ff : Int → Int} (h : FJ n q rest fc ff) (hd : ¬ q ∣ rest) : FJ n (q + 1) rest fc ff := by
  obtain ⟨h1, h2, h3, h4, h5, h6, h7, h8, P, g1, g2, g3, g4, g5⟩ := h
  have hno : ¬ (Pr q ∧ q ∣ n) := fun z => hd (h5 q z.1 (Nat.le_refl q) z.2)
  refine ⟨h1, h2, by omega, fun d d1 d2 => ?_, fun r r1 r2 r3 => h5 r r1 (by omega) r3, fun i hi => ?_, fun r r1 r2 r3 => ?_, ?_, P, g1, g2, by omega, fun hf => by have := g4 hf; omega, g5⟩
  · by_cases e : d = q
    · subst e
      exact hd
    · exact h4 d d1 (by omega)
  · obtain ⟨r, a, b, c, d⟩ := h6 i hi
    exact ⟨r, a, b, by omega, d⟩
  · by_cases e : r = q
    · subst e
      exact absurd ⟨r1, r2⟩ hno
    · exact h7 r r1 r2 (by omega)
  · show fc = npf n q + isf n q
    rw [isf_0 hno, Nat.add_zero]
    exact h8
/-- q is a factor, and goes out of the rest -/
theorem fj_take {n q rest fc k rest' : Nat} {ff : Int → Int} (hn : n ≤ 100002) (h : FJ n q rest fc ff) (hd : q ∣ rest) (hk : rest = q ^ k * rest') (hnd : ¬ q ∣ rest') : FJ n (q + 1) rest' (fc + 1) (upI ff fc q) := by
  have hpr := low_pr h.2.2.1 h.2.2.2.1 hd
  obtain ⟨f6, P', p1, p2, p3, p4⟩ := fj_room hn h hpr (Nat.le_refl q) hd
  obtain ⟨h1, h2, h3, h4, h5, h6, h7, h8, P, g1, g2, g3, g4, g5⟩ := h
  have hdv : rest' ∣ rest := ⟨q ^ k, by rw [hk, Nat.mul_comm]⟩
  have hr1 : 1 ≤ rest' := by
    rcases Nat.eq_zero_or_pos rest' with z | z
    · subst z
      omega
    · exact z
  have hup : ∀ i : Nat, i < fc → upI ff fc q i = ff i := fun i hi => by
    unfold upI
    rw [if_neg (by omega)]
  have hup2 : upI ff fc q fc = q := by
    unfold upI
    rw [if_pos rfl]
  have hqn : q ∣ n := Nat.dvd_trans hd h2
  refine ⟨hr1, Nat.dvd_trans hdv h2, by omega, fun d d1 d2 hdd => ?_, fun r r1 r2 r3 => ?_, fun i hi => ?_, fun r r1 r2 r3 => ?_, ?_, P', ?_, p2, p3, fun _ => p4, by omega⟩
  · by_cases e : d = q
    · subst e
      exact hnd hdd
    · exact h4 d d1 (by omega) (Nat.dvd_trans hdd hdv)
  · have r4 := h5 r r1 (by omega) r3
    rw [hk] at r4
    rcases pr_mul r1 r4 with r5 | r5
    · have := pr_eq r1 hpr (pr_pow r1 _ r5)
      omega
    · exact r5
  · by_cases e : i = fc
    · subst e
      exact ⟨q, hpr, hqn, by omega, hup2⟩
    · obtain ⟨r, a, b, c, d⟩ := h6 i (by omega)
      exact ⟨r, a, b, by omega, by rw [hup i (by omega)]; exact d⟩
  · by_cases e : r = q
    · subst e
      exact ⟨fc, by omega, hup2⟩
    · obtain ⟨i, a, b⟩ := h7 r r1 r2 (by omega)
      exact ⟨i, by omega, by rw [hup i a]; exact b⟩
  · show fc + 1 = npf n q + isf n q
    rw [isf_1 ⟨hpr, hqn⟩, ← h8]
  · have : rest' ≤ rest / q := by
      have hk0 : k ≠ 0 := by
        intro e
        subst e
        rw [Nat.pow_zero, Nat.one_mul] at hk
        exact hnd (hk ▸ hd)
      obtain ⟨k', rfl⟩ : ∃ k', k = k' + 1 := ⟨k - 1, by omega⟩
      rw [hk, Nat.pow_succ, Nat.mul_comm (q ^ k') q, Nat.mul_assoc, Nat.mul_div_cancel_left _ (by omega)]
      exact Nat.le_mul_of_pos_left rest' (Nat.pow_pos (by omega))
    exact Nat.le_trans (Nat.mul_le_mul_left P' this) p1
/-- no factor is left -/
theorem fj_end1 {p q fc : Nat} {ff : Int → Int} (hp : 3 ≤ p) (h : FJ (p - 1) q 1 fc ff) : FacOk p ff fc := by
  obtain ⟨h1, h2, h3, h4, h5, h6, h7, h8, P, g1, g2, g3, g4, g5⟩ := h
  have hno : ∀ r, q ≤ r → ¬ (Pr r ∧ r ∣ p - 1) := fun r r1 r2 => by
    have := Nat.le_of_dvd Nat.one_pos (h5 r r2.1 r1 r2.2)
    have := r2.1.1
    omega
  refine ⟨g5, fun i hi => ?_, fun r r1 r2 => ?_, ?_⟩
  · obtain ⟨r, a, b, c, d⟩ := h6 i hi
    exact ⟨r, a, b, d⟩
  · rcases Nat.lt_or_ge r q with z | z
    · exact h7 r r1 r2 z
    · exact absurd ⟨r1, r2⟩ (hno r z)
  · rw [h8]
    rcases Nat.lt_or_ge q p with z | z
    · obtain ⟨k, rfl⟩ : ∃ k, p = q + k := ⟨p - q, by omega⟩
      exact (npf_none k (fun r r1 _ => hno r r1)).symm
    · obtain ⟨k, rfl⟩ : ∃ k, q = p + k := ⟨q - p, by omega⟩
      refine npf_none k (fun r r1 r2 r3 => ?_)
      have := Nat.le_of_dvd (by omega) r3.2
      omega
/-- the rest is the last factor -/
theorem fj_end2 {p q rest fc : Nat} {ff : Int → Int} (hp : 3 ≤ p ∧ p ≤ 100003) (h : FJ (p - 1) q rest fc ff) (h2r : 2 ≤ rest) (hq : rest < q * q) : fc < 6 ∧ FacOk p (upI ff fc rest) (fc + 1) := by
  have hpr := low_rest h2r h.2.2.2.1 hq
  have hqr : q ≤ rest := by
    rcases Nat.lt_or_ge rest q with z | z
    · exact absurd (Nat.dvd_refl rest) (h.2.2.2.1 rest h2r z)
    · exact z
  obtain ⟨f6, -⟩ := fj_room (by omega) h hpr hqr (Nat.dvd_refl rest)
  obtain ⟨h1, h2, h3, h4, h5, h6, h7, h8, P, g1, g2, g3, g4, g5⟩ := h
  have hup : ∀ i : Nat, i < fc → upI ff fc rest i = ff i := fun i hi => by
    unfold upI
    rw [if_neg (by omega)]
  have hup2 : upI ff fc rest fc = rest := by
    unfold upI
    rw [if_pos rfl]
  have hle := Nat.le_of_dvd (by omega) h2
  refine ⟨f6, by omega, fun i hi => ?_, fun r r1 r2 => ?_, ?_⟩
  · by_cases e : i = fc
    · subst e
      exact ⟨rest, hpr, h2, hup2⟩
    · obtain ⟨r, a, b, c, d⟩ := h6 i (by omega)
      exact ⟨r, a, b, by rw [hup i (by omega)]; exact d⟩
  · rcases Nat.lt_or_ge r q with z | z
    · obtain ⟨i, a, b⟩ := h7 r r1 r2 z
      exact ⟨i, by omega, by rw [hup i a]; exact b⟩
    · have := pr_eq r1 hpr (h5 r r1 z r2)
      subst this
      exact ⟨fc, by omega, hup2⟩
  · rw [npf_one (a := q) (r0 := rest) hqr (by omega) ⟨hpr, h2⟩ (fun r r1 r2 r3 r4 => r3 (pr_eq r4.1 hpr (h5 r r4.1 r1 r4.2))), ← h8]
section FACT
variable {g : GT} {S : PS} {mc ms : Nat} {a p fc gn : Nat} {ff : Int → Int} {v1 v2 v3 : Value} {Q : PO → PS → Prop} {kc ks : Nat}
theorem l_div {q : Nat} {f : Int} (hq : 2 ≤ q ∧ q < 100003) : ∀ rest, 1 ≤ rest → rest < 100003 → (∀ k rest', rest = q ^ k * rest' → ¬ q ∣ rest' → PW g cX1_findFactors (iX1_findFactors mc ms) 58 [(0, some (.ref a)), (1, some (vi f)), (2, some (vi (rest' : Int))), (3, some (vi (q : Int)))] [] S kc ks Q) →
    PW g cX1_findFactors (iX1_findFactors mc ms) 40 [(0, some (.ref a)), (1, some (vi f)), (2, some (vi (rest : Int))), (3, some (vi (q : Int)))] [] S kc ks Q := by
  intro rest
  induction rest using Nat.strongRecOn with
  | ind rest ih =>
    intro h1 h2 k
    have e1 : (rest : Int) % (q : Int) = ((rest % q : Nat) : Int) := (Int.natCast_emod _ _).symm
    have e2 : (rest : Int) / (q : Int) = ((rest / q : Nat) : Int) := (Int.natCast_ediv _ _).symm
    have hm := Nat.mod_lt rest (show 0 < q by omega)
    refine r_iload_n dX1_findFactors_40 (i := 2) rfl rfl (r_iconst dX1_findFactors_41 ?_)
    refine r_icmp_le 58 dX1_findFactors_42 (by decide) (by omega) (by omega) (fun c1 => ?_) (fun c1 => ?_)
    · refine k 0 rest (by rw [Nat.pow_zero, Nat.one_mul]) (fun hd => ?_)
      have := Nat.le_of_dvd (by omega) hd
      omega
    · refine r_iload_n dX1_findFactors_45 (i := 2) rfl rfl (r_iload_n dX1_findFactors_46 (i := 3) rfl rfl (r_iremN dX1_findFactors_47 (by omega) (by omega) (by omega) (by omega) ?_))
      rw [e1]
      refine r_if_ne 58 dX1_findFactors_48 (by decide) (by omega) (fun c2 => ?_) (fun c2 => ?_)
      · refine k 0 rest (by rw [Nat.pow_zero, Nat.one_mul]) (fun hd => ?_)
        have := Nat.mod_eq_zero_of_dvd hd
        omega
      · have hd : q ∣ rest := Nat.dvd_of_mod_eq_zero (by omega)
        have hlt : rest / q < rest := Nat.div_lt_self (by omega) (by omega)
        have hpos : 1 ≤ rest / q := Nat.div_pos (Nat.le_of_dvd (by omega) hd) (by omega)
        refine r_iload_n dX1_findFactors_51 (i := 2) rfl rfl (r_iload_n dX1_findFactors_52 (i := 3) rfl rfl (r_idivN dX1_findFactors_53 (by omega) (by omega) (by omega) (by omega) (r_istore_n dX1_findFactors_54 (i := 2) rfl rfl (Nat.le_of_ble_eq_true rfl) (r_goto 40 dX1_findFactors_55 (by decide) ?_))))
        refine r_loc [(0, some (.ref a)), (1, some (vi f)), (2, some (vi ((rest / q : Nat) : Int))), (3, some (vi (q : Int)))] ⟨Or.inl rfl, Or.inl rfl, Or.inl rfl, Or.inl rfl, trivial⟩ ?_
        refine ih (rest / q) hlt hpos (by omega) (fun k' rest' e h3 => k (k' + 1) rest' ?_ h3)
        rw [Nat.pow_succ, Nat.mul_comm (q ^ k') q, Nat.mul_assoc, ← e, Nat.mul_div_cancel' hd]
theorem l_fact (hp : 3 ≤ p ∧ p ≤ 100003) (h : S.1 a = some (cO 1 [vi (p : Int), .ref (a + 1), v2, v3])) (hq : ∀ (ff' : Int → Int) (fc' : Nat), FacOk p ff' fc' → Q (.inl (some (vi (fc' : Int)))) (ps_put S (a + 1) (cI 6 ff'))) : ∀ (m q rest fc : Nat) (ff : Int → Int), FJ (p - 1) q rest fc ff → p ≤ q + m → q ≤ 100003 →
    PW g cX1_findFactors (iX1_findFactors mc ms) 11 [(0, some (.ref a)), (1, some (vi (fc : Int))), (2, some (vi (rest : Int))), (3, some (vi (q : Int)))] [] (ps_put S (a + 1) (cI 6 ff)) kc ks Q := by
  intro m
  induction m with
  | zero =>
    intro q rest fc ff hj hm hq3
    have hle := Nat.le_of_dvd (by omega) hj.2.1
    have h2q := hj.2.2.1
    have hdq : rest / q = 0 := Nat.div_eq_of_lt (by omega)
    have hdl := Nat.div_le_self rest q
    have hd0 : (0 : Int) ≤ (rest : Int) / (q : Int) := Int.ediv_nonneg (Int.natCast_nonneg _) (Int.natCast_nonneg _)
    have e2 : (rest : Int) / (q : Int) = ((rest / q : Nat) : Int) := (Int.natCast_ediv _ _).symm
    have h1 : (ps_put S (a + 1) (cI 6 ff)).1 a = some (cO 1 [vi (p : Int), .ref (a + 1), v2, v3]) := ps_ne (by omega) h
    refine r_iload_n dX1_findFactors_11 (i := 3) rfl rfl (r_iload_n dX1_findFactors_12 (i := 2) rfl rfl (r_iload_n dX1_findFactors_13 (i := 3) rfl rfl (r_idivN dX1_findFactors_14 (by omega) (by omega) (by omega) (by omega) ?_)))
    rw [e2, hdq]
    refine r_icmp_gt 64 dX1_findFactors_15 (by decide) (by omega) (by omega) (fun c1 => ?_) (fun c1 => ?_)
    · refine r_iload_n dX1_findFactors_64 (i := 2) rfl rfl (r_iconst dX1_findFactors_65 ?_)
      have hr1 := hj.1
      refine r_icmp_le 85 dX1_findFactors_66 (by decide) (by omega) (by omega) (fun c2 => ?_) (fun c2 => ?_)
      · refine r_iload_n dX1_findFactors_85 (i := 1) rfl rfl (r_iret dX1_findFactors_86 rfl rfl ?_)
        have e1 : rest = 1 := by omega
        subst e1
        exact hq ff fc (fj_end1 hp.1 hj)
      · obtain ⟨f6, hok⟩ := fj_end2 hp hj (by omega) (by
          have := Nat.mul_le_mul_left q h2q
          omega)
        refine r_iload_n dX1_findFactors_69 (i := 1) rfl rfl (r_bipush dX1_findFactors_70 (by decide) ?_)
        refine r_icmp_ge 85 dX1_findFactors_72 (by decide) (by omega) (by omega) (fun c3 => ?_) (fun c3 => ?_)
        · omega
        · refine r_aload_n dX1_findFactors_75 (i := 0) rfl rfl (r_get dX1_findFactors_76 fl_X1_11 h1 rfl (r_iload_n dX1_findFactors_79 (i := 1) rfl rfl (r_iinc dX1_findFactors_80 rfl rfl (r_iload_n dX1_findFactors_83 (i := 2) rfl rfl ?_))))
          refine r_iast dX1_findFactors_84 ps_same (by omega) (by omega) (by omega) (r_iload_n dX1_findFactors_85 (i := 1) rfl rfl (r_iret dX1_findFactors_86 rfl rfl ?_))
          rw [ps_put_put]
          exact hq _ (fc + 1) hok
    · omega
  | succ m ih =>
    intro q rest fc ff hj hm hq3
    have hle := Nat.le_of_dvd (by omega) hj.2.1
    have h2q := hj.2.2.1
    have hr1 := hj.1
    have e1 : (rest : Int) % (q : Int) = ((rest % q : Nat) : Int) := (Int.natCast_emod _ _).symm
    have e2 : (rest : Int) / (q : Int) = ((rest / q : Nat) : Int) := (Int.natCast_ediv _ _).symm
    have hdl := Nat.div_le_self rest q
    have hd0 : (0 : Int) ≤ (rest : Int) / (q : Int) := Int.ediv_nonneg (Int.natCast_nonneg _) (Int.natCast_nonneg _)
    have hml := Nat.mod_lt rest (show 0 < q by omega)
    have h1 : (ps_put S (a + 1) (cI 6 ff)).1 a = some (cO 1 [vi (p : Int), .ref (a + 1), v2, v3]) := ps_ne (by omega) h
    have hf6 : fc ≤ 6 := by
      obtain ⟨-, -, -, -, -, -, -, -, P, -, -, -, -, g5⟩ := hj
      exact g5
    refine r_iload_n dX1_findFactors_11 (i := 3) rfl rfl (r_iload_n dX1_findFactors_12 (i := 2) rfl rfl (r_iload_n dX1_findFactors_13 (i := 3) rfl rfl (r_idivN dX1_findFactors_14 (by omega) (by omega) (by omega) (by omega) ?_)))
    rw [e2]
    refine r_icmp_gt 64 dX1_findFactors_15 (by decide) (by omega) (by omega) (fun c1 => ?_) (fun c1 => ?_)
    · refine r_iload_n dX1_findFactors_64 (i := 2) rfl rfl (r_iconst dX1_findFactors_65 ?_)
      refine r_icmp_le 85 dX1_findFactors_66 (by decide) (by omega) (by omega) (fun c2 => ?_) (fun c2 => ?_)
      · refine r_iload_n dX1_findFactors_85 (i := 1) rfl rfl (r_iret dX1_findFactors_86 rfl rfl ?_)
        have e1 : rest = 1 := by omega
        subst e1
        exact hq ff fc (fj_end1 hp.1 hj)
      · obtain ⟨f6, hok⟩ := fj_end2 hp hj (by omega) ((Nat.div_lt_iff_lt_mul (by omega)).mp (by omega))
        refine r_iload_n dX1_findFactors_69 (i := 1) rfl rfl (r_bipush dX1_findFactors_70 (by decide) ?_)
        refine r_icmp_ge 85 dX1_findFactors_72 (by decide) (by omega) (by omega) (fun c3 => ?_) (fun c3 => ?_)
        · omega
        · refine r_aload_n dX1_findFactors_75 (i := 0) rfl rfl (r_get dX1_findFactors_76 fl_X1_11 h1 rfl (r_iload_n dX1_findFactors_79 (i := 1) rfl rfl (r_iinc dX1_findFactors_80 rfl rfl (r_iload_n dX1_findFactors_83 (i := 2) rfl rfl ?_))))
          refine r_iast dX1_findFactors_84 ps_same (by omega) (by omega) (by omega) (r_iload_n dX1_findFactors_85 (i := 1) rfl rfl (r_iret dX1_findFactors_86 rfl rfl ?_))
          rw [ps_put_put]
          exact hq _ (fc + 1) hok
    · have hqle : q ≤ rest := Nat.le_trans (show q ≤ rest / q by omega) hdl
      refine r_iload_n dX1_findFactors_18 (i := 2) rfl rfl (r_iload_n dX1_findFactors_19 (i := 3) rfl rfl (r_iremN dX1_findFactors_20 (by omega) (by omega) (by omega) (by omega) ?_))
      rw [e1]
      refine r_if_ne 40 dX1_findFactors_21 (by decide) (by omega) (fun c2 => ?_) (fun c2 => ?_)
      · have hnd : ¬ q ∣ rest := fun hd => by
          have := Nat.mod_eq_zero_of_dvd hd
          omega
        refine r_loc [(0, some (.ref a)), (1, some (vi (fc : Int))), (2, some (vi (rest : Int))), (3, some (vi (q : Int)))] ⟨Or.inl rfl, Or.inl rfl, Or.inl rfl, Or.inl rfl, trivial⟩ ?_
        refine l_div ⟨h2q, by omega⟩ rest hr1 (by omega) (fun k rest' hk hnd' => ?_)
        have hk0 : k = 0 := by
          rcases Nat.eq_zero_or_pos k with z | z
          · exact z
          · exfalso
            obtain ⟨k', rfl⟩ : ∃ k', k = k' + 1 := ⟨k - 1, by omega⟩
            exact hnd ⟨q ^ k' * rest', by rw [hk, Nat.pow_succ, Nat.mul_comm (q ^ k') q, Nat.mul_assoc]⟩
        subst hk0
        rw [Nat.pow_zero, Nat.one_mul] at hk
        subst hk
        refine r_iinc dX1_findFactors_58 rfl rfl (r_goto 11 dX1_findFactors_61 (by decide) ?_)
        refine r_loc [(0, some (.ref a)), (1, some (vi (fc : Int))), (2, some (vi (rest : Int))), (3, some (vi ((q + 1 : Nat) : Int)))] ⟨Or.inl rfl, Or.inl rfl, Or.inl rfl, Or.inl rfl, trivial⟩ ?_
        exact ih (q + 1) rest fc ff (fj_skip hj hnd) (by omega) (by omega)
      · have hd : q ∣ rest := Nat.dvd_of_mod_eq_zero (by omega)
        obtain ⟨f6, -⟩ := fj_room (by omega) hj (low_pr h2q hj.2.2.2.1 hd) (Nat.le_refl q) hd
        refine r_iload_n dX1_findFactors_24 (i := 1) rfl rfl (r_bipush dX1_findFactors_25 (by decide) ?_)
        refine r_icmp_ge 40 dX1_findFactors_27 (by decide) (by omega) (by omega) (fun c3 => ?_) (fun c3 => ?_)
        · omega
        · refine r_aload_n dX1_findFactors_30 (i := 0) rfl rfl (r_get dX1_findFactors_31 fl_X1_11 h1 rfl (r_iload_n dX1_findFactors_34 (i := 1) rfl rfl (r_iinc dX1_findFactors_35 rfl rfl (r_iload_n dX1_findFactors_38 (i := 3) rfl rfl ?_))))
          refine r_iast dX1_findFactors_39 ps_same (by omega) (by omega) (by omega) ?_
          rw [ps_put_put]
          refine r_loc [(0, some (.ref a)), (1, some (vi ((fc + 1 : Nat) : Int))), (2, some (vi (rest : Int))), (3, some (vi (q : Int)))] ⟨Or.inl rfl, Or.inl rfl, Or.inl rfl, Or.inl rfl, trivial⟩ ?_
          refine l_div ⟨h2q, by omega⟩ rest hr1 (by omega) (fun k rest' hk hnd' => ?_)
          refine r_iinc dX1_findFactors_58 rfl rfl (r_goto 11 dX1_findFactors_61 (by decide) ?_)
          refine r_loc [(0, some (.ref a)), (1, some (vi ((fc + 1 : Nat) : Int))), (2, some (vi (rest' : Int))), (3, some (vi ((q + 1 : Nat) : Int)))] ⟨Or.inl rfl, Or.inl rfl, Or.inl rfl, Or.inl rfl, trivial⟩ ?_
          exact ih (q + 1) rest' (fc + 1) _ (fj_take (by omega) hj hd hk hnd') (by omega) (by omega)
theorem c_X1_findFactors (hp : 3 ≤ p ∧ p ≤ 100003) (h : S.1 a = some (cO 1 [vi (p : Int), .ref (a + 1), v2, v3])) (h' : S.1 (a + 1) = some (cI 6 ff)) : PC g yX1_findFactors cX1_findFactors (iX1_findFactors mc ms) [.ref a] S (fun o S' => ∃ (ff' : Int → Int) (fc' : Nat), FacOk p ff' fc' ∧ o = .inl (some (vi (fc' : Int))) ∧ S' = ps_put S (a + 1) (cI 6 ff')) := by
  refine PC_of pnX1 rfl rfl rfl (Nat.le_of_ble_eq_true rfl) ?_
  refine r_iconst dX1_findFactors_0 (r_istore_n dX1_findFactors_1 (i := 1) rfl rfl (Nat.le_of_ble_eq_true rfl) (r_aload_n dX1_findFactors_2 (i := 0) rfl rfl (r_get dX1_findFactors_3 fl_X1_21 h rfl (r_iconst dX1_findFactors_6 ?_))))
  refine r_isub dX1_findFactors_7 (r_istore_n dX1_findFactors_8 (i := 2) rfl rfl (Nat.le_of_ble_eq_true rfl) (r_iconst dX1_findFactors_9 (r_istore_n dX1_findFactors_10 (i := 3) rfl rfl (Nat.le_of_ble_eq_true rfl) ?_)))
  rw [show ((p : Int) - 1) = ((p - 1 : Nat) : Int) by omega]
  refine r_loc [(0, some (.ref a)), (1, some (vi ((0 : Nat) : Int))), (2, some (vi ((p - 1 : Nat) : Int))), (3, some (vi ((2 : Nat) : Int)))] ⟨Or.inl rfl, Or.inl rfl, Or.inl rfl, Or.inl rfl, trivial⟩ ?_
  refine r_ps (ps_put_self h').symm ?_
  refine l_fact hp h (fun ff' fc' hf => ⟨ff', fc', hf, rfl, rfl⟩) p 2 (p - 1) 0 ff ?_ (by omega) (by omega)
  refine ⟨by omega, Nat.dvd_refl _, by omega, fun d d1 d2 => by omega, fun r _ _ h => h, fun i hi => by omega, fun r r1 _ r3 => by have := r1.1; omega, ?_, 1, by omega, Nat.le_refl 1, by omega, fun h => by omega, by omega⟩
  show 0 = 0 + isf _ 0 + isf _ 1
  rw [isf_0 (fun z => by have := z.1.1; omega), isf_0 (fun z => by have := z.1.1; omega)]
end FACT

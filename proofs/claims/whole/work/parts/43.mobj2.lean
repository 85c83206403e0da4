/-! the model's own helpers: sets, sizes, bounds, products, coefficients -/
theorem b2c_01 {p : Prop} : b2c p = 0 ∨ b2c p = 1 := @b2i_01 _ (Classical.propDecidable p)
theorem b2c_eq {p : Prop} (h : b2c p = 0) : ¬ p := @b2i_eq _ (Classical.propDecidable p) h
theorem b2c_ne {p : Prop} (h : b2c p ≠ 0) : p := @b2i_ne _ (Classical.propDecidable p) h
theorem b2c_RI {p : Prop} : RI (b2c p) := @b2i_RI _ (Classical.propDecidable p)
theorem b2c_narZ {p : Prop} : narrow .boolean (vi (b2c p)) = vi (b2c p) := q_narZ b2c_01
/-- the terms of a slot in the row of numbers -/
def tmF (a : Int → Int) (s : Int) : Int → Int := fun k => a (11 + 32 * s + k)
def lacksI (a : Int → Int) (s t : Int) : Int := if (0 ≤ s ∧ s ≤ 3) ∧ 0 ≤ t ∧ t ≤ 3 then (if a (7 + s) = 0 ∨ a (7 + t) = 0 then 2 else 0) else 1
def kindOk (a : Int → Int) (kd s t n : Int) : Prop := kd = 0 ∨ ((1 ≤ kd ∧ kd ≤ 2) ∧ (1 ≤ n ∧ n ≤ 64) ∧ a (7 + s) ≤ n ∧ a (7 + t) ≤ n)
theorem kindOk_dec (a : Int → Int) (kd s t n : Int) : kindOk a kd s t n ∨ ¬ kindOk a kd s t n := Classical.em _
noncomputable def refI (a : Int → Int) (kd s t n : Int) : Int := if 0 < lacksI a s t then lacksI a s t else 3 - 3 * b2c (kindOk a kd s t n)
def sizI (a : Int → Int) (kd s t n : Int) : Int := if kd = 0 then a (7 + s) + a (7 + t) - 1 else n
def bndI (a : Int → Int) (s t : Int) : Int := min (a (7 + s)) (a (7 + t)) * imax (tmF a s) (a (7 + s)).toNat * imax (tmF a t) (a (7 + t)).toNat
/-- the product of the primes of a set -/
noncomputable def prS (a : Int → Int) (set : Int) : Nat → Int
  | 0 => 1
  | k + 1 => prS a set k * (if b2c (bt set (k : Int)) = 1 then a (1 + (k : Int)) else 1)
theorem prS_t {a : Int → Int} {set : Int} {k : Nat} (h : bt set (k : Int)) : prS a set (k + 1) = prS a set k * a (1 + (k : Int)) := by
  show _ * (if _ then _ else _) = _
  rw [b2c_t h, if_pos rfl]
theorem prS_f {a : Int → Int} {set : Int} {k : Nat} (h : ¬ bt set (k : Int)) : prS a set (k + 1) = prS a set k := by
  show _ * (if _ then _ else _) = _
  rw [b2c_f h, if_neg (by decide), Int.mul_one]
theorem prS_step {a : Int → Int} {set : Int} {k : Nat} (hp : 1 ≤ a (1 + (k : Int))) (h : 1 ≤ prS a set k) : prS a set k ≤ prS a set (k + 1) := by
  by_cases hb : bt set (k : Int)
  · rw [prS_t hb]
    have := Int.mul_le_mul_of_nonneg_left hp (show 0 ≤ prS a set k by omega)
    omega
  · rw [prS_f hb]
    omega
theorem prS_pos {a : Int → Int} {set : Int} (hp : MP a) : ∀ k : Nat, (k : Int) ≤ a 0 → 1 ≤ prS a set k
  | 0, _ => Int.le_refl 1
  | k + 1, hk => by
    have h1 := prS_pos (set := set) hp k (by omega)
    have h2 := hp.2 k (by omega) (by omega)
    have := prS_step (a := a) (set := set) (k := k) (by omega) h1
    omega
theorem prS_mono {a : Int → Int} {set : Int} (hp : MP a) {k : Nat} : ∀ j : Nat, ((k + j : Nat) : Int) ≤ a 0 → prS a set k ≤ prS a set (k + j)
  | 0, _ => Int.le_refl _
  | j + 1, hj => by
    have h1 := prS_mono (set := set) hp (k := k) j (by omega)
    have h2 := prS_pos (set := set) hp (k + j) (by omega)
    have h3 := hp.2 ((k + j : Nat) : Int) (by omega) (by omega)
    have := prS_step (a := a) (set := set) (k := k + j) (by omega) h2
    show _ ≤ prS a set (k + j + 1)
    omega
/-- the set's product, capped -/
noncomputable def prC (a : Int → Int) (set : Int) : Int := if prS a set (a 0).toNat ≤ 4000000000000000000 then prS a set (a 0).toNat else 4000000000000000001
/-- the weight of the place i + j - k -/
def wgt (kd n by' : Int) : Int := if kd = 0 then (if by' = 0 then 1 else 0) else if by' % n = 0 then (if kd = 2 ∧ ¬ (by' / n) % 2 = 0 then -1 else 1) else 0
def cfJ (kd n k : Int) (x : Int) (h : Int → Int) (i : Int) : Nat → Int
  | 0 => 0
  | j + 1 => cfJ kd n k x h i j + wgt kd n (i + j - k) * (x * h j)
def cfI (kd n k : Int) (f h : Int → Int) (lb : Nat) : Nat → Int
  | 0 => 0
  | i + 1 => cfI kd n k f h lb i + cfJ kd n k (f i) h i lb
theorem wgt_bd (kd n b : Int) : -1 ≤ wgt kd n b ∧ wgt kd n b ≤ 1 := by
  unfold wgt
  split
  · split <;> omega
  · split
    · split <;> omega
    · omega
theorem mul_bd2 {x y M N : Int} (hM : 0 ≤ M) (hN : 0 ≤ N) (h1 : -M ≤ x ∧ x ≤ M) (h2 : -N ≤ y ∧ y ≤ N) : -(M * N) ≤ x * y ∧ x * y ≤ M * N := by
  have e : (x * y).natAbs ≤ M.natAbs * N.natAbs := by
    rw [Int.natAbs_mul]
    exact Nat.mul_le_mul (by omega) (by omega)
  have e2 : ((M.natAbs * N.natAbs : Nat) : Int) = M * N := by
    rw [Int.natCast_mul, Int.natAbs_of_nonneg hM, Int.natAbs_of_nonneg hN]
  omega
theorem cfJ_bd {kd n k x i : Int} {h : Int → Int} (hx : -9999 ≤ x ∧ x ≤ 9999) : ∀ j : Nat, (∀ q : Int, 0 ≤ q → q < j → -9999 ≤ h q ∧ h q ≤ 9999) → -(99980001 * (j : Int)) ≤ cfJ kd n k x h i j ∧ cfJ kd n k x h i j ≤ 99980001 * (j : Int)
  | 0, _ => ⟨Int.le_refl _, Int.le_refl _⟩
  | j + 1, hh => by
    have h1 := cfJ_bd (kd := kd) (n := n) (k := k) (i := i) hx j (fun q q1 q2 => hh q q1 (by omega))
    have h2 := mul_bd2 (by omega) (by omega) hx (hh j (by omega) (by omega))
    have h3 := mul_bd2 (M := 1) (by omega) (by omega) (wgt_bd kd n (i + j - k)) h2
    show -(99980001 * ((j + 1 : Nat) : Int)) ≤ _ + _ ∧ _ + _ ≤ _
    omega
theorem cfI_bd {kd n k : Int} {f h : Int → Int} {lb : Nat} (hlb : lb ≤ 32) (hh : ∀ q : Int, 0 ≤ q → q < lb → -9999 ≤ h q ∧ h q ≤ 9999) : ∀ i : Nat, (∀ q : Int, 0 ≤ q → q < i → -9999 ≤ f q ∧ f q ≤ 9999) → -(3199360032 * (i : Int)) ≤ cfI kd n k f h lb i ∧ cfI kd n k f h lb i ≤ 3199360032 * (i : Int)
  | 0, _ => ⟨Int.le_refl _, Int.le_refl _⟩
  | i + 1, hf => by
    have h1 := cfI_bd (kd := kd) (n := n) (k := k) hlb hh i (fun q q1 q2 => hf q q1 (by omega))
    have h2 := cfJ_bd (kd := kd) (n := n) (k := k) (i := i) (hf i (by omega) (by omega)) lb hh
    show -(3199360032 * ((i + 1 : Nat) : Int)) ≤ _ + _ ∧ _ + _ ≤ _
    omega
theorem tdiv_0 {b n : Int} (h : b % n = 0) : Int.tdiv b n = b / n := Int.tdiv_eq_ediv_of_dvd (Int.dvd_of_emod_eq_zero h)
theorem quo_bd {b n : Int} (hn : 1 ≤ n) (h : -64 ≤ b ∧ b ≤ 64) : -64 ≤ b / n ∧ b / n ≤ 64 := by
  have h1 := Int.ediv_le_ediv (show (0 : Int) < n by omega) h.2
  have h3 : (64 : Int) / n ≤ 64 := Int.ediv_le_self n (by omega)
  have h4 := Int.le_ediv_of_mul_le (a := -64) (b := b) (c := n) (by omega) (by
    have := Int.mul_le_mul_of_nonneg_left hn (show (0 : Int) ≤ 64 by omega)
    omega)
  omega
section MOBJ2
variable {g : GT} {S : PS} {mc ms : Nat} {Q : PO → PS → Prop} {kc ks : Nat} {m : Nat} {a : Int → Int} {fs : List Value}
theorem l_has {p : Int} (h : S.1 m = some (cO 10 (.ref (m + 1) :: fs))) (ha : S.1 (m + 1) = some (cJ 215 a)) (hp : MP a) (hr : RI p) (hq : ∀ b, b = b2c (∃ k : Int, 0 ≤ k ∧ k < a 0 ∧ a (1 + k) = p) → Q (.inl (some (vi b))) S) : ∀ (n k : Nat), (k : Int) + n = a 0 → (∀ j : Int, 0 ≤ j → j < k → a (1 + j) ≠ p) →
    PW g cX10_has (iX10_has mc ms) 2 [(0, some (.ref m)), (1, some (vi p)), (2, some (vi (k : Int)))] [] S kc ks Q := by
  intro n
  have hn := hp.1
  induction n with
  | zero =>
    intro k hk hj
    refine r_iload_n dX10_has_2 (i := 2) rfl rfl (r_i2l dX10_has_3 (by omega) (r_aload_n dX10_has_4 (i := 0) rfl rfl (r_get dX10_has_5 fl_X10_7 h rfl (r_iconst dX10_has_8 ?_))))
    refine r_lald dX10_has_9 ha (by omega) (by omega) (by omega) ?_
    refine r_lcmp_ge 36 dX10_has_10 dX10_has_11 (by decide) (by omega) (by omega) (fun c1 => ?_) (fun c1 => ?_)
    · refine r_iconst dX10_has_36 ?_
      refine r_iret dX10_has_37 rfl (q_narZ (by first | exact Or.inl rfl | exact Or.inr rfl)) ?_
      exact hq 0 (b2c_f (fun ⟨j, j1, j2, j3⟩ => hj j j1 (by omega) j3)).symm
    · omega
  | succ n ih =>
    intro k hk hj
    have hpk := hp.2 k (by omega) (by omega)
    refine r_iload_n dX10_has_2 (i := 2) rfl rfl (r_i2l dX10_has_3 (by omega) (r_aload_n dX10_has_4 (i := 0) rfl rfl (r_get dX10_has_5 fl_X10_7 h rfl (r_iconst dX10_has_8 ?_))))
    refine r_lald dX10_has_9 ha (by omega) (by omega) (by omega) ?_
    refine r_lcmp_ge 36 dX10_has_10 dX10_has_11 (by decide) (by omega) (by omega) (fun c1 => ?_) (fun c1 => ?_)
    · omega
    · refine r_aload_n dX10_has_14 (i := 0) rfl rfl (r_get dX10_has_15 fl_X10_7 h rfl (r_iconst dX10_has_18 (r_iload_n dX10_has_19 (i := 2) rfl rfl (r_iadd dX10_has_20 ?_))))
      refine r_lald dX10_has_21 ha (by omega) (by omega) (by omega) (r_iload_n dX10_has_22 (i := 1) rfl rfl (r_i2l dX10_has_23 (by omega) ?_))
      refine r_lcmp_ne 30 dX10_has_24 dX10_has_25 (by decide) (by omega) (by omega) (fun c2 => ?_) (fun c2 => ?_)
      · refine r_iinc dX10_has_30 rfl rfl (r_goto 2 dX10_has_33 (by decide) ?_)
        refine r_loc [(0, some (.ref m)), (1, some (vi p)), (2, some (vi ((k + 1 : Nat) : Int)))] ⟨Or.inl rfl, Or.inl rfl, Or.inl rfl, trivial⟩ (ih (k + 1) (by omega) (fun j j1 j2 => ?_))
        by_cases z : j = k
        · subst z
          omega
        · exact hj j j1 (by omega)
      · refine r_iconst dX10_has_28 ?_
        refine r_iret dX10_has_29 rfl (q_narZ (by first | exact Or.inl rfl | exact Or.inr rfl)) ?_
        exact hq 1 (b2c_t ⟨(k : Int), by omega, by omega, by omega⟩).symm
theorem c_X10_has {p : Int} (h : S.1 m = some (cO 10 (.ref (m + 1) :: fs))) (ha : S.1 (m + 1) = some (cJ 215 a)) (hp : MP a) (hr : RI p) : PC g yX10_has cX10_has (iX10_has mc ms) [.ref m, vi p] S (Rt (some (vi (b2c (∃ k : Int, 0 ≤ k ∧ k < a 0 ∧ a (1 + k) = p)))) S) := by
  refine PC_of pnX10 rfl rfl rfl (Nat.le_of_ble_eq_true rfl) ?_
  have hn := hp.1
  refine r_iconst dX10_has_0 (r_istore_n dX10_has_1 (i := 2) rfl rfl (Nat.le_of_ble_eq_true rfl) ?_)
  exact r_loc [(0, some (.ref m)), (1, some (vi p)), (2, some (vi ((0 : Nat) : Int)))] ⟨Or.inl rfl, Or.inl rfl, Or.inl rfl, trivial⟩ (l_has h ha hp hr (fun b hb => ⟨by rw [hb], rfl⟩) (a 0).toNat 0 (by omega) (fun j j1 j2 => by omega))
def HaveAll (a : Int → Int) (set n : Int) : Prop := ∀ k : Int, 0 ≤ k → k < a 0 → bt set k → (a (1 + k) - 1) % n = 0
theorem l_allHave {set n0 : Int} (h : S.1 m = some (cO 10 (.ref (m + 1) :: fs))) (ha : S.1 (m + 1) = some (cJ 215 a)) (hp : MP a) (hs : 0 ≤ set ∧ set ≤ 64) (hn0 : 1 ≤ n0 ∧ n0 ≤ 200) (hq : ∀ b, b = b2c (HaveAll a set n0) → Q (.inl (some (vi b))) S) : ∀ (n k : Nat), (k : Int) + n = a 0 → (∀ j : Int, 0 ≤ j → j < k → bt set j → (a (1 + j) - 1) % n0 = 0) →
    PW g cX10_allHave (iX10_allHave mc ms) 2 [(0, some (.ref m)), (1, some (vi set)), (2, some (vi n0)), (3, some (vi (k : Int)))] [] S kc ks Q := by
  intro n
  have hn := hp.1
  induction n with
  | zero =>
    intro k hk hj
    refine r_iload_n dX10_allHave_2 (i := 3) rfl rfl (r_i2l dX10_allHave_3 (by omega) (r_aload_n dX10_allHave_4 (i := 0) rfl rfl (r_get dX10_allHave_5 fl_X10_7 h rfl (r_iconst dX10_allHave_8 ?_))))
    refine r_lald dX10_allHave_9 ha (by omega) (by omega) (by omega) ?_
    refine r_lcmp_ge 43 dX10_allHave_10 dX10_allHave_11 (by decide) (by omega) (by omega) (fun c1 => ?_) (fun c1 => ?_)
    · refine r_iconst dX10_allHave_43 ?_
      refine r_iret dX10_allHave_44 rfl (q_narZ (by first | exact Or.inl rfl | exact Or.inr rfl)) ?_
      exact hq 1 (b2c_t (fun j j1 j2 => hj j j1 (by omega))).symm
    · omega
  | succ n ih =>
    intro k hk hj
    have hpk := hp.2 k (by omega) (by omega)
    have hdb := div_bd hs.1 hs.2 (k : Int)
    have e1 := Int.emod_nonneg (a (1 + (k : Int)) - 1) (show n0 ≠ 0 by omega)
    have e2 := Int.emod_lt_of_pos (a (1 + (k : Int)) - 1) (show 0 < n0 by omega)
    refine r_iload_n dX10_allHave_2 (i := 3) rfl rfl (r_i2l dX10_allHave_3 (by omega) (r_aload_n dX10_allHave_4 (i := 0) rfl rfl (r_get dX10_allHave_5 fl_X10_7 h rfl (r_iconst dX10_allHave_8 ?_))))
    refine r_lald dX10_allHave_9 ha (by omega) (by omega) (by omega) ?_
    refine r_lcmp_ge 43 dX10_allHave_10 dX10_allHave_11 (by decide) (by omega) (by omega) (fun c1 => ?_) (fun c1 => ?_)
    · omega
    · refine r_iload_n dX10_allHave_14 (i := 1) rfl rfl (r_iload_n dX10_allHave_15 (i := 3) rfl rfl ?_)
      refine r_ishr (set / 2 ^ (k : Int).toNat) dX10_allHave_16 (q_shr ⟨by omega, by omega⟩ (by omega)) ?_
      refine r_iconst dX10_allHave_17 ?_
      refine r_iand (set / 2 ^ (k : Int).toNat % 2) dX10_allHave_18 (q_and1 (by omega) (by omega)) ?_
      refine r_iconst dX10_allHave_19 ?_
      refine r_icmp_ne 37 dX10_allHave_20 (by decide) (by omega) (by omega) (fun c2 => ?_) (fun c2 => ?_)
      · refine r_iinc dX10_allHave_37 rfl rfl (r_goto 2 dX10_allHave_40 (by decide) ?_)
        refine r_loc [(0, some (.ref m)), (1, some (vi set)), (2, some (vi n0)), (3, some (vi ((k + 1 : Nat) : Int)))] ⟨Or.inl rfl, Or.inl rfl, Or.inl rfl, Or.inl rfl, trivial⟩ (ih (k + 1) (by omega) (fun j j1 j2 j3 => ?_))
        by_cases z : j = k
        · subst z
          first | omega | exact absurd j3 (by assumption)
        · exact hj j j1 (by omega) j3
      · refine r_aload_n dX10_allHave_23 (i := 0) rfl rfl (r_iload_n dX10_allHave_24 (i := 3) rfl rfl (c_vr dX10_allHave_25 (c_X10_primeAt h ha (by omega)) rfl rfl mq_X10_primeAt ml_X10_165 ⟨Nat.le_of_ble_eq_true rfl, Nat.le_of_ble_eq_true rfl⟩ h rfl rfl rfl (Nat.le_of_ble_eq_true rfl) (r_iconst dX10_allHave_28 (r_isub dX10_allHave_29 ?_))))
        refine r_iload_n dX10_allHave_30 (i := 2) rfl rfl (r_iremN dX10_allHave_31 (by omega) (by omega) (by omega) (by omega) ?_)
        refine r_if_eq 37 dX10_allHave_32 (by decide) (by omega) (fun c3 => ?_) (fun c3 => ?_)
        · refine r_iinc dX10_allHave_37 rfl rfl (r_goto 2 dX10_allHave_40 (by decide) ?_)
          refine r_loc [(0, some (.ref m)), (1, some (vi set)), (2, some (vi n0)), (3, some (vi ((k + 1 : Nat) : Int)))] ⟨Or.inl rfl, Or.inl rfl, Or.inl rfl, Or.inl rfl, trivial⟩ (ih (k + 1) (by omega) (fun j j1 j2 j3 => ?_))
          by_cases z : j = k
          · subst z
            first | omega | exact absurd j3 (by assumption)
          · exact hj j j1 (by omega) j3
        · refine r_iconst dX10_allHave_35 ?_
          refine r_iret dX10_allHave_36 rfl (q_narZ (by first | exact Or.inl rfl | exact Or.inr rfl)) ?_
          exact hq 0 (b2c_f (fun z => by have := z k (by omega) (by omega) (by assumption); omega)).symm
theorem c_X10_allHave {set n0 : Int} (h : S.1 m = some (cO 10 (.ref (m + 1) :: fs))) (ha : S.1 (m + 1) = some (cJ 215 a)) (hp : MP a) (hs : 0 ≤ set ∧ set ≤ 64) (hn0 : 1 ≤ n0 ∧ n0 ≤ 200) : PC g yX10_allHave cX10_allHave (iX10_allHave mc ms) [.ref m, vi set, vi n0] S (Rt (some (vi (b2c (HaveAll a set n0)))) S) := by
  refine PC_of pnX10 rfl rfl rfl (Nat.le_of_ble_eq_true rfl) ?_
  have hn := hp.1
  refine r_iconst dX10_allHave_0 (r_istore_n dX10_allHave_1 (i := 3) rfl rfl (Nat.le_of_ble_eq_true rfl) ?_)
  exact r_loc [(0, some (.ref m)), (1, some (vi set)), (2, some (vi n0)), (3, some (vi ((0 : Nat) : Int)))] ⟨Or.inl rfl, Or.inl rfl, Or.inl rfl, Or.inl rfl, trivial⟩ (l_allHave h ha hp hs hn0 (fun b hb => ⟨by rw [hb], rfl⟩) (a 0).toNat 0 (by omega) (fun j j1 j2 => by omega))
theorem c_X10_lacks {s t : Int} (h : S.1 m = some (cO 10 (.ref (m + 1) :: fs))) (ha : S.1 (m + 1) = some (cJ 215 a)) (hl : ML a) (hs : RI s) (ht : RI t) : PC g yX10_lacks cX10_lacks (iX10_lacks mc ms) [.ref m, vi s, vi t] S (Rt (some (vi (lacksI a s t))) S) := by
  refine PC_of pnX10 rfl rfl rfl (Nat.le_of_ble_eq_true rfl) ?_
  refine r_iload_n dX10_lacks_0 (i := 1) rfl rfl (c_sr dX10_lacks_1 (c_X10_isSlot ⟨by omega, by omega⟩) rfl rfl mq_X10_isSlot ml_X10_191 ⟨Nat.le_of_ble_eq_true rfl, Nat.le_of_ble_eq_true rfl⟩ rfl rfl (Nat.le_of_ble_eq_true rfl) ?_)
  refine r_if_eq 14 dX10_lacks_4 (by decide) b2i_RI (fun c1 => ?_) (fun c1 => ?_)
  · replace c1 := b2i_eq c1
    refine r_iconst dX10_lacks_14 (r_goto 39 dX10_lacks_15 (by decide) ?_)
    refine r_iret dX10_lacks_39 rfl rfl ?_
    exact ⟨by unfold lacksI; first | rw [if_neg (by omega)] | rw [if_pos (by omega), if_pos (by omega)] | rw [if_pos (by omega), if_neg (by omega)], rfl⟩
  · replace c1 := b2i_ne c1
    refine r_iload_n dX10_lacks_7 (i := 2) rfl rfl (c_sr dX10_lacks_8 (c_X10_isSlot ⟨by omega, by omega⟩) rfl rfl mq_X10_isSlot ml_X10_191 ⟨Nat.le_of_ble_eq_true rfl, Nat.le_of_ble_eq_true rfl⟩ rfl rfl (Nat.le_of_ble_eq_true rfl) ?_)
    refine r_if_ne 18 dX10_lacks_11 (by decide) b2i_RI (fun c2 => ?_) (fun c2 => ?_)
    · replace c2 := b2i_ne c2
      have hl1 := hl.1 s (by omega) (by omega)
      have hl2 := hl.1 t (by omega) (by omega)
      refine r_aload_n dX10_lacks_18 (i := 0) rfl rfl (r_iload_n dX10_lacks_19 (i := 1) rfl rfl (c_vr dX10_lacks_20 (c_X10_longOf h ha (by omega)) rfl rfl mq_X10_longOf ml_X10_194 ⟨Nat.le_of_ble_eq_true rfl, Nat.le_of_ble_eq_true rfl⟩ h rfl rfl rfl (Nat.le_of_ble_eq_true rfl) ?_))
      refine r_if_eq 34 dX10_lacks_23 (by decide) (by omega) (fun c3 => ?_) (fun c3 => ?_)
      · refine r_iconst dX10_lacks_34 (r_goto 39 dX10_lacks_35 (by decide) ?_)
        refine r_iret dX10_lacks_39 rfl rfl ?_
        exact ⟨by unfold lacksI; first | rw [if_neg (by omega)] | rw [if_pos (by omega), if_pos (by omega)] | rw [if_pos (by omega), if_neg (by omega)], rfl⟩
      · refine r_aload_n dX10_lacks_26 (i := 0) rfl rfl (r_iload_n dX10_lacks_27 (i := 2) rfl rfl (c_vr dX10_lacks_28 (c_X10_longOf h ha (by omega)) rfl rfl mq_X10_longOf ml_X10_194 ⟨Nat.le_of_ble_eq_true rfl, Nat.le_of_ble_eq_true rfl⟩ h rfl rfl rfl (Nat.le_of_ble_eq_true rfl) ?_))
        refine r_if_ne 38 dX10_lacks_31 (by decide) (by omega) (fun c4 => ?_) (fun c4 => ?_)
        · refine r_iconst dX10_lacks_38 ?_
          refine r_iret dX10_lacks_39 rfl rfl ?_
          exact ⟨by unfold lacksI; first | rw [if_neg (by omega)] | rw [if_pos (by omega), if_pos (by omega)] | rw [if_pos (by omega), if_neg (by omega)], rfl⟩
        · refine r_iconst dX10_lacks_34 (r_goto 39 dX10_lacks_35 (by decide) ?_)
          refine r_iret dX10_lacks_39 rfl rfl ?_
          exact ⟨by unfold lacksI; first | rw [if_neg (by omega)] | rw [if_pos (by omega), if_pos (by omega)] | rw [if_pos (by omega), if_neg (by omega)], rfl⟩
    · replace c2 := b2i_eq c2
      refine r_iconst dX10_lacks_14 (r_goto 39 dX10_lacks_15 (by decide) ?_)
      refine r_iret dX10_lacks_39 rfl rfl ?_
      exact ⟨by unfold lacksI; first | rw [if_neg (by omega)] | rw [if_pos (by omega), if_pos (by omega)] | rw [if_pos (by omega), if_neg (by omega)], rfl⟩
theorem c_X10_isKind {kd s t n : Int} (h : S.1 m = some (cO 10 (.ref (m + 1) :: fs))) (ha : S.1 (m + 1) = some (cJ 215 a)) (hl : ML a) (hs : 0 ≤ s ∧ s ≤ 3) (ht : 0 ≤ t ∧ t ≤ 3) (hk : RI kd) (hn : RI n) : PC g yX10_isKind cX10_isKind (iX10_isKind mc ms) [.ref m, vi kd, vi s, vi t, vi n] S (Rt (some (vi (b2c (kindOk a kd s t n)))) S) := by
  refine PC_of pnX10 rfl rfl rfl (Nat.le_of_ble_eq_true rfl) ?_
  have hl1 := hl.1 s (by omega) (by omega)
  have hl2 := hl.1 t (by omega) (by omega)
  refine r_iload_n dX10_isKind_0 (i := 1) rfl rfl ?_
  refine r_if_eq 49 dX10_isKind_1 (by decide) (by omega) (fun c1 => ?_) (fun c1 => ?_)
  · refine r_iconst dX10_isKind_49 (r_goto 54 dX10_isKind_50 (by decide) ?_)
    refine r_iret dX10_isKind_54 rfl (q_narZ (by first | exact Or.inl rfl | exact Or.inr rfl)) ?_
    exact ⟨by first | rw [b2c_t (show kindOk a kd s t n by unfold kindOk; omega)] | rw [b2c_f (show ¬ kindOk a kd s t n by unfold kindOk; omega)], rfl⟩
  · refine r_iload_n dX10_isKind_4 (i := 1) rfl rfl (r_i2l dX10_isKind_5 (by omega) (r_lconst (z := 1) dX10_isKind_6 (by decide) (r_ldc2 dX10_isKind_7 csj_X10_151 (c_sr dX10_isKind_10 (c_X10_isIn ⟨by omega, by omega⟩ ⟨by omega, by omega⟩ ⟨by omega, by omega⟩) rfl rfl mq_X10_isIn ml_X10_46 ⟨Nat.le_of_ble_eq_true rfl, Nat.le_of_ble_eq_true rfl⟩ rfl rfl (Nat.le_of_ble_eq_true rfl) ?_))))
    refine r_if_eq 53 dX10_isKind_13 (by decide) b2i_RI (fun c2 => ?_) (fun c2 => ?_)
    · replace c2 := b2i_eq c2
      refine r_iconst dX10_isKind_53 ?_
      refine r_iret dX10_isKind_54 rfl (q_narZ (by first | exact Or.inl rfl | exact Or.inr rfl)) ?_
      exact ⟨by first | rw [b2c_t (show kindOk a kd s t n by unfold kindOk; omega)] | rw [b2c_f (show ¬ kindOk a kd s t n by unfold kindOk; omega)], rfl⟩
    · replace c2 := b2i_ne c2
      refine r_iload dX10_isKind_16 rfl (r_i2l dX10_isKind_18 (by omega) (r_lconst (z := 1) dX10_isKind_19 (by decide) (r_ldc2 dX10_isKind_20 csj_X10_218 (c_sr dX10_isKind_23 (c_X10_isIn ⟨by omega, by omega⟩ ⟨by omega, by omega⟩ ⟨by omega, by omega⟩) rfl rfl mq_X10_isIn ml_X10_46 ⟨Nat.le_of_ble_eq_true rfl, Nat.le_of_ble_eq_true rfl⟩ rfl rfl (Nat.le_of_ble_eq_true rfl) ?_))))
      refine r_if_eq 53 dX10_isKind_26 (by decide) b2i_RI (fun c3 => ?_) (fun c3 => ?_)
      · replace c3 := b2i_eq c3
        refine r_iconst dX10_isKind_53 ?_
        refine r_iret dX10_isKind_54 rfl (q_narZ (by first | exact Or.inl rfl | exact Or.inr rfl)) ?_
        exact ⟨by first | rw [b2c_t (show kindOk a kd s t n by unfold kindOk; omega)] | rw [b2c_f (show ¬ kindOk a kd s t n by unfold kindOk; omega)], rfl⟩
      · replace c3 := b2i_ne c3
        refine r_iload dX10_isKind_29 rfl (r_aload_n dX10_isKind_31 (i := 0) rfl rfl (r_iload_n dX10_isKind_32 (i := 2) rfl rfl (c_vr dX10_isKind_33 (c_X10_longOf h ha (by omega)) rfl rfl mq_X10_longOf ml_X10_194 ⟨Nat.le_of_ble_eq_true rfl, Nat.le_of_ble_eq_true rfl⟩ h rfl rfl rfl (Nat.le_of_ble_eq_true rfl) ?_)))
        refine r_icmp_lt 53 dX10_isKind_36 (by decide) (by omega) (by omega) (fun c4 => ?_) (fun c4 => ?_)
        · refine r_iconst dX10_isKind_53 ?_
          refine r_iret dX10_isKind_54 rfl (q_narZ (by first | exact Or.inl rfl | exact Or.inr rfl)) ?_
          exact ⟨by first | rw [b2c_t (show kindOk a kd s t n by unfold kindOk; omega)] | rw [b2c_f (show ¬ kindOk a kd s t n by unfold kindOk; omega)], rfl⟩
        · refine r_iload dX10_isKind_39 rfl (r_aload_n dX10_isKind_41 (i := 0) rfl rfl (r_iload_n dX10_isKind_42 (i := 3) rfl rfl (c_vr dX10_isKind_43 (c_X10_longOf h ha (by omega)) rfl rfl mq_X10_longOf ml_X10_194 ⟨Nat.le_of_ble_eq_true rfl, Nat.le_of_ble_eq_true rfl⟩ h rfl rfl rfl (Nat.le_of_ble_eq_true rfl) ?_)))
          refine r_icmp_lt 53 dX10_isKind_46 (by decide) (by omega) (by omega) (fun c5 => ?_) (fun c5 => ?_)
          · refine r_iconst dX10_isKind_53 ?_
            refine r_iret dX10_isKind_54 rfl (q_narZ (by first | exact Or.inl rfl | exact Or.inr rfl)) ?_
            exact ⟨by first | rw [b2c_t (show kindOk a kd s t n by unfold kindOk; omega)] | rw [b2c_f (show ¬ kindOk a kd s t n by unfold kindOk; omega)], rfl⟩
          · refine r_iconst dX10_isKind_49 (r_goto 54 dX10_isKind_50 (by decide) ?_)
            refine r_iret dX10_isKind_54 rfl (q_narZ (by first | exact Or.inl rfl | exact Or.inr rfl)) ?_
            exact ⟨by first | rw [b2c_t (show kindOk a kd s t n by unfold kindOk; omega)] | rw [b2c_f (show ¬ kindOk a kd s t n by unfold kindOk; omega)], rfl⟩
theorem lacksI_bd (a : Int → Int) (s t : Int) : 0 ≤ lacksI a s t ∧ lacksI a s t ≤ 2 := by
  unfold lacksI
  split
  · split <;> omega
  · omega
theorem lacksI_0 {a : Int → Int} {s t : Int} (h : lacksI a s t = 0) : ((0 ≤ s ∧ s ≤ 3) ∧ 0 ≤ t ∧ t ≤ 3) ∧ a (7 + s) ≠ 0 ∧ a (7 + t) ≠ 0 := by
  unfold lacksI at h
  split at h
  · split at h <;> omega
  · omega
theorem c_X10_refusal {kd s t n : Int} (h : S.1 m = some (cO 10 (.ref (m + 1) :: fs))) (ha : S.1 (m + 1) = some (cJ 215 a)) (hl : ML a) (hs : RI s) (ht : RI t) (hk : RI kd) (hn : RI n) : PC g yX10_refusal cX10_refusal (iX10_refusal mc ms) [.ref m, vi kd, vi s, vi t, vi n] S (Rt (some (vi (refI a kd s t n))) S) := by
  refine PC_of pnX10 rfl rfl rfl (Nat.le_of_ble_eq_true rfl) ?_
  have hb := lacksI_bd a s t
  refine r_aload_n dX10_refusal_0 (i := 0) rfl rfl (r_iload_n dX10_refusal_1 (i := 2) rfl rfl (r_iload_n dX10_refusal_2 (i := 3) rfl rfl (c_vr dX10_refusal_3 (c_X10_lacks h ha hl hs ht) rfl rfl mq_X10_lacks ml_X10_237 ⟨Nat.le_of_ble_eq_true rfl, Nat.le_of_ble_eq_true rfl⟩ h rfl rfl rfl (Nat.le_of_ble_eq_true rfl) (r_istore dX10_refusal_6 rfl (Nat.le_of_ble_eq_true rfl) ?_))))
  refine r_iload dX10_refusal_8 rfl ?_
  refine r_if_le 18 dX10_refusal_10 (by decide) (by omega) (fun c1 => ?_) (fun c1 => ?_)
  · have hz := lacksI_0 (show lacksI a s t = 0 by omega)
    refine r_aload_n dX10_refusal_18 (i := 0) rfl rfl (r_iload_n dX10_refusal_19 (i := 1) rfl rfl (r_iload_n dX10_refusal_20 (i := 2) rfl rfl (r_iload_n dX10_refusal_21 (i := 3) rfl rfl (r_iload dX10_refusal_22 rfl ?_))))
    refine c_vr dX10_refusal_24 (c_X10_isKind h ha hl (by omega) (by omega) hk hn) rfl rfl mq_X10_isKind ml_X10_240 ⟨Nat.le_of_ble_eq_true rfl, Nat.le_of_ble_eq_true rfl⟩ h rfl rfl rfl (Nat.le_of_ble_eq_true rfl) ?_
    refine r_if_eq 34 dX10_refusal_27 (by decide) b2c_RI (fun c2 => ?_) (fun c2 => ?_)
    · replace c2 := b2c_eq c2
      refine r_iconst dX10_refusal_34 ?_
      refine r_iret dX10_refusal_35 rfl rfl ?_
      exact ⟨by unfold refI; first | rw [if_pos (by omega)] | rw [if_neg (by omega), b2c_t (by assumption)]; rfl | rw [if_neg (by omega), b2c_f (by assumption)]; rfl, rfl⟩
    · replace c2 := b2c_ne c2
      refine r_iconst dX10_refusal_30 (r_goto 35 dX10_refusal_31 (by decide) ?_)
      refine r_iret dX10_refusal_35 rfl rfl ?_
      exact ⟨by unfold refI; first | rw [if_pos (by omega)] | rw [if_neg (by omega), b2c_t (by assumption)]; rfl | rw [if_neg (by omega), b2c_f (by assumption)]; rfl, rfl⟩
  · refine r_iload dX10_refusal_13 rfl (r_goto 35 dX10_refusal_15 (by decide) ?_)
    refine r_iret dX10_refusal_35 rfl rfl ?_
    exact ⟨by unfold refI; first | rw [if_pos (by omega)] | rw [if_neg (by omega), b2c_t (by assumption)]; rfl | rw [if_neg (by omega), b2c_f (by assumption)]; rfl, rfl⟩
theorem c_X10_sizeOf {kd s t n : Int} (h : S.1 m = some (cO 10 (.ref (m + 1) :: fs))) (ha : S.1 (m + 1) = some (cJ 215 a)) (hk : RI kd) (hs : kd = 0 → (0 ≤ s ∧ s ≤ 3) ∧ 0 ≤ t ∧ t ≤ 3) : PC g yX10_sizeOf cX10_sizeOf (iX10_sizeOf mc ms) [.ref m, vi kd, vi s, vi t, vi n] S (Rt (some (vi (sizI a kd s t n))) S) := by
  refine PC_of pnX10 rfl rfl rfl (Nat.le_of_ble_eq_true rfl) ?_
  refine r_iload_n dX10_sizeOf_0 (i := 1) rfl rfl ?_
  refine r_if_ne 20 dX10_sizeOf_1 (by decide) (by omega) (fun c1 => ?_) (fun c1 => ?_)
  · refine r_iload dX10_sizeOf_20 rfl ?_
    refine r_iret dX10_sizeOf_22 rfl rfl ?_
    exact ⟨by unfold sizI; first | rw [if_pos (by omega)] | rw [if_neg (by omega)], rfl⟩
  · refine r_aload_n dX10_sizeOf_4 (i := 0) rfl rfl (r_iload_n dX10_sizeOf_5 (i := 2) rfl rfl (c_vr dX10_sizeOf_6 (c_X10_longOf h ha (by omega)) rfl rfl mq_X10_longOf ml_X10_194 ⟨Nat.le_of_ble_eq_true rfl, Nat.le_of_ble_eq_true rfl⟩ h rfl rfl rfl (Nat.le_of_ble_eq_true rfl) (r_aload_n dX10_sizeOf_9 (i := 0) rfl rfl (r_iload_n dX10_sizeOf_10 (i := 3) rfl rfl ?_))))
    refine c_vr dX10_sizeOf_11 (c_X10_longOf h ha (by omega)) rfl rfl mq_X10_longOf ml_X10_194 ⟨Nat.le_of_ble_eq_true rfl, Nat.le_of_ble_eq_true rfl⟩ h rfl rfl rfl (Nat.le_of_ble_eq_true rfl) (r_iadd dX10_sizeOf_14 (r_iconst dX10_sizeOf_15 (r_isub dX10_sizeOf_16 (r_goto 22 dX10_sizeOf_17 (by decide) ?_))))
    refine r_iret dX10_sizeOf_22 rfl rfl ?_
    exact ⟨by unfold sizI; first | rw [if_pos (by omega)] | rw [if_neg (by omega)], rfl⟩
end MOBJ2

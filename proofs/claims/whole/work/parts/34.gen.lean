/-! the lowest bit, the least generator, the order of a unit, a new Field -/
/-- the greatest power of two that divides -/
def LowBit (n v : Nat) : Prop := ∃ k y, n = 2 ^ k * (2 * y + 1) ∧ v = 2 ^ k
theorem odd_and {m y : Nat} (h : 2 * y + 1 < 2 ^ m) : (2 * y + 1) &&& (2 ^ m - (2 * y + 1)) = 1 := by
  refine Nat.eq_of_testBit_eq fun i => ?_
  rw [Nat.testBit_and, Nat.testBit_two_pow_sub_succ (x := 2 * y) (by omega)]
  cases i with
  | zero =>
    have h0 : 0 < m := by
      rcases Nat.eq_zero_or_pos m with e | e
      · subst e
        omega
      · exact e
    rw [Nat.testBit_zero, Nat.testBit_zero, Nat.testBit_zero]
    simp [h0]
  | succ i =>
    rw [Nat.testBit_succ, Nat.testBit_succ, Nat.testBit_succ]
    have e1 : (2 * y + 1) / 2 = y := by omega
    have e2 : (2 * y) / 2 = y := by omega
    rw [e1, e2]
    cases y.testBit i <;> simp
theorem pow_and (k a b : Nat) : (2 ^ k * a) &&& (2 ^ k * b) = 2 ^ k * (a &&& b) := by
  refine Nat.eq_of_testBit_eq fun i => ?_
  rw [Nat.testBit_and, Nat.testBit_two_pow_mul, Nat.testBit_two_pow_mul, Nat.testBit_two_pow_mul, Nat.testBit_and]
  cases decide (i ≥ k) <;> simp
theorem low_and {n v : Nat} (h : LowBit n v) (hn : n < 2147483648) : n &&& (4294967296 - n) = v := by
  obtain ⟨k, y, h1, h2⟩ := h
  have hk : k < 32 := by
    rcases Nat.lt_or_ge k 32 with e | e
    · exact e
    · exfalso
      have e1 := Nat.pow_le_pow_right (show 0 < 2 by omega) e
      have e2 : (2 : Nat) ^ 32 = 4294967296 := rfl
      have e3 := Nat.le_mul_of_pos_right (2 ^ k) (show 0 < 2 * y + 1 by omega)
      omega
  have e4 : (4294967296 : Nat) = 2 ^ k * 2 ^ (32 - k) := by
    rw [← Nat.pow_add, show k + (32 - k) = 32 by omega]
  have hlt : 2 * y + 1 < 2 ^ (32 - k) := by
    rcases Nat.lt_or_ge (2 * y + 1) (2 ^ (32 - k)) with e | e
    · exact e
    · exfalso
      have := Nat.mul_le_mul_left (2 ^ k) e
      omega
  rw [e4, h1, ← Nat.mul_sub, pow_and, odd_and hlt, h2, Nat.mul_one]
theorem q_low {n v : Nat} (h : LowBit n v) (h0 : 0 < n) (hn : n < 2147483648) : Int32.ofInt (n : Int) &&& Int32.ofInt (-(n : Int)) = Int32.ofInt (v : Int) := by
  have hv := low_and h hn
  have hle : v ≤ n := by
    rw [← hv]
    exact Nat.and_le_left
  refine Int32.toBitVec_inj.mp ?_
  rw [Int32.toBitVec_and]
  show BitVec.ofInt 32 _ &&& BitVec.ofInt 32 _ = BitVec.ofInt 32 _
  refine BitVec.eq_of_toNat_eq ?_
  rw [BitVec.toNat_and, BitVec.toNat_ofInt, BitVec.toNat_ofInt, BitVec.toNat_ofInt]
  have e1 : ((n : Int) % ((2 ^ 32 : Nat) : Int)).toNat = n := by omega
  have e2 : ((-(n : Int)) % ((2 ^ 32 : Nat) : Int)).toNat = 4294967296 - n := by omega
  have e3 : ((v : Int) % ((2 ^ 32 : Nat) : Int)).toNat = v := by omega
  rw [e1, e2, e3]
  exact hv
theorem low_ex : ∀ n, 0 < n → ∃ v, LowBit n v := by
  intro n
  induction n using Nat.strongRecOn with
  | ind n ih =>
    intro h0
    rcases Nat.mod_two_eq_zero_or_one n with e | e
    · obtain ⟨v, k, y, h1, h2⟩ := ih (n / 2) (by omega) (by omega)
      refine ⟨2 ^ (k + 1), k + 1, y, ?_, rfl⟩
      rw [Nat.pow_succ, Nat.mul_comm (2 ^ k) 2, Nat.mul_assoc, ← h1]
      omega
    · exact ⟨1, 0, n / 2, by rw [Nat.pow_zero]; omega, rfl⟩
/-- u to the order over r is not 1 for the factors passed -/
def DO (p u i order : Nat) (ff : Int → Int) : Prop := 0 < order ∧ order ∣ p - 1 ∧ u ^ order % p = 1 ∧ ∀ j : Nat, j < i → ∀ r : Nat, ff j = (r : Int) → r ∣ order → u ^ (order / r) % p ≠ 1
theorem DO.down {p u i order q : Nat} {ff : Int → Int} (hp : 2 ≤ p) (h : DO p u i order ff) (hq : 1 < q) (hd : q ∣ order) (h1 : u ^ (order / q) % p = 1) (hr0 : ∀ j : Nat, j < i → ∀ r : Nat, ff j = (r : Int) → 0 < r) : DO p u i (order / q) ff := by
  obtain ⟨a, b, c, d⟩ := h
  obtain ⟨m, hm⟩ := hd
  have e : order / q = m := by rw [hm, Nat.mul_div_cancel_left _ (by omega)]
  rw [e] at h1 ⊢
  refine ⟨?_, Nat.dvd_trans ⟨q, by rw [hm, Nat.mul_comm]⟩ b, h1, fun j hj r hr hrd hc => ?_⟩
  · rcases Nat.eq_zero_or_pos m with z | z
    · subst z
      omega
    · exact z
  · obtain ⟨l, hl⟩ := hrd
    have hr1 := hr0 j hj r hr
    have e2 : order / r = l * q := by
      rw [hm, hl, Nat.mul_comm q, Nat.mul_assoc, Nat.mul_div_cancel_left _ hr1]
    have e3 : m / r = l := by rw [hl, Nat.mul_div_cancel_left _ hr1]
    rw [e3] at hc
    refine d j hj r hr ⟨l * q, by rw [hm, hl, Nat.mul_comm q, Nat.mul_assoc]⟩ ?_
    rw [e2]
    exact pow_mod1 hp hc q
section GEN
variable {g : GT} {S : PS} {mc ms : Nat} {q p fc : Nat} {ff : Int → Int} {v1 v2 v3 : Value} {Q : PO → PS → Prop} {kc ks : Nat}
theorem c_X1_greatestPowerOfTwo {v : Nat} (h : S.1 q = some (cO 1 [vi (p : Int), v1, v2, v3])) (hp : 3 ≤ p ∧ p ≤ 100003) (hv : LowBit (p - 1) v) : PC g yX1_greatestPowerOfTwo cX1_greatestPowerOfTwo (iX1_greatestPowerOfTwo mc ms) [.ref q] S (Rt (some (vi (v : Int))) S) := by
  refine PC_of pnX1 rfl rfl rfl (Nat.le_of_ble_eq_true rfl) ?_
  refine r_aload_n dX1_greatestPowerOfTwo_0 (i := 0) rfl rfl (r_get dX1_greatestPowerOfTwo_1 fl_X1_21 h rfl (r_iconst dX1_greatestPowerOfTwo_4 (r_isub dX1_greatestPowerOfTwo_5 (r_aload_n dX1_greatestPowerOfTwo_6 (i := 0) rfl rfl ?_))))
  refine r_get dX1_greatestPowerOfTwo_7 fl_X1_21 h rfl (r_iconst dX1_greatestPowerOfTwo_10 (r_isub dX1_greatestPowerOfTwo_11 (r_ineg dX1_greatestPowerOfTwo_12 ?_)))
  rw [show ((p : Int) - 1) = ((p - 1 : Nat) : Int) by omega]
  refine r_iand ((v : Int)) dX1_greatestPowerOfTwo_13 (q_low hv (by omega) (by omega)) ?_
  refine r_iret dX1_greatestPowerOfTwo_14 rfl rfl ?_
  exact ⟨rfl, rfl⟩
theorem l_gen_in {e : Nat} (h : S.1 q = some (cO 1 [vi (p : Int), .ref (q + 1), vi (fc : Int), v3])) (h' : S.1 (q + 1) = some (cI 6 ff)) (hp : 3 ≤ p ∧ p ≤ 100003) (hf : FacOk p ff fc) (he : e < p) (k1 : IsGen p e → ∀ i : Int, PW g cX1_leastGenerator (iX1_leastGenerator mc ms) 60 [(0, some (.ref q)), (1, some (vi (e : Int))), (2, some (vi 1)), (3, some (vi i))] [] S kc ks Q) (k0 : ¬ IsGen p e → ∀ i : Int, PW g cX1_leastGenerator (iX1_leastGenerator mc ms) 60 [(0, some (.ref q)), (1, some (vi (e : Int))), (2, some (vi 0)), (3, some (vi i))] [] S kc ks Q) : ∀ (n i : Nat), i + n = fc → (∀ j : Nat, j < i → ∀ r : Nat, ff j = (r : Int) → e ^ ((p - 1) / r) % p ≠ 1) →
    PW g cX1_leastGenerator (iX1_leastGenerator mc ms) 14 [(0, some (.ref q)), (1, some (vi (e : Int))), (2, some (vi 1)), (3, some (vi (i : Int)))] [] S kc ks Q := by
  intro n
  have hfc := hf.1
  induction n with
  | zero =>
    intro i hi hj
    refine r_iload_n dX1_leastGenerator_14 (i := 3) rfl rfl (r_aload_n dX1_leastGenerator_15 (i := 0) rfl rfl (r_get dX1_leastGenerator_16 fl_X1_29 h rfl ?_))
    refine r_icmp_ge 60 dX1_leastGenerator_19 (by decide) (by omega) (by omega) (fun c1 => ?_) (fun c1 => ?_)
    · refine k1 (fun r hr hrd => ?_) i
      obtain ⟨j, hj1, hj2⟩ := hf.2.2.1 r hr hrd
      exact hj j (by omega) r hj2
    · omega
  | succ n ih =>
    intro i hi hj
    obtain ⟨r, hr, hrd, hri⟩ := hf.2.1 i (by omega)
    have hr2 := hr.1
    have hrl := Nat.le_of_dvd (by omega) hrd
    have hd := Nat.div_le_self (p - 1) r
    have hm := Nat.mod_lt (e ^ ((p - 1) / r)) (show 0 < p by omega)
    refine r_iload_n dX1_leastGenerator_14 (i := 3) rfl rfl (r_aload_n dX1_leastGenerator_15 (i := 0) rfl rfl (r_get dX1_leastGenerator_16 fl_X1_29 h rfl ?_))
    refine r_icmp_ge 60 dX1_leastGenerator_19 (by decide) (by omega) (by omega) (fun c1 => ?_) (fun c1 => ?_)
    · omega
    · refine r_iload_n dX1_leastGenerator_22 (i := 2) rfl rfl ?_
      refine r_if_eq 60 dX1_leastGenerator_23 (by decide) (by omega) (fun c2 => ?_) (fun c2 => ?_)
      · omega
      · refine r_aload_n dX1_leastGenerator_26 (i := 0) rfl rfl (r_iload_n dX1_leastGenerator_27 (i := 1) rfl rfl (r_aload_n dX1_leastGenerator_28 (i := 0) rfl rfl (r_get dX1_leastGenerator_29 fl_X1_21 h rfl (r_iconst dX1_leastGenerator_32 ?_))))
        refine r_isub dX1_leastGenerator_33 (r_aload_n dX1_leastGenerator_34 (i := 0) rfl rfl (r_get dX1_leastGenerator_35 fl_X1_11 h rfl (r_iload_n dX1_leastGenerator_38 (i := 3) rfl rfl (r_iald dX1_leastGenerator_39 h' (by omega) (by omega) (by omega) ?_))))
        rw [hri]
        refine r_idivN dX1_leastGenerator_40 (by omega) (by omega) (by omega) (by omega) ?_
        rw [show ((p : Int) - 1) = ((p - 1 : Nat) : Int) by omega, ← Int.natCast_ediv]
        refine c_vr dX1_leastGenerator_41 (c_X1_raise h hp he (by omega)) rfl rfl mq_X1_raise ml_X1_38 ⟨Nat.le_of_ble_eq_true rfl, Nat.le_of_ble_eq_true rfl⟩ h rfl rfl rfl (Nat.le_of_ble_eq_true rfl) (r_iconst dX1_leastGenerator_44 ?_)
        refine r_icmp_eq 52 dX1_leastGenerator_45 (by decide) (by omega) (by omega) (fun c3 => ?_) (fun c3 => ?_)
        · have hng : ¬ IsGen p e := fun hg => hg r hr hrd (by omega)
          have hi0 : i < 6 := by omega
          refine r_iconst dX1_leastGenerator_52 (r_istore_n dX1_leastGenerator_53 (i := 2) rfl rfl (Nat.le_of_ble_eq_true rfl) (r_iinc dX1_leastGenerator_54 rfl rfl (r_goto 14 dX1_leastGenerator_57 (by decide) (r_iload_n dX1_leastGenerator_14 (i := 3) rfl rfl ?_))))
          refine r_aload_n dX1_leastGenerator_15 (i := 0) rfl rfl (r_get dX1_leastGenerator_16 fl_X1_29 h rfl ?_)
          refine r_icmp_ge 60 dX1_leastGenerator_19 (by decide) (by omega) (by omega) (fun c4 => ?_) (fun c4 => ?_)
          · exact r_loc [(0, some (.ref q)), (1, some (vi (e : Int))), (2, some (vi 0)), (3, some (vi ((i : Int) + 1)))] ⟨Or.inl rfl, Or.inl rfl, Or.inl rfl, Or.inl rfl, trivial⟩ (k0 hng _)
          · refine r_iload_n dX1_leastGenerator_22 (i := 2) rfl rfl ?_
            refine r_if_eq 60 dX1_leastGenerator_23 (by decide) (by omega) (fun c5 => ?_) (fun c5 => ?_)
            · exact r_loc [(0, some (.ref q)), (1, some (vi (e : Int))), (2, some (vi 0)), (3, some (vi ((i : Int) + 1)))] ⟨Or.inl rfl, Or.inl rfl, Or.inl rfl, Or.inl rfl, trivial⟩ (k0 hng _)
            · omega
        · refine r_iconst dX1_leastGenerator_48 (r_goto 53 dX1_leastGenerator_49 (by decide) (r_istore_n dX1_leastGenerator_53 (i := 2) rfl rfl (Nat.le_of_ble_eq_true rfl) (r_iinc dX1_leastGenerator_54 rfl rfl (r_goto 14 dX1_leastGenerator_57 (by decide) ?_))))
          refine r_loc [(0, some (.ref q)), (1, some (vi (e : Int))), (2, some (vi 1)), (3, some (vi ((i + 1 : Nat) : Int)))] ⟨Or.inl rfl, Or.inl rfl, Or.inl rfl, Or.inl rfl, trivial⟩ ?_
          refine ih (i + 1) (by omega) (fun j hj1 r' hr' => ?_)
          by_cases ej : j = i
          · subst ej
            have : r' = r := by omega
            subst this
            omega
          · exact hj j (by omega) r' hr'
theorem l_gen {e0 : Nat} (h : S.1 q = some (cO 1 [vi (p : Int), .ref (q + 1), vi (fc : Int), v3])) (h' : S.1 (q + 1) = some (cI 6 ff)) (hp : 3 ≤ p ∧ p ≤ 100003) (hf : FacOk p ff fc) (hg0 : GenOf p e0) (hq : Q (.inl (some (vi (e0 : Int)))) S) : ∀ (n e : Nat), e + n = e0 → 2 ≤ e →
    PW g cX1_leastGenerator (iX1_leastGenerator mc ms) 2 [(0, some (.ref q)), (1, some (vi (e : Int)))] [] S kc ks Q := by
  intro n
  have hlt := hg0.2.1
  induction n with
  | zero =>
    intro e he h2
    have : e = e0 := by omega
    subst this
    refine r_iload_n dX1_leastGenerator_2 (i := 1) rfl rfl (r_aload_n dX1_leastGenerator_3 (i := 0) rfl rfl (r_get dX1_leastGenerator_4 fl_X1_21 h rfl ?_))
    refine r_icmp_ge 72 dX1_leastGenerator_7 (by decide) (by omega) (by omega) (fun c1 => ?_) (fun c1 => ?_)
    · omega
    · refine r_iconst dX1_leastGenerator_10 (r_istore_n dX1_leastGenerator_11 (i := 2) rfl rfl (Nat.le_of_ble_eq_true rfl) (r_iconst dX1_leastGenerator_12 (r_istore_n dX1_leastGenerator_13 (i := 3) rfl rfl (Nat.le_of_ble_eq_true rfl) ?_)))
      refine r_loc [(0, some (.ref q)), (1, some (vi (e : Int))), (2, some (vi 1)), (3, some (vi ((0 : Nat) : Int)))] ⟨Or.inl rfl, Or.inl rfl, Or.inl rfl, Or.inl rfl, trivial⟩ ?_
      refine l_gen_in h h' hp hf (by omega) (fun _ i => ?_) (fun hn => absurd hg0.2.2.1 hn) fc 0 (by omega) (fun j hj => by omega)
      refine r_iload_n dX1_leastGenerator_60 (i := 2) rfl rfl ?_
      refine r_if_eq 66 dX1_leastGenerator_61 (by decide) (by omega) (fun c2 => ?_) (fun c2 => ?_)
      · omega
      · refine r_iload_n dX1_leastGenerator_64 (i := 1) rfl rfl (r_iret dX1_leastGenerator_65 rfl rfl ?_)
        exact hq
  | succ n ih =>
    intro e he h2
    have hno := hg0.2.2.2 e h2 (by omega)
    refine r_iload_n dX1_leastGenerator_2 (i := 1) rfl rfl (r_aload_n dX1_leastGenerator_3 (i := 0) rfl rfl (r_get dX1_leastGenerator_4 fl_X1_21 h rfl ?_))
    refine r_icmp_ge 72 dX1_leastGenerator_7 (by decide) (by omega) (by omega) (fun c1 => ?_) (fun c1 => ?_)
    · omega
    · refine r_iconst dX1_leastGenerator_10 (r_istore_n dX1_leastGenerator_11 (i := 2) rfl rfl (Nat.le_of_ble_eq_true rfl) (r_iconst dX1_leastGenerator_12 (r_istore_n dX1_leastGenerator_13 (i := 3) rfl rfl (Nat.le_of_ble_eq_true rfl) ?_)))
      refine r_loc [(0, some (.ref q)), (1, some (vi (e : Int))), (2, some (vi 1)), (3, some (vi ((0 : Nat) : Int)))] ⟨Or.inl rfl, Or.inl rfl, Or.inl rfl, Or.inl rfl, trivial⟩ ?_
      refine l_gen_in h h' hp hf (by omega) (fun hy => absurd hy hno) (fun _ i => ?_) fc 0 (by omega) (fun j hj => by omega)
      refine r_iload_n dX1_leastGenerator_60 (i := 2) rfl rfl ?_
      refine r_if_eq 66 dX1_leastGenerator_61 (by decide) (by omega) (fun c2 => ?_) (fun c2 => ?_)
      · refine r_iinc dX1_leastGenerator_66 rfl rfl (r_goto 2 dX1_leastGenerator_69 (by decide) ?_)
        exact r_loc [(0, some (.ref q)), (1, some (vi ((e + 1 : Nat) : Int)))] ⟨Or.inl rfl, Or.inl rfl, trivial⟩ (ih (e + 1) (by omega) (by omega))
      · omega
theorem c_X1_leastGenerator {e0 : Nat} (h : S.1 q = some (cO 1 [vi (p : Int), .ref (q + 1), vi (fc : Int), v3])) (h' : S.1 (q + 1) = some (cI 6 ff)) (hp : 3 ≤ p ∧ p ≤ 100003) (hf : FacOk p ff fc) (hg0 : GenOf p e0) : PC g yX1_leastGenerator cX1_leastGenerator (iX1_leastGenerator mc ms) [.ref q] S (Rt (some (vi (e0 : Int))) S) := by
  refine PC_of pnX1 rfl rfl rfl (Nat.le_of_ble_eq_true rfl) ?_
  refine r_iconst dX1_leastGenerator_0 (r_istore_n dX1_leastGenerator_1 (i := 1) rfl rfl (Nat.le_of_ble_eq_true rfl) ?_)
  have := hg0.1
  exact r_loc [(0, some (.ref q)), (1, some (vi ((2 : Nat) : Int)))] ⟨Or.inl rfl, Or.inl rfl, trivial⟩ (l_gen h h' hp hf hg0 ⟨rfl, rfl⟩ (e0 - 2) 2 (by omega) (by omega))
theorem l_ord_in {u i r : Nat} (h : S.1 q = some (cO 1 [vi (p : Int), .ref (q + 1), vi (fc : Int), v3])) (hp : 3 ≤ p ∧ p ≤ 100003) (hf : FacOk p ff fc) (hu : u < p) (hi : i < fc) (hr : Pr r) (hri : ff i = (r : Int)) (hrl : r ≤ p - 1) (k : ∀ o : Nat, DO p u (i + 1) o ff → PW g cX1_orderOf (iX1_orderOf mc ms) 64 [(0, some (.ref q)), (1, some (vi (u : Int))), (2, some (vi (o : Int))), (3, some (vi (i : Int))), (4, some (vi (r : Int)))] [] S kc ks Q) : ∀ o : Nat, DO p u i o ff →
    PW g cX1_orderOf (iX1_orderOf mc ms) 25 [(0, some (.ref q)), (1, some (vi (u : Int))), (2, some (vi (o : Int))), (3, some (vi (i : Int))), (4, some (vi (r : Int)))] [] S kc ks Q := by
  intro o
  induction o using Nat.strongRecOn with
  | ind o ih =>
    intro hdo
    have hr2 := hr.1
    have ho := hdo.1
    have hol := Nat.le_of_dvd (by omega) hdo.2.1
    have hend : ¬ r ∣ o ∨ u ^ (o / r) % p ≠ 1 → DO p u (i + 1) o ff := fun hn => ⟨hdo.1, hdo.2.1, hdo.2.2.1, fun j hj r' hr' hrd => by
      by_cases ej : j = i
      · subst ej
        have : r' = r := by omega
        subst this
        rcases hn with z | z
        · exact absurd hrd z
        · exact z
      · exact hdo.2.2.2 j (by omega) r' hr' hrd⟩
    have e1 : (o : Int) % (r : Int) = ((o % r : Nat) : Int) := (Int.natCast_emod _ _).symm
    have e2 : (o : Int) / (r : Int) = ((o / r : Nat) : Int) := (Int.natCast_ediv _ _).symm
    have hml := Nat.mod_lt o (show 0 < r by omega)
    refine r_iload dX1_orderOf_25 rfl (r_iconst dX1_orderOf_27 ?_)
    refine r_icmp_le 64 dX1_orderOf_28 (by decide) (by omega) (by omega) (fun c1 => ?_) (fun c1 => ?_)
    · omega
    · refine r_iload_n dX1_orderOf_31 (i := 2) rfl rfl (r_iconst dX1_orderOf_32 ?_)
      refine r_icmp_le 64 dX1_orderOf_33 (by decide) (by omega) (by omega) (fun c2 => ?_) (fun c2 => ?_)
      · refine k o (hend (Or.inl fun hd => ?_))
        have := Nat.le_of_dvd ho hd
        omega
      · refine r_iload_n dX1_orderOf_36 (i := 2) rfl rfl (r_iload dX1_orderOf_37 rfl (r_iremN dX1_orderOf_39 (by omega) (by omega) (by omega) (by omega) ?_))
        rw [e1]
        refine r_if_ne 64 dX1_orderOf_40 (by decide) (by omega) (fun c3 => ?_) (fun c3 => ?_)
        · refine k o (hend (Or.inl fun hd => ?_))
          have := Nat.mod_eq_zero_of_dvd hd
          omega
        · have hd : r ∣ o := Nat.dvd_of_mod_eq_zero (by omega)
          have hle := Nat.div_le_self o r
          have hlt : o / r < o := Nat.div_lt_self ho (by omega)
          have hm := Nat.mod_lt (u ^ (o / r)) (show 0 < p by omega)
          refine r_aload_n dX1_orderOf_43 (i := 0) rfl rfl (r_iload_n dX1_orderOf_44 (i := 1) rfl rfl (r_iload_n dX1_orderOf_45 (i := 2) rfl rfl (r_iload dX1_orderOf_46 rfl (r_idivN dX1_orderOf_48 (by omega) (by omega) (by omega) (by omega) ?_))))
          rw [e2]
          refine c_vr dX1_orderOf_49 (c_X1_raise h hp hu (by omega)) rfl rfl mq_X1_raise ml_X1_38 ⟨Nat.le_of_ble_eq_true rfl, Nat.le_of_ble_eq_true rfl⟩ h rfl rfl rfl (Nat.le_of_ble_eq_true rfl) (r_iconst dX1_orderOf_52 ?_)
          refine r_icmp_ne 64 dX1_orderOf_53 (by decide) (by omega) (by omega) (fun c4 => ?_) (fun c4 => ?_)
          · exact k o (hend (Or.inr (by omega)))
          · refine r_iload_n dX1_orderOf_56 (i := 2) rfl rfl (r_iload dX1_orderOf_57 rfl (r_idivN dX1_orderOf_59 (by omega) (by omega) (by omega) (by omega) (r_istore_n dX1_orderOf_60 (i := 2) rfl rfl (Nat.le_of_ble_eq_true rfl) (r_goto 25 dX1_orderOf_61 (by decide) ?_))))
            refine r_loc [(0, some (.ref q)), (1, some (vi (u : Int))), (2, some (vi ((o / r : Nat) : Int))), (3, some (vi (i : Int))), (4, some (vi (r : Int)))] ⟨Or.inl rfl, Or.inl rfl, Or.inl rfl, Or.inl rfl, Or.inl rfl, trivial⟩ ?_
            refine ih (o / r) hlt (hdo.down (by omega) (by omega) hd (by omega) (fun j hj r' hr' => ?_))
            obtain ⟨r2, a, b, c⟩ := hf.2.1 j (by omega)
            have := a.1
            omega
theorem l_ord {u e : Nat} (h : S.1 q = some (cO 1 [vi (p : Int), .ref (q + 1), vi (fc : Int), v3])) (h' : S.1 (q + 1) = some (cI 6 ff)) (hp : 3 ≤ p ∧ p ≤ 100003) (hf : FacOk p ff fc) (hu : u < p) (he : LeastOrd p u e) (hq : Q (.inl (some (vi (e : Int)))) S) : ∀ (n i o : Nat), i + n = fc → DO p u i o ff →
    PW g cX1_orderOf (iX1_orderOf mc ms) 9 [(0, some (.ref q)), (1, some (vi (u : Int))), (2, some (vi (o : Int))), (3, some (vi (i : Int)))] [] S kc ks Q := by
  intro n
  have hfc := hf.1
  induction n with
  | zero =>
    intro i o hi hdo
    refine r_iload_n dX1_orderOf_9 (i := 3) rfl rfl (r_aload_n dX1_orderOf_10 (i := 0) rfl rfl (r_get dX1_orderOf_11 fl_X1_29 h rfl ?_))
    refine r_icmp_ge 70 dX1_orderOf_14 (by decide) (by omega) (by omega) (fun c1 => ?_) (fun c1 => ?_)
    · refine r_iload_n dX1_orderOf_70 (i := 2) rfl rfl (r_iret dX1_orderOf_71 rfl rfl ?_)
      have : o = e := by
        refine (ord_least (by omega) hdo.1 ⟨hdo.2.2.1, fun r hr hrd => ?_⟩).uniq he
        obtain ⟨j, hj1, hj2⟩ := hf.2.2.1 r hr (Nat.dvd_trans hrd hdo.2.1)
        exact hdo.2.2.2 j (by omega) r hj2 hrd
      rw [this]
      exact hq
    · omega
  | succ n ih =>
    intro i o hi hdo
    obtain ⟨r, hr, hrd, hri⟩ := hf.2.1 i (by omega)
    have hrl := Nat.le_of_dvd (by omega) hrd
    refine r_iload_n dX1_orderOf_9 (i := 3) rfl rfl (r_aload_n dX1_orderOf_10 (i := 0) rfl rfl (r_get dX1_orderOf_11 fl_X1_29 h rfl ?_))
    refine r_icmp_ge 70 dX1_orderOf_14 (by decide) (by omega) (by omega) (fun c1 => ?_) (fun c1 => ?_)
    · omega
    · refine r_aload_n dX1_orderOf_17 (i := 0) rfl rfl (r_get dX1_orderOf_18 fl_X1_11 h rfl (r_iload_n dX1_orderOf_21 (i := 3) rfl rfl (r_iald dX1_orderOf_22 h' (by omega) (by omega) (by omega) (r_istore dX1_orderOf_23 rfl (Nat.le_of_ble_eq_true rfl) ?_))))
      rw [hri]
      refine r_loc [(0, some (.ref q)), (1, some (vi (u : Int))), (2, some (vi (o : Int))), (3, some (vi (i : Int))), (4, some (vi (r : Int)))] ⟨Or.inl rfl, Or.inl rfl, Or.inl rfl, Or.inl rfl, Or.inl rfl, trivial⟩ ?_
      refine l_ord_in h hp hf hu (by omega) hr hri hrl (fun o' ho' => ?_) o hdo
      refine r_iinc dX1_orderOf_64 rfl rfl (r_goto 9 dX1_orderOf_67 (by decide) ?_)
      exact r_loc [(0, some (.ref q)), (1, some (vi (u : Int))), (2, some (vi (o' : Int))), (3, some (vi ((i + 1 : Nat) : Int)))] ⟨Or.inl rfl, Or.inl rfl, Or.inl rfl, Or.inl rfl, trivial⟩ (ih (i + 1) o' (by omega) ho')
theorem c_X1_orderOf {u e : Nat} (h : S.1 q = some (cO 1 [vi (p : Int), .ref (q + 1), vi (fc : Int), v3])) (h' : S.1 (q + 1) = some (cI 6 ff)) (hp : 3 ≤ p ∧ p ≤ 100003) (hpr : Pr p) (hf : FacOk p ff fc) (hu : 0 < u ∧ u < p) (he : LeastOrd p u e) : PC g yX1_orderOf cX1_orderOf (iX1_orderOf mc ms) [.ref q, vi (u : Int)] S (Rt (some (vi (e : Int))) S) := by
  refine PC_of pnX1 rfl rfl rfl (Nat.le_of_ble_eq_true rfl) ?_
  refine r_aload_n dX1_orderOf_0 (i := 0) rfl rfl (r_get dX1_orderOf_1 fl_X1_21 h rfl (r_iconst dX1_orderOf_4 (r_isub dX1_orderOf_5 (r_istore_n dX1_orderOf_6 (i := 2) rfl rfl (Nat.le_of_ble_eq_true rfl) ?_))))
  refine r_iconst dX1_orderOf_7 (r_istore_n dX1_orderOf_8 (i := 3) rfl rfl (Nat.le_of_ble_eq_true rfl) ?_)
  rw [show ((p : Int) - 1) = ((p - 1 : Nat) : Int) by omega]
  refine r_loc [(0, some (.ref q)), (1, some (vi (u : Int))), (2, some (vi ((p - 1 : Nat) : Int))), (3, some (vi ((0 : Nat) : Int)))] ⟨Or.inl rfl, Or.inl rfl, Or.inl rfl, Or.inl rfl, trivial⟩ ?_
  refine l_ord h h' hp hf hu.2 he ⟨rfl, rfl⟩ fc 0 (p - 1) (by omega) ⟨by omega, Nat.dvd_refl _, fermat hpr (fun hd => ?_), fun j hj => by omega⟩
  have := Nat.le_of_dvd hu.1 hd
  omega
/-- a Field of the prime p: its factors, its generator -/
def FldAt (S : PS) (q p e : Nat) : Prop := ∃ (ff : Int → Int) (fc : Nat), S.1 q = some (cO 1 [vi (p : Int), .ref (q + 1), vi (fc : Int), vi (e : Int)]) ∧ S.1 (q + 1) = some (cI 6 ff) ∧ FacOk p ff fc
theorem c_X1_init {e : Nat} (h : S.1 q = some (cO 1 [vi 0, .null, vi 0, vi 0])) (hs : S.2 = q + 1) (hp : 3 ≤ p ∧ p ≤ 100003) (he : GenOf p e) (hm : 1 ≤ mc) (hm2 : 6 ≤ ms) : PC g yX1_init cX1_init (iX1_init mc ms) [.ref q, vi (p : Int)] S (fun o S' => o = .inl none ∧ ∃ (ff : Int → Int) (fc : Nat), FacOk p ff fc ∧ S' = (fun a => if a = q then some (cO 1 [vi (p : Int), .ref (q + 1), vi (fc : Int), vi (e : Int)]) else if a = q + 1 then some (cI 6 ff) else S.1 a, q + 2)) := by
  refine PC_of pnX1 rfl rfl rfl (Nat.le_of_ble_eq_true rfl) ?_
  refine r_bud (kc' := 0 + 1) (ks' := 0 + 6) (by show 1 ≤ mc; omega) (by show 6 ≤ ms; omega) ?_
  refine r_aload_n dX1_init_0 (i := 0) rfl rfl (r_objInit dX1_init_1 ob_X1_3 w_objI w_objC (Nat.le_of_ble_eq_true rfl) (Nat.le_of_ble_eq_true rfl) (r_aload_n dX1_init_4 (i := 0) rfl rfl (r_bipush dX1_init_5 (by decide) (r_newI (N := 6) dX1_init_7 w_ar_int (by decide) (fun _ => ?_)))))
  have h1 : (ps_new S (cI 6 (fun _ => 0))).1 q = some (cO 1 [vi 0, .null, vi 0, vi 0]) := pn_ne (by omega) h
  have h2 : (ps_new S (cI 6 (fun _ => 0))).1 (q + 1) = some (cI 6 (fun _ => 0)) := by
    rw [← hs]
    exact pn_same
  rw [show S.2 = q + 1 from hs]
  refine r_putF dX1_init_9 flf_X1_11 rfl h1 rfl rfl (Nat.le_of_ble_eq_true rfl) ?_
  refine r_aload_n dX1_init_12 (i := 0) rfl rfl (r_iload_n dX1_init_13 (i := 1) rfl rfl (r_iconst dX1_init_14 (r_mmax dX1_init_15 mw_X1_15 (by omega) (by omega) (Nat.le_of_ble_eq_true rfl) (Nat.le_of_ble_eq_true rfl) ?_)))
  rw [show max (p : Int) 3 = (p : Int) from Int.max_eq_left (by omega)]
  refine r_putF dX1_init_18 flf_X1_21 rfl ps_same rfl rfl (Nat.le_of_ble_eq_true rfl) ?_
  have h3 : ∀ e1 e2, (ps_put (ps_put (ps_new S (cI 6 (fun _ => 0))) q e1) q e2).1 (q + 1) = some (cI 6 (fun _ => 0)) := fun e1 e2 => ps_ne (by omega) (ps_ne (by omega) h2)
  refine r_aload_n dX1_init_21 (i := 0) rfl rfl (r_aload_n dX1_init_22 (i := 0) rfl rfl ?_)
  refine c_vq dX1_init_23 (c_X1_findFactors hp ps_same (h3 _ _)) rfl rfl mq_X1_findFactors ml_X1_25 ⟨Nat.le_of_ble_eq_true rfl, Nat.le_of_ble_eq_true rfl⟩ ps_same rfl rfl rfl (Nat.le_of_ble_eq_true rfl) (fun E S' h => by simp at h) (fun v S' hc => ?_)
  obtain ⟨ff, fc, hf, e1, rfl⟩ := hc
  cases e1
  show PW _ _ _ 26 _ [vi (fc : Int), .ref q] _ _ _ _
  refine r_putF dX1_init_26 flf_X1_29 rfl (ps_ne (by omega) ps_same) rfl rfl (Nat.le_of_ble_eq_true rfl) ?_
  refine r_aload_n dX1_init_29 (i := 0) rfl rfl (r_aload_n dX1_init_30 (i := 0) rfl rfl ?_)
  refine c_vr dX1_init_31 (c_X1_leastGenerator ps_same (ps_ne (by omega) ps_same) hp hf he) rfl rfl mq_X1_leastGenerator ml_X1_32 ⟨Nat.le_of_ble_eq_true rfl, Nat.le_of_ble_eq_true rfl⟩ ps_same rfl rfl rfl (Nat.le_of_ble_eq_true rfl) ?_
  refine r_putF dX1_init_34 flf_X1_35 rfl ps_same rfl rfl (Nat.le_of_ble_eq_true rfl) ?_
  refine r_vret dX1_init_37 rfl ?_
  refine ⟨rfl, ff, fc, hf, ?_⟩
  unfold ps_put ps_new
  rw [hs]
  refine Prod.ext (funext fun a => ?_) rfl
  by_cases e1 : a = q
  · simp [e1]
  · by_cases e2 : a = q + 1
    · simp [e2]
    · simp [e1, e2]
end GEN

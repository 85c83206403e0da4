/-! the model's own helpers: numbers -/
theorem q_land1 {a : Int} (h0 : 0 ≤ a) (h1 : a < 9223372036854775808) : Int64.ofInt a &&& Int64.ofInt 1 = Int64.ofInt (a % 2) := by
  refine Int64.toBitVec_inj.mp ?_
  rw [Int64.toBitVec_and]
  show BitVec.ofInt 64 _ &&& BitVec.ofInt 64 _ = BitVec.ofInt 64 _
  refine BitVec.eq_of_toNat_eq ?_
  rw [BitVec.toNat_and, BitVec.toNat_ofInt, BitVec.toNat_ofInt, BitVec.toNat_ofInt]
  have e1 : (a % ((2 ^ 64 : Nat) : Int)).toNat = a.toNat := by omega
  have e2 : ((1 : Int) % ((2 ^ 64 : Nat) : Int)).toNat = 1 := by decide
  have e3 : ((a % 2) % ((2 ^ 64 : Nat) : Int)).toNat = a.toNat % 2 := by omega
  rw [e1, e2, e3, Nat.and_one_is_mod]
theorem q_lshr1 {a : Int} (h0 : 0 ≤ a) (h1 : a < 9223372036854775808) : Int64.ofInt a >>> ((Int32.ofInt 1).toInt64 &&& 63) = Int64.ofInt (a / 2) := by
  refine Int64.toInt_inj.mp ?_
  rw [q_tJ2 (show RJ (a / 2) from ⟨by omega, by omega⟩)]
  show ((Int64.ofInt a).toBitVec.sshiftRight (((Int32.ofInt 1).toInt64 &&& 63).toBitVec.smod 64).toNat).toInt = _
  rw [show (((Int32.ofInt 1).toInt64 &&& 63).toBitVec.smod 64).toNat = 1 by decide, BitVec.toInt_sshiftRight]
  show (Int64.ofInt a).toInt >>> 1 = _
  rw [q_tJ2 (show RJ a from ⟨by omega, by omega⟩), Int.shiftRight_eq_div_pow]
  rfl
/-- 1 for a prime, else 0 -/
noncomputable def prI (n : Nat) : Int := @b2i (Pr n) (Classical.propDecidable _)
theorem prI_t {n : Nat} (h : Pr n) : prI n = 1 := @b2i_t _ (Classical.propDecidable _) h
theorem prI_f {n : Nat} (h : ¬ Pr n) : prI n = 0 := @b2i_f _ (Classical.propDecidable _) h
/-- the remainder of x, as the model makes it -/
theorem mod_mod (x : Int) {p : Int} (hp : 0 < p) : (Int.tmod x p + p) % p = x % p := by
  rw [Int.add_emod_right, tmod_emod]
/-- the power as both sides make it -/
def pwI (b : Int) (e p : Nat) : Int := (((b % (p : Int)).toNat ^ e % p : Nat) : Int)
section MOD
variable {g : GT} {S : PS} {mc ms : Nat} {Q : PO → PS → Prop} {kc ks : Nat}
theorem c_X10_isIn {v lo hi : Int} (hv : RJ v) (hl : RJ lo) (hh : RJ hi) : PC g yX10_isIn cX10_isIn (iX10_isIn mc ms) [vl v, vl lo, vl hi] S (Rt (some (vi (b2i (lo ≤ v ∧ v ≤ hi)))) S) := by
  refine PC_of pnX10 rfl rfl rfl (Nat.le_of_ble_eq_true rfl) ?_
  refine r_lload_n dX10_isIn_0 (i := 0) rfl rfl (r_lload_n dX10_isIn_1 (i := 2) rfl rfl ?_)
  refine r_lcmp_lt 17 dX10_isIn_2 dX10_isIn_3 (by decide) (by omega) (by omega) (fun c1 => ?_) (fun c1 => ?_)
  · refine r_iconst dX10_isIn_17 ?_
    refine r_iret dX10_isIn_18 rfl (q_narZ (by first | exact Or.inl rfl | exact Or.inr rfl)) ?_
    first | omega | exact ⟨rfl, rfl⟩ | exact ⟨by rw [b2i_t (by omega)], rfl⟩ | exact ⟨by rw [b2i_f (by omega)], rfl⟩
  · refine r_lload_n dX10_isIn_6 (i := 0) rfl rfl (r_lload dX10_isIn_7 rfl ?_)
    refine r_lcmp_gt 17 dX10_isIn_9 dX10_isIn_10 (by decide) (by omega) (by omega) (fun c2 => ?_) (fun c2 => ?_)
    · refine r_iconst dX10_isIn_17 ?_
      refine r_iret dX10_isIn_18 rfl (q_narZ (by first | exact Or.inl rfl | exact Or.inr rfl)) ?_
      first | omega | exact ⟨rfl, rfl⟩ | exact ⟨by rw [b2i_t (by omega)], rfl⟩ | exact ⟨by rw [b2i_f (by omega)], rfl⟩
    · refine r_iconst dX10_isIn_13 (r_goto 18 dX10_isIn_14 (by decide) ?_)
      refine r_iret dX10_isIn_18 rfl (q_narZ (by first | exact Or.inl rfl | exact Or.inr rfl)) ?_
      first | omega | exact ⟨rfl, rfl⟩ | exact ⟨by rw [b2i_t (by omega)], rfl⟩ | exact ⟨by rw [b2i_f (by omega)], rfl⟩
theorem c_X10_modulo {v : Int} {p : Nat} (hv : RJ v) (hp : 1 ≤ p ∧ p ≤ 1000003) : PC g yX10_modulo cX10_modulo (iX10_modulo mc ms) [vl v, vi (p : Int)] S (Rt (some (vi (v % p))) S) := by
  refine PC_of pnX10 rfl rfl rfl (Nat.le_of_ble_eq_true rfl) ?_
  have hd := tmod_bd v (p := (p : Int)) (by omega)
  have hm := mod_mod v (p := (p : Int)) (by omega)
  refine r_lload_n dX10_modulo_0 (i := 0) rfl rfl (r_iload_n dX10_modulo_1 (i := 2) rfl rfl (r_i2l dX10_modulo_2 (by omega) (r_lrem dX10_modulo_3 (by omega) (by omega) (by omega) (r_iload_n dX10_modulo_4 (i := 2) rfl rfl ?_))))
  refine r_i2l dX10_modulo_5 (by omega) (r_ladd dX10_modulo_6 (r_iload_n dX10_modulo_7 (i := 2) rfl rfl (r_i2l dX10_modulo_8 (by omega) (r_lremN dX10_modulo_9  (by omega) (by omega) (by omega) (by omega) ?_))))
  refine r_l2i dX10_modulo_10 (r_iret dX10_modulo_11 rfl rfl ?_)
  exact ⟨by rw [hm], rfl⟩
theorem l_powerOf {p R : Nat} {b e : Int} (hp : 3 ≤ p ∧ p ≤ 100003) (hq : Q (.inl (some (vl (R : Int)))) S) : ∀ (l r s : Nat), r < p → s < p → l < 4611686018427387904 → r * s ^ l % p = R →
    PW g cX10_powerOf (iX10_powerOf mc ms) 18 [(0, some (vl b)), (2, some (vl e)), (4, some (vl (p : Int))), (6, some (vl (r : Int))), (8, some (vl (s : Int))), (10, some (vl (l : Int)))] [] S kc ks Q := by
  intro l
  induction l using Nat.strongRecOn with
  | ind l ih =>
    intro r s hr hs hl hR
    refine r_lload dX10_powerOf_18 rfl (r_lconst (z := 0) dX10_powerOf_20 (by decide) ?_)
    refine r_lcmp_le 63 dX10_powerOf_21 dX10_powerOf_22 (by decide) (by omega) (by omega) (fun h1 => ?_) (fun h1 => ?_)
    · have h0 : l = 0 := by omega
      subst h0
      refine r_lload dX10_powerOf_63 rfl (r_lload dX10_powerOf_65 rfl (r_lremN dX10_powerOf_67 (by omega) (by omega) (by omega) (by omega) (r_lret dX10_powerOf_68 rfl ?_)))
      rw [Nat.pow_zero, Nat.mul_one] at hR
      rw [← Int.natCast_emod, hR]
      exact hq
    · refine r_lload dX10_powerOf_25 rfl (r_lconst (z := 1) dX10_powerOf_27 (by decide) ?_)
      refine r_land ((l : Int) % 2) dX10_powerOf_28 (q_land1 (by omega) (by omega)) ?_
      refine r_lconst (z := 1) dX10_powerOf_29 (by decide) ?_
      have m1 := mul_lt_sq hs hs hp.2
      have m2 := mul_lt_sq hr hs hp.2
      have e1 : ((s : Int) * s) = ((s * s : Nat) : Int) := (Int.natCast_mul s s).symm
      have e2 : ((r : Int) * s) = ((r * s : Nat) : Int) := (Int.natCast_mul r s).symm
      have e3 : ((s * s : Nat) : Int) % (p : Int) = ((s * s % p : Nat) : Int) := (Int.natCast_emod _ _).symm
      have e4 : ((r * s : Nat) : Int) % (p : Int) = ((r * s % p : Nat) : Int) := (Int.natCast_emod _ _).symm
      have s1 : s * s % p < p := Nat.mod_lt _ (by omega)
      have s2 : r * s % p < p := Nat.mod_lt _ (by omega)
      have e5 : (l : Int) / 2 = ((l / 2 : Nat) : Int) := rfl
      refine r_lcmp_ne 44 dX10_powerOf_30 dX10_powerOf_31 (by decide) (by omega) (by omega) (fun h2 => ?_) (fun h2 => ?_)
      · refine r_lload dX10_powerOf_44 rfl (r_lload dX10_powerOf_46 rfl (r_lmul dX10_powerOf_48 ?_))
        rw [e1]
        refine r_lload dX10_powerOf_49 rfl (r_lremN dX10_powerOf_51 (by omega) (by omega) (by omega) (by omega) (r_lstore dX10_powerOf_52 rfl (Nat.le_of_ble_eq_true rfl) (r_lload dX10_powerOf_54 rfl (r_iconst dX10_powerOf_56 ?_))))
        refine r_lshr ((l : Int) / 2) dX10_powerOf_57 (q_lshr1 (by omega) (by omega)) ?_
        refine r_lstore dX10_powerOf_58 rfl (Nat.le_of_ble_eq_true rfl) (r_goto 18 dX10_powerOf_60 (by decide) ?_)
        refine r_loc [(0, some (vl b)), (2, some (vl e)), (4, some (vl (p : Int))), (6, some (vl (r : Int))), (8, some (vl ((s * s % p : Nat) : Int))), (10, some (vl ((l / 2 : Nat) : Int)))] ⟨Or.inl rfl, Or.inl rfl, Or.inl rfl, Or.inl rfl, Or.inl rfl, Or.inl rfl, trivial⟩ ?_
        exact ih (l / 2) (by omega) r _ hr s1 (by omega) (by rw [pw_even (by omega), hR])
      · refine r_lload dX10_powerOf_34 rfl (r_lload dX10_powerOf_36 rfl (r_lmul dX10_powerOf_38 ?_))
        rw [e2]
        refine r_lload dX10_powerOf_39 rfl (r_lremN dX10_powerOf_41 (by omega) (by omega) (by omega) (by omega) (r_lstore dX10_powerOf_42 rfl (Nat.le_of_ble_eq_true rfl) (r_lload dX10_powerOf_44 rfl (r_lload dX10_powerOf_46 rfl ?_))))
        refine r_lmul dX10_powerOf_48 ?_
        rw [e1]
        refine r_lload dX10_powerOf_49 rfl (r_lremN dX10_powerOf_51 (by omega) (by omega) (by omega) (by omega) (r_lstore dX10_powerOf_52 rfl (Nat.le_of_ble_eq_true rfl) (r_lload dX10_powerOf_54 rfl (r_iconst dX10_powerOf_56 ?_))))
        refine r_lshr ((l : Int) / 2) dX10_powerOf_57 (q_lshr1 (by omega) (by omega)) ?_
        refine r_lstore dX10_powerOf_58 rfl (Nat.le_of_ble_eq_true rfl) (r_goto 18 dX10_powerOf_60 (by decide) ?_)
        refine r_loc [(0, some (vl b)), (2, some (vl e)), (4, some (vl (p : Int))), (6, some (vl ((r * s % p : Nat) : Int))), (8, some (vl ((s * s % p : Nat) : Int))), (10, some (vl ((l / 2 : Nat) : Int)))] ⟨Or.inl rfl, Or.inl rfl, Or.inl rfl, Or.inl rfl, Or.inl rfl, Or.inl rfl, trivial⟩ ?_
        exact ih (l / 2) (by omega) _ _ s2 s1 (by omega) (by rw [pw_odd (by omega), hR])
theorem c_X10_powerOf {p e : Nat} {b : Int} (hb : RJ b) (hp : 3 ≤ p ∧ p ≤ 100003) (he : e < 4611686018427387904) : PC g yX10_powerOf cX10_powerOf (iX10_powerOf mc ms) [vl b, vl (e : Int), vl (p : Int)] S (Rt (some (vl (pwI b e p))) S) := by
  refine PC_of pnX10 rfl rfl rfl (Nat.le_of_ble_eq_true rfl) ?_
  have hd := tmod_bd b (p := (p : Int)) (by omega)
  have hm := mod_mod b (p := (p : Int)) (by omega)
  have h1 := Int.emod_nonneg b (show (p : Int) ≠ 0 by omega)
  have h2 := Int.emod_lt_of_pos b (show (0 : Int) < p by omega)
  refine r_lconst (z := 1) dX10_powerOf_0 (by decide) (r_lstore dX10_powerOf_1 rfl (Nat.le_of_ble_eq_true rfl) (r_lload_n dX10_powerOf_3 (i := 0) rfl rfl (r_lload dX10_powerOf_4 rfl (r_lrem dX10_powerOf_6 (by omega) (by omega) (by omega) ?_))))
  refine r_lload dX10_powerOf_7 rfl (r_ladd dX10_powerOf_9 (r_lload dX10_powerOf_10 rfl (r_lremN dX10_powerOf_12  (by omega) (by omega) (by omega) (by omega) (r_lstore dX10_powerOf_13 rfl (Nat.le_of_ble_eq_true rfl) ?_))))
  refine r_lload_n dX10_powerOf_15 (i := 2) rfl rfl (r_lstore dX10_powerOf_16 rfl (Nat.le_of_ble_eq_true rfl) ?_)
  rw [hm]
  refine r_loc [(0, some (vl b)), (2, some (vl (e : Int))), (4, some (vl (p : Int))), (6, some (vl ((1 : Nat) : Int))), (8, some (vl (((b % (p : Int)).toNat : Nat) : Int))), (10, some (vl (e : Int)))] ⟨Or.inl rfl, Or.inl rfl, Or.inl rfl, Or.inl rfl, Or.inl (by rw [Int.toNat_of_nonneg h1]; rfl), Or.inl rfl, trivial⟩ ?_
  exact l_powerOf hp ⟨rfl, rfl⟩ e 1 _ (by omega) (by omega) he (by rw [Nat.one_mul])
/-- no divisor below q, and q * q is greater: a prime -/
theorem l_isPrime {n : Nat} (hn : n ≤ 100200) (hq : ∀ b : Int, b = prI n → Q (.inl (some (vi b))) S) : ∀ (m d : Nat), n + 2 ≤ d + m → 2 ≤ d → d ≤ 1000 → (2 ≤ n → ∀ c, 2 ≤ c → c < d → ¬ c ∣ n) →
    PW g cX10_isPrime (iX10_isPrime mc ms) 2 [(0, some (vi (n : Int))), (1, some (vi (d : Int)))] [] S kc ks Q := by
  intro m
  induction m with
  | zero =>
    intro d hm h2 h3 hlow
    have e1 : ((d : Int) * d) = ((d * d : Nat) : Int) := (Int.natCast_mul d d).symm
    have e2 := Nat.mul_le_mul h3 h3
    have e3 := Nat.mul_le_mul_left d h2
    refine r_iload_n dX10_isPrime_2 (i := 1) rfl rfl (r_iload_n dX10_isPrime_3 (i := 1) rfl rfl (r_imul dX10_isPrime_4 ?_))
    rw [e1]
    refine r_iload_n dX10_isPrime_5 (i := 0) rfl rfl ?_
    refine r_icmp_gt 23 dX10_isPrime_6 (by decide) (by omega) (by omega) (fun c1 => ?_) (fun c1 => ?_)
    · refine r_iload_n dX10_isPrime_23 (i := 0) rfl rfl (r_iconst dX10_isPrime_24 ?_)
      refine r_icmp_le 32 dX10_isPrime_25 (by decide) (by omega) (by omega) (fun c2 => ?_) (fun c2 => ?_)
      · refine r_iconst dX10_isPrime_32 (r_iret dX10_isPrime_33 rfl (q_narZ (by first | exact Or.inl rfl | exact Or.inr rfl)) ?_)
        exact hq 0 (prI_f (fun h => by have := h.1; omega)).symm
      · refine r_iconst dX10_isPrime_28 (r_goto 33 dX10_isPrime_29 (by decide) (r_iret dX10_isPrime_33 rfl (q_narZ (by first | exact Or.inl rfl | exact Or.inr rfl)) ?_))
        exact hq 1 (prI_t (low_rest (by omega) (hlow (by omega)) (by omega))).symm
    · omega
  | succ m ih =>
    intro d hm h2 h3 hlow
    have e1 : ((d : Int) * d) = ((d * d : Nat) : Int) := (Int.natCast_mul d d).symm
    have e2 := Nat.mul_le_mul h3 h3
    have e3 : (n : Int) % (d : Int) = ((n % d : Nat) : Int) := (Int.natCast_emod _ _).symm
    have hml := Nat.mod_lt n (show 0 < d by omega)
    refine r_iload_n dX10_isPrime_2 (i := 1) rfl rfl (r_iload_n dX10_isPrime_3 (i := 1) rfl rfl (r_imul dX10_isPrime_4 ?_))
    rw [e1]
    refine r_iload_n dX10_isPrime_5 (i := 0) rfl rfl ?_
    refine r_icmp_gt 23 dX10_isPrime_6 (by decide) (by omega) (by omega) (fun c1 => ?_) (fun c1 => ?_)
    · refine r_iload_n dX10_isPrime_23 (i := 0) rfl rfl (r_iconst dX10_isPrime_24 ?_)
      refine r_icmp_le 32 dX10_isPrime_25 (by decide) (by omega) (by omega) (fun c2 => ?_) (fun c2 => ?_)
      · refine r_iconst dX10_isPrime_32 (r_iret dX10_isPrime_33 rfl (q_narZ (by first | exact Or.inl rfl | exact Or.inr rfl)) ?_)
        exact hq 0 (prI_f (fun h => by have := h.1; omega)).symm
      · refine r_iconst dX10_isPrime_28 (r_goto 33 dX10_isPrime_29 (by decide) (r_iret dX10_isPrime_33 rfl (q_narZ (by first | exact Or.inl rfl | exact Or.inr rfl)) ?_))
        exact hq 1 (prI_t (low_rest (by omega) (hlow (by omega)) (by omega))).symm
    · have e5 : d < 317 := by
        rcases Nat.lt_or_ge d 317 with z | z
        · exact z
        · have := Nat.mul_le_mul z z
          omega
      refine r_iload_n dX10_isPrime_9 (i := 0) rfl rfl (r_iload_n dX10_isPrime_10 (i := 1) rfl rfl (r_iremN dX10_isPrime_11 (by omega) (by omega) (by omega) (by omega) ?_))
      rw [e3]
      refine r_if_ne 17 dX10_isPrime_12 (by decide) (by omega) (fun c2 => ?_) (fun c2 => ?_)
      · refine r_iinc dX10_isPrime_17 rfl rfl (r_goto 2 dX10_isPrime_20 (by decide) ?_)
        refine r_loc [(0, some (vi (n : Int))), (1, some (vi ((d + 1 : Nat) : Int)))] ⟨Or.inl rfl, Or.inl rfl, trivial⟩ (ih (d + 1) (by omega) (by omega) (by omega) (fun hn2 c c1 c3 hc => ?_))
        by_cases e : c = d
        · subst e
          have := Nat.mod_eq_zero_of_dvd hc
          omega
        · exact hlow hn2 c c1 (by omega) hc
      · refine r_iconst dX10_isPrime_15 (r_iret dX10_isPrime_16 rfl (q_narZ (by first | exact Or.inl rfl | exact Or.inr rfl)) ?_)
        refine hq 0 (prI_f (fun h => ?_)).symm
        have e6 := Nat.mul_le_mul_left d h2
        rcases h.2 d (Nat.dvd_of_mod_eq_zero (by omega)) with z | z
        · omega
        · omega
theorem c_X10_isPrime {n : Nat} (hn : n ≤ 100200) : PC g yX10_isPrime cX10_isPrime (iX10_isPrime mc ms) [vi (n : Int)] S (Rt (some (vi (prI n))) S) := by
  refine PC_of pnX10 rfl rfl rfl (Nat.le_of_ble_eq_true rfl) ?_
  refine r_iconst dX10_isPrime_0 (r_istore_n dX10_isPrime_1 (i := 1) rfl rfl (Nat.le_of_ble_eq_true rfl) ?_)
  exact r_loc [(0, some (vi (n : Int))), (1, some (vi ((2 : Nat) : Int)))] ⟨Or.inl rfl, Or.inl rfl, trivial⟩ (l_isPrime hn (fun b hb => ⟨by rw [hb], rfl⟩) n 2 (by omega) (by omega) (by omega) (fun _ c _ _ => by omega))
end MOD

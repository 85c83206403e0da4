/-! the class: its numbers; Bench's questions about its primes -/
abbrev bO (b : Nat) (n : Int) : PE := cO 0 [.ref (b + 1), .ref (b + 2), .ref (b + 3), vi n]
/-- the primes of a bench, whose Fields lie from F on -/
def PrAt (S : PS) (b F : Nat) (a : Int → Int) : Prop := S.1 b = some (bO b (a 0)) ∧ ∃ r : Int → Option Nat, S.1 (b + 1) = some (cR 6 6 r) ∧ ∀ k : Int, 0 ≤ k → k < a 0 → ∃ q, r k = some q ∧ F ≤ q ∧ FldAt S q (pN a k) (genN (pN a k))
theorem q_and1' {x : Int} (h : RI x) : Int32.ofInt x &&& Int32.ofInt 1 = Int32.ofInt (x % 2) := by
  rw [pk_and _ 1 (show (Int32.ofInt 1).toBitVec.toNat = 2 ^ 1 - 1 by decide)]
  show Int32.ofInt (((BitVec.ofInt 32 x).toNat % 2 ^ 1 : Nat) : Int) = _
  rw [BitVec.toNat_ofInt]
  congr 1
  have h1 := h.1
  have h2 := h.2
  omega
section BENCH
variable {g : GT} {S : PS} {mc ms : Nat} {Q : PO → PS → Prop} {kc ks : Nat} {b F : Nat} {a : Int → Int}
theorem c_X9_isTerm {v : Int} (hv : RJ v) : PC g yX9_isTerm cX9_isTerm (iX9_isTerm mc ms) [vl v] S (Rt (some (vi (b2i (-9999 ≤ v ∧ v ≤ 9999)))) S) := by
  refine PC_of pnX9 rfl rfl rfl (Nat.le_of_ble_eq_true rfl) ?_
  refine r_lload_n dX9_isTerm_0 (i := 0) rfl rfl (r_ldc2 dX9_isTerm_1 csj_X9_379 ?_)
  refine r_lcmp_lt 20 dX9_isTerm_4 dX9_isTerm_5 (by decide) (by omega) (by omega) (fun c1 => ?_) (fun c1 => ?_)
  · refine r_iconst dX9_isTerm_20 ?_
    refine r_iret dX9_isTerm_21 rfl (q_narZ (by first | exact Or.inl rfl | exact Or.inr rfl)) ?_
    first | omega | exact ⟨rfl, rfl⟩ | exact ⟨by rw [b2i_t (by omega)], rfl⟩ | exact ⟨by rw [b2i_f (by omega)], rfl⟩
  · refine r_lload_n dX9_isTerm_8 (i := 0) rfl rfl (r_ldc2 dX9_isTerm_9 csj_X9_381 ?_)
    refine r_lcmp_gt 20 dX9_isTerm_12 dX9_isTerm_13 (by decide) (by omega) (by omega) (fun c2 => ?_) (fun c2 => ?_)
    · refine r_iconst dX9_isTerm_20 ?_
      refine r_iret dX9_isTerm_21 rfl (q_narZ (by first | exact Or.inl rfl | exact Or.inr rfl)) ?_
      first | omega | exact ⟨rfl, rfl⟩ | exact ⟨by rw [b2i_t (by omega)], rfl⟩ | exact ⟨by rw [b2i_f (by omega)], rfl⟩
    · refine r_iconst dX9_isTerm_16 (r_goto 21 dX9_isTerm_17 (by decide) ?_)
      refine r_iret dX9_isTerm_21 rfl (q_narZ (by first | exact Or.inl rfl | exact Or.inr rfl)) ?_
      first | omega | exact ⟨rfl, rfl⟩ | exact ⟨by rw [b2i_t (by omega)], rfl⟩ | exact ⟨by rw [b2i_f (by omega)], rfl⟩
theorem l_X9_isPrime {n : Nat} (hn : n ≤ 100200) (hn2 : 2 ≤ n) (hq : ∀ b : Int, b = prI n → Q (.inl (some (vi b))) S) : ∀ (m d : Nat), n + 2 ≤ d + m → 2 ≤ d → (∀ c, 2 ≤ c → c < d → ¬ c ∣ n) →
    PW g cX9_isPrime (iX9_isPrime mc ms) 9 [(0, some (vi (n : Int))), (1, some (vi (d : Int)))] [] S kc ks Q := by
  intro m
  induction m with
  | zero =>
    intro d hm h2 hlow
    exact absurd (Nat.dvd_refl n) (hlow n hn2 (by omega))
  | succ m ih =>
    intro d hm h2 hlow
    have e3 : (n : Int) % (d : Int) = ((n % d : Nat) : Int) := (Int.natCast_emod _ _).symm
    have e4 : (n : Int) / (d : Int) = ((n / d : Nat) : Int) := (Int.natCast_ediv _ _).symm
    have hdl := Nat.div_le_self n d
    have hd0 : (0 : Int) ≤ (n : Int) / (d : Int) := Int.ediv_nonneg (Int.natCast_nonneg _) (Int.natCast_nonneg _)
    have hml := Nat.mod_lt n (show 0 < d by omega)
    have hle : d ≤ n := by
      rcases Nat.lt_or_ge n d with z | z
      · exact absurd (Nat.dvd_refl n) (hlow n hn2 z)
      · exact z
    refine r_iload_n dX9_isPrime_9 (i := 1) rfl rfl (r_iload_n dX9_isPrime_10 (i := 0) rfl rfl (r_iload_n dX9_isPrime_11 (i := 1) rfl rfl (r_idivN dX9_isPrime_12 (by omega) (by omega) (by omega) (by omega) ?_)))
    rw [e4]
    refine r_icmp_gt 30 dX9_isPrime_13 (by decide) (by omega) (by omega) (fun c1 => ?_) (fun c1 => ?_)
    · refine r_iconst dX9_isPrime_30 ?_
      refine r_iret dX9_isPrime_31 rfl (q_narZ (by first | exact Or.inl rfl | exact Or.inr rfl)) ?_
      first
        | exact hq 1 (prI_t (low_rest hn2 hlow ((Nat.div_lt_iff_lt_mul (by omega)).mp (by omega)))).symm
        | (refine hq 0 (prI_f (fun h => ?_)).symm
           have hdd : d ≤ n / d := by omega
           have e6 := Nat.mul_le_mul_left d h2
           have e7 := Nat.mul_le_mul_left d hdd
           have e8 := Nat.mul_div_le n d
           rcases h.2 d (Nat.dvd_of_mod_eq_zero (by omega)) with z | z
           · omega
           · have e9 := Nat.mul_le_mul_right d h2
             omega)
    · refine r_iload_n dX9_isPrime_16 (i := 0) rfl rfl (r_iload_n dX9_isPrime_17 (i := 1) rfl rfl (r_iremN dX9_isPrime_18 (by omega) (by omega) (by omega) (by omega) ?_))
      rw [e3]
      refine r_if_ne 24 dX9_isPrime_19 (by decide) (by omega) (fun c2 => ?_) (fun c2 => ?_)
      · refine r_iinc dX9_isPrime_24 rfl rfl (r_goto 9 dX9_isPrime_27 (by decide) ?_)
        refine r_loc [(0, some (vi (n : Int))), (1, some (vi ((d + 1 : Nat) : Int)))] ⟨Or.inl rfl, Or.inl rfl, trivial⟩ (ih (d + 1) (by omega) (by omega) (fun c c1 c3 hc => ?_))
        by_cases e : c = d
        · subst e
          have := Nat.mod_eq_zero_of_dvd hc
          omega
        · exact hlow c c1 (by omega) hc
      · refine r_iconst dX9_isPrime_22 ?_
        refine r_iret dX9_isPrime_23 rfl (q_narZ (by first | exact Or.inl rfl | exact Or.inr rfl)) ?_
        first
          | exact hq 1 (prI_t (low_rest hn2 hlow ((Nat.div_lt_iff_lt_mul (by omega)).mp (by omega)))).symm
          | (refine hq 0 (prI_f (fun h => ?_)).symm
             have hdd : d ≤ n / d := by omega
             have e6 := Nat.mul_le_mul_left d h2
             have e7 := Nat.mul_le_mul_left d hdd
             have e8 := Nat.mul_div_le n d
             rcases h.2 d (Nat.dvd_of_mod_eq_zero (by omega)) with z | z
             · omega
             · have e9 := Nat.mul_le_mul_right d h2
               omega)
theorem c_X9_isPrime {n : Int} (hn : -2147483648 ≤ n ∧ n ≤ 100200) : PC g yX9_isPrime cX9_isPrime (iX9_isPrime mc ms) [vi n] S (Rt (some (vi (prI n.toNat))) S) := by
  refine PC_of pnX9 rfl rfl rfl (Nat.le_of_ble_eq_true rfl) ?_
  rcases Int.lt_or_le n 2 with z | z
  · refine r_iload_n dX9_isPrime_0 (i := 0) rfl rfl (r_iconst dX9_isPrime_1 ?_)
    refine r_icmp_ge 7 dX9_isPrime_2 (by decide) (by omega) (by omega) (fun c1 => ?_) (fun c1 => ?_)
    · refine r_iconst dX9_isPrime_7 (r_istore_n dX9_isPrime_8 (i := 1) rfl rfl (Nat.le_of_ble_eq_true rfl) ?_)
      omega
    · refine r_iconst dX9_isPrime_5 ?_
      refine r_iret dX9_isPrime_6 rfl (q_narZ (by first | exact Or.inl rfl | exact Or.inr rfl)) ?_
      exact ⟨by rw [prI_f (fun h => by have := h.1; omega)], rfl⟩
  · obtain ⟨k, rfl⟩ := Int.eq_ofNat_of_zero_le (show 0 ≤ n by omega)
    refine r_iload_n dX9_isPrime_0 (i := 0) rfl rfl (r_iconst dX9_isPrime_1 ?_)
    refine r_icmp_ge 7 dX9_isPrime_2 (by decide) (by omega) (by omega) (fun c1 => ?_) (fun c1 => ?_)
    · refine r_iconst dX9_isPrime_7 (r_istore_n dX9_isPrime_8 (i := 1) rfl rfl (Nat.le_of_ble_eq_true rfl) ?_)
      exact r_loc [(0, some (vi (k : Int))), (1, some (vi ((2 : Nat) : Int)))] ⟨Or.inl rfl, Or.inl rfl, trivial⟩ (l_X9_isPrime (n := k) (by omega) (by omega) (fun b hb => ⟨by rw [hb]; rfl, rfl⟩) k 2 (by omega) (by omega) (fun c _ _ => by omega))
    · refine r_iconst dX9_isPrime_5 ?_
      refine r_iret dX9_isPrime_6 rfl (q_narZ (by first | exact Or.inl rfl | exact Or.inr rfl)) ?_
      omega
theorem l_canBe {p : Int} (hP : PrAt S b F a) (hp : MP a) (hr : RI p) (hpp : (3 ≤ p ∧ p ≤ 100003) ∧ Pr p.toNat) (hq : ∀ z, z = b2c (canAdd a p) → Q (.inl (some (vi z))) S) : ∀ (n k : Nat), (k : Int) + n = a 0 → (∀ j : Int, 0 ≤ j → j < k → a (1 + j) ≠ p) →
    PW g cX0_canBeAdded (iX0_canBeAdded mc ms) 22 [(0, some (.ref b)), (1, some (vi p)), (2, some (vi (k : Int)))] [] S kc ks Q := by
  intro n
  have h0 := hp.1
  obtain ⟨hb, r, hr6, hrk⟩ := hP
  induction n with
  | zero =>
    intro k hk hj
    refine r_iload_n dX0_canBeAdded_22 (i := 2) rfl rfl (r_aload_n dX0_canBeAdded_23 (i := 0) rfl rfl (r_get dX0_canBeAdded_24 fl_X0_36 hb rfl ?_))
    refine r_icmp_ge 51 dX0_canBeAdded_27 (by decide) (by omega) (by omega) (fun c1 => ?_) (fun c1 => ?_)
    · refine r_iconst dX0_canBeAdded_51 ?_
      refine r_iret dX0_canBeAdded_52 rfl (q_narZ (by first | exact Or.inl rfl | exact Or.inr rfl)) ?_
      exact hq 1 (b2c_t ⟨hpp.1, hpp.2, fun ⟨j, j1, j2, j3⟩ => hj j j1 (by omega) j3⟩).symm
    · omega
  | succ n ih =>
    intro k hk hj
    obtain ⟨q, hq1, hq2, ff, fc, hf1, hf2, hf3⟩ := hrk k (by omega) (by omega)
    obtain ⟨hpa, hpr, hpp2⟩ := pN_ok hp (q := (k : Int)) (by omega)
    refine r_iload_n dX0_canBeAdded_22 (i := 2) rfl rfl (r_aload_n dX0_canBeAdded_23 (i := 0) rfl rfl (r_get dX0_canBeAdded_24 fl_X0_36 hb rfl ?_))
    refine r_icmp_ge 51 dX0_canBeAdded_27 (by decide) (by omega) (by omega) (fun c1 => ?_) (fun c1 => ?_)
    · omega
    · refine r_aload_n dX0_canBeAdded_30 (i := 0) rfl rfl (r_get dX0_canBeAdded_31 fl_X0_11 hb rfl (r_iload_n dX0_canBeAdded_34 (i := 2) rfl rfl (r_aald dX0_canBeAdded_35 hr6 rfl (by omega) (by omega) (by omega) hq1 (r_get dX0_canBeAdded_36 fl_X0_40 hf1 rfl ?_))))
      refine r_iload_n dX0_canBeAdded_39 (i := 1) rfl rfl ?_
      refine r_icmp_ne 45 dX0_canBeAdded_40 (by decide) (by omega) (by omega) (fun c2 => ?_) (fun c2 => ?_)
      · refine r_iinc dX0_canBeAdded_45 rfl rfl (r_goto 22 dX0_canBeAdded_48 (by decide) ?_)
        refine r_loc [(0, some (.ref b)), (1, some (vi p)), (2, some (vi ((k + 1 : Nat) : Int)))] ⟨Or.inl rfl, Or.inl rfl, Or.inl rfl, trivial⟩ (ih (k + 1) (by omega) (fun j j1 j2 => ?_))
        by_cases z : j = k
        · subst z
          omega
        · exact hj j j1 (by omega)
      · refine r_iconst dX0_canBeAdded_43 ?_
        refine r_iret dX0_canBeAdded_44 rfl (q_narZ (by first | exact Or.inl rfl | exact Or.inr rfl)) ?_
        exact hq 0 (b2c_f (fun z => z.2.2 ⟨(k : Int), by omega, by omega, by omega⟩)).symm
theorem c_X0_canBeAdded {p : Int} (hP : PrAt S b F a) (hp : MP a) (hr : RI p) : PC g yX0_canBeAdded cX0_canBeAdded (iX0_canBeAdded mc ms) [.ref b, vi p] S (Rt (some (vi (b2c (canAdd a p)))) S) := by
  refine PC_of pnX0 rfl rfl rfl (Nat.le_of_ble_eq_true rfl) ?_
  refine r_iload_n dX0_canBeAdded_0 (i := 1) rfl rfl (r_iconst dX0_canBeAdded_1 ?_)
  refine r_icmp_lt 18 dX0_canBeAdded_2 (by decide) (by omega) (by omega) (fun c1 => ?_) (fun c1 => ?_)
  · refine r_iconst dX0_canBeAdded_18 ?_
    refine r_iret dX0_canBeAdded_19 rfl (q_narZ (by first | exact Or.inl rfl | exact Or.inr rfl)) ?_
    first
      | exact ⟨by rw [b2c_f (fun z : canAdd a p => by have := z.1; omega)], rfl⟩
      | exact ⟨by rw [b2c_f (fun z : canAdd a p => absurd z.2.1 (by assumption))], rfl⟩
  · refine r_iload_n dX0_canBeAdded_5 (i := 1) rfl rfl (r_ldc dX0_canBeAdded_6 cst_X0_31 ?_)
    refine r_icmp_gt 18 dX0_canBeAdded_8 (by decide) (by omega) (by omega) (fun c2 => ?_) (fun c2 => ?_)
    · refine r_iconst dX0_canBeAdded_18 ?_
      refine r_iret dX0_canBeAdded_19 rfl (q_narZ (by first | exact Or.inl rfl | exact Or.inr rfl)) ?_
      first
        | exact ⟨by rw [b2c_f (fun z : canAdd a p => by have := z.1; omega)], rfl⟩
        | exact ⟨by rw [b2c_f (fun z : canAdd a p => absurd z.2.1 (by assumption))], rfl⟩
    · refine r_iload_n dX0_canBeAdded_11 (i := 1) rfl rfl (c_srN dX0_canBeAdded_12 (c_X9_isPrime (by omega)) rfl rfl mq_X9_isPrime ml_X0_32 ⟨Nat.le_of_ble_eq_true rfl, Nat.le_of_ble_eq_true rfl⟩ rfl rfl (Nat.le_of_ble_eq_true rfl) ?_)
      refine r_if_ne 20 dX0_canBeAdded_15 (by decide) b2c_RI (fun c3 => ?_) (fun c3 => ?_)
      · replace c3 := b2c_ne c3
        refine r_iconst dX0_canBeAdded_20 (r_istore_n dX0_canBeAdded_21 (i := 2) rfl rfl (Nat.le_of_ble_eq_true rfl) ?_)
        exact r_loc [(0, some (.ref b)), (1, some (vi p)), (2, some (vi ((0 : Nat) : Int)))] ⟨Or.inl rfl, Or.inl rfl, Or.inl rfl, trivial⟩ (l_canBe hP hp hr ⟨by omega, by assumption⟩ (fun z hz => ⟨by rw [hz], rfl⟩) (a 0).toNat 0 (by have := hp.1; omega) (fun j j1 j2 => by omega))
      · replace c3 := b2c_eq c3
        refine r_iconst dX0_canBeAdded_18 ?_
        refine r_iret dX0_canBeAdded_19 rfl (q_narZ (by first | exact Or.inl rfl | exact Or.inr rfl)) ?_
        first
          | exact ⟨by rw [b2c_f (fun z : canAdd a p => by have := z.1; omega)], rfl⟩
          | exact ⟨by rw [b2c_f (fun z : canAdd a p => absurd z.2.1 (by assumption))], rfl⟩
def PrGr (a : Int → Int) (set lim : Int) : Prop := (∃ k : Int, 0 ≤ k ∧ k < a 0 ∧ bt set k) ∧ lim < prS a set (a 0).toNat
theorem l_prGr {set lim : Int} (hP : PrAt S b F a) (hp : MP a) (hs : RI set) (hl : 0 ≤ lim ∧ lim ≤ 4000000000000000000) (hq : ∀ z, z = b2c (PrGr a set lim) → Q (.inl (some (vi z))) S) : ∀ (n k : Nat), (k : Int) + n = a 0 → ((∃ j : Int, 0 ≤ j ∧ j < k ∧ bt set j) → prS a set k ≤ lim) → prS a set k ≤ 4000000000000000000 → (¬ (∃ j : Int, 0 ≤ j ∧ j < k ∧ bt set j) → prS a set k = 1) →
    PW g cX0_isProductGreater (iX0_isProductGreater mc ms) 6 [(0, some (.ref b)), (1, some (vi set)), (2, some (vl lim)), (4, some (vl (prS a set k))), (6, some (vi (k : Int)))] [] S kc ks Q := by
  intro n
  have h0 := hp.1
  obtain ⟨hb, r, hr6, hrk⟩ := hP
  induction n with
  | zero =>
    intro k hk h1 h2 h3
    refine r_iload dX0_isProductGreater_6 rfl (r_aload_n dX0_isProductGreater_8 (i := 0) rfl rfl (r_get dX0_isProductGreater_9 fl_X0_36 hb rfl ?_))
    refine r_icmp_ge 67 dX0_isProductGreater_12 (by decide) (by omega) (by omega) (fun c1 => ?_) (fun c1 => ?_)
    · refine r_iconst dX0_isProductGreater_67 ?_
      refine r_iret dX0_isProductGreater_68 rfl (q_narZ (by first | exact Or.inl rfl | exact Or.inr rfl)) ?_
      refine hq 0 (b2c_f (fun z => ?_)).symm
      have h4 := z.2
      rw [show (a 0).toNat = k by omega] at h4
      obtain ⟨j, j1, j2, j3⟩ := z.1
      have := h1 ⟨j, j1, by omega, j3⟩
      omega
    · omega
  | succ n ih =>
    intro k hk h1 h2 h3
    obtain ⟨q, hq1, hq2, ff, fc, hf1, hf2, hf3⟩ := hrk k (by omega) (by omega)
    obtain ⟨hpa, hpr, hpp2⟩ := pN_ok hp (q := (k : Int)) (by omega)
    have hpos := prS_pos (set := set) hp k (by omega)
    have hdR := shr_RI hs (k : Int).toNat
    have hd1 := Int.ediv_le_self (pN a (k : Int) : Int) hl.1
    have hd2 := Int.ediv_nonneg hl.1 (show (0 : Int) ≤ (pN a (k : Int) : Int) by omega)
    have hdm := div_lt_mul (x := prS a set k) (M := lim) (show (0 : Int) < (pN a (k : Int) : Int) by omega)
    have hbm : Int32.ofInt (set / 2 ^ (k : Int).toNat) &&& Int32.ofInt 1 = Int32.ofInt (set / 2 ^ (k : Int).toNat % 2) := q_and1' hdR
    refine r_iload dX0_isProductGreater_6 rfl (r_aload_n dX0_isProductGreater_8 (i := 0) rfl rfl (r_get dX0_isProductGreater_9 fl_X0_36 hb rfl ?_))
    refine r_icmp_ge 67 dX0_isProductGreater_12 (by decide) (by omega) (by omega) (fun c1 => ?_) (fun c1 => ?_)
    · omega
    · refine r_iload_n dX0_isProductGreater_15 (i := 1) rfl rfl (r_iload dX0_isProductGreater_16 rfl ?_)
      refine r_ishr (set / 2 ^ (k : Int).toNat) dX0_isProductGreater_18 (q_shr hs (by omega)) ?_
      refine r_iconst dX0_isProductGreater_19 ?_
      refine r_iand (set / 2 ^ (k : Int).toNat % 2) dX0_isProductGreater_20 hbm ?_
      refine r_if_eq 61 dX0_isProductGreater_21 (by decide) (by omega) (fun c2 => ?_) (fun c2 => ?_)
      · refine r_iinc dX0_isProductGreater_61 rfl rfl (r_goto 6 dX0_isProductGreater_64 (by decide) ?_)
        first
          | (have hnb : ¬ bt set (k : Int) := fun z => by have z2 : set / 2 ^ (k : Int).toNat % 2 = 1 := z; omega
             have e1 := prS_f (a := a) hnb
             have hex : ∀ j : Int, 0 ≤ j → j < ((k + 1 : Nat) : Int) → bt set j → j < k := fun j j1 j2 j3 => by
               by_cases z : j = k
               · subst z
                 exact absurd j3 hnb
               · omega
             exact r_loc [(0, some (.ref b)), (1, some (vi set)), (2, some (vl lim)), (4, some (vl (prS a set (k + 1)))), (6, some (vi ((k + 1 : Nat) : Int)))] ⟨Or.inl rfl, Or.inl rfl, Or.inl rfl, Or.inl (lv_eq e1), Or.inl rfl, trivial⟩ (ih (k + 1) (by omega) (fun ⟨j, j1, j2, j3⟩ => by rw [e1]; exact h1 ⟨j, j1, hex j j1 j2 j3, j3⟩) (by rw [e1]; exact h2) (fun z => by rw [e1]; exact h3 (fun ⟨j, j1, j2, j3⟩ => z ⟨j, j1, by omega, j3⟩))))
          | (have hyb : bt set (k : Int) := by show set / 2 ^ (k : Int).toNat % 2 = 1; omega
             have e1 := prS_t (a := a) hyb
             rw [hpa] at e1
             exact r_loc [(0, some (.ref b)), (1, some (vi set)), (2, some (vl lim)), (4, some (vl (prS a set (k + 1)))), (6, some (vi ((k + 1 : Nat) : Int)))] ⟨Or.inl rfl, Or.inl rfl, Or.inl rfl, Or.inl (lv_eq e1), Or.inl rfl, trivial⟩ (ih (k + 1) (by omega) (fun _ => by rw [e1]; omega) (by rw [e1]; omega) (fun z => absurd ⟨(k : Int), by omega, by omega, hyb⟩ z)))
      · refine r_lload dX0_isProductGreater_24 rfl (r_lload_n dX0_isProductGreater_26 (i := 2) rfl rfl (r_aload_n dX0_isProductGreater_27 (i := 0) rfl rfl (r_get dX0_isProductGreater_28 fl_X0_11 hb rfl (r_iload dX0_isProductGreater_31 rfl ?_))))
        refine r_aald dX0_isProductGreater_33 hr6 rfl (by omega) (by omega) (by omega) hq1 (r_get dX0_isProductGreater_34 fl_X0_40 hf1 rfl (r_i2l dX0_isProductGreater_37 (by omega) (r_ldivN dX0_isProductGreater_38 (by omega) (by omega) (by omega) (by omega) ?_)))
        refine r_lcmp_le 45 dX0_isProductGreater_39 dX0_isProductGreater_40 (by decide) (by omega) (by omega) (fun c3 => ?_) (fun c3 => ?_)
        · refine r_lload dX0_isProductGreater_45 rfl (r_aload_n dX0_isProductGreater_47 (i := 0) rfl rfl (r_get dX0_isProductGreater_48 fl_X0_11 hb rfl (r_iload dX0_isProductGreater_51 rfl (r_aald dX0_isProductGreater_53 hr6 rfl (by omega) (by omega) (by omega) hq1 ?_))))
          refine r_get dX0_isProductGreater_54 fl_X0_40 hf1 rfl (r_i2l dX0_isProductGreater_57 (by omega) (r_lmul dX0_isProductGreater_58 (r_lstore dX0_isProductGreater_59 rfl (Nat.le_of_ble_eq_true rfl) (r_iinc dX0_isProductGreater_61 rfl rfl ?_))))
          refine r_goto 6 dX0_isProductGreater_64 (by decide) ?_
          first
            | (have hnb : ¬ bt set (k : Int) := fun z => by have z2 : set / 2 ^ (k : Int).toNat % 2 = 1 := z; omega
               have e1 := prS_f (a := a) hnb
               have hex : ∀ j : Int, 0 ≤ j → j < ((k + 1 : Nat) : Int) → bt set j → j < k := fun j j1 j2 j3 => by
                 by_cases z : j = k
                 · subst z
                   exact absurd j3 hnb
                 · omega
               exact r_loc [(0, some (.ref b)), (1, some (vi set)), (2, some (vl lim)), (4, some (vl (prS a set (k + 1)))), (6, some (vi ((k + 1 : Nat) : Int)))] ⟨Or.inl rfl, Or.inl rfl, Or.inl rfl, Or.inl (lv_eq e1), Or.inl rfl, trivial⟩ (ih (k + 1) (by omega) (fun ⟨j, j1, j2, j3⟩ => by rw [e1]; exact h1 ⟨j, j1, hex j j1 j2 j3, j3⟩) (by rw [e1]; exact h2) (fun z => by rw [e1]; exact h3 (fun ⟨j, j1, j2, j3⟩ => z ⟨j, j1, by omega, j3⟩))))
            | (have hyb : bt set (k : Int) := by show set / 2 ^ (k : Int).toNat % 2 = 1; omega
               have e1 := prS_t (a := a) hyb
               rw [hpa] at e1
               exact r_loc [(0, some (.ref b)), (1, some (vi set)), (2, some (vl lim)), (4, some (vl (prS a set (k + 1)))), (6, some (vi ((k + 1 : Nat) : Int)))] ⟨Or.inl rfl, Or.inl rfl, Or.inl rfl, Or.inl (lv_eq e1), Or.inl rfl, trivial⟩ (ih (k + 1) (by omega) (fun _ => by rw [e1]; omega) (by rw [e1]; omega) (fun z => absurd ⟨(k : Int), by omega, by omega, hyb⟩ z)))
        · refine r_iconst dX0_isProductGreater_43 ?_
          refine r_iret dX0_isProductGreater_44 rfl (q_narZ (by first | exact Or.inl rfl | exact Or.inr rfl)) ?_
          have hyb : bt set (k : Int) := by show set / 2 ^ (k : Int).toNat % 2 = 1; omega
          have e1 := prS_t (a := a) hyb
          rw [hpa] at e1
          have e2 := prS_mono (set := set) hp (k := k + 1) n (by omega)
          refine hq 1 (b2c_t ⟨⟨(k : Int), by omega, by omega, hyb⟩, ?_⟩).symm
          rw [show (a 0).toNat = k + 1 + n by omega]
          omega
theorem c_X0_isProductGreater {set lim : Int} (hP : PrAt S b F a) (hp : MP a) (hs : RI set) (hl : 0 ≤ lim ∧ lim ≤ 4000000000000000000) : PC g yX0_isProductGreater cX0_isProductGreater (iX0_isProductGreater mc ms) [.ref b, vi set, vl lim] S (Rt (some (vi (b2c (PrGr a set lim)))) S) := by
  refine PC_of pnX0 rfl rfl rfl (Nat.le_of_ble_eq_true rfl) ?_
  refine r_lconst (z := 1) dX0_isProductGreater_0 (by decide) (r_lstore dX0_isProductGreater_1 rfl (Nat.le_of_ble_eq_true rfl) (r_iconst dX0_isProductGreater_3 (r_istore dX0_isProductGreater_4 rfl (Nat.le_of_ble_eq_true rfl) ?_)))
  exact r_loc [(0, some (.ref b)), (1, some (vi set)), (2, some (vl lim)), (4, some (vl (prS a set (0 : Nat)))), (6, some (vi ((0 : Nat) : Int)))] ⟨Or.inl rfl, Or.inl rfl, Or.inl rfl, Or.inl rfl, Or.inl rfl, trivial⟩ (l_prGr hP hp hs hl (fun z hz => ⟨by rw [hz], rfl⟩) (a 0).toNat 0 (by have := hp.1; omega) (fun ⟨j, j1, j2, _⟩ => by omega) (by show (1 : Int) ≤ _; omega) (fun _ => rfl))
theorem c_X0_areEnough {set bd : Int} (hP : PrAt S b F a) (hp : MP a) (hs : RI set) (hl : 0 ≤ bd ∧ bd ≤ 3199360032) : PC g yX0_areEnough cX0_areEnough (iX0_areEnough mc ms) [.ref b, vi set, vl bd] S (Rt (some (vi (b2c (PrGr a set (2 * bd))))) S) := by
  refine PC_of pnX0 rfl rfl rfl (Nat.le_of_ble_eq_true rfl) ?_
  refine r_aload_n dX0_areEnough_0 (i := 0) rfl rfl (r_iload_n dX0_areEnough_1 (i := 1) rfl rfl (r_ldc2 dX0_areEnough_2 csj_X0_53 (r_lload_n dX0_areEnough_5 (i := 2) rfl rfl (r_lmul dX0_areEnough_6 ?_))))
  refine c_vr dX0_areEnough_7 (c_X0_isProductGreater hP hp hs (by omega)) rfl rfl mq_X0_isProductGreater ml_X0_55 ⟨Nat.le_of_ble_eq_true rfl, Nat.le_of_ble_eq_true rfl⟩ hP.1 rfl rfl rfl (Nat.le_of_ble_eq_true rfl) ?_
  refine r_iret dX0_areEnough_10 rfl b2c_narZ ?_
  exact ⟨rfl, rfl⟩
end BENCH

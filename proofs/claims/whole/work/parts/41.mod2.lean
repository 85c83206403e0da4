/-! the model's own helpers: factors, generators -/
theorem pwI_of {b e p : Nat} (hb : b < p) : pwI (b : Int) e p = ((b ^ e % p : Nat) : Int) := by
  unfold pwI
  rw [← Int.natCast_emod, Int.toNat_natCast, Nat.mod_eq_of_lt hb]
theorem pwI_bd (b : Int) (e : Nat) {p : Nat} (hp : 0 < p) : 0 ≤ pwI b e p ∧ pwI b e p < p := by
  unfold pwI
  have := Nat.mod_lt ((b % (p : Int)).toNat ^ e) hp
  omega
noncomputable def genI (p e : Nat) : Int := @b2i (IsGen p e) (Classical.propDecidable _)
theorem genI_t {p e : Nat} (h : IsGen p e) : genI p e = 1 := @b2i_t _ (Classical.propDecidable _) h
theorem genI_f {p e : Nat} (h : ¬ IsGen p e) : genI p e = 0 := @b2i_f _ (Classical.propDecidable _) h
def LF (n f left : Nat) : Prop := 1 ≤ left ∧ left ∣ n ∧ 2 ≤ f ∧ (∀ d, 2 ≤ d → d < f → ¬ d ∣ left) ∧ (∀ r, Pr r → f ≤ r → r ∣ n → r ∣ left)
theorem LF.skip {n f left : Nat} (h : LF n f left) (hd : ¬ f ∣ left) : LF n (f + 1) left ∧ ¬ (Pr f ∧ f ∣ n) := by
  obtain ⟨h1, h2, h3, h4, h5⟩ := h
  refine ⟨⟨h1, h2, by omega, fun d d1 d2 => ?_, fun r r1 r2 r3 => h5 r r1 (by omega) r3⟩, fun z => hd (h5 f z.1 (Nat.le_refl f) z.2)⟩
  by_cases e : d = f
  · subst e
    exact hd
  · exact h4 d d1 (by omega)
theorem LF.pr {n f left : Nat} (h : LF n f left) (hd : f ∣ left) : Pr f ∧ f ∣ n := ⟨low_pr h.2.2.1 h.2.2.2.1 hd, Nat.dvd_trans hd h.2.1⟩
theorem LF.take {n f left k left' : Nat} (h : LF n f left) (hd : f ∣ left) (hk : left = f ^ k * left') (hnd : ¬ f ∣ left') : LF n (f + 1) left' := by
  have hpr := (h.pr hd).1
  obtain ⟨h1, h2, h3, h4, h5⟩ := h
  have hdv : left' ∣ left := ⟨f ^ k, by rw [hk, Nat.mul_comm]⟩
  have hr1 : 1 ≤ left' := by
    rcases Nat.eq_zero_or_pos left' with z | z
    · subst z
      omega
    · exact z
  refine ⟨hr1, Nat.dvd_trans hdv h2, by omega, fun d d1 d2 hdd => ?_, fun r r1 r2 r3 => ?_⟩
  · by_cases e : d = f
    · subst e
      exact hnd hdd
    · exact h4 d d1 (by omega) (Nat.dvd_trans hdd hdv)
  · have r4 := h5 r r1 (by omega) r3
    rw [hk] at r4
    rcases pr_mul r1 r4 with r5 | r5
    · have := pr_eq r1 hpr (pr_pow r1 _ r5)
      omega
    · exact r5
theorem LF.fin {n f : Nat} (h : LF n f 1) : ∀ r, f ≤ r → ¬ (Pr r ∧ r ∣ n) := fun r h1 h2 => by
  have := Nat.le_of_dvd Nat.one_pos (h.2.2.2.2 r h2.1 h1 h2.2)
  have := h2.1.1
  omega
theorem LF.le {n f left : Nat} (h : LF n f left) (h1 : 1 < left) : f ≤ left := by
  rcases Nat.lt_or_ge left f with z | z
  · exact absurd (Nat.dvd_refl left) (h.2.2.2.1 left h1 z)
  · exact z
theorem LF.start {n : Nat} (h : 1 ≤ n) : LF n 2 n := ⟨h, Nat.dvd_refl n, by omega, fun d d1 d2 => by omega, fun r _ _ h => h⟩
theorem npf_end {n f : Nat} (h0 : 1 ≤ n) (h : ∀ r, f ≤ r → ¬ (Pr r ∧ r ∣ n)) : npf n f = npf n (n + 1) := by
  rcases Nat.lt_or_ge f (n + 1) with z | z
  · obtain ⟨k, hk⟩ : ∃ k, n + 1 = f + k := ⟨n + 1 - f, by omega⟩
    rw [hk]
    exact (npf_none k (fun r r1 _ => h r r1)).symm
  · obtain ⟨k, hk⟩ : ∃ k, f = n + 1 + k := ⟨f - (n + 1), by omega⟩
    rw [hk]
    refine npf_none k (fun r r1 r2 r3 => ?_)
    have := Nat.le_of_dvd (by omega) r3.2
    omega
theorem npf_two (n : Nat) : npf n 2 = 0 := by
  show 0 + isf _ 0 + isf _ 1 = 0
  rw [isf_0 (fun z => by have := z.1.1; omega), isf_0 (fun z => by have := z.1.1; omega)]
theorem npf_le (n : Nat) : ∀ k, npf n k ≤ k
  | 0 => Nat.le_refl _
  | k + 1 => by
    have h := npf_le n k
    show npf n k + isf n k ≤ k + 1
    by_cases z : Pr k ∧ k ∣ n
    · rw [isf_1 z]
      omega
    · rw [isf_0 z]
      omega
section MOD2
variable {g : GT} {S : PS} {mc ms : Nat} {Q : PO → PS → Prop} {kc ks : Nat}
theorem l_mdiv {e p f : Nat} (hf : 2 ≤ f ∧ f ≤ 100003) : ∀ left, 1 ≤ left → left < 100003 → (∀ k left', left = f ^ k * left' → ¬ f ∣ left' → 1 ≤ left' → left' ≤ left → PW g cX10_makesAll (iX10_makesAll mc ms) 53 [(0, some (vi (e : Int))), (1, some (vi (p : Int))), (2, some (vi (left' : Int))), (3, some (vi (f : Int)))] [] S kc ks Q) →
    PW g cX10_makesAll (iX10_makesAll mc ms) 40 [(0, some (vi (e : Int))), (1, some (vi (p : Int))), (2, some (vi (left : Int))), (3, some (vi (f : Int)))] [] S kc ks Q := by
  intro left
  induction left using Nat.strongRecOn with
  | ind left ih =>
    intro h1 h2 k
    have e1 : (left : Int) % (f : Int) = ((left % f : Nat) : Int) := (Int.natCast_emod _ _).symm
    have e2 : (left : Int) / (f : Int) = ((left / f : Nat) : Int) := (Int.natCast_ediv _ _).symm
    have hm := Nat.mod_lt left (show 0 < f by omega)
    refine r_iload_n dX10_makesAll_40 (i := 2) rfl rfl (r_iload_n dX10_makesAll_41 (i := 3) rfl rfl (r_iremN dX10_makesAll_42 (by omega) (by omega) (by omega) (by omega) ?_))
    rw [e1]
    refine r_if_ne 53 dX10_makesAll_43 (by decide) (by omega) (fun c1 => ?_) (fun c1 => ?_)
    · refine k 0 left (by rw [Nat.pow_zero, Nat.one_mul]) (fun hd => ?_) h1 (Nat.le_refl _)
      have := Nat.mod_eq_zero_of_dvd hd
      omega
    · have hd : f ∣ left := Nat.dvd_of_mod_eq_zero (by omega)
      have hlt : left / f < left := Nat.div_lt_self (by omega) (by omega)
      have hpos : 1 ≤ left / f := Nat.div_pos (Nat.le_of_dvd (by omega) hd) (by omega)
      refine r_iload_n dX10_makesAll_46 (i := 2) rfl rfl (r_iload_n dX10_makesAll_47 (i := 3) rfl rfl (r_idivN dX10_makesAll_48 (by omega) (by omega) (by omega) (by omega) (r_istore_n dX10_makesAll_49 (i := 2) rfl rfl (Nat.le_of_ble_eq_true rfl) (r_goto 40 dX10_makesAll_50 (by decide) ?_))))
      refine r_loc [(0, some (vi (e : Int))), (1, some (vi (p : Int))), (2, some (vi ((left / f : Nat) : Int))), (3, some (vi (f : Int)))] ⟨Or.inl rfl, Or.inl rfl, Or.inl rfl, Or.inl rfl, trivial⟩ ?_
      refine ih (left / f) hlt hpos (by omega) (fun k' left' e h3 h4 h5 => k (k' + 1) left' ?_ h3 h4 (by omega))
      rw [Nat.pow_succ, Nat.mul_comm (f ^ k') f, Nat.mul_assoc, ← e, Nat.mul_div_cancel' hd]
theorem l_makes {e p : Nat} (he : e < p) (hp : 3 ≤ p ∧ p ≤ 100003) (hq : ∀ b : Int, b = genI p e → Q (.inl (some (vi b))) S) : ∀ (m f left : Nat), p + 1 ≤ f + m → f ≤ p → LF (p - 1) f left → (∀ r, Pr r → r ∣ p - 1 → r < f → e ^ ((p - 1) / r) % p ≠ 1) →
    PW g cX10_makesAll (iX10_makesAll mc ms) 6 [(0, some (vi (e : Int))), (1, some (vi (p : Int))), (2, some (vi (left : Int))), (3, some (vi (f : Int)))] [] S kc ks Q := by
  intro m
  induction m with
  | zero =>
    intro f left hm hfp hL hr
    omega
  | succ m ih =>
    intro f left hm hfp hL hr
    have hle := Nat.le_of_dvd (by omega) hL.2.1
    have h1 := hL.1
    have h2 := hL.2.2.1
    have e1 : (left : Int) % (f : Int) = ((left % f : Nat) : Int) := (Int.natCast_emod _ _).symm
    have hml := Nat.mod_lt left (show 0 < f by omega)
    refine r_iload_n dX10_makesAll_6 (i := 2) rfl rfl (r_iconst dX10_makesAll_7 ?_)
    refine r_icmp_le 59 dX10_makesAll_8 (by decide) (by omega) (by omega) (fun c1 => ?_) (fun c1 => ?_)
    · refine r_iconst dX10_makesAll_59 (r_iret dX10_makesAll_60 rfl (q_narZ (by first | exact Or.inl rfl | exact Or.inr rfl)) ?_)
      have e3 : left = 1 := by omega
      subst e3
      refine hq 1 (genI_t fun r r1 r2 => ?_).symm
      rcases Nat.lt_or_ge r f with z | z
      · exact hr r r1 r2 z
      · exact absurd ⟨r1, r2⟩ (hL.fin r z)
    · have hfl := hL.le (by omega)
      refine r_iload_n dX10_makesAll_11 (i := 2) rfl rfl (r_iload_n dX10_makesAll_12 (i := 3) rfl rfl (r_iremN dX10_makesAll_13 (by omega) (by omega) (by omega) (by omega) ?_))
      rw [e1]
      refine r_if_eq 20 dX10_makesAll_14 (by decide) (by omega) (fun c2 => ?_) (fun c2 => ?_)
      · have hd : f ∣ left := Nat.dvd_of_mod_eq_zero (by omega)
        have hpr := hL.pr hd
        have hdl := Nat.div_le_self (p - 1) f
        have hd0 : (0 : Int) ≤ ((p - 1 : Nat) : Int) / (f : Int) := Int.ediv_nonneg (Int.natCast_nonneg _) (Int.natCast_nonneg _)
        have hpm := Nat.mod_lt (e ^ ((p - 1) / f)) (show 0 < p by omega)
        refine r_iload_n dX10_makesAll_20 (i := 0) rfl rfl (r_i2l dX10_makesAll_21 (by omega) (r_iload_n dX10_makesAll_22 (i := 1) rfl rfl (r_iconst dX10_makesAll_23 (r_isub dX10_makesAll_24 ?_))))
        refine r_iload_n dX10_makesAll_25 (i := 3) rfl rfl (r_idivN dX10_makesAll_26 (by omega) (by omega) (by omega) (by omega) ?_)
        rw [show ((p : Int) - 1) = ((p - 1 : Nat) : Int) by omega, ← Int.natCast_ediv]
        refine r_i2l dX10_makesAll_27 (by omega) (r_iload_n dX10_makesAll_28 (i := 1) rfl rfl (r_i2l dX10_makesAll_29 (by omega) (c_sr dX10_makesAll_30 (c_X10_powerOf ⟨by omega, by omega⟩ hp (by omega)) rfl rfl mq_X10_powerOf ml_X10_155 ⟨Nat.le_of_ble_eq_true rfl, Nat.le_of_ble_eq_true rfl⟩ rfl rfl (Nat.le_of_ble_eq_true rfl) (r_lconst (z := 1) dX10_makesAll_33 (by decide) ?_))))
        rw [pwI_of he]
        refine r_lcmp_ne 40 dX10_makesAll_34 dX10_makesAll_35 (by decide) (by omega) (by omega) (fun c3 => ?_) (fun c3 => ?_)
        · refine l_mdiv ⟨h2, by omega⟩ left h1 (by omega) (fun k left' g1 g2 g3 g4 => ?_)
          refine r_iinc dX10_makesAll_53 rfl rfl (r_goto 6 dX10_makesAll_56 (by decide) ?_)
          refine r_loc [(0, some (vi (e : Int))), (1, some (vi (p : Int))), (2, some (vi (left' : Int))), (3, some (vi ((f + 1 : Nat) : Int)))] ⟨Or.inl rfl, Or.inl rfl, Or.inl rfl, Or.inl rfl, trivial⟩ (ih (f + 1) left' (by omega) (by omega) (hL.take hd g1 g2) (fun r r1 r2 r3 => ?_))
          by_cases z : r = f
          · subst z
            omega
          · exact hr r r1 r2 (by omega)
        · refine r_iconst dX10_makesAll_38 (r_iret dX10_makesAll_39 rfl (q_narZ (by first | exact Or.inl rfl | exact Or.inr rfl)) ?_)
          refine hq 0 (genI_f fun hg => ?_).symm
          exact hg f hpr.1 hpr.2 (by omega)
      · have hnd : ¬ f ∣ left := fun hd => by
          have := Nat.mod_eq_zero_of_dvd hd
          omega
        obtain ⟨hL2, hno⟩ := hL.skip hnd
        refine r_goto 53 dX10_makesAll_17 (by decide) (r_iinc dX10_makesAll_53 rfl rfl (r_goto 6 dX10_makesAll_56 (by decide) ?_))
        refine r_loc [(0, some (vi (e : Int))), (1, some (vi (p : Int))), (2, some (vi (left : Int))), (3, some (vi ((f + 1 : Nat) : Int)))] ⟨Or.inl rfl, Or.inl rfl, Or.inl rfl, Or.inl rfl, trivial⟩ (ih (f + 1) left (by omega) (by omega) hL2 (fun r r1 r2 r3 => ?_))
        by_cases z : r = f
        · subst z
          exact absurd ⟨r1, r2⟩ hno
        · exact hr r r1 r2 (by omega)
theorem c_X10_makesAll {e p : Nat} (he : e < p) (hp : 3 ≤ p ∧ p ≤ 100003) : PC g yX10_makesAll cX10_makesAll (iX10_makesAll mc ms) [vi (e : Int), vi (p : Int)] S (Rt (some (vi (genI p e))) S) := by
  refine PC_of pnX10 rfl rfl rfl (Nat.le_of_ble_eq_true rfl) ?_
  refine r_iload_n dX10_makesAll_0 (i := 1) rfl rfl (r_iconst dX10_makesAll_1 (r_isub dX10_makesAll_2 (r_istore_n dX10_makesAll_3 (i := 2) rfl rfl (Nat.le_of_ble_eq_true rfl) (r_iconst dX10_makesAll_4 ?_))))
  refine r_istore_n dX10_makesAll_5 (i := 3) rfl rfl (Nat.le_of_ble_eq_true rfl) ?_
  rw [show ((p : Int) - 1) = ((p - 1 : Nat) : Int) by omega]
  exact r_loc [(0, some (vi (e : Int))), (1, some (vi (p : Int))), (2, some (vi ((p - 1 : Nat) : Int))), (3, some (vi ((2 : Nat) : Int)))] ⟨Or.inl rfl, Or.inl rfl, Or.inl rfl, Or.inl rfl, trivial⟩ (l_makes he hp (fun b hb => ⟨by rw [hb], rfl⟩) p 2 (p - 1) (by omega) (by omega) (LF.start (by omega)) (fun r r1 _ r3 => by have := r1.1; omega))
theorem l_mgen {e0 p : Nat} (hp : 3 ≤ p ∧ p ≤ 100003) (hg : GenOf p e0) (hq : Q (.inl (some (vi (e0 : Int)))) S) : ∀ (n e : Nat), e + n = e0 → 2 ≤ e →
    PW g cX10_generator (iX10_generator mc ms) 2 [(0, some (vi (p : Int))), (1, some (vi (e : Int)))] [] S kc ks Q := by
  intro n
  have hlt := hg.2.1
  induction n with
  | zero =>
    intro e he h2
    have : e = e0 := by omega
    subst this
    refine r_iload_n dX10_generator_2 (i := 1) rfl rfl (r_iload_n dX10_generator_3 (i := 0) rfl rfl (c_sr dX10_generator_4 (c_X10_makesAll hlt hp) rfl rfl mq_X10_makesAll ml_X10_159 ⟨Nat.le_of_ble_eq_true rfl, Nat.le_of_ble_eq_true rfl⟩ rfl rfl (Nat.le_of_ble_eq_true rfl) ?_))
    rw [genI_t hg.2.2.1]
    refine r_if_ne 16 dX10_generator_7 (by decide) (by omega) (fun c1 => ?_) (fun c1 => ?_)
    · refine r_iload_n dX10_generator_16 (i := 1) rfl rfl (r_iret dX10_generator_17 rfl rfl ?_)
      exact hq
    · omega
  | succ n ih =>
    intro e he h2
    refine r_iload_n dX10_generator_2 (i := 1) rfl rfl (r_iload_n dX10_generator_3 (i := 0) rfl rfl (c_sr dX10_generator_4 (c_X10_makesAll (by omega) hp) rfl rfl mq_X10_makesAll ml_X10_159 ⟨Nat.le_of_ble_eq_true rfl, Nat.le_of_ble_eq_true rfl⟩ rfl rfl (Nat.le_of_ble_eq_true rfl) ?_))
    rw [genI_f (hg.2.2.2 e h2 (by omega))]
    refine r_if_ne 16 dX10_generator_7 (by decide) (by omega) (fun c1 => ?_) (fun c1 => ?_)
    · omega
    · refine r_iinc dX10_generator_10 rfl rfl (r_goto 2 dX10_generator_13 (by decide) ?_)
      exact r_loc [(0, some (vi (p : Int))), (1, some (vi ((e + 1 : Nat) : Int)))] ⟨Or.inl rfl, Or.inl rfl, trivial⟩ (ih (e + 1) (by omega) (by omega))
theorem c_X10_generator {e0 p : Nat} (hp : 3 ≤ p ∧ p ≤ 100003) (hg : GenOf p e0) : PC g yX10_generator cX10_generator (iX10_generator mc ms) [vi (p : Int)] S (Rt (some (vi (e0 : Int))) S) := by
  refine PC_of pnX10 rfl rfl rfl (Nat.le_of_ble_eq_true rfl) ?_
  refine r_iconst dX10_generator_0 (r_istore_n dX10_generator_1 (i := 1) rfl rfl (Nat.le_of_ble_eq_true rfl) ?_)
  have := hg.1
  exact r_loc [(0, some (vi (p : Int))), (1, some (vi ((2 : Nat) : Int)))] ⟨Or.inl rfl, Or.inl rfl, trivial⟩ (l_mgen hp hg ⟨rfl, rfl⟩ (e0 - 2) 2 (by omega) (by omega))
theorem c_X10_rootOf {e0 p n : Nat} (hp : 3 ≤ p ∧ p ≤ 100003) (hg : GenOf p e0) (hn : 1 ≤ n ∧ n < 2147483648) : PC g yX10_rootOf cX10_rootOf (iX10_rootOf mc ms) [vi (p : Int), vi (n : Int)] S (Rt (some (vl ((e0 ^ ((p - 1) / n) % p : Nat) : Int))) S) := by
  refine PC_of pnX10 rfl rfl rfl (Nat.le_of_ble_eq_true rfl) ?_
  have hl := hg.2.1
  have hd := Nat.div_le_self (p - 1) n
  have hd0 : (0 : Int) ≤ ((p - 1 : Nat) : Int) / (n : Int) := Int.ediv_nonneg (Int.natCast_nonneg _) (Int.natCast_nonneg _)
  refine r_iload_n dX10_rootOf_0 (i := 0) rfl rfl (c_sr dX10_rootOf_1 (c_X10_generator hp hg) rfl rfl mq_X10_generator ml_X10_168 ⟨Nat.le_of_ble_eq_true rfl, Nat.le_of_ble_eq_true rfl⟩ rfl rfl (Nat.le_of_ble_eq_true rfl) (r_i2l dX10_rootOf_4 (by omega) (r_iload_n dX10_rootOf_5 (i := 0) rfl rfl (r_iconst dX10_rootOf_6 ?_))))
  refine r_isub dX10_rootOf_7 (r_iload_n dX10_rootOf_8 (i := 1) rfl rfl (r_idivN dX10_rootOf_9 (by omega) (by omega) (by omega) (by omega) ?_))
  rw [show ((p : Int) - 1) = ((p - 1 : Nat) : Int) by omega, ← Int.natCast_ediv]
  refine r_i2l dX10_rootOf_10 (by omega) (r_iload_n dX10_rootOf_11 (i := 0) rfl rfl (r_i2l dX10_rootOf_12 (by omega) (c_sr dX10_rootOf_13 (c_X10_powerOf ⟨by omega, by omega⟩ hp (by omega)) rfl rfl mq_X10_powerOf ml_X10_155 ⟨Nat.le_of_ble_eq_true rfl, Nat.le_of_ble_eq_true rfl⟩ rfl rfl (Nat.le_of_ble_eq_true rfl) (r_lret dX10_rootOf_16 rfl ?_))))
  exact ⟨by rw [pwI_of hl], rfl⟩
theorem l_fdiv {n many f : Nat} (hf : 2 ≤ f ∧ f ≤ 100003) : ∀ left, 1 ≤ left → left < 100003 → (∀ k left', left = f ^ k * left' → ¬ f ∣ left' → PW g cX10_factors (iX10_factors mc ms) 36 [(0, some (vi (n : Int))), (1, some (vi (many : Int))), (2, some (vi (left' : Int))), (3, some (vi (f : Int)))] [] S kc ks Q) →
    PW g cX10_factors (iX10_factors mc ms) 23 [(0, some (vi (n : Int))), (1, some (vi (many : Int))), (2, some (vi (left : Int))), (3, some (vi (f : Int)))] [] S kc ks Q := by
  intro left
  induction left using Nat.strongRecOn with
  | ind left ih =>
    intro h1 h2 k
    have e1 : (left : Int) % (f : Int) = ((left % f : Nat) : Int) := (Int.natCast_emod _ _).symm
    have e2 : (left : Int) / (f : Int) = ((left / f : Nat) : Int) := (Int.natCast_ediv _ _).symm
    have hm := Nat.mod_lt left (show 0 < f by omega)
    refine r_iload_n dX10_factors_23 (i := 2) rfl rfl (r_iload_n dX10_factors_24 (i := 3) rfl rfl (r_iremN dX10_factors_25 (by omega) (by omega) (by omega) (by omega) ?_))
    rw [e1]
    refine r_if_ne 36 dX10_factors_26 (by decide) (by omega) (fun c1 => ?_) (fun c1 => ?_)
    · refine k 0 left (by rw [Nat.pow_zero, Nat.one_mul]) (fun hd => ?_)
      have := Nat.mod_eq_zero_of_dvd hd
      omega
    · have hd : f ∣ left := Nat.dvd_of_mod_eq_zero (by omega)
      have hlt : left / f < left := Nat.div_lt_self (by omega) (by omega)
      have hpos : 1 ≤ left / f := Nat.div_pos (Nat.le_of_dvd (by omega) hd) (by omega)
      refine r_iload_n dX10_factors_29 (i := 2) rfl rfl (r_iload_n dX10_factors_30 (i := 3) rfl rfl (r_idivN dX10_factors_31 (by omega) (by omega) (by omega) (by omega) (r_istore_n dX10_factors_32 (i := 2) rfl rfl (Nat.le_of_ble_eq_true rfl) (r_goto 23 dX10_factors_33 (by decide) ?_))))
      refine r_loc [(0, some (vi (n : Int))), (1, some (vi (many : Int))), (2, some (vi ((left / f : Nat) : Int))), (3, some (vi (f : Int)))] ⟨Or.inl rfl, Or.inl rfl, Or.inl rfl, Or.inl rfl, trivial⟩ ?_
      refine ih (left / f) hlt hpos (by omega) (fun k' left' e h3 => k (k' + 1) left' ?_ h3)
      rw [Nat.pow_succ, Nat.mul_comm (f ^ k') f, Nat.mul_assoc, ← e, Nat.mul_div_cancel' hd]
theorem l_mfac {n : Nat} (hn : 1 ≤ n ∧ n ≤ 100002) (hq : Q (.inl (some (vi (npf n (n + 1) : Int)))) S) : ∀ (m f left : Nat), n + 2 ≤ f + m → f ≤ n + 1 → LF n f left →
    PW g cX10_factors (iX10_factors mc ms) 6 [(0, some (vi (n : Int))), (1, some (vi (npf n f : Int))), (2, some (vi (left : Int))), (3, some (vi (f : Int)))] [] S kc ks Q := by
  intro m
  induction m with
  | zero =>
    intro f left hm hfp hL
    omega
  | succ m ih =>
    intro f left hm hfp hL
    have hle := Nat.le_of_dvd (by omega) hL.2.1
    have h1 := hL.1
    have h2 := hL.2.2.1
    have e1 : (left : Int) % (f : Int) = ((left % f : Nat) : Int) := (Int.natCast_emod _ _).symm
    have hml := Nat.mod_lt left (show 0 < f by omega)
    refine r_iload_n dX10_factors_6 (i := 2) rfl rfl (r_iconst dX10_factors_7 ?_)
    refine r_icmp_le 42 dX10_factors_8 (by decide) (by omega) (by omega) (fun c1 => ?_) (fun c1 => ?_)
    · refine r_iload_n dX10_factors_42 (i := 1) rfl rfl (r_iret dX10_factors_43 rfl rfl ?_)
      have e3 : left = 1 := by omega
      subst e3
      rw [npf_end hn.1 hL.fin]
      exact hq
    · have hfl := hL.le (by omega)
      refine r_iload_n dX10_factors_11 (i := 2) rfl rfl (r_iload_n dX10_factors_12 (i := 3) rfl rfl (r_iremN dX10_factors_13 (by omega) (by omega) (by omega) (by omega) ?_))
      rw [e1]
      refine r_if_eq 20 dX10_factors_14 (by decide) (by omega) (fun c2 => ?_) (fun c2 => ?_)
      · have hd : f ∣ left := Nat.dvd_of_mod_eq_zero (by omega)
        have hpr := hL.pr hd
        have e4 : npf n (f + 1) = npf n f + 1 := by
          show npf n f + isf n f = _
          rw [isf_1 hpr]
        refine r_iinc dX10_factors_20 rfl rfl ?_
        refine r_loc [(0, some (vi (n : Int))), (1, some (vi (npf n (f + 1) : Int))), (2, some (vi (left : Int))), (3, some (vi (f : Int)))] ⟨Or.inl rfl, Or.inl (by rw [e4]; rfl), Or.inl rfl, Or.inl rfl, trivial⟩ ?_
        refine l_fdiv ⟨h2, by omega⟩ left h1 (by omega) (fun k left' g1 g2 => ?_)
        have hL2 := hL.take hd g1 g2
        refine r_iinc dX10_factors_36 rfl rfl (r_goto 6 dX10_factors_39 (by decide) ?_)
        exact r_loc [(0, some (vi (n : Int))), (1, some (vi (npf n (f + 1) : Int))), (2, some (vi (left' : Int))), (3, some (vi ((f + 1 : Nat) : Int)))] ⟨Or.inl rfl, Or.inl rfl, Or.inl rfl, Or.inl rfl, trivial⟩ (ih (f + 1) left' (by omega) (by omega) hL2)
      · have hnd : ¬ f ∣ left := fun hd => by
          have := Nat.mod_eq_zero_of_dvd hd
          omega
        obtain ⟨hL2, hno⟩ := hL.skip hnd
        have e4 : npf n (f + 1) = npf n f := by
          show npf n f + isf n f = _
          rw [isf_0 hno, Nat.add_zero]
        refine r_goto 36 dX10_factors_17 (by decide) (r_iinc dX10_factors_36 rfl rfl (r_goto 6 dX10_factors_39 (by decide) ?_))
        exact r_loc [(0, some (vi (n : Int))), (1, some (vi (npf n (f + 1) : Int))), (2, some (vi (left : Int))), (3, some (vi ((f + 1 : Nat) : Int)))] ⟨Or.inl rfl, Or.inl (by rw [e4]; rfl), Or.inl rfl, Or.inl rfl, trivial⟩ (ih (f + 1) left (by omega) (by omega) hL2)
theorem c_X10_factors {n : Nat} (hn : 1 ≤ n ∧ n ≤ 100002) : PC g yX10_factors cX10_factors (iX10_factors mc ms) [vi (n : Int)] S (Rt (some (vi (npf n (n + 1) : Int))) S) := by
  refine PC_of pnX10 rfl rfl rfl (Nat.le_of_ble_eq_true rfl) ?_
  refine r_iconst dX10_factors_0 (r_istore_n dX10_factors_1 (i := 1) rfl rfl (Nat.le_of_ble_eq_true rfl) (r_iload_n dX10_factors_2 (i := 0) rfl rfl (r_istore_n dX10_factors_3 (i := 2) rfl rfl (Nat.le_of_ble_eq_true rfl) (r_iconst dX10_factors_4 ?_))))
  refine r_istore_n dX10_factors_5 (i := 3) rfl rfl (Nat.le_of_ble_eq_true rfl) ?_
  exact r_loc [(0, some (vi (n : Int))), (1, some (vi (npf n 2 : Int))), (2, some (vi (n : Int))), (3, some (vi ((2 : Nat) : Int)))] ⟨Or.inl rfl, Or.inl (by rw [npf_two]; rfl), Or.inl rfl, Or.inl rfl, trivial⟩ (l_mfac hn ⟨rfl, rfl⟩ (n + 2) 2 n (by omega) (by omega) (LF.start hn.1))
theorem l_twos {n k y : Nat} (hn : n = 2 ^ k * (2 * y + 1)) (hl : n ≤ 100002) (hq : Q (.inl (some (vi ((2 ^ k : Nat) : Int)))) S) : ∀ (m j : Nat), j + m = k →
    PW g cX10_twos (iX10_twos mc ms) 2 [(0, some (vi (n : Int))), (1, some (vi ((2 ^ j : Nat) : Int)))] [] S kc ks Q := by
  intro m
  have hk := Nat.le_mul_of_pos_right (2 ^ k) (show 0 < 2 * y + 1 by omega)
  induction m with
  | zero =>
    intro j hj
    have : j = k := by omega
    subst this
    have h0 := Nat.pow_pos (n := j) (show 0 < 2 by omega)
    have hm : n % (2 * 2 ^ j) = 2 ^ j := by
      rw [hn, Nat.mul_comm 2 (2 ^ j), Nat.mul_mod_mul_left, show (2 * y + 1) % 2 = 1 by omega, Nat.mul_one]
    have e1 : (n : Int) % (2 * ((2 ^ j : Nat) : Int)) = ((n % (2 * 2 ^ j) : Nat) : Int) := (Int.natCast_emod _ _).symm
    rw [hm] at e1
    generalize hz : (2 ^ j : Nat) = z at *
    refine r_iload_n dX10_twos_2 (i := 0) rfl rfl (r_iconst dX10_twos_3 (r_iload_n dX10_twos_4 (i := 1) rfl rfl (r_imul dX10_twos_5 (r_iremN dX10_twos_6 (by omega) (by omega) (by omega) (by omega) ?_))))
    rw [e1]
    refine r_if_ne 17 dX10_twos_7 (by decide) (by omega) (fun c1 => ?_) (fun c1 => ?_)
    · refine r_iload_n dX10_twos_17 (i := 1) rfl rfl (r_iret dX10_twos_18 rfl rfl ?_)
      exact hq
    · omega
  | succ m ih =>
    intro j hj
    have h0 := Nat.pow_pos (n := j) (show 0 < 2 by omega)
    have hle := Nat.pow_le_pow_right (show 0 < 2 by omega) (show j + 1 ≤ k by omega)
    have hsu : 2 ^ (j + 1) = 2 ^ j * 2 := Nat.pow_succ ..
    have hd : 2 ^ (j + 1) ∣ n := Nat.dvd_trans (Nat.pow_dvd_pow 2 (show j + 1 ≤ k by omega)) ⟨2 * y + 1, hn⟩
    have hm : n % (2 * 2 ^ j) = 0 := by
      rw [Nat.mul_comm, ← hsu]
      exact Nat.mod_eq_zero_of_dvd hd
    have e1 : (n : Int) % (2 * ((2 ^ j : Nat) : Int)) = 0 := by
      have : ((n % (2 * 2 ^ j) : Nat) : Int) = 0 := by rw [hm]; rfl
      rw [← this]
      exact (Int.natCast_emod _ _).symm
    have ih2 := ih (j + 1) (by omega)
    rw [hsu] at ih2 hle
    generalize hz : (2 ^ j : Nat) = z at *
    refine r_iload_n dX10_twos_2 (i := 0) rfl rfl (r_iconst dX10_twos_3 (r_iload_n dX10_twos_4 (i := 1) rfl rfl (r_imul dX10_twos_5 (r_iremN dX10_twos_6 (by omega) (by omega) (by omega) (by omega) ?_))))
    rw [e1]
    refine r_if_ne 17 dX10_twos_7 (by decide) (by omega) (fun c1 => ?_) (fun c1 => ?_)
    · omega
    · refine r_iload_n dX10_twos_10 (i := 1) rfl rfl (r_iconst dX10_twos_11 (r_imul dX10_twos_12 (r_istore_n dX10_twos_13 (i := 1) rfl rfl (Nat.le_of_ble_eq_true rfl) (r_goto 2 dX10_twos_14 (by decide) ?_))))
      exact r_loc [(0, some (vi (n : Int))), (1, some (vi ((z * 2 : Nat) : Int)))] ⟨Or.inl rfl, Or.inl rfl, trivial⟩ ih2
theorem c_X10_twos {n v : Nat} (hv : LowBit n v) (hn : n ≤ 100002) : PC g yX10_twos cX10_twos (iX10_twos mc ms) [vi (n : Int)] S (Rt (some (vi (v : Int))) S) := by
  refine PC_of pnX10 rfl rfl rfl (Nat.le_of_ble_eq_true rfl) ?_
  obtain ⟨k, y, h1, h2⟩ := hv
  rw [h2]
  refine r_iconst dX10_twos_0 (r_istore_n dX10_twos_1 (i := 1) rfl rfl (Nat.le_of_ble_eq_true rfl) ?_)
  exact r_loc [(0, some (vi (n : Int))), (1, some (vi ((2 ^ 0 : Nat) : Int)))] ⟨Or.inl rfl, Or.inl rfl, trivial⟩ (l_twos h1 hn ⟨rfl, rfl⟩ k 0 (by omega))
theorem l_divisors {n : Int} (hn : 0 ≤ n ∧ n ≤ 100002) (hq : Q (.inl (some (vi (ndiv n 64)))) S) : ∀ (m k : Nat), k + m = 64 →
    PW g cX10_divisors (iX10_divisors mc ms) 4 [(0, some (vi n)), (1, some (vi (ndiv n k))), (2, some (vi ((k + 1 : Nat) : Int)))] [] S kc ks Q := by
  intro m
  induction m with
  | zero =>
    intro k hk
    have : k = 64 := by omega
    subst this
    refine r_iload_n dX10_divisors_4 (i := 2) rfl rfl (r_bipush dX10_divisors_5 (by decide) ?_)
    refine r_icmp_gt 30 dX10_divisors_7 (by decide) (by omega) (by omega) (fun h1 => ?_) (fun h1 => ?_)
    · refine r_iload_n dX10_divisors_30 (i := 1) rfl rfl (r_iret dX10_divisors_31 rfl rfl ?_)
      exact hq
    · omega
  | succ m ih =>
    intro k hk
    have e : ndiv n (k + 1) = ndiv n k + b2i (n % ((k + 1 : Nat) : Int) = 0) := rfl
    have b1 := Int.emod_nonneg n (show ((k + 1 : Nat) : Int) ≠ 0 by omega)
    have b2 := Int.emod_lt_of_pos n (show (0 : Int) < ((k + 1 : Nat) : Int) by omega)
    refine r_iload_n dX10_divisors_4 (i := 2) rfl rfl (r_bipush dX10_divisors_5 (by decide) ?_)
    refine r_icmp_gt 30 dX10_divisors_7 (by decide) (by omega) (by omega) (fun h1 => ?_) (fun h1 => ?_)
    · omega
    · refine r_iload_n dX10_divisors_10 (i := 1) rfl rfl (r_iload_n dX10_divisors_11 (i := 0) rfl rfl (r_iload_n dX10_divisors_12 (i := 2) rfl rfl (r_iremN dX10_divisors_13 (by omega) (by omega) (by omega) (by omega) ?_)))
      refine r_if_ne 21 dX10_divisors_14 (by decide) (by omega) (fun h2 => ?_) (fun h2 => ?_)
      · rw [b2i_f h2] at e
        refine r_iconst dX10_divisors_21 (r_iadd dX10_divisors_22 (r_istore_n dX10_divisors_23 (i := 1) rfl rfl (Nat.le_of_ble_eq_true rfl) (r_iinc dX10_divisors_24 rfl rfl (r_goto 4 dX10_divisors_27 (by decide) ?_))))
        exact r_loc [(0, some (vi n)), (1, some (vi (ndiv n (k + 1)))), (2, some (vi ((k + 1 + 1 : Nat) : Int)))] ⟨Or.inl rfl, Or.inl (by rw [e]; rfl), Or.inl rfl, trivial⟩ (ih (k + 1) (by omega))
      · rw [b2i_t h2] at e
        refine r_iconst dX10_divisors_17 (r_goto 22 dX10_divisors_18 (by decide) (r_iadd dX10_divisors_22 (r_istore_n dX10_divisors_23 (i := 1) rfl rfl (Nat.le_of_ble_eq_true rfl) (r_iinc dX10_divisors_24 rfl rfl ?_))))
        refine r_goto 4 dX10_divisors_27 (by decide) ?_
        exact r_loc [(0, some (vi n)), (1, some (vi (ndiv n (k + 1)))), (2, some (vi ((k + 1 + 1 : Nat) : Int)))] ⟨Or.inl rfl, Or.inl (by rw [e]; rfl), Or.inl rfl, trivial⟩ (ih (k + 1) (by omega))
theorem c_X10_divisors {n : Int} (hn : 0 ≤ n ∧ n ≤ 100002) : PC g yX10_divisors cX10_divisors (iX10_divisors mc ms) [vi n] S (Rt (some (vi (ndiv n 64))) S) := by
  refine PC_of pnX10 rfl rfl rfl (Nat.le_of_ble_eq_true rfl) ?_
  refine r_iconst dX10_divisors_0 (r_istore_n dX10_divisors_1 (i := 1) rfl rfl (Nat.le_of_ble_eq_true rfl) (r_iconst dX10_divisors_2 (r_istore_n dX10_divisors_3 (i := 2) rfl rfl (Nat.le_of_ble_eq_true rfl) ?_)))
  exact r_loc [(0, some (vi n)), (1, some (vi (ndiv n 0))), (2, some (vi ((0 + 1 : Nat) : Int)))] ⟨Or.inl rfl, Or.inl rfl, Or.inl rfl, trivial⟩ (l_divisors hn ⟨rfl, rfl⟩ 64 0 rfl)
end MOD2

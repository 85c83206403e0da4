/-! the class: the bound, the coefficient -/
def linI (f h : Int → Int) (lb k : Int) : Nat → Int
  | 0 => 0
  | i + 1 => linI f h lb k i + (if 0 ≤ k - i ∧ k - i < lb then f i * h (k - i) else 0)
def sgnK (kd : Int) : Int := if kd = 0 then 0 else if kd = 2 then -1 else 1
theorem mult_n {n b : Int} (hn : 0 < n) (h1 : -n < b) (h2 : b < 2 * n) (h : b % n = 0) : b = 0 ∨ b = n := by
  obtain ⟨c, hc⟩ := Int.dvd_of_emod_eq_zero h
  rcases Int.lt_or_le c 2 with z | z
  · rcases Int.lt_or_le c 0 with z2 | z2
    · have := Int.mul_le_mul_of_nonneg_left (show c ≤ -1 by omega) (show 0 ≤ n by omega)
      omega
    · have : c = 0 ∨ c = 1 := by omega
      rcases this with e | e
      · subst e
        omega
      · subst e
        omega
  · have := Int.mul_le_mul_of_nonneg_left z (show 0 ≤ n by omega)
    omega
theorem wgt_val {kd n b : Int} (hkd : 0 ≤ kd ∧ kd ≤ 2) (hn : kd = 0 ∨ (0 < n ∧ -n < b ∧ b < 2 * n)) : wgt kd n b = if b = 0 then 1 else if b = n ∧ kd ≠ 0 then sgnK kd else 0 := by
  by_cases h0 : kd = 0
  · subst h0
    unfold wgt
    rw [if_pos rfl]
    by_cases hb : b = 0
    · rw [if_pos hb, if_pos hb]
    · rw [if_neg hb, if_neg hb, if_neg (fun z => z.2 rfl)]
  · have hn2 : 0 < n ∧ -n < b ∧ b < 2 * n := by omega
    by_cases hb : b = 0
    · subst hb
      rw [if_pos rfl]
      exact wgt_1 h0 (Int.zero_emod n) (by rw [Int.zero_ediv]; omega)
    · rw [if_neg hb]
      by_cases hb2 : b = n
      · subst hb2
        rw [if_pos ⟨rfl, h0⟩]
        unfold sgnK
        rw [if_neg h0]
        by_cases h2 : kd = 2
        · rw [if_pos h2]
          exact wgt_m (Int.emod_self) ⟨h2, by rw [Int.ediv_self (by omega)]; decide⟩
        · rw [if_neg h2]
          exact wgt_1 h0 (Int.emod_self) (fun z => h2 z.1)
      · rw [if_neg (fun z => hb2 z.1)]
        exact wgt_0 h0 (fun z => by rcases mult_n hn2.1 hn2.2.1 hn2.2.2 z with e | e <;> omega)
theorem cfJ_lin {kd n k x i : Int} {h : Int → Int} (hkd : 0 ≤ kd ∧ kd ≤ 2) (hk : 0 ≤ k) (hi : 0 ≤ i) (hn : kd = 0 ∨ (k < n ∧ i < n)) : ∀ j : Nat, (kd = 0 ∨ (j : Int) ≤ n) → cfJ kd n k x h i j = (if 0 ≤ k - i ∧ k - i < (j : Int) then x * h (k - i) else 0) + sgnK kd * (if 0 ≤ k + n - i ∧ k + n - i < (j : Int) then x * h (k + n - i) else 0)
  | 0, _ => by
    rw [if_neg (by omega), if_neg (by omega)]
    show (0 : Int) = 0 + sgnK kd * 0
    rw [Int.mul_zero]
    rfl
  | j + 1, hj => by
    have ih := cfJ_lin (x := x) (h := h) hkd hk hi hn j (by omega)
    have hw := wgt_val (kd := kd) (n := n) (b := i + (j : Int) - k) hkd (by omega)
    have e : cfJ kd n k x h i (j + 1) = cfJ kd n k x h i j + wgt kd n (i + (j : Int) - k) * (x * h (j : Int)) := rfl
    by_cases h0 : kd = 0
    · have hs : sgnK kd = 0 := by
        unfold sgnK
        rw [if_pos h0]
      rw [hs, Int.zero_mul, Int.add_zero] at ih ⊢
      by_cases c1 : i + (j : Int) - k = 0
      · rw [if_pos c1] at hw
        rw [e, ih, hw, if_neg (show ¬ (0 ≤ k - i ∧ k - i < (j : Int)) by omega), if_pos (show 0 ≤ k - i ∧ k - i < ((j + 1 : Nat) : Int) by omega), show k - i = (j : Int) by omega]
        omega
      · rw [if_neg c1, if_neg (fun z => z.2 h0)] at hw
        rw [e, ih, hw, Int.zero_mul, Int.add_zero]
        by_cases c2 : 0 ≤ k - i ∧ k - i < (j : Int)
        · rw [if_pos c2, if_pos (show 0 ≤ k - i ∧ k - i < ((j + 1 : Nat) : Int) by omega)]
        · rw [if_neg c2, if_neg (show ¬ (0 ≤ k - i ∧ k - i < ((j + 1 : Nat) : Int)) by omega)]
    · by_cases c1 : i + (j : Int) - k = 0
      · rw [if_pos c1] at hw
        rw [e, ih, hw, if_neg (show ¬ (0 ≤ k - i ∧ k - i < (j : Int)) by omega), if_pos (show 0 ≤ k - i ∧ k - i < ((j + 1 : Nat) : Int) by omega), show k - i = (j : Int) by omega, if_neg (show ¬ (0 ≤ k + n - i ∧ k + n - i < (j : Int)) by omega), if_neg (show ¬ (0 ≤ k + n - i ∧ k + n - i < ((j + 1 : Nat) : Int)) by omega)]
        omega
      · by_cases c3 : i + (j : Int) - k = n
        · rw [if_neg c1, if_pos ⟨c3, h0⟩] at hw
          rw [e, ih, hw, if_neg (show ¬ (0 ≤ k + n - i ∧ k + n - i < (j : Int)) by omega), if_pos (show 0 ≤ k + n - i ∧ k + n - i < ((j + 1 : Nat) : Int) by omega), show k + n - i = (j : Int) by omega, Int.mul_zero, Int.add_zero]
          by_cases c2 : 0 ≤ k - i ∧ k - i < (j : Int)
          · rw [if_pos c2, if_pos (show 0 ≤ k - i ∧ k - i < ((j + 1 : Nat) : Int) by omega)]
          · rw [if_neg c2, if_neg (show ¬ (0 ≤ k - i ∧ k - i < ((j + 1 : Nat) : Int)) by omega)]
        · rw [if_neg c1, if_neg (fun z => c3 z.1)] at hw
          rw [e, ih, hw, Int.zero_mul, Int.add_zero]
          by_cases c2 : 0 ≤ k - i ∧ k - i < (j : Int)
          · rw [if_pos c2, if_pos (show 0 ≤ k - i ∧ k - i < ((j + 1 : Nat) : Int) by omega)]
            by_cases c4 : 0 ≤ k + n - i ∧ k + n - i < (j : Int)
            · rw [if_pos c4, if_pos (show 0 ≤ k + n - i ∧ k + n - i < ((j + 1 : Nat) : Int) by omega)]
            · rw [if_neg c4, if_neg (show ¬ (0 ≤ k + n - i ∧ k + n - i < ((j + 1 : Nat) : Int)) by omega)]
          · rw [if_neg c2, if_neg (show ¬ (0 ≤ k - i ∧ k - i < ((j + 1 : Nat) : Int)) by omega)]
            by_cases c4 : 0 ≤ k + n - i ∧ k + n - i < (j : Int)
            · rw [if_pos c4, if_pos (show 0 ≤ k + n - i ∧ k + n - i < ((j + 1 : Nat) : Int) by omega)]
            · rw [if_neg c4, if_neg (show ¬ (0 ≤ k + n - i ∧ k + n - i < ((j + 1 : Nat) : Int)) by omega)]
/-- the double sum by its two lines -/
theorem cfI_lin {kd n k : Int} {f h : Int → Int} {lb : Nat} (hkd : 0 ≤ kd ∧ kd ≤ 2) (hk : 0 ≤ k) (hlb : kd = 0 ∨ (k < n ∧ (lb : Int) ≤ n)) : ∀ i : Nat, (kd = 0 ∨ (i : Int) ≤ n) → cfI kd n k f h lb i = linI f h lb k i + sgnK kd * linI f h lb (k + n) i
  | 0, _ => by
    show (0 : Int) = 0 + sgnK kd * 0
    rw [Int.mul_zero]
    rfl
  | i + 1, hi => by
    have ih := cfI_lin (f := f) (h := h) hkd hk hlb i (by omega)
    have hj := cfJ_lin (kd := kd) (n := n) (k := k) (x := f i) (i := (i : Int)) (h := h) hkd hk (by omega) (by omega) lb (by omega)
    show cfI kd n k f h lb i + cfJ kd n k (f i) h i lb = (linI f h lb k i + (if 0 ≤ k - (i : Int) ∧ k - (i : Int) < (lb : Int) then f i * h (k - i) else 0)) + sgnK kd * (linI f h lb (k + n) i + (if 0 ≤ k + n - (i : Int) ∧ k + n - (i : Int) < (lb : Int) then f i * h (k + n - i) else 0))
    rw [ih, hj, Int.mul_add]
    omega
section COEF
variable {g : GT} {S : PS} {mc ms : Nat} {Q : PO → PS → Prop} {kc ks : Nat} {s t : Nat} {ca cb : Int} {f h : Int → Int}
theorem linI_bd {k : Int} (hf : TermsOk ca f) (hh : TermsOk cb h) : ∀ i : Nat, (i : Int) ≤ ca → -(99980001 * (i : Int)) ≤ linI f h cb k i ∧ linI f h cb k i ≤ 99980001 * (i : Int)
  | 0, _ => ⟨Int.le_refl _, Int.le_refl _⟩
  | i + 1, hi => by
    have ih := linI_bd (k := k) hf hh i (by omega)
    have h1 := hf i (by omega) (by omega)
    show -(99980001 * ((i + 1 : Nat) : Int)) ≤ _ + _ ∧ _ + _ ≤ _
    split
    · next c =>
      have h2 := hh (k - i) c.1 c.2
      have h3 := mul_bd2 (M := 9999) (N := 9999) (by omega) (by omega) h1 h2
      omega
    · omega
theorem l_lin {k : Int} (hA : SeqAt S s ca f) (hB : SeqAt S t cb h) (hca : 0 ≤ ca ∧ ca ≤ 32) (hcb : 0 ≤ cb ∧ cb ≤ 32) (hf : TermsOk ca f) (hh : TermsOk cb h) (hk : 0 ≤ k ∧ k ≤ 200) (hq : Q (.inl (some (vl (linI f h cb k ca.toNat)))) S) : ∀ (r i : Nat), (i : Int) + r = ca →
    PW g cX9_linearCoefficient (iX9_linearCoefficient mc ms) 5 [(0, some (.ref s)), (1, some (.ref t)), (2, some (vi k)), (3, some (vl (linI f h cb k i))), (5, some (vi (i : Int)))] [] S kc ks Q := by
  intro r
  induction r with
  | zero =>
    intro i hi
    refine r_iload dX9_linearCoefficient_5 rfl (r_aload_n dX9_linearCoefficient_7 (i := 0) rfl rfl (r_get dX9_linearCoefficient_8 fl_X9_181 hA.1 rfl ?_))
    refine r_icmp_ge 60 dX9_linearCoefficient_11 (by decide) (by omega) (by omega) (fun c1 => ?_) (fun c1 => ?_)
    · refine r_lload_n dX9_linearCoefficient_60 (i := 3) rfl rfl ?_
      refine r_lret dX9_linearCoefficient_61 rfl ?_
      rw [show ca.toNat = i by omega] at hq
      exact hq
    · omega
  | succ r ih =>
    intro i hi
    have hfi := hf i (by omega) (by omega)
    have e : linI f h cb k (i + 1) = linI f h cb k i + (if 0 ≤ k - i ∧ k - i < cb then f i * h (k - i) else 0) := rfl
    have hb := linI_bd (k := k) hf hh i (by omega)
    have hhk : 0 ≤ k - (i : Int) → k - (i : Int) < cb → -9999 ≤ h (k - i) ∧ h (k - i) ≤ 9999 := fun z1 z2 => hh _ z1 z2
    refine r_iload dX9_linearCoefficient_5 rfl (r_aload_n dX9_linearCoefficient_7 (i := 0) rfl rfl (r_get dX9_linearCoefficient_8 fl_X9_181 hA.1 rfl ?_))
    refine r_icmp_ge 60 dX9_linearCoefficient_11 (by decide) (by omega) (by omega) (fun c1 => ?_) (fun c1 => ?_)
    · omega
    · refine r_iload_n dX9_linearCoefficient_14 (i := 2) rfl rfl (r_iload dX9_linearCoefficient_15 rfl (r_isub dX9_linearCoefficient_17 (r_istore dX9_linearCoefficient_18 rfl (Nat.le_of_ble_eq_true rfl) (r_iload dX9_linearCoefficient_20 rfl ?_))))
      refine r_if_lt 54 dX9_linearCoefficient_22 (by decide) (by omega) (fun c2 => ?_) (fun c2 => ?_)
      · refine r_iinc dX9_linearCoefficient_54 rfl rfl (r_goto 5 dX9_linearCoefficient_57 (by decide) ?_)
        first
          | rw [if_pos (by omega)] at e
          | rw [if_neg (by omega), Int.add_zero] at e
        exact r_loc [(0, some (.ref s)), (1, some (.ref t)), (2, some (vi k)), (3, some (vl (linI f h cb k (i + 1)))), (5, some (vi ((i + 1 : Nat) : Int)))] ⟨Or.inl rfl, Or.inl rfl, Or.inl rfl, Or.inl (lv_eq e), Or.inl rfl, trivial⟩ (ih (i + 1) (by omega))
      · refine r_iload dX9_linearCoefficient_25 rfl (r_aload_n dX9_linearCoefficient_27 (i := 1) rfl rfl (r_get dX9_linearCoefficient_28 fl_X9_181 hB.1 rfl ?_))
        refine r_icmp_ge 54 dX9_linearCoefficient_31 (by decide) (by omega) (by omega) (fun c3 => ?_) (fun c3 => ?_)
        · refine r_iinc dX9_linearCoefficient_54 rfl rfl (r_goto 5 dX9_linearCoefficient_57 (by decide) ?_)
          first
            | rw [if_pos (by omega)] at e
            | rw [if_neg (by omega), Int.add_zero] at e
          exact r_loc [(0, some (.ref s)), (1, some (.ref t)), (2, some (vi k)), (3, some (vl (linI f h cb k (i + 1)))), (5, some (vi ((i + 1 : Nat) : Int)))] ⟨Or.inl rfl, Or.inl rfl, Or.inl rfl, Or.inl (lv_eq e), Or.inl rfl, trivial⟩ (ih (i + 1) (by omega))
        · have hhk2 := hhk (by omega) (by omega)
          refine r_lload_n dX9_linearCoefficient_34 (i := 3) rfl rfl (r_aload_n dX9_linearCoefficient_35 (i := 0) rfl rfl (r_get dX9_linearCoefficient_36 fl_X9_191 hA.1 rfl (r_iload dX9_linearCoefficient_39 rfl (r_iald dX9_linearCoefficient_41 hA.2 (by omega) (by omega) (by omega) ?_))))
          refine r_i2l dX9_linearCoefficient_42 (by omega) (r_aload_n dX9_linearCoefficient_43 (i := 1) rfl rfl (r_get dX9_linearCoefficient_44 fl_X9_191 hB.1 rfl (r_iload dX9_linearCoefficient_47 rfl (r_iald dX9_linearCoefficient_49 hB.2 (by omega) (by omega) (by omega) ?_))))
          refine r_i2l dX9_linearCoefficient_50 (by omega) (r_lmul dX9_linearCoefficient_51 (r_ladd dX9_linearCoefficient_52 (r_lstore_n dX9_linearCoefficient_53 (i := 3) rfl rfl (Nat.le_of_ble_eq_true rfl) (r_iinc dX9_linearCoefficient_54 rfl rfl ?_))))
          refine r_goto 5 dX9_linearCoefficient_57 (by decide) ?_
          first
            | rw [if_pos (by omega)] at e
            | rw [if_neg (by omega), Int.add_zero] at e
          exact r_loc [(0, some (.ref s)), (1, some (.ref t)), (2, some (vi k)), (3, some (vl (linI f h cb k (i + 1)))), (5, some (vi ((i + 1 : Nat) : Int)))] ⟨Or.inl rfl, Or.inl rfl, Or.inl rfl, Or.inl (lv_eq e), Or.inl rfl, trivial⟩ (ih (i + 1) (by omega))
theorem c_X9_linearCoefficient {k : Int} (hA : SeqAt S s ca f) (hB : SeqAt S t cb h) (hca : 0 ≤ ca ∧ ca ≤ 32) (hcb : 0 ≤ cb ∧ cb ≤ 32) (hf : TermsOk ca f) (hh : TermsOk cb h) (hk : 0 ≤ k ∧ k ≤ 200) : PC g yX9_linearCoefficient cX9_linearCoefficient (iX9_linearCoefficient mc ms) [.ref s, .ref t, vi k] S (Rt (some (vl (linI f h cb k ca.toNat))) S) := by
  refine PC_of pnX9 rfl rfl rfl (Nat.le_of_ble_eq_true rfl) ?_
  refine r_lconst (z := 0) dX9_linearCoefficient_0 (by decide) (r_lstore_n dX9_linearCoefficient_1 (i := 3) rfl rfl (Nat.le_of_ble_eq_true rfl) (r_iconst dX9_linearCoefficient_2 (r_istore dX9_linearCoefficient_3 rfl (Nat.le_of_ble_eq_true rfl) ?_)))
  exact r_loc [(0, some (.ref s)), (1, some (.ref t)), (2, some (vi k)), (3, some (vl (linI f h cb k (0 : Nat)))), (5, some (vi ((0 : Nat) : Int)))] ⟨Or.inl rfl, Or.inl rfl, Or.inl rfl, Or.inl rfl, Or.inl rfl, trivial⟩ (l_lin hA hB hca hcb hf hh hk ⟨rfl, rfl⟩ ca.toNat 0 (by omega))
theorem c_X9_coefficientOf {kd n k : Int} (hA : SeqAt S s ca f) (hB : SeqAt S t cb h) (hca : 0 ≤ ca ∧ ca ≤ 32) (hcb : 0 ≤ cb ∧ cb ≤ 32) (hf : TermsOk ca f) (hh : TermsOk cb h) (hkd : 0 ≤ kd ∧ kd ≤ 2) (hn : 1 ≤ n ∧ n ≤ 64) (hk : 0 ≤ k ∧ k < n) (hw : kd = 0 ∨ (ca ≤ n ∧ cb ≤ n)) : PC g yX9_coefficientOf cX9_coefficientOf (iX9_coefficientOf mc ms) [vi kd, .ref s, .ref t, vi n, vi k] S (Rt (some (vl (cfI kd n k f h cb.toNat ca.toNat))) S) := by
  refine PC_of pnX9 rfl rfl rfl (Nat.le_of_ble_eq_true rfl) ?_
  have e := cfI_lin (kd := kd) (n := n) (k := k) (f := f) (h := h) (lb := cb.toNat) hkd hk.1 (by omega) ca.toNat (by omega)
  rw [show ((cb.toNat : Nat) : Int) = cb by omega] at e
  refine r_aload_n dX9_coefficientOf_0 (i := 1) rfl rfl (r_aload_n dX9_coefficientOf_1 (i := 2) rfl rfl (r_iload dX9_coefficientOf_2 rfl (c_sr dX9_coefficientOf_4 (c_X9_linearCoefficient hA hB hca hcb hf hh (by omega)) rfl rfl mq_X9_linearCoefficient ml_X9_392 ⟨Nat.le_of_ble_eq_true rfl, Nat.le_of_ble_eq_true rfl⟩ rfl rfl (Nat.le_of_ble_eq_true rfl) (r_lstore dX9_coefficientOf_7 rfl (Nat.le_of_ble_eq_true rfl) ?_))))
  refine r_iload_n dX9_coefficientOf_9 (i := 0) rfl rfl ?_
  refine r_if_ne 16 dX9_coefficientOf_10 (by decide) (by omega) (fun c1 => ?_) (fun c1 => ?_)
  · refine r_aload_n dX9_coefficientOf_16 (i := 1) rfl rfl (r_aload_n dX9_coefficientOf_17 (i := 2) rfl rfl (r_iload dX9_coefficientOf_18 rfl (r_iload_n dX9_coefficientOf_20 (i := 3) rfl rfl (r_iadd dX9_coefficientOf_21 ?_))))
    refine c_sr dX9_coefficientOf_22 (c_X9_linearCoefficient hA hB hca hcb hf hh (by omega)) rfl rfl mq_X9_linearCoefficient ml_X9_392 ⟨Nat.le_of_ble_eq_true rfl, Nat.le_of_ble_eq_true rfl⟩ rfl rfl (Nat.le_of_ble_eq_true rfl) (r_lstore dX9_coefficientOf_25 rfl (Nat.le_of_ble_eq_true rfl) (r_iload_n dX9_coefficientOf_27 (i := 0) rfl rfl (r_iconst dX9_coefficientOf_28 ?_)))
    refine r_icmp_ne 40 dX9_coefficientOf_29 (by decide) (by omega) (by omega) (fun c2 => ?_) (fun c2 => ?_)
    · refine r_lload dX9_coefficientOf_40 rfl (r_lload dX9_coefficientOf_42 rfl (r_lsub dX9_coefficientOf_44 ?_))
      refine r_lret dX9_coefficientOf_45 rfl ?_
      refine ⟨?_, rfl⟩
      rw [e]
      first
        | (have hz : kd = 0 := by omega
           subst hz
           rw [show sgnK 0 = 0 from rfl, Int.zero_mul, Int.add_zero])
        | (have hz : kd = 1 := by omega
           subst hz
           rw [show sgnK 1 = 1 from rfl, Int.one_mul])
        | (have hz : kd = 2 := by omega
           subst hz
           rw [show sgnK 2 = -1 from rfl, Int.neg_mul, Int.one_mul]
           rfl)
    · refine r_lload dX9_coefficientOf_32 rfl (r_lload dX9_coefficientOf_34 rfl (r_ladd dX9_coefficientOf_36 (r_goto 45 dX9_coefficientOf_37 (by decide) ?_)))
      refine r_lret dX9_coefficientOf_45 rfl ?_
      refine ⟨?_, rfl⟩
      rw [e]
      first
        | (have hz : kd = 0 := by omega
           subst hz
           rw [show sgnK 0 = 0 from rfl, Int.zero_mul, Int.add_zero])
        | (have hz : kd = 1 := by omega
           subst hz
           rw [show sgnK 1 = 1 from rfl, Int.one_mul])
        | (have hz : kd = 2 := by omega
           subst hz
           rw [show sgnK 2 = -1 from rfl, Int.neg_mul, Int.one_mul]
           rfl)
  · refine r_lload dX9_coefficientOf_13 rfl ?_
    refine r_lret dX9_coefficientOf_15 rfl ?_
    refine ⟨?_, rfl⟩
    rw [e]
    first
      | (have hz : kd = 0 := by omega
         subst hz
         rw [show sgnK 0 = 0 from rfl, Int.zero_mul, Int.add_zero])
      | (have hz : kd = 1 := by omega
         subst hz
         rw [show sgnK 1 = 1 from rfl, Int.one_mul])
      | (have hz : kd = 2 := by omega
         subst hz
         rw [show sgnK 2 = -1 from rfl, Int.neg_mul, Int.one_mul]
         rfl)
theorem c_X9_boundOf (hA : SeqAt S s ca f) (hB : SeqAt S t cb h) (hca : 0 ≤ ca ∧ ca ≤ 32) (hcb : 0 ≤ cb ∧ cb ≤ 32) (hf : TermsOk ca f) (hh : TermsOk cb h) : PC g yX9_boundOf cX9_boundOf (iX9_boundOf mc ms) [.ref s, .ref t] S (Rt (some (vl (min ca cb * imax f ca.toNat * imax h cb.toNat))) S) := by
  refine PC_of pnX9 rfl rfl rfl (Nat.le_of_ble_eq_true rfl) ?_
  have m1 := imax_le (f := f) (M := 9999) (by omega) ca.toNat (fun k k1 k2 => hf k k1 (by omega))
  have m2 := imax_le (f := h) (M := 9999) (by omega) cb.toNat (fun k k1 k2 => hh k k1 (by omega))
  refine r_aload_n dX9_boundOf_0 (i := 0) rfl rfl (r_get dX9_boundOf_1 fl_X9_181 hA.1 rfl (r_aload_n dX9_boundOf_4 (i := 1) rfl rfl (r_get dX9_boundOf_5 fl_X9_181 hB.1 rfl (r_mmin dX9_boundOf_8 mw_X9_386 (by omega) (by omega) (Nat.le_of_ble_eq_true rfl) (Nat.le_of_ble_eq_true rfl) ?_))))
  refine r_i2l dX9_boundOf_11 (by omega) (r_aload_n dX9_boundOf_12 (i := 0) rfl rfl (c_vr dX9_boundOf_13 (c_X7_greatestSize hA hca hf) rfl rfl mq_X7_greatestSize ml_X9_389 ⟨Nat.le_of_ble_eq_true rfl, Nat.le_of_ble_eq_true rfl⟩ hA.1 rfl rfl rfl (Nat.le_of_ble_eq_true rfl) (r_i2l dX9_boundOf_16 (by omega) (r_lmul dX9_boundOf_17 ?_))))
  refine r_aload_n dX9_boundOf_18 (i := 1) rfl rfl (c_vr dX9_boundOf_19 (c_X7_greatestSize hB hcb hh) rfl rfl mq_X7_greatestSize ml_X9_389 ⟨Nat.le_of_ble_eq_true rfl, Nat.le_of_ble_eq_true rfl⟩ hB.1 rfl rfl rfl (Nat.le_of_ble_eq_true rfl) (r_i2l dX9_boundOf_22 (by omega) (r_lmul dX9_boundOf_23 (r_lret dX9_boundOf_24 rfl ?_))))
  exact ⟨rfl, rfl⟩
end COEF

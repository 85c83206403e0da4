/-! the model's own helpers: the greatest term, the bound, the coefficient, the product -/
theorem lv_eq {x y : Int} (h : x = y) : (some (vl x) : Option Value) = some (vl y) := by rw [h]
theorem lvi_eq {x y : Int} (h : x = y) : (some (vi x) : Option Value) = some (vi y) := by rw [h]
section MOBJ3
variable {g : GT} {S : PS} {mc ms : Nat} {Q : PO → PS → Prop} {kc ks : Nat} {m : Nat} {a : Int → Int} {fs : List Value}
theorem tm_ok {a : Int → Int} (hl : ML a) {s c : Int} (hs : 0 ≤ s ∧ s ≤ 3) (hc : c ≤ 32) : TermsOk c (tmF a s) := fun k h1 h2 => hl.2 s k (by omega) (by omega) h1 (by omega)
theorem l_greatest {s : Int} (h : S.1 m = some (cO 10 (.ref (m + 1) :: fs))) (ha : S.1 (m + 1) = some (cJ 215 a)) (hl : ML a) (hs : 0 ≤ s ∧ s ≤ 3) (hq : Q (.inl (some (vl (imax (tmF a s) (a (7 + s)).toNat)))) S) : ∀ (n j : Nat), (j : Int) + n = a (7 + s) →
    PW g cX10_greatest (iX10_greatest mc ms) 5 [(0, some (.ref m)), (1, some (vi s)), (2, some (vl (imax (tmF a s) j))), (4, some (vi (j : Int)))] [] S kc ks Q := by
  intro n
  have hb := hl.1 s hs.1 (by omega)
  have hok := tm_ok hl hs hb.2
  induction n with
  | zero =>
    intro j hn
    refine r_iload dX10_greatest_5 rfl (r_aload_n dX10_greatest_7 (i := 0) rfl rfl (r_iload_n dX10_greatest_8 (i := 1) rfl rfl (c_vr dX10_greatest_9 (c_X10_longOf h ha (by omega)) rfl rfl mq_X10_longOf ml_X10_194 ⟨Nat.le_of_ble_eq_true rfl, Nat.le_of_ble_eq_true rfl⟩ h rfl rfl rfl (Nat.le_of_ble_eq_true rfl) ?_)))
    refine r_icmp_ge 67 dX10_greatest_12 (by decide) (by omega) (by omega) (fun c1 => ?_) (fun c1 => ?_)
    · refine r_lload_n dX10_greatest_67 (i := 2) rfl rfl ?_
      refine r_lret dX10_greatest_68 rfl ?_
      rw [show (a (7 + s)).toNat = j by omega] at hq
      exact hq
    · omega
  | succ n ih =>
    intro j hn
    have hj := hok j (by omega) (by omega)
    have hm := imax_le (f := tmF a s) (M := 9999) (by omega) j (fun k k1 k2 => hok k k1 (by omega))
    have e0 : a (11 + 32 * s + (j : Int)) = tmF a s j := rfl
    have e1 : imax (tmF a s) (j + 1) = max (imax (tmF a s) j) (iabs (tmF a s j)) := rfl
    have e2 : iabs (tmF a s j) = if 0 ≤ tmF a s j then tmF a s j else -(tmF a s j) := rfl
    refine r_iload dX10_greatest_5 rfl (r_aload_n dX10_greatest_7 (i := 0) rfl rfl (r_iload_n dX10_greatest_8 (i := 1) rfl rfl (c_vr dX10_greatest_9 (c_X10_longOf h ha (by omega)) rfl rfl mq_X10_longOf ml_X10_194 ⟨Nat.le_of_ble_eq_true rfl, Nat.le_of_ble_eq_true rfl⟩ h rfl rfl rfl (Nat.le_of_ble_eq_true rfl) ?_)))
    refine r_icmp_ge 67 dX10_greatest_12 (by decide) (by omega) (by omega) (fun c1 => ?_) (fun c1 => ?_)
    · omega
    · refine r_aload_n dX10_greatest_15 (i := 0) rfl rfl (r_iload_n dX10_greatest_16 (i := 1) rfl rfl (r_iload dX10_greatest_17 rfl (c_vr dX10_greatest_19 (c_X10_termOf h ha (by omega) (by omega)) rfl rfl mq_X10_termOf ml_X10_197 ⟨Nat.le_of_ble_eq_true rfl, Nat.le_of_ble_eq_true rfl⟩ h rfl rfl rfl (Nat.le_of_ble_eq_true rfl) ?_)))
      rw [e0]
      refine r_lconst (z := 0) dX10_greatest_22 (by decide) ?_
      refine r_lcmp_ge 38 dX10_greatest_23 dX10_greatest_24 (by decide) (by omega) (by omega) (fun c2 => ?_) (fun c2 => ?_)
      · refine r_aload_n dX10_greatest_38 (i := 0) rfl rfl (r_iload_n dX10_greatest_39 (i := 1) rfl rfl (r_iload dX10_greatest_40 rfl (c_vr dX10_greatest_42 (c_X10_termOf h ha (by omega) (by omega)) rfl rfl mq_X10_termOf ml_X10_197 ⟨Nat.le_of_ble_eq_true rfl, Nat.le_of_ble_eq_true rfl⟩ h rfl rfl rfl (Nat.le_of_ble_eq_true rfl) ?_)))
        try rw [e0]
        refine r_lstore dX10_greatest_45 rfl (Nat.le_of_ble_eq_true rfl) (r_lload dX10_greatest_47 rfl (r_lload_n dX10_greatest_49 (i := 2) rfl rfl ?_))
        refine r_lcmp_le 59 dX10_greatest_50 dX10_greatest_51 (by decide) (by omega) (by omega) (fun c3 => ?_) (fun c3 => ?_)
        · refine r_lload_n dX10_greatest_59 (i := 2) rfl rfl (r_lstore_n dX10_greatest_60 (i := 2) rfl rfl (Nat.le_of_ble_eq_true rfl) (r_iinc dX10_greatest_61 rfl rfl (r_goto 5 dX10_greatest_64 (by decide) ?_)))
          exact r_loc [(0, some (.ref m)), (1, some (vi s)), (2, some (vl (imax (tmF a s) (j + 1)))), (4, some (vi ((j + 1 : Nat) : Int)))] ⟨Or.inl rfl, Or.inl rfl, Or.inl (lv_eq (by split at e2 <;> omega)), Or.inl rfl, trivial⟩ (ih (j + 1) (by omega))
        · refine r_lload dX10_greatest_54 rfl (r_goto 60 dX10_greatest_56 (by decide) (r_lstore_n dX10_greatest_60 (i := 2) rfl rfl (Nat.le_of_ble_eq_true rfl) (r_iinc dX10_greatest_61 rfl rfl (r_goto 5 dX10_greatest_64 (by decide) ?_))))
          exact r_loc [(0, some (.ref m)), (1, some (vi s)), (2, some (vl (imax (tmF a s) (j + 1)))), (4, some (vi ((j + 1 : Nat) : Int)))] ⟨Or.inl rfl, Or.inl rfl, Or.inl (lv_eq (by split at e2 <;> omega)), Or.inl rfl, trivial⟩ (ih (j + 1) (by omega))
      · refine r_aload_n dX10_greatest_27 (i := 0) rfl rfl (r_iload_n dX10_greatest_28 (i := 1) rfl rfl (r_iload dX10_greatest_29 rfl (c_vr dX10_greatest_31 (c_X10_termOf h ha (by omega) (by omega)) rfl rfl mq_X10_termOf ml_X10_197 ⟨Nat.le_of_ble_eq_true rfl, Nat.le_of_ble_eq_true rfl⟩ h rfl rfl rfl (Nat.le_of_ble_eq_true rfl) ?_)))
        rw [e0]
        refine r_lneg dX10_greatest_34 (r_goto 45 dX10_greatest_35 (by decide) ?_)
        try rw [e0]
        refine r_lstore dX10_greatest_45 rfl (Nat.le_of_ble_eq_true rfl) (r_lload dX10_greatest_47 rfl (r_lload_n dX10_greatest_49 (i := 2) rfl rfl ?_))
        refine r_lcmp_le 59 dX10_greatest_50 dX10_greatest_51 (by decide) (by omega) (by omega) (fun c4 => ?_) (fun c4 => ?_)
        · refine r_lload_n dX10_greatest_59 (i := 2) rfl rfl (r_lstore_n dX10_greatest_60 (i := 2) rfl rfl (Nat.le_of_ble_eq_true rfl) (r_iinc dX10_greatest_61 rfl rfl (r_goto 5 dX10_greatest_64 (by decide) ?_)))
          exact r_loc [(0, some (.ref m)), (1, some (vi s)), (2, some (vl (imax (tmF a s) (j + 1)))), (4, some (vi ((j + 1 : Nat) : Int)))] ⟨Or.inl rfl, Or.inl rfl, Or.inl (lv_eq (by split at e2 <;> omega)), Or.inl rfl, trivial⟩ (ih (j + 1) (by omega))
        · refine r_lload dX10_greatest_54 rfl (r_goto 60 dX10_greatest_56 (by decide) (r_lstore_n dX10_greatest_60 (i := 2) rfl rfl (Nat.le_of_ble_eq_true rfl) (r_iinc dX10_greatest_61 rfl rfl (r_goto 5 dX10_greatest_64 (by decide) ?_))))
          exact r_loc [(0, some (.ref m)), (1, some (vi s)), (2, some (vl (imax (tmF a s) (j + 1)))), (4, some (vi ((j + 1 : Nat) : Int)))] ⟨Or.inl rfl, Or.inl rfl, Or.inl (lv_eq (by split at e2 <;> omega)), Or.inl rfl, trivial⟩ (ih (j + 1) (by omega))
theorem c_X10_greatest {s : Int} (h : S.1 m = some (cO 10 (.ref (m + 1) :: fs))) (ha : S.1 (m + 1) = some (cJ 215 a)) (hl : ML a) (hs : 0 ≤ s ∧ s ≤ 3) : PC g yX10_greatest cX10_greatest (iX10_greatest mc ms) [.ref m, vi s] S (Rt (some (vl (imax (tmF a s) (a (7 + s)).toNat))) S) := by
  refine PC_of pnX10 rfl rfl rfl (Nat.le_of_ble_eq_true rfl) ?_
  have hb := hl.1 s hs.1 (by omega)
  refine r_lconst (z := 0) dX10_greatest_0 (by decide) (r_lstore_n dX10_greatest_1 (i := 2) rfl rfl (Nat.le_of_ble_eq_true rfl) (r_iconst dX10_greatest_2 (r_istore dX10_greatest_3 rfl (Nat.le_of_ble_eq_true rfl) ?_)))
  exact r_loc [(0, some (.ref m)), (1, some (vi s)), (2, some (vl (imax (tmF a s) (0 : Nat)))), (4, some (vi ((0 : Nat) : Int)))] ⟨Or.inl rfl, Or.inl rfl, Or.inl rfl, Or.inl rfl, trivial⟩ (l_greatest h ha hl hs ⟨rfl, rfl⟩ (a (7 + s)).toNat 0 (by omega))
theorem bnd_bd {a : Int → Int} (hl : ML a) {s t : Int} (hs : 0 ≤ s ∧ s ≤ 3) (ht : 0 ≤ t ∧ t ≤ 3) : (0 ≤ imax (tmF a s) (a (7 + s)).toNat ∧ imax (tmF a s) (a (7 + s)).toNat ≤ 9999) ∧ (0 ≤ imax (tmF a t) (a (7 + t)).toNat ∧ imax (tmF a t) (a (7 + t)).toNat ≤ 9999) ∧ (0 ≤ min (a (7 + s)) (a (7 + t)) * imax (tmF a s) (a (7 + s)).toNat ∧ min (a (7 + s)) (a (7 + t)) * imax (tmF a s) (a (7 + s)).toNat ≤ 319968) ∧ 0 ≤ bndI a s t ∧ bndI a s t ≤ 3199360032 := by
  have h1 := hl.1 s hs.1 (by omega)
  have h2 := hl.1 t ht.1 (by omega)
  have m1 := imax_le (f := tmF a s) (M := 9999) (by omega) (a (7 + s)).toNat (fun k k1 k2 => tm_ok hl hs h1.2 k k1 (by omega))
  have m2 := imax_le (f := tmF a t) (M := 9999) (by omega) (a (7 + t)).toNat (fun k k1 k2 => tm_ok hl ht h2.2 k k1 (by omega))
  have p1 := Int.mul_le_mul (show min (a (7 + s)) (a (7 + t)) ≤ 32 by omega) m1.2 m1.1 (by omega)
  have p0 := Int.mul_nonneg (show 0 ≤ min (a (7 + s)) (a (7 + t)) by omega) m1.1
  have p3 := Int.mul_le_mul (show min (a (7 + s)) (a (7 + t)) * imax (tmF a s) (a (7 + s)).toNat ≤ 319968 by omega) m2.2 m2.1 (by omega)
  have p2 := Int.mul_nonneg p0 m2.1
  refine ⟨m1, m2, ⟨p0, by omega⟩, p2, ?_⟩
  show min (a (7 + s)) (a (7 + t)) * imax (tmF a s) (a (7 + s)).toNat * imax (tmF a t) (a (7 + t)).toNat ≤ _
  omega
theorem c_X10_boundOf {s t : Int} (h : S.1 m = some (cO 10 (.ref (m + 1) :: fs))) (ha : S.1 (m + 1) = some (cJ 215 a)) (hl : ML a) (hs : 0 ≤ s ∧ s ≤ 3) (ht : 0 ≤ t ∧ t ≤ 3) : PC g yX10_boundOf cX10_boundOf (iX10_boundOf mc ms) [.ref m, vi s, vi t] S (Rt (some (vl (bndI a s t))) S) := by
  refine PC_of pnX10 rfl rfl rfl (Nat.le_of_ble_eq_true rfl) ?_
  have h1 := hl.1 s hs.1 (by omega)
  have h2 := hl.1 t ht.1 (by omega)
  refine r_aload_n dX10_boundOf_0 (i := 0) rfl rfl (r_iload_n dX10_boundOf_1 (i := 1) rfl rfl (c_vr dX10_boundOf_2 (c_X10_longOf h ha (by omega)) rfl rfl mq_X10_longOf ml_X10_194 ⟨Nat.le_of_ble_eq_true rfl, Nat.le_of_ble_eq_true rfl⟩ h rfl rfl rfl (Nat.le_of_ble_eq_true rfl) (r_aload_n dX10_boundOf_5 (i := 0) rfl rfl (r_iload_n dX10_boundOf_6 (i := 2) rfl rfl ?_))))
  refine c_vr dX10_boundOf_7 (c_X10_longOf h ha (by omega)) rfl rfl mq_X10_longOf ml_X10_194 ⟨Nat.le_of_ble_eq_true rfl, Nat.le_of_ble_eq_true rfl⟩ h rfl rfl rfl (Nat.le_of_ble_eq_true rfl) ?_
  refine r_icmp_ge 21 dX10_boundOf_10 (by decide) (by omega) (by omega) (fun c1 => ?_) (fun c1 => ?_)
  · refine r_aload_n dX10_boundOf_21 (i := 0) rfl rfl (r_iload_n dX10_boundOf_22 (i := 2) rfl rfl (c_vr dX10_boundOf_23 (c_X10_longOf h ha (by omega)) rfl rfl mq_X10_longOf ml_X10_194 ⟨Nat.le_of_ble_eq_true rfl, Nat.le_of_ble_eq_true rfl⟩ h rfl rfl rfl (Nat.le_of_ble_eq_true rfl) (r_istore_n dX10_boundOf_26 (i := 3) rfl rfl (Nat.le_of_ble_eq_true rfl) (r_iload_n dX10_boundOf_27 (i := 3) rfl rfl ?_))))
    refine r_i2l dX10_boundOf_28 (by omega) (r_aload_n dX10_boundOf_29 (i := 0) rfl rfl (r_iload_n dX10_boundOf_30 (i := 1) rfl rfl (c_vr dX10_boundOf_31 (c_X10_greatest h ha hl (by omega)) rfl rfl mq_X10_greatest ml_X10_251 ⟨Nat.le_of_ble_eq_true rfl, Nat.le_of_ble_eq_true rfl⟩ h rfl rfl rfl (Nat.le_of_ble_eq_true rfl) (r_lmul dX10_boundOf_34 ?_))))
    refine r_aload_n dX10_boundOf_35 (i := 0) rfl rfl (r_iload_n dX10_boundOf_36 (i := 2) rfl rfl (c_vr dX10_boundOf_37 (c_X10_greatest h ha hl (by omega)) rfl rfl mq_X10_greatest ml_X10_251 ⟨Nat.le_of_ble_eq_true rfl, Nat.le_of_ble_eq_true rfl⟩ h rfl rfl rfl (Nat.le_of_ble_eq_true rfl) (r_lmul dX10_boundOf_40 ?_)))
    refine r_lret dX10_boundOf_41 rfl ?_
    exact ⟨by unfold bndI; first | rw [Int.min_eq_left (by omega)] | rw [Int.min_eq_right (by omega)], rfl⟩
  · refine r_aload_n dX10_boundOf_13 (i := 0) rfl rfl (r_iload_n dX10_boundOf_14 (i := 1) rfl rfl (c_vr dX10_boundOf_15 (c_X10_longOf h ha (by omega)) rfl rfl mq_X10_longOf ml_X10_194 ⟨Nat.le_of_ble_eq_true rfl, Nat.le_of_ble_eq_true rfl⟩ h rfl rfl rfl (Nat.le_of_ble_eq_true rfl) (r_goto 26 dX10_boundOf_18 (by decide) (r_istore_n dX10_boundOf_26 (i := 3) rfl rfl (Nat.le_of_ble_eq_true rfl) ?_))))
    refine r_iload_n dX10_boundOf_27 (i := 3) rfl rfl (r_i2l dX10_boundOf_28 (by omega) (r_aload_n dX10_boundOf_29 (i := 0) rfl rfl (r_iload_n dX10_boundOf_30 (i := 1) rfl rfl (c_vr dX10_boundOf_31 (c_X10_greatest h ha hl (by omega)) rfl rfl mq_X10_greatest ml_X10_251 ⟨Nat.le_of_ble_eq_true rfl, Nat.le_of_ble_eq_true rfl⟩ h rfl rfl rfl (Nat.le_of_ble_eq_true rfl) ?_))))
    refine r_lmul dX10_boundOf_34 (r_aload_n dX10_boundOf_35 (i := 0) rfl rfl (r_iload_n dX10_boundOf_36 (i := 2) rfl rfl (c_vr dX10_boundOf_37 (c_X10_greatest h ha hl (by omega)) rfl rfl mq_X10_greatest ml_X10_251 ⟨Nat.le_of_ble_eq_true rfl, Nat.le_of_ble_eq_true rfl⟩ h rfl rfl rfl (Nat.le_of_ble_eq_true rfl) (r_lmul dX10_boundOf_40 ?_))))
    refine r_lret dX10_boundOf_41 rfl ?_
    exact ⟨by unfold bndI; first | rw [Int.min_eq_left (by omega)] | rw [Int.min_eq_right (by omega)], rfl⟩
/-- the walk adds one place of the double sum -/
theorem wgt_0 {kd n b : Int} (h : kd ≠ 0) (hb : b % n ≠ 0) : wgt kd n b = 0 := by
  unfold wgt
  rw [if_neg h, if_neg hb]
theorem wgt_1 {kd n b : Int} (h : kd ≠ 0) (hb : b % n = 0) (h2 : ¬ (kd = 2 ∧ ¬ (b / n) % 2 = 0)) : wgt kd n b = 1 := by
  unfold wgt
  rw [if_neg h, if_pos hb, if_neg h2]
theorem wgt_m {kd n b : Int} (hb : b % n = 0) (h2 : kd = 2 ∧ ¬ (b / n) % 2 = 0) : wgt kd n b = -1 := by
  unfold wgt
  rw [if_neg (by omega), if_pos hb, if_pos h2]
theorem wgt_l1 {kd n b : Int} (h0 : kd = 0) (h : b = 0) : wgt kd n b = 1 := by
  unfold wgt
  rw [if_pos h0, if_pos h]
theorem wgt_l0 {kd n b : Int} (h0 : kd = 0) (h : b ≠ 0) : wgt kd n b = 0 := by
  unfold wgt
  rw [if_pos h0, if_neg h]
theorem l_cfJ {kd s t n k : Int} (h : S.1 m = some (cO 10 (.ref (m + 1) :: fs))) (ha : S.1 (m + 1) = some (cJ 215 a)) (hl : ML a) (hs : 0 ≤ s ∧ s ≤ 3) (ht : 0 ≤ t ∧ t ≤ 3) (hkd : 0 ≤ kd ∧ kd ≤ 2) (hn : kd = 0 ∨ (1 ≤ n ∧ n ≤ 64)) (hnr : RI n) (hk : 0 ≤ k ∧ k < 64) {i : Nat} {sum0 : Int} (hi : (i : Int) < a (7 + s)) (hsum : -(3199360032 * (i : Int)) ≤ sum0 ∧ sum0 ≤ 3199360032 * (i : Int))
    (kq : PW g cX10_coefficientOf (iX10_coefficientOf mc ms) 113 [(0, some (.ref m)), (1, some (vi kd)), (2, some (vi s)), (3, some (vi t)), (4, some (vi n)), (5, some (vi k)), (6, some (vl (sum0 + cfJ kd n k (tmF a s i) (tmF a t) i (a (7 + t)).toNat))), (8, some (vi (i : Int)))] [] S kc ks Q) : ∀ (r j : Nat), (j : Int) + r = a (7 + t) →
    PW g cX10_coefficientOf (iX10_coefficientOf mc ms) 19 [(0, some (.ref m)), (1, some (vi kd)), (2, some (vi s)), (3, some (vi t)), (4, some (vi n)), (5, some (vi k)), (6, some (vl (sum0 + cfJ kd n k (tmF a s i) (tmF a t) i j))), (8, some (vi (i : Int))), (9, some (vi (j : Int)))] [] S kc ks Q := by
  intro r
  have h1 := hl.1 s hs.1 (by omega)
  have h2 := hl.1 t ht.1 (by omega)
  have fi := tm_ok hl hs h1.2 i (by omega) hi
  induction r with
  | zero =>
    intro j hj
    refine r_iload dX10_coefficientOf_19 rfl (r_aload_n dX10_coefficientOf_21 (i := 0) rfl rfl (r_iload_n dX10_coefficientOf_22 (i := 3) rfl rfl (c_vr dX10_coefficientOf_23 (c_X10_longOf h ha (by omega)) rfl rfl mq_X10_longOf ml_X10_194 ⟨Nat.le_of_ble_eq_true rfl, Nat.le_of_ble_eq_true rfl⟩ h rfl rfl rfl (Nat.le_of_ble_eq_true rfl) ?_)))
    refine r_icmp_ge 113 dX10_coefficientOf_26 (by decide) (by omega) (by omega) (fun c1 => ?_) (fun c1 => ?_)
    · rw [show (a (7 + t)).toNat = j by omega] at kq
      exact r_loc [(0, some (.ref m)), (1, some (vi kd)), (2, some (vi s)), (3, some (vi t)), (4, some (vi n)), (5, some (vi k)), (6, some (vl (sum0 + cfJ kd n k (tmF a s i) (tmF a t) i j))), (8, some (vi (i : Int)))] ⟨Or.inl rfl, Or.inl rfl, Or.inl rfl, Or.inl rfl, Or.inl rfl, Or.inl rfl, Or.inl rfl, Or.inl rfl, trivial⟩ kq
    · omega
  | succ r ih =>
    intro j hj
    have fj := tm_ok hl ht h2.2 j (by omega) (by omega)
    have hb := cfJ_bd (kd := kd) (n := n) (k := k) (i := i) fi j (fun q q1 q2 => tm_ok hl ht h2.2 q q1 (by omega))
    have hp := mul_bd2 (by omega) (by omega) fi fj
    have eJ : cfJ kd n k (tmF a s i) (tmF a t) i (j + 1) = cfJ kd n k (tmF a s i) (tmF a t) i j + wgt kd n ((i : Int) + j - k) * (tmF a s i * tmF a t j) := rfl
    have e0 : a (11 + 32 * s + (i : Int)) = tmF a s i := rfl
    have e1 : a (11 + 32 * t + (j : Int)) = tmF a t j := rfl
    have fin : ∀ z, z = sum0 + cfJ kd n k (tmF a s i) (tmF a t) i (j + 1) → ∀ L', lk L' 0 = some (.ref m) → lk L' 1 = some (vi kd) → lk L' 2 = some (vi s) → lk L' 3 = some (vi t) → lk L' 4 = some (vi n) → lk L' 5 = some (vi k) → lk L' 6 = some (vl z) → lk L' 8 = some (vi (i : Int)) → lk L' 9 = some (vi ((j : Int) + 1)) → PW g cX10_coefficientOf (iX10_coefficientOf mc ms) 19 L' [] S kc ks Q := by
      intro z hz L' g0 g1 g2 g3 g4 g5 g6 g8 g9
      subst hz
      exact r_loc [(0, some (.ref m)), (1, some (vi kd)), (2, some (vi s)), (3, some (vi t)), (4, some (vi n)), (5, some (vi k)), (6, some (vl (sum0 + cfJ kd n k (tmF a s i) (tmF a t) i ((j + 1 : Nat))))), (8, some (vi (i : Int))), (9, some (vi ((j + 1 : Nat) : Int)))] ⟨Or.inl g0.symm, Or.inl g1.symm, Or.inl g2.symm, Or.inl g3.symm, Or.inl g4.symm, Or.inl g5.symm, Or.inl g6.symm, Or.inl g8.symm, Or.inl g9.symm, trivial⟩ (ih (j + 1) (by omega))
    generalize hpr : tmF a s i * tmF a t j = pr at *
    refine r_iload dX10_coefficientOf_19 rfl (r_aload_n dX10_coefficientOf_21 (i := 0) rfl rfl (r_iload_n dX10_coefficientOf_22 (i := 3) rfl rfl (c_vr dX10_coefficientOf_23 (c_X10_longOf h ha (by omega)) rfl rfl mq_X10_longOf ml_X10_194 ⟨Nat.le_of_ble_eq_true rfl, Nat.le_of_ble_eq_true rfl⟩ h rfl rfl rfl (Nat.le_of_ble_eq_true rfl) ?_)))
    refine r_icmp_ge 113 dX10_coefficientOf_26 (by decide) (by omega) (by omega) (fun c1 => ?_) (fun c1 => ?_)
    · omega
    · refine r_iload dX10_coefficientOf_29 rfl (r_iload dX10_coefficientOf_31 rfl (r_iadd dX10_coefficientOf_33 (r_iload dX10_coefficientOf_34 rfl (r_isub dX10_coefficientOf_36 ?_))))
      refine r_istore dX10_coefficientOf_37 rfl (Nat.le_of_ble_eq_true rfl) (r_iload_n dX10_coefficientOf_39 (i := 1) rfl rfl ?_)
      refine r_if_ne 51 dX10_coefficientOf_40 (by decide) (by omega) (fun c2 => ?_) (fun c2 => ?_)
      · have hn2 : 1 ≤ n ∧ n ≤ 64 := by omega
        have ht1 := tmod_bd ((i : Int) + j - k) (p := n) (by omega)
        refine r_iload dX10_coefficientOf_51 rfl (r_iload dX10_coefficientOf_53 rfl (r_irem dX10_coefficientOf_55 (by omega) (by omega) (by omega) ?_))
        refine r_if_eq 62 dX10_coefficientOf_56 (by decide) (by omega) (fun c3 => ?_) (fun c3 => ?_)
        · refine r_aload_n dX10_coefficientOf_62 (i := 0) rfl rfl (r_iload_n dX10_coefficientOf_63 (i := 2) rfl rfl (r_iload dX10_coefficientOf_64 rfl (c_vr dX10_coefficientOf_66 (c_X10_termOf h ha (by omega) (by omega)) rfl rfl mq_X10_termOf ml_X10_197 ⟨Nat.le_of_ble_eq_true rfl, Nat.le_of_ble_eq_true rfl⟩ h rfl rfl rfl (Nat.le_of_ble_eq_true rfl) (r_aload_n dX10_coefficientOf_69 (i := 0) rfl rfl ?_))))
          refine r_iload_n dX10_coefficientOf_70 (i := 3) rfl rfl (r_iload dX10_coefficientOf_71 rfl (c_vr dX10_coefficientOf_73 (c_X10_termOf h ha (by omega) (by omega)) rfl rfl mq_X10_termOf ml_X10_197 ⟨Nat.le_of_ble_eq_true rfl, Nat.le_of_ble_eq_true rfl⟩ h rfl rfl rfl (Nat.le_of_ble_eq_true rfl) ?_))
          rw [e0, e1]
          refine r_lmul dX10_coefficientOf_76 ?_
          rw [hpr]
          refine r_lstore dX10_coefficientOf_77 rfl (Nat.le_of_ble_eq_true rfl) (r_lload dX10_coefficientOf_79 rfl (r_iload_n dX10_coefficientOf_81 (i := 1) rfl rfl (r_iconst dX10_coefficientOf_82 ?_)))
          refine r_icmp_ne 102 dX10_coefficientOf_83 (by decide) (by omega) (by omega) (fun c4 => ?_) (fun c4 => ?_)
          · refine r_lload dX10_coefficientOf_102 rfl (r_ladd dX10_coefficientOf_104 (r_lstore dX10_coefficientOf_105 rfl (Nat.le_of_ble_eq_true rfl) (r_iinc dX10_coefficientOf_107 rfl rfl (r_goto 19 dX10_coefficientOf_110 (by decide) ?_))))
            refine fin _ ?_ _ rfl rfl rfl rfl rfl rfl rfl rfl rfl
            first
              | (rw [wgt_l1 (by omega) (by omega)] at eJ; omega)
              | (rw [wgt_l0 (by omega) (by omega)] at eJ; omega)
              | (rw [wgt_0 (by omega) (fun z => by have := tmod_0.mpr z; omega)] at eJ; omega)
              | (rw [wgt_m hq0 ⟨by omega, fun z => by have := tmod_0.mpr z; omega⟩] at eJ; omega)
              | (rw [wgt_1 (by omega) hq0 (fun z => z.2 (tmod_0.mp (by omega)))] at eJ; omega)
              | (rw [wgt_1 (by omega) (tmod_0.mp (by assumption)) (by omega)] at eJ; omega)
          · have hn2 : 1 ≤ n ∧ n ≤ 64 := by omega
            have hq0 : ((i : Int) + j - k) % n = 0 := by first | exact tmod_0.mp (by assumption) | omega
            have hqb := quo_bd (b := (i : Int) + j - k) hn2.1 (by omega)
            have htd := tdiv_0 hq0
            refine r_iload dX10_coefficientOf_86 rfl (r_iload dX10_coefficientOf_88 rfl (r_idiv dX10_coefficientOf_90 (by omega) (by omega) (by omega) (r_iconst dX10_coefficientOf_91 ?_)))
            rw [htd]
            have htd2 := tmod_bd (((i : Int) + j - k) / n) (p := 2) (by omega)
            refine r_irem dX10_coefficientOf_92 (by omega) (by omega) (by omega) ?_
            refine r_if_eq 102 dX10_coefficientOf_93 (by decide) (by omega) (fun c5 => ?_) (fun c5 => ?_)
            · refine r_lload dX10_coefficientOf_102 rfl (r_ladd dX10_coefficientOf_104 (r_lstore dX10_coefficientOf_105 rfl (Nat.le_of_ble_eq_true rfl) (r_iinc dX10_coefficientOf_107 rfl rfl (r_goto 19 dX10_coefficientOf_110 (by decide) ?_))))
              refine fin _ ?_ _ rfl rfl rfl rfl rfl rfl rfl rfl rfl
              first
                | (rw [wgt_l1 (by omega) (by omega)] at eJ; omega)
                | (rw [wgt_l0 (by omega) (by omega)] at eJ; omega)
                | (rw [wgt_0 (by omega) (fun z => by have := tmod_0.mpr z; omega)] at eJ; omega)
                | (rw [wgt_m hq0 ⟨by omega, fun z => by have := tmod_0.mpr z; omega⟩] at eJ; omega)
                | (rw [wgt_1 (by omega) hq0 (fun z => z.2 (tmod_0.mp (by omega)))] at eJ; omega)
                | (rw [wgt_1 (by omega) (tmod_0.mp (by assumption)) (by omega)] at eJ; omega)
            · refine r_lload dX10_coefficientOf_96 rfl (r_lneg dX10_coefficientOf_98 (r_goto 104 dX10_coefficientOf_99 (by decide) (r_ladd dX10_coefficientOf_104 (r_lstore dX10_coefficientOf_105 rfl (Nat.le_of_ble_eq_true rfl) ?_))))
              refine r_iinc dX10_coefficientOf_107 rfl rfl (r_goto 19 dX10_coefficientOf_110 (by decide) ?_)
              refine fin _ ?_ _ rfl rfl rfl rfl rfl rfl rfl rfl rfl
              first
                | (rw [wgt_l1 (by omega) (by omega)] at eJ; omega)
                | (rw [wgt_l0 (by omega) (by omega)] at eJ; omega)
                | (rw [wgt_0 (by omega) (fun z => by have := tmod_0.mpr z; omega)] at eJ; omega)
                | (rw [wgt_m hq0 ⟨by omega, fun z => by have := tmod_0.mpr z; omega⟩] at eJ; omega)
                | (rw [wgt_1 (by omega) hq0 (fun z => z.2 (tmod_0.mp (by omega)))] at eJ; omega)
                | (rw [wgt_1 (by omega) (tmod_0.mp (by assumption)) (by omega)] at eJ; omega)
        · refine r_goto 107 dX10_coefficientOf_59 (by decide) (r_iinc dX10_coefficientOf_107 rfl rfl (r_goto 19 dX10_coefficientOf_110 (by decide) ?_))
          refine fin _ ?_ _ rfl rfl rfl rfl rfl rfl rfl rfl rfl
          first
            | (rw [wgt_l1 (by omega) (by omega)] at eJ; omega)
            | (rw [wgt_l0 (by omega) (by omega)] at eJ; omega)
            | (rw [wgt_0 (by omega) (fun z => by have := tmod_0.mpr z; omega)] at eJ; omega)
            | (rw [wgt_m hq0 ⟨by omega, fun z => by have := tmod_0.mpr z; omega⟩] at eJ; omega)
            | (rw [wgt_1 (by omega) hq0 (fun z => z.2 (tmod_0.mp (by omega)))] at eJ; omega)
            | (rw [wgt_1 (by omega) (tmod_0.mp (by assumption)) (by omega)] at eJ; omega)
      · refine r_iload dX10_coefficientOf_43 rfl ?_
        refine r_if_eq 62 dX10_coefficientOf_45 (by decide) (by omega) (fun c6 => ?_) (fun c6 => ?_)
        · refine r_aload_n dX10_coefficientOf_62 (i := 0) rfl rfl (r_iload_n dX10_coefficientOf_63 (i := 2) rfl rfl (r_iload dX10_coefficientOf_64 rfl (c_vr dX10_coefficientOf_66 (c_X10_termOf h ha (by omega) (by omega)) rfl rfl mq_X10_termOf ml_X10_197 ⟨Nat.le_of_ble_eq_true rfl, Nat.le_of_ble_eq_true rfl⟩ h rfl rfl rfl (Nat.le_of_ble_eq_true rfl) (r_aload_n dX10_coefficientOf_69 (i := 0) rfl rfl ?_))))
          refine r_iload_n dX10_coefficientOf_70 (i := 3) rfl rfl (r_iload dX10_coefficientOf_71 rfl (c_vr dX10_coefficientOf_73 (c_X10_termOf h ha (by omega) (by omega)) rfl rfl mq_X10_termOf ml_X10_197 ⟨Nat.le_of_ble_eq_true rfl, Nat.le_of_ble_eq_true rfl⟩ h rfl rfl rfl (Nat.le_of_ble_eq_true rfl) ?_))
          rw [e0, e1]
          refine r_lmul dX10_coefficientOf_76 ?_
          rw [hpr]
          refine r_lstore dX10_coefficientOf_77 rfl (Nat.le_of_ble_eq_true rfl) (r_lload dX10_coefficientOf_79 rfl (r_iload_n dX10_coefficientOf_81 (i := 1) rfl rfl (r_iconst dX10_coefficientOf_82 ?_)))
          refine r_icmp_ne 102 dX10_coefficientOf_83 (by decide) (by omega) (by omega) (fun c7 => ?_) (fun c7 => ?_)
          · refine r_lload dX10_coefficientOf_102 rfl (r_ladd dX10_coefficientOf_104 (r_lstore dX10_coefficientOf_105 rfl (Nat.le_of_ble_eq_true rfl) (r_iinc dX10_coefficientOf_107 rfl rfl (r_goto 19 dX10_coefficientOf_110 (by decide) ?_))))
            refine fin _ ?_ _ rfl rfl rfl rfl rfl rfl rfl rfl rfl
            first
              | (rw [wgt_l1 (by omega) (by omega)] at eJ; omega)
              | (rw [wgt_l0 (by omega) (by omega)] at eJ; omega)
              | (rw [wgt_0 (by omega) (fun z => by have := tmod_0.mpr z; omega)] at eJ; omega)
              | (rw [wgt_m hq0 ⟨by omega, fun z => by have := tmod_0.mpr z; omega⟩] at eJ; omega)
              | (rw [wgt_1 (by omega) hq0 (fun z => z.2 (tmod_0.mp (by omega)))] at eJ; omega)
              | (rw [wgt_1 (by omega) (tmod_0.mp (by assumption)) (by omega)] at eJ; omega)
          · have hn2 : 1 ≤ n ∧ n ≤ 64 := by omega
            have hq0 : ((i : Int) + j - k) % n = 0 := by first | exact tmod_0.mp (by assumption) | omega
            have hqb := quo_bd (b := (i : Int) + j - k) hn2.1 (by omega)
            have htd := tdiv_0 hq0
            refine r_iload dX10_coefficientOf_86 rfl (r_iload dX10_coefficientOf_88 rfl (r_idiv dX10_coefficientOf_90 (by omega) (by omega) (by omega) (r_iconst dX10_coefficientOf_91 ?_)))
            rw [htd]
            have htd2 := tmod_bd (((i : Int) + j - k) / n) (p := 2) (by omega)
            refine r_irem dX10_coefficientOf_92 (by omega) (by omega) (by omega) ?_
            refine r_if_eq 102 dX10_coefficientOf_93 (by decide) (by omega) (fun c8 => ?_) (fun c8 => ?_)
            · refine r_lload dX10_coefficientOf_102 rfl (r_ladd dX10_coefficientOf_104 (r_lstore dX10_coefficientOf_105 rfl (Nat.le_of_ble_eq_true rfl) (r_iinc dX10_coefficientOf_107 rfl rfl (r_goto 19 dX10_coefficientOf_110 (by decide) ?_))))
              refine fin _ ?_ _ rfl rfl rfl rfl rfl rfl rfl rfl rfl
              first
                | (rw [wgt_l1 (by omega) (by omega)] at eJ; omega)
                | (rw [wgt_l0 (by omega) (by omega)] at eJ; omega)
                | (rw [wgt_0 (by omega) (fun z => by have := tmod_0.mpr z; omega)] at eJ; omega)
                | (rw [wgt_m hq0 ⟨by omega, fun z => by have := tmod_0.mpr z; omega⟩] at eJ; omega)
                | (rw [wgt_1 (by omega) hq0 (fun z => z.2 (tmod_0.mp (by omega)))] at eJ; omega)
                | (rw [wgt_1 (by omega) (tmod_0.mp (by assumption)) (by omega)] at eJ; omega)
            · refine r_lload dX10_coefficientOf_96 rfl (r_lneg dX10_coefficientOf_98 (r_goto 104 dX10_coefficientOf_99 (by decide) (r_ladd dX10_coefficientOf_104 (r_lstore dX10_coefficientOf_105 rfl (Nat.le_of_ble_eq_true rfl) ?_))))
              refine r_iinc dX10_coefficientOf_107 rfl rfl (r_goto 19 dX10_coefficientOf_110 (by decide) ?_)
              refine fin _ ?_ _ rfl rfl rfl rfl rfl rfl rfl rfl rfl
              first
                | (rw [wgt_l1 (by omega) (by omega)] at eJ; omega)
                | (rw [wgt_l0 (by omega) (by omega)] at eJ; omega)
                | (rw [wgt_0 (by omega) (fun z => by have := tmod_0.mpr z; omega)] at eJ; omega)
                | (rw [wgt_m hq0 ⟨by omega, fun z => by have := tmod_0.mpr z; omega⟩] at eJ; omega)
                | (rw [wgt_1 (by omega) hq0 (fun z => z.2 (tmod_0.mp (by omega)))] at eJ; omega)
                | (rw [wgt_1 (by omega) (tmod_0.mp (by assumption)) (by omega)] at eJ; omega)
        · refine r_goto 107 dX10_coefficientOf_48 (by decide) (r_iinc dX10_coefficientOf_107 rfl rfl (r_goto 19 dX10_coefficientOf_110 (by decide) ?_))
          refine fin _ ?_ _ rfl rfl rfl rfl rfl rfl rfl rfl rfl
          first
            | (rw [wgt_l1 (by omega) (by omega)] at eJ; omega)
            | (rw [wgt_l0 (by omega) (by omega)] at eJ; omega)
            | (rw [wgt_0 (by omega) (fun z => by have := tmod_0.mpr z; omega)] at eJ; omega)
            | (rw [wgt_m hq0 ⟨by omega, fun z => by have := tmod_0.mpr z; omega⟩] at eJ; omega)
            | (rw [wgt_1 (by omega) hq0 (fun z => z.2 (tmod_0.mp (by omega)))] at eJ; omega)
            | (rw [wgt_1 (by omega) (tmod_0.mp (by assumption)) (by omega)] at eJ; omega)
theorem l_cfI {kd s t n k : Int} (h : S.1 m = some (cO 10 (.ref (m + 1) :: fs))) (ha : S.1 (m + 1) = some (cJ 215 a)) (hl : ML a) (hs : 0 ≤ s ∧ s ≤ 3) (ht : 0 ≤ t ∧ t ≤ 3) (hkd : 0 ≤ kd ∧ kd ≤ 2) (hn : kd = 0 ∨ (1 ≤ n ∧ n ≤ 64)) (hnr : RI n) (hk : 0 ≤ k ∧ k < 64) (hq : Q (.inl (some (vl (cfI kd n k (tmF a s) (tmF a t) (a (7 + t)).toNat (a (7 + s)).toNat)))) S) : ∀ (r i : Nat), (i : Int) + r = a (7 + s) →
    PW g cX10_coefficientOf (iX10_coefficientOf mc ms) 6 [(0, some (.ref m)), (1, some (vi kd)), (2, some (vi s)), (3, some (vi t)), (4, some (vi n)), (5, some (vi k)), (6, some (vl (cfI kd n k (tmF a s) (tmF a t) (a (7 + t)).toNat i))), (8, some (vi (i : Int)))] [] S kc ks Q := by
  intro r
  have h1 := hl.1 s hs.1 (by omega)
  have h2 := hl.1 t ht.1 (by omega)
  induction r with
  | zero =>
    intro i hi
    refine r_iload dX10_coefficientOf_6 rfl (r_aload_n dX10_coefficientOf_8 (i := 0) rfl rfl (r_iload_n dX10_coefficientOf_9 (i := 2) rfl rfl (c_vr dX10_coefficientOf_10 (c_X10_longOf h ha (by omega)) rfl rfl mq_X10_longOf ml_X10_194 ⟨Nat.le_of_ble_eq_true rfl, Nat.le_of_ble_eq_true rfl⟩ h rfl rfl rfl (Nat.le_of_ble_eq_true rfl) ?_)))
    refine r_icmp_ge 119 dX10_coefficientOf_13 (by decide) (by omega) (by omega) (fun c1 => ?_) (fun c1 => ?_)
    · refine r_lload dX10_coefficientOf_119 rfl ?_
      refine r_lret dX10_coefficientOf_121 rfl ?_
      rw [show (a (7 + s)).toNat = i by omega] at hq
      exact hq
    · omega
  | succ r ih =>
    intro i hi
    have hb := cfI_bd (kd := kd) (n := n) (k := k) (f := tmF a s) (h := tmF a t) (lb := (a (7 + t)).toNat) (by omega) (fun q q1 q2 => tm_ok hl ht h2.2 q q1 (by omega)) i (fun q q1 q2 => tm_ok hl hs h1.2 q q1 (by omega))
    refine r_iload dX10_coefficientOf_6 rfl (r_aload_n dX10_coefficientOf_8 (i := 0) rfl rfl (r_iload_n dX10_coefficientOf_9 (i := 2) rfl rfl (c_vr dX10_coefficientOf_10 (c_X10_longOf h ha (by omega)) rfl rfl mq_X10_longOf ml_X10_194 ⟨Nat.le_of_ble_eq_true rfl, Nat.le_of_ble_eq_true rfl⟩ h rfl rfl rfl (Nat.le_of_ble_eq_true rfl) ?_)))
    refine r_icmp_ge 119 dX10_coefficientOf_13 (by decide) (by omega) (by omega) (fun c1 => ?_) (fun c1 => ?_)
    · omega
    · refine r_iconst dX10_coefficientOf_16 (r_istore dX10_coefficientOf_17 rfl (Nat.le_of_ble_eq_true rfl) ?_)
      refine r_loc [(0, some (.ref m)), (1, some (vi kd)), (2, some (vi s)), (3, some (vi t)), (4, some (vi n)), (5, some (vi k)), (6, some (vl (cfI kd n k (tmF a s) (tmF a t) (a (7 + t)).toNat i + cfJ kd n k (tmF a s i) (tmF a t) i (0 : Nat)))), (8, some (vi (i : Int))), (9, some (vi ((0 : Nat) : Int)))] ⟨Or.inl rfl, Or.inl rfl, Or.inl rfl, Or.inl rfl, Or.inl rfl, Or.inl rfl, Or.inl (lv_eq (Int.add_zero _)), Or.inl rfl, Or.inl rfl, trivial⟩ ?_
      refine l_cfJ h ha hl hs ht hkd hn hnr hk (by omega) hb ?_ (a (7 + t)).toNat 0 (by omega)
      refine r_iinc dX10_coefficientOf_113 rfl rfl (r_goto 6 dX10_coefficientOf_116 (by decide) ?_)
      exact r_loc [(0, some (.ref m)), (1, some (vi kd)), (2, some (vi s)), (3, some (vi t)), (4, some (vi n)), (5, some (vi k)), (6, some (vl (cfI kd n k (tmF a s) (tmF a t) (a (7 + t)).toNat (i + 1)))), (8, some (vi ((i + 1 : Nat) : Int)))] ⟨Or.inl rfl, Or.inl rfl, Or.inl rfl, Or.inl rfl, Or.inl rfl, Or.inl rfl, Or.inl rfl, Or.inl rfl, trivial⟩ (ih (i + 1) (by omega))
theorem c_X10_coefficientOf {kd s t n k : Int} (h : S.1 m = some (cO 10 (.ref (m + 1) :: fs))) (ha : S.1 (m + 1) = some (cJ 215 a)) (hl : ML a) (hs : 0 ≤ s ∧ s ≤ 3) (ht : 0 ≤ t ∧ t ≤ 3) (hkd : 0 ≤ kd ∧ kd ≤ 2) (hn : kd = 0 ∨ (1 ≤ n ∧ n ≤ 64)) (hnr : RI n) (hk : 0 ≤ k ∧ k < 64) : PC g yX10_coefficientOf cX10_coefficientOf (iX10_coefficientOf mc ms) [.ref m, vi kd, vi s, vi t, vi n, vi k] S (Rt (some (vl (cfI kd n k (tmF a s) (tmF a t) (a (7 + t)).toNat (a (7 + s)).toNat))) S) := by
  refine PC_of pnX10 rfl rfl rfl (Nat.le_of_ble_eq_true rfl) ?_
  have h1 := hl.1 s hs.1 (by omega)
  refine r_lconst (z := 0) dX10_coefficientOf_0 (by decide) (r_lstore dX10_coefficientOf_1 rfl (Nat.le_of_ble_eq_true rfl) (r_iconst dX10_coefficientOf_3 (r_istore dX10_coefficientOf_4 rfl (Nat.le_of_ble_eq_true rfl) ?_)))
  exact r_loc [(0, some (.ref m)), (1, some (vi kd)), (2, some (vi s)), (3, some (vi t)), (4, some (vi n)), (5, some (vi k)), (6, some (vl (cfI kd n k (tmF a s) (tmF a t) (a (7 + t)).toNat (0 : Nat)))), (8, some (vi ((0 : Nat) : Int)))] ⟨Or.inl rfl, Or.inl rfl, Or.inl rfl, Or.inl rfl, Or.inl rfl, Or.inl rfl, Or.inl rfl, Or.inl rfl, trivial⟩ (l_cfI h ha hl hs ht hkd hn hnr hk ⟨rfl, rfl⟩ (a (7 + s)).toNat 0 (by omega))
end MOBJ3

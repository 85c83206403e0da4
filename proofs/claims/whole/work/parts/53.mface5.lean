/-! the model's face: questions that change nothing, part 5 -/
section MFACE5
variable {g : GT} {S : PS} {mc ms : Nat} {Q : PO → PS → Prop} {kc ks : Nat} {m : Nat} {a : Int → Int} {fs : List Value} {km th bu sz at' be ki wr wa ea nu bs bw bt' : Int}
def vaF (a : Int → Int) : Int → Int := fun k => a (151 + k)
def kHas1 (a : Int → Int) : Int := if a 139 = 0 then 1 else 0
theorem l_pAt {x x1 : Int} (h : S.1 m = some (cO 10 (.ref (m + 1) :: fs))) (ha : S.1 (m + 1) = some (cJ 215 a)) (hv : MV a) (hb : 0 ≤ x1 ∧ x1 < 1000003) (hq : Q (.inl (some (vi (sfx (vaF a) x1 (a 143).toNat 0 % 1000003)))) S) : ∀ (r c : Nat) (sum : Int), (c : Int) + r = a 143 → 0 ≤ sum → sum < 1000003 → sum % 1000003 = sfx (vaF a) x1 c (r : Int) % 1000003 →
    PW g cX10_productAt (iX10_productAt mc ms) 57 [(0, some (.ref m)), (1, some (vi x)), (2, some (vl x1)), (4, some (vl sum)), (6, some (vi ((r : Int) - 1)))] [] S kc ks Q := by
  intro r
  have hv2 := hv.2.1
  induction r with
  | zero =>
    intro c sum hc h1 h2 he
    refine r_iload dX10_productAt_57 rfl ?_
    refine r_if_lt 97 dX10_productAt_59 (by decide) (by omega) (fun c1 => ?_) (fun c1 => ?_)
    · refine r_lload dX10_productAt_97 rfl (r_l2i dX10_productAt_99 ?_)
      refine r_iret dX10_productAt_100 rfl rfl ?_
      have e2 : sum % 1000003 = sum := Int.emod_eq_of_lt h1 h2
      rw [show (a 143).toNat = c by omega] at hq
      rw [e2] at he
      rw [he]
      exact hq
    · omega
  | succ r ih =>
    intro c sum hc h1 h2 he
    have hm := mul_bd2 (M := 1000003) (N := 1000003) (by omega) (by omega) (x := sum) (y := x1) (by omega) (by omega)
    have hf := val_RJ hv (k := (r : Int)) (by omega) (by omega)
    have er : ((r + 1 : Nat) : Int) - 1 = (r : Int) := by omega
    have e0 : a (151 + (r : Int)) = vaF a r := rfl
    have m0 := Int.mul_nonneg h1 hb.1
    have hsum := horn (P := 1000003) (by' := x1) (fj := vaF a r) he
    have md : PC g yX10_modulo cX10_modulo (iX10_modulo 0 0) [vl (a (151 + (r : Int))), vi 1000003] S (Rt (some (vi (vaF a r % 1000003))) S) := c_X10_modulo (p := 1000003) ⟨by omega, by omega⟩ (by omega)
    rw [er]
    refine r_iload dX10_productAt_57 rfl ?_
    refine r_if_lt 97 dX10_productAt_59 (by decide) (by omega) (fun c1 => ?_) (fun c1 => ?_)
    · omega
    · refine r_lload dX10_productAt_62 rfl (r_lload_n dX10_productAt_64 (i := 2) rfl rfl (r_lmul dX10_productAt_65 (r_aload_n dX10_productAt_66 (i := 0) rfl rfl (r_get dX10_productAt_67 fl_X10_7 h rfl ?_))))
      refine r_sipush dX10_productAt_70 (by decide) (r_iload dX10_productAt_73 rfl (r_iadd dX10_productAt_75 (r_lald dX10_productAt_76 ha (by omega) (by omega) (by omega) (r_ldcw dX10_productAt_77 cst_X10_297 ?_))))
      refine c_sr dX10_productAt_80 (md) rfl rfl mq_X10_modulo ml_X10_187 ⟨Nat.le_of_ble_eq_true rfl, Nat.le_of_ble_eq_true rfl⟩ rfl rfl (Nat.le_of_ble_eq_true rfl) (r_i2l dX10_productAt_83 (by omega) (r_ladd dX10_productAt_84 (r_ldc2 dX10_productAt_85 csj_X10_298 (r_lremN dX10_productAt_88 (by omega) (by omega) (by omega) (by omega) ?_))))
      refine r_lstore dX10_productAt_89 rfl (Nat.le_of_ble_eq_true rfl) (r_iinc dX10_productAt_91 rfl rfl (r_goto 57 dX10_productAt_94 (by decide) ?_))
      refine r_loc [(0, some (.ref m)), (1, some (vi x)), (2, some (vl x1)), (4, some (vl ((sum * x1 + vaF a r % 1000003) % 1000003))), (6, some (vi ((r : Int) - 1)))] ⟨Or.inl rfl, Or.inl rfl, Or.inl rfl, Or.inl rfl, Or.inl rfl, trivial⟩ (ih (c + 1) _ (by omega) (by omega) (by omega) ?_)
      rw [Int.emod_emod_of_dvd _ (Int.dvd_refl _), hsum]
      rfl
theorem c_X10_productAt {x : Int} (h : S.1 m = some (mO m km th bu sz at' be ki wr wa ea nu bs bw bt')) (ha : S.1 (m + 1) = some (cJ 215 a)) (hv : MV a) (hx : RI x) : PC g yX10_productAt cX10_productAt (iX10_productAt mc ms) [.ref m, vi x] S (mR S m (fun k => mO m km k bu sz at' be ki wr wa ea nu bs bw bt') (kHas1 a) (vi (sfx (vaF a) (x % 1000003) (a 143).toNat 0 % 1000003))) := by
  refine PC_of pnX10 rfl rfl rfl (Nat.le_of_ble_eq_true rfl) ?_
  have hv1 := hv.1
  have hv2 := hv.2.1
  refine r_aload_n dX10_productAt_0 (i := 0) rfl rfl (r_aload_n dX10_productAt_1 (i := 0) rfl rfl (r_get dX10_productAt_2 fl_X10_7 h rfl (r_sipush dX10_productAt_5 (by decide) (r_lald dX10_productAt_8 ha (by omega) (by omega) (by omega) ?_))))
  refine r_lconst (z := 0) dX10_productAt_9 (by decide) ?_
  refine r_lcmp_ne 18 dX10_productAt_10 dX10_productAt_11 (by decide) (by omega) (by omega) (fun c1 => ?_) (fun c1 => ?_)
  · refine r_iconst dX10_productAt_18 (r_put dX10_productAt_19 fl_X10_30 h rfl rfl (Nat.le_of_ble_eq_true rfl) (r_aload_n dX10_productAt_22 (i := 0) rfl rfl (r_get dX10_productAt_23 fl_X10_30 ps_same rfl ?_)))
    refine r_if_le 31 dX10_productAt_26 (by decide) (by omega) (fun c2 => ?_) (fun c2 => ?_)
    · refine r_iload_n dX10_productAt_31 (i := 1) rfl rfl (r_i2l dX10_productAt_32 (by omega) (r_ldcw dX10_productAt_33 cst_X10_297 (c_sr dX10_productAt_36 (c_X10_modulo (p := 1000003) ⟨by omega, by omega⟩ (by omega)) rfl rfl mq_X10_modulo ml_X10_187 ⟨Nat.le_of_ble_eq_true rfl, Nat.le_of_ble_eq_true rfl⟩ rfl rfl (Nat.le_of_ble_eq_true rfl) (r_i2l dX10_productAt_39 (by omega) ?_))))
      refine r_lstore_n dX10_productAt_40 (i := 2) rfl rfl (Nat.le_of_ble_eq_true rfl) (r_lconst (z := 0) dX10_productAt_41 (by decide) (r_lstore dX10_productAt_42 rfl (Nat.le_of_ble_eq_true rfl) (r_aload_n dX10_productAt_44 (i := 0) rfl rfl (r_get dX10_productAt_45 fl_X10_7 ps_same rfl ?_))))
      refine r_sipush dX10_productAt_48 (by decide) (r_lald dX10_productAt_51 (ps_ne (by omega) ha) (by omega) (by omega) (by omega) (r_l2i dX10_productAt_52 (r_iconst dX10_productAt_53 (r_isub dX10_productAt_54 ?_))))
      refine r_istore dX10_productAt_55 rfl (Nat.le_of_ble_eq_true rfl) ?_
      refine r_loc [(0, some (.ref m)), (1, some (vi x)), (2, some (vl (x % 1000003))), (4, some (vl 0)), (6, some (vi (((a 143).toNat : Int) - 1)))] ⟨Or.inl rfl, Or.inl rfl, Or.inl rfl, Or.inl rfl, Or.inl (lvi_eq (by omega)), trivial⟩ ?_
      refine l_pAt ps_same (ps_ne (by omega) ha) hv (by omega) ?_ (a 143).toNat 0 0 (by omega) (by omega) (by omega) rfl
      exact mR_0 (by unfold kHas1; rw [if_neg (by omega)]) rfl
    · omega
  · refine r_iconst dX10_productAt_14 (r_goto 19 dX10_productAt_15 (by decide) (r_put dX10_productAt_19 fl_X10_30 h rfl rfl (Nat.le_of_ble_eq_true rfl) (r_aload_n dX10_productAt_22 (i := 0) rfl rfl (r_get dX10_productAt_23 fl_X10_30 ps_same rfl ?_))))
    refine r_if_le 31 dX10_productAt_26 (by decide) (by omega) (fun c3 => ?_) (fun c3 => ?_)
    · omega
    · refine r_iconst dX10_productAt_29 ?_
      refine r_iret dX10_productAt_30 rfl rfl ?_
      exact mR_t (by unfold kHas1; rw [if_pos (by omega)]) (by decide)
def kDig (a : Int → Int) (k d : Int) : Int := if a 139 = 0 then 1 else if (0 ≤ k ∧ k ≤ a 143 - 1) ∧ 0 ≤ d ∧ d ≤ a 144 - 1 then 0 else 2
def vDig (a : Int → Int) (k d : Int) : Int := lft a k d.toNat % a (145 + d)
theorem lft_bd {a : Int → Int} (hv : MV a) {k : Int} (h0 : 0 ≤ k) (h : k < a 143) : ∀ i : Nat, (i : Int) ≤ a 144 → 0 ≤ lft a k i ∧ lft a k i ≤ 6000000000000000000
  | 0, _ => by
    have h1 : ¬ a 139 = 0 := fun z => by have := hv.2.2.1 z; omega
    obtain ⟨-, -, -, -, -, -, e1, e2⟩ := hv.2.2.2 (has_1 hv h1)
    have := e2 k h0 h
    rw [show lft a k 0 = if a (151 + k) < 0 then a (151 + k) + bpS a (a 144).toNat else a (151 + k) from rfl]
    split <;> omega
  | i + 1, hi => by
    have h1 : ¬ a 139 = 0 := fun z => by have := hv.2.2.1 z; omega
    obtain ⟨-, -, -, -, -, e0, e1, e2⟩ := hv.2.2.2 (has_1 hv h1)
    have h3 := e0 i (by omega) (by omega)
    have ih := lft_bd hv h0 h i (by omega)
    have h4 := Int.ediv_nonneg ih.1 (show 0 ≤ a (145 + (i : Int)) by omega)
    have h5 := Int.ediv_le_self (a (145 + (i : Int))) ih.1
    show 0 ≤ lft a k i / a (145 + (i : Int)) ∧ lft a k i / a (145 + (i : Int)) ≤ _
    omega
theorem l_dig1 {k d : Int} (h : S.1 m = some (cO 10 (.ref (m + 1) :: fs))) (ha : S.1 (m + 1) = some (cJ 215 a)) (hv : MV a) (h1 : a 139 = 1) (hk : PW g cX10_digit (iX10_digit mc ms) 113 [(0, some (.ref m)), (1, some (vi k)), (2, some (vi d)), (3, some (vl (bpS a (a 144).toNat)))] [] S kc ks Q) : ∀ (r i : Nat), (i : Int) + r = a 144 →
    PW g cX10_digit (iX10_digit mc ms) 78 [(0, some (.ref m)), (1, some (vi k)), (2, some (vi d)), (3, some (vl (bpS a i))), (5, some (vi (i : Int)))] [] S kc ks Q := by
  intro r
  obtain ⟨-, -, -, g4, -, e0, e1, e2⟩ := hv.2.2.2 h1
  induction r with
  | zero =>
    intro i hi
    refine r_iload dX10_digit_78 rfl (r_i2l dX10_digit_80 (by omega) (r_aload_n dX10_digit_81 (i := 0) rfl rfl (r_get dX10_digit_82 fl_X10_7 h rfl (r_sipush dX10_digit_85 (by decide) ?_))))
    refine r_lald dX10_digit_88 ha (by omega) (by omega) (by omega) ?_
    refine r_lcmp_ge 113 dX10_digit_89 dX10_digit_90 (by decide) (by omega) (by omega) (fun c1 => ?_) (fun c1 => ?_)
    · rw [show (a 144).toNat = i by omega] at hk
      exact r_loc [(0, some (.ref m)), (1, some (vi k)), (2, some (vi d)), (3, some (vl (bpS a i)))] ⟨Or.inl rfl, Or.inl rfl, Or.inl rfl, Or.inl rfl, trivial⟩ hk
    · omega
  | succ r ih =>
    intro i hi
    refine r_iload dX10_digit_78 rfl (r_i2l dX10_digit_80 (by omega) (r_aload_n dX10_digit_81 (i := 0) rfl rfl (r_get dX10_digit_82 fl_X10_7 h rfl (r_sipush dX10_digit_85 (by decide) ?_))))
    refine r_lald dX10_digit_88 ha (by omega) (by omega) (by omega) ?_
    refine r_lcmp_ge 113 dX10_digit_89 dX10_digit_90 (by decide) (by omega) (by omega) (fun c1 => ?_) (fun c1 => ?_)
    · omega
    · refine r_lload_n dX10_digit_93 (i := 3) rfl rfl (r_aload_n dX10_digit_94 (i := 0) rfl rfl (r_get dX10_digit_95 fl_X10_7 h rfl (r_sipush dX10_digit_98 (by decide) (r_iload dX10_digit_101 rfl ?_))))
      refine r_iadd dX10_digit_103 (r_lald dX10_digit_104 ha (by omega) (by omega) (by omega) (r_lmul dX10_digit_105 (r_lstore_n dX10_digit_106 (i := 3) rfl rfl (Nat.le_of_ble_eq_true rfl) (r_iinc dX10_digit_107 rfl rfl ?_))))
      refine r_goto 78 dX10_digit_110 (by decide) ?_
      exact r_loc [(0, some (.ref m)), (1, some (vi k)), (2, some (vi d)), (3, some (vl (bpS a (i + 1)))), (5, some (vi ((i + 1 : Nat) : Int)))] ⟨Or.inl rfl, Or.inl rfl, Or.inl rfl, Or.inl rfl, Or.inl rfl, trivial⟩ (ih (i + 1) (by omega))
theorem l_dig2 {k d w : Int} (h : S.1 m = some (cO 10 (.ref (m + 1) :: fs))) (ha : S.1 (m + 1) = some (cJ 215 a)) (hv : MV a) (h1 : a 139 = 1) (hkk : 0 ≤ k ∧ k ≤ a 143 - 1) (hd : 0 ≤ d ∧ d ≤ a 144 - 1) (hq : Q (.inl (some (vi (vDig a k d)))) S) : ∀ (r i : Nat), (i : Int) + r = d →
    PW g cX10_digit (iX10_digit mc ms) 158 [(0, some (.ref m)), (1, some (vi k)), (2, some (vi d)), (3, some (vl w)), (5, some (vl (lft a k i))), (7, some (vi (i : Int)))] [] S kc ks Q := by
  intro r
  obtain ⟨-, -, -, g4, -, e0, e1, e2⟩ := hv.2.2.2 h1
  induction r with
  | zero =>
    intro i hi
    have hb := lft_bd hv hkk.1 (by omega) i (by omega)
    have hp := e0 d (by omega) (by omega)
    have m1 := Int.emod_nonneg (lft a k i) (show a (145 + d) ≠ 0 by omega)
    have m2 := Int.emod_lt_of_pos (lft a k i) (show 0 < a (145 + d) by omega)
    refine r_iload dX10_digit_158 rfl (r_iload_n dX10_digit_160 (i := 2) rfl rfl ?_)
    refine r_icmp_ge 186 dX10_digit_161 (by decide) (by omega) (by omega) (fun c1 => ?_) (fun c1 => ?_)
    · refine r_lload dX10_digit_186 rfl (r_aload_n dX10_digit_188 (i := 0) rfl rfl (r_get dX10_digit_189 fl_X10_7 h rfl (r_sipush dX10_digit_192 (by decide) (r_iload_n dX10_digit_195 (i := 2) rfl rfl ?_))))
      refine r_iadd dX10_digit_196 (r_lald dX10_digit_197 ha (by omega) (by omega) (by omega) (r_lremN dX10_digit_198 (by omega) (by omega) (by omega) (by omega) (r_l2i dX10_digit_199 ?_)))
      refine r_iret dX10_digit_200 rfl rfl ?_
      have e : vDig a k d = lft a k i % a (145 + d) := by
        unfold vDig
        rw [show d.toNat = i by omega]
      rw [← e]
      exact hq
    · omega
  | succ r ih =>
    intro i hi
    have hb := lft_bd hv hkk.1 (by omega) i (by omega)
    have hp := e0 i (by omega) (by omega)
    refine r_iload dX10_digit_158 rfl (r_iload_n dX10_digit_160 (i := 2) rfl rfl ?_)
    refine r_icmp_ge 186 dX10_digit_161 (by decide) (by omega) (by omega) (fun c1 => ?_) (fun c1 => ?_)
    · omega
    · refine r_lload dX10_digit_164 rfl (r_aload_n dX10_digit_166 (i := 0) rfl rfl (r_get dX10_digit_167 fl_X10_7 h rfl (r_sipush dX10_digit_170 (by decide) (r_iload dX10_digit_173 rfl ?_))))
      refine r_iadd dX10_digit_175 (r_lald dX10_digit_176 ha (by omega) (by omega) (by omega) (r_ldivN dX10_digit_177 (by omega) (by omega) (by omega) (by omega) (r_lstore dX10_digit_178 rfl (Nat.le_of_ble_eq_true rfl) (r_iinc dX10_digit_180 rfl rfl ?_))))
      refine r_goto 158 dX10_digit_183 (by decide) ?_
      exact r_loc [(0, some (.ref m)), (1, some (vi k)), (2, some (vi d)), (3, some (vl w)), (5, some (vl (lft a k (i + 1)))), (7, some (vi ((i + 1 : Nat) : Int)))] ⟨Or.inl rfl, Or.inl rfl, Or.inl rfl, Or.inl rfl, Or.inl rfl, Or.inl rfl, trivial⟩ (ih (i + 1) (by omega))
theorem c_X10_digit {k d : Int} (h : S.1 m = some (mO m km th bu sz at' be ki wr wa ea nu bs bw bt')) (ha : S.1 (m + 1) = some (cJ 215 a)) (hv : MV a) (hk : RI k) (hd : RI d) : PC g yX10_digit cX10_digit (iX10_digit mc ms) [.ref m, vi k, vi d] S (mR S m (fun k => mO m km k bu sz at' be ki wr wa ea nu bs bw bt') (kDig a k d) (vi (vDig a k d))) := by
  refine PC_of pnX10 rfl rfl rfl (Nat.le_of_ble_eq_true rfl) ?_
  have hv1 := hv.1
  have hv2 := hv.2.1
  refine r_aload_n dX10_digit_0 (i := 0) rfl rfl (r_aload_n dX10_digit_1 (i := 0) rfl rfl (r_get dX10_digit_2 fl_X10_7 h rfl (r_sipush dX10_digit_5 (by decide) (r_lald dX10_digit_8 ha (by omega) (by omega) (by omega) ?_))))
  refine r_lconst (z := 0) dX10_digit_9 (by decide) ?_
  refine r_lcmp_ne 18 dX10_digit_10 dX10_digit_11 (by decide) (by omega) (by omega) (fun c1 => ?_) (fun c1 => ?_)
  · have h139 : a 139 = 1 := by omega
    obtain ⟨-, -, -, g4, -, -, -, -⟩ := hv.2.2.2 h139
    refine r_iload_n dX10_digit_18 (i := 1) rfl rfl (r_i2l dX10_digit_19 (by omega) (r_lconst (z := 0) dX10_digit_20 (by decide) (r_aload_n dX10_digit_21 (i := 0) rfl rfl (r_get dX10_digit_22 fl_X10_7 h rfl ?_))))
    refine r_sipush dX10_digit_25 (by decide) (r_lald dX10_digit_28 ha (by omega) (by omega) (by omega) (r_lconst (z := 1) dX10_digit_29 (by decide) (r_lsub dX10_digit_30 (c_sr dX10_digit_31 (c_X10_isIn ⟨by omega, by omega⟩ ⟨by omega, by omega⟩ ⟨by omega, by omega⟩) rfl rfl mq_X10_isIn ml_X10_46 ⟨Nat.le_of_ble_eq_true rfl, Nat.le_of_ble_eq_true rfl⟩ rfl rfl (Nat.le_of_ble_eq_true rfl) ?_))))
    refine r_if_eq 60 dX10_digit_34 (by decide) b2i_RI (fun c2 => ?_) (fun c2 => ?_)
    · replace c2 := b2i_eq c2
      refine r_iconst dX10_digit_60 (r_put dX10_digit_61 fl_X10_30 h rfl rfl (Nat.le_of_ble_eq_true rfl) (r_aload_n dX10_digit_64 (i := 0) rfl rfl (r_get dX10_digit_65 fl_X10_30 ps_same rfl ?_)))
      refine r_if_le 73 dX10_digit_68 (by decide) (by omega) (fun c3 => ?_) (fun c3 => ?_)
      · omega
      · refine r_iconst dX10_digit_71 ?_
        refine r_iret dX10_digit_72 rfl rfl ?_
        first
          | exact mR_t (by unfold kDig; rw [if_pos (by omega)]) (by decide)
          | exact mR_t (by unfold kDig; rw [if_neg (by omega), if_neg (by omega)]) (by decide)
    · replace c2 := b2i_ne c2
      refine r_iload_n dX10_digit_37 (i := 2) rfl rfl (r_i2l dX10_digit_38 (by omega) (r_lconst (z := 0) dX10_digit_39 (by decide) (r_aload_n dX10_digit_40 (i := 0) rfl rfl (r_get dX10_digit_41 fl_X10_7 h rfl ?_))))
      refine r_sipush dX10_digit_44 (by decide) (r_lald dX10_digit_47 ha (by omega) (by omega) (by omega) (r_lconst (z := 1) dX10_digit_48 (by decide) (r_lsub dX10_digit_49 (c_sr dX10_digit_50 (c_X10_isIn ⟨by omega, by omega⟩ ⟨by omega, by omega⟩ ⟨by omega, by omega⟩) rfl rfl mq_X10_isIn ml_X10_46 ⟨Nat.le_of_ble_eq_true rfl, Nat.le_of_ble_eq_true rfl⟩ rfl rfl (Nat.le_of_ble_eq_true rfl) ?_))))
      refine r_if_eq 60 dX10_digit_53 (by decide) b2i_RI (fun c4 => ?_) (fun c4 => ?_)
      · replace c4 := b2i_eq c4
        refine r_iconst dX10_digit_60 (r_put dX10_digit_61 fl_X10_30 h rfl rfl (Nat.le_of_ble_eq_true rfl) (r_aload_n dX10_digit_64 (i := 0) rfl rfl (r_get dX10_digit_65 fl_X10_30 ps_same rfl ?_)))
        refine r_if_le 73 dX10_digit_68 (by decide) (by omega) (fun c5 => ?_) (fun c5 => ?_)
        · omega
        · refine r_iconst dX10_digit_71 ?_
          refine r_iret dX10_digit_72 rfl rfl ?_
          first
            | exact mR_t (by unfold kDig; rw [if_pos (by omega)]) (by decide)
            | exact mR_t (by unfold kDig; rw [if_neg (by omega), if_neg (by omega)]) (by decide)
      · replace c4 := b2i_ne c4
        refine r_iconst dX10_digit_56 (r_goto 61 dX10_digit_57 (by decide) (r_put dX10_digit_61 fl_X10_30 h rfl rfl (Nat.le_of_ble_eq_true rfl) (r_aload_n dX10_digit_64 (i := 0) rfl rfl (r_get dX10_digit_65 fl_X10_30 ps_same rfl ?_))))
        refine r_if_le 73 dX10_digit_68 (by decide) (by omega) (fun c6 => ?_) (fun c6 => ?_)
        · refine r_lconst (z := 1) dX10_digit_73 (by decide) (r_lstore_n dX10_digit_74 (i := 3) rfl rfl (Nat.le_of_ble_eq_true rfl) (r_iconst dX10_digit_75 (r_istore dX10_digit_76 rfl (Nat.le_of_ble_eq_true rfl) ?_)))
          refine r_loc [(0, some (.ref m)), (1, some (vi k)), (2, some (vi d)), (3, some (vl (bpS a (0 : Nat)))), (5, some (vi ((0 : Nat) : Int)))] ⟨Or.inl rfl, Or.inl rfl, Or.inl rfl, Or.inl rfl, Or.inl rfl, trivial⟩ ?_
          refine l_dig1 ps_same (ps_ne (by omega) ha) hv h139 ?_ (a 144).toNat 0 (by omega)
          have hvk := val_RJ hv (k := k) (by omega) (by omega)
          have e0 : lft a k 0 = if a (151 + k) < 0 then a (151 + k) + bpS a (a 144).toNat else a (151 + k) := rfl
          refine r_aload_n dX10_digit_113 (i := 0) rfl rfl (r_get dX10_digit_114 fl_X10_7 ps_same rfl (r_sipush dX10_digit_117 (by decide) (r_iload_n dX10_digit_120 (i := 1) rfl rfl (r_iadd dX10_digit_121 ?_))))
          refine r_lald dX10_digit_122 (ps_ne (by omega) ha) (by omega) (by omega) (by omega) (r_lconst (z := 0) dX10_digit_123 (by decide) ?_)
          refine r_lcmp_ge 143 dX10_digit_124 dX10_digit_125 (by decide) (by omega) (by omega) (fun c1 => ?_) (fun c1 => ?_)
          · refine r_aload_n dX10_digit_143 (i := 0) rfl rfl (r_get dX10_digit_144 fl_X10_7 ps_same rfl (r_sipush dX10_digit_147 (by decide) (r_iload_n dX10_digit_150 (i := 1) rfl rfl (r_iadd dX10_digit_151 ?_))))
            refine r_lald dX10_digit_152 (ps_ne (by omega) ha) (by omega) (by omega) (by omega) (r_lstore dX10_digit_153 rfl (Nat.le_of_ble_eq_true rfl) (r_iconst dX10_digit_155 (r_istore dX10_digit_156 rfl (Nat.le_of_ble_eq_true rfl) ?_)))
            first
              | rw [if_pos (by omega)] at e0
              | rw [if_neg (by omega)] at e0
            refine r_loc [(0, some (.ref m)), (1, some (vi k)), (2, some (vi d)), (3, some (vl (bpS a (a 144).toNat))), (5, some (vl (lft a k (0 : Nat)))), (7, some (vi ((0 : Nat) : Int)))] ⟨Or.inl rfl, Or.inl rfl, Or.inl rfl, Or.inl rfl, Or.inl (lv_eq e0), Or.inl rfl, trivial⟩ ?_
            refine l_dig2 ps_same (ps_ne (by omega) ha) hv h139 (by omega) (by omega) ?_ d.toNat 0 (by omega)
            exact mR_0 (by unfold kDig; rw [if_neg (by omega), if_pos (by omega)]) rfl
          · refine r_aload_n dX10_digit_128 (i := 0) rfl rfl (r_get dX10_digit_129 fl_X10_7 ps_same rfl (r_sipush dX10_digit_132 (by decide) (r_iload_n dX10_digit_135 (i := 1) rfl rfl (r_iadd dX10_digit_136 ?_))))
            refine r_lald dX10_digit_137 (ps_ne (by omega) ha) (by omega) (by omega) (by omega) (r_lload_n dX10_digit_138 (i := 3) rfl rfl (r_ladd dX10_digit_139 (r_goto 153 dX10_digit_140 (by decide) (r_lstore dX10_digit_153 rfl (Nat.le_of_ble_eq_true rfl) ?_))))
            refine r_iconst dX10_digit_155 (r_istore dX10_digit_156 rfl (Nat.le_of_ble_eq_true rfl) ?_)
            first
              | rw [if_pos (by omega)] at e0
              | rw [if_neg (by omega)] at e0
            refine r_loc [(0, some (.ref m)), (1, some (vi k)), (2, some (vi d)), (3, some (vl (bpS a (a 144).toNat))), (5, some (vl (lft a k (0 : Nat)))), (7, some (vi ((0 : Nat) : Int)))] ⟨Or.inl rfl, Or.inl rfl, Or.inl rfl, Or.inl rfl, Or.inl (lv_eq e0), Or.inl rfl, trivial⟩ ?_
            refine l_dig2 ps_same (ps_ne (by omega) ha) hv h139 (by omega) (by omega) ?_ d.toNat 0 (by omega)
            exact mR_0 (by unfold kDig; rw [if_neg (by omega), if_pos (by omega)]) rfl
        · omega
  · refine r_iconst dX10_digit_14 (r_goto 61 dX10_digit_15 (by decide) (r_put dX10_digit_61 fl_X10_30 h rfl rfl (Nat.le_of_ble_eq_true rfl) (r_aload_n dX10_digit_64 (i := 0) rfl rfl (r_get dX10_digit_65 fl_X10_30 ps_same rfl ?_))))
    refine r_if_le 73 dX10_digit_68 (by decide) (by omega) (fun c7 => ?_) (fun c7 => ?_)
    · omega
    · refine r_iconst dX10_digit_71 ?_
      refine r_iret dX10_digit_72 rfl rfl ?_
      first
        | exact mR_t (by unfold kDig; rw [if_pos (by omega)]) (by decide)
        | exact mR_t (by unfold kDig; rw [if_neg (by omega), if_neg (by omega)]) (by decide)
theorem l_agree {s t : Int} {l3 : Value} (h : S.1 m = some (cO 10 (.ref (m + 1) :: fs))) (ha : S.1 (m + 1) = some (cJ 215 a)) (hl : ML a) (hv : MV a) (h1 : a 139 = 1) (hs : 0 ≤ s ∧ s ≤ 3) (ht : 0 ≤ t ∧ t ≤ 3) (hq : Q (.inl (some (vi (agI a s t (a 143).toNat)))) S) : ∀ (r k : Nat), (k : Int) + r = a 143 →
    PW g cX10_agreeing (iX10_agreeing mc ms) 110 [(0, some (.ref m)), (1, some (vi s)), (2, some (vi t)), (4, some (vi (a 140))), (5, some (vi (a 143))), (6, some (vi (agI a s t k))), (7, some (vi (k : Int)))] [] S kc ks Q := by
  intro r
  obtain ⟨g0, -, g3, -, -, -, -, -⟩ := hv.2.2.2 h1
  have hv2 := hv.2.1
  have b1 := hl.1 s hs.1 (by omega)
  have b2 := hl.1 t ht.1 (by omega)
  induction r with
  | zero =>
    intro k hk
    refine r_iload dX10_agreeing_110 rfl (r_iload dX10_agreeing_112 rfl ?_)
    refine r_icmp_ge 160 dX10_agreeing_114 (by decide) (by omega) (by omega) (fun c1 => ?_) (fun c1 => ?_)
    · refine r_iload dX10_agreeing_160 rfl ?_
      refine r_iret dX10_agreeing_162 rfl rfl ?_
      rw [show (a 143).toNat = k by omega] at hq
      exact hq
    · omega
  | succ r ih =>
    intro k hk
    have hvk := val_RJ hv (k := (k : Int)) (by omega) (by omega)
    have hcb := cfI_bd (kd := a 140) (n := a 143) (k := (k : Int)) (f := tmF a s) (h := tmF a t) (lb := (a (7 + t)).toNat) (by omega) (fun q q1 q2 => tm_ok hl ht b2.2 q q1 (by omega)) (a (7 + s)).toNat (fun q q1 q2 => tm_ok hl hs b1.2 q q1 (by omega))
    have ea : agI a s t (k + 1) = agI a s t k + b2i (cfI (a 140) (a 143) (k : Int) (tmF a s) (tmF a t) (a (7 + t)).toNat (a (7 + s)).toNat = a (151 + (k : Int))) := rfl
    refine r_iload dX10_agreeing_110 rfl (r_iload dX10_agreeing_112 rfl ?_)
    refine r_icmp_ge 160 dX10_agreeing_114 (by decide) (by omega) (by omega) (fun c1 => ?_) (fun c1 => ?_)
    · omega
    · refine r_iload dX10_agreeing_117 rfl (r_aload_n dX10_agreeing_119 (i := 0) rfl rfl (r_iload dX10_agreeing_120 rfl (r_iload_n dX10_agreeing_122 (i := 1) rfl rfl (r_iload_n dX10_agreeing_123 (i := 2) rfl rfl ?_))))
      refine r_iload dX10_agreeing_124 rfl (r_iload dX10_agreeing_126 rfl (c_vr dX10_agreeing_128 (c_X10_coefficientOf h ha hl hs ht g0 (by omega) ⟨by omega, by omega⟩ (by omega)) rfl rfl mq_X10_coefficientOf ml_X10_258 ⟨Nat.le_of_ble_eq_true rfl, Nat.le_of_ble_eq_true rfl⟩ h rfl rfl rfl (Nat.le_of_ble_eq_true rfl) (r_aload_n dX10_agreeing_131 (i := 0) rfl rfl (r_get dX10_agreeing_132 fl_X10_7 h rfl ?_))))
      refine r_sipush dX10_agreeing_135 (by decide) (r_iload dX10_agreeing_138 rfl (r_iadd dX10_agreeing_140 (r_lald dX10_agreeing_141 ha (by omega) (by omega) (by omega) ?_)))
      refine r_lcmp_ne 150 dX10_agreeing_142 dX10_agreeing_143 (by decide) (by omega) (by omega) (fun c2 => ?_) (fun c2 => ?_)
      · refine r_iconst dX10_agreeing_150 (r_iadd dX10_agreeing_151 (r_istore dX10_agreeing_152 rfl (Nat.le_of_ble_eq_true rfl) (r_iinc dX10_agreeing_154 rfl rfl (r_goto 110 dX10_agreeing_157 (by decide) ?_))))
        first
          | rw [b2i_t (by assumption)] at ea
          | rw [b2i_f (by assumption)] at ea
        exact r_loc [(0, some (.ref m)), (1, some (vi s)), (2, some (vi t)), (4, some (vi (a 140))), (5, some (vi (a 143))), (6, some (vi (agI a s t (k + 1)))), (7, some (vi ((k + 1 : Nat) : Int)))] ⟨Or.inl rfl, Or.inl rfl, Or.inl rfl, Or.inl rfl, Or.inl rfl, Or.inl (lvi_eq ea), Or.inl rfl, trivial⟩ (ih (k + 1) (by omega))
      · refine r_iconst dX10_agreeing_146 (r_goto 151 dX10_agreeing_147 (by decide) (r_iadd dX10_agreeing_151 (r_istore dX10_agreeing_152 rfl (Nat.le_of_ble_eq_true rfl) (r_iinc dX10_agreeing_154 rfl rfl ?_))))
        refine r_goto 110 dX10_agreeing_157 (by decide) ?_
        first
          | rw [b2i_t (by assumption)] at ea
          | rw [b2i_f (by assumption)] at ea
        exact r_loc [(0, some (.ref m)), (1, some (vi s)), (2, some (vi t)), (4, some (vi (a 140))), (5, some (vi (a 143))), (6, some (vi (agI a s t (k + 1)))), (7, some (vi ((k + 1 : Nat) : Int)))] ⟨Or.inl rfl, Or.inl rfl, Or.inl rfl, Or.inl rfl, Or.inl rfl, Or.inl (lvi_eq ea), Or.inl rfl, trivial⟩ (ih (k + 1) (by omega))
theorem c_X10_agreeing {s t : Int} (h : S.1 m = some (mO m km th bu sz at' be ki wr wa ea nu bs bw bt')) (ha : S.1 (m + 1) = some (cJ 215 a)) (hl : ML a) (hv : MV a) (hs : RI s) (ht : RI t) : PC g yX10_agreeing cX10_agreeing (iX10_agreeing mc ms) [.ref m, vi s, vi t] S (mR S m (fun k => mO m km k bu sz at' be ki wr wa ea nu bs bw bt') (kAgree a s t) (vi (vAgree a s t))) := by
  refine PC_of pnX10 rfl rfl rfl (Nat.le_of_ble_eq_true rfl) ?_
  have hnb := lacksI_bd a s t
  have hv1 := hv.1
  have hv2 := hv.2.1
  refine r_aload_n dX10_agreeing_0 (i := 0) rfl rfl (r_iload_n dX10_agreeing_1 (i := 1) rfl rfl (r_iload_n dX10_agreeing_2 (i := 2) rfl rfl (c_vr dX10_agreeing_3 (c_X10_lacks h ha hl hs ht) rfl rfl mq_X10_lacks ml_X10_237 ⟨Nat.le_of_ble_eq_true rfl, Nat.le_of_ble_eq_true rfl⟩ h rfl rfl rfl (Nat.le_of_ble_eq_true rfl) (r_istore_n dX10_agreeing_6 (i := 3) rfl rfl (Nat.le_of_ble_eq_true rfl) ?_))))
  refine r_aload_n dX10_agreeing_7 (i := 0) rfl rfl (r_iload_n dX10_agreeing_8 (i := 3) rfl rfl (r_iconst dX10_agreeing_9 ?_))
  refine r_icmp_ne 17 dX10_agreeing_10 (by decide) (by omega) (by omega) (fun c1 => ?_) (fun c1 => ?_)
  · refine r_aload_n dX10_agreeing_17 (i := 0) rfl rfl (r_get dX10_agreeing_18 fl_X10_7 h rfl (r_sipush dX10_agreeing_21 (by decide) (r_lald dX10_agreeing_24 ha (by omega) (by omega) (by omega) (r_lconst (z := 0) dX10_agreeing_25 (by decide) ?_))))
    refine r_lcmp_eq 35 dX10_agreeing_26 dX10_agreeing_27 (by decide) (by omega) (by omega) (fun c2 => ?_) (fun c2 => ?_)
    · refine r_iconst dX10_agreeing_35 (r_goto 40 dX10_agreeing_36 (by decide) (r_put dX10_agreeing_40 fl_X10_30 h rfl rfl (Nat.le_of_ble_eq_true rfl) (r_aload_n dX10_agreeing_43 (i := 0) rfl rfl (r_get dX10_agreeing_44 fl_X10_30 ps_same rfl ?_))))
      refine r_if_le 52 dX10_agreeing_47 (by decide) (by omega) (fun c3 => ?_) (fun c3 => ?_)
      · omega
      · refine r_iconst dX10_agreeing_50 ?_
        refine r_iret dX10_agreeing_51 rfl rfl ?_
        first
          | omega
          | exact mR_t (by unfold kAgree; rw [if_pos (by omega)]) (by decide)
          | exact mR_t (by unfold kAgree; rw [if_neg (by omega), if_pos (by omega)]) (by decide)
          | exact mR_0 hk0 (by unfold vAgree; rw [b2c_f (fun z => by have := z.2; omega)]; rfl)
          | exact mR_0 hk0 (by unfold vAgree; rw [b2c_f (fun z => absurd z.1 (by assumption))]; rfl)
    · refine r_iload_n dX10_agreeing_30 (i := 3) rfl rfl (r_iconst dX10_agreeing_31 ?_)
      refine r_icmp_ne 39 dX10_agreeing_32 (by decide) (by omega) (by omega) (fun c4 => ?_) (fun c4 => ?_)
      · refine r_iconst dX10_agreeing_39 (r_put dX10_agreeing_40 fl_X10_30 h rfl rfl (Nat.le_of_ble_eq_true rfl) (r_aload_n dX10_agreeing_43 (i := 0) rfl rfl (r_get dX10_agreeing_44 fl_X10_30 ps_same rfl ?_)))
        refine r_if_le 52 dX10_agreeing_47 (by decide) (by omega) (fun c5 => ?_) (fun c5 => ?_)
        · have h139 : a 139 = 1 := by omega
          have hz := lacksI_0 (show lacksI a s t = 0 by omega)
          obtain ⟨g0, -, g3, -, -, -, -, -⟩ := hv.2.2.2 h139
          have b1 := hl.1 s (by omega) (by omega)
          have b2 := hl.1 t (by omega) (by omega)
          have hsz : -200 ≤ sizI a (a 140) s t (a 143) ∧ sizI a (a 140) s t (a 143) ≤ 200 := by (unfold sizI; split <;> omega)
          have hk0 : kAgree a s t = 0 := by (unfold kAgree; rw [if_neg (by omega), if_neg (by omega)])
          refine r_aload_n dX10_agreeing_52 (i := 0) rfl rfl (r_get dX10_agreeing_53 fl_X10_7 ps_same rfl (r_sipush dX10_agreeing_56 (by decide) (r_lald dX10_agreeing_59 (ps_ne (by omega) ha) (by omega) (by omega) (by omega) (r_l2i dX10_agreeing_60 ?_))))
          refine r_istore dX10_agreeing_61 rfl (Nat.le_of_ble_eq_true rfl) (r_aload_n dX10_agreeing_63 (i := 0) rfl rfl (r_get dX10_agreeing_64 fl_X10_7 ps_same rfl (r_sipush dX10_agreeing_67 (by decide) (r_lald dX10_agreeing_70 (ps_ne (by omega) ha) (by omega) (by omega) (by omega) ?_))))
          refine r_l2i dX10_agreeing_71 (r_istore dX10_agreeing_72 rfl (Nat.le_of_ble_eq_true rfl) (r_aload_n dX10_agreeing_74 (i := 0) rfl rfl (r_iload dX10_agreeing_75 rfl (r_iload_n dX10_agreeing_77 (i := 1) rfl rfl ?_))))
          refine r_iload_n dX10_agreeing_78 (i := 2) rfl rfl (r_iload dX10_agreeing_79 rfl (c_vr dX10_agreeing_81 (c_X10_isKind ps_same (ps_ne (by omega) ha) hl hz.1.1 hz.1.2 ⟨by omega, by omega⟩ ⟨by omega, by omega⟩) rfl rfl mq_X10_isKind ml_X10_240 ⟨Nat.le_of_ble_eq_true rfl, Nat.le_of_ble_eq_true rfl⟩ ps_same rfl rfl rfl (Nat.le_of_ble_eq_true rfl) ?_))
          refine r_if_eq 102 dX10_agreeing_84 (by decide) b2c_RI (fun c6 => ?_) (fun c6 => ?_)
          · replace c6 := b2c_eq c6
            refine r_iconst dX10_agreeing_102 ?_
            refine r_iret dX10_agreeing_103 rfl rfl ?_
            first
              | omega
              | exact mR_t (by unfold kAgree; rw [if_pos (by omega)]) (by decide)
              | exact mR_t (by unfold kAgree; rw [if_neg (by omega), if_pos (by omega)]) (by decide)
              | exact mR_0 hk0 (by unfold vAgree; rw [b2c_f (fun z => by have := z.2; omega)]; rfl)
              | exact mR_0 hk0 (by unfold vAgree; rw [b2c_f (fun z => absurd z.1 (by assumption))]; rfl)
          · replace c6 := b2c_ne c6
            refine r_aload_n dX10_agreeing_87 (i := 0) rfl rfl (r_iload dX10_agreeing_88 rfl (r_iload_n dX10_agreeing_90 (i := 1) rfl rfl (r_iload_n dX10_agreeing_91 (i := 2) rfl rfl (r_iload dX10_agreeing_92 rfl ?_))))
            refine c_vr dX10_agreeing_94 (c_X10_sizeOf ps_same (ps_ne (by omega) ha) ⟨by omega, by omega⟩ (fun _ => hz.1)) rfl rfl mq_X10_sizeOf ml_X10_248 ⟨Nat.le_of_ble_eq_true rfl, Nat.le_of_ble_eq_true rfl⟩ ps_same rfl rfl rfl (Nat.le_of_ble_eq_true rfl) (r_iload dX10_agreeing_97 rfl ?_)
            refine r_icmp_eq 104 dX10_agreeing_99 (by decide) (by omega) (by omega) (fun c7 => ?_) (fun c7 => ?_)
            · refine r_iconst dX10_agreeing_104 (r_istore dX10_agreeing_105 rfl (Nat.le_of_ble_eq_true rfl) (r_iconst dX10_agreeing_107 (r_istore dX10_agreeing_108 rfl (Nat.le_of_ble_eq_true rfl) ?_)))
              first
                | omega
                | (refine r_loc [(0, some (.ref m)), (1, some (vi s)), (2, some (vi t)), (4, some (vi (a 140))), (5, some (vi (a 143))), (6, some (vi (agI a s t (0 : Nat)))), (7, some (vi ((0 : Nat) : Int)))] ⟨Or.inl rfl, Or.inl rfl, Or.inl rfl, Or.inl rfl, Or.inl rfl, Or.inl rfl, Or.inl rfl, trivial⟩ ?_
                   refine l_agree (l3 := .null) ps_same (ps_ne (by omega) ha) hl hv h139 hz.1.1 hz.1.2 ?_ (a 143).toNat 0 (by omega)
                   exact mR_0 hk0 (by unfold vAgree; rw [b2c_t ⟨by assumption, by omega⟩, if_pos rfl]))
            · refine r_iconst dX10_agreeing_102 ?_
              refine r_iret dX10_agreeing_103 rfl rfl ?_
              first
                | omega
                | exact mR_t (by unfold kAgree; rw [if_pos (by omega)]) (by decide)
                | exact mR_t (by unfold kAgree; rw [if_neg (by omega), if_pos (by omega)]) (by decide)
                | exact mR_0 hk0 (by unfold vAgree; rw [b2c_f (fun z => by have := z.2; omega)]; rfl)
                | exact mR_0 hk0 (by unfold vAgree; rw [b2c_f (fun z => absurd z.1 (by assumption))]; rfl)
        · omega
      · refine r_iconst dX10_agreeing_35 (r_goto 40 dX10_agreeing_36 (by decide) (r_put dX10_agreeing_40 fl_X10_30 h rfl rfl (Nat.le_of_ble_eq_true rfl) (r_aload_n dX10_agreeing_43 (i := 0) rfl rfl (r_get dX10_agreeing_44 fl_X10_30 ps_same rfl ?_))))
        refine r_if_le 52 dX10_agreeing_47 (by decide) (by omega) (fun c8 => ?_) (fun c8 => ?_)
        · omega
        · refine r_iconst dX10_agreeing_50 ?_
          refine r_iret dX10_agreeing_51 rfl rfl ?_
          first
            | omega
            | exact mR_t (by unfold kAgree; rw [if_pos (by omega)]) (by decide)
            | exact mR_t (by unfold kAgree; rw [if_neg (by omega), if_pos (by omega)]) (by decide)
            | exact mR_0 hk0 (by unfold vAgree; rw [b2c_f (fun z => by have := z.2; omega)]; rfl)
            | exact mR_0 hk0 (by unfold vAgree; rw [b2c_f (fun z => absurd z.1 (by assumption))]; rfl)
  · refine r_iconst dX10_agreeing_13 (r_goto 40 dX10_agreeing_14 (by decide) (r_put dX10_agreeing_40 fl_X10_30 h rfl rfl (Nat.le_of_ble_eq_true rfl) (r_aload_n dX10_agreeing_43 (i := 0) rfl rfl (r_get dX10_agreeing_44 fl_X10_30 ps_same rfl ?_))))
    refine r_if_le 52 dX10_agreeing_47 (by decide) (by omega) (fun c9 => ?_) (fun c9 => ?_)
    · omega
    · refine r_iconst dX10_agreeing_50 ?_
      refine r_iret dX10_agreeing_51 rfl rfl ?_
      first
        | omega
        | exact mR_t (by unfold kAgree; rw [if_pos (by omega)]) (by decide)
        | exact mR_t (by unfold kAgree; rw [if_neg (by omega), if_pos (by omega)]) (by decide)
        | exact mR_0 hk0 (by unfold vAgree; rw [b2c_f (fun z => by have := z.2; omega)]; rfl)
        | exact mR_0 hk0 (by unfold vAgree; rw [b2c_f (fun z => absurd z.1 (by assumption))]; rfl)
end MFACE5

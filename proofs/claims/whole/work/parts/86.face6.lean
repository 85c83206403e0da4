/-! the class's face: the questions of the product -/
theorem lfC_lft {a : Int → Int} {k x : Int} (hx : x = lft a k 0) : ∀ i : Nat, lfC x (fun i => a (145 + i)) i = lft a k i
  | 0 => hx
  | i + 1 => by
    show lfC x (fun i => a (145 + i)) i / a (145 + (i : Int)) = lft a k i / a (145 + (i : Int))
    rw [lfC_lft hx i]
section FACE6
variable {g : GT} {S : PS} {mc ms : Nat} {x F : Nat} {a : Int → Int}
theorem c_X9_product {w : Int} (hx : S.1 x = some (xO x)) (hb : BnAt S (x + 1) F a) (hv : MV a) (hw : RI w) (hm : 1 ≤ mc) (hm2 : 6 ≤ ms) : PC g yX9_product cX9_product (iX9_product mc ms) [.ref x, vi w] S (Out ["java/lang/IllegalStateException", "java/lang/IllegalArgumentException"] (kHas a (0 ≤ w ∧ w ≤ 3)) (vi (vProd a w)) S (fun S' => S' = S)) := by
  have hv1 := hv.1
  have hv2 := hv.2.1
  obtain ⟨fc, c, kd, st, ln, md, vf, pf, p1, p2, p3, p4, p5, p6⟩ := hb.2.2
  refine PC_of pnX9 rfl rfl rfl (Nat.le_of_ble_eq_true rfl) ?_
  refine r_bud (kc' := 1) (ks' := 6) hm hm2 ?_
  refine r_aload_n dX9_product_0 (i := 0) rfl rfl ?_
  by_cases h1 : a 139 = 1
  rotate_left
  · exact c_vx (E := "") dX9_product_1 (c_X9_presentProduct0 (mc := 1) (ms := 6) hx hb.1.1 p1 (by have := hv.2.2.1; omega) (by omega) (by omega)) rfl mq_X9_presentProduct ml_X9_300 ⟨Nat.le_of_ble_eq_true rfl, Nat.le_of_ble_eq_true rfl⟩ hx rfl rfl rfl (Nat.le_of_ble_eq_true rfl) (by show 1 ≤ 1; omega) (by show 6 ≤ 6; omega) (fun o S' ho => ⟨_, ho.1, Out.th 0 (by unfold kHas; rw [if_pos (by omega)]; rfl) rfl ⟨rfl, ho.2⟩⟩)
  obtain ⟨e1, e2, e3, e4, e5, e6, e7⟩ := p6 h1
  obtain ⟨g0, g1, g2, g3, g4, g5, g6, g7⟩ := hv.2.2.2 h1
  refine c_vr dX9_product_1 (c_X9_presentProduct1 hx hb.1.1 p1 (by omega)) rfl rfl mq_X9_presentProduct ml_X9_300 ⟨Nat.le_of_ble_eq_true rfl, Nat.le_of_ble_eq_true rfl⟩ hx rfl rfl rfl (Nat.le_of_ble_eq_true rfl) (r_astore_n dX9_product_4 (i := 2) rfl rfl (Nat.le_of_ble_eq_true rfl) (r_iload_n dX9_product_5 (i := 1) rfl rfl ?_))
  refine r_if_lt 18 dX9_product_6 (by decide) (by omega) (fun c1 => ?_) (fun c1 => ?_)
  · refine r_iconst dX9_product_18 ?_
    exact c_sx dX9_product_19 (c_X9_require0 (mc := 1) (ms := 6) rfl (by omega) (by omega)) rfl mq_X9_require ml_X9_70 ⟨Nat.le_of_ble_eq_true rfl, Nat.le_of_ble_eq_true rfl⟩ rfl rfl (Nat.le_of_ble_eq_true rfl) (by show 1 ≤ 1; omega) (by show 6 ≤ 6; omega) (fun o S' ho => ⟨_, ho.1, Out.th 1 (by unfold kHas; rw [if_neg (by omega), if_neg (by omega)]; rfl) rfl ⟨rfl, ho.2⟩⟩)
  · refine r_iload_n dX9_product_9 (i := 1) rfl rfl (r_iconst dX9_product_10 ?_)
    refine r_icmp_gt 18 dX9_product_11 (by decide) (by omega) (by omega) (fun c2 => ?_) (fun c2 => ?_)
    · refine r_iconst dX9_product_18 ?_
      exact c_sx dX9_product_19 (c_X9_require0 (mc := 1) (ms := 6) rfl (by omega) (by omega)) rfl mq_X9_require ml_X9_70 ⟨Nat.le_of_ble_eq_true rfl, Nat.le_of_ble_eq_true rfl⟩ rfl rfl (Nat.le_of_ble_eq_true rfl) (by show 1 ≤ 1; omega) (by show 6 ≤ 6; omega) (fun o S' ho => ⟨_, ho.1, Out.th 1 (by unfold kHas; rw [if_neg (by omega), if_neg (by omega)]; rfl) rfl ⟨rfl, ho.2⟩⟩)
    · refine r_iconst dX9_product_14 (r_goto 19 dX9_product_15 (by decide) (c_sn dX9_product_19 (c_X9_require1 (by decide) ⟨by omega, by omega⟩) rfl rfl mq_X9_require ml_X9_70 ⟨Nat.le_of_ble_eq_true rfl, Nat.le_of_ble_eq_true rfl⟩ rfl rfl (Nat.le_of_ble_eq_true rfl) (r_iload_n dX9_product_22 (i := 1) rfl rfl ?_)))
      have c3 : w = 0 ∨ w = 1 ∨ w = 2 ∨ w = 3 := by omega
      rcases c3 with c3 | c3 | c3 | c3
      · refine r_tableIn 48 dX9_product_23 ⟨by omega, by omega⟩ (by omega) (by omega) (by rw [c3]; rfl) (by decide) ?_
        refine r_aload_n dX9_product_48 (i := 2) rfl rfl (r_get dX9_product_49 fl_X9_304 p1 rfl ?_)
        refine r_iret dX9_product_52 rfl rfl ?_
        subst_vars
        refine Out.ok (by unfold kHas; rw [if_neg (by omega), if_pos (by omega)]) ?_ rfl
        unfold vProd
        first
          | rw [if_pos (by omega)]
          | rw [if_neg (by omega), if_pos (by omega)]
          | rw [if_neg (by omega), if_neg (by omega), if_pos (by omega)]
          | rw [if_neg (by omega), if_neg (by omega), if_neg (by omega)]
      · refine r_tableIn 53 dX9_product_23 ⟨by omega, by omega⟩ (by omega) (by omega) (by rw [c3]; rfl) (by decide) ?_
        refine r_aload_n dX9_product_53 (i := 2) rfl rfl (r_get dX9_product_54 fl_X9_305 p1 rfl ?_)
        refine r_iret dX9_product_57 rfl rfl ?_
        subst_vars
        refine Out.ok (by unfold kHas; rw [if_neg (by omega), if_pos (by omega)]) ?_ rfl
        unfold vProd
        first
          | rw [if_pos (by omega)]
          | rw [if_neg (by omega), if_pos (by omega)]
          | rw [if_neg (by omega), if_neg (by omega), if_pos (by omega)]
          | rw [if_neg (by omega), if_neg (by omega), if_neg (by omega)]
      · refine r_tableIn 58 dX9_product_23 ⟨by omega, by omega⟩ (by omega) (by omega) (by rw [c3]; rfl) (by decide) ?_
        refine r_aload_n dX9_product_58 (i := 2) rfl rfl (r_get dX9_product_59 fl_X9_306 p1 rfl ?_)
        refine r_iret dX9_product_62 rfl rfl ?_
        subst_vars
        refine Out.ok (by unfold kHas; rw [if_neg (by omega), if_pos (by omega)]) ?_ rfl
        unfold vProd
        first
          | rw [if_pos (by omega)]
          | rw [if_neg (by omega), if_pos (by omega)]
          | rw [if_neg (by omega), if_neg (by omega), if_pos (by omega)]
          | rw [if_neg (by omega), if_neg (by omega), if_neg (by omega)]
      · refine r_tableOut 63 dX9_product_23 ⟨by omega, by omega⟩ (by omega) (by decide) ?_
        refine r_aload_n dX9_product_63 (i := 2) rfl rfl (r_get dX9_product_64 fl_X9_309 p1 rfl ?_)
        refine r_iret dX9_product_67 rfl rfl ?_
        subst_vars
        refine Out.ok (by unfold kHas; rw [if_neg (by omega), if_pos (by omega)]) ?_ rfl
        unfold vProd
        first
          | rw [if_pos (by omega)]
          | rw [if_neg (by omega), if_pos (by omega)]
          | rw [if_neg (by omega), if_neg (by omega), if_pos (by omega)]
          | rw [if_neg (by omega), if_neg (by omega), if_neg (by omega)]
theorem c_X9_value {k : Int} (hx : S.1 x = some (xO x)) (hb : BnAt S (x + 1) F a) (hv : MV a) (hk : RI k) (hm : 1 ≤ mc) (hm2 : 6 ≤ ms) : PC g yX9_value cX9_value (iX9_value mc ms) [.ref x, vi k] S (Out ["java/lang/IllegalStateException", "java/lang/IndexOutOfBoundsException"] (kHas a (0 ≤ k ∧ k ≤ a 143 - 1)) (vl (a (151 + k))) S (fun S' => S' = S)) := by
  have hv1 := hv.1
  have hv2 := hv.2.1
  obtain ⟨fc, c, kd, st, ln, md, vf, pf, p1, p2, p3, p4, p5, p6⟩ := hb.2.2
  refine PC_of pnX9 rfl rfl rfl (Nat.le_of_ble_eq_true rfl) ?_
  refine r_bud (kc' := 1) (ks' := 6) hm hm2 ?_
  refine r_aload_n dX9_value_0 (i := 0) rfl rfl ?_
  by_cases h1 : a 139 = 1
  rotate_left
  · exact c_vx (E := "") dX9_value_1 (c_X9_presentProduct0 (mc := 1) (ms := 6) hx hb.1.1 p1 (by have := hv.2.2.1; omega) (by omega) (by omega)) rfl mq_X9_presentProduct ml_X9_300 ⟨Nat.le_of_ble_eq_true rfl, Nat.le_of_ble_eq_true rfl⟩ hx rfl rfl rfl (Nat.le_of_ble_eq_true rfl) (by show 1 ≤ 1; omega) (by show 6 ≤ 6; omega) (fun o S' ho => ⟨_, ho.1, Out.th 0 (by unfold kHas; rw [if_pos (by omega)]; rfl) rfl ⟨rfl, ho.2⟩⟩)
  obtain ⟨e1, e2, e3, e4, e5, e6, e7⟩ := p6 h1
  obtain ⟨g0, g1, g2, g3, g4, g5, g6, g7⟩ := hv.2.2.2 h1
  refine c_vr dX9_value_1 (c_X9_presentProduct1 hx hb.1.1 p1 (by omega)) rfl rfl mq_X9_presentProduct ml_X9_300 ⟨Nat.le_of_ble_eq_true rfl, Nat.le_of_ble_eq_true rfl⟩ hx rfl rfl rfl (Nat.le_of_ble_eq_true rfl) (r_astore_n dX9_value_4 (i := 2) rfl rfl (Nat.le_of_ble_eq_true rfl) (r_aload_n dX9_value_5 (i := 2) rfl rfl (r_iload_n dX9_value_6 (i := 1) rfl rfl ?_)))
  by_cases hc : 0 ≤ k ∧ k < c
  rotate_left
  · exact c_sx dX9_value_7 (c_X9_requireCoefficient0 (mc := 1) (ms := 6) p1 (by omega) hk hc (by omega) (by omega)) rfl mq_X9_requireCoefficient ml_X9_310 ⟨Nat.le_of_ble_eq_true rfl, Nat.le_of_ble_eq_true rfl⟩ rfl rfl (Nat.le_of_ble_eq_true rfl) (by show 1 ≤ 1; omega) (by show 6 ≤ 6; omega) (fun o S' ho => ⟨_, ho.1, Out.th 1 (by unfold kHas; rw [if_neg (by omega), if_neg (by omega)]; rfl) rfl ⟨rfl, ho.2⟩⟩)
  refine c_sn dX9_value_7 (c_X9_requireCoefficient1 p1 (by omega) hk hc) rfl rfl mq_X9_requireCoefficient ml_X9_310 ⟨Nat.le_of_ble_eq_true rfl, Nat.le_of_ble_eq_true rfl⟩ rfl rfl (Nat.le_of_ble_eq_true rfl) (r_aload_n dX9_value_10 (i := 2) rfl rfl (r_get dX9_value_11 fl_X9_314 p1 rfl (r_iload_n dX9_value_14 (i := 1) rfl rfl (r_lald dX9_value_15 p2 (by omega) (by omega) (by omega) ?_))))
  refine r_lret dX9_value_16 rfl ?_
  exact Out.ok (by unfold kHas; rw [if_neg (by omega), if_pos (by omega)]) (by rw [e6 k hc.1 hc.2]) rfl
theorem c_X9_digit {k d : Int} (hx : S.1 x = some (xO x)) (hb : BnAt S (x + 1) F a) (hv : MV a) (hk : RI k) (hd : RI d) (hm : 1 ≤ mc) (hm2 : 6 ≤ ms) : PC g yX9_digit cX9_digit (iX9_digit mc ms) [.ref x, vi k, vi d] S (Out ["java/lang/IllegalStateException", "java/lang/IndexOutOfBoundsException"] (kDig a k d) (vi (vDig a k d)) S (fun S' => S' = S)) := by
  have hv1 := hv.1
  have hv2 := hv.2.1
  obtain ⟨fc, c, kd, st, ln, md, vf, pf, p1, p2, p3, p4, p5, p6⟩ := hb.2.2
  refine PC_of pnX9 rfl rfl rfl (Nat.le_of_ble_eq_true rfl) ?_
  refine r_bud (kc' := 1) (ks' := 6) hm hm2 ?_
  refine r_aload_n dX9_digit_0 (i := 0) rfl rfl ?_
  by_cases h1 : a 139 = 1
  rotate_left
  · exact c_vx (E := "") dX9_digit_1 (c_X9_presentProduct0 (mc := 1) (ms := 6) hx hb.1.1 p1 (by have := hv.2.2.1; omega) (by omega) (by omega)) rfl mq_X9_presentProduct ml_X9_300 ⟨Nat.le_of_ble_eq_true rfl, Nat.le_of_ble_eq_true rfl⟩ hx rfl rfl rfl (Nat.le_of_ble_eq_true rfl) (by show 1 ≤ 1; omega) (by show 6 ≤ 6; omega) (fun o S' ho => ⟨_, ho.1, Out.th 0 (by unfold kDig; rw [if_pos (by omega)]; rfl) rfl ⟨rfl, ho.2⟩⟩)
  obtain ⟨e1, e2, e3, e4, e5, e6, e7⟩ := p6 h1
  obtain ⟨g0, g1, g2, g3, g4, g5, g6, g7⟩ := hv.2.2.2 h1
  have hpo := bpS_pos g5 (a 144).toNat (by omega)
  refine c_vr dX9_digit_1 (c_X9_presentProduct1 hx hb.1.1 p1 (by omega)) rfl rfl mq_X9_presentProduct ml_X9_300 ⟨Nat.le_of_ble_eq_true rfl, Nat.le_of_ble_eq_true rfl⟩ hx rfl rfl rfl (Nat.le_of_ble_eq_true rfl) (r_astore_n dX9_digit_4 (i := 3) rfl rfl (Nat.le_of_ble_eq_true rfl) (r_aload_n dX9_digit_5 (i := 3) rfl rfl (r_iload_n dX9_digit_6 (i := 1) rfl rfl ?_)))
  by_cases hc : 0 ≤ k ∧ k < c
  rotate_left
  · exact c_sx dX9_digit_7 (c_X9_requireCoefficient0 (mc := 1) (ms := 6) p1 (by omega) hk hc (by omega) (by omega)) rfl mq_X9_requireCoefficient ml_X9_310 ⟨Nat.le_of_ble_eq_true rfl, Nat.le_of_ble_eq_true rfl⟩ rfl rfl (Nat.le_of_ble_eq_true rfl) (by show 1 ≤ 1; omega) (by show 6 ≤ 6; omega) (fun o S' ho => ⟨_, ho.1, Out.th 1 (by unfold kDig; rw [if_neg (by omega), if_neg (by omega)]; rfl) rfl ⟨rfl, ho.2⟩⟩)
  refine c_sn dX9_digit_7 (c_X9_requireCoefficient1 p1 (by omega) hk hc) rfl rfl mq_X9_requireCoefficient ml_X9_310 ⟨Nat.le_of_ble_eq_true rfl, Nat.le_of_ble_eq_true rfl⟩ rfl rfl (Nat.le_of_ble_eq_true rfl) (r_iload_n dX9_digit_10 (i := 2) rfl rfl ?_)
  refine r_if_lt 22 dX9_digit_11 (by decide) (by omega) (fun c1 => ?_) (fun c1 => ?_)
  · refine r_throwSW th_index (List.mem_of_getElem? (i := 15) rfl) rfl dX9_digit_22 dX9_digit_25 dX9_digit_26 dX9_digit_29 dX9_digit_32 (Nat.le_of_ble_eq_true rfl) (Nat.le_of_ble_eq_true rfl) (by omega) (by omega) (fun z hz => ?_)
    exact Out.th 1 (by unfold kDig; rw [if_neg (by omega), if_neg (by omega)]; rfl) rfl ⟨rfl, rfl, hz⟩
  · refine r_iload_n dX9_digit_14 (i := 2) rfl rfl (r_aload_n dX9_digit_15 (i := 3) rfl rfl (r_get dX9_digit_16 fl_X9_318 p1 rfl ?_))
    refine r_icmp_lt 33 dX9_digit_19 (by decide) (by omega) (by omega) (fun c2 => ?_) (fun c2 => ?_)
    · refine r_aload_n dX9_digit_33 (i := 3) rfl rfl (r_iload_n dX9_digit_34 (i := 1) rfl rfl (r_iload_n dX9_digit_35 (i := 2) rfl rfl (c_vr dX9_digit_36 (c_X6_mixedDigit (pr := fun i => a (145 + i)) p1 p2 p3 (by omega) (fun i i0 i1 => by obtain ⟨q9, q1, q2, q3⟩ := e7 i i0 i1; exact ⟨q9, q1, (g5 i i0 (by omega)).1, (g5 i i0 (by omega)).2.1, q3⟩) hc (by omega) (by omega) (by omega) (by rw [e6 k hc.1 hc.2, e5]; exact g7 k hc.1 (by omega))) rfl rfl mq_X6_mixedDigit ml_X9_323 ⟨Nat.le_of_ble_eq_true rfl, Nat.le_of_ble_eq_true rfl⟩ p1 rfl rfl rfl (Nat.le_of_ble_eq_true rfl) ?_)))
      refine r_iret dX9_digit_39 rfl rfl ?_
      refine Out.ok (by unfold kDig; rw [if_neg (by omega), if_pos (by omega)]) ?_ rfl
      unfold vDig
      rw [lfC_lft (k := k) (by rw [e6 k hc.1 hc.2, e5]; rfl)]
    · refine r_throwSW th_index (List.mem_of_getElem? (i := 15) rfl) rfl dX9_digit_22 dX9_digit_25 dX9_digit_26 dX9_digit_29 dX9_digit_32 (Nat.le_of_ble_eq_true rfl) (Nat.le_of_ble_eq_true rfl) (by omega) (by omega) (fun z hz => ?_)
      exact Out.th 1 (by unfold kDig; rw [if_neg (by omega), if_neg (by omega)]; rfl) rfl ⟨rfl, rfl, hz⟩
theorem c_X9_productAt {z : Int} (hx : S.1 x = some (xO x)) (hb : BnAt S (x + 1) F a) (hv : MV a) (hz : RI z) (hm : 1 ≤ mc) (hm2 : 6 ≤ ms) : PC g yX9_productAt cX9_productAt (iX9_productAt mc ms) [.ref x, vi z] S (Out ["java/lang/IllegalStateException"] (kHas1 a) (vi (sfx (vaF a) (z % 1000003) (a 143).toNat 0 % 1000003)) S (fun S' => S' = S)) := by
  have hv1 := hv.1
  have hv2 := hv.2.1
  obtain ⟨fc, c, kd, st, ln, md, vf, pf, p1, p2, p3, p4, p5, p6⟩ := hb.2.2
  refine PC_of pnX9 rfl rfl rfl (Nat.le_of_ble_eq_true rfl) ?_
  refine r_bud (kc' := 1) (ks' := 6) hm hm2 ?_
  refine r_aload_n dX9_productAt_0 (i := 0) rfl rfl ?_
  by_cases h1 : a 139 = 1
  rotate_left
  · exact c_vx (E := "") dX9_productAt_1 (c_X9_presentProduct0 (mc := 1) (ms := 6) hx hb.1.1 p1 (by have := hv.2.2.1; omega) (by omega) (by omega)) rfl mq_X9_presentProduct ml_X9_300 ⟨Nat.le_of_ble_eq_true rfl, Nat.le_of_ble_eq_true rfl⟩ hx rfl rfl rfl (Nat.le_of_ble_eq_true rfl) (by show 1 ≤ 1; omega) (by show 6 ≤ 6; omega) (fun o S' ho => ⟨_, ho.1, Out.th 0 (by unfold kHas1; rw [if_pos (by omega)]; rfl) rfl ⟨rfl, ho.2⟩⟩)
  obtain ⟨e1, e2, e3, e4, e5, e6, e7⟩ := p6 h1
  obtain ⟨g0, g1, g2, g3, g4, g5, g6, g7⟩ := hv.2.2.2 h1
  have hvo : VOk vf c := fun k k0 k1 => by rw [e6 k k0 k1]; have := g7 k k0 (by omega); omega
  refine c_vr dX9_productAt_1 (c_X9_presentProduct1 hx hb.1.1 p1 (by omega)) rfl rfl mq_X9_presentProduct ml_X9_300 ⟨Nat.le_of_ble_eq_true rfl, Nat.le_of_ble_eq_true rfl⟩ hx rfl rfl rfl (Nat.le_of_ble_eq_true rfl) (r_iload_n dX9_productAt_4 (i := 1) rfl rfl (c_vr dX9_productAt_5 (c_X6_evaluate p1 p2 hvo (by omega) hz) rfl rfl mq_X6_evaluate ml_X9_326 ⟨Nat.le_of_ble_eq_true rfl, Nat.le_of_ble_eq_true rfl⟩ p1 rfl rfl rfl (Nat.le_of_ble_eq_true rfl) ?_))
  refine r_iret dX9_productAt_8 rfl rfl ?_
  refine Out.ok (by unfold kHas1; rw [if_neg (by omega)]) ?_ rfl
  rw [← sfx_mod, sfx_cong (h := vaF a) _ _ (fun k k0 k1 => e6 k k0 (by omega)), p5]
theorem c_X9_residue {q k : Int} (hx : S.1 x = some (xO x)) (hb : BnAt S (x + 1) F a) (hp : MP a) (hv : MV a) (hqr : RI q) (hk : RI k) (hm : 1 ≤ mc) (hm2 : 6 ≤ ms) : PC g yX9_residue cX9_residue (iX9_residue mc ms) [.ref x, vi q, vi k] S (Out ["java/lang/IndexOutOfBoundsException", "java/lang/IllegalStateException", "java/lang/IllegalArgumentException"] (kRes a q k) (vi (a (151 + k) % (pN a q : Int))) S (fun S' => S' = S)) := by
  have h0 := hp.1
  have hv1 := hv.1
  have hv2 := hv.2.1
  obtain ⟨fc, c, kd, st, ln, md, vf, pf, p1, p2, p3, p4, p5, p6⟩ := hb.2.2
  refine PC_of pnX9 rfl rfl rfl (Nat.le_of_ble_eq_true rfl) ?_
  refine r_bud (kc' := 1) (ks' := 6) hm hm2 ?_
  refine r_aload_n dX9_residue_0 (i := 0) rfl rfl (r_iload_n dX9_residue_1 (i := 1) rfl rfl ?_)
  by_cases hq : 0 ≤ q ∧ q ≤ a 0 - 1
  rotate_left
  · exact c_vx (E := "") dX9_residue_2 (c_X9_fieldAt0 (mc := 1) (ms := 6) hx hb.1.1 h0 hqr hq (by omega) (by omega)) rfl mq_X9_fieldAt ml_X9_109 ⟨Nat.le_of_ble_eq_true rfl, Nat.le_of_ble_eq_true rfl⟩ hx rfl rfl rfl (Nat.le_of_ble_eq_true rfl) (by show 1 ≤ 1; omega) (by show 6 ≤ 6; omega) (fun o S' ho => ⟨_, ho.1, Out.th 0 (by unfold kRes; rw [if_neg hq]; rfl) rfl ⟨rfl, ho.2⟩⟩)
  obtain ⟨r, y, ff, fc2, h2, y1, -, f1, f2, f3, hpa, hpr, hpp⟩ := fld_at hb hp hq
  refine c_vr dX9_residue_2 (c_X9_fieldAt1 hx hb.1.1 h2 h0 hqr hq y1) rfl rfl mq_X9_fieldAt ml_X9_109 ⟨Nat.le_of_ble_eq_true rfl, Nat.le_of_ble_eq_true rfl⟩ hx rfl rfl rfl (Nat.le_of_ble_eq_true rfl) (r_astore_n dX9_residue_5 (i := 3) rfl rfl (Nat.le_of_ble_eq_true rfl) (r_aload_n dX9_residue_6 (i := 0) rfl rfl ?_))
  by_cases h1 : a 139 = 1
  rotate_left
  · exact c_vx (E := "") dX9_residue_7 (c_X9_presentProduct0 (mc := 1) (ms := 6) hx hb.1.1 p1 (by have := hv.2.2.1; omega) (by omega) (by omega)) rfl mq_X9_presentProduct ml_X9_300 ⟨Nat.le_of_ble_eq_true rfl, Nat.le_of_ble_eq_true rfl⟩ hx rfl rfl rfl (Nat.le_of_ble_eq_true rfl) (by show 1 ≤ 1; omega) (by show 6 ≤ 6; omega) (fun o S' ho => ⟨_, ho.1, Out.th 1 (by unfold kRes; rw [if_pos hq, if_pos (by omega)]; rfl) rfl ⟨rfl, ho.2⟩⟩)
  obtain ⟨e1, e2, e3, e4, e5, e6, e7⟩ := p6 h1
  obtain ⟨g0, g1, g2, g3, g4, g5, g6, g7⟩ := hv.2.2.2 h1
  refine c_vr dX9_residue_7 (c_X9_presentProduct1 hx hb.1.1 p1 (by omega)) rfl rfl mq_X9_presentProduct ml_X9_300 ⟨Nat.le_of_ble_eq_true rfl, Nat.le_of_ble_eq_true rfl⟩ hx rfl rfl rfl (Nat.le_of_ble_eq_true rfl) (r_astore dX9_residue_10 rfl (Nat.le_of_ble_eq_true rfl) (r_aload dX9_residue_12 rfl (r_iload_n dX9_residue_14 (i := 2) rfl rfl (c_vr dX9_residue_15 (c_X6_hasCoefficient p1 (by omega) hk) rfl rfl mq_X6_hasCoefficient ml_X9_328 ⟨Nat.le_of_ble_eq_true rfl, Nat.le_of_ble_eq_true rfl⟩ p1 rfl rfl rfl (Nat.le_of_ble_eq_true rfl) ?_))))
  by_cases hc : 0 ≤ k ∧ k < c
  rotate_left
  · exact c_sx dX9_residue_18 (c_X9_require0 (mc := 1) (ms := 6) (b2i_f hc) (by omega) (by omega)) rfl mq_X9_require ml_X9_70 ⟨Nat.le_of_ble_eq_true rfl, Nat.le_of_ble_eq_true rfl⟩ rfl rfl (Nat.le_of_ble_eq_true rfl) (by show 1 ≤ 1; omega) (by show 6 ≤ 6; omega) (fun o S' ho => ⟨_, ho.1, Out.th 2 (by unfold kRes; rw [if_pos hq, if_neg (by omega), if_neg (by omega)]; rfl) rfl ⟨rfl, ho.2⟩⟩)
  have hgk := g7 k hc.1 (by omega)
  have hek := e6 k hc.1 hc.2
  refine c_sn dX9_residue_18 (c_X9_require1 (by rw [b2i_t hc]; decide) b2i_RI) rfl rfl mq_X9_require ml_X9_70 ⟨Nat.le_of_ble_eq_true rfl, Nat.le_of_ble_eq_true rfl⟩ rfl rfl (Nat.le_of_ble_eq_true rfl) (r_aload_n dX9_residue_21 (i := 3) rfl rfl (r_aload dX9_residue_22 rfl (r_get dX9_residue_24 fl_X9_314 p1 rfl (r_iload_n dX9_residue_27 (i := 2) rfl rfl ?_))))
  refine r_lald dX9_residue_28 p2 (by omega) (by omega) (by omega) (c_vr dX9_residue_29 (c_X1_residueOf f1 hpr (by omega)) rfl rfl mq_X1_residueOf ml_X9_138 ⟨Nat.le_of_ble_eq_true rfl, Nat.le_of_ble_eq_true rfl⟩ f1 rfl rfl rfl (Nat.le_of_ble_eq_true rfl) ?_)
  refine r_iret dX9_residue_32 rfl rfl ?_
  exact Out.ok (by unfold kRes; rw [if_pos hq, if_neg (by omega), if_pos (by omega)]) (by rw [hek]) rfl
theorem l_agr {s t : Nat} {f1 f2 vf : Int → Int} {fc ca cb st ln md kd c s0 t0 : Int} {kc ks : Nat} {Q : PO → PS → Prop} (s1 : SeqAt S s ca f1) (s2 : SeqAt S t cb f2) (l1 : 0 ≤ ca ∧ ca ≤ 32) (l2 : 0 ≤ cb ∧ cb ≤ 32) (o1 : TermsOk ca f1) (o2 : TermsOk cb f2) (p1 : S.1 (x + 1 + 3) = some (pO (x + 1) fc c kd st ln md)) (p2 : S.1 (x + 1 + 4) = some (cJ 64 vf)) (hkd : 0 ≤ kd ∧ kd ≤ 2) (hc : 1 ≤ c ∧ c ≤ 64) (hw : kd = 0 ∨ (ca ≤ c ∧ cb ≤ c)) (hvo : ∀ k : Int, 0 ≤ k → k < c → RJ (vf k)) {ag : Nat → Int} (ha0 : ag 0 = 0) (has : ∀ k : Nat, (k : Int) < c → ag (k + 1) = ag k + b2i (vf k = cfI kd c k f1 f2 cb.toNat ca.toNat)) (hcr : ∀ k : Int, 0 ≤ k → k < c → RJ (cfI kd c k f1 f2 cb.toNat ca.toNat)) (hq : Q (.inl (some (vi (ag c.toNat)))) S) : ∀ (r k : Nat), (k : Int) + r = c →
    PW g cX9_agreeing (iX9_agreeing mc ms) 61 [(0, some (.ref x)), (1, some (vi s0)), (2, some (vi t0)), (3, some (.ref (x + 1 + 3))), (4, some (.ref s)), (5, some (.ref t)), (6, some (vi (ag k))), (7, some (vi (k : Int)))] [] S kc ks Q := by
  intro r
  induction r with
  | zero =>
    intro k hk
    refine r_iload dX9_agreeing_61 rfl (r_aload_n dX9_agreeing_63 (i := 3) rfl rfl (r_get dX9_agreeing_64 fl_X9_304 p1 rfl ?_))
    refine r_icmp_ge 107 dX9_agreeing_67 (by decide) (by omega) (by omega) (fun c1 => ?_) (fun c1 => ?_)
    · refine r_iload dX9_agreeing_107 rfl ?_
      refine r_iret dX9_agreeing_109 rfl rfl ?_
      rw [show k = c.toNat by omega]
      exact hq
    · omega
  | succ r ih =>
    intro k hk
    have h1 := hvo k (by omega) (by omega)
    have h2 := hcr k (by omega) (by omega)
    have h3 := has k (by omega)
    refine r_iload dX9_agreeing_61 rfl (r_aload_n dX9_agreeing_63 (i := 3) rfl rfl (r_get dX9_agreeing_64 fl_X9_304 p1 rfl ?_))
    refine r_icmp_ge 107 dX9_agreeing_67 (by decide) (by omega) (by omega) (fun c1 => ?_) (fun c1 => ?_)
    · omega
    · refine r_aload_n dX9_agreeing_70 (i := 3) rfl rfl (r_get dX9_agreeing_71 fl_X9_314 p1 rfl (r_iload dX9_agreeing_74 rfl (r_lald dX9_agreeing_76 p2 (by omega) (by omega) (by omega) (r_aload_n dX9_agreeing_77 (i := 3) rfl rfl ?_))))
      refine r_get dX9_agreeing_78 fl_X9_306 p1 rfl (r_aload dX9_agreeing_81 rfl (r_aload dX9_agreeing_83 rfl (r_aload_n dX9_agreeing_85 (i := 3) rfl rfl (r_get dX9_agreeing_86 fl_X9_304 p1 rfl ?_))))
      refine r_iload dX9_agreeing_89 rfl (c_sr dX9_agreeing_91 (c_X9_coefficientOf s1 s2 l1 l2 o1 o2 hkd hc ⟨by omega, by omega⟩ hw) rfl rfl mq_X9_coefficientOf ml_X9_254 ⟨Nat.le_of_ble_eq_true rfl, Nat.le_of_ble_eq_true rfl⟩ rfl rfl (Nat.le_of_ble_eq_true rfl) ?_)
      refine r_lcmp_ne 101 dX9_agreeing_94 dX9_agreeing_95 (by decide) (by omega) (by omega) (fun c2 => ?_) (fun c2 => ?_)
      · refine r_iinc dX9_agreeing_101 rfl rfl (r_goto 61 dX9_agreeing_104 (by decide) ?_)
        first
          | rw [b2i_t (by assumption)] at h3
          | rw [b2i_f (by assumption)] at h3
        exact r_loc [(0, some (.ref x)), (1, some (vi s0)), (2, some (vi t0)), (3, some (.ref (x + 1 + 3))), (4, some (.ref s)), (5, some (.ref t)), (6, some (vi (ag (k + 1)))), (7, some (vi ((k + 1 : Nat) : Int)))] ⟨Or.inl rfl, Or.inl rfl, Or.inl rfl, Or.inl rfl, Or.inl rfl, Or.inl rfl, Or.inl (lvi_eq (by omega)), Or.inl rfl, trivial⟩ (ih (k + 1) (by omega))
      · refine r_iinc dX9_agreeing_98 rfl rfl (r_iinc dX9_agreeing_101 rfl rfl (r_goto 61 dX9_agreeing_104 (by decide) ?_))
        first
          | rw [b2i_t (by assumption)] at h3
          | rw [b2i_f (by assumption)] at h3
        exact r_loc [(0, some (.ref x)), (1, some (vi s0)), (2, some (vi t0)), (3, some (.ref (x + 1 + 3))), (4, some (.ref s)), (5, some (.ref t)), (6, some (vi (ag (k + 1)))), (7, some (vi ((k + 1 : Nat) : Int)))] ⟨Or.inl rfl, Or.inl rfl, Or.inl rfl, Or.inl rfl, Or.inl rfl, Or.inl rfl, Or.inl (lvi_eq (by omega)), Or.inl rfl, trivial⟩ (ih (k + 1) (by omega))
theorem c_X9_agreeing {s t : Int} (hx : S.1 x = some (xO x)) (hb : BnAt S (x + 1) F a) (hl : ML a) (hv : MV a) (hs : RI s) (ht : RI t) (hm : 1 ≤ mc) (hm2 : 6 ≤ ms) : PC g yX9_agreeing cX9_agreeing (iX9_agreeing mc ms) [.ref x, vi s, vi t] S (Out ["java/lang/IndexOutOfBoundsException", "java/lang/IllegalStateException"] (kAgree a s t) (vi (vAgree a s t)) S (fun S' => S' = S)) := by
  have hv1 := hv.1
  have hv2 := hv.2.1
  have hq := hb.2.1
  have hlb := lacksI_bd a s t
  obtain ⟨w, w1, w2, w3, w4⟩ := hb.2.1
  obtain ⟨fc, c, kd, st, ln, md, vf, pf, p1, p2, p3, p4, p5, p6⟩ := hb.2.2
  refine PC_of pnX9 rfl rfl rfl (Nat.le_of_ble_eq_true rfl) ?_
  refine r_bud (kc' := 1) (ks' := 6) hm hm2 ?_
  refine r_aload_n dX9_agreeing_0 (i := 0) rfl rfl (r_iload_n dX9_agreeing_1 (i := 1) rfl rfl ?_)
  by_cases hs4 : 0 ≤ s ∧ s ≤ 3
  rotate_left
  · exact c_vx (E := "") dX9_agreeing_2 (c_X9_requireSlot0 (mc := 1) (ms := 6) hs hs4 (by omega) (by omega)) rfl mq_X9_requireSlot ml_X9_219 ⟨Nat.le_of_ble_eq_true rfl, Nat.le_of_ble_eq_true rfl⟩ hx rfl rfl rfl (Nat.le_of_ble_eq_true rfl) (by show 1 ≤ 1; omega) (by show 6 ≤ 6; omega) (fun o S' ho => ⟨_, ho.1, Out.th 0 (by unfold kAgree; rw [if_pos (lacks_1.mpr (by omega))]; rfl) rfl ⟨rfl, ho.2⟩⟩)
  refine c_vn dX9_agreeing_2 (c_X9_requireSlot1 hs hs4) rfl rfl mq_X9_requireSlot ml_X9_219 ⟨Nat.le_of_ble_eq_true rfl, Nat.le_of_ble_eq_true rfl⟩ hx rfl rfl rfl (Nat.le_of_ble_eq_true rfl) (r_aload_n dX9_agreeing_5 (i := 0) rfl rfl (r_iload_n dX9_agreeing_6 (i := 2) rfl rfl ?_))
  by_cases ht4 : 0 ≤ t ∧ t ≤ 3
  rotate_left
  · exact c_vx (E := "") dX9_agreeing_7 (c_X9_requireSlot0 (mc := 1) (ms := 6) ht ht4 (by omega) (by omega)) rfl mq_X9_requireSlot ml_X9_219 ⟨Nat.le_of_ble_eq_true rfl, Nat.le_of_ble_eq_true rfl⟩ hx rfl rfl rfl (Nat.le_of_ble_eq_true rfl) (by show 1 ≤ 1; omega) (by show 6 ≤ 6; omega) (fun o S' ho => ⟨_, ho.1, Out.th 0 (by unfold kAgree; rw [if_pos (lacks_1.mpr (by omega))]; rfl) rfl ⟨rfl, ho.2⟩⟩)
  have n1 : lacksI a s t ≠ 1 := fun z => lacks_1.mp z ⟨hs4, ht4⟩
  refine c_vn dX9_agreeing_7 (c_X9_requireSlot1 ht ht4) rfl rfl mq_X9_requireSlot ml_X9_219 ⟨Nat.le_of_ble_eq_true rfl, Nat.le_of_ble_eq_true rfl⟩ hx rfl rfl rfl (Nat.le_of_ble_eq_true rfl) (r_aload_n dX9_agreeing_10 (i := 0) rfl rfl ?_)
  by_cases h1 : a 139 = 1
  rotate_left
  · exact c_vx (E := "") dX9_agreeing_11 (c_X9_presentProduct0 (mc := 1) (ms := 6) hx hb.1.1 p1 (by have := hv.2.2.1; omega) (by omega) (by omega)) rfl mq_X9_presentProduct ml_X9_300 ⟨Nat.le_of_ble_eq_true rfl, Nat.le_of_ble_eq_true rfl⟩ hx rfl rfl rfl (Nat.le_of_ble_eq_true rfl) (by show 1 ≤ 1; omega) (by show 6 ≤ 6; omega) (fun o S' ho => ⟨_, ho.1, Out.th 1 (by unfold kAgree; rw [if_neg n1, if_pos (by omega)]; rfl) rfl ⟨rfl, ho.2⟩⟩)
  obtain ⟨e1, e2, e3, e4, e5, e6, e7⟩ := p6 h1
  obtain ⟨g0, g1, g2, g3, g4, g5, g6, g7⟩ := hv.2.2.2 h1
  refine c_vr dX9_agreeing_11 (c_X9_presentProduct1 hx hb.1.1 p1 (by omega)) rfl rfl mq_X9_presentProduct ml_X9_300 ⟨Nat.le_of_ble_eq_true rfl, Nat.le_of_ble_eq_true rfl⟩ hx rfl rfl rfl (Nat.le_of_ble_eq_true rfl) (r_astore_n dX9_agreeing_14 (i := 3) rfl rfl (Nat.le_of_ble_eq_true rfl) (r_aload_n dX9_agreeing_15 (i := 0) rfl rfl (r_iload_n dX9_agreeing_16 (i := 1) rfl rfl (r_iload_n dX9_agreeing_17 (i := 2) rfl rfl ?_))))
  by_cases n2 : lacksI a s t ≠ 2
  rotate_left
  · exact c_vx (E := "") dX9_agreeing_18 (c_X9_requireTerms2 (mc := 1) (ms := 6) hx hb.1.1 hq hl hs ht (by omega) (by omega) (by omega)) rfl mq_X9_requireTerms ml_X9_243 ⟨Nat.le_of_ble_eq_true rfl, Nat.le_of_ble_eq_true rfl⟩ hx rfl rfl rfl (Nat.le_of_ble_eq_true rfl) (by show 1 ≤ 1; omega) (by show 6 ≤ 6; omega) (fun o S' ho => ⟨_, ho.1, Out.th 1 (by unfold kAgree; rw [if_neg n1, if_pos (by omega)]; rfl) rfl ⟨rfl, ho.2⟩⟩)
  have n0 : lacksI a s t = 0 := by omega
  obtain ⟨-, ns, nt⟩ := lacks_0.mp n0
  obtain ⟨f1, s1, l1, o1, t1⟩ := two_sq (s := s) (t := t) hl w4 hs4
  obtain ⟨f2, s2, l2, o2, t2⟩ := two_sq (s := t) (t := t) hl w4 ht4
  refine c_vn dX9_agreeing_18 (c_X9_requireTerms1 hx hb.1.1 hq hl hs ht n0) rfl rfl mq_X9_requireTerms ml_X9_243 ⟨Nat.le_of_ble_eq_true rfl, Nat.le_of_ble_eq_true rfl⟩ hx rfl rfl rfl (Nat.le_of_ble_eq_true rfl) (r_aload_n dX9_agreeing_21 (i := 0) rfl rfl (r_iload_n dX9_agreeing_22 (i := 1) rfl rfl (c_vr dX9_agreeing_23 (c_X9_sequenceAt1 hx hb.1.1 w3 hs hs4) rfl rfl mq_X9_sequenceAt ml_X9_177 ⟨Nat.le_of_ble_eq_true rfl, Nat.le_of_ble_eq_true rfl⟩ hx rfl rfl rfl (Nat.le_of_ble_eq_true rfl) (r_astore dX9_agreeing_26 rfl (Nat.le_of_ble_eq_true rfl) ?_))))
  refine r_aload_n dX9_agreeing_28 (i := 0) rfl rfl (r_iload_n dX9_agreeing_29 (i := 2) rfl rfl (c_vr dX9_agreeing_30 (c_X9_sequenceAt1 hx hb.1.1 w3 ht ht4) rfl rfl mq_X9_sequenceAt ml_X9_177 ⟨Nat.le_of_ble_eq_true rfl, Nat.le_of_ble_eq_true rfl⟩ hx rfl rfl rfl (Nat.le_of_ble_eq_true rfl) (r_astore dX9_agreeing_33 rfl (Nat.le_of_ble_eq_true rfl) (r_aload_n dX9_agreeing_35 (i := 3) rfl rfl ?_))))
  refine r_get dX9_agreeing_36 fl_X9_306 p1 rfl (r_aload dX9_agreeing_39 rfl (r_aload dX9_agreeing_41 rfl (r_aload_n dX9_agreeing_43 (i := 3) rfl rfl (r_get dX9_agreeing_44 fl_X9_304 p1 rfl ?_))))
  refine c_sr dX9_agreeing_47 (c_X9_isSizeOf s1 s2 l1 l2 (by omega) (by omega)) rfl rfl mq_X9_isSizeOf ml_X9_331 ⟨Nat.le_of_ble_eq_true rfl, Nat.le_of_ble_eq_true rfl⟩ rfl rfl (Nat.le_of_ble_eq_true rfl) ?_
  refine r_if_ne 55 dX9_agreeing_50 (by decide) b2i_RI (fun c1 => ?_) (fun c1 => ?_)
  · replace c1 := b2i_ne c1
    refine r_iconst dX9_agreeing_55 (r_istore dX9_agreeing_56 rfl (Nat.le_of_ble_eq_true rfl) (r_iconst dX9_agreeing_58 (r_istore dX9_agreeing_59 rfl (Nat.le_of_ble_eq_true rfl) ?_)))
    have e9 : (if kd = 0 then c = a (7 + s) + a (7 + t) - 1 else a (7 + s) ≤ c ∧ a (7 + t) ≤ c) := by assumption
    have hw9 : kd = 0 ∨ (a (7 + s) ≤ c ∧ a (7 + t) ≤ c) := by
      split at e9
      · exact Or.inl (by assumption)
      · exact Or.inr e9
    have hcf : ∀ k : Int, cfI kd c k f1 f2 (a (7 + t)).toNat (a (7 + s)).toNat = cfI (a 140) (a 143) k (tmF a s) (tmF a t) (a (7 + t)).toNat (a (7 + s)).toNat := fun k => by
      rw [cfI_cong t2 _ t1, e2, p5]
    refine r_loc [(0, some (.ref x)), (1, some (vi s)), (2, some (vi t)), (3, some (.ref (x + 1 + 3))), (4, some (.ref (x + 1 + 6 + 2 * w s))), (5, some (.ref (x + 1 + 6 + 2 * w t))), (6, some (vi (agI a s t (0 : Nat)))), (7, some (vi ((0 : Nat) : Int)))] ⟨Or.inl rfl, Or.inl rfl, Or.inl rfl, Or.inl rfl, Or.inl rfl, Or.inl rfl, Or.inl rfl, Or.inl rfl, trivial⟩ ?_
    refine l_agr (ag := agI a s t) s1 s2 l1 l2 o1 o2 p1 p2 (by omega) (by omega) hw9 (fun k k0 k1 => ?_) rfl (fun k hk => ?_) (fun k k0 k1 => ?_) ?_ c.toNat 0 (by omega)
    · have := g7 k k0 (by omega)
      rw [e6 k k0 k1]
      omega
    · rw [hcf, e6 (k : Int) (by omega) hk]
      show agI a s t k + _ = _
      congr 1
      exact b2i_iff eq_comm
    · have := cfI_bd (kd := kd) (n := c) (k := k) (f := f1) (h := f2) (lb := (a (7 + t)).toNat) (by omega) (fun q9 z0 z1 => o2 q9 z0 (by omega)) (a (7 + s)).toNat (fun q9 z0 z1 => o1 q9 z0 (by omega))
      omega
    · refine Out.ok (by unfold kAgree; rw [if_neg n1, if_neg (by omega)]) ?_ rfl
      unfold vAgree
      have hkz : kindOk a (a 140) s t (a 143) ∧ sizI a (a 140) s t (a 143) = a 143 := by
        refine ⟨?_, ?_⟩
        · rcases hw9 with z | z
          · exact Or.inl (by omega)
          · by_cases z0 : kd = 0
            · exact Or.inl (by omega)
            · exact Or.inr (by omega)
        · unfold sizI
          split at e9
          · rw [if_pos (by omega)]
            omega
          · rw [if_neg (by omega)]
      rw [b2c_t hkz, if_pos rfl, p5]
  · replace c1 := b2i_eq c1
    refine r_iconst dX9_agreeing_53 ?_
    refine r_iret dX9_agreeing_54 rfl rfl ?_
    refine Out.ok (by unfold kAgree; rw [if_neg n1, if_neg (by omega)]) ?_ rfl
    unfold vAgree
    rw [b2c_f (fun z => ?_)]
    · rfl
    · have z1 := z.1
      have z2 := z.2
      unfold sizI at z2
      have e9 : ¬ (if kd = 0 then c = a (7 + s) + a (7 + t) - 1 else a (7 + s) ≤ c ∧ a (7 + t) ≤ c) := by assumption
      rcases z1 with z1 | z1
      · rw [if_pos z1] at z2
        rw [if_pos (by omega)] at e9
        omega
      · rw [if_neg (by omega)] at e9
        omega
end FACE6

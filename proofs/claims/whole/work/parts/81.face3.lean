/-! the class's face: usable, longest -/
section FACE3
variable {g : GT} {S : PS} {mc ms : Nat} {x F : Nat} {a : Int → Int}
theorem c_X9_longest {set : Int} (hx : S.1 x = some (xO x)) (hb : BnAt S (x + 1) F a) (hp : MP a) (hs : RI set) (hm : 1 ≤ mc) (hm2 : 6 ≤ ms) : PC g yX9_longest cX9_longest (iX9_longest mc ms) [.ref x, vi set] S (Out ["java/lang/IndexOutOfBoundsException"] (kSet a set) (vi (lgS a set 64)) S (fun S' => S' = S)) := by
  have h0 := hp.1
  have h1 := hb.1.1
  by_cases h : 0 ≤ set ∧ set ≤ 2 ^ (a 0).toNat - 1
  · refine PC_of pnX9 rfl rfl rfl (Nat.le_of_ble_eq_true rfl) ?_
    refine r_aload_n dX9_longest_0 (i := 0) rfl rfl (r_iload_n dX9_longest_1 (i := 1) rfl rfl (c_vn dX9_longest_2 (c_X9_requireSet1 hx h1 h0 hs h) rfl rfl mq_X9_requireSet ml_X9_237 ⟨Nat.le_of_ble_eq_true rfl, Nat.le_of_ble_eq_true rfl⟩ hx rfl rfl rfl (Nat.le_of_ble_eq_true rfl) (r_aload_n dX9_longest_5 (i := 0) rfl rfl (r_get dX9_longest_6 fl_X9_10 hx rfl ?_))))
    refine r_iload_n dX9_longest_9 (i := 1) rfl rfl (c_vr dX9_longest_10 (c_X0_longestTransform hb.1.pr hp h) rfl rfl mq_X0_longestTransform ml_X9_240 ⟨Nat.le_of_ble_eq_true rfl, Nat.le_of_ble_eq_true rfl⟩ h1 rfl rfl rfl (Nat.le_of_ble_eq_true rfl) (r_iret dX9_longest_13 rfl rfl ?_))
    exact Out.ok (by unfold kSet; rw [if_pos h]) rfl rfl
  · refine PC.mono (Q' := Th "java/lang/IndexOutOfBoundsException" S) (fun o S' ho => Out.th 0 (by unfold kSet; rw [if_neg h]; rfl) rfl ho) ?_
    refine PC_of pnX9 rfl rfl rfl (Nat.le_of_ble_eq_true rfl) ?_
    refine r_bud (kc' := 1) (ks' := 6) hm hm2 ?_
    refine r_aload_n dX9_longest_0 (i := 0) rfl rfl (r_iload_n dX9_longest_1 (i := 1) rfl rfl ?_)
    exact c_vx (E := "") dX9_longest_2 (c_X9_requireSet0 (mc := 1) (ms := 6) hx h1 h0 hs h (by omega) (by omega)) rfl mq_X9_requireSet ml_X9_237 ⟨Nat.le_of_ble_eq_true rfl, Nat.le_of_ble_eq_true rfl⟩ hx rfl rfl rfl (Nat.le_of_ble_eq_true rfl) (by show 1 ≤ 1; omega) (by show 6 ≤ 6; omega) (fun o S' ho => ⟨_, ho.1, rfl, ho.2⟩)
theorem c_X9_usable {kd n : Int} (hx : S.1 x = some (xO x)) (hb : BnAt S (x + 1) F a) (hp : MP a) (hk : RI kd) (hn : RI n) (hm : 1 ≤ mc) (hm2 : 6 ≤ ms) : PC g yX9_usable cX9_usable (iX9_usable mc ms) [.ref x, vi kd, vi n] S (Out ["java/lang/IllegalArgumentException"] (kUsable kd n) (vi (usI a (if kd = 2 then 2 * n else n) (a 0).toNat)) S (fun S' => S' = S)) := by
  have h1 := hb.1.1
  by_cases h : (0 ≤ kd ∧ kd ≤ 2) ∧ 1 ≤ n ∧ n ≤ 64
  · refine PC_of pnX9 rfl rfl rfl (Nat.le_of_ble_eq_true rfl) ?_
    refine r_iload_n dX9_usable_0 (i := 1) rfl rfl (c_sr dX9_usable_1 (c_X9_isKind hk) rfl rfl mq_X9_isKind ml_X9_168 ⟨Nat.le_of_ble_eq_true rfl, Nat.le_of_ble_eq_true rfl⟩ rfl rfl (Nat.le_of_ble_eq_true rfl) ?_)
    refine r_if_eq 18 dX9_usable_4 (by decide) b2i_RI (fun c1 => ?_) (fun c1 => ?_)
    · replace c1 := b2i_eq c1
      omega
    · replace c1 := b2i_ne c1
      refine r_iload_n dX9_usable_7 (i := 2) rfl rfl (c_sr dX9_usable_8 (c_X9_isLength hn) rfl rfl mq_X9_isLength ml_X9_171 ⟨Nat.le_of_ble_eq_true rfl, Nat.le_of_ble_eq_true rfl⟩ rfl rfl (Nat.le_of_ble_eq_true rfl) ?_)
      refine r_if_eq 18 dX9_usable_11 (by decide) b2i_RI (fun c2 => ?_) (fun c2 => ?_)
      · replace c2 := b2i_eq c2
        omega
      · replace c2 := b2i_ne c2
        refine r_iconst dX9_usable_14 (r_goto 19 dX9_usable_15 (by decide) (c_sn dX9_usable_19 (c_X9_require1 (by decide) ⟨by omega, by omega⟩) rfl rfl mq_X9_require ml_X9_70 ⟨Nat.le_of_ble_eq_true rfl, Nat.le_of_ble_eq_true rfl⟩ rfl rfl (Nat.le_of_ble_eq_true rfl) (r_aload_n dX9_usable_22 (i := 0) rfl rfl (r_get dX9_usable_23 fl_X9_10 hx rfl ?_))))
        refine r_iload_n dX9_usable_26 (i := 1) rfl rfl (r_iload_n dX9_usable_27 (i := 2) rfl rfl (c_vr dX9_usable_28 (c_X0_usableFields hb.1.pr hp hk h.2) rfl rfl mq_X0_usableFields ml_X9_174 ⟨Nat.le_of_ble_eq_true rfl, Nat.le_of_ble_eq_true rfl⟩ h1 rfl rfl rfl (Nat.le_of_ble_eq_true rfl) ?_))
        refine r_iret dX9_usable_31 rfl rfl ?_
        exact Out.ok (by unfold kUsable; rw [if_pos h]) rfl rfl
  · refine PC.mono (Q' := Th "java/lang/IllegalArgumentException" S) (fun o S' ho => Out.th 0 (by unfold kUsable; rw [if_neg h]; rfl) rfl ho) ?_
    refine PC_of pnX9 rfl rfl rfl (Nat.le_of_ble_eq_true rfl) ?_
    refine r_bud (kc' := 1) (ks' := 6) hm hm2 ?_
    refine r_iload_n dX9_usable_0 (i := 1) rfl rfl (c_sr dX9_usable_1 (c_X9_isKind hk) rfl rfl mq_X9_isKind ml_X9_168 ⟨Nat.le_of_ble_eq_true rfl, Nat.le_of_ble_eq_true rfl⟩ rfl rfl (Nat.le_of_ble_eq_true rfl) ?_)
    refine r_if_eq 18 dX9_usable_4 (by decide) b2i_RI (fun c1 => ?_) (fun c1 => ?_)
    · replace c1 := b2i_eq c1
      refine r_iconst dX9_usable_18 ?_
      exact c_sx dX9_usable_19 (c_X9_require0 (mc := 1) (ms := 6) rfl (by omega) (by omega)) rfl mq_X9_require ml_X9_70 ⟨Nat.le_of_ble_eq_true rfl, Nat.le_of_ble_eq_true rfl⟩ rfl rfl (Nat.le_of_ble_eq_true rfl) (by show 1 ≤ 1; omega) (by show 6 ≤ 6; omega) (fun o S' ho => ⟨_, ho.1, rfl, ho.2⟩)
    · replace c1 := b2i_ne c1
      refine r_iload_n dX9_usable_7 (i := 2) rfl rfl (c_sr dX9_usable_8 (c_X9_isLength hn) rfl rfl mq_X9_isLength ml_X9_171 ⟨Nat.le_of_ble_eq_true rfl, Nat.le_of_ble_eq_true rfl⟩ rfl rfl (Nat.le_of_ble_eq_true rfl) ?_)
      refine r_if_eq 18 dX9_usable_11 (by decide) b2i_RI (fun c2 => ?_) (fun c2 => ?_)
      · replace c2 := b2i_eq c2
        refine r_iconst dX9_usable_18 ?_
        exact c_sx dX9_usable_19 (c_X9_require0 (mc := 1) (ms := 6) rfl (by omega) (by omega)) rfl mq_X9_require ml_X9_70 ⟨Nat.le_of_ble_eq_true rfl, Nat.le_of_ble_eq_true rfl⟩ rfl rfl (Nat.le_of_ble_eq_true rfl) (by show 1 ≤ 1; omega) (by show 6 ≤ 6; omega) (fun o S' ho => ⟨_, ho.1, rfl, ho.2⟩)
      · replace c2 := b2i_ne c2
        omega
end FACE3

/-! the class's face: usable, longest -/
section FACE3
variable {g : GT} {S : PS} {mc ms : Nat} {x F : Nat} {a : Int → Int}
theorem c_X9_longest {set : Int} (hx : S.1 x = some (xO x)) (hb : BnAt S (x + 1) F a) (hp : MP a) (hs : RI set) (hm : 1 ≤ mc) (hm2 : 6 ≤ ms) : PC g yX9_longest cX9_longest (iX9_longest mc ms) [.ref x, vi set] S (Out ["java/lang/IndexOutOfBoundsException"] (kSet a set) (vi (lgS a set 64)) S (fun S' => S' = S)) := by
  have h0 := hp.1
  have h1 := hb.1.1
  by_cases h : 0 ≤ set ∧ set ≤ 2 ^ (a 0).toNat - 1
  · refine PC_of pnX9 rfl rfl rfl (Nat.le_of_ble_eq_true rfl) ?_
    refine r_aload_n dX9_longest_0 (i := 0) rfl rfl (r_iload_n dX9_longest_1 (i := 1) rfl rfl (c_vn dX9_longest_2 (c_X9_requireSet1 hx h1 h0 hs h) rfl rfl mq_X9_requireSet ml_X9_237 ⟨Nat.le_of_ble_eq_true rfl, Nat.le_of_ble_eq_true rfl⟩ hx rfl rfl rfl (Nat.le_of_ble_eq_true rfl) (r_aload_n dX9_longest_5 (i := 0) rfl rfl (r_get dX9_longest_6 fl_X9_10 hx rfl ?_))))
    refine r_iload_n dX9_longest_9 (i := 1) rfl rfl (c_vr dX9_longest_10 (c_X0_longestTransform hb.1.pr hp h) rfl rfl mq_X0_longestTransform ml_X9_240 ⟨Nat.le_of_ble_eq_true rfl, Nat.le_of_ble_eq_true rfl⟩ h1 rfl rfl rfl (Nat.le_of_ble_eq_true rfl) (r_iret dX9_longest_13 rfl rfl ?_))
    exact Out.ok (by unfold kSet; rw [if_pos h]) rfl rfl
  · refine PC.mono (Q' := Th "java/lang/IndexOutOfBoundsException" S) (fun o S' ho => Out.th 0 (by unfold kSet; rw [if_neg h]; rfl) rfl ho) ?_
    refine PC_of pnX9 rfl rfl rfl (Nat.le_of_ble_eq_true rfl) ?_
    refine r_bud (kc' := 1) (ks' := 6) hm hm2 ?_
    refine r_aload_n dX9_longest_0 (i := 0) rfl rfl (r_iload_n dX9_longest_1 (i := 1) rfl rfl ?_)
    exact c_vx (E := "") dX9_longest_2 (c_X9_requireSet0 (mc := 1) (ms := 6) hx h1 h0 hs h (by omega) (by omega)) rfl mq_X9_requireSet ml_X9_237 ⟨Nat.le_of_ble_eq_true rfl, Nat.le_of_ble_eq_true rfl⟩ hx rfl rfl rfl (Nat.le_of_ble_eq_true rfl) (by show 1 ≤ 1; omega) (by show 6 ≤ 6; omega) (fun o S' ho => ⟨_, ho.1, rfl, ho.2⟩)
end FACE3

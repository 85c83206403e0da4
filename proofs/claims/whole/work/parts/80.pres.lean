/-! the class: presentProduct, requireCoefficient, isSizeOf -/
section PRES
variable {g : GT} {S : PS} {mc ms : Nat} {x b F : Nat} {a : Int → Int} {fc c kd st ln md : Int}
theorem c_X9_presentProduct1 (hx : S.1 x = some (xO x)) (hb : S.1 (x + 1) = some (bO (x + 1) (a 0))) (hp : S.1 (x + 1 + 3) = some (pO (x + 1) fc c kd st ln md)) (hc : 0 < c ∧ c ≤ 64) : PC g yX9_presentProduct cX9_presentProduct (iX9_presentProduct mc ms) [.ref x] S (Rt (some (.ref (x + 1 + 3))) S) := by
  refine PC_of pnX9 rfl rfl rfl (Nat.le_of_ble_eq_true rfl) ?_
  refine r_aload_n dX9_presentProduct_0 (i := 0) rfl rfl (r_get dX9_presentProduct_1 fl_X9_10 hx rfl (r_get dX9_presentProduct_4 fl_X9_283 hb rfl (c_vr dX9_presentProduct_7 (c_X6_isPresent hp (by omega)) rfl rfl mq_X6_isPresent ml_X9_372 ⟨Nat.le_of_ble_eq_true rfl, Nat.le_of_ble_eq_true rfl⟩ hp rfl rfl rfl (Nat.le_of_ble_eq_true rfl) ?_)))
  refine r_if_ne 24 dX9_presentProduct_10 (by decide) b2i_RI (fun c1 => ?_) (fun c1 => ?_)
  · replace c1 := b2i_ne c1
    refine r_aload_n dX9_presentProduct_24 (i := 0) rfl rfl (r_get dX9_presentProduct_25 fl_X9_10 hx rfl (r_get dX9_presentProduct_28 fl_X9_283 hb rfl ?_))
    refine r_aret dX9_presentProduct_31 rfl ?_
    first | omega | exact ⟨rfl, rfl⟩ | exact ⟨by rw [b2i_t (by omega)], rfl⟩ | exact ⟨by rw [b2i_f (by omega)], rfl⟩
  · replace c1 := b2i_eq c1
    omega
theorem c_X9_presentProduct0 (hx : S.1 x = some (xO x)) (hb : S.1 (x + 1) = some (bO (x + 1) (a 0))) (hp : S.1 (x + 1 + 3) = some (pO (x + 1) fc c kd st ln md)) (hc : c = 0) (hm : 1 ≤ mc) (hm2 : 6 ≤ ms) : PC g yX9_presentProduct cX9_presentProduct (iX9_presentProduct mc ms) [.ref x] S (Th "java/lang/IllegalStateException" S) := by
  refine PC_of pnX9 rfl rfl rfl (Nat.le_of_ble_eq_true rfl) ?_
  refine r_bud (kc' := 1) (ks' := 6) hm hm2 ?_
  refine r_aload_n dX9_presentProduct_0 (i := 0) rfl rfl (r_get dX9_presentProduct_1 fl_X9_10 hx rfl (r_get dX9_presentProduct_4 fl_X9_283 hb rfl (c_vr dX9_presentProduct_7 (c_X6_isPresent hp (by omega)) rfl rfl mq_X6_isPresent ml_X9_372 ⟨Nat.le_of_ble_eq_true rfl, Nat.le_of_ble_eq_true rfl⟩ hp rfl rfl rfl (Nat.le_of_ble_eq_true rfl) ?_)))
  refine r_if_ne 24 dX9_presentProduct_10 (by decide) b2i_RI (fun c1 => ?_) (fun c1 => ?_)
  · replace c1 := b2i_ne c1
    refine r_aload_n dX9_presentProduct_24 (i := 0) rfl rfl (r_get dX9_presentProduct_25 fl_X9_10 hx rfl (r_get dX9_presentProduct_28 fl_X9_283 hb rfl ?_))
    refine r_aret dX9_presentProduct_31 rfl ?_
    omega
  · replace c1 := b2i_eq c1
    refine r_throwSW th_state (List.mem_of_getElem? (i := 13) rfl) rfl dX9_presentProduct_13 dX9_presentProduct_16 dX9_presentProduct_17 dX9_presentProduct_20 dX9_presentProduct_23 (Nat.le_of_ble_eq_true rfl) (Nat.le_of_ble_eq_true rfl) (by omega) (by omega) (fun z hz => ?_)
    exact ⟨rfl, rfl, hz⟩
theorem c_X9_requireCoefficient1 {k : Int} (hp : S.1 (b + 3) = some (pO b fc c kd st ln md)) (hc : 0 ≤ c ∧ c ≤ 64) (hk : RI k) (h : 0 ≤ k ∧ k < c) : PC g yX9_requireCoefficient cX9_requireCoefficient (iX9_requireCoefficient mc ms) [.ref (b + 3), vi k] S (Rt none S) := by
  refine PC_of pnX9 rfl rfl rfl (Nat.le_of_ble_eq_true rfl) ?_
  refine r_aload_n dX9_requireCoefficient_0 (i := 0) rfl rfl (r_iload_n dX9_requireCoefficient_1 (i := 1) rfl rfl (c_vr dX9_requireCoefficient_2 (c_X6_hasCoefficient hp hc hk) rfl rfl mq_X6_hasCoefficient ml_X9_328 ⟨Nat.le_of_ble_eq_true rfl, Nat.le_of_ble_eq_true rfl⟩ hp rfl rfl rfl (Nat.le_of_ble_eq_true rfl) ?_))
  refine r_if_ne 19 dX9_requireCoefficient_5 (by decide) b2i_RI (fun c1 => ?_) (fun c1 => ?_)
  · replace c1 := b2i_ne c1
    refine r_vret dX9_requireCoefficient_19 rfl ?_
    first | omega | exact ⟨rfl, rfl⟩ | exact ⟨by rw [b2i_t (by omega)], rfl⟩ | exact ⟨by rw [b2i_f (by omega)], rfl⟩
  · replace c1 := b2i_eq c1
    omega
theorem c_X9_requireCoefficient0 {k : Int} (hp : S.1 (b + 3) = some (pO b fc c kd st ln md)) (hc : 0 ≤ c ∧ c ≤ 64) (hk : RI k) (h : ¬ (0 ≤ k ∧ k < c)) (hm : 1 ≤ mc) (hm2 : 6 ≤ ms) : PC g yX9_requireCoefficient cX9_requireCoefficient (iX9_requireCoefficient mc ms) [.ref (b + 3), vi k] S (Th "java/lang/IndexOutOfBoundsException" S) := by
  refine PC_of pnX9 rfl rfl rfl (Nat.le_of_ble_eq_true rfl) ?_
  refine r_bud (kc' := 1) (ks' := 6) hm hm2 ?_
  refine r_aload_n dX9_requireCoefficient_0 (i := 0) rfl rfl (r_iload_n dX9_requireCoefficient_1 (i := 1) rfl rfl (c_vr dX9_requireCoefficient_2 (c_X6_hasCoefficient hp hc hk) rfl rfl mq_X6_hasCoefficient ml_X9_328 ⟨Nat.le_of_ble_eq_true rfl, Nat.le_of_ble_eq_true rfl⟩ hp rfl rfl rfl (Nat.le_of_ble_eq_true rfl) ?_))
  refine r_if_ne 19 dX9_requireCoefficient_5 (by decide) b2i_RI (fun c1 => ?_) (fun c1 => ?_)
  · replace c1 := b2i_ne c1
    refine r_vret dX9_requireCoefficient_19 rfl ?_
    omega
  · replace c1 := b2i_eq c1
    refine r_throwSW th_index (List.mem_of_getElem? (i := 14) rfl) rfl dX9_requireCoefficient_8 dX9_requireCoefficient_11 dX9_requireCoefficient_12 dX9_requireCoefficient_15 dX9_requireCoefficient_18 (Nat.le_of_ble_eq_true rfl) (Nat.le_of_ble_eq_true rfl) (by omega) (by omega) (fun z hz => ?_)
    exact ⟨rfl, rfl, hz⟩
end PRES

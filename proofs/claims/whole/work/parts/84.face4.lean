/-! the class's face: the questions of fields -/
section FACE4H
variable {g : GT} {S : PS} {mc ms : Nat} {x F : Nat} {a : Int → Int} {q p : Nat} {v1 v2 v3 : Value}
theorem fld_at {z : Int} (hb : BnAt S (x + 1) F a) (hp : MP a) (h : 0 ≤ z ∧ z ≤ a 0 - 1) : ∃ (r : Int → Option Nat) (y : Nat) (ff : Int → Int) (fc : Nat), S.1 (x + 1 + 1) = some (cR 6 6 r) ∧ r z = some y ∧ F ≤ y ∧ S.1 y = some (cO 1 [vi (pN a z : Int), .ref (y + 1), vi (fc : Int), vi (genN (pN a z) : Int)]) ∧ S.1 (y + 1) = some (cI 6 ff) ∧ FacOk (pN a z) ff fc ∧ a (1 + z) = (pN a z : Int) ∧ (3 ≤ pN a z ∧ pN a z ≤ 100003) ∧ Pr (pN a z) := by
  obtain ⟨⟨h1, r, h2, h3, h4⟩, -, -⟩ := hb
  obtain ⟨y, y1, y2, ff, fc, f1, f2, f3⟩ := h4 z h.1 (by omega)
  exact ⟨r, y, ff, fc, h2, y1, y2, f1, f2, f3, pN_ok hp h⟩
theorem c_X1_rootI {n : Int} (h : S.1 q = some (cO 1 [vi (p : Int), v1, v2, vi (genN p : Int)])) (hp : 3 ≤ p ∧ p ≤ 100003) (hpp : Pr p) (hn : 0 < n ∧ n < 2147483648) : PC g yX1_rootOfOrder cX1_rootOfOrder (iX1_rootOfOrder mc ms) [.ref q, vi n] S (Rt (some (vi (rtI p n.toNat))) S) := by
  obtain ⟨k, rfl⟩ := Int.eq_ofNat_of_zero_le (show 0 ≤ n by omega)
  rw [Int.toNat_natCast]
  exact c_X1_rootOfOrder h hp (by omega) (genN_ok hpp hp.1).2.1
theorem c_X1_raiseI {b e : Int} (h : S.1 q = some (cO 1 [vi (p : Int), v1, v2, v3])) (hp : 3 ≤ p ∧ p ≤ 100003) (hb : 0 ≤ b ∧ b < p) (he : 0 ≤ e ∧ e < 2147483648) : PC g yX1_raise cX1_raise (iX1_raise mc ms) [.ref q, vi b, vi e] S (Rt (some (vi (pwI b e.toNat p))) S) := by
  obtain ⟨k, rfl⟩ := Int.eq_ofNat_of_zero_le he.1
  obtain ⟨c, rfl⟩ := Int.eq_ofNat_of_zero_le hb.1
  have e1 : pwI (c : Int) ((k : Int)).toNat p = ((c ^ k % p : Nat) : Int) := by
    unfold pwI
    rw [Int.toNat_natCast, Int.emod_eq_of_lt (by omega) hb.2, Int.toNat_natCast]
  rw [e1]
  exact c_X1_raise h hp (by omega) (by omega)
theorem c_X1_invertI {b : Int} (h : S.1 q = some (cO 1 [vi (p : Int), v1, v2, v3])) (hp : 3 ≤ p ∧ p ≤ 100003) (hb : 0 ≤ b ∧ b < p) : PC g yX1_invert cX1_invert (iX1_invert mc ms) [.ref q, vi b] S (Rt (some (vi (pwI b (p - 2) p))) S) := by
  obtain ⟨c, rfl⟩ := Int.eq_ofNat_of_zero_le hb.1
  have e1 : pwI (c : Int) (p - 2) p = ((c ^ (p - 2) % p : Nat) : Int) := by
    unfold pwI
    rw [Int.emod_eq_of_lt (by omega) hb.2, Int.toNat_natCast]
  rw [e1]
  exact c_X1_invert h hp (by omega)
theorem c_X9_methodCostI {n mt : Int} (h : S.1 q = some (cO 1 [vi (p : Int), v1, v2, v3])) (hn : 1 ≤ n ∧ n ≤ 64) (hp : 3 ≤ p ∧ p ≤ 100003) (hmt : 0 ≤ mt ∧ mt ≤ 2) : PC g yX9_methodCost cX9_methodCost (iX9_methodCost mc ms) [.ref q, vi n, vi mt] S (Rt (some (vi (csI (p : Int) n.toNat mt))) S) := by
  obtain ⟨k, rfl⟩ := Int.eq_ofNat_of_zero_le (show 0 ≤ n by omega)
  rw [Int.toNat_natCast]
  exact c_X9_methodCost h (by omega) hp hmt
theorem c_X9_cheapestMethodI {n : Int} (h : S.1 q = some (cO 1 [vi (p : Int), v1, v2, v3])) (hn : 1 ≤ n ∧ n ≤ 64) (hp : 3 ≤ p ∧ p ≤ 100003) : PC g yX9_cheapestMethod cX9_cheapestMethod (iX9_cheapestMethod mc ms) [.ref q, vi n] S (Rt (some (vi (bmI (p : Int) n.toNat))) S) := by
  obtain ⟨k, rfl⟩ := Int.eq_ofNat_of_zero_le (show 0 ≤ n by omega)
  rw [Int.toNat_natCast]
  exact c_X9_cheapestMethod h (by omega) hp
theorem pwI_mod {b : Int} {e p : Nat} : pwI (b % (p : Int)) e p = pwI b e p := by
  unfold pwI
  rw [Int.emod_emod_of_dvd _ (Int.dvd_refl _)]
theorem pwI_lt {b : Int} {e p : Nat} (hp : 0 < p) : 0 ≤ pwI b e p ∧ pwI b e p < p := by
  have := Nat.mod_lt ((b % (p : Int)).toNat ^ e) hp
  unfold pwI
  omega
theorem sfx_cong {f h : Int → Int} {x : Int} : ∀ (m : Nat) (j : Int), (∀ k : Int, j ≤ k → k < j + m → f k = h k) → sfx f x m j = sfx h x m j
  | 0, _, _ => rfl
  | m + 1, j, e => by
    show f j + x * sfx f x m (j + 1) = h j + x * sfx h x m (j + 1)
    rw [e j (by omega) (by omega), sfx_cong m (j + 1) (fun k k1 k2 => e k (by omega) (by omega))]
end FACE4H
section FACE4
variable {g : GT} {S : PS} {mc ms : Nat} {x F : Nat} {a : Int → Int}
theorem c_X9_root {q n : Int} (hx : S.1 x = some (xO x)) (hb : BnAt S (x + 1) F a) (hp : MP a) (hqr : RI q) (hn : RI n) (hm : 1 ≤ mc) (hm2 : 6 ≤ ms) : PC g yX9_root cX9_root (iX9_root mc ms) [.ref x, vi q, vi n] S (Out ["java/lang/IndexOutOfBoundsException", "java/lang/IllegalArgumentException", "java/util/NoSuchElementException"] (kRoot a q n) (vi (rtI (pN a q) n.toNat)) S (fun S' => S' = S)) := by
  have h0 := hp.1
  refine PC_of pnX9 rfl rfl rfl (Nat.le_of_ble_eq_true rfl) ?_
  refine r_bud (kc' := 1) (ks' := 6) hm hm2 ?_
  refine r_aload_n dX9_root_0 (i := 0) rfl rfl (r_iload_n dX9_root_1 (i := 1) rfl rfl ?_)
  by_cases hq : 0 ≤ q ∧ q ≤ a 0 - 1
  rotate_left
  · exact c_vx (E := "") dX9_root_2 (c_X9_fieldAt0 (mc := 1) (ms := 6) hx hb.1.1 h0 hqr hq (by omega) (by omega)) rfl mq_X9_fieldAt ml_X9_109 ⟨Nat.le_of_ble_eq_true rfl, Nat.le_of_ble_eq_true rfl⟩ hx rfl rfl rfl (Nat.le_of_ble_eq_true rfl) (by show 1 ≤ 1; omega) (by show 6 ≤ 6; omega) (fun o S' ho => ⟨_, ho.1, Out.th 0 (by unfold kRoot; rw [if_neg hq]; rfl) rfl ⟨rfl, ho.2⟩⟩)
  obtain ⟨r, y, ff, fc, h2, y1, -, f1, f2, f3, hpa, hpr, hpp⟩ := fld_at hb hp hq
  refine c_vr dX9_root_2 (c_X9_fieldAt1 hx hb.1.1 h2 h0 hqr hq y1) rfl rfl mq_X9_fieldAt ml_X9_109 ⟨Nat.le_of_ble_eq_true rfl, Nat.le_of_ble_eq_true rfl⟩ hx rfl rfl rfl (Nat.le_of_ble_eq_true rfl) (r_astore_n dX9_root_5 (i := 3) rfl rfl (Nat.le_of_ble_eq_true rfl) (r_iload_n dX9_root_6 (i := 2) rfl rfl (r_iconst dX9_root_7 ?_)))
  refine r_icmp_lt 25 dX9_root_8 (by decide) (by omega) (by omega) (fun c1 => ?_) (fun c1 => ?_)
  · refine r_iconst dX9_root_25 ?_
    exact c_sx dX9_root_26 (c_X9_require0 (mc := 1) (ms := 6) rfl (by omega) (by omega)) rfl mq_X9_require ml_X9_70 ⟨Nat.le_of_ble_eq_true rfl, Nat.le_of_ble_eq_true rfl⟩ rfl rfl (Nat.le_of_ble_eq_true rfl) (by show 1 ≤ 1; omega) (by show 6 ≤ 6; omega) (fun o S' ho => ⟨_, ho.1, Out.th 1 (by unfold kRoot; rw [if_pos hq, if_neg (by omega)]; rfl) rfl ⟨rfl, ho.2⟩⟩)
  · refine r_iload_n dX9_root_11 (i := 2) rfl rfl (r_aload_n dX9_root_12 (i := 3) rfl rfl (r_get dX9_root_13 fl_X9_113 f1 rfl (r_iconst dX9_root_16 (r_isub dX9_root_17 ?_))))
    refine r_icmp_gt 25 dX9_root_18 (by decide) (by omega) (by omega) (fun c2 => ?_) (fun c2 => ?_)
    · refine r_iconst dX9_root_25 ?_
      exact c_sx dX9_root_26 (c_X9_require0 (mc := 1) (ms := 6) rfl (by omega) (by omega)) rfl mq_X9_require ml_X9_70 ⟨Nat.le_of_ble_eq_true rfl, Nat.le_of_ble_eq_true rfl⟩ rfl rfl (Nat.le_of_ble_eq_true rfl) (by show 1 ≤ 1; omega) (by show 6 ≤ 6; omega) (fun o S' ho => ⟨_, ho.1, Out.th 1 (by unfold kRoot; rw [if_pos hq, if_neg (by omega)]; rfl) rfl ⟨rfl, ho.2⟩⟩)
    · refine r_iconst dX9_root_21 (r_goto 26 dX9_root_22 (by decide) (c_sn dX9_root_26 (c_X9_require1 (by decide) ⟨by omega, by omega⟩) rfl rfl mq_X9_require ml_X9_70 ⟨Nat.le_of_ble_eq_true rfl, Nat.le_of_ble_eq_true rfl⟩ rfl rfl (Nat.le_of_ble_eq_true rfl) (r_aload_n dX9_root_29 (i := 3) rfl rfl (r_iload_n dX9_root_30 (i := 2) rfl rfl ?_))))
      by_cases hr : 0 < n ∧ ((pN a q : Int) - 1) % n = 0
      rotate_left
      · exact c_sx dX9_root_31 (c_X9_requireRoot0 (mc := 1) (ms := 6) f1 hpr hn hr (by omega) (by omega)) rfl mq_X9_requireRoot ml_X9_131 ⟨Nat.le_of_ble_eq_true rfl, Nat.le_of_ble_eq_true rfl⟩ rfl rfl (Nat.le_of_ble_eq_true rfl) (by show 1 ≤ 1; omega) (by show 6 ≤ 6; omega) (fun o S' ho => ⟨_, ho.1, Out.th 2 (by unfold kRoot; rw [if_pos hq, if_pos (by omega), if_neg (by rw [hpa]; omega)]; rfl) rfl ⟨rfl, ho.2⟩⟩)
      refine c_sn dX9_root_31 (c_X9_requireRoot1 f1 hpr hn hr) rfl rfl mq_X9_requireRoot ml_X9_131 ⟨Nat.le_of_ble_eq_true rfl, Nat.le_of_ble_eq_true rfl⟩ rfl rfl (Nat.le_of_ble_eq_true rfl) (r_aload_n dX9_root_34 (i := 3) rfl rfl (r_iload_n dX9_root_35 (i := 2) rfl rfl (c_vr dX9_root_36 (c_X1_rootI f1 hpr hpp (by omega)) rfl rfl mq_X1_rootOfOrder ml_X9_135 ⟨Nat.le_of_ble_eq_true rfl, Nat.le_of_ble_eq_true rfl⟩ f1 rfl rfl rfl (Nat.le_of_ble_eq_true rfl) ?_)))
      refine r_iret dX9_root_39 rfl rfl ?_
      exact Out.ok (by unfold kRoot; rw [if_pos hq, if_pos (by omega), if_pos (by rw [hpa]; omega)]) rfl rfl
theorem c_X9_inverse {q v : Int} (hx : S.1 x = some (xO x)) (hb : BnAt S (x + 1) F a) (hp : MP a) (hqr : RI q) (hv : RI v) (hm : 1 ≤ mc) (hm2 : 6 ≤ ms) : PC g yX9_inverse cX9_inverse (iX9_inverse mc ms) [.ref x, vi q, vi v] S (Out ["java/lang/IndexOutOfBoundsException", "java/util/NoSuchElementException"] (noUnitI a q v) (vi (pwI v (pN a q - 2) (pN a q))) S (fun S' => S' = S)) := by
  have h0 := hp.1
  refine PC_of pnX9 rfl rfl rfl (Nat.le_of_ble_eq_true rfl) ?_
  refine r_bud (kc' := 1) (ks' := 6) hm hm2 ?_
  refine r_aload_n dX9_inverse_0 (i := 0) rfl rfl (r_iload_n dX9_inverse_1 (i := 1) rfl rfl ?_)
  by_cases hq : 0 ≤ q ∧ q ≤ a 0 - 1
  rotate_left
  · exact c_vx (E := "") dX9_inverse_2 (c_X9_fieldAt0 (mc := 1) (ms := 6) hx hb.1.1 h0 hqr hq (by omega) (by omega)) rfl mq_X9_fieldAt ml_X9_109 ⟨Nat.le_of_ble_eq_true rfl, Nat.le_of_ble_eq_true rfl⟩ hx rfl rfl rfl (Nat.le_of_ble_eq_true rfl) (by show 1 ≤ 1; omega) (by show 6 ≤ 6; omega) (fun o S' ho => ⟨_, ho.1, Out.th 0 (by unfold noUnitI; rw [if_neg hq]; rfl) rfl ⟨rfl, ho.2⟩⟩)
  obtain ⟨r, y, ff, fc, h2, y1, -, f1, f2, f3, hpa, hpr, hpp⟩ := fld_at hb hp hq
  have m1 := Int.emod_nonneg v (show (pN a q : Int) ≠ 0 by omega)
  have m2 := Int.emod_lt_of_pos v (show (0 : Int) < pN a q by omega)
  refine c_vr dX9_inverse_2 (c_X9_fieldAt1 hx hb.1.1 h2 h0 hqr hq y1) rfl rfl mq_X9_fieldAt ml_X9_109 ⟨Nat.le_of_ble_eq_true rfl, Nat.le_of_ble_eq_true rfl⟩ hx rfl rfl rfl (Nat.le_of_ble_eq_true rfl) (r_astore_n dX9_inverse_5 (i := 3) rfl rfl (Nat.le_of_ble_eq_true rfl) (r_aload_n dX9_inverse_6 (i := 3) rfl rfl (r_aload_n dX9_inverse_7 (i := 3) rfl rfl (r_iload_n dX9_inverse_8 (i := 2) rfl rfl ?_))))
  by_cases hu : v % (pN a q : Int) ≠ 0
  rotate_left
  · exact c_sx dX9_inverse_9 (c_X9_unitOf0 (mc := 1) (ms := 6) f1 hpr hv (by omega) (by omega) (by omega)) rfl mq_X9_unitOf ml_X9_146 ⟨Nat.le_of_ble_eq_true rfl, Nat.le_of_ble_eq_true rfl⟩ rfl rfl (Nat.le_of_ble_eq_true rfl) (by show 1 ≤ 1; omega) (by show 6 ≤ 6; omega) (fun o S' ho => ⟨_, ho.1, Out.th 1 (by unfold noUnitI; rw [if_pos hq, hpa, if_pos (by omega)]; rfl) rfl ⟨rfl, ho.2⟩⟩)
  refine c_sr dX9_inverse_9 (c_X9_unitOf1 f1 hpr hv hu) rfl rfl mq_X9_unitOf ml_X9_146 ⟨Nat.le_of_ble_eq_true rfl, Nat.le_of_ble_eq_true rfl⟩ rfl rfl (Nat.le_of_ble_eq_true rfl) (c_vr dX9_inverse_12 (c_X1_invertI f1 hpr ⟨m1, m2⟩) rfl rfl mq_X1_invert ml_X9_150 ⟨Nat.le_of_ble_eq_true rfl, Nat.le_of_ble_eq_true rfl⟩ f1 rfl rfl rfl (Nat.le_of_ble_eq_true rfl) ?_)
  refine r_iret dX9_inverse_15 rfl rfl ?_
  exact Out.ok (by unfold noUnitI; rw [if_pos hq, hpa, if_neg hu]) (by rw [pwI_mod]) rfl
theorem c_X9_order {q v : Int} (hx : S.1 x = some (xO x)) (hb : BnAt S (x + 1) F a) (hp : MP a) (hqr : RI q) (hv : RI v) (hm : 1 ≤ mc) (hm2 : 6 ≤ ms) : PC g yX9_order cX9_order (iX9_order mc ms) [.ref x, vi q, vi v] S (Out ["java/lang/IndexOutOfBoundsException", "java/util/NoSuchElementException"] (noUnitI a q v) (vi (ordN (pN a q) (uN a q v) : Int)) S (fun S' => S' = S)) := by
  have h0 := hp.1
  refine PC_of pnX9 rfl rfl rfl (Nat.le_of_ble_eq_true rfl) ?_
  refine r_bud (kc' := 1) (ks' := 6) hm hm2 ?_
  refine r_aload_n dX9_order_0 (i := 0) rfl rfl (r_iload_n dX9_order_1 (i := 1) rfl rfl ?_)
  by_cases hq : 0 ≤ q ∧ q ≤ a 0 - 1
  rotate_left
  · exact c_vx (E := "") dX9_order_2 (c_X9_fieldAt0 (mc := 1) (ms := 6) hx hb.1.1 h0 hqr hq (by omega) (by omega)) rfl mq_X9_fieldAt ml_X9_109 ⟨Nat.le_of_ble_eq_true rfl, Nat.le_of_ble_eq_true rfl⟩ hx rfl rfl rfl (Nat.le_of_ble_eq_true rfl) (by show 1 ≤ 1; omega) (by show 6 ≤ 6; omega) (fun o S' ho => ⟨_, ho.1, Out.th 0 (by unfold noUnitI; rw [if_neg hq]; rfl) rfl ⟨rfl, ho.2⟩⟩)
  obtain ⟨r, y, ff, fc, h2, y1, -, f1, f2, f3, hpa, hpr, hpp⟩ := fld_at hb hp hq
  have m1 := Int.emod_nonneg v (show (pN a q : Int) ≠ 0 by omega)
  have m2 := Int.emod_lt_of_pos v (show (0 : Int) < pN a q by omega)
  refine c_vr dX9_order_2 (c_X9_fieldAt1 hx hb.1.1 h2 h0 hqr hq y1) rfl rfl mq_X9_fieldAt ml_X9_109 ⟨Nat.le_of_ble_eq_true rfl, Nat.le_of_ble_eq_true rfl⟩ hx rfl rfl rfl (Nat.le_of_ble_eq_true rfl) (r_astore_n dX9_order_5 (i := 3) rfl rfl (Nat.le_of_ble_eq_true rfl) (r_aload_n dX9_order_6 (i := 3) rfl rfl (r_aload_n dX9_order_7 (i := 3) rfl rfl (r_iload_n dX9_order_8 (i := 2) rfl rfl ?_))))
  by_cases hu : v % (pN a q : Int) ≠ 0
  rotate_left
  · exact c_sx dX9_order_9 (c_X9_unitOf0 (mc := 1) (ms := 6) f1 hpr hv (by omega) (by omega) (by omega)) rfl mq_X9_unitOf ml_X9_146 ⟨Nat.le_of_ble_eq_true rfl, Nat.le_of_ble_eq_true rfl⟩ rfl rfl (Nat.le_of_ble_eq_true rfl) (by show 1 ≤ 1; omega) (by show 6 ≤ 6; omega) (fun o S' ho => ⟨_, ho.1, Out.th 1 (by unfold noUnitI; rw [if_pos hq, hpa, if_pos (by omega)]; rfl) rfl ⟨rfl, ho.2⟩⟩)
  have huN : v % (pN a q : Int) = (uN a q v : Int) := by unfold uN; rw [hpa]; omega
  have hu2 : 0 < uN a q v ∧ uN a q v < pN a q := by omega
  refine c_sr dX9_order_9 (by rw [← huN]; exact c_X9_unitOf1 f1 hpr hv hu) rfl rfl mq_X9_unitOf ml_X9_146 ⟨Nat.le_of_ble_eq_true rfl, Nat.le_of_ble_eq_true rfl⟩ rfl rfl (Nat.le_of_ble_eq_true rfl) (c_vr dX9_order_12 (c_X1_orderOf f1 f2 hpr hpp f3 hu2 (ordN_ok hpp hu2)) rfl rfl mq_X1_orderOf ml_X9_153 ⟨Nat.le_of_ble_eq_true rfl, Nat.le_of_ble_eq_true rfl⟩ f1 rfl rfl rfl (Nat.le_of_ble_eq_true rfl) ?_)
  refine r_iret dX9_order_15 rfl rfl ?_
  exact Out.ok (by unfold noUnitI; rw [if_pos hq, hpa, if_neg hu]) rfl rfl
theorem pf_bd : ∀ (u n p : Nat), -1 ≤ pf u n p ∧ pf u n p ≤ 100003
  | 0, _, _ => ⟨Int.le_refl _, by show (-1 : Int) ≤ 100003; decide⟩
  | u + 1, n, p => by
    have e : pf (u + 1) n p = if 100003 < p then -1 else if prI p = 1 then (p : Int) else pf u n (p + n) := rfl
    have ih := pf_bd u n (p + n)
    rw [e]
    split
    · omega
    · split <;> omega
theorem pfF_bd (n ab : Int) : -1 ≤ pfF n ab ∧ pfF n ab ≤ 100003 := pf_bd _ _ _
theorem c_X9_primeFor {n ab : Int} (hx : S.1 x = some (xO x)) (hn : RI n) (hab : RI ab) (hm : 1 ≤ mc) (hm2 : 6 ≤ ms) : PC g yX9_primeFor cX9_primeFor (iX9_primeFor mc ms) [.ref x, vi n, vi ab] S (Out ["java/lang/IllegalArgumentException", "java/util/NoSuchElementException"] (kPrimeFor n ab) (vi (pfF n ab)) S (fun S' => S' = S)) := by
  refine PC_of pnX9 rfl rfl rfl (Nat.le_of_ble_eq_true rfl) ?_
  refine r_bud (kc' := 1) (ks' := 6) hm hm2 ?_
  refine r_iload_n dX9_primeFor_0 (i := 1) rfl rfl (r_iconst dX9_primeFor_1 ?_)
  refine r_icmp_lt 27 dX9_primeFor_2 (by decide) (by omega) (by omega) (fun c1 => ?_) (fun c1 => ?_)
  · refine r_iconst dX9_primeFor_27 ?_
    exact c_sx dX9_primeFor_28 (c_X9_require0 (mc := 1) (ms := 6) rfl (by omega) (by omega)) rfl mq_X9_require ml_X9_70 ⟨Nat.le_of_ble_eq_true rfl, Nat.le_of_ble_eq_true rfl⟩ rfl rfl (Nat.le_of_ble_eq_true rfl) (by show 1 ≤ 1; omega) (by show 6 ≤ 6; omega) (fun o S' ho => ⟨_, ho.1, Out.th 0 (by unfold kPrimeFor; rw [if_neg (by omega)]; rfl) rfl ⟨rfl, ho.2⟩⟩)
  · refine r_iload_n dX9_primeFor_5 (i := 1) rfl rfl (r_sipush dX9_primeFor_6 (by decide) ?_)
    refine r_icmp_gt 27 dX9_primeFor_9 (by decide) (by omega) (by omega) (fun c2 => ?_) (fun c2 => ?_)
    · refine r_iconst dX9_primeFor_27 ?_
      exact c_sx dX9_primeFor_28 (c_X9_require0 (mc := 1) (ms := 6) rfl (by omega) (by omega)) rfl mq_X9_require ml_X9_70 ⟨Nat.le_of_ble_eq_true rfl, Nat.le_of_ble_eq_true rfl⟩ rfl rfl (Nat.le_of_ble_eq_true rfl) (by show 1 ≤ 1; omega) (by show 6 ≤ 6; omega) (fun o S' ho => ⟨_, ho.1, Out.th 0 (by unfold kPrimeFor; rw [if_neg (by omega)]; rfl) rfl ⟨rfl, ho.2⟩⟩)
    · refine r_iload_n dX9_primeFor_12 (i := 2) rfl rfl (r_iconst dX9_primeFor_13 ?_)
      refine r_icmp_lt 27 dX9_primeFor_14 (by decide) (by omega) (by omega) (fun c3 => ?_) (fun c3 => ?_)
      · refine r_iconst dX9_primeFor_27 ?_
        exact c_sx dX9_primeFor_28 (c_X9_require0 (mc := 1) (ms := 6) rfl (by omega) (by omega)) rfl mq_X9_require ml_X9_70 ⟨Nat.le_of_ble_eq_true rfl, Nat.le_of_ble_eq_true rfl⟩ rfl rfl (Nat.le_of_ble_eq_true rfl) (by show 1 ≤ 1; omega) (by show 6 ≤ 6; omega) (fun o S' ho => ⟨_, ho.1, Out.th 0 (by unfold kPrimeFor; rw [if_neg (by omega)]; rfl) rfl ⟨rfl, ho.2⟩⟩)
      · refine r_iload_n dX9_primeFor_17 (i := 2) rfl rfl (r_ldc dX9_primeFor_18 cst_X9_159 ?_)
        refine r_icmp_ge 27 dX9_primeFor_20 (by decide) (by omega) (by omega) (fun c4 => ?_) (fun c4 => ?_)
        · refine r_iconst dX9_primeFor_27 ?_
          exact c_sx dX9_primeFor_28 (c_X9_require0 (mc := 1) (ms := 6) rfl (by omega) (by omega)) rfl mq_X9_require ml_X9_70 ⟨Nat.le_of_ble_eq_true rfl, Nat.le_of_ble_eq_true rfl⟩ rfl rfl (Nat.le_of_ble_eq_true rfl) (by show 1 ≤ 1; omega) (by show 6 ≤ 6; omega) (fun o S' ho => ⟨_, ho.1, Out.th 0 (by unfold kPrimeFor; rw [if_neg (by omega)]; rfl) rfl ⟨rfl, ho.2⟩⟩)
        · refine r_iconst dX9_primeFor_23 (r_goto 28 dX9_primeFor_24 (by decide) (c_sn dX9_primeFor_28 (c_X9_require1 (by decide) ⟨by omega, by omega⟩) rfl rfl mq_X9_require ml_X9_70 ⟨Nat.le_of_ble_eq_true rfl, Nat.le_of_ble_eq_true rfl⟩ rfl rfl (Nat.le_of_ble_eq_true rfl) (r_iload_n dX9_primeFor_31 (i := 1) rfl rfl (r_iload_n dX9_primeFor_32 (i := 2) rfl rfl ?_))))
          refine c_sr dX9_primeFor_33 (c_X9_leastPrime (by omega) (by omega)) rfl rfl mq_X9_leastPrime ml_X9_160 ⟨Nat.le_of_ble_eq_true rfl, Nat.le_of_ble_eq_true rfl⟩ rfl rfl (Nat.le_of_ble_eq_true rfl) ?_
          have hbd := pfF_bd n ab
          refine r_istore_n dX9_primeFor_36 (i := 3) rfl rfl (Nat.le_of_ble_eq_true rfl) (r_iload_n dX9_primeFor_37 (i := 3) rfl rfl (r_iconst dX9_primeFor_38 ?_))
          refine r_icmp_ne 52 dX9_primeFor_39 (by decide) (by omega) (by omega) (fun c5 => ?_) (fun c5 => ?_)
          · refine r_iload_n dX9_primeFor_52 (i := 3) rfl rfl ?_
            refine r_iret dX9_primeFor_53 rfl rfl ?_
            exact Out.ok (by unfold kPrimeFor; rw [if_pos (by omega), if_neg (by assumption)]) rfl rfl
          · refine r_throwN (w := 2) rfl (List.mem_of_getElem? (i := 3) rfl) rfl dX9_primeFor_42 dX9_primeFor_45 (Or.inl ⟨rfl, dX9_primeFor_46⟩) dX9_primeFor_48 dX9_primeFor_51 (Nat.le_of_ble_eq_true rfl) (Nat.le_of_ble_eq_true rfl) (by omega) (by omega) (fun z hz => ?_)
            exact Out.th 1 (by unfold kPrimeFor; rw [if_pos (by omega), if_pos (by assumption)]; rfl) rfl ⟨rfl, rfl, hz⟩
theorem c_X9_cost {q n mt : Int} (hx : S.1 x = some (xO x)) (hb : BnAt S (x + 1) F a) (hp : MP a) (hqr : RI q) (hn : RI n) (hmt : RI mt) (hm : 1 ≤ mc) (hm2 : 6 ≤ ms) : PC g yX9_cost cX9_cost (iX9_cost mc ms) [.ref x, vi q, vi n, vi mt] S (Out ["java/lang/IndexOutOfBoundsException", "java/lang/IllegalArgumentException", "java/util/NoSuchElementException"] (noTrI a q n (b2i (0 ≤ mt ∧ mt ≤ 2))) (vi (csI (a (1 + q)) n.toNat mt)) S (fun S' => S' = S)) := by
  have h0 := hp.1
  refine PC_of pnX9 rfl rfl rfl (Nat.le_of_ble_eq_true rfl) ?_
  refine r_bud (kc' := 1) (ks' := 6) hm hm2 ?_
  refine r_aload_n dX9_cost_0 (i := 0) rfl rfl (r_iload_n dX9_cost_1 (i := 1) rfl rfl ?_)
  by_cases hq : 0 ≤ q ∧ q ≤ a 0 - 1
  rotate_left
  · exact c_vx (E := "") dX9_cost_2 (c_X9_fieldAt0 (mc := 1) (ms := 6) hx hb.1.1 h0 hqr hq (by omega) (by omega)) rfl mq_X9_fieldAt ml_X9_109 ⟨Nat.le_of_ble_eq_true rfl, Nat.le_of_ble_eq_true rfl⟩ hx rfl rfl rfl (Nat.le_of_ble_eq_true rfl) (by show 1 ≤ 1; omega) (by show 6 ≤ 6; omega) (fun o S' ho => ⟨_, ho.1, Out.th 0 (by unfold noTrI; rw [if_neg hq]; rfl) rfl ⟨rfl, ho.2⟩⟩)
  obtain ⟨r, y, ff, fc, h2, y1, -, f1, f2, f3, hpa, hpr, hpp⟩ := fld_at hb hp hq
  refine c_vr dX9_cost_2 (c_X9_fieldAt1 hx hb.1.1 h2 h0 hqr hq y1) rfl rfl mq_X9_fieldAt ml_X9_109 ⟨Nat.le_of_ble_eq_true rfl, Nat.le_of_ble_eq_true rfl⟩ hx rfl rfl rfl (Nat.le_of_ble_eq_true rfl) (r_astore dX9_cost_5 rfl (Nat.le_of_ble_eq_true rfl) (r_iload_n dX9_cost_7 (i := 2) rfl rfl (c_sr dX9_cost_8 (c_X9_isLength hn) rfl rfl mq_X9_isLength ml_X9_171 ⟨Nat.le_of_ble_eq_true rfl, Nat.le_of_ble_eq_true rfl⟩ rfl rfl (Nat.le_of_ble_eq_true rfl) ?_)))
  refine r_if_eq 27 dX9_cost_11 (by decide) b2i_RI (fun c1 => ?_) (fun c1 => ?_)
  · replace c1 := b2i_eq c1
    refine r_iconst dX9_cost_27 ?_
    exact c_sx dX9_cost_28 (c_X9_require0 (mc := 1) (ms := 6) rfl (by omega) (by omega)) rfl mq_X9_require ml_X9_70 ⟨Nat.le_of_ble_eq_true rfl, Nat.le_of_ble_eq_true rfl⟩ rfl rfl (Nat.le_of_ble_eq_true rfl) (by show 1 ≤ 1; omega) (by show 6 ≤ 6; omega) (fun o S' ho => ⟨_, ho.1, Out.th 1 (by unfold noTrI; rw [if_pos hq, if_neg (fun z => by have := b2i_ne z.2; omega)]; rfl) rfl ⟨rfl, ho.2⟩⟩)
  · replace c1 := b2i_ne c1
    refine r_iload_n dX9_cost_14 (i := 3) rfl rfl ?_
    refine r_if_lt 27 dX9_cost_15 (by decide) (by omega) (fun c2 => ?_) (fun c2 => ?_)
    · refine r_iconst dX9_cost_27 ?_
      exact c_sx dX9_cost_28 (c_X9_require0 (mc := 1) (ms := 6) rfl (by omega) (by omega)) rfl mq_X9_require ml_X9_70 ⟨Nat.le_of_ble_eq_true rfl, Nat.le_of_ble_eq_true rfl⟩ rfl rfl (Nat.le_of_ble_eq_true rfl) (by show 1 ≤ 1; omega) (by show 6 ≤ 6; omega) (fun o S' ho => ⟨_, ho.1, Out.th 1 (by unfold noTrI; rw [if_pos hq, if_neg (fun z => by have := b2i_ne z.2; omega)]; rfl) rfl ⟨rfl, ho.2⟩⟩)
    · refine r_iload_n dX9_cost_18 (i := 3) rfl rfl (r_iconst dX9_cost_19 ?_)
      refine r_icmp_gt 27 dX9_cost_20 (by decide) (by omega) (by omega) (fun c3 => ?_) (fun c3 => ?_)
      · refine r_iconst dX9_cost_27 ?_
        exact c_sx dX9_cost_28 (c_X9_require0 (mc := 1) (ms := 6) rfl (by omega) (by omega)) rfl mq_X9_require ml_X9_70 ⟨Nat.le_of_ble_eq_true rfl, Nat.le_of_ble_eq_true rfl⟩ rfl rfl (Nat.le_of_ble_eq_true rfl) (by show 1 ≤ 1; omega) (by show 6 ≤ 6; omega) (fun o S' ho => ⟨_, ho.1, Out.th 1 (by unfold noTrI; rw [if_pos hq, if_neg (fun z => by have := b2i_ne z.2; omega)]; rfl) rfl ⟨rfl, ho.2⟩⟩)
      · refine r_iconst dX9_cost_23 (r_goto 28 dX9_cost_24 (by decide) (c_sn dX9_cost_28 (c_X9_require1 (by decide) ⟨by omega, by omega⟩) rfl rfl mq_X9_require ml_X9_70 ⟨Nat.le_of_ble_eq_true rfl, Nat.le_of_ble_eq_true rfl⟩ rfl rfl (Nat.le_of_ble_eq_true rfl) (r_aload dX9_cost_31 rfl (r_iload_n dX9_cost_33 (i := 2) rfl rfl ?_))))
        by_cases hr : 0 < n ∧ ((pN a q : Int) - 1) % n = 0
        rotate_left
        · exact c_sx dX9_cost_34 (c_X9_requireRoot0 (mc := 1) (ms := 6) f1 hpr hn hr (by omega) (by omega)) rfl mq_X9_requireRoot ml_X9_131 ⟨Nat.le_of_ble_eq_true rfl, Nat.le_of_ble_eq_true rfl⟩ rfl rfl (Nat.le_of_ble_eq_true rfl) (by show 1 ≤ 1; omega) (by show 6 ≤ 6; omega) (fun o S' ho => ⟨_, ho.1, Out.th 2 (by unfold noTrI; rw [if_pos hq, if_pos ⟨by omega, by rw [b2i_t (by omega)]; decide⟩, if_neg (by rw [hpa]; omega)]; rfl) rfl ⟨rfl, ho.2⟩⟩)
        refine c_sn dX9_cost_34 (c_X9_requireRoot1 f1 hpr hn hr) rfl rfl mq_X9_requireRoot ml_X9_131 ⟨Nat.le_of_ble_eq_true rfl, Nat.le_of_ble_eq_true rfl⟩ rfl rfl (Nat.le_of_ble_eq_true rfl) (r_aload dX9_cost_37 rfl (r_iload_n dX9_cost_39 (i := 2) rfl rfl (r_iload_n dX9_cost_40 (i := 3) rfl rfl (c_sr dX9_cost_41 (c_X9_methodCostI f1 (by omega) hpr (by omega)) rfl rfl mq_X9_methodCost ml_X9_230 ⟨Nat.le_of_ble_eq_true rfl, Nat.le_of_ble_eq_true rfl⟩ rfl rfl (Nat.le_of_ble_eq_true rfl) ?_))))
        refine r_iret dX9_cost_44 rfl rfl ?_
        exact Out.ok (by unfold noTrI; rw [if_pos hq, if_pos ⟨by omega, by rw [b2i_t (by omega)]; decide⟩, if_pos (by rw [hpa]; omega)]) (by rw [hpa]) rfl
theorem c_X9_method {q n : Int} (hx : S.1 x = some (xO x)) (hb : BnAt S (x + 1) F a) (hp : MP a) (hqr : RI q) (hn : RI n) (hm : 1 ≤ mc) (hm2 : 6 ≤ ms) : PC g yX9_method cX9_method (iX9_method mc ms) [.ref x, vi q, vi n] S (Out ["java/lang/IndexOutOfBoundsException", "java/lang/IllegalArgumentException", "java/util/NoSuchElementException"] (noTrI a q n 1) (vi (bmI (a (1 + q)) n.toNat)) S (fun S' => S' = S)) := by
  have h0 := hp.1
  refine PC_of pnX9 rfl rfl rfl (Nat.le_of_ble_eq_true rfl) ?_
  refine r_bud (kc' := 1) (ks' := 6) hm hm2 ?_
  refine r_aload_n dX9_method_0 (i := 0) rfl rfl (r_iload_n dX9_method_1 (i := 1) rfl rfl ?_)
  by_cases hq : 0 ≤ q ∧ q ≤ a 0 - 1
  rotate_left
  · exact c_vx (E := "") dX9_method_2 (c_X9_fieldAt0 (mc := 1) (ms := 6) hx hb.1.1 h0 hqr hq (by omega) (by omega)) rfl mq_X9_fieldAt ml_X9_109 ⟨Nat.le_of_ble_eq_true rfl, Nat.le_of_ble_eq_true rfl⟩ hx rfl rfl rfl (Nat.le_of_ble_eq_true rfl) (by show 1 ≤ 1; omega) (by show 6 ≤ 6; omega) (fun o S' ho => ⟨_, ho.1, Out.th 0 (by unfold noTrI; rw [if_neg hq]; rfl) rfl ⟨rfl, ho.2⟩⟩)
  obtain ⟨r, y, ff, fc, h2, y1, -, f1, f2, f3, hpa, hpr, hpp⟩ := fld_at hb hp hq
  refine c_vr dX9_method_2 (c_X9_fieldAt1 hx hb.1.1 h2 h0 hqr hq y1) rfl rfl mq_X9_fieldAt ml_X9_109 ⟨Nat.le_of_ble_eq_true rfl, Nat.le_of_ble_eq_true rfl⟩ hx rfl rfl rfl (Nat.le_of_ble_eq_true rfl) (r_astore_n dX9_method_5 (i := 3) rfl rfl (Nat.le_of_ble_eq_true rfl) (r_iload_n dX9_method_6 (i := 2) rfl rfl (c_sr dX9_method_7 (c_X9_isLength hn) rfl rfl mq_X9_isLength ml_X9_171 ⟨Nat.le_of_ble_eq_true rfl, Nat.le_of_ble_eq_true rfl⟩ rfl rfl (Nat.le_of_ble_eq_true rfl) ?_)))
  by_cases hw : 1 ≤ n ∧ n ≤ 64
  rotate_left
  · exact c_sx dX9_method_10 (c_X9_require0 (mc := 1) (ms := 6) (b2i_f hw) (by omega) (by omega)) rfl mq_X9_require ml_X9_70 ⟨Nat.le_of_ble_eq_true rfl, Nat.le_of_ble_eq_true rfl⟩ rfl rfl (Nat.le_of_ble_eq_true rfl) (by show 1 ≤ 1; omega) (by show 6 ≤ 6; omega) (fun o S' ho => ⟨_, ho.1, Out.th 1 (by unfold noTrI; rw [if_pos hq, if_neg (by omega)]; rfl) rfl ⟨rfl, ho.2⟩⟩)
  refine c_sn dX9_method_10 (c_X9_require1 (by rw [b2i_t hw]; decide) b2i_RI) rfl rfl mq_X9_require ml_X9_70 ⟨Nat.le_of_ble_eq_true rfl, Nat.le_of_ble_eq_true rfl⟩ rfl rfl (Nat.le_of_ble_eq_true rfl) (r_aload_n dX9_method_13 (i := 3) rfl rfl (r_iload_n dX9_method_14 (i := 2) rfl rfl ?_))
  by_cases hr : 0 < n ∧ ((pN a q : Int) - 1) % n = 0
  rotate_left
  · exact c_sx dX9_method_15 (c_X9_requireRoot0 (mc := 1) (ms := 6) f1 hpr hn hr (by omega) (by omega)) rfl mq_X9_requireRoot ml_X9_131 ⟨Nat.le_of_ble_eq_true rfl, Nat.le_of_ble_eq_true rfl⟩ rfl rfl (Nat.le_of_ble_eq_true rfl) (by show 1 ≤ 1; omega) (by show 6 ≤ 6; omega) (fun o S' ho => ⟨_, ho.1, Out.th 2 (by unfold noTrI; rw [if_pos hq, if_pos ⟨hw, by decide⟩, if_neg (by rw [hpa]; omega)]; rfl) rfl ⟨rfl, ho.2⟩⟩)
  refine c_sn dX9_method_15 (c_X9_requireRoot1 f1 hpr hn hr) rfl rfl mq_X9_requireRoot ml_X9_131 ⟨Nat.le_of_ble_eq_true rfl, Nat.le_of_ble_eq_true rfl⟩ rfl rfl (Nat.le_of_ble_eq_true rfl) (r_aload_n dX9_method_18 (i := 3) rfl rfl (r_iload_n dX9_method_19 (i := 2) rfl rfl (c_sr dX9_method_20 (c_X9_cheapestMethodI f1 hw hpr) rfl rfl mq_X9_cheapestMethod ml_X9_234 ⟨Nat.le_of_ble_eq_true rfl, Nat.le_of_ble_eq_true rfl⟩ rfl rfl (Nat.le_of_ble_eq_true rfl) ?_)))
  refine r_iret dX9_method_23 rfl rfl ?_
  exact Out.ok (by unfold noTrI; rw [if_pos hq, if_pos ⟨hw, by decide⟩, if_pos (by rw [hpa]; omega)]) (by rw [hpa]) rfl
theorem tri_bd2 {j n : Int} (h : 0 ≤ j ∧ j ≤ 2 * n) (hn : n ≤ 64) : 0 ≤ j * (j - 1) ∧ j * (j - 1) ≤ 16384 := by
  rcases Int.lt_or_le j 1 with z | z
  · have : j = 0 := by omega
    subst this
    decide
  · have h1 := Int.mul_nonneg h.1 (show 0 ≤ j - 1 by omega)
    have h2 := Int.mul_le_mul (show j ≤ 128 by omega) (show j - 1 ≤ 128 by omega) (by omega) (by decide)
    omega
theorem c_X9_chirp {q n j : Int} (hx : S.1 x = some (xO x)) (hb : BnAt S (x + 1) F a) (hp : MP a) (hqr : RI q) (hn : RI n) (hj : RI j) (hm : 1 ≤ mc) (hm2 : 6 ≤ ms) : PC g yX9_chirp cX9_chirp (iX9_chirp mc ms) [.ref x, vi q, vi n, vi j] S (Out ["java/lang/IndexOutOfBoundsException", "java/lang/IllegalArgumentException", "java/util/NoSuchElementException"] (noTrI a q n (b2i (0 ≤ j ∧ j ≤ 2 * n))) (vi (pwI (rtI (pN a q) n.toNat) (j * (j - 1) / 2).toNat (pN a q))) S (fun S' => S' = S)) := by
  have h0 := hp.1
  refine PC_of pnX9 rfl rfl rfl (Nat.le_of_ble_eq_true rfl) ?_
  refine r_bud (kc' := 1) (ks' := 6) hm hm2 ?_
  refine r_aload_n dX9_chirp_0 (i := 0) rfl rfl (r_iload_n dX9_chirp_1 (i := 1) rfl rfl ?_)
  by_cases hq : 0 ≤ q ∧ q ≤ a 0 - 1
  rotate_left
  · exact c_vx (E := "") dX9_chirp_2 (c_X9_fieldAt0 (mc := 1) (ms := 6) hx hb.1.1 h0 hqr hq (by omega) (by omega)) rfl mq_X9_fieldAt ml_X9_109 ⟨Nat.le_of_ble_eq_true rfl, Nat.le_of_ble_eq_true rfl⟩ hx rfl rfl rfl (Nat.le_of_ble_eq_true rfl) (by show 1 ≤ 1; omega) (by show 6 ≤ 6; omega) (fun o S' ho => ⟨_, ho.1, Out.th 0 (by unfold noTrI; rw [if_neg hq]; rfl) rfl ⟨rfl, ho.2⟩⟩)
  obtain ⟨r, y, ff, fc, h2, y1, -, f1, f2, f3, hpa, hpr, hpp⟩ := fld_at hb hp hq
  refine c_vr dX9_chirp_2 (c_X9_fieldAt1 hx hb.1.1 h2 h0 hqr hq y1) rfl rfl mq_X9_fieldAt ml_X9_109 ⟨Nat.le_of_ble_eq_true rfl, Nat.le_of_ble_eq_true rfl⟩ hx rfl rfl rfl (Nat.le_of_ble_eq_true rfl) (r_astore dX9_chirp_5 rfl (Nat.le_of_ble_eq_true rfl) (r_iload_n dX9_chirp_7 (i := 2) rfl rfl (c_sr dX9_chirp_8 (c_X9_isLength hn) rfl rfl mq_X9_isLength ml_X9_171 ⟨Nat.le_of_ble_eq_true rfl, Nat.le_of_ble_eq_true rfl⟩ rfl rfl (Nat.le_of_ble_eq_true rfl) ?_)))
  refine r_if_eq 29 dX9_chirp_11 (by decide) b2i_RI (fun c1 => ?_) (fun c1 => ?_)
  · replace c1 := b2i_eq c1
    refine r_iconst dX9_chirp_29 ?_
    exact c_sx dX9_chirp_30 (c_X9_require0 (mc := 1) (ms := 6) rfl (by omega) (by omega)) rfl mq_X9_require ml_X9_70 ⟨Nat.le_of_ble_eq_true rfl, Nat.le_of_ble_eq_true rfl⟩ rfl rfl (Nat.le_of_ble_eq_true rfl) (by show 1 ≤ 1; omega) (by show 6 ≤ 6; omega) (fun o S' ho => ⟨_, ho.1, Out.th 1 (by unfold noTrI; rw [if_pos hq, if_neg (fun z => by have := b2i_ne z.2; omega)]; rfl) rfl ⟨rfl, ho.2⟩⟩)
  · replace c1 := b2i_ne c1
    refine r_iload_n dX9_chirp_14 (i := 3) rfl rfl ?_
    refine r_if_lt 29 dX9_chirp_15 (by decide) (by omega) (fun c2 => ?_) (fun c2 => ?_)
    · refine r_iconst dX9_chirp_29 ?_
      exact c_sx dX9_chirp_30 (c_X9_require0 (mc := 1) (ms := 6) rfl (by omega) (by omega)) rfl mq_X9_require ml_X9_70 ⟨Nat.le_of_ble_eq_true rfl, Nat.le_of_ble_eq_true rfl⟩ rfl rfl (Nat.le_of_ble_eq_true rfl) (by show 1 ≤ 1; omega) (by show 6 ≤ 6; omega) (fun o S' ho => ⟨_, ho.1, Out.th 1 (by unfold noTrI; rw [if_pos hq, if_neg (fun z => by have := b2i_ne z.2; omega)]; rfl) rfl ⟨rfl, ho.2⟩⟩)
    · refine r_iload_n dX9_chirp_18 (i := 3) rfl rfl (r_iconst dX9_chirp_19 (r_iload_n dX9_chirp_20 (i := 2) rfl rfl (r_imul dX9_chirp_21 ?_)))
      refine r_icmp_gt 29 dX9_chirp_22 (by decide) (by omega) (by omega) (fun c3 => ?_) (fun c3 => ?_)
      · refine r_iconst dX9_chirp_29 ?_
        exact c_sx dX9_chirp_30 (c_X9_require0 (mc := 1) (ms := 6) rfl (by omega) (by omega)) rfl mq_X9_require ml_X9_70 ⟨Nat.le_of_ble_eq_true rfl, Nat.le_of_ble_eq_true rfl⟩ rfl rfl (Nat.le_of_ble_eq_true rfl) (by show 1 ≤ 1; omega) (by show 6 ≤ 6; omega) (fun o S' ho => ⟨_, ho.1, Out.th 1 (by unfold noTrI; rw [if_pos hq, if_neg (fun z => by have := b2i_ne z.2; omega)]; rfl) rfl ⟨rfl, ho.2⟩⟩)
      · refine r_iconst dX9_chirp_25 (r_goto 30 dX9_chirp_26 (by decide) (c_sn dX9_chirp_30 (c_X9_require1 (by decide) ⟨by omega, by omega⟩) rfl rfl mq_X9_require ml_X9_70 ⟨Nat.le_of_ble_eq_true rfl, Nat.le_of_ble_eq_true rfl⟩ rfl rfl (Nat.le_of_ble_eq_true rfl) (r_aload dX9_chirp_33 rfl (r_iload_n dX9_chirp_35 (i := 2) rfl rfl ?_))))
        by_cases hr : 0 < n ∧ ((pN a q : Int) - 1) % n = 0
        rotate_left
        · exact c_sx dX9_chirp_36 (c_X9_requireRoot0 (mc := 1) (ms := 6) f1 hpr hn hr (by omega) (by omega)) rfl mq_X9_requireRoot ml_X9_131 ⟨Nat.le_of_ble_eq_true rfl, Nat.le_of_ble_eq_true rfl⟩ rfl rfl (Nat.le_of_ble_eq_true rfl) (by show 1 ≤ 1; omega) (by show 6 ≤ 6; omega) (fun o S' ho => ⟨_, ho.1, Out.th 2 (by unfold noTrI; rw [if_pos hq, if_pos ⟨by omega, by rw [b2i_t (by omega)]; decide⟩, if_neg (by rw [hpa]; omega)]; rfl) rfl ⟨rfl, ho.2⟩⟩)
        have htr := tri_bd2 (j := j) (n := n) (by omega) (by omega)
        have hrt := rtI_bd (p := pN a q) (n := n.toNat) (by omega)
        refine c_sn dX9_chirp_36 (c_X9_requireRoot1 f1 hpr hn hr) rfl rfl mq_X9_requireRoot ml_X9_131 ⟨Nat.le_of_ble_eq_true rfl, Nat.le_of_ble_eq_true rfl⟩ rfl rfl (Nat.le_of_ble_eq_true rfl) (r_aload dX9_chirp_39 rfl (r_aload dX9_chirp_41 rfl (r_iload_n dX9_chirp_43 (i := 2) rfl rfl (c_vr dX9_chirp_44 (c_X1_rootI f1 hpr hpp (by omega)) rfl rfl mq_X1_rootOfOrder ml_X9_135 ⟨Nat.le_of_ble_eq_true rfl, Nat.le_of_ble_eq_true rfl⟩ f1 rfl rfl rfl (Nat.le_of_ble_eq_true rfl) ?_))))
        refine r_iload_n dX9_chirp_47 (i := 3) rfl rfl (r_iload_n dX9_chirp_48 (i := 3) rfl rfl (r_iconst dX9_chirp_49 (r_isub dX9_chirp_50 (r_imul dX9_chirp_51 ?_))))
        refine r_iconst dX9_chirp_52 (r_idivN dX9_chirp_53 (by omega) (by omega) (by omega) (by omega) (c_vr dX9_chirp_54 (c_X1_raiseI f1 hpr hrt (by omega)) rfl rfl mq_X1_raise ml_X9_142 ⟨Nat.le_of_ble_eq_true rfl, Nat.le_of_ble_eq_true rfl⟩ f1 rfl rfl rfl (Nat.le_of_ble_eq_true rfl) ?_))
        refine r_iret dX9_chirp_57 rfl rfl ?_
        exact Out.ok (by unfold noTrI; rw [if_pos hq, if_pos ⟨by omega, by rw [b2i_t (by omega)]; decide⟩, if_pos (by rw [hpa]; omega)]) rfl rfl
theorem c_X9_prime {q w : Int} (hx : S.1 x = some (xO x)) (hb : BnAt S (x + 1) F a) (hp : MP a) (hqr : RI q) (hw : RI w) (hm : 1 ≤ mc) (hm2 : 6 ≤ ms) : PC g yX9_prime cX9_prime (iX9_prime mc ms) [.ref x, vi q, vi w] S (Out ["java/lang/IndexOutOfBoundsException", "java/lang/IllegalArgumentException"] (kPrime a q w) (vi (vPrime a q w)) S (fun S' => S' = S)) := by
  have h0 := hp.1
  refine PC_of pnX9 rfl rfl rfl (Nat.le_of_ble_eq_true rfl) ?_
  refine r_bud (kc' := 1) (ks' := 6) hm hm2 ?_
  refine r_aload_n dX9_prime_0 (i := 0) rfl rfl (r_iload_n dX9_prime_1 (i := 1) rfl rfl ?_)
  by_cases hq : 0 ≤ q ∧ q ≤ a 0 - 1
  rotate_left
  · exact c_vx (E := "") dX9_prime_2 (c_X9_fieldAt0 (mc := 1) (ms := 6) hx hb.1.1 h0 hqr hq (by omega) (by omega)) rfl mq_X9_fieldAt ml_X9_109 ⟨Nat.le_of_ble_eq_true rfl, Nat.le_of_ble_eq_true rfl⟩ hx rfl rfl rfl (Nat.le_of_ble_eq_true rfl) (by show 1 ≤ 1; omega) (by show 6 ≤ 6; omega) (fun o S' ho => ⟨_, ho.1, Out.th 0 (by unfold kPrime; rw [if_neg hq]; rfl) rfl ⟨rfl, ho.2⟩⟩)
  obtain ⟨r, y, ff, fc, h2, y1, -, f1, f2, f3, hpa, hpr, hpp⟩ := fld_at hb hp hq
  refine c_vr dX9_prime_2 (c_X9_fieldAt1 hx hb.1.1 h2 h0 hqr hq y1) rfl rfl mq_X9_fieldAt ml_X9_109 ⟨Nat.le_of_ble_eq_true rfl, Nat.le_of_ble_eq_true rfl⟩ hx rfl rfl rfl (Nat.le_of_ble_eq_true rfl) (r_astore_n dX9_prime_5 (i := 3) rfl rfl (Nat.le_of_ble_eq_true rfl) (r_iload_n dX9_prime_6 (i := 2) rfl rfl ?_))
  refine r_if_lt 19 dX9_prime_7 (by decide) (by omega) (fun c1 => ?_) (fun c1 => ?_)
  · refine r_iconst dX9_prime_19 ?_
    exact c_sx dX9_prime_20 (c_X9_require0 (mc := 1) (ms := 6) rfl (by omega) (by omega)) rfl mq_X9_require ml_X9_70 ⟨Nat.le_of_ble_eq_true rfl, Nat.le_of_ble_eq_true rfl⟩ rfl rfl (Nat.le_of_ble_eq_true rfl) (by show 1 ≤ 1; omega) (by show 6 ≤ 6; omega) (fun o S' ho => ⟨_, ho.1, Out.th 1 (by unfold kPrime; rw [if_pos hq, if_neg (by omega)]; rfl) rfl ⟨rfl, ho.2⟩⟩)
  · refine r_iload_n dX9_prime_10 (i := 2) rfl rfl (r_iconst dX9_prime_11 ?_)
    refine r_icmp_gt 19 dX9_prime_12 (by decide) (by omega) (by omega) (fun c2 => ?_) (fun c2 => ?_)
    · refine r_iconst dX9_prime_19 ?_
      exact c_sx dX9_prime_20 (c_X9_require0 (mc := 1) (ms := 6) rfl (by omega) (by omega)) rfl mq_X9_require ml_X9_70 ⟨Nat.le_of_ble_eq_true rfl, Nat.le_of_ble_eq_true rfl⟩ rfl rfl (Nat.le_of_ble_eq_true rfl) (by show 1 ≤ 1; omega) (by show 6 ≤ 6; omega) (fun o S' ho => ⟨_, ho.1, Out.th 1 (by unfold kPrime; rw [if_pos hq, if_neg (by omega)]; rfl) rfl ⟨rfl, ho.2⟩⟩)
    · refine r_iconst dX9_prime_15 (r_goto 20 dX9_prime_16 (by decide) (c_sn dX9_prime_20 (c_X9_require1 (by decide) ⟨by omega, by omega⟩) rfl rfl mq_X9_require ml_X9_70 ⟨Nat.le_of_ble_eq_true rfl, Nat.le_of_ble_eq_true rfl⟩ rfl rfl (Nat.le_of_ble_eq_true rfl) (r_iload_n dX9_prime_23 (i := 2) rfl rfl ?_)))
      have c3 : w = 0 ∨ w = 1 ∨ w = 2 ∨ w = 3 ∨ w = 4 := by omega
      rcases c3 with c3 | c3 | c3 | c3 | c3
      · refine r_tableIn 56 dX9_prime_24 ⟨by omega, by omega⟩ (by omega) (by omega) (by rw [c3]; rfl) (by decide) ?_
        refine r_aload_n dX9_prime_56 (i := 3) rfl rfl (r_get dX9_prime_57 fl_X9_113 f1 rfl ?_)
        refine r_iret dX9_prime_60 rfl rfl ?_
        subst_vars
        refine Out.ok (by unfold kPrime; rw [if_pos hq, if_pos (by omega)]) ?_ rfl
        first
          | rfl
          | (show vi _ = vi (npf (pN a q - 1) (pN a q - 1 + 1) : Int); rw [f3.2.2.2, show pN a q - 1 + 1 = pN a q by omega])
      · refine r_tableIn 61 dX9_prime_24 ⟨by omega, by omega⟩ (by omega) (by omega) (by rw [c3]; rfl) (by decide) ?_
        refine r_aload_n dX9_prime_61 (i := 3) rfl rfl (r_get dX9_prime_62 fl_X9_118 f1 rfl ?_)
        refine r_iret dX9_prime_65 rfl rfl ?_
        subst_vars
        refine Out.ok (by unfold kPrime; rw [if_pos hq, if_pos (by omega)]) ?_ rfl
        first
          | rfl
          | (show vi _ = vi (npf (pN a q - 1) (pN a q - 1 + 1) : Int); rw [f3.2.2.2, show pN a q - 1 + 1 = pN a q by omega])
      · refine r_tableIn 66 dX9_prime_24 ⟨by omega, by omega⟩ (by omega) (by omega) (by rw [c3]; rfl) (by decide) ?_
        refine r_aload_n dX9_prime_66 (i := 3) rfl rfl (c_vr dX9_prime_67 (c_X1_greatestPowerOfTwo f1 hpr (lowN_ok (by omega))) rfl rfl mq_X1_greatestPowerOfTwo ml_X9_121 ⟨Nat.le_of_ble_eq_true rfl, Nat.le_of_ble_eq_true rfl⟩ f1 rfl rfl rfl (Nat.le_of_ble_eq_true rfl) ?_)
        refine r_iret dX9_prime_70 rfl rfl ?_
        subst_vars
        refine Out.ok (by unfold kPrime; rw [if_pos hq, if_pos (by omega)]) ?_ rfl
        first
          | rfl
          | (show vi _ = vi (npf (pN a q - 1) (pN a q - 1 + 1) : Int); rw [f3.2.2.2, show pN a q - 1 + 1 = pN a q by omega])
      · refine r_tableIn 71 dX9_prime_24 ⟨by omega, by omega⟩ (by omega) (by omega) (by rw [c3]; rfl) (by decide) ?_
        refine r_aload_n dX9_prime_71 (i := 3) rfl rfl (r_get dX9_prime_72 fl_X9_125 f1 rfl ?_)
        refine r_iret dX9_prime_75 rfl rfl ?_
        subst_vars
        refine Out.ok (by unfold kPrime; rw [if_pos hq, if_pos (by omega)]) ?_ rfl
        first
          | rfl
          | (show vi _ = vi (npf (pN a q - 1) (pN a q - 1 + 1) : Int); rw [f3.2.2.2, show pN a q - 1 + 1 = pN a q by omega])
      · refine r_tableOut 76 dX9_prime_24 ⟨by omega, by omega⟩ (by omega) (by decide) ?_
        refine r_aload_n dX9_prime_76 (i := 3) rfl rfl (c_vr dX9_prime_77 (c_X1_transformLengths f1 hpr) rfl rfl mq_X1_transformLengths ml_X9_128 ⟨Nat.le_of_ble_eq_true rfl, Nat.le_of_ble_eq_true rfl⟩ f1 rfl rfl rfl (Nat.le_of_ble_eq_true rfl) ?_)
        refine r_iret dX9_prime_80 rfl rfl ?_
        subst_vars
        refine Out.ok (by unfold kPrime; rw [if_pos hq, if_pos (by omega)]) ?_ rfl
        first
          | rfl
          | (show vi _ = vi (npf (pN a q - 1) (pN a q - 1 + 1) : Int); rw [f3.2.2.2, show pN a q - 1 + 1 = pN a q by omega])
theorem c_X9_transform {q s n k : Int} (hx : S.1 x = some (xO x)) (hb : BnAt S (x + 1) F a) (hp : MP a) (hl : ML a) (hqr : RI q) (hsr : RI s) (hn : RI n) (hk : RI k) (hm : 1 ≤ mc) (hm2 : 6 ≤ ms) : PC g yX9_transform cX9_transform (iX9_transform mc ms) [.ref x, vi q, vi s, vi n, vi k] S (Out ["java/lang/IndexOutOfBoundsException", "java/lang/IllegalArgumentException", "java/util/NoSuchElementException"] (kTrans a q s n k) (vi (vTrans a q s n k)) S (fun S' => S' = S)) := by
  have h0 := hp.1
  obtain ⟨w, w1, w2, w3, w4⟩ := hb.2.1
  refine PC_of pnX9 rfl rfl rfl (Nat.le_of_ble_eq_true rfl) ?_
  refine r_bud (kc' := 1) (ks' := 6) hm hm2 ?_
  refine r_aload_n dX9_transform_0 (i := 0) rfl rfl (r_iload_n dX9_transform_1 (i := 1) rfl rfl ?_)
  by_cases hq : 0 ≤ q ∧ q ≤ a 0 - 1
  rotate_left
  · exact c_vx (E := "") dX9_transform_2 (c_X9_fieldAt0 (mc := 1) (ms := 6) hx hb.1.1 h0 hqr hq (by omega) (by omega)) rfl mq_X9_fieldAt ml_X9_109 ⟨Nat.le_of_ble_eq_true rfl, Nat.le_of_ble_eq_true rfl⟩ hx rfl rfl rfl (Nat.le_of_ble_eq_true rfl) (by show 1 ≤ 1; omega) (by show 6 ≤ 6; omega) (fun o S' ho => ⟨_, ho.1, Out.th 0 (by unfold kTrans noTrI; rw [if_neg hq]; split <;> rfl) rfl ⟨rfl, ho.2⟩⟩)
  obtain ⟨r, y, ff, fc, h2, y1, -, f1, f2, f3, hpa, hpr, hpp⟩ := fld_at hb hp hq
  refine c_vr dX9_transform_2 (c_X9_fieldAt1 hx hb.1.1 h2 h0 hqr hq y1) rfl rfl mq_X9_fieldAt ml_X9_109 ⟨Nat.le_of_ble_eq_true rfl, Nat.le_of_ble_eq_true rfl⟩ hx rfl rfl rfl (Nat.le_of_ble_eq_true rfl) (r_astore dX9_transform_5 rfl (Nat.le_of_ble_eq_true rfl) (r_aload_n dX9_transform_7 (i := 0) rfl rfl (r_iload_n dX9_transform_8 (i := 2) rfl rfl ?_)))
  by_cases hs : 0 ≤ s ∧ s ≤ 3
  rotate_left
  · exact c_vx (E := "") dX9_transform_9 (c_X9_sequenceAt0 (mc := 1) (ms := 6) hx hsr hs (by omega) (by omega)) rfl mq_X9_sequenceAt ml_X9_177 ⟨Nat.le_of_ble_eq_true rfl, Nat.le_of_ble_eq_true rfl⟩ hx rfl rfl rfl (Nat.le_of_ble_eq_true rfl) (by show 1 ≤ 1; omega) (by show 6 ≤ 6; omega) (fun o S' ho => ⟨_, ho.1, Out.th 0 (by unfold kTrans; rw [if_neg hs]; rfl) rfl ⟨rfl, ho.2⟩⟩)
  obtain ⟨f, s1, s2⟩ := w4 s hs.1 (by omega)
  have hl1 := hl.1 s hs.1 (by omega)
  refine c_vr dX9_transform_9 (c_X9_sequenceAt1 hx hb.1.1 w3 hsr hs) rfl rfl mq_X9_sequenceAt ml_X9_177 ⟨Nat.le_of_ble_eq_true rfl, Nat.le_of_ble_eq_true rfl⟩ hx rfl rfl rfl (Nat.le_of_ble_eq_true rfl) (r_astore dX9_transform_12 rfl (Nat.le_of_ble_eq_true rfl) (r_iload_n dX9_transform_14 (i := 3) rfl rfl (c_sr dX9_transform_15 (c_X9_isLength hn) rfl rfl mq_X9_isLength ml_X9_171 ⟨Nat.le_of_ble_eq_true rfl, Nat.le_of_ble_eq_true rfl⟩ rfl rfl (Nat.le_of_ble_eq_true rfl) ?_)))
  refine r_if_eq 36 dX9_transform_18 (by decide) b2i_RI (fun c1 => ?_) (fun c1 => ?_)
  · replace c1 := b2i_eq c1
    refine r_iconst dX9_transform_36 ?_
    exact c_sx dX9_transform_37 (c_X9_require0 (mc := 1) (ms := 6) rfl (by omega) (by omega)) rfl mq_X9_require ml_X9_70 ⟨Nat.le_of_ble_eq_true rfl, Nat.le_of_ble_eq_true rfl⟩ rfl rfl (Nat.le_of_ble_eq_true rfl) (by show 1 ≤ 1; omega) (by show 6 ≤ 6; omega) (fun o S' ho => ⟨_, ho.1, Out.th 1 (by unfold kTrans noTrI; rw [if_pos hs, if_pos hq, if_neg (fun z => by have := b2i_ne z.2; omega)]; rfl) rfl ⟨rfl, ho.2⟩⟩)
  · replace c1 := b2i_ne c1
    refine r_iload dX9_transform_21 rfl ?_
    refine r_if_lt 36 dX9_transform_23 (by decide) (by omega) (fun c2 => ?_) (fun c2 => ?_)
    · refine r_iconst dX9_transform_36 ?_
      exact c_sx dX9_transform_37 (c_X9_require0 (mc := 1) (ms := 6) rfl (by omega) (by omega)) rfl mq_X9_require ml_X9_70 ⟨Nat.le_of_ble_eq_true rfl, Nat.le_of_ble_eq_true rfl⟩ rfl rfl (Nat.le_of_ble_eq_true rfl) (by show 1 ≤ 1; omega) (by show 6 ≤ 6; omega) (fun o S' ho => ⟨_, ho.1, Out.th 1 (by unfold kTrans noTrI; rw [if_pos hs, if_pos hq, if_neg (fun z => by have := b2i_ne z.2; omega)]; rfl) rfl ⟨rfl, ho.2⟩⟩)
    · refine r_iload dX9_transform_26 rfl (r_iload_n dX9_transform_28 (i := 3) rfl rfl ?_)
      refine r_icmp_ge 36 dX9_transform_29 (by decide) (by omega) (by omega) (fun c3 => ?_) (fun c3 => ?_)
      · refine r_iconst dX9_transform_36 ?_
        exact c_sx dX9_transform_37 (c_X9_require0 (mc := 1) (ms := 6) rfl (by omega) (by omega)) rfl mq_X9_require ml_X9_70 ⟨Nat.le_of_ble_eq_true rfl, Nat.le_of_ble_eq_true rfl⟩ rfl rfl (Nat.le_of_ble_eq_true rfl) (by show 1 ≤ 1; omega) (by show 6 ≤ 6; omega) (fun o S' ho => ⟨_, ho.1, Out.th 1 (by unfold kTrans noTrI; rw [if_pos hs, if_pos hq, if_neg (fun z => by have := b2i_ne z.2; omega)]; rfl) rfl ⟨rfl, ho.2⟩⟩)
      · refine r_iconst dX9_transform_32 (r_goto 37 dX9_transform_33 (by decide) (c_sn dX9_transform_37 (c_X9_require1 (by decide) ⟨by omega, by omega⟩) rfl rfl mq_X9_require ml_X9_70 ⟨Nat.le_of_ble_eq_true rfl, Nat.le_of_ble_eq_true rfl⟩ rfl rfl (Nat.le_of_ble_eq_true rfl) (r_aload dX9_transform_40 rfl (r_iload_n dX9_transform_42 (i := 3) rfl rfl ?_))))
        by_cases hr : 0 < n ∧ ((pN a q : Int) - 1) % n = 0
        rotate_left
        · exact c_sx dX9_transform_43 (c_X9_requireRoot0 (mc := 1) (ms := 6) f1 hpr hn hr (by omega) (by omega)) rfl mq_X9_requireRoot ml_X9_131 ⟨Nat.le_of_ble_eq_true rfl, Nat.le_of_ble_eq_true rfl⟩ rfl rfl (Nat.le_of_ble_eq_true rfl) (by show 1 ≤ 1; omega) (by show 6 ≤ 6; omega) (fun o S' ho => ⟨_, ho.1, Out.th 2 (by unfold kTrans noTrI; rw [if_pos hs, if_pos hq, if_pos ⟨by omega, by rw [b2i_t (by omega)]; decide⟩, if_neg (by rw [hpa]; omega)]; rfl) rfl ⟨rfl, ho.2⟩⟩)
        have hrt := rtI_bd (p := pN a q) (n := n.toNat) (by omega)
        have hpw := pwI_lt (b := rtI (pN a q) n.toNat) (e := k.toNat) (p := pN a q) (by omega)
        have htm : ∀ j : Int, 0 ≤ j → j < a (7 + s) → -100003 ≤ f j ∧ f j ≤ 100003 := fun j j0 j1 => by rw [s2 j j0 j1]; have := hl.2 s j hs.1 (by omega) j0 (by omega); omega
        refine c_sn dX9_transform_43 (c_X9_requireRoot1 f1 hpr hn hr) rfl rfl mq_X9_requireRoot ml_X9_131 ⟨Nat.le_of_ble_eq_true rfl, Nat.le_of_ble_eq_true rfl⟩ rfl rfl (Nat.le_of_ble_eq_true rfl) (r_aload dX9_transform_46 rfl (r_aload dX9_transform_48 rfl (r_iload_n dX9_transform_50 (i := 3) rfl rfl (c_vr dX9_transform_51 (c_X1_rootI f1 hpr hpp (by omega)) rfl rfl mq_X1_rootOfOrder ml_X9_135 ⟨Nat.le_of_ble_eq_true rfl, Nat.le_of_ble_eq_true rfl⟩ f1 rfl rfl rfl (Nat.le_of_ble_eq_true rfl) ?_))))
        refine r_iload dX9_transform_54 rfl (c_vr dX9_transform_56 (c_X1_raiseI f1 hpr hrt (by omega)) rfl rfl mq_X1_raise ml_X9_142 ⟨Nat.le_of_ble_eq_true rfl, Nat.le_of_ble_eq_true rfl⟩ f1 rfl rfl rfl (Nat.le_of_ble_eq_true rfl) (r_istore dX9_transform_59 rfl (Nat.le_of_ble_eq_true rfl) (r_aload dX9_transform_61 rfl (r_aload dX9_transform_63 rfl ?_))))
        refine r_get dX9_transform_65 fl_X9_191 s1.1 rfl (r_aload dX9_transform_68 rfl (r_get dX9_transform_70 fl_X9_181 s1.1 rfl (r_iload dX9_transform_73 rfl (c_vr dX9_transform_75 (c_X1_evaluate (len := 32) f1 hpr s1.2 (by omega) (by omega) hpw htm) rfl rfl mq_X1_evaluate ml_X9_226 ⟨Nat.le_of_ble_eq_true rfl, Nat.le_of_ble_eq_true rfl⟩ f1 rfl rfl rfl (Nat.le_of_ble_eq_true rfl) ?_))))
        refine r_iret dX9_transform_78 rfl rfl ?_
        refine Out.ok (by unfold kTrans noTrI; rw [if_pos hs, if_pos hq, if_pos ⟨by omega, by rw [b2i_t (by omega)]; decide⟩, if_pos (by rw [hpa]; omega)]) ?_ rfl
        unfold vTrans
        rw [sfx_cong (h := tmF a s) _ _ (fun k k0 k1 => s2 k k0 (by omega))]
end FACE4

/-! the class: requireRoot, unitOf, requireTerms, sizeOf, isSizeOf -/
section REQ3
variable {g : GT} {S : PS} {mc ms : Nat} {x F q p : Nat} {v1 v2 v3 : Value}
theorem c_X9_requireRoot1 {n : Int} (h : S.1 q = some (cO 1 [vi (p : Int), v1, v2, v3])) (hp : 3 ≤ p ∧ p ≤ 100003) (hn : RI n) (hr : 0 < n ∧ ((p : Int) - 1) % n = 0) : PC g yX9_requireRoot cX9_requireRoot (iX9_requireRoot mc ms) [.ref q, vi n] S (Rt none S) := by
  refine PC_of pnX9 rfl rfl rfl (Nat.le_of_ble_eq_true rfl) ?_
  refine r_aload_n dX9_requireRoot_0 (i := 0) rfl rfl (r_iload_n dX9_requireRoot_1 (i := 1) rfl rfl (c_vr dX9_requireRoot_2 (c_X1_hasRoot h hp hn) rfl rfl mq_X1_hasRoot ml_X9_357 ⟨Nat.le_of_ble_eq_true rfl, Nat.le_of_ble_eq_true rfl⟩ h rfl rfl rfl (Nat.le_of_ble_eq_true rfl) ?_))
  refine r_if_ne 19 dX9_requireRoot_5 (by decide) b2i_RI (fun c1 => ?_) (fun c1 => ?_)
  · replace c1 := b2i_ne c1
    refine r_vret dX9_requireRoot_19 rfl ?_
    first | omega | exact ⟨rfl, rfl⟩ | exact ⟨by rw [b2i_t (by omega)], rfl⟩ | exact ⟨by rw [b2i_f (by omega)], rfl⟩
  · replace c1 := b2i_eq c1
    exact absurd hr (by assumption)
theorem c_X9_requireRoot0 {n : Int} (h : S.1 q = some (cO 1 [vi (p : Int), v1, v2, v3])) (hp : 3 ≤ p ∧ p ≤ 100003) (hn : RI n) (hr : ¬ (0 < n ∧ ((p : Int) - 1) % n = 0)) (hm : 1 ≤ mc) (hm2 : 6 ≤ ms) : PC g yX9_requireRoot cX9_requireRoot (iX9_requireRoot mc ms) [.ref q, vi n] S (Th noneN S) := by
  refine PC_of pnX9 rfl rfl rfl (Nat.le_of_ble_eq_true rfl) ?_
  refine r_bud (kc' := 1) (ks' := 6) hm hm2 ?_
  refine r_aload_n dX9_requireRoot_0 (i := 0) rfl rfl (r_iload_n dX9_requireRoot_1 (i := 1) rfl rfl (c_vr dX9_requireRoot_2 (c_X1_hasRoot h hp hn) rfl rfl mq_X1_hasRoot ml_X9_357 ⟨Nat.le_of_ble_eq_true rfl, Nat.le_of_ble_eq_true rfl⟩ h rfl rfl rfl (Nat.le_of_ble_eq_true rfl) ?_))
  refine r_if_ne 19 dX9_requireRoot_5 (by decide) b2i_RI (fun c1 => ?_) (fun c1 => ?_)
  · replace c1 := b2i_ne c1
    refine r_vret dX9_requireRoot_19 rfl ?_
    exact absurd (by assumption) hr
  · replace c1 := b2i_eq c1
    refine r_throwN (w := 3) rfl (List.mem_of_getElem? (i := 4) rfl) rfl dX9_requireRoot_8 dX9_requireRoot_11 (Or.inr ⟨rfl, dX9_requireRoot_12⟩) dX9_requireRoot_15 dX9_requireRoot_18 (Nat.le_of_ble_eq_true rfl) (Nat.le_of_ble_eq_true rfl) (by omega) (by omega) (fun z hz => ?_)
    exact ⟨rfl, rfl, hz⟩
theorem c_X9_unitOf1 {v : Int} (h : S.1 q = some (cO 1 [vi (p : Int), v1, v2, v3])) (hp : 3 ≤ p ∧ p ≤ 100003) (hv : RI v) (hr : v % (p : Int) ≠ 0) : PC g yX9_unitOf cX9_unitOf (iX9_unitOf mc ms) [.ref q, vi v] S (Rt (some (vi (v % (p : Int)))) S) := by
  have m1 := Int.emod_nonneg v (show (p : Int) ≠ 0 by omega)
  have m2 := Int.emod_lt_of_pos v (show (0 : Int) < p by omega)
  refine PC_of pnX9 rfl rfl rfl (Nat.le_of_ble_eq_true rfl) ?_
  refine r_aload_n dX9_unitOf_0 (i := 0) rfl rfl (r_iload_n dX9_unitOf_1 (i := 1) rfl rfl (r_i2l dX9_unitOf_2 (by omega) (c_vr dX9_unitOf_3 (c_X1_residueOf h hp ⟨by omega, by omega⟩) rfl rfl mq_X1_residueOf ml_X9_138 ⟨Nat.le_of_ble_eq_true rfl, Nat.le_of_ble_eq_true rfl⟩ h rfl rfl rfl (Nat.le_of_ble_eq_true rfl) (r_istore_n dX9_unitOf_6 (i := 2) rfl rfl (Nat.le_of_ble_eq_true rfl) ?_))))
  refine r_iload_n dX9_unitOf_7 (i := 2) rfl rfl ?_
  refine r_if_ne 22 dX9_unitOf_8 (by decide) (by omega) (fun c1 => ?_) (fun c1 => ?_)
  · refine r_iload_n dX9_unitOf_22 (i := 2) rfl rfl ?_
    refine r_iret dX9_unitOf_23 rfl rfl ?_
    first | omega | exact ⟨rfl, rfl⟩ | exact ⟨by rw [b2i_t (by omega)], rfl⟩ | exact ⟨by rw [b2i_f (by omega)], rfl⟩
  · omega
theorem c_X9_unitOf0 {v : Int} (h : S.1 q = some (cO 1 [vi (p : Int), v1, v2, v3])) (hp : 3 ≤ p ∧ p ≤ 100003) (hv : RI v) (hr : v % (p : Int) = 0) (hm : 1 ≤ mc) (hm2 : 6 ≤ ms) : PC g yX9_unitOf cX9_unitOf (iX9_unitOf mc ms) [.ref q, vi v] S (Th noneN S) := by
  refine PC_of pnX9 rfl rfl rfl (Nat.le_of_ble_eq_true rfl) ?_
  refine r_bud (kc' := 1) (ks' := 6) hm hm2 ?_
  refine r_aload_n dX9_unitOf_0 (i := 0) rfl rfl (r_iload_n dX9_unitOf_1 (i := 1) rfl rfl (r_i2l dX9_unitOf_2 (by omega) (c_vr dX9_unitOf_3 (c_X1_residueOf h hp ⟨by omega, by omega⟩) rfl rfl mq_X1_residueOf ml_X9_138 ⟨Nat.le_of_ble_eq_true rfl, Nat.le_of_ble_eq_true rfl⟩ h rfl rfl rfl (Nat.le_of_ble_eq_true rfl) (r_istore_n dX9_unitOf_6 (i := 2) rfl rfl (Nat.le_of_ble_eq_true rfl) ?_))))
  refine r_iload_n dX9_unitOf_7 (i := 2) rfl rfl ?_
  refine r_if_ne 22 dX9_unitOf_8 (by decide) (by omega) (fun c1 => ?_) (fun c1 => ?_)
  · refine r_iload_n dX9_unitOf_22 (i := 2) rfl rfl ?_
    refine r_iret dX9_unitOf_23 rfl rfl ?_
    omega
  · refine r_throwN (w := 3) rfl (List.mem_of_getElem? (i := 5) rfl) rfl dX9_unitOf_11 dX9_unitOf_14 (Or.inr ⟨rfl, dX9_unitOf_15⟩) dX9_unitOf_18 dX9_unitOf_21 (Nat.le_of_ble_eq_true rfl) (Nat.le_of_ble_eq_true rfl) (by omega) (by omega) (fun z hz => ?_)
    exact ⟨rfl, rfl, hz⟩
end REQ3
section REQ4
variable {g : GT} {S : PS} {mc ms : Nat} {x F : Nat} {a : Int → Int}
theorem lacks_0 {a : Int → Int} {s t : Int} : lacksI a s t = 0 ↔ ((0 ≤ s ∧ s ≤ 3) ∧ 0 ≤ t ∧ t ≤ 3) ∧ a (7 + s) ≠ 0 ∧ a (7 + t) ≠ 0 := by
  unfold lacksI
  constructor
  · intro h
    split at h
    · split at h <;> omega
    · omega
  · intro h
    rw [if_pos h.1, if_neg (by omega)]
theorem lacks_1 {a : Int → Int} {s t : Int} : lacksI a s t = 1 ↔ ¬ ((0 ≤ s ∧ s ≤ 3) ∧ 0 ≤ t ∧ t ≤ 3) := by
  unfold lacksI
  constructor
  · intro h
    split at h
    · split at h <;> omega
    · assumption
  · intro h
    rw [if_neg h]
theorem lacks_2 {a : Int → Int} {s t : Int} : lacksI a s t = 2 ↔ ((0 ≤ s ∧ s ≤ 3) ∧ 0 ≤ t ∧ t ≤ 3) ∧ (a (7 + s) = 0 ∨ a (7 + t) = 0) := by
  unfold lacksI
  constructor
  · intro h
    split at h
    · split at h <;> omega
    · omega
  · intro h
    rw [if_pos h.1, if_pos h.2]
theorem c_X9_requireTerms1 {s t : Int} (hx : S.1 x = some (xO x)) (hb : S.1 (x + 1) = some (bO (x + 1) (a 0))) (hsq : SqAt S (x + 1) a) (hl : ML a) (hs : RI s) (ht : RI t) (h : lacksI a s t = 0) : PC g yX9_requireTerms cX9_requireTerms (iX9_requireTerms mc ms) [.ref x, vi s, vi t] S (Rt none S) := by
  obtain ⟨⟨h1, h2⟩, h3⟩ := lacks_0.mp h
  obtain ⟨w, w1, w2, w3, w4⟩ := hsq
  obtain ⟨f1, s1, -⟩ := w4 s h1.1 (by omega)
  obtain ⟨f2, s2, -⟩ := w4 t h2.1 (by omega)
  have l1 := hl.1 s h1.1 (by omega)
  have l2 := hl.1 t h2.1 (by omega)
  refine PC_of pnX9 rfl rfl rfl (Nat.le_of_ble_eq_true rfl) ?_
  refine r_aload_n dX9_requireTerms_0 (i := 0) rfl rfl (r_iload_n dX9_requireTerms_1 (i := 1) rfl rfl (c_vr dX9_requireTerms_2 (c_X9_sequenceAt1 hx hb w3 hs h1) rfl rfl mq_X9_sequenceAt ml_X9_177 ⟨Nat.le_of_ble_eq_true rfl, Nat.le_of_ble_eq_true rfl⟩ hx rfl rfl rfl (Nat.le_of_ble_eq_true rfl) (r_astore_n dX9_requireTerms_5 (i := 3) rfl rfl (Nat.le_of_ble_eq_true rfl) (r_aload_n dX9_requireTerms_6 (i := 0) rfl rfl ?_))))
  refine r_iload_n dX9_requireTerms_7 (i := 2) rfl rfl (c_vr dX9_requireTerms_8 (c_X9_sequenceAt1 hx hb w3 ht h2) rfl rfl mq_X9_sequenceAt ml_X9_177 ⟨Nat.le_of_ble_eq_true rfl, Nat.le_of_ble_eq_true rfl⟩ hx rfl rfl rfl (Nat.le_of_ble_eq_true rfl) (r_astore dX9_requireTerms_11 rfl (Nat.le_of_ble_eq_true rfl) (r_aload_n dX9_requireTerms_13 (i := 3) rfl rfl (r_get dX9_requireTerms_14 fl_X9_181 s1.1 rfl ?_))))
  refine r_if_eq 28 dX9_requireTerms_17 (by decide) (by omega) (fun c1 => ?_) (fun c1 => ?_)
  · omega
  · refine r_aload dX9_requireTerms_20 rfl (r_get dX9_requireTerms_22 fl_X9_181 s2.1 rfl ?_)
    refine r_if_ne 39 dX9_requireTerms_25 (by decide) (by omega) (fun c2 => ?_) (fun c2 => ?_)
    · refine r_vret dX9_requireTerms_39 rfl ?_
      first | omega | exact ⟨rfl, rfl⟩ | exact ⟨by rw [b2i_t (by omega)], rfl⟩ | exact ⟨by rw [b2i_f (by omega)], rfl⟩
    · omega
theorem c_X9_requireTerms0 {s t : Int} (hx : S.1 x = some (xO x)) (hb : S.1 (x + 1) = some (bO (x + 1) (a 0))) (hsq : SqAt S (x + 1) a) (hl : ML a) (hs : RI s) (ht : RI t) (h : lacksI a s t = 1) (hm : 1 ≤ mc) (hm2 : 6 ≤ ms) : PC g yX9_requireTerms cX9_requireTerms (iX9_requireTerms mc ms) [.ref x, vi s, vi t] S (Th "java/lang/IndexOutOfBoundsException" S) := by
  have h1 := lacks_1.mp h
  obtain ⟨w, w1, w2, w3, w4⟩ := hsq
  refine PC_of pnX9 rfl rfl rfl (Nat.le_of_ble_eq_true rfl) ?_
  refine r_bud (kc' := 1) (ks' := 6) hm hm2 ?_
  by_cases hq : 0 ≤ s ∧ s ≤ 3
  · refine r_aload_n dX9_requireTerms_0 (i := 0) rfl rfl (r_iload_n dX9_requireTerms_1 (i := 1) rfl rfl (c_vr dX9_requireTerms_2 (c_X9_sequenceAt1 hx hb w3 hs hq) rfl rfl mq_X9_sequenceAt ml_X9_177 ⟨Nat.le_of_ble_eq_true rfl, Nat.le_of_ble_eq_true rfl⟩ hx rfl rfl rfl (Nat.le_of_ble_eq_true rfl) (r_astore_n dX9_requireTerms_5 (i := 3) rfl rfl (Nat.le_of_ble_eq_true rfl) (r_aload_n dX9_requireTerms_6 (i := 0) rfl rfl ?_))))
    refine r_iload_n dX9_requireTerms_7 (i := 2) rfl rfl ?_
    exact c_vx (E := "") dX9_requireTerms_8 (c_X9_sequenceAt0 (mc := 1) (ms := 6) hx ht (by omega) (by omega) (by omega)) rfl mq_X9_sequenceAt ml_X9_177 ⟨Nat.le_of_ble_eq_true rfl, Nat.le_of_ble_eq_true rfl⟩ hx rfl rfl rfl (Nat.le_of_ble_eq_true rfl) (by show 1 ≤ 1; omega) (by show 6 ≤ 6; omega) (fun o S' ho => ⟨_, ho.1, rfl, ho.2⟩)
  · refine r_aload_n dX9_requireTerms_0 (i := 0) rfl rfl (r_iload_n dX9_requireTerms_1 (i := 1) rfl rfl ?_)
    exact c_vx (E := "") dX9_requireTerms_2 (c_X9_sequenceAt0 (mc := 1) (ms := 6) hx hs hq (by omega) (by omega)) rfl mq_X9_sequenceAt ml_X9_177 ⟨Nat.le_of_ble_eq_true rfl, Nat.le_of_ble_eq_true rfl⟩ hx rfl rfl rfl (Nat.le_of_ble_eq_true rfl) (by show 1 ≤ 1; omega) (by show 6 ≤ 6; omega) (fun o S' ho => ⟨_, ho.1, rfl, ho.2⟩)
theorem c_X9_requireTerms2 {s t : Int} (hx : S.1 x = some (xO x)) (hb : S.1 (x + 1) = some (bO (x + 1) (a 0))) (hsq : SqAt S (x + 1) a) (hl : ML a) (hs : RI s) (ht : RI t) (h : lacksI a s t = 2) (hm : 1 ≤ mc) (hm2 : 6 ≤ ms) : PC g yX9_requireTerms cX9_requireTerms (iX9_requireTerms mc ms) [.ref x, vi s, vi t] S (Th "java/lang/IllegalStateException" S) := by
  obtain ⟨⟨h1, h2⟩, h3⟩ := lacks_2.mp h
  obtain ⟨w, w1, w2, w3, w4⟩ := hsq
  obtain ⟨f1, s1, -⟩ := w4 s h1.1 (by omega)
  obtain ⟨f2, s2, -⟩ := w4 t h2.1 (by omega)
  have l1 := hl.1 s h1.1 (by omega)
  have l2 := hl.1 t h2.1 (by omega)
  refine PC_of pnX9 rfl rfl rfl (Nat.le_of_ble_eq_true rfl) ?_
  refine r_bud (kc' := 1) (ks' := 6) hm hm2 ?_
  refine r_aload_n dX9_requireTerms_0 (i := 0) rfl rfl (r_iload_n dX9_requireTerms_1 (i := 1) rfl rfl (c_vr dX9_requireTerms_2 (c_X9_sequenceAt1 hx hb w3 hs h1) rfl rfl mq_X9_sequenceAt ml_X9_177 ⟨Nat.le_of_ble_eq_true rfl, Nat.le_of_ble_eq_true rfl⟩ hx rfl rfl rfl (Nat.le_of_ble_eq_true rfl) (r_astore_n dX9_requireTerms_5 (i := 3) rfl rfl (Nat.le_of_ble_eq_true rfl) (r_aload_n dX9_requireTerms_6 (i := 0) rfl rfl ?_))))
  refine r_iload_n dX9_requireTerms_7 (i := 2) rfl rfl (c_vr dX9_requireTerms_8 (c_X9_sequenceAt1 hx hb w3 ht h2) rfl rfl mq_X9_sequenceAt ml_X9_177 ⟨Nat.le_of_ble_eq_true rfl, Nat.le_of_ble_eq_true rfl⟩ hx rfl rfl rfl (Nat.le_of_ble_eq_true rfl) (r_astore dX9_requireTerms_11 rfl (Nat.le_of_ble_eq_true rfl) (r_aload_n dX9_requireTerms_13 (i := 3) rfl rfl (r_get dX9_requireTerms_14 fl_X9_181 s1.1 rfl ?_))))
  refine r_if_eq 28 dX9_requireTerms_17 (by decide) (by omega) (fun c1 => ?_) (fun c1 => ?_)
  · refine r_throwSW th_state (List.mem_of_getElem? (i := 10) rfl) rfl dX9_requireTerms_28 dX9_requireTerms_31 dX9_requireTerms_32 dX9_requireTerms_35 dX9_requireTerms_38 (Nat.le_of_ble_eq_true rfl) (Nat.le_of_ble_eq_true rfl) (by omega) (by omega) (fun z hz => ?_)
    exact ⟨rfl, rfl, hz⟩
  · refine r_aload dX9_requireTerms_20 rfl (r_get dX9_requireTerms_22 fl_X9_181 s2.1 rfl ?_)
    refine r_if_ne 39 dX9_requireTerms_25 (by decide) (by omega) (fun c2 => ?_) (fun c2 => ?_)
    · refine r_vret dX9_requireTerms_39 rfl ?_
      omega
    · refine r_throwSW th_state (List.mem_of_getElem? (i := 10) rfl) rfl dX9_requireTerms_28 dX9_requireTerms_31 dX9_requireTerms_32 dX9_requireTerms_35 dX9_requireTerms_38 (Nat.le_of_ble_eq_true rfl) (Nat.le_of_ble_eq_true rfl) (by omega) (by omega) (fun z hz => ?_)
      exact ⟨rfl, rfl, hz⟩
end REQ4
section REQ5
variable {g : GT} {S : PS} {mc ms : Nat} {s t : Nat} {ca cb : Int} {f h : Int → Int}
theorem c_X9_isSizeOf {kd n : Int} (hA : SeqAt S s ca f) (hB : SeqAt S t cb h) (hca : 0 ≤ ca ∧ ca ≤ 32) (hcb : 0 ≤ cb ∧ cb ≤ 32) (hk : RI kd) (hn : RI n) : PC g yX9_isSizeOf cX9_isSizeOf (iX9_isSizeOf mc ms) [vi kd, .ref s, .ref t, vi n] S (Rt (some (vi (b2i (if kd = 0 then n = ca + cb - 1 else ca ≤ n ∧ cb ≤ n)))) S) := by
  refine PC_of pnX9 rfl rfl rfl (Nat.le_of_ble_eq_true rfl) ?_
  refine r_iload_n dX9_isSizeOf_0 (i := 0) rfl rfl ?_
  refine r_if_ne 25 dX9_isSizeOf_1 (by decide) (by omega) (fun c1 => ?_) (fun c1 => ?_)
  · refine r_iload_n dX9_isSizeOf_25 (i := 3) rfl rfl (r_aload_n dX9_isSizeOf_26 (i := 1) rfl rfl (r_get dX9_isSizeOf_27 fl_X9_181 hA.1 rfl ?_))
    refine r_icmp_lt 45 dX9_isSizeOf_30 (by decide) (by omega) (by omega) (fun c2 => ?_) (fun c2 => ?_)
    · refine r_iconst dX9_isSizeOf_45 ?_
      refine r_iret dX9_isSizeOf_46 rfl (q_narZ (by first | exact Or.inl rfl | exact Or.inr rfl)) ?_
      exact ⟨by rw [b2i_f (by split <;> omega)], rfl⟩
    · refine r_iload_n dX9_isSizeOf_33 (i := 3) rfl rfl (r_aload_n dX9_isSizeOf_34 (i := 2) rfl rfl (r_get dX9_isSizeOf_35 fl_X9_181 hB.1 rfl ?_))
      refine r_icmp_lt 45 dX9_isSizeOf_38 (by decide) (by omega) (by omega) (fun c3 => ?_) (fun c3 => ?_)
      · refine r_iconst dX9_isSizeOf_45 ?_
        refine r_iret dX9_isSizeOf_46 rfl (q_narZ (by first | exact Or.inl rfl | exact Or.inr rfl)) ?_
        exact ⟨by rw [b2i_f (by split <;> omega)], rfl⟩
      · refine r_iconst dX9_isSizeOf_41 (r_goto 46 dX9_isSizeOf_42 (by decide) ?_)
        refine r_iret dX9_isSizeOf_46 rfl (q_narZ (by first | exact Or.inl rfl | exact Or.inr rfl)) ?_
        exact ⟨by rw [b2i_t (by split <;> omega)], rfl⟩
  · refine r_iload_n dX9_isSizeOf_4 (i := 3) rfl rfl (r_aload_n dX9_isSizeOf_5 (i := 1) rfl rfl (r_get dX9_isSizeOf_6 fl_X9_181 hA.1 rfl (r_aload_n dX9_isSizeOf_9 (i := 2) rfl rfl (r_get dX9_isSizeOf_10 fl_X9_181 hB.1 rfl ?_))))
    refine r_iadd dX9_isSizeOf_13 (r_iconst dX9_isSizeOf_14 (r_isub dX9_isSizeOf_15 ?_))
    refine r_icmp_ne 23 dX9_isSizeOf_16 (by decide) (by omega) (by omega) (fun c4 => ?_) (fun c4 => ?_)
    · refine r_iconst dX9_isSizeOf_23 ?_
      refine r_iret dX9_isSizeOf_24 rfl (q_narZ (by first | exact Or.inl rfl | exact Or.inr rfl)) ?_
      exact ⟨by rw [b2i_f (by split <;> omega)], rfl⟩
    · refine r_iconst dX9_isSizeOf_19 (r_goto 24 dX9_isSizeOf_20 (by decide) ?_)
      refine r_iret dX9_isSizeOf_24 rfl (q_narZ (by first | exact Or.inl rfl | exact Or.inr rfl)) ?_
      exact ⟨by rw [b2i_t (by split <;> omega)], rfl⟩
theorem c_X9_sizeOf1 {kd n : Int} (hA : SeqAt S s ca f) (hB : SeqAt S t cb h) (hca : 0 ≤ ca ∧ ca ≤ 32) (hcb : 0 ≤ cb ∧ cb ≤ 32) (hk : RI kd) (hn : RI n) (hh : kd = 0 ∨ ((1 ≤ kd ∧ kd ≤ 2) ∧ (1 ≤ n ∧ n ≤ 64) ∧ ca ≤ n ∧ cb ≤ n)) : PC g yX9_sizeOf cX9_sizeOf (iX9_sizeOf mc ms) [vi kd, .ref s, .ref t, vi n] S (Rt (some (vi (if kd = 0 then ca + cb - 1 else n))) S) := by
  refine PC_of pnX9 rfl rfl rfl (Nat.le_of_ble_eq_true rfl) ?_
  refine r_iload_n dX9_sizeOf_0 (i := 0) rfl rfl (c_sr dX9_sizeOf_1 (c_X9_isKind hk) rfl rfl mq_X9_isKind ml_X9_168 ⟨Nat.le_of_ble_eq_true rfl, Nat.le_of_ble_eq_true rfl⟩ rfl rfl (Nat.le_of_ble_eq_true rfl) (c_sn dX9_sizeOf_4 (c_X9_require1 (by rw [b2i_t (by omega)]; decide) b2i_RI) rfl rfl mq_X9_require ml_X9_70 ⟨Nat.le_of_ble_eq_true rfl, Nat.le_of_ble_eq_true rfl⟩ rfl rfl (Nat.le_of_ble_eq_true rfl) (r_iload_n dX9_sizeOf_7 (i := 0) rfl rfl ?_)))
  refine r_if_ne 23 dX9_sizeOf_8 (by decide) (by omega) (fun c1 => ?_) (fun c1 => ?_)
  · refine r_iload_n dX9_sizeOf_23 (i := 3) rfl rfl (c_sr dX9_sizeOf_24 (c_X9_isLength hn) rfl rfl mq_X9_isLength ml_X9_171 ⟨Nat.le_of_ble_eq_true rfl, Nat.le_of_ble_eq_true rfl⟩ rfl rfl (Nat.le_of_ble_eq_true rfl) ?_)
    refine r_if_eq 44 dX9_sizeOf_27 (by decide) b2i_RI (fun c2 => ?_) (fun c2 => ?_)
    · replace c2 := b2i_eq c2
      refine r_iconst dX9_sizeOf_44 ?_
      first
        | omega
        | (exfalso; have e9 : ¬ (if kd = 0 then n = ca + cb - 1 else ca ≤ n ∧ cb ≤ n) := by assumption
           rw [if_neg (by omega)] at e9
           omega)
        | (refine c_sn dX9_sizeOf_45 (c_X9_require1 (by decide) ⟨by omega, by omega⟩) rfl rfl mq_X9_require ml_X9_70 ⟨Nat.le_of_ble_eq_true rfl, Nat.le_of_ble_eq_true rfl⟩ rfl rfl (Nat.le_of_ble_eq_true rfl) ?_
           refine r_iload_n dX9_sizeOf_48 (i := 3) rfl rfl (r_iret dX9_sizeOf_49 rfl rfl ?_)
           exact ⟨by rw [if_neg (by omega)], rfl⟩)
    · replace c2 := b2i_ne c2
      refine r_iload_n dX9_sizeOf_30 (i := 0) rfl rfl (r_aload_n dX9_sizeOf_31 (i := 1) rfl rfl (r_aload_n dX9_sizeOf_32 (i := 2) rfl rfl (r_iload_n dX9_sizeOf_33 (i := 3) rfl rfl (c_sr dX9_sizeOf_34 (c_X9_isSizeOf hA hB hca hcb hk hn) rfl rfl mq_X9_isSizeOf ml_X9_331 ⟨Nat.le_of_ble_eq_true rfl, Nat.le_of_ble_eq_true rfl⟩ rfl rfl (Nat.le_of_ble_eq_true rfl) ?_))))
      refine r_if_eq 44 dX9_sizeOf_37 (by decide) b2i_RI (fun c3 => ?_) (fun c3 => ?_)
      · replace c3 := b2i_eq c3
        refine r_iconst dX9_sizeOf_44 ?_
        first
          | omega
          | (exfalso; have e9 : ¬ (if kd = 0 then n = ca + cb - 1 else ca ≤ n ∧ cb ≤ n) := by assumption
             rw [if_neg (by omega)] at e9
             omega)
          | (refine c_sn dX9_sizeOf_45 (c_X9_require1 (by decide) ⟨by omega, by omega⟩) rfl rfl mq_X9_require ml_X9_70 ⟨Nat.le_of_ble_eq_true rfl, Nat.le_of_ble_eq_true rfl⟩ rfl rfl (Nat.le_of_ble_eq_true rfl) ?_
             refine r_iload_n dX9_sizeOf_48 (i := 3) rfl rfl (r_iret dX9_sizeOf_49 rfl rfl ?_)
             exact ⟨by rw [if_neg (by omega)], rfl⟩)
      · replace c3 := b2i_ne c3
        refine r_iconst dX9_sizeOf_40 (r_goto 45 dX9_sizeOf_41 (by decide) ?_)
        first
          | omega
          | (exfalso; have e9 : ¬ (if kd = 0 then n = ca + cb - 1 else ca ≤ n ∧ cb ≤ n) := by assumption
             rw [if_neg (by omega)] at e9
             omega)
          | (refine c_sn dX9_sizeOf_45 (c_X9_require1 (by decide) ⟨by omega, by omega⟩) rfl rfl mq_X9_require ml_X9_70 ⟨Nat.le_of_ble_eq_true rfl, Nat.le_of_ble_eq_true rfl⟩ rfl rfl (Nat.le_of_ble_eq_true rfl) ?_
             refine r_iload_n dX9_sizeOf_48 (i := 3) rfl rfl (r_iret dX9_sizeOf_49 rfl rfl ?_)
             exact ⟨by rw [if_neg (by omega)], rfl⟩)
  · refine r_aload_n dX9_sizeOf_11 (i := 1) rfl rfl (r_get dX9_sizeOf_12 fl_X9_181 hA.1 rfl (r_aload_n dX9_sizeOf_15 (i := 2) rfl rfl (r_get dX9_sizeOf_16 fl_X9_181 hB.1 rfl (r_iadd dX9_sizeOf_19 ?_))))
    refine r_iconst dX9_sizeOf_20 (r_isub dX9_sizeOf_21 ?_)
    refine r_iret dX9_sizeOf_22 rfl rfl ?_
    first
      | exact ⟨by rw [if_pos (by omega)], rfl⟩
      | exact ⟨by rw [if_neg (by omega)], rfl⟩
theorem c_X9_sizeOf0 {kd n : Int} (hA : SeqAt S s ca f) (hB : SeqAt S t cb h) (hca : 0 ≤ ca ∧ ca ≤ 32) (hcb : 0 ≤ cb ∧ cb ≤ 32) (hk : RI kd) (hn : RI n) (hh : ¬ (kd = 0 ∨ ((1 ≤ kd ∧ kd ≤ 2) ∧ (1 ≤ n ∧ n ≤ 64) ∧ ca ≤ n ∧ cb ≤ n))) (hm : 1 ≤ mc) (hm2 : 6 ≤ ms) : PC g yX9_sizeOf cX9_sizeOf (iX9_sizeOf mc ms) [vi kd, .ref s, .ref t, vi n] S (Th "java/lang/IllegalArgumentException" S) := by
  refine PC_of pnX9 rfl rfl rfl (Nat.le_of_ble_eq_true rfl) ?_
  refine r_bud (kc' := 1) (ks' := 6) hm hm2 ?_
  by_cases hkd : 0 ≤ kd ∧ kd ≤ 2
  · refine r_iload_n dX9_sizeOf_0 (i := 0) rfl rfl (c_sr dX9_sizeOf_1 (c_X9_isKind hk) rfl rfl mq_X9_isKind ml_X9_168 ⟨Nat.le_of_ble_eq_true rfl, Nat.le_of_ble_eq_true rfl⟩ rfl rfl (Nat.le_of_ble_eq_true rfl) (c_sn dX9_sizeOf_4 (c_X9_require1 (by rw [b2i_t (by omega)]; decide) b2i_RI) rfl rfl mq_X9_require ml_X9_70 ⟨Nat.le_of_ble_eq_true rfl, Nat.le_of_ble_eq_true rfl⟩ rfl rfl (Nat.le_of_ble_eq_true rfl) (r_iload_n dX9_sizeOf_7 (i := 0) rfl rfl ?_)))
    refine r_if_ne 23 dX9_sizeOf_8 (by decide) (by omega) (fun c1 => ?_) (fun c1 => ?_)
    · refine r_iload_n dX9_sizeOf_23 (i := 3) rfl rfl (c_sr dX9_sizeOf_24 (c_X9_isLength hn) rfl rfl mq_X9_isLength ml_X9_171 ⟨Nat.le_of_ble_eq_true rfl, Nat.le_of_ble_eq_true rfl⟩ rfl rfl (Nat.le_of_ble_eq_true rfl) ?_)
      refine r_if_eq 44 dX9_sizeOf_27 (by decide) b2i_RI (fun c2 => ?_) (fun c2 => ?_)
      · replace c2 := b2i_eq c2
        refine r_iconst dX9_sizeOf_44 ?_
        first
          | (exfalso; have e9 : (if kd = 0 then n = ca + cb - 1 else ca ≤ n ∧ cb ≤ n) := by assumption
             rw [if_neg (by omega)] at e9
             omega)
          | (have hrz : ∀ z : Int, z = 0 → PC g yX9_require cX9_require (iX9_require 1 6) [vi z] S (Th "java/lang/IllegalArgumentException" S) := fun z hz => c_X9_require0 (mc := 1) (ms := 6) hz (by omega) (by omega)
             exact c_sx dX9_sizeOf_45 (hrz 0 rfl) rfl mq_X9_require ml_X9_70 ⟨Nat.le_of_ble_eq_true rfl, Nat.le_of_ble_eq_true rfl⟩ rfl rfl (Nat.le_of_ble_eq_true rfl) (by show 1 ≤ 1; omega) (by show 6 ≤ 6; omega) (fun o S' ho => ⟨_, ho.1, rfl, ho.2⟩))
      · replace c2 := b2i_ne c2
        refine r_iload_n dX9_sizeOf_30 (i := 0) rfl rfl (r_aload_n dX9_sizeOf_31 (i := 1) rfl rfl (r_aload_n dX9_sizeOf_32 (i := 2) rfl rfl (r_iload_n dX9_sizeOf_33 (i := 3) rfl rfl (c_sr dX9_sizeOf_34 (c_X9_isSizeOf hA hB hca hcb hk hn) rfl rfl mq_X9_isSizeOf ml_X9_331 ⟨Nat.le_of_ble_eq_true rfl, Nat.le_of_ble_eq_true rfl⟩ rfl rfl (Nat.le_of_ble_eq_true rfl) ?_))))
        refine r_if_eq 44 dX9_sizeOf_37 (by decide) b2i_RI (fun c3 => ?_) (fun c3 => ?_)
        · replace c3 := b2i_eq c3
          refine r_iconst dX9_sizeOf_44 ?_
          first
            | (exfalso; have e9 : (if kd = 0 then n = ca + cb - 1 else ca ≤ n ∧ cb ≤ n) := by assumption
               rw [if_neg (by omega)] at e9
               omega)
            | (have hrz : ∀ z : Int, z = 0 → PC g yX9_require cX9_require (iX9_require 1 6) [vi z] S (Th "java/lang/IllegalArgumentException" S) := fun z hz => c_X9_require0 (mc := 1) (ms := 6) hz (by omega) (by omega)
               exact c_sx dX9_sizeOf_45 (hrz 0 rfl) rfl mq_X9_require ml_X9_70 ⟨Nat.le_of_ble_eq_true rfl, Nat.le_of_ble_eq_true rfl⟩ rfl rfl (Nat.le_of_ble_eq_true rfl) (by show 1 ≤ 1; omega) (by show 6 ≤ 6; omega) (fun o S' ho => ⟨_, ho.1, rfl, ho.2⟩))
        · replace c3 := b2i_ne c3
          refine r_iconst dX9_sizeOf_40 (r_goto 45 dX9_sizeOf_41 (by decide) ?_)
          first
            | (exfalso; have e9 : (if kd = 0 then n = ca + cb - 1 else ca ≤ n ∧ cb ≤ n) := by assumption
               rw [if_neg (by omega)] at e9
               omega)
            | (have hrz : ∀ z : Int, z = 0 → PC g yX9_require cX9_require (iX9_require 1 6) [vi z] S (Th "java/lang/IllegalArgumentException" S) := fun z hz => c_X9_require0 (mc := 1) (ms := 6) hz (by omega) (by omega)
               exact c_sx dX9_sizeOf_45 (hrz 0 rfl) rfl mq_X9_require ml_X9_70 ⟨Nat.le_of_ble_eq_true rfl, Nat.le_of_ble_eq_true rfl⟩ rfl rfl (Nat.le_of_ble_eq_true rfl) (by show 1 ≤ 1; omega) (by show 6 ≤ 6; omega) (fun o S' ho => ⟨_, ho.1, rfl, ho.2⟩))
    · refine r_aload_n dX9_sizeOf_11 (i := 1) rfl rfl (r_get dX9_sizeOf_12 fl_X9_181 hA.1 rfl (r_aload_n dX9_sizeOf_15 (i := 2) rfl rfl (r_get dX9_sizeOf_16 fl_X9_181 hB.1 rfl (r_iadd dX9_sizeOf_19 ?_))))
      refine r_iconst dX9_sizeOf_20 (r_isub dX9_sizeOf_21 ?_)
      refine r_iret dX9_sizeOf_22 rfl rfl ?_
      omega
  · refine r_iload_n dX9_sizeOf_0 (i := 0) rfl rfl (c_sr dX9_sizeOf_1 (c_X9_isKind hk) rfl rfl mq_X9_isKind ml_X9_168 ⟨Nat.le_of_ble_eq_true rfl, Nat.le_of_ble_eq_true rfl⟩ rfl rfl (Nat.le_of_ble_eq_true rfl) ?_)
    exact c_sx dX9_sizeOf_4 (c_X9_require0 (mc := 1) (ms := 6) (b2i_f hkd) (by omega) (by omega)) rfl mq_X9_require ml_X9_70 ⟨Nat.le_of_ble_eq_true rfl, Nat.le_of_ble_eq_true rfl⟩ rfl rfl (Nat.le_of_ble_eq_true rfl) (by show 1 ≤ 1; omega) (by show 6 ≤ 6; omega) (fun o S' ho => ⟨_, ho.1, rfl, ho.2⟩)
end REQ5

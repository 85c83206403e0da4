/-! the law's wrappers: the class's answer goes to long[0], an exception to its number -/
theorem ca_13 : Cond.castable "java/lang/IllegalStateException" "java/lang/IllegalStateException" ∈ lw_tbl := wt2 (j := 34) rfl
theorem ca_19 : Cond.castable "java/lang/IllegalArgumentException" "java/lang/IllegalArgumentException" ∈ lw_tbl := wt2 (j := 117) rfl
theorem ca_27 : Cond.castable "java/lang/IndexOutOfBoundsException" "java/lang/IndexOutOfBoundsException" ∈ lw_tbl := wt3 (j := 115) rfl
theorem ca_36 : Cond.castable "java/util/NoSuchElementException" "java/util/NoSuchElementException" ∈ lw_tbl := wt3 (j := 170) rfl
section WRAP
variable {g : GT} {S : PS} {mc ms M N : Nat} {Q Qc : PO → PS → Prop} {x q ci : Nat} {fs : List Value} {o1 : Int → Int}
theorem w_feed {v0 v1 v2 v3 v4 : Int} (hc : PC g yX9_feed cX9_feed (iX9_feed M N) [.ref x, vi v0, vi v1, vi v2, vi v3, vi v4] S Qc) (hx : S.1 x = some (cO 9 fs)) (hm : M ≤ mc) (hm2 : N ≤ ms) (hN : ∀ o S1, Qc (.inl o) S1 → ∃ v : Int, o = some (vi v) ∧ RI v ∧ S1.1 q = some (cJ 1 o1) ∧ Q (.inl (some (vi 0))) (ps_put S1 q (cJ 1 (upI o1 0 v)))) (hX : ∀ E S1, Qc (.inr E) S1 → (E = "java/lang/IllegalStateException" ∧ Q (.inl (some (vi 1))) S1)) : PC g yL_feed cL_feed (iL_feed mc ms) [.ref x, vi v0, vi v1, vi v2, vi v3, vi v4, .ref q] S Q := by
  refine PC_ofH pnL rfl rfl (fun h => by cases h) (Nat.le_of_ble_eq_true rfl) ?_
  refine r_aload dL_feed_0 rfl (r_iconst dL_feed_2 (r_aload_n dL_feed_3 (i := 0) rfl rfl (r_iload_n dL_feed_4 (i := 1) rfl rfl (r_iload_n dL_feed_5 (i := 2) rfl rfl ?_))))
  refine r_iload_n dL_feed_6 (i := 3) rfl rfl (r_iload dL_feed_7 rfl (r_iload dL_feed_9 rfl ?_))
  refine r_invV dL_feed_11 hc mq_X9_feed ml_L_7 ⟨Nat.le_of_ble_eq_true rfl, Nat.le_of_ble_eq_true rfl⟩ hx rfl rfl rfl (Nat.le_of_ble_eq_true rfl) (kc' := mc - M) (ks' := ms - N) (by show M + _ ≤ mc; omega) (by show N + _ ≤ ms; omega) (fun E S1 h => ?_) (fun o S1 h => ?_)
  · rcases hX E S1 h with ⟨rfl, h9⟩
    refine px_catch [] (0, 16, 19, 13) [] rfl (fun z hz => by cases hz) rfl (by decide) cl_L_13 ca_13 (fun qe => ?_)
    refine r_astore dL_feed_19 rfl (Nat.le_of_ble_eq_true rfl) (r_iconst dL_feed_21 (r_iret dL_feed_22 rfl rfl ?_))
    exact h9
  · obtain ⟨v, rfl, hv, h1, h2⟩ := hN o S1 h
    show PW g _ _ 14 _ [vi v, vi 0, .ref q] _ _ _ _
    refine r_i2l dL_feed_14 (by omega) (r_last dL_feed_15 h1 (by omega) (by omega) (by omega) (r_goto 23 dL_feed_16 (by decide) (r_iconst dL_feed_23 (r_iret dL_feed_24 rfl rfl ?_))))
    exact h2
theorem w_load {v0 : Int} (hc : PC g yX9_load cX9_load (iX9_load M N) [.ref x, vi v0] S Qc) (hx : S.1 x = some (cO 9 fs)) (hm : M ≤ mc) (hm2 : N ≤ ms) (hN : ∀ o S1, Qc (.inl o) S1 → ∃ v : Int, o = some (vi v) ∧ RI v ∧ S1.1 q = some (cJ 1 o1) ∧ Q (.inl (some (vi 0))) (ps_put S1 q (cJ 1 (upI o1 0 v)))) (hX : ∀ E S1, Qc (.inr E) S1 → (E = "java/lang/IllegalArgumentException" ∧ Q (.inl (some (vi 1))) S1)) : PC g yL_load cL_load (iL_load mc ms) [.ref x, vi v0, .ref q] S Q := by
  refine PC_ofH pnL rfl rfl (fun h => by cases h) (Nat.le_of_ble_eq_true rfl) ?_
  refine r_aload_n dL_load_0 (i := 2) rfl rfl (r_iconst dL_load_1 (r_aload_n dL_load_2 (i := 0) rfl rfl (r_iload_n dL_load_3 (i := 1) rfl rfl ?_)))
  refine r_invV dL_load_4 hc mq_X9_load ml_L_15 ⟨Nat.le_of_ble_eq_true rfl, Nat.le_of_ble_eq_true rfl⟩ hx rfl rfl rfl (Nat.le_of_ble_eq_true rfl) (kc' := mc - M) (ks' := ms - N) (by show M + _ ≤ mc; omega) (by show N + _ ≤ ms; omega) (fun E S1 h => ?_) (fun o S1 h => ?_)
  · rcases hX E S1 h with ⟨rfl, h9⟩
    refine px_catch [] (0, 9, 12, 19) [] rfl (fun z hz => by cases hz) rfl (by decide) cl_L_19 ca_19 (fun qe => ?_)
    refine r_astore_n dL_load_12 (i := 3) rfl rfl (Nat.le_of_ble_eq_true rfl) (r_iconst dL_load_13 (r_iret dL_load_14 rfl rfl ?_))
    exact h9
  · obtain ⟨v, rfl, hv, h1, h2⟩ := hN o S1 h
    show PW g _ _ 7 _ [vi v, vi 0, .ref q] _ _ _ _
    refine r_i2l dL_load_7 (by omega) (r_last dL_load_8 h1 (by omega) (by omega) (by omega) (r_goto 15 dL_load_9 (by decide) (r_iconst dL_load_15 (r_iret dL_load_16 rfl rfl ?_))))
    exact h2
theorem w_addPrime {v0 : Int} (hc : PC g yX9_addPrime cX9_addPrime (iX9_addPrime M N) [.ref x, vi v0] S Qc) (hx : S.1 x = some (cO 9 fs)) (hm : M ≤ mc) (hm2 : N ≤ ms) (hN : ∀ o S1, Qc (.inl o) S1 → ∃ v : Int, o = some (vi v) ∧ RI v ∧ S1.1 q = some (cJ 1 o1) ∧ Q (.inl (some (vi 0))) (ps_put S1 q (cJ 1 (upI o1 0 v)))) (hX : ∀ E S1, Qc (.inr E) S1 → (E = "java/lang/IllegalArgumentException" ∧ Q (.inl (some (vi 1))) S1) ∨ (E = "java/lang/IllegalStateException" ∧ Q (.inl (some (vi 2))) S1)) : PC g yL_addPrime cL_addPrime (iL_addPrime mc ms) [.ref x, vi v0, .ref q] S Q := by
  refine PC_ofH pnL rfl rfl (fun h => by cases h) (Nat.le_of_ble_eq_true rfl) ?_
  refine r_aload_n dL_addPrime_0 (i := 2) rfl rfl (r_iconst dL_addPrime_1 (r_aload_n dL_addPrime_2 (i := 0) rfl rfl (r_iload_n dL_addPrime_3 (i := 1) rfl rfl ?_)))
  refine r_invV dL_addPrime_4 hc mq_X9_addPrime ml_L_21 ⟨Nat.le_of_ble_eq_true rfl, Nat.le_of_ble_eq_true rfl⟩ hx rfl rfl rfl (Nat.le_of_ble_eq_true rfl) (kc' := mc - M) (ks' := ms - N) (by show M + _ ≤ mc; omega) (by show N + _ ≤ ms; omega) (fun E S1 h => ?_) (fun o S1 h => ?_)
  · rcases hX E S1 h with ⟨rfl, h9⟩ | ⟨rfl, h9⟩
    · refine px_catch [] (0, 9, 12, 19) [(0, 9, 15, 13)] rfl (fun z hz => by cases hz) rfl (by decide) cl_L_19 ca_19 (fun qe => ?_)
      refine r_astore_n dL_addPrime_12 (i := 3) rfl rfl (Nat.le_of_ble_eq_true rfl) (r_iconst dL_addPrime_13 (r_iret dL_addPrime_14 rfl rfl ?_))
      exact h9
    · refine px_catch [(0, 9, 12, 19)] (0, 9, 15, 13) [] rfl (fun z hz => by
      simp only [List.mem_cons, List.not_mem_nil, or_false] at hz
      rcases hz with rfl
      · exact ⟨by decide, _, cl_L_19, by simp [excL]⟩) rfl (by decide) cl_L_13 ca_13 (fun qe => ?_)
      refine r_astore_n dL_addPrime_15 (i := 3) rfl rfl (Nat.le_of_ble_eq_true rfl) (r_iconst dL_addPrime_16 (r_iret dL_addPrime_17 rfl rfl ?_))
      exact h9
  · obtain ⟨v, rfl, hv, h1, h2⟩ := hN o S1 h
    show PW g _ _ 7 _ [vi v, vi 0, .ref q] _ _ _ _
    refine r_i2l dL_addPrime_7 (by omega) (r_last dL_addPrime_8 h1 (by omega) (by omega) (by omega) (r_goto 18 dL_addPrime_9 (by decide) (r_iconst dL_addPrime_18 (r_iret dL_addPrime_19 rfl rfl ?_))))
    exact h2
theorem w_removePrime {v0 : Int} (hc : PC g yX9_removePrime cX9_removePrime (iX9_removePrime M N) [.ref x, vi v0] S Qc) (hx : S.1 x = some (cO 9 fs)) (hm : M ≤ mc) (hm2 : N ≤ ms) (hN : ∀ o S1, Qc (.inl o) S1 → ∃ v : Int, o = some (vi v) ∧ RI v ∧ S1.1 q = some (cJ 1 o1) ∧ Q (.inl (some (vi 0))) (ps_put S1 q (cJ 1 (upI o1 0 v)))) (hX : ∀ E S1, Qc (.inr E) S1 → (E = "java/lang/IndexOutOfBoundsException" ∧ Q (.inl (some (vi 1))) S1)) : PC g yL_removePrime cL_removePrime (iL_removePrime mc ms) [.ref x, vi v0, .ref q] S Q := by
  refine PC_ofH pnL rfl rfl (fun h => by cases h) (Nat.le_of_ble_eq_true rfl) ?_
  refine r_aload_n dL_removePrime_0 (i := 2) rfl rfl (r_iconst dL_removePrime_1 (r_aload_n dL_removePrime_2 (i := 0) rfl rfl (r_iload_n dL_removePrime_3 (i := 1) rfl rfl ?_)))
  refine r_invV dL_removePrime_4 hc mq_X9_removePrime ml_L_24 ⟨Nat.le_of_ble_eq_true rfl, Nat.le_of_ble_eq_true rfl⟩ hx rfl rfl rfl (Nat.le_of_ble_eq_true rfl) (kc' := mc - M) (ks' := ms - N) (by show M + _ ≤ mc; omega) (by show N + _ ≤ ms; omega) (fun E S1 h => ?_) (fun o S1 h => ?_)
  · rcases hX E S1 h with ⟨rfl, h9⟩
    refine px_catch [] (0, 9, 12, 27) [] rfl (fun z hz => by cases hz) rfl (by decide) cl_L_27 ca_27 (fun qe => ?_)
    refine r_astore_n dL_removePrime_12 (i := 3) rfl rfl (Nat.le_of_ble_eq_true rfl) (r_iconst dL_removePrime_13 (r_iret dL_removePrime_14 rfl rfl ?_))
    exact h9
  · obtain ⟨v, rfl, hv, h1, h2⟩ := hN o S1 h
    show PW g _ _ 7 _ [vi v, vi 0, .ref q] _ _ _ _
    refine r_i2l dL_removePrime_7 (by omega) (r_last dL_removePrime_8 h1 (by omega) (by omega) (by omega) (r_goto 15 dL_removePrime_9 (by decide) (r_iconst dL_removePrime_15 (r_iret dL_removePrime_16 rfl rfl ?_))))
    exact h2
theorem w_prime {v0 v1 : Int} (hc : PC g yX9_prime cX9_prime (iX9_prime M N) [.ref x, vi v0, vi v1] S Qc) (hx : S.1 x = some (cO 9 fs)) (hm : M ≤ mc) (hm2 : N ≤ ms) (hN : ∀ o S1, Qc (.inl o) S1 → ∃ v : Int, o = some (vi v) ∧ RI v ∧ S1.1 q = some (cJ 1 o1) ∧ Q (.inl (some (vi 0))) (ps_put S1 q (cJ 1 (upI o1 0 v)))) (hX : ∀ E S1, Qc (.inr E) S1 → (E = "java/lang/IndexOutOfBoundsException" ∧ Q (.inl (some (vi 1))) S1) ∨ (E = "java/lang/IllegalArgumentException" ∧ Q (.inl (some (vi 2))) S1)) : PC g yL_prime cL_prime (iL_prime mc ms) [.ref x, vi v0, vi v1, .ref q] S Q := by
  refine PC_ofH pnL rfl rfl (fun h => by cases h) (Nat.le_of_ble_eq_true rfl) ?_
  refine r_aload_n dL_prime_0 (i := 3) rfl rfl (r_iconst dL_prime_1 (r_aload_n dL_prime_2 (i := 0) rfl rfl (r_iload_n dL_prime_3 (i := 1) rfl rfl (r_iload_n dL_prime_4 (i := 2) rfl rfl ?_))))
  refine r_invV dL_prime_5 hc mq_X9_prime ml_L_29 ⟨Nat.le_of_ble_eq_true rfl, Nat.le_of_ble_eq_true rfl⟩ hx rfl rfl rfl (Nat.le_of_ble_eq_true rfl) (kc' := mc - M) (ks' := ms - N) (by show M + _ ≤ mc; omega) (by show N + _ ≤ ms; omega) (fun E S1 h => ?_) (fun o S1 h => ?_)
  · rcases hX E S1 h with ⟨rfl, h9⟩ | ⟨rfl, h9⟩
    · refine px_catch [] (0, 10, 13, 27) [(0, 10, 17, 19)] rfl (fun z hz => by cases hz) rfl (by decide) cl_L_27 ca_27 (fun qe => ?_)
      refine r_astore dL_prime_13 rfl (Nat.le_of_ble_eq_true rfl) (r_iconst dL_prime_15 (r_iret dL_prime_16 rfl rfl ?_))
      exact h9
    · refine px_catch [(0, 10, 13, 27)] (0, 10, 17, 19) [] rfl (fun z hz => by
      simp only [List.mem_cons, List.not_mem_nil, or_false] at hz
      rcases hz with rfl
      · exact ⟨by decide, _, cl_L_27, by simp [excL]⟩) rfl (by decide) cl_L_19 ca_19 (fun qe => ?_)
      refine r_astore dL_prime_17 rfl (Nat.le_of_ble_eq_true rfl) (r_iconst dL_prime_19 (r_iret dL_prime_20 rfl rfl ?_))
      exact h9
  · obtain ⟨v, rfl, hv, h1, h2⟩ := hN o S1 h
    show PW g _ _ 8 _ [vi v, vi 0, .ref q] _ _ _ _
    refine r_i2l dL_prime_8 (by omega) (r_last dL_prime_9 h1 (by omega) (by omega) (by omega) (r_goto 21 dL_prime_10 (by decide) (r_iconst dL_prime_21 (r_iret dL_prime_22 rfl rfl ?_))))
    exact h2
theorem w_root {v0 v1 : Int} (hc : PC g yX9_root cX9_root (iX9_root M N) [.ref x, vi v0, vi v1] S Qc) (hx : S.1 x = some (cO 9 fs)) (hm : M ≤ mc) (hm2 : N ≤ ms) (hN : ∀ o S1, Qc (.inl o) S1 → ∃ v : Int, o = some (vi v) ∧ RI v ∧ S1.1 q = some (cJ 1 o1) ∧ Q (.inl (some (vi 0))) (ps_put S1 q (cJ 1 (upI o1 0 v)))) (hX : ∀ E S1, Qc (.inr E) S1 → (E = "java/lang/IndexOutOfBoundsException" ∧ Q (.inl (some (vi 1))) S1) ∨ (E = "java/lang/IllegalArgumentException" ∧ Q (.inl (some (vi 2))) S1) ∨ (E = "java/util/NoSuchElementException" ∧ Q (.inl (some (vi 3))) S1)) : PC g yL_root cL_root (iL_root mc ms) [.ref x, vi v0, vi v1, .ref q] S Q := by
  refine PC_ofH pnL rfl rfl (fun h => by cases h) (Nat.le_of_ble_eq_true rfl) ?_
  refine r_aload_n dL_root_0 (i := 3) rfl rfl (r_iconst dL_root_1 (r_aload_n dL_root_2 (i := 0) rfl rfl (r_iload_n dL_root_3 (i := 1) rfl rfl (r_iload_n dL_root_4 (i := 2) rfl rfl ?_))))
  refine r_invV dL_root_5 hc mq_X9_root ml_L_33 ⟨Nat.le_of_ble_eq_true rfl, Nat.le_of_ble_eq_true rfl⟩ hx rfl rfl rfl (Nat.le_of_ble_eq_true rfl) (kc' := mc - M) (ks' := ms - N) (by show M + _ ≤ mc; omega) (by show N + _ ≤ ms; omega) (fun E S1 h => ?_) (fun o S1 h => ?_)
  · rcases hX E S1 h with ⟨rfl, h9⟩ | ⟨rfl, h9⟩ | ⟨rfl, h9⟩
    · refine px_catch [] (0, 10, 13, 27) [(0, 10, 17, 19), (0, 10, 21, 36)] rfl (fun z hz => by cases hz) rfl (by decide) cl_L_27 ca_27 (fun qe => ?_)
      refine r_astore dL_root_13 rfl (Nat.le_of_ble_eq_true rfl) (r_iconst dL_root_15 (r_iret dL_root_16 rfl rfl ?_))
      exact h9
    · refine px_catch [(0, 10, 13, 27)] (0, 10, 17, 19) [(0, 10, 21, 36)] rfl (fun z hz => by
      simp only [List.mem_cons, List.not_mem_nil, or_false] at hz
      rcases hz with rfl
      · exact ⟨by decide, _, cl_L_27, by simp [excL]⟩) rfl (by decide) cl_L_19 ca_19 (fun qe => ?_)
      refine r_astore dL_root_17 rfl (Nat.le_of_ble_eq_true rfl) (r_iconst dL_root_19 (r_iret dL_root_20 rfl rfl ?_))
      exact h9
    · refine px_catch [(0, 10, 13, 27), (0, 10, 17, 19)] (0, 10, 21, 36) [] rfl (fun z hz => by
      simp only [List.mem_cons, List.not_mem_nil, or_false] at hz
      rcases hz with rfl | rfl
      · exact ⟨by decide, _, cl_L_27, by simp [excL]⟩
      · exact ⟨by decide, _, cl_L_19, by simp [excL]⟩) rfl (by decide) cl_L_36 ca_36 (fun qe => ?_)
      refine r_astore dL_root_21 rfl (Nat.le_of_ble_eq_true rfl) (r_iconst dL_root_23 (r_iret dL_root_24 rfl rfl ?_))
      exact h9
  · obtain ⟨v, rfl, hv, h1, h2⟩ := hN o S1 h
    show PW g _ _ 8 _ [vi v, vi 0, .ref q] _ _ _ _
    refine r_i2l dL_root_8 (by omega) (r_last dL_root_9 h1 (by omega) (by omega) (by omega) (r_goto 25 dL_root_10 (by decide) (r_iconst dL_root_25 (r_iret dL_root_26 rfl rfl ?_))))
    exact h2
theorem w_power {v0 v1 v2 : Int} (hc : PC g yX9_power cX9_power (iX9_power M N) [.ref x, vi v0, vi v1, vi v2] S Qc) (hx : S.1 x = some (cO 9 fs)) (hm : M ≤ mc) (hm2 : N ≤ ms) (hN : ∀ o S1, Qc (.inl o) S1 → ∃ v : Int, o = some (vi v) ∧ RI v ∧ S1.1 q = some (cJ 1 o1) ∧ Q (.inl (some (vi 0))) (ps_put S1 q (cJ 1 (upI o1 0 v)))) (hX : ∀ E S1, Qc (.inr E) S1 → (E = "java/lang/IndexOutOfBoundsException" ∧ Q (.inl (some (vi 1))) S1) ∨ (E = "java/lang/IllegalArgumentException" ∧ Q (.inl (some (vi 2))) S1)) : PC g yL_power cL_power (iL_power mc ms) [.ref x, vi v0, vi v1, vi v2, .ref q] S Q := by
  refine PC_ofH pnL rfl rfl (fun h => by cases h) (Nat.le_of_ble_eq_true rfl) ?_
  refine r_aload dL_power_0 rfl (r_iconst dL_power_2 (r_aload_n dL_power_3 (i := 0) rfl rfl (r_iload_n dL_power_4 (i := 1) rfl rfl (r_iload_n dL_power_5 (i := 2) rfl rfl ?_))))
  refine r_iload_n dL_power_6 (i := 3) rfl rfl ?_
  refine r_invV dL_power_7 hc mq_X9_power ml_L_38 ⟨Nat.le_of_ble_eq_true rfl, Nat.le_of_ble_eq_true rfl⟩ hx rfl rfl rfl (Nat.le_of_ble_eq_true rfl) (kc' := mc - M) (ks' := ms - N) (by show M + _ ≤ mc; omega) (by show N + _ ≤ ms; omega) (fun E S1 h => ?_) (fun o S1 h => ?_)
  · rcases hX E S1 h with ⟨rfl, h9⟩ | ⟨rfl, h9⟩
    · refine px_catch [] (0, 12, 15, 27) [(0, 12, 19, 19)] rfl (fun z hz => by cases hz) rfl (by decide) cl_L_27 ca_27 (fun qe => ?_)
      refine r_astore dL_power_15 rfl (Nat.le_of_ble_eq_true rfl) (r_iconst dL_power_17 (r_iret dL_power_18 rfl rfl ?_))
      exact h9
    · refine px_catch [(0, 12, 15, 27)] (0, 12, 19, 19) [] rfl (fun z hz => by
      simp only [List.mem_cons, List.not_mem_nil, or_false] at hz
      rcases hz with rfl
      · exact ⟨by decide, _, cl_L_27, by simp [excL]⟩) rfl (by decide) cl_L_19 ca_19 (fun qe => ?_)
      refine r_astore dL_power_19 rfl (Nat.le_of_ble_eq_true rfl) (r_iconst dL_power_21 (r_iret dL_power_22 rfl rfl ?_))
      exact h9
  · obtain ⟨v, rfl, hv, h1, h2⟩ := hN o S1 h
    show PW g _ _ 10 _ [vi v, vi 0, .ref q] _ _ _ _
    refine r_i2l dL_power_10 (by omega) (r_last dL_power_11 h1 (by omega) (by omega) (by omega) (r_goto 23 dL_power_12 (by decide) (r_iconst dL_power_23 (r_iret dL_power_24 rfl rfl ?_))))
    exact h2
theorem w_inverse {v0 v1 : Int} (hc : PC g yX9_inverse cX9_inverse (iX9_inverse M N) [.ref x, vi v0, vi v1] S Qc) (hx : S.1 x = some (cO 9 fs)) (hm : M ≤ mc) (hm2 : N ≤ ms) (hN : ∀ o S1, Qc (.inl o) S1 → ∃ v : Int, o = some (vi v) ∧ RI v ∧ S1.1 q = some (cJ 1 o1) ∧ Q (.inl (some (vi 0))) (ps_put S1 q (cJ 1 (upI o1 0 v)))) (hX : ∀ E S1, Qc (.inr E) S1 → (E = "java/lang/IndexOutOfBoundsException" ∧ Q (.inl (some (vi 1))) S1) ∨ (E = "java/util/NoSuchElementException" ∧ Q (.inl (some (vi 2))) S1)) : PC g yL_inverse cL_inverse (iL_inverse mc ms) [.ref x, vi v0, vi v1, .ref q] S Q := by
  refine PC_ofH pnL rfl rfl (fun h => by cases h) (Nat.le_of_ble_eq_true rfl) ?_
  refine r_aload_n dL_inverse_0 (i := 3) rfl rfl (r_iconst dL_inverse_1 (r_aload_n dL_inverse_2 (i := 0) rfl rfl (r_iload_n dL_inverse_3 (i := 1) rfl rfl (r_iload_n dL_inverse_4 (i := 2) rfl rfl ?_))))
  refine r_invV dL_inverse_5 hc mq_X9_inverse ml_L_42 ⟨Nat.le_of_ble_eq_true rfl, Nat.le_of_ble_eq_true rfl⟩ hx rfl rfl rfl (Nat.le_of_ble_eq_true rfl) (kc' := mc - M) (ks' := ms - N) (by show M + _ ≤ mc; omega) (by show N + _ ≤ ms; omega) (fun E S1 h => ?_) (fun o S1 h => ?_)
  · rcases hX E S1 h with ⟨rfl, h9⟩ | ⟨rfl, h9⟩
    · refine px_catch [] (0, 10, 13, 27) [(0, 10, 17, 36)] rfl (fun z hz => by cases hz) rfl (by decide) cl_L_27 ca_27 (fun qe => ?_)
      refine r_astore dL_inverse_13 rfl (Nat.le_of_ble_eq_true rfl) (r_iconst dL_inverse_15 (r_iret dL_inverse_16 rfl rfl ?_))
      exact h9
    · refine px_catch [(0, 10, 13, 27)] (0, 10, 17, 36) [] rfl (fun z hz => by
      simp only [List.mem_cons, List.not_mem_nil, or_false] at hz
      rcases hz with rfl
      · exact ⟨by decide, _, cl_L_27, by simp [excL]⟩) rfl (by decide) cl_L_36 ca_36 (fun qe => ?_)
      refine r_astore dL_inverse_17 rfl (Nat.le_of_ble_eq_true rfl) (r_iconst dL_inverse_19 (r_iret dL_inverse_20 rfl rfl ?_))
      exact h9
  · obtain ⟨v, rfl, hv, h1, h2⟩ := hN o S1 h
    show PW g _ _ 8 _ [vi v, vi 0, .ref q] _ _ _ _
    refine r_i2l dL_inverse_8 (by omega) (r_last dL_inverse_9 h1 (by omega) (by omega) (by omega) (r_goto 21 dL_inverse_10 (by decide) (r_iconst dL_inverse_21 (r_iret dL_inverse_22 rfl rfl ?_))))
    exact h2
theorem w_order {v0 v1 : Int} (hc : PC g yX9_order cX9_order (iX9_order M N) [.ref x, vi v0, vi v1] S Qc) (hx : S.1 x = some (cO 9 fs)) (hm : M ≤ mc) (hm2 : N ≤ ms) (hN : ∀ o S1, Qc (.inl o) S1 → ∃ v : Int, o = some (vi v) ∧ RI v ∧ S1.1 q = some (cJ 1 o1) ∧ Q (.inl (some (vi 0))) (ps_put S1 q (cJ 1 (upI o1 0 v)))) (hX : ∀ E S1, Qc (.inr E) S1 → (E = "java/lang/IndexOutOfBoundsException" ∧ Q (.inl (some (vi 1))) S1) ∨ (E = "java/util/NoSuchElementException" ∧ Q (.inl (some (vi 2))) S1)) : PC g yL_order cL_order (iL_order mc ms) [.ref x, vi v0, vi v1, .ref q] S Q := by
  refine PC_ofH pnL rfl rfl (fun h => by cases h) (Nat.le_of_ble_eq_true rfl) ?_
  refine r_aload_n dL_order_0 (i := 3) rfl rfl (r_iconst dL_order_1 (r_aload_n dL_order_2 (i := 0) rfl rfl (r_iload_n dL_order_3 (i := 1) rfl rfl (r_iload_n dL_order_4 (i := 2) rfl rfl ?_))))
  refine r_invV dL_order_5 hc mq_X9_order ml_L_45 ⟨Nat.le_of_ble_eq_true rfl, Nat.le_of_ble_eq_true rfl⟩ hx rfl rfl rfl (Nat.le_of_ble_eq_true rfl) (kc' := mc - M) (ks' := ms - N) (by show M + _ ≤ mc; omega) (by show N + _ ≤ ms; omega) (fun E S1 h => ?_) (fun o S1 h => ?_)
  · rcases hX E S1 h with ⟨rfl, h9⟩ | ⟨rfl, h9⟩
    · refine px_catch [] (0, 10, 13, 27) [(0, 10, 17, 36)] rfl (fun z hz => by cases hz) rfl (by decide) cl_L_27 ca_27 (fun qe => ?_)
      refine r_astore dL_order_13 rfl (Nat.le_of_ble_eq_true rfl) (r_iconst dL_order_15 (r_iret dL_order_16 rfl rfl ?_))
      exact h9
    · refine px_catch [(0, 10, 13, 27)] (0, 10, 17, 36) [] rfl (fun z hz => by
      simp only [List.mem_cons, List.not_mem_nil, or_false] at hz
      rcases hz with rfl
      · exact ⟨by decide, _, cl_L_27, by simp [excL]⟩) rfl (by decide) cl_L_36 ca_36 (fun qe => ?_)
      refine r_astore dL_order_17 rfl (Nat.le_of_ble_eq_true rfl) (r_iconst dL_order_19 (r_iret dL_order_20 rfl rfl ?_))
      exact h9
  · obtain ⟨v, rfl, hv, h1, h2⟩ := hN o S1 h
    show PW g _ _ 8 _ [vi v, vi 0, .ref q] _ _ _ _
    refine r_i2l dL_order_8 (by omega) (r_last dL_order_9 h1 (by omega) (by omega) (by omega) (r_goto 21 dL_order_10 (by decide) (r_iconst dL_order_21 (r_iret dL_order_22 rfl rfl ?_))))
    exact h2
theorem w_logarithm {v0 v1 : Int} (hc : PC g yX9_logarithm cX9_logarithm (iX9_logarithm M N) [.ref x, vi v0, vi v1] S Qc) (hx : S.1 x = some (cO 9 fs)) (hm : M ≤ mc) (hm2 : N ≤ ms) (hN : ∀ o S1, Qc (.inl o) S1 → ∃ v : Int, o = some (vi v) ∧ RI v ∧ S1.1 q = some (cJ 1 o1) ∧ Q (.inl (some (vi 0))) (ps_put S1 q (cJ 1 (upI o1 0 v)))) (hX : ∀ E S1, Qc (.inr E) S1 → (E = "java/lang/IndexOutOfBoundsException" ∧ Q (.inl (some (vi 1))) S1) ∨ (E = "java/util/NoSuchElementException" ∧ Q (.inl (some (vi 2))) S1)) : PC g yL_logarithm cL_logarithm (iL_logarithm mc ms) [.ref x, vi v0, vi v1, .ref q] S Q := by
  refine PC_ofH pnL rfl rfl (fun h => by cases h) (Nat.le_of_ble_eq_true rfl) ?_
  refine r_aload_n dL_logarithm_0 (i := 3) rfl rfl (r_iconst dL_logarithm_1 (r_aload_n dL_logarithm_2 (i := 0) rfl rfl (r_iload_n dL_logarithm_3 (i := 1) rfl rfl (r_iload_n dL_logarithm_4 (i := 2) rfl rfl ?_))))
  refine r_invV dL_logarithm_5 hc mq_X9_logarithm ml_L_48 ⟨Nat.le_of_ble_eq_true rfl, Nat.le_of_ble_eq_true rfl⟩ hx rfl rfl rfl (Nat.le_of_ble_eq_true rfl) (kc' := mc - M) (ks' := ms - N) (by show M + _ ≤ mc; omega) (by show N + _ ≤ ms; omega) (fun E S1 h => ?_) (fun o S1 h => ?_)
  · rcases hX E S1 h with ⟨rfl, h9⟩ | ⟨rfl, h9⟩
    · refine px_catch [] (0, 10, 13, 27) [(0, 10, 17, 36)] rfl (fun z hz => by cases hz) rfl (by decide) cl_L_27 ca_27 (fun qe => ?_)
      refine r_astore dL_logarithm_13 rfl (Nat.le_of_ble_eq_true rfl) (r_iconst dL_logarithm_15 (r_iret dL_logarithm_16 rfl rfl ?_))
      exact h9
    · refine px_catch [(0, 10, 13, 27)] (0, 10, 17, 36) [] rfl (fun z hz => by
      simp only [List.mem_cons, List.not_mem_nil, or_false] at hz
      rcases hz with rfl
      · exact ⟨by decide, _, cl_L_27, by simp [excL]⟩) rfl (by decide) cl_L_36 ca_36 (fun qe => ?_)
      refine r_astore dL_logarithm_17 rfl (Nat.le_of_ble_eq_true rfl) (r_iconst dL_logarithm_19 (r_iret dL_logarithm_20 rfl rfl ?_))
      exact h9
  · obtain ⟨v, rfl, hv, h1, h2⟩ := hN o S1 h
    show PW g _ _ 8 _ [vi v, vi 0, .ref q] _ _ _ _
    refine r_i2l dL_logarithm_8 (by omega) (r_last dL_logarithm_9 h1 (by omega) (by omega) (by omega) (r_goto 21 dL_logarithm_10 (by decide) (r_iconst dL_logarithm_21 (r_iret dL_logarithm_22 rfl rfl ?_))))
    exact h2
theorem w_primeFor {v0 v1 : Int} (hc : PC g yX9_primeFor cX9_primeFor (iX9_primeFor M N) [.ref x, vi v0, vi v1] S Qc) (hx : S.1 x = some (cO 9 fs)) (hm : M ≤ mc) (hm2 : N ≤ ms) (hN : ∀ o S1, Qc (.inl o) S1 → ∃ v : Int, o = some (vi v) ∧ RI v ∧ S1.1 q = some (cJ 1 o1) ∧ Q (.inl (some (vi 0))) (ps_put S1 q (cJ 1 (upI o1 0 v)))) (hX : ∀ E S1, Qc (.inr E) S1 → (E = "java/lang/IllegalArgumentException" ∧ Q (.inl (some (vi 1))) S1) ∨ (E = "java/util/NoSuchElementException" ∧ Q (.inl (some (vi 2))) S1)) : PC g yL_primeFor cL_primeFor (iL_primeFor mc ms) [.ref x, vi v0, vi v1, .ref q] S Q := by
  refine PC_ofH pnL rfl rfl (fun h => by cases h) (Nat.le_of_ble_eq_true rfl) ?_
  refine r_aload_n dL_primeFor_0 (i := 3) rfl rfl (r_iconst dL_primeFor_1 (r_aload_n dL_primeFor_2 (i := 0) rfl rfl (r_iload_n dL_primeFor_3 (i := 1) rfl rfl (r_iload_n dL_primeFor_4 (i := 2) rfl rfl ?_))))
  refine r_invV dL_primeFor_5 hc mq_X9_primeFor ml_L_51 ⟨Nat.le_of_ble_eq_true rfl, Nat.le_of_ble_eq_true rfl⟩ hx rfl rfl rfl (Nat.le_of_ble_eq_true rfl) (kc' := mc - M) (ks' := ms - N) (by show M + _ ≤ mc; omega) (by show N + _ ≤ ms; omega) (fun E S1 h => ?_) (fun o S1 h => ?_)
  · rcases hX E S1 h with ⟨rfl, h9⟩ | ⟨rfl, h9⟩
    · refine px_catch [] (0, 10, 13, 19) [(0, 10, 17, 36)] rfl (fun z hz => by cases hz) rfl (by decide) cl_L_19 ca_19 (fun qe => ?_)
      refine r_astore dL_primeFor_13 rfl (Nat.le_of_ble_eq_true rfl) (r_iconst dL_primeFor_15 (r_iret dL_primeFor_16 rfl rfl ?_))
      exact h9
    · refine px_catch [(0, 10, 13, 19)] (0, 10, 17, 36) [] rfl (fun z hz => by
      simp only [List.mem_cons, List.not_mem_nil, or_false] at hz
      rcases hz with rfl
      · exact ⟨by decide, _, cl_L_19, by simp [excL]⟩) rfl (by decide) cl_L_36 ca_36 (fun qe => ?_)
      refine r_astore dL_primeFor_17 rfl (Nat.le_of_ble_eq_true rfl) (r_iconst dL_primeFor_19 (r_iret dL_primeFor_20 rfl rfl ?_))
      exact h9
  · obtain ⟨v, rfl, hv, h1, h2⟩ := hN o S1 h
    show PW g _ _ 8 _ [vi v, vi 0, .ref q] _ _ _ _
    refine r_i2l dL_primeFor_8 (by omega) (r_last dL_primeFor_9 h1 (by omega) (by omega) (by omega) (r_goto 21 dL_primeFor_10 (by decide) (r_iconst dL_primeFor_21 (r_iret dL_primeFor_22 rfl rfl ?_))))
    exact h2
theorem w_usable {v0 v1 : Int} (hc : PC g yX9_usable cX9_usable (iX9_usable M N) [.ref x, vi v0, vi v1] S Qc) (hx : S.1 x = some (cO 9 fs)) (hm : M ≤ mc) (hm2 : N ≤ ms) (hN : ∀ o S1, Qc (.inl o) S1 → ∃ v : Int, o = some (vi v) ∧ RI v ∧ S1.1 q = some (cJ 1 o1) ∧ Q (.inl (some (vi 0))) (ps_put S1 q (cJ 1 (upI o1 0 v)))) (hX : ∀ E S1, Qc (.inr E) S1 → (E = "java/lang/IllegalArgumentException" ∧ Q (.inl (some (vi 1))) S1)) : PC g yL_usable cL_usable (iL_usable mc ms) [.ref x, vi v0, vi v1, .ref q] S Q := by
  refine PC_ofH pnL rfl rfl (fun h => by cases h) (Nat.le_of_ble_eq_true rfl) ?_
  refine r_aload_n dL_usable_0 (i := 3) rfl rfl (r_iconst dL_usable_1 (r_aload_n dL_usable_2 (i := 0) rfl rfl (r_iload_n dL_usable_3 (i := 1) rfl rfl (r_iload_n dL_usable_4 (i := 2) rfl rfl ?_))))
  refine r_invV dL_usable_5 hc mq_X9_usable ml_L_54 ⟨Nat.le_of_ble_eq_true rfl, Nat.le_of_ble_eq_true rfl⟩ hx rfl rfl rfl (Nat.le_of_ble_eq_true rfl) (kc' := mc - M) (ks' := ms - N) (by show M + _ ≤ mc; omega) (by show N + _ ≤ ms; omega) (fun E S1 h => ?_) (fun o S1 h => ?_)
  · rcases hX E S1 h with ⟨rfl, h9⟩
    refine px_catch [] (0, 10, 13, 19) [] rfl (fun z hz => by cases hz) rfl (by decide) cl_L_19 ca_19 (fun qe => ?_)
    refine r_astore dL_usable_13 rfl (Nat.le_of_ble_eq_true rfl) (r_iconst dL_usable_15 (r_iret dL_usable_16 rfl rfl ?_))
    exact h9
  · obtain ⟨v, rfl, hv, h1, h2⟩ := hN o S1 h
    show PW g _ _ 8 _ [vi v, vi 0, .ref q] _ _ _ _
    refine r_i2l dL_usable_8 (by omega) (r_last dL_usable_9 h1 (by omega) (by omega) (by omega) (r_goto 17 dL_usable_10 (by decide) (r_iconst dL_usable_17 (r_iret dL_usable_18 rfl rfl ?_))))
    exact h2
theorem w_length {v0 : Int} (hc : PC g yX9_length cX9_length (iX9_length M N) [.ref x, vi v0] S Qc) (hx : S.1 x = some (cO 9 fs)) (hm : M ≤ mc) (hm2 : N ≤ ms) (hN : ∀ o S1, Qc (.inl o) S1 → ∃ v : Int, o = some (vi v) ∧ RI v ∧ S1.1 q = some (cJ 1 o1) ∧ Q (.inl (some (vi 0))) (ps_put S1 q (cJ 1 (upI o1 0 v)))) (hX : ∀ E S1, Qc (.inr E) S1 → (E = "java/lang/IndexOutOfBoundsException" ∧ Q (.inl (some (vi 1))) S1)) : PC g yL_length cL_length (iL_length mc ms) [.ref x, vi v0, .ref q] S Q := by
  refine PC_ofH pnL rfl rfl (fun h => by cases h) (Nat.le_of_ble_eq_true rfl) ?_
  refine r_aload_n dL_length_0 (i := 2) rfl rfl (r_iconst dL_length_1 (r_aload_n dL_length_2 (i := 0) rfl rfl (r_iload_n dL_length_3 (i := 1) rfl rfl ?_)))
  refine r_invV dL_length_4 hc mq_X9_length ml_L_57 ⟨Nat.le_of_ble_eq_true rfl, Nat.le_of_ble_eq_true rfl⟩ hx rfl rfl rfl (Nat.le_of_ble_eq_true rfl) (kc' := mc - M) (ks' := ms - N) (by show M + _ ≤ mc; omega) (by show N + _ ≤ ms; omega) (fun E S1 h => ?_) (fun o S1 h => ?_)
  · rcases hX E S1 h with ⟨rfl, h9⟩
    refine px_catch [] (0, 9, 12, 27) [] rfl (fun z hz => by cases hz) rfl (by decide) cl_L_27 ca_27 (fun qe => ?_)
    refine r_astore_n dL_length_12 (i := 3) rfl rfl (Nat.le_of_ble_eq_true rfl) (r_iconst dL_length_13 (r_iret dL_length_14 rfl rfl ?_))
    exact h9
  · obtain ⟨v, rfl, hv, h1, h2⟩ := hN o S1 h
    show PW g _ _ 7 _ [vi v, vi 0, .ref q] _ _ _ _
    refine r_i2l dL_length_7 (by omega) (r_last dL_length_8 h1 (by omega) (by omega) (by omega) (r_goto 15 dL_length_9 (by decide) (r_iconst dL_length_15 (r_iret dL_length_16 rfl rfl ?_))))
    exact h2
theorem w_term {v0 v1 : Int} (hc : PC g yX9_term cX9_term (iX9_term M N) [.ref x, vi v0, vi v1] S Qc) (hx : S.1 x = some (cO 9 fs)) (hm : M ≤ mc) (hm2 : N ≤ ms) (hN : ∀ o S1, Qc (.inl o) S1 → ∃ v : Int, o = some (vi v) ∧ RI v ∧ S1.1 q = some (cJ 1 o1) ∧ Q (.inl (some (vi 0))) (ps_put S1 q (cJ 1 (upI o1 0 v)))) (hX : ∀ E S1, Qc (.inr E) S1 → (E = "java/lang/IndexOutOfBoundsException" ∧ Q (.inl (some (vi 1))) S1)) : PC g yL_term cL_term (iL_term mc ms) [.ref x, vi v0, vi v1, .ref q] S Q := by
  refine PC_ofH pnL rfl rfl (fun h => by cases h) (Nat.le_of_ble_eq_true rfl) ?_
  refine r_aload_n dL_term_0 (i := 3) rfl rfl (r_iconst dL_term_1 (r_aload_n dL_term_2 (i := 0) rfl rfl (r_iload_n dL_term_3 (i := 1) rfl rfl (r_iload_n dL_term_4 (i := 2) rfl rfl ?_))))
  refine r_invV dL_term_5 hc mq_X9_term ml_L_60 ⟨Nat.le_of_ble_eq_true rfl, Nat.le_of_ble_eq_true rfl⟩ hx rfl rfl rfl (Nat.le_of_ble_eq_true rfl) (kc' := mc - M) (ks' := ms - N) (by show M + _ ≤ mc; omega) (by show N + _ ≤ ms; omega) (fun E S1 h => ?_) (fun o S1 h => ?_)
  · rcases hX E S1 h with ⟨rfl, h9⟩
    refine px_catch [] (0, 10, 13, 27) [] rfl (fun z hz => by cases hz) rfl (by decide) cl_L_27 ca_27 (fun qe => ?_)
    refine r_astore dL_term_13 rfl (Nat.le_of_ble_eq_true rfl) (r_iconst dL_term_15 (r_iret dL_term_16 rfl rfl ?_))
    exact h9
  · obtain ⟨v, rfl, hv, h1, h2⟩ := hN o S1 h
    show PW g _ _ 8 _ [vi v, vi 0, .ref q] _ _ _ _
    refine r_i2l dL_term_8 (by omega) (r_last dL_term_9 h1 (by omega) (by omega) (by omega) (r_goto 17 dL_term_10 (by decide) (r_iconst dL_term_17 (r_iret dL_term_18 rfl rfl ?_))))
    exact h2
theorem w_setSequence {v0 v1 v2 v3 : Int} (hc : PC g yX9_setSequence cX9_setSequence (iX9_setSequence M N) [.ref x, vi v0, vi v1, vi v2, vi v3] S Qc) (hx : S.1 x = some (cO 9 fs)) (hm : M ≤ mc) (hm2 : N ≤ ms) (hN : ∀ o S1, Qc (.inl o) S1 → ∃ v : Int, o = some (vi v) ∧ RI v ∧ S1.1 q = some (cJ 1 o1) ∧ Q (.inl (some (vi 0))) (ps_put S1 q (cJ 1 (upI o1 0 v)))) (hX : ∀ E S1, Qc (.inr E) S1 → (E = "java/lang/IndexOutOfBoundsException" ∧ Q (.inl (some (vi 1))) S1) ∨ (E = "java/lang/IllegalArgumentException" ∧ Q (.inl (some (vi 2))) S1)) : PC g yL_setSequence cL_setSequence (iL_setSequence mc ms) [.ref x, vi v0, vi v1, vi v2, vi v3, .ref q] S Q := by
  refine PC_ofH pnL rfl rfl (fun h => by cases h) (Nat.le_of_ble_eq_true rfl) ?_
  refine r_aload dL_setSequence_0 rfl (r_iconst dL_setSequence_2 (r_aload_n dL_setSequence_3 (i := 0) rfl rfl (r_iload_n dL_setSequence_4 (i := 1) rfl rfl (r_iload_n dL_setSequence_5 (i := 2) rfl rfl ?_))))
  refine r_iload_n dL_setSequence_6 (i := 3) rfl rfl (r_iload dL_setSequence_7 rfl ?_)
  refine r_invV dL_setSequence_9 hc mq_X9_setSequence ml_L_63 ⟨Nat.le_of_ble_eq_true rfl, Nat.le_of_ble_eq_true rfl⟩ hx rfl rfl rfl (Nat.le_of_ble_eq_true rfl) (kc' := mc - M) (ks' := ms - N) (by show M + _ ≤ mc; omega) (by show N + _ ≤ ms; omega) (fun E S1 h => ?_) (fun o S1 h => ?_)
  · rcases hX E S1 h with ⟨rfl, h9⟩ | ⟨rfl, h9⟩
    · refine px_catch [] (0, 14, 17, 27) [(0, 14, 21, 19)] rfl (fun z hz => by cases hz) rfl (by decide) cl_L_27 ca_27 (fun qe => ?_)
      refine r_astore dL_setSequence_17 rfl (Nat.le_of_ble_eq_true rfl) (r_iconst dL_setSequence_19 (r_iret dL_setSequence_20 rfl rfl ?_))
      exact h9
    · refine px_catch [(0, 14, 17, 27)] (0, 14, 21, 19) [] rfl (fun z hz => by
      simp only [List.mem_cons, List.not_mem_nil, or_false] at hz
      rcases hz with rfl
      · exact ⟨by decide, _, cl_L_27, by simp [excL]⟩) rfl (by decide) cl_L_19 ca_19 (fun qe => ?_)
      refine r_astore dL_setSequence_21 rfl (Nat.le_of_ble_eq_true rfl) (r_iconst dL_setSequence_23 (r_iret dL_setSequence_24 rfl rfl ?_))
      exact h9
  · obtain ⟨v, rfl, hv, h1, h2⟩ := hN o S1 h
    show PW g _ _ 12 _ [vi v, vi 0, .ref q] _ _ _ _
    refine r_i2l dL_setSequence_12 (by omega) (r_last dL_setSequence_13 h1 (by omega) (by omega) (by omega) (r_goto 25 dL_setSequence_14 (by decide) (r_iconst dL_setSequence_25 (r_iret dL_setSequence_26 rfl rfl ?_))))
    exact h2
theorem w_append {v0 v1 : Int} (hc : PC g yX9_append cX9_append (iX9_append M N) [.ref x, vi v0, vi v1] S Qc) (hx : S.1 x = some (cO 9 fs)) (hm : M ≤ mc) (hm2 : N ≤ ms) (hN : ∀ o S1, Qc (.inl o) S1 → ∃ v : Int, o = some (vi v) ∧ RI v ∧ S1.1 q = some (cJ 1 o1) ∧ Q (.inl (some (vi 0))) (ps_put S1 q (cJ 1 (upI o1 0 v)))) (hX : ∀ E S1, Qc (.inr E) S1 → (E = "java/lang/IndexOutOfBoundsException" ∧ Q (.inl (some (vi 1))) S1) ∨ (E = "java/lang/IllegalArgumentException" ∧ Q (.inl (some (vi 2))) S1) ∨ (E = "java/lang/IllegalStateException" ∧ Q (.inl (some (vi 3))) S1)) : PC g yL_append cL_append (iL_append mc ms) [.ref x, vi v0, vi v1, .ref q] S Q := by
  refine PC_ofH pnL rfl rfl (fun h => by cases h) (Nat.le_of_ble_eq_true rfl) ?_
  refine r_aload_n dL_append_0 (i := 3) rfl rfl (r_iconst dL_append_1 (r_aload_n dL_append_2 (i := 0) rfl rfl (r_iload_n dL_append_3 (i := 1) rfl rfl (r_iload_n dL_append_4 (i := 2) rfl rfl ?_))))
  refine r_invV dL_append_5 hc mq_X9_append ml_L_67 ⟨Nat.le_of_ble_eq_true rfl, Nat.le_of_ble_eq_true rfl⟩ hx rfl rfl rfl (Nat.le_of_ble_eq_true rfl) (kc' := mc - M) (ks' := ms - N) (by show M + _ ≤ mc; omega) (by show N + _ ≤ ms; omega) (fun E S1 h => ?_) (fun o S1 h => ?_)
  · rcases hX E S1 h with ⟨rfl, h9⟩ | ⟨rfl, h9⟩ | ⟨rfl, h9⟩
    · refine px_catch [] (0, 10, 13, 27) [(0, 10, 17, 19), (0, 10, 21, 13)] rfl (fun z hz => by cases hz) rfl (by decide) cl_L_27 ca_27 (fun qe => ?_)
      refine r_astore dL_append_13 rfl (Nat.le_of_ble_eq_true rfl) (r_iconst dL_append_15 (r_iret dL_append_16 rfl rfl ?_))
      exact h9
    · refine px_catch [(0, 10, 13, 27)] (0, 10, 17, 19) [(0, 10, 21, 13)] rfl (fun z hz => by
      simp only [List.mem_cons, List.not_mem_nil, or_false] at hz
      rcases hz with rfl
      · exact ⟨by decide, _, cl_L_27, by simp [excL]⟩) rfl (by decide) cl_L_19 ca_19 (fun qe => ?_)
      refine r_astore dL_append_17 rfl (Nat.le_of_ble_eq_true rfl) (r_iconst dL_append_19 (r_iret dL_append_20 rfl rfl ?_))
      exact h9
    · refine px_catch [(0, 10, 13, 27), (0, 10, 17, 19)] (0, 10, 21, 13) [] rfl (fun z hz => by
      simp only [List.mem_cons, List.not_mem_nil, or_false] at hz
      rcases hz with rfl | rfl
      · exact ⟨by decide, _, cl_L_27, by simp [excL]⟩
      · exact ⟨by decide, _, cl_L_19, by simp [excL]⟩) rfl (by decide) cl_L_13 ca_13 (fun qe => ?_)
      refine r_astore dL_append_21 rfl (Nat.le_of_ble_eq_true rfl) (r_iconst dL_append_23 (r_iret dL_append_24 rfl rfl ?_))
      exact h9
  · obtain ⟨v, rfl, hv, h1, h2⟩ := hN o S1 h
    show PW g _ _ 8 _ [vi v, vi 0, .ref q] _ _ _ _
    refine r_i2l dL_append_8 (by omega) (r_last dL_append_9 h1 (by omega) (by omega) (by omega) (r_goto 25 dL_append_10 (by decide) (r_iconst dL_append_25 (r_iret dL_append_26 rfl rfl ?_))))
    exact h2
theorem w_cut {v0 v1 : Int} (hc : PC g yX9_cut cX9_cut (iX9_cut M N) [.ref x, vi v0, vi v1] S Qc) (hx : S.1 x = some (cO 9 fs)) (hm : M ≤ mc) (hm2 : N ≤ ms) (hN : ∀ o S1, Qc (.inl o) S1 → ∃ v : Int, o = some (vi v) ∧ RI v ∧ S1.1 q = some (cJ 1 o1) ∧ Q (.inl (some (vi 0))) (ps_put S1 q (cJ 1 (upI o1 0 v)))) (hX : ∀ E S1, Qc (.inr E) S1 → (E = "java/lang/IndexOutOfBoundsException" ∧ Q (.inl (some (vi 1))) S1) ∨ (E = "java/lang/IllegalArgumentException" ∧ Q (.inl (some (vi 2))) S1)) : PC g yL_cut cL_cut (iL_cut mc ms) [.ref x, vi v0, vi v1, .ref q] S Q := by
  refine PC_ofH pnL rfl rfl (fun h => by cases h) (Nat.le_of_ble_eq_true rfl) ?_
  refine r_aload_n dL_cut_0 (i := 3) rfl rfl (r_iconst dL_cut_1 (r_aload_n dL_cut_2 (i := 0) rfl rfl (r_iload_n dL_cut_3 (i := 1) rfl rfl (r_iload_n dL_cut_4 (i := 2) rfl rfl ?_))))
  refine r_invV dL_cut_5 hc mq_X9_cut ml_L_70 ⟨Nat.le_of_ble_eq_true rfl, Nat.le_of_ble_eq_true rfl⟩ hx rfl rfl rfl (Nat.le_of_ble_eq_true rfl) (kc' := mc - M) (ks' := ms - N) (by show M + _ ≤ mc; omega) (by show N + _ ≤ ms; omega) (fun E S1 h => ?_) (fun o S1 h => ?_)
  · rcases hX E S1 h with ⟨rfl, h9⟩ | ⟨rfl, h9⟩
    · refine px_catch [] (0, 10, 13, 27) [(0, 10, 17, 19)] rfl (fun z hz => by cases hz) rfl (by decide) cl_L_27 ca_27 (fun qe => ?_)
      refine r_astore dL_cut_13 rfl (Nat.le_of_ble_eq_true rfl) (r_iconst dL_cut_15 (r_iret dL_cut_16 rfl rfl ?_))
      exact h9
    · refine px_catch [(0, 10, 13, 27)] (0, 10, 17, 19) [] rfl (fun z hz => by
      simp only [List.mem_cons, List.not_mem_nil, or_false] at hz
      rcases hz with rfl
      · exact ⟨by decide, _, cl_L_27, by simp [excL]⟩) rfl (by decide) cl_L_19 ca_19 (fun qe => ?_)
      refine r_astore dL_cut_17 rfl (Nat.le_of_ble_eq_true rfl) (r_iconst dL_cut_19 (r_iret dL_cut_20 rfl rfl ?_))
      exact h9
  · obtain ⟨v, rfl, hv, h1, h2⟩ := hN o S1 h
    show PW g _ _ 8 _ [vi v, vi 0, .ref q] _ _ _ _
    refine r_i2l dL_cut_8 (by omega) (r_last dL_cut_9 h1 (by omega) (by omega) (by omega) (r_goto 21 dL_cut_10 (by decide) (r_iconst dL_cut_21 (r_iret dL_cut_22 rfl rfl ?_))))
    exact h2
theorem w_swap {v0 v1 : Int} (hc : PC g yX9_swap cX9_swap (iX9_swap M N) [.ref x, vi v0, vi v1] S Qc) (hx : S.1 x = some (cO 9 fs)) (hm : M ≤ mc) (hm2 : N ≤ ms) (hN : ∀ o S1, Qc (.inl o) S1 → ∃ v : Int, o = some (vi v) ∧ RI v ∧ S1.1 q = some (cJ 1 o1) ∧ Q (.inl (some (vi 0))) (ps_put S1 q (cJ 1 (upI o1 0 v)))) (hX : ∀ E S1, Qc (.inr E) S1 → (E = "java/lang/IndexOutOfBoundsException" ∧ Q (.inl (some (vi 1))) S1)) : PC g yL_swap cL_swap (iL_swap mc ms) [.ref x, vi v0, vi v1, .ref q] S Q := by
  refine PC_ofH pnL rfl rfl (fun h => by cases h) (Nat.le_of_ble_eq_true rfl) ?_
  refine r_aload_n dL_swap_0 (i := 3) rfl rfl (r_iconst dL_swap_1 (r_aload_n dL_swap_2 (i := 0) rfl rfl (r_iload_n dL_swap_3 (i := 1) rfl rfl (r_iload_n dL_swap_4 (i := 2) rfl rfl ?_))))
  refine r_invV dL_swap_5 hc mq_X9_swap ml_L_73 ⟨Nat.le_of_ble_eq_true rfl, Nat.le_of_ble_eq_true rfl⟩ hx rfl rfl rfl (Nat.le_of_ble_eq_true rfl) (kc' := mc - M) (ks' := ms - N) (by show M + _ ≤ mc; omega) (by show N + _ ≤ ms; omega) (fun E S1 h => ?_) (fun o S1 h => ?_)
  · rcases hX E S1 h with ⟨rfl, h9⟩
    refine px_catch [] (0, 10, 13, 27) [] rfl (fun z hz => by cases hz) rfl (by decide) cl_L_27 ca_27 (fun qe => ?_)
    refine r_astore dL_swap_13 rfl (Nat.le_of_ble_eq_true rfl) (r_iconst dL_swap_15 (r_iret dL_swap_16 rfl rfl ?_))
    exact h9
  · obtain ⟨v, rfl, hv, h1, h2⟩ := hN o S1 h
    show PW g _ _ 8 _ [vi v, vi 0, .ref q] _ _ _ _
    refine r_i2l dL_swap_8 (by omega) (r_last dL_swap_9 h1 (by omega) (by omega) (by omega) (r_goto 17 dL_swap_10 (by decide) (r_iconst dL_swap_17 (r_iret dL_swap_18 rfl rfl ?_))))
    exact h2
theorem w_transform {v0 v1 v2 v3 : Int} (hc : PC g yX9_transform cX9_transform (iX9_transform M N) [.ref x, vi v0, vi v1, vi v2, vi v3] S Qc) (hx : S.1 x = some (cO 9 fs)) (hm : M ≤ mc) (hm2 : N ≤ ms) (hN : ∀ o S1, Qc (.inl o) S1 → ∃ v : Int, o = some (vi v) ∧ RI v ∧ S1.1 q = some (cJ 1 o1) ∧ Q (.inl (some (vi 0))) (ps_put S1 q (cJ 1 (upI o1 0 v)))) (hX : ∀ E S1, Qc (.inr E) S1 → (E = "java/lang/IndexOutOfBoundsException" ∧ Q (.inl (some (vi 1))) S1) ∨ (E = "java/lang/IllegalArgumentException" ∧ Q (.inl (some (vi 2))) S1) ∨ (E = "java/util/NoSuchElementException" ∧ Q (.inl (some (vi 3))) S1)) : PC g yL_transform cL_transform (iL_transform mc ms) [.ref x, vi v0, vi v1, vi v2, vi v3, .ref q] S Q := by
  refine PC_ofH pnL rfl rfl (fun h => by cases h) (Nat.le_of_ble_eq_true rfl) ?_
  refine r_aload dL_transform_0 rfl (r_iconst dL_transform_2 (r_aload_n dL_transform_3 (i := 0) rfl rfl (r_iload_n dL_transform_4 (i := 1) rfl rfl (r_iload_n dL_transform_5 (i := 2) rfl rfl ?_))))
  refine r_iload_n dL_transform_6 (i := 3) rfl rfl (r_iload dL_transform_7 rfl ?_)
  refine r_invV dL_transform_9 hc mq_X9_transform ml_L_76 ⟨Nat.le_of_ble_eq_true rfl, Nat.le_of_ble_eq_true rfl⟩ hx rfl rfl rfl (Nat.le_of_ble_eq_true rfl) (kc' := mc - M) (ks' := ms - N) (by show M + _ ≤ mc; omega) (by show N + _ ≤ ms; omega) (fun E S1 h => ?_) (fun o S1 h => ?_)
  · rcases hX E S1 h with ⟨rfl, h9⟩ | ⟨rfl, h9⟩ | ⟨rfl, h9⟩
    · refine px_catch [] (0, 14, 17, 27) [(0, 14, 21, 19), (0, 14, 25, 36)] rfl (fun z hz => by cases hz) rfl (by decide) cl_L_27 ca_27 (fun qe => ?_)
      refine r_astore dL_transform_17 rfl (Nat.le_of_ble_eq_true rfl) (r_iconst dL_transform_19 (r_iret dL_transform_20 rfl rfl ?_))
      exact h9
    · refine px_catch [(0, 14, 17, 27)] (0, 14, 21, 19) [(0, 14, 25, 36)] rfl (fun z hz => by
      simp only [List.mem_cons, List.not_mem_nil, or_false] at hz
      rcases hz with rfl
      · exact ⟨by decide, _, cl_L_27, by simp [excL]⟩) rfl (by decide) cl_L_19 ca_19 (fun qe => ?_)
      refine r_astore dL_transform_21 rfl (Nat.le_of_ble_eq_true rfl) (r_iconst dL_transform_23 (r_iret dL_transform_24 rfl rfl ?_))
      exact h9
    · refine px_catch [(0, 14, 17, 27), (0, 14, 21, 19)] (0, 14, 25, 36) [] rfl (fun z hz => by
      simp only [List.mem_cons, List.not_mem_nil, or_false] at hz
      rcases hz with rfl | rfl
      · exact ⟨by decide, _, cl_L_27, by simp [excL]⟩
      · exact ⟨by decide, _, cl_L_19, by simp [excL]⟩) rfl (by decide) cl_L_36 ca_36 (fun qe => ?_)
      refine r_astore dL_transform_25 rfl (Nat.le_of_ble_eq_true rfl) (r_iconst dL_transform_27 (r_iret dL_transform_28 rfl rfl ?_))
      exact h9
  · obtain ⟨v, rfl, hv, h1, h2⟩ := hN o S1 h
    show PW g _ _ 12 _ [vi v, vi 0, .ref q] _ _ _ _
    refine r_i2l dL_transform_12 (by omega) (r_last dL_transform_13 h1 (by omega) (by omega) (by omega) (r_goto 29 dL_transform_14 (by decide) (r_iconst dL_transform_29 (r_iret dL_transform_30 rfl rfl ?_))))
    exact h2
theorem w_cost {v0 v1 v2 : Int} (hc : PC g yX9_cost cX9_cost (iX9_cost M N) [.ref x, vi v0, vi v1, vi v2] S Qc) (hx : S.1 x = some (cO 9 fs)) (hm : M ≤ mc) (hm2 : N ≤ ms) (hN : ∀ o S1, Qc (.inl o) S1 → ∃ v : Int, o = some (vi v) ∧ RI v ∧ S1.1 q = some (cJ 1 o1) ∧ Q (.inl (some (vi 0))) (ps_put S1 q (cJ 1 (upI o1 0 v)))) (hX : ∀ E S1, Qc (.inr E) S1 → (E = "java/lang/IndexOutOfBoundsException" ∧ Q (.inl (some (vi 1))) S1) ∨ (E = "java/lang/IllegalArgumentException" ∧ Q (.inl (some (vi 2))) S1) ∨ (E = "java/util/NoSuchElementException" ∧ Q (.inl (some (vi 3))) S1)) : PC g yL_cost cL_cost (iL_cost mc ms) [.ref x, vi v0, vi v1, vi v2, .ref q] S Q := by
  refine PC_ofH pnL rfl rfl (fun h => by cases h) (Nat.le_of_ble_eq_true rfl) ?_
  refine r_aload dL_cost_0 rfl (r_iconst dL_cost_2 (r_aload_n dL_cost_3 (i := 0) rfl rfl (r_iload_n dL_cost_4 (i := 1) rfl rfl (r_iload_n dL_cost_5 (i := 2) rfl rfl ?_))))
  refine r_iload_n dL_cost_6 (i := 3) rfl rfl ?_
  refine r_invV dL_cost_7 hc mq_X9_cost ml_L_79 ⟨Nat.le_of_ble_eq_true rfl, Nat.le_of_ble_eq_true rfl⟩ hx rfl rfl rfl (Nat.le_of_ble_eq_true rfl) (kc' := mc - M) (ks' := ms - N) (by show M + _ ≤ mc; omega) (by show N + _ ≤ ms; omega) (fun E S1 h => ?_) (fun o S1 h => ?_)
  · rcases hX E S1 h with ⟨rfl, h9⟩ | ⟨rfl, h9⟩ | ⟨rfl, h9⟩
    · refine px_catch [] (0, 12, 15, 27) [(0, 12, 19, 19), (0, 12, 23, 36)] rfl (fun z hz => by cases hz) rfl (by decide) cl_L_27 ca_27 (fun qe => ?_)
      refine r_astore dL_cost_15 rfl (Nat.le_of_ble_eq_true rfl) (r_iconst dL_cost_17 (r_iret dL_cost_18 rfl rfl ?_))
      exact h9
    · refine px_catch [(0, 12, 15, 27)] (0, 12, 19, 19) [(0, 12, 23, 36)] rfl (fun z hz => by
      simp only [List.mem_cons, List.not_mem_nil, or_false] at hz
      rcases hz with rfl
      · exact ⟨by decide, _, cl_L_27, by simp [excL]⟩) rfl (by decide) cl_L_19 ca_19 (fun qe => ?_)
      refine r_astore dL_cost_19 rfl (Nat.le_of_ble_eq_true rfl) (r_iconst dL_cost_21 (r_iret dL_cost_22 rfl rfl ?_))
      exact h9
    · refine px_catch [(0, 12, 15, 27), (0, 12, 19, 19)] (0, 12, 23, 36) [] rfl (fun z hz => by
      simp only [List.mem_cons, List.not_mem_nil, or_false] at hz
      rcases hz with rfl | rfl
      · exact ⟨by decide, _, cl_L_27, by simp [excL]⟩
      · exact ⟨by decide, _, cl_L_19, by simp [excL]⟩) rfl (by decide) cl_L_36 ca_36 (fun qe => ?_)
      refine r_astore dL_cost_23 rfl (Nat.le_of_ble_eq_true rfl) (r_iconst dL_cost_25 (r_iret dL_cost_26 rfl rfl ?_))
      exact h9
  · obtain ⟨v, rfl, hv, h1, h2⟩ := hN o S1 h
    show PW g _ _ 10 _ [vi v, vi 0, .ref q] _ _ _ _
    refine r_i2l dL_cost_10 (by omega) (r_last dL_cost_11 h1 (by omega) (by omega) (by omega) (r_goto 27 dL_cost_12 (by decide) (r_iconst dL_cost_27 (r_iret dL_cost_28 rfl rfl ?_))))
    exact h2
theorem w_method {v0 v1 : Int} (hc : PC g yX9_method cX9_method (iX9_method M N) [.ref x, vi v0, vi v1] S Qc) (hx : S.1 x = some (cO 9 fs)) (hm : M ≤ mc) (hm2 : N ≤ ms) (hN : ∀ o S1, Qc (.inl o) S1 → ∃ v : Int, o = some (vi v) ∧ RI v ∧ S1.1 q = some (cJ 1 o1) ∧ Q (.inl (some (vi 0))) (ps_put S1 q (cJ 1 (upI o1 0 v)))) (hX : ∀ E S1, Qc (.inr E) S1 → (E = "java/lang/IndexOutOfBoundsException" ∧ Q (.inl (some (vi 1))) S1) ∨ (E = "java/lang/IllegalArgumentException" ∧ Q (.inl (some (vi 2))) S1) ∨ (E = "java/util/NoSuchElementException" ∧ Q (.inl (some (vi 3))) S1)) : PC g yL_method cL_method (iL_method mc ms) [.ref x, vi v0, vi v1, .ref q] S Q := by
  refine PC_ofH pnL rfl rfl (fun h => by cases h) (Nat.le_of_ble_eq_true rfl) ?_
  refine r_aload_n dL_method_0 (i := 3) rfl rfl (r_iconst dL_method_1 (r_aload_n dL_method_2 (i := 0) rfl rfl (r_iload_n dL_method_3 (i := 1) rfl rfl (r_iload_n dL_method_4 (i := 2) rfl rfl ?_))))
  refine r_invV dL_method_5 hc mq_X9_method ml_L_82 ⟨Nat.le_of_ble_eq_true rfl, Nat.le_of_ble_eq_true rfl⟩ hx rfl rfl rfl (Nat.le_of_ble_eq_true rfl) (kc' := mc - M) (ks' := ms - N) (by show M + _ ≤ mc; omega) (by show N + _ ≤ ms; omega) (fun E S1 h => ?_) (fun o S1 h => ?_)
  · rcases hX E S1 h with ⟨rfl, h9⟩ | ⟨rfl, h9⟩ | ⟨rfl, h9⟩
    · refine px_catch [] (0, 10, 13, 27) [(0, 10, 17, 19), (0, 10, 21, 36)] rfl (fun z hz => by cases hz) rfl (by decide) cl_L_27 ca_27 (fun qe => ?_)
      refine r_astore dL_method_13 rfl (Nat.le_of_ble_eq_true rfl) (r_iconst dL_method_15 (r_iret dL_method_16 rfl rfl ?_))
      exact h9
    · refine px_catch [(0, 10, 13, 27)] (0, 10, 17, 19) [(0, 10, 21, 36)] rfl (fun z hz => by
      simp only [List.mem_cons, List.not_mem_nil, or_false] at hz
      rcases hz with rfl
      · exact ⟨by decide, _, cl_L_27, by simp [excL]⟩) rfl (by decide) cl_L_19 ca_19 (fun qe => ?_)
      refine r_astore dL_method_17 rfl (Nat.le_of_ble_eq_true rfl) (r_iconst dL_method_19 (r_iret dL_method_20 rfl rfl ?_))
      exact h9
    · refine px_catch [(0, 10, 13, 27), (0, 10, 17, 19)] (0, 10, 21, 36) [] rfl (fun z hz => by
      simp only [List.mem_cons, List.not_mem_nil, or_false] at hz
      rcases hz with rfl | rfl
      · exact ⟨by decide, _, cl_L_27, by simp [excL]⟩
      · exact ⟨by decide, _, cl_L_19, by simp [excL]⟩) rfl (by decide) cl_L_36 ca_36 (fun qe => ?_)
      refine r_astore dL_method_21 rfl (Nat.le_of_ble_eq_true rfl) (r_iconst dL_method_23 (r_iret dL_method_24 rfl rfl ?_))
      exact h9
  · obtain ⟨v, rfl, hv, h1, h2⟩ := hN o S1 h
    show PW g _ _ 8 _ [vi v, vi 0, .ref q] _ _ _ _
    refine r_i2l dL_method_8 (by omega) (r_last dL_method_9 h1 (by omega) (by omega) (by omega) (r_goto 25 dL_method_10 (by decide) (r_iconst dL_method_25 (r_iret dL_method_26 rfl rfl ?_))))
    exact h2
theorem w_chirp {v0 v1 v2 : Int} (hc : PC g yX9_chirp cX9_chirp (iX9_chirp M N) [.ref x, vi v0, vi v1, vi v2] S Qc) (hx : S.1 x = some (cO 9 fs)) (hm : M ≤ mc) (hm2 : N ≤ ms) (hN : ∀ o S1, Qc (.inl o) S1 → ∃ v : Int, o = some (vi v) ∧ RI v ∧ S1.1 q = some (cJ 1 o1) ∧ Q (.inl (some (vi 0))) (ps_put S1 q (cJ 1 (upI o1 0 v)))) (hX : ∀ E S1, Qc (.inr E) S1 → (E = "java/lang/IndexOutOfBoundsException" ∧ Q (.inl (some (vi 1))) S1) ∨ (E = "java/lang/IllegalArgumentException" ∧ Q (.inl (some (vi 2))) S1) ∨ (E = "java/util/NoSuchElementException" ∧ Q (.inl (some (vi 3))) S1)) : PC g yL_chirp cL_chirp (iL_chirp mc ms) [.ref x, vi v0, vi v1, vi v2, .ref q] S Q := by
  refine PC_ofH pnL rfl rfl (fun h => by cases h) (Nat.le_of_ble_eq_true rfl) ?_
  refine r_aload dL_chirp_0 rfl (r_iconst dL_chirp_2 (r_aload_n dL_chirp_3 (i := 0) rfl rfl (r_iload_n dL_chirp_4 (i := 1) rfl rfl (r_iload_n dL_chirp_5 (i := 2) rfl rfl ?_))))
  refine r_iload_n dL_chirp_6 (i := 3) rfl rfl ?_
  refine r_invV dL_chirp_7 hc mq_X9_chirp ml_L_85 ⟨Nat.le_of_ble_eq_true rfl, Nat.le_of_ble_eq_true rfl⟩ hx rfl rfl rfl (Nat.le_of_ble_eq_true rfl) (kc' := mc - M) (ks' := ms - N) (by show M + _ ≤ mc; omega) (by show N + _ ≤ ms; omega) (fun E S1 h => ?_) (fun o S1 h => ?_)
  · rcases hX E S1 h with ⟨rfl, h9⟩ | ⟨rfl, h9⟩ | ⟨rfl, h9⟩
    · refine px_catch [] (0, 12, 15, 27) [(0, 12, 19, 19), (0, 12, 23, 36)] rfl (fun z hz => by cases hz) rfl (by decide) cl_L_27 ca_27 (fun qe => ?_)
      refine r_astore dL_chirp_15 rfl (Nat.le_of_ble_eq_true rfl) (r_iconst dL_chirp_17 (r_iret dL_chirp_18 rfl rfl ?_))
      exact h9
    · refine px_catch [(0, 12, 15, 27)] (0, 12, 19, 19) [(0, 12, 23, 36)] rfl (fun z hz => by
      simp only [List.mem_cons, List.not_mem_nil, or_false] at hz
      rcases hz with rfl
      · exact ⟨by decide, _, cl_L_27, by simp [excL]⟩) rfl (by decide) cl_L_19 ca_19 (fun qe => ?_)
      refine r_astore dL_chirp_19 rfl (Nat.le_of_ble_eq_true rfl) (r_iconst dL_chirp_21 (r_iret dL_chirp_22 rfl rfl ?_))
      exact h9
    · refine px_catch [(0, 12, 15, 27), (0, 12, 19, 19)] (0, 12, 23, 36) [] rfl (fun z hz => by
      simp only [List.mem_cons, List.not_mem_nil, or_false] at hz
      rcases hz with rfl | rfl
      · exact ⟨by decide, _, cl_L_27, by simp [excL]⟩
      · exact ⟨by decide, _, cl_L_19, by simp [excL]⟩) rfl (by decide) cl_L_36 ca_36 (fun qe => ?_)
      refine r_astore dL_chirp_23 rfl (Nat.le_of_ble_eq_true rfl) (r_iconst dL_chirp_25 (r_iret dL_chirp_26 rfl rfl ?_))
      exact h9
  · obtain ⟨v, rfl, hv, h1, h2⟩ := hN o S1 h
    show PW g _ _ 10 _ [vi v, vi 0, .ref q] _ _ _ _
    refine r_i2l dL_chirp_10 (by omega) (r_last dL_chirp_11 h1 (by omega) (by omega) (by omega) (r_goto 27 dL_chirp_12 (by decide) (r_iconst dL_chirp_27 (r_iret dL_chirp_28 rfl rfl ?_))))
    exact h2
theorem w_longest {v0 : Int} (hc : PC g yX9_longest cX9_longest (iX9_longest M N) [.ref x, vi v0] S Qc) (hx : S.1 x = some (cO 9 fs)) (hm : M ≤ mc) (hm2 : N ≤ ms) (hN : ∀ o S1, Qc (.inl o) S1 → ∃ v : Int, o = some (vi v) ∧ RI v ∧ S1.1 q = some (cJ 1 o1) ∧ Q (.inl (some (vi 0))) (ps_put S1 q (cJ 1 (upI o1 0 v)))) (hX : ∀ E S1, Qc (.inr E) S1 → (E = "java/lang/IndexOutOfBoundsException" ∧ Q (.inl (some (vi 1))) S1)) : PC g yL_longest cL_longest (iL_longest mc ms) [.ref x, vi v0, .ref q] S Q := by
  refine PC_ofH pnL rfl rfl (fun h => by cases h) (Nat.le_of_ble_eq_true rfl) ?_
  refine r_aload_n dL_longest_0 (i := 2) rfl rfl (r_iconst dL_longest_1 (r_aload_n dL_longest_2 (i := 0) rfl rfl (r_iload_n dL_longest_3 (i := 1) rfl rfl ?_)))
  refine r_invV dL_longest_4 hc mq_X9_longest ml_L_88 ⟨Nat.le_of_ble_eq_true rfl, Nat.le_of_ble_eq_true rfl⟩ hx rfl rfl rfl (Nat.le_of_ble_eq_true rfl) (kc' := mc - M) (ks' := ms - N) (by show M + _ ≤ mc; omega) (by show N + _ ≤ ms; omega) (fun E S1 h => ?_) (fun o S1 h => ?_)
  · rcases hX E S1 h with ⟨rfl, h9⟩
    refine px_catch [] (0, 9, 12, 27) [] rfl (fun z hz => by cases hz) rfl (by decide) cl_L_27 ca_27 (fun qe => ?_)
    refine r_astore_n dL_longest_12 (i := 3) rfl rfl (Nat.le_of_ble_eq_true rfl) (r_iconst dL_longest_13 (r_iret dL_longest_14 rfl rfl ?_))
    exact h9
  · obtain ⟨v, rfl, hv, h1, h2⟩ := hN o S1 h
    show PW g _ _ 7 _ [vi v, vi 0, .ref q] _ _ _ _
    refine r_i2l dL_longest_7 (by omega) (r_last dL_longest_8 h1 (by omega) (by omega) (by omega) (r_goto 15 dL_longest_9 (by decide) (r_iconst dL_longest_15 (r_iret dL_longest_16 rfl rfl ?_))))
    exact h2
theorem w_size {v0 v1 v2 v3 : Int} (hc : PC g yX9_size cX9_size (iX9_size M N) [.ref x, vi v0, vi v1, vi v2, vi v3] S Qc) (hx : S.1 x = some (cO 9 fs)) (hm : M ≤ mc) (hm2 : N ≤ ms) (hN : ∀ o S1, Qc (.inl o) S1 → ∃ v : Int, o = some (vi v) ∧ RI v ∧ S1.1 q = some (cJ 1 o1) ∧ Q (.inl (some (vi 0))) (ps_put S1 q (cJ 1 (upI o1 0 v)))) (hX : ∀ E S1, Qc (.inr E) S1 → (E = "java/lang/IndexOutOfBoundsException" ∧ Q (.inl (some (vi 1))) S1) ∨ (E = "java/lang/IllegalStateException" ∧ Q (.inl (some (vi 2))) S1) ∨ (E = "java/lang/IllegalArgumentException" ∧ Q (.inl (some (vi 3))) S1)) : PC g yL_size cL_size (iL_size mc ms) [.ref x, vi v0, vi v1, vi v2, vi v3, .ref q] S Q := by
  refine PC_ofH pnL rfl rfl (fun h => by cases h) (Nat.le_of_ble_eq_true rfl) ?_
  refine r_aload dL_size_0 rfl (r_iconst dL_size_2 (r_aload_n dL_size_3 (i := 0) rfl rfl (r_iload_n dL_size_4 (i := 1) rfl rfl (r_iload_n dL_size_5 (i := 2) rfl rfl ?_))))
  refine r_iload_n dL_size_6 (i := 3) rfl rfl (r_iload dL_size_7 rfl ?_)
  refine r_invV dL_size_9 hc mq_X9_size ml_L_91 ⟨Nat.le_of_ble_eq_true rfl, Nat.le_of_ble_eq_true rfl⟩ hx rfl rfl rfl (Nat.le_of_ble_eq_true rfl) (kc' := mc - M) (ks' := ms - N) (by show M + _ ≤ mc; omega) (by show N + _ ≤ ms; omega) (fun E S1 h => ?_) (fun o S1 h => ?_)
  · rcases hX E S1 h with ⟨rfl, h9⟩ | ⟨rfl, h9⟩ | ⟨rfl, h9⟩
    · refine px_catch [] (0, 14, 17, 27) [(0, 14, 21, 13), (0, 14, 25, 19)] rfl (fun z hz => by cases hz) rfl (by decide) cl_L_27 ca_27 (fun qe => ?_)
      refine r_astore dL_size_17 rfl (Nat.le_of_ble_eq_true rfl) (r_iconst dL_size_19 (r_iret dL_size_20 rfl rfl ?_))
      exact h9
    · refine px_catch [(0, 14, 17, 27)] (0, 14, 21, 13) [(0, 14, 25, 19)] rfl (fun z hz => by
      simp only [List.mem_cons, List.not_mem_nil, or_false] at hz
      rcases hz with rfl
      · exact ⟨by decide, _, cl_L_27, by simp [excL]⟩) rfl (by decide) cl_L_13 ca_13 (fun qe => ?_)
      refine r_astore dL_size_21 rfl (Nat.le_of_ble_eq_true rfl) (r_iconst dL_size_23 (r_iret dL_size_24 rfl rfl ?_))
      exact h9
    · refine px_catch [(0, 14, 17, 27), (0, 14, 21, 13)] (0, 14, 25, 19) [] rfl (fun z hz => by
      simp only [List.mem_cons, List.not_mem_nil, or_false] at hz
      rcases hz with rfl | rfl
      · exact ⟨by decide, _, cl_L_27, by simp [excL]⟩
      · exact ⟨by decide, _, cl_L_13, by simp [excL]⟩) rfl (by decide) cl_L_19 ca_19 (fun qe => ?_)
      refine r_astore dL_size_25 rfl (Nat.le_of_ble_eq_true rfl) (r_iconst dL_size_27 (r_iret dL_size_28 rfl rfl ?_))
      exact h9
  · obtain ⟨v, rfl, hv, h1, h2⟩ := hN o S1 h
    show PW g _ _ 12 _ [vi v, vi 0, .ref q] _ _ _ _
    refine r_i2l dL_size_12 (by omega) (r_last dL_size_13 h1 (by omega) (by omega) (by omega) (r_goto 29 dL_size_14 (by decide) (r_iconst dL_size_29 (r_iret dL_size_30 rfl rfl ?_))))
    exact h2
theorem w_bound {v0 v1 : Int} (hc : PC g yX9_bound cX9_bound (iX9_bound M N) [.ref x, vi v0, vi v1] S Qc) (hx : S.1 x = some (cO 9 fs)) (hm : M ≤ mc) (hm2 : N ≤ ms) (hN : ∀ o S1, Qc (.inl o) S1 → ∃ v : Int, o = some (vl v) ∧ S1.1 q = some (cJ 1 o1) ∧ Q (.inl (some (vi 0))) (ps_put S1 q (cJ 1 (upI o1 0 v)))) (hX : ∀ E S1, Qc (.inr E) S1 → (E = "java/lang/IndexOutOfBoundsException" ∧ Q (.inl (some (vi 1))) S1) ∨ (E = "java/lang/IllegalStateException" ∧ Q (.inl (some (vi 2))) S1)) : PC g yL_bound cL_bound (iL_bound mc ms) [.ref x, vi v0, vi v1, .ref q] S Q := by
  refine PC_ofH pnL rfl rfl (fun h => by cases h) (Nat.le_of_ble_eq_true rfl) ?_
  refine r_aload_n dL_bound_0 (i := 3) rfl rfl (r_iconst dL_bound_1 (r_aload_n dL_bound_2 (i := 0) rfl rfl (r_iload_n dL_bound_3 (i := 1) rfl rfl (r_iload_n dL_bound_4 (i := 2) rfl rfl ?_))))
  refine r_invV dL_bound_5 hc mq_X9_bound ml_L_94 ⟨Nat.le_of_ble_eq_true rfl, Nat.le_of_ble_eq_true rfl⟩ hx rfl rfl rfl (Nat.le_of_ble_eq_true rfl) (kc' := mc - M) (ks' := ms - N) (by show M + _ ≤ mc; omega) (by show N + _ ≤ ms; omega) (fun E S1 h => ?_) (fun o S1 h => ?_)
  · rcases hX E S1 h with ⟨rfl, h9⟩ | ⟨rfl, h9⟩
    · refine px_catch [] (0, 9, 12, 27) [(0, 9, 16, 13)] rfl (fun z hz => by cases hz) rfl (by decide) cl_L_27 ca_27 (fun qe => ?_)
      refine r_astore dL_bound_12 rfl (Nat.le_of_ble_eq_true rfl) (r_iconst dL_bound_14 (r_iret dL_bound_15 rfl rfl ?_))
      exact h9
    · refine px_catch [(0, 9, 12, 27)] (0, 9, 16, 13) [] rfl (fun z hz => by
      simp only [List.mem_cons, List.not_mem_nil, or_false] at hz
      rcases hz with rfl
      · exact ⟨by decide, _, cl_L_27, by simp [excL]⟩) rfl (by decide) cl_L_13 ca_13 (fun qe => ?_)
      refine r_astore dL_bound_16 rfl (Nat.le_of_ble_eq_true rfl) (r_iconst dL_bound_18 (r_iret dL_bound_19 rfl rfl ?_))
      exact h9
  · obtain ⟨v, rfl, h1, h2⟩ := hN o S1 h
    show PW g _ _ 8 _ [vl v, vi 0, .ref q] _ _ _ _
    refine r_last dL_bound_8 h1 (by omega) (by omega) (by omega) (r_goto 20 dL_bound_9 (by decide) (r_iconst dL_bound_20 (r_iret dL_bound_21 rfl rfl ?_)))
    exact h2
theorem w_coefficient {v0 v1 v2 v3 v4 : Int} (hc : PC g yX9_coefficient cX9_coefficient (iX9_coefficient M N) [.ref x, vi v0, vi v1, vi v2, vi v3, vi v4] S Qc) (hx : S.1 x = some (cO 9 fs)) (hm : M ≤ mc) (hm2 : N ≤ ms) (hN : ∀ o S1, Qc (.inl o) S1 → ∃ v : Int, o = some (vl v) ∧ S1.1 q = some (cJ 1 o1) ∧ Q (.inl (some (vi 0))) (ps_put S1 q (cJ 1 (upI o1 0 v)))) (hX : ∀ E S1, Qc (.inr E) S1 → (E = "java/lang/IndexOutOfBoundsException" ∧ Q (.inl (some (vi 1))) S1) ∨ (E = "java/lang/IllegalStateException" ∧ Q (.inl (some (vi 2))) S1) ∨ (E = "java/lang/IllegalArgumentException" ∧ Q (.inl (some (vi 3))) S1)) : PC g yL_coefficient cL_coefficient (iL_coefficient mc ms) [.ref x, vi v0, vi v1, vi v2, vi v3, vi v4, .ref q] S Q := by
  refine PC_ofH pnL rfl rfl (fun h => by cases h) (Nat.le_of_ble_eq_true rfl) ?_
  refine r_aload dL_coefficient_0 rfl (r_iconst dL_coefficient_2 (r_aload_n dL_coefficient_3 (i := 0) rfl rfl (r_iload_n dL_coefficient_4 (i := 1) rfl rfl (r_iload_n dL_coefficient_5 (i := 2) rfl rfl ?_))))
  refine r_iload_n dL_coefficient_6 (i := 3) rfl rfl (r_iload dL_coefficient_7 rfl (r_iload dL_coefficient_9 rfl ?_))
  refine r_invV dL_coefficient_11 hc mq_X9_coefficient ml_L_98 ⟨Nat.le_of_ble_eq_true rfl, Nat.le_of_ble_eq_true rfl⟩ hx rfl rfl rfl (Nat.le_of_ble_eq_true rfl) (kc' := mc - M) (ks' := ms - N) (by show M + _ ≤ mc; omega) (by show N + _ ≤ ms; omega) (fun E S1 h => ?_) (fun o S1 h => ?_)
  · rcases hX E S1 h with ⟨rfl, h9⟩ | ⟨rfl, h9⟩ | ⟨rfl, h9⟩
    · refine px_catch [] (0, 15, 18, 27) [(0, 15, 22, 13), (0, 15, 26, 19)] rfl (fun z hz => by cases hz) rfl (by decide) cl_L_27 ca_27 (fun qe => ?_)
      refine r_astore dL_coefficient_18 rfl (Nat.le_of_ble_eq_true rfl) (r_iconst dL_coefficient_20 (r_iret dL_coefficient_21 rfl rfl ?_))
      exact h9
    · refine px_catch [(0, 15, 18, 27)] (0, 15, 22, 13) [(0, 15, 26, 19)] rfl (fun z hz => by
      simp only [List.mem_cons, List.not_mem_nil, or_false] at hz
      rcases hz with rfl
      · exact ⟨by decide, _, cl_L_27, by simp [excL]⟩) rfl (by decide) cl_L_13 ca_13 (fun qe => ?_)
      refine r_astore dL_coefficient_22 rfl (Nat.le_of_ble_eq_true rfl) (r_iconst dL_coefficient_24 (r_iret dL_coefficient_25 rfl rfl ?_))
      exact h9
    · refine px_catch [(0, 15, 18, 27), (0, 15, 22, 13)] (0, 15, 26, 19) [] rfl (fun z hz => by
      simp only [List.mem_cons, List.not_mem_nil, or_false] at hz
      rcases hz with rfl | rfl
      · exact ⟨by decide, _, cl_L_27, by simp [excL]⟩
      · exact ⟨by decide, _, cl_L_13, by simp [excL]⟩) rfl (by decide) cl_L_19 ca_19 (fun qe => ?_)
      refine r_astore dL_coefficient_26 rfl (Nat.le_of_ble_eq_true rfl) (r_iconst dL_coefficient_28 (r_iret dL_coefficient_29 rfl rfl ?_))
      exact h9
  · obtain ⟨v, rfl, h1, h2⟩ := hN o S1 h
    show PW g _ _ 14 _ [vl v, vi 0, .ref q] _ _ _ _
    refine r_last dL_coefficient_14 h1 (by omega) (by omega) (by omega) (r_goto 30 dL_coefficient_15 (by decide) (r_iconst dL_coefficient_30 (r_iret dL_coefficient_31 rfl rfl ?_)))
    exact h2
theorem w_isEnough {v0 v1 v2 : Int} (hc : PC g yX9_isEnough cX9_isEnough (iX9_isEnough M N) [.ref x, vi v0, vi v1, vi v2] S Qc) (hx : S.1 x = some (cO 9 fs)) (hm : M ≤ mc) (hm2 : N ≤ ms) (hN : ∀ o S1, Qc (.inl o) S1 → ∃ v : Int, o = some (vi v) ∧ (v = 0 ∨ v = 1) ∧ S1.1 q = some (cJ 1 o1) ∧ Q (.inl (some (vi 0))) (ps_put S1 q (cJ 1 (upI o1 0 v)))) (hX : ∀ E S1, Qc (.inr E) S1 → (E = "java/lang/IndexOutOfBoundsException" ∧ Q (.inl (some (vi 1))) S1) ∨ (E = "java/lang/IllegalStateException" ∧ Q (.inl (some (vi 2))) S1)) : PC g yL_isEnough cL_isEnough (iL_isEnough mc ms) [.ref x, vi v0, vi v1, vi v2, .ref q] S Q := by
  refine PC_ofH pnL rfl rfl (fun h => by cases h) (Nat.le_of_ble_eq_true rfl) ?_
  refine r_aload dL_isEnough_0 rfl (r_iconst dL_isEnough_2 (r_aload_n dL_isEnough_3 (i := 0) rfl rfl (r_iload_n dL_isEnough_4 (i := 1) rfl rfl (r_iload_n dL_isEnough_5 (i := 2) rfl rfl ?_))))
  refine r_iload_n dL_isEnough_6 (i := 3) rfl rfl ?_
  refine r_invV dL_isEnough_7 hc mq_X9_isEnough ml_L_102 ⟨Nat.le_of_ble_eq_true rfl, Nat.le_of_ble_eq_true rfl⟩ hx rfl rfl rfl (Nat.le_of_ble_eq_true rfl) (kc' := mc - M) (ks' := ms - N) (by show M + _ ≤ mc; omega) (by show N + _ ≤ ms; omega) (fun E S1 h => ?_) (fun o S1 h => ?_)
  · rcases hX E S1 h with ⟨rfl, h9⟩ | ⟨rfl, h9⟩
    · refine px_catch [] (0, 19, 22, 27) [(0, 19, 26, 13)] rfl (fun z hz => by cases hz) rfl (by decide) cl_L_27 ca_27 (fun qe => ?_)
      refine r_astore dL_isEnough_22 rfl (Nat.le_of_ble_eq_true rfl) (r_iconst dL_isEnough_24 (r_iret dL_isEnough_25 rfl rfl ?_))
      exact h9
    · refine px_catch [(0, 19, 22, 27)] (0, 19, 26, 13) [] rfl (fun z hz => by
      simp only [List.mem_cons, List.not_mem_nil, or_false] at hz
      rcases hz with rfl
      · exact ⟨by decide, _, cl_L_27, by simp [excL]⟩) rfl (by decide) cl_L_13 ca_13 (fun qe => ?_)
      refine r_astore dL_isEnough_26 rfl (Nat.le_of_ble_eq_true rfl) (r_iconst dL_isEnough_28 (r_iret dL_isEnough_29 rfl rfl ?_))
      exact h9
  · obtain ⟨v, rfl, hv, h1, h2⟩ := hN o S1 h
    show PW g _ _ 10 _ [vi v, vi 0, .ref q] _ _ _ _
    refine r_if_eq 17 dL_isEnough_10 (by decide) (by omega) (fun c1 => ?_) (fun c1 => ?_)
    · subst c1
      refine r_lconst (z := 0) dL_isEnough_17 (by decide) (r_last dL_isEnough_18 h1 (by omega) (by omega) (by omega) (r_goto 30 dL_isEnough_19 (by decide) (r_iconst dL_isEnough_30 (r_iret dL_isEnough_31 rfl rfl ?_))))
      exact h2
    · have e : v = 1 := by omega
      subst e
      refine r_lconst (z := 1) dL_isEnough_13 (by decide) (r_goto 18 dL_isEnough_14 (by decide) (r_last dL_isEnough_18 h1 (by omega) (by omega) (by omega) (r_goto 30 dL_isEnough_19 (by decide) (r_iconst dL_isEnough_30 ?_))))
      refine r_iret dL_isEnough_31 rfl rfl ?_
      exact h2
theorem w_plan {v0 v1 v2 v3 v4 : Int} (hc : PC g yX9_plan cX9_plan (iX9_plan M N) [.ref x, vi v0, vi v1, vi v2, vi v3, vi v4] S Qc) (hx : S.1 x = some (cO 9 fs)) (hm : M ≤ mc) (hm2 : N ≤ ms) (hN : ∀ o S1, Qc (.inl o) S1 → ∃ v : Int, o = some (vi v) ∧ RI v ∧ S1.1 q = some (cJ 1 o1) ∧ Q (.inl (some (vi 0))) (ps_put S1 q (cJ 1 (upI o1 0 v)))) (hX : ∀ E S1, Qc (.inr E) S1 → (E = "java/lang/IndexOutOfBoundsException" ∧ Q (.inl (some (vi 1))) S1) ∨ (E = "java/lang/IllegalStateException" ∧ Q (.inl (some (vi 2))) S1) ∨ (E = "java/lang/IllegalArgumentException" ∧ Q (.inl (some (vi 3))) S1)) : PC g yL_plan cL_plan (iL_plan mc ms) [.ref x, vi v0, vi v1, vi v2, vi v3, vi v4, .ref q] S Q := by
  refine PC_ofH pnL rfl rfl (fun h => by cases h) (Nat.le_of_ble_eq_true rfl) ?_
  refine r_aload dL_plan_0 rfl (r_iconst dL_plan_2 (r_aload_n dL_plan_3 (i := 0) rfl rfl (r_iload_n dL_plan_4 (i := 1) rfl rfl (r_iload_n dL_plan_5 (i := 2) rfl rfl ?_))))
  refine r_iload_n dL_plan_6 (i := 3) rfl rfl (r_iload dL_plan_7 rfl (r_iload dL_plan_9 rfl ?_))
  refine r_invV dL_plan_11 hc mq_X9_plan ml_L_106 ⟨Nat.le_of_ble_eq_true rfl, Nat.le_of_ble_eq_true rfl⟩ hx rfl rfl rfl (Nat.le_of_ble_eq_true rfl) (kc' := mc - M) (ks' := ms - N) (by show M + _ ≤ mc; omega) (by show N + _ ≤ ms; omega) (fun E S1 h => ?_) (fun o S1 h => ?_)
  · rcases hX E S1 h with ⟨rfl, h9⟩ | ⟨rfl, h9⟩ | ⟨rfl, h9⟩
    · refine px_catch [] (0, 16, 19, 27) [(0, 16, 23, 13), (0, 16, 27, 19)] rfl (fun z hz => by cases hz) rfl (by decide) cl_L_27 ca_27 (fun qe => ?_)
      refine r_astore dL_plan_19 rfl (Nat.le_of_ble_eq_true rfl) (r_iconst dL_plan_21 (r_iret dL_plan_22 rfl rfl ?_))
      exact h9
    · refine px_catch [(0, 16, 19, 27)] (0, 16, 23, 13) [(0, 16, 27, 19)] rfl (fun z hz => by
      simp only [List.mem_cons, List.not_mem_nil, or_false] at hz
      rcases hz with rfl
      · exact ⟨by decide, _, cl_L_27, by simp [excL]⟩) rfl (by decide) cl_L_13 ca_13 (fun qe => ?_)
      refine r_astore dL_plan_23 rfl (Nat.le_of_ble_eq_true rfl) (r_iconst dL_plan_25 (r_iret dL_plan_26 rfl rfl ?_))
      exact h9
    · refine px_catch [(0, 16, 19, 27), (0, 16, 23, 13)] (0, 16, 27, 19) [] rfl (fun z hz => by
      simp only [List.mem_cons, List.not_mem_nil, or_false] at hz
      rcases hz with rfl | rfl
      · exact ⟨by decide, _, cl_L_27, by simp [excL]⟩
      · exact ⟨by decide, _, cl_L_13, by simp [excL]⟩) rfl (by decide) cl_L_19 ca_19 (fun qe => ?_)
      refine r_astore dL_plan_27 rfl (Nat.le_of_ble_eq_true rfl) (r_iconst dL_plan_29 (r_iret dL_plan_30 rfl rfl ?_))
      exact h9
  · obtain ⟨v, rfl, hv, h1, h2⟩ := hN o S1 h
    show PW g _ _ 14 _ [vi v, vi 0, .ref q] _ _ _ _
    refine r_i2l dL_plan_14 (by omega) (r_last dL_plan_15 h1 (by omega) (by omega) (by omega) (r_goto 31 dL_plan_16 (by decide) (r_iconst dL_plan_31 (r_iret dL_plan_32 rfl rfl ?_))))
    exact h2
theorem w_transformSteps {v0 v1 v2 v3 : Int} (hc : PC g yX9_transformSteps cX9_transformSteps (iX9_transformSteps M N) [.ref x, vi v0, vi v1, vi v2, vi v3] S Qc) (hx : S.1 x = some (cO 9 fs)) (hm : M ≤ mc) (hm2 : N ≤ ms) (hN : ∀ o S1, Qc (.inl o) S1 → ∃ v : Int, o = some (vi v) ∧ RI v ∧ S1.1 q = some (cJ 1 o1) ∧ Q (.inl (some (vi 0))) (ps_put S1 q (cJ 1 (upI o1 0 v)))) (hX : ∀ E S1, Qc (.inr E) S1 → (E = "java/lang/IndexOutOfBoundsException" ∧ Q (.inl (some (vi 1))) S1) ∨ (E = "java/lang/IllegalStateException" ∧ Q (.inl (some (vi 2))) S1) ∨ (E = "java/lang/IllegalArgumentException" ∧ Q (.inl (some (vi 3))) S1) ∨ (E = "java/util/NoSuchElementException" ∧ Q (.inl (some (vi 4))) S1)) : PC g yL_transformSteps cL_transformSteps (iL_transformSteps mc ms) [.ref x, vi v0, vi v1, vi v2, vi v3, .ref q] S Q := by
  refine PC_ofH pnL rfl rfl (fun h => by cases h) (Nat.le_of_ble_eq_true rfl) ?_
  refine r_aload dL_transformSteps_0 rfl (r_iconst dL_transformSteps_2 (r_aload_n dL_transformSteps_3 (i := 0) rfl rfl (r_iload_n dL_transformSteps_4 (i := 1) rfl rfl (r_iload_n dL_transformSteps_5 (i := 2) rfl rfl ?_))))
  refine r_iload_n dL_transformSteps_6 (i := 3) rfl rfl (r_iload dL_transformSteps_7 rfl ?_)
  refine r_invV dL_transformSteps_9 hc mq_X9_transformSteps ml_L_109 ⟨Nat.le_of_ble_eq_true rfl, Nat.le_of_ble_eq_true rfl⟩ hx rfl rfl rfl (Nat.le_of_ble_eq_true rfl) (kc' := mc - M) (ks' := ms - N) (by show M + _ ≤ mc; omega) (by show N + _ ≤ ms; omega) (fun E S1 h => ?_) (fun o S1 h => ?_)
  · rcases hX E S1 h with ⟨rfl, h9⟩ | ⟨rfl, h9⟩ | ⟨rfl, h9⟩ | ⟨rfl, h9⟩
    · refine px_catch [] (0, 14, 17, 27) [(0, 14, 21, 13), (0, 14, 25, 19), (0, 14, 29, 36)] rfl (fun z hz => by cases hz) rfl (by decide) cl_L_27 ca_27 (fun qe => ?_)
      refine r_astore dL_transformSteps_17 rfl (Nat.le_of_ble_eq_true rfl) (r_iconst dL_transformSteps_19 (r_iret dL_transformSteps_20 rfl rfl ?_))
      exact h9
    · refine px_catch [(0, 14, 17, 27)] (0, 14, 21, 13) [(0, 14, 25, 19), (0, 14, 29, 36)] rfl (fun z hz => by
      simp only [List.mem_cons, List.not_mem_nil, or_false] at hz
      rcases hz with rfl
      · exact ⟨by decide, _, cl_L_27, by simp [excL]⟩) rfl (by decide) cl_L_13 ca_13 (fun qe => ?_)
      refine r_astore dL_transformSteps_21 rfl (Nat.le_of_ble_eq_true rfl) (r_iconst dL_transformSteps_23 (r_iret dL_transformSteps_24 rfl rfl ?_))
      exact h9
    · refine px_catch [(0, 14, 17, 27), (0, 14, 21, 13)] (0, 14, 25, 19) [(0, 14, 29, 36)] rfl (fun z hz => by
      simp only [List.mem_cons, List.not_mem_nil, or_false] at hz
      rcases hz with rfl | rfl
      · exact ⟨by decide, _, cl_L_27, by simp [excL]⟩
      · exact ⟨by decide, _, cl_L_13, by simp [excL]⟩) rfl (by decide) cl_L_19 ca_19 (fun qe => ?_)
      refine r_astore dL_transformSteps_25 rfl (Nat.le_of_ble_eq_true rfl) (r_iconst dL_transformSteps_27 (r_iret dL_transformSteps_28 rfl rfl ?_))
      exact h9
    · refine px_catch [(0, 14, 17, 27), (0, 14, 21, 13), (0, 14, 25, 19)] (0, 14, 29, 36) [] rfl (fun z hz => by
      simp only [List.mem_cons, List.not_mem_nil, or_false] at hz
      rcases hz with rfl | rfl | rfl
      · exact ⟨by decide, _, cl_L_27, by simp [excL]⟩
      · exact ⟨by decide, _, cl_L_13, by simp [excL]⟩
      · exact ⟨by decide, _, cl_L_19, by simp [excL]⟩) rfl (by decide) cl_L_36 ca_36 (fun qe => ?_)
      refine r_astore dL_transformSteps_29 rfl (Nat.le_of_ble_eq_true rfl) (r_iconst dL_transformSteps_31 (r_iret dL_transformSteps_32 rfl rfl ?_))
      exact h9
  · obtain ⟨v, rfl, hv, h1, h2⟩ := hN o S1 h
    show PW g _ _ 12 _ [vi v, vi 0, .ref q] _ _ _ _
    refine r_i2l dL_transformSteps_12 (by omega) (r_last dL_transformSteps_13 h1 (by omega) (by omega) (by omega) (r_goto 33 dL_transformSteps_14 (by decide) (r_iconst dL_transformSteps_33 (r_iret dL_transformSteps_34 rfl rfl ?_))))
    exact h2
theorem w_multiply {v0 v1 v2 v3 v4 : Int} (hc : PC g yX9_multiply cX9_multiply (iX9_multiply M N) [.ref x, vi v0, vi v1, vi v2, vi v3, vi v4] S Qc) (hx : S.1 x = some (cO 9 fs)) (hm : M ≤ mc) (hm2 : N ≤ ms) (hN : ∀ o S1, Qc (.inl o) S1 → ∃ v : Int, o = some (vi v) ∧ RI v ∧ S1.1 q = some (cJ 1 o1) ∧ Q (.inl (some (vi 0))) (ps_put S1 q (cJ 1 (upI o1 0 v)))) (hX : ∀ E S1, Qc (.inr E) S1 → (E = "java/lang/IndexOutOfBoundsException" ∧ Q (.inl (some (vi 1))) S1) ∨ (E = "java/lang/IllegalStateException" ∧ Q (.inl (some (vi 2))) S1) ∨ (E = "java/lang/IllegalArgumentException" ∧ Q (.inl (some (vi 3))) S1) ∨ (E = "java/util/NoSuchElementException" ∧ Q (.inl (some (vi 4))) S1)) : PC g yL_multiply cL_multiply (iL_multiply mc ms) [.ref x, vi v0, vi v1, vi v2, vi v3, vi v4, .ref q] S Q := by
  refine PC_ofH pnL rfl rfl (fun h => by cases h) (Nat.le_of_ble_eq_true rfl) ?_
  refine r_aload dL_multiply_0 rfl (r_iconst dL_multiply_2 (r_aload_n dL_multiply_3 (i := 0) rfl rfl (r_iload_n dL_multiply_4 (i := 1) rfl rfl (r_iload_n dL_multiply_5 (i := 2) rfl rfl ?_))))
  refine r_iload_n dL_multiply_6 (i := 3) rfl rfl (r_iload dL_multiply_7 rfl (r_iload dL_multiply_9 rfl ?_))
  refine r_invV dL_multiply_11 hc mq_X9_multiply ml_L_112 ⟨Nat.le_of_ble_eq_true rfl, Nat.le_of_ble_eq_true rfl⟩ hx rfl rfl rfl (Nat.le_of_ble_eq_true rfl) (kc' := mc - M) (ks' := ms - N) (by show M + _ ≤ mc; omega) (by show N + _ ≤ ms; omega) (fun E S1 h => ?_) (fun o S1 h => ?_)
  · rcases hX E S1 h with ⟨rfl, h9⟩ | ⟨rfl, h9⟩ | ⟨rfl, h9⟩ | ⟨rfl, h9⟩
    · refine px_catch [] (0, 16, 19, 27) [(0, 16, 23, 13), (0, 16, 27, 19), (0, 16, 31, 36)] rfl (fun z hz => by cases hz) rfl (by decide) cl_L_27 ca_27 (fun qe => ?_)
      refine r_astore dL_multiply_19 rfl (Nat.le_of_ble_eq_true rfl) (r_iconst dL_multiply_21 (r_iret dL_multiply_22 rfl rfl ?_))
      exact h9
    · refine px_catch [(0, 16, 19, 27)] (0, 16, 23, 13) [(0, 16, 27, 19), (0, 16, 31, 36)] rfl (fun z hz => by
      simp only [List.mem_cons, List.not_mem_nil, or_false] at hz
      rcases hz with rfl
      · exact ⟨by decide, _, cl_L_27, by simp [excL]⟩) rfl (by decide) cl_L_13 ca_13 (fun qe => ?_)
      refine r_astore dL_multiply_23 rfl (Nat.le_of_ble_eq_true rfl) (r_iconst dL_multiply_25 (r_iret dL_multiply_26 rfl rfl ?_))
      exact h9
    · refine px_catch [(0, 16, 19, 27), (0, 16, 23, 13)] (0, 16, 27, 19) [(0, 16, 31, 36)] rfl (fun z hz => by
      simp only [List.mem_cons, List.not_mem_nil, or_false] at hz
      rcases hz with rfl | rfl
      · exact ⟨by decide, _, cl_L_27, by simp [excL]⟩
      · exact ⟨by decide, _, cl_L_13, by simp [excL]⟩) rfl (by decide) cl_L_19 ca_19 (fun qe => ?_)
      refine r_astore dL_multiply_27 rfl (Nat.le_of_ble_eq_true rfl) (r_iconst dL_multiply_29 (r_iret dL_multiply_30 rfl rfl ?_))
      exact h9
    · refine px_catch [(0, 16, 19, 27), (0, 16, 23, 13), (0, 16, 27, 19)] (0, 16, 31, 36) [] rfl (fun z hz => by
      simp only [List.mem_cons, List.not_mem_nil, or_false] at hz
      rcases hz with rfl | rfl | rfl
      · exact ⟨by decide, _, cl_L_27, by simp [excL]⟩
      · exact ⟨by decide, _, cl_L_13, by simp [excL]⟩
      · exact ⟨by decide, _, cl_L_19, by simp [excL]⟩) rfl (by decide) cl_L_36 ca_36 (fun qe => ?_)
      refine r_astore dL_multiply_31 rfl (Nat.le_of_ble_eq_true rfl) (r_iconst dL_multiply_33 (r_iret dL_multiply_34 rfl rfl ?_))
      exact h9
  · obtain ⟨v, rfl, hv, h1, h2⟩ := hN o S1 h
    show PW g _ _ 14 _ [vi v, vi 0, .ref q] _ _ _ _
    refine r_i2l dL_multiply_14 (by omega) (r_last dL_multiply_15 h1 (by omega) (by omega) (by omega) (r_goto 35 dL_multiply_16 (by decide) (r_iconst dL_multiply_35 (r_iret dL_multiply_36 rfl rfl ?_))))
    exact h2
theorem w_product {v0 : Int} (hc : PC g yX9_product cX9_product (iX9_product M N) [.ref x, vi v0] S Qc) (hx : S.1 x = some (cO 9 fs)) (hm : M ≤ mc) (hm2 : N ≤ ms) (hN : ∀ o S1, Qc (.inl o) S1 → ∃ v : Int, o = some (vi v) ∧ RI v ∧ S1.1 q = some (cJ 1 o1) ∧ Q (.inl (some (vi 0))) (ps_put S1 q (cJ 1 (upI o1 0 v)))) (hX : ∀ E S1, Qc (.inr E) S1 → (E = "java/lang/IllegalStateException" ∧ Q (.inl (some (vi 1))) S1) ∨ (E = "java/lang/IllegalArgumentException" ∧ Q (.inl (some (vi 2))) S1)) : PC g yL_product cL_product (iL_product mc ms) [.ref x, vi v0, .ref q] S Q := by
  refine PC_ofH pnL rfl rfl (fun h => by cases h) (Nat.le_of_ble_eq_true rfl) ?_
  refine r_aload_n dL_product_0 (i := 2) rfl rfl (r_iconst dL_product_1 (r_aload_n dL_product_2 (i := 0) rfl rfl (r_iload_n dL_product_3 (i := 1) rfl rfl ?_)))
  refine r_invV dL_product_4 hc mq_X9_product ml_L_115 ⟨Nat.le_of_ble_eq_true rfl, Nat.le_of_ble_eq_true rfl⟩ hx rfl rfl rfl (Nat.le_of_ble_eq_true rfl) (kc' := mc - M) (ks' := ms - N) (by show M + _ ≤ mc; omega) (by show N + _ ≤ ms; omega) (fun E S1 h => ?_) (fun o S1 h => ?_)
  · rcases hX E S1 h with ⟨rfl, h9⟩ | ⟨rfl, h9⟩
    · refine px_catch [] (0, 9, 12, 13) [(0, 9, 15, 19)] rfl (fun z hz => by cases hz) rfl (by decide) cl_L_13 ca_13 (fun qe => ?_)
      refine r_astore_n dL_product_12 (i := 3) rfl rfl (Nat.le_of_ble_eq_true rfl) (r_iconst dL_product_13 (r_iret dL_product_14 rfl rfl ?_))
      exact h9
    · refine px_catch [(0, 9, 12, 13)] (0, 9, 15, 19) [] rfl (fun z hz => by
      simp only [List.mem_cons, List.not_mem_nil, or_false] at hz
      rcases hz with rfl
      · exact ⟨by decide, _, cl_L_13, by simp [excL]⟩) rfl (by decide) cl_L_19 ca_19 (fun qe => ?_)
      refine r_astore_n dL_product_15 (i := 3) rfl rfl (Nat.le_of_ble_eq_true rfl) (r_iconst dL_product_16 (r_iret dL_product_17 rfl rfl ?_))
      exact h9
  · obtain ⟨v, rfl, hv, h1, h2⟩ := hN o S1 h
    show PW g _ _ 7 _ [vi v, vi 0, .ref q] _ _ _ _
    refine r_i2l dL_product_7 (by omega) (r_last dL_product_8 h1 (by omega) (by omega) (by omega) (r_goto 18 dL_product_9 (by decide) (r_iconst dL_product_18 (r_iret dL_product_19 rfl rfl ?_))))
    exact h2
theorem w_value {v0 : Int} (hc : PC g yX9_value cX9_value (iX9_value M N) [.ref x, vi v0] S Qc) (hx : S.1 x = some (cO 9 fs)) (hm : M ≤ mc) (hm2 : N ≤ ms) (hN : ∀ o S1, Qc (.inl o) S1 → ∃ v : Int, o = some (vl v) ∧ S1.1 q = some (cJ 1 o1) ∧ Q (.inl (some (vi 0))) (ps_put S1 q (cJ 1 (upI o1 0 v)))) (hX : ∀ E S1, Qc (.inr E) S1 → (E = "java/lang/IllegalStateException" ∧ Q (.inl (some (vi 1))) S1) ∨ (E = "java/lang/IndexOutOfBoundsException" ∧ Q (.inl (some (vi 2))) S1)) : PC g yL_value cL_value (iL_value mc ms) [.ref x, vi v0, .ref q] S Q := by
  refine PC_ofH pnL rfl rfl (fun h => by cases h) (Nat.le_of_ble_eq_true rfl) ?_
  refine r_aload_n dL_value_0 (i := 2) rfl rfl (r_iconst dL_value_1 (r_aload_n dL_value_2 (i := 0) rfl rfl (r_iload_n dL_value_3 (i := 1) rfl rfl ?_)))
  refine r_invV dL_value_4 hc mq_X9_value ml_L_118 ⟨Nat.le_of_ble_eq_true rfl, Nat.le_of_ble_eq_true rfl⟩ hx rfl rfl rfl (Nat.le_of_ble_eq_true rfl) (kc' := mc - M) (ks' := ms - N) (by show M + _ ≤ mc; omega) (by show N + _ ≤ ms; omega) (fun E S1 h => ?_) (fun o S1 h => ?_)
  · rcases hX E S1 h with ⟨rfl, h9⟩ | ⟨rfl, h9⟩
    · refine px_catch [] (0, 8, 11, 13) [(0, 8, 14, 27)] rfl (fun z hz => by cases hz) rfl (by decide) cl_L_13 ca_13 (fun qe => ?_)
      refine r_astore_n dL_value_11 (i := 3) rfl rfl (Nat.le_of_ble_eq_true rfl) (r_iconst dL_value_12 (r_iret dL_value_13 rfl rfl ?_))
      exact h9
    · refine px_catch [(0, 8, 11, 13)] (0, 8, 14, 27) [] rfl (fun z hz => by
      simp only [List.mem_cons, List.not_mem_nil, or_false] at hz
      rcases hz with rfl
      · exact ⟨by decide, _, cl_L_13, by simp [excL]⟩) rfl (by decide) cl_L_27 ca_27 (fun qe => ?_)
      refine r_astore_n dL_value_14 (i := 3) rfl rfl (Nat.le_of_ble_eq_true rfl) (r_iconst dL_value_15 (r_iret dL_value_16 rfl rfl ?_))
      exact h9
  · obtain ⟨v, rfl, h1, h2⟩ := hN o S1 h
    show PW g _ _ 7 _ [vl v, vi 0, .ref q] _ _ _ _
    refine r_last dL_value_7 h1 (by omega) (by omega) (by omega) (r_goto 17 dL_value_8 (by decide) (r_iconst dL_value_17 (r_iret dL_value_18 rfl rfl ?_)))
    exact h2
theorem w_digit {v0 v1 : Int} (hc : PC g yX9_digit cX9_digit (iX9_digit M N) [.ref x, vi v0, vi v1] S Qc) (hx : S.1 x = some (cO 9 fs)) (hm : M ≤ mc) (hm2 : N ≤ ms) (hN : ∀ o S1, Qc (.inl o) S1 → ∃ v : Int, o = some (vi v) ∧ RI v ∧ S1.1 q = some (cJ 1 o1) ∧ Q (.inl (some (vi 0))) (ps_put S1 q (cJ 1 (upI o1 0 v)))) (hX : ∀ E S1, Qc (.inr E) S1 → (E = "java/lang/IllegalStateException" ∧ Q (.inl (some (vi 1))) S1) ∨ (E = "java/lang/IndexOutOfBoundsException" ∧ Q (.inl (some (vi 2))) S1)) : PC g yL_digit cL_digit (iL_digit mc ms) [.ref x, vi v0, vi v1, .ref q] S Q := by
  refine PC_ofH pnL rfl rfl (fun h => by cases h) (Nat.le_of_ble_eq_true rfl) ?_
  refine r_aload_n dL_digit_0 (i := 3) rfl rfl (r_iconst dL_digit_1 (r_aload_n dL_digit_2 (i := 0) rfl rfl (r_iload_n dL_digit_3 (i := 1) rfl rfl (r_iload_n dL_digit_4 (i := 2) rfl rfl ?_))))
  refine r_invV dL_digit_5 hc mq_X9_digit ml_L_122 ⟨Nat.le_of_ble_eq_true rfl, Nat.le_of_ble_eq_true rfl⟩ hx rfl rfl rfl (Nat.le_of_ble_eq_true rfl) (kc' := mc - M) (ks' := ms - N) (by show M + _ ≤ mc; omega) (by show N + _ ≤ ms; omega) (fun E S1 h => ?_) (fun o S1 h => ?_)
  · rcases hX E S1 h with ⟨rfl, h9⟩ | ⟨rfl, h9⟩
    · refine px_catch [] (0, 10, 13, 13) [(0, 10, 17, 27)] rfl (fun z hz => by cases hz) rfl (by decide) cl_L_13 ca_13 (fun qe => ?_)
      refine r_astore dL_digit_13 rfl (Nat.le_of_ble_eq_true rfl) (r_iconst dL_digit_15 (r_iret dL_digit_16 rfl rfl ?_))
      exact h9
    · refine px_catch [(0, 10, 13, 13)] (0, 10, 17, 27) [] rfl (fun z hz => by
      simp only [List.mem_cons, List.not_mem_nil, or_false] at hz
      rcases hz with rfl
      · exact ⟨by decide, _, cl_L_13, by simp [excL]⟩) rfl (by decide) cl_L_27 ca_27 (fun qe => ?_)
      refine r_astore dL_digit_17 rfl (Nat.le_of_ble_eq_true rfl) (r_iconst dL_digit_19 (r_iret dL_digit_20 rfl rfl ?_))
      exact h9
  · obtain ⟨v, rfl, hv, h1, h2⟩ := hN o S1 h
    show PW g _ _ 8 _ [vi v, vi 0, .ref q] _ _ _ _
    refine r_i2l dL_digit_8 (by omega) (r_last dL_digit_9 h1 (by omega) (by omega) (by omega) (r_goto 21 dL_digit_10 (by decide) (r_iconst dL_digit_21 (r_iret dL_digit_22 rfl rfl ?_))))
    exact h2
theorem w_productAt {v0 : Int} (hc : PC g yX9_productAt cX9_productAt (iX9_productAt M N) [.ref x, vi v0] S Qc) (hx : S.1 x = some (cO 9 fs)) (hm : M ≤ mc) (hm2 : N ≤ ms) (hN : ∀ o S1, Qc (.inl o) S1 → ∃ v : Int, o = some (vi v) ∧ RI v ∧ S1.1 q = some (cJ 1 o1) ∧ Q (.inl (some (vi 0))) (ps_put S1 q (cJ 1 (upI o1 0 v)))) (hX : ∀ E S1, Qc (.inr E) S1 → (E = "java/lang/IllegalStateException" ∧ Q (.inl (some (vi 1))) S1)) : PC g yL_productAt cL_productAt (iL_productAt mc ms) [.ref x, vi v0, .ref q] S Q := by
  refine PC_ofH pnL rfl rfl (fun h => by cases h) (Nat.le_of_ble_eq_true rfl) ?_
  refine r_aload_n dL_productAt_0 (i := 2) rfl rfl (r_iconst dL_productAt_1 (r_aload_n dL_productAt_2 (i := 0) rfl rfl (r_iload_n dL_productAt_3 (i := 1) rfl rfl ?_)))
  refine r_invV dL_productAt_4 hc mq_X9_productAt ml_L_125 ⟨Nat.le_of_ble_eq_true rfl, Nat.le_of_ble_eq_true rfl⟩ hx rfl rfl rfl (Nat.le_of_ble_eq_true rfl) (kc' := mc - M) (ks' := ms - N) (by show M + _ ≤ mc; omega) (by show N + _ ≤ ms; omega) (fun E S1 h => ?_) (fun o S1 h => ?_)
  · rcases hX E S1 h with ⟨rfl, h9⟩
    refine px_catch [] (0, 9, 12, 13) [] rfl (fun z hz => by cases hz) rfl (by decide) cl_L_13 ca_13 (fun qe => ?_)
    refine r_astore_n dL_productAt_12 (i := 3) rfl rfl (Nat.le_of_ble_eq_true rfl) (r_iconst dL_productAt_13 (r_iret dL_productAt_14 rfl rfl ?_))
    exact h9
  · obtain ⟨v, rfl, hv, h1, h2⟩ := hN o S1 h
    show PW g _ _ 7 _ [vi v, vi 0, .ref q] _ _ _ _
    refine r_i2l dL_productAt_7 (by omega) (r_last dL_productAt_8 h1 (by omega) (by omega) (by omega) (r_goto 15 dL_productAt_9 (by decide) (r_iconst dL_productAt_15 (r_iret dL_productAt_16 rfl rfl ?_))))
    exact h2
theorem w_residue {v0 v1 : Int} (hc : PC g yX9_residue cX9_residue (iX9_residue M N) [.ref x, vi v0, vi v1] S Qc) (hx : S.1 x = some (cO 9 fs)) (hm : M ≤ mc) (hm2 : N ≤ ms) (hN : ∀ o S1, Qc (.inl o) S1 → ∃ v : Int, o = some (vi v) ∧ RI v ∧ S1.1 q = some (cJ 1 o1) ∧ Q (.inl (some (vi 0))) (ps_put S1 q (cJ 1 (upI o1 0 v)))) (hX : ∀ E S1, Qc (.inr E) S1 → (E = "java/lang/IndexOutOfBoundsException" ∧ Q (.inl (some (vi 1))) S1) ∨ (E = "java/lang/IllegalStateException" ∧ Q (.inl (some (vi 2))) S1) ∨ (E = "java/lang/IllegalArgumentException" ∧ Q (.inl (some (vi 3))) S1)) : PC g yL_residue cL_residue (iL_residue mc ms) [.ref x, vi v0, vi v1, .ref q] S Q := by
  refine PC_ofH pnL rfl rfl (fun h => by cases h) (Nat.le_of_ble_eq_true rfl) ?_
  refine r_aload_n dL_residue_0 (i := 3) rfl rfl (r_iconst dL_residue_1 (r_aload_n dL_residue_2 (i := 0) rfl rfl (r_iload_n dL_residue_3 (i := 1) rfl rfl (r_iload_n dL_residue_4 (i := 2) rfl rfl ?_))))
  refine r_invV dL_residue_5 hc mq_X9_residue ml_L_128 ⟨Nat.le_of_ble_eq_true rfl, Nat.le_of_ble_eq_true rfl⟩ hx rfl rfl rfl (Nat.le_of_ble_eq_true rfl) (kc' := mc - M) (ks' := ms - N) (by show M + _ ≤ mc; omega) (by show N + _ ≤ ms; omega) (fun E S1 h => ?_) (fun o S1 h => ?_)
  · rcases hX E S1 h with ⟨rfl, h9⟩ | ⟨rfl, h9⟩ | ⟨rfl, h9⟩
    · refine px_catch [] (0, 10, 13, 27) [(0, 10, 17, 13), (0, 10, 21, 19)] rfl (fun z hz => by cases hz) rfl (by decide) cl_L_27 ca_27 (fun qe => ?_)
      refine r_astore dL_residue_13 rfl (Nat.le_of_ble_eq_true rfl) (r_iconst dL_residue_15 (r_iret dL_residue_16 rfl rfl ?_))
      exact h9
    · refine px_catch [(0, 10, 13, 27)] (0, 10, 17, 13) [(0, 10, 21, 19)] rfl (fun z hz => by
      simp only [List.mem_cons, List.not_mem_nil, or_false] at hz
      rcases hz with rfl
      · exact ⟨by decide, _, cl_L_27, by simp [excL]⟩) rfl (by decide) cl_L_13 ca_13 (fun qe => ?_)
      refine r_astore dL_residue_17 rfl (Nat.le_of_ble_eq_true rfl) (r_iconst dL_residue_19 (r_iret dL_residue_20 rfl rfl ?_))
      exact h9
    · refine px_catch [(0, 10, 13, 27), (0, 10, 17, 13)] (0, 10, 21, 19) [] rfl (fun z hz => by
      simp only [List.mem_cons, List.not_mem_nil, or_false] at hz
      rcases hz with rfl | rfl
      · exact ⟨by decide, _, cl_L_27, by simp [excL]⟩
      · exact ⟨by decide, _, cl_L_13, by simp [excL]⟩) rfl (by decide) cl_L_19 ca_19 (fun qe => ?_)
      refine r_astore dL_residue_21 rfl (Nat.le_of_ble_eq_true rfl) (r_iconst dL_residue_23 (r_iret dL_residue_24 rfl rfl ?_))
      exact h9
  · obtain ⟨v, rfl, hv, h1, h2⟩ := hN o S1 h
    show PW g _ _ 8 _ [vi v, vi 0, .ref q] _ _ _ _
    refine r_i2l dL_residue_8 (by omega) (r_last dL_residue_9 h1 (by omega) (by omega) (by omega) (r_goto 25 dL_residue_10 (by decide) (r_iconst dL_residue_25 (r_iret dL_residue_26 rfl rfl ?_))))
    exact h2
theorem w_agreeing {v0 v1 : Int} (hc : PC g yX9_agreeing cX9_agreeing (iX9_agreeing M N) [.ref x, vi v0, vi v1] S Qc) (hx : S.1 x = some (cO 9 fs)) (hm : M ≤ mc) (hm2 : N ≤ ms) (hN : ∀ o S1, Qc (.inl o) S1 → ∃ v : Int, o = some (vi v) ∧ RI v ∧ S1.1 q = some (cJ 1 o1) ∧ Q (.inl (some (vi 0))) (ps_put S1 q (cJ 1 (upI o1 0 v)))) (hX : ∀ E S1, Qc (.inr E) S1 → (E = "java/lang/IndexOutOfBoundsException" ∧ Q (.inl (some (vi 1))) S1) ∨ (E = "java/lang/IllegalStateException" ∧ Q (.inl (some (vi 2))) S1)) : PC g yL_agreeing cL_agreeing (iL_agreeing mc ms) [.ref x, vi v0, vi v1, .ref q] S Q := by
  refine PC_ofH pnL rfl rfl (fun h => by cases h) (Nat.le_of_ble_eq_true rfl) ?_
  refine r_aload_n dL_agreeing_0 (i := 3) rfl rfl (r_iconst dL_agreeing_1 (r_aload_n dL_agreeing_2 (i := 0) rfl rfl (r_iload_n dL_agreeing_3 (i := 1) rfl rfl (r_iload_n dL_agreeing_4 (i := 2) rfl rfl ?_))))
  refine r_invV dL_agreeing_5 hc mq_X9_agreeing ml_L_131 ⟨Nat.le_of_ble_eq_true rfl, Nat.le_of_ble_eq_true rfl⟩ hx rfl rfl rfl (Nat.le_of_ble_eq_true rfl) (kc' := mc - M) (ks' := ms - N) (by show M + _ ≤ mc; omega) (by show N + _ ≤ ms; omega) (fun E S1 h => ?_) (fun o S1 h => ?_)
  · rcases hX E S1 h with ⟨rfl, h9⟩ | ⟨rfl, h9⟩
    · refine px_catch [] (0, 10, 13, 27) [(0, 10, 17, 13)] rfl (fun z hz => by cases hz) rfl (by decide) cl_L_27 ca_27 (fun qe => ?_)
      refine r_astore dL_agreeing_13 rfl (Nat.le_of_ble_eq_true rfl) (r_iconst dL_agreeing_15 (r_iret dL_agreeing_16 rfl rfl ?_))
      exact h9
    · refine px_catch [(0, 10, 13, 27)] (0, 10, 17, 13) [] rfl (fun z hz => by
      simp only [List.mem_cons, List.not_mem_nil, or_false] at hz
      rcases hz with rfl
      · exact ⟨by decide, _, cl_L_27, by simp [excL]⟩) rfl (by decide) cl_L_13 ca_13 (fun qe => ?_)
      refine r_astore dL_agreeing_17 rfl (Nat.le_of_ble_eq_true rfl) (r_iconst dL_agreeing_19 (r_iret dL_agreeing_20 rfl rfl ?_))
      exact h9
  · obtain ⟨v, rfl, hv, h1, h2⟩ := hN o S1 h
    show PW g _ _ 8 _ [vi v, vi 0, .ref q] _ _ _ _
    refine r_i2l dL_agreeing_8 (by omega) (r_last dL_agreeing_9 h1 (by omega) (by omega) (by omega) (r_goto 21 dL_agreeing_10 (by decide) (r_iconst dL_agreeing_21 (r_iret dL_agreeing_22 rfl rfl ?_))))
    exact h2
theorem w_store {v0 : Int} (hc : PC g yX9_store cX9_store (iX9_store M N) [.ref x, vi v0] S Qc) (hx : S.1 x = some (cO 9 fs)) (hm : M ≤ mc) (hm2 : N ≤ ms) (hN : ∀ o S1, Qc (.inl o) S1 → ∃ v : Int, o = some (vi v) ∧ RI v ∧ S1.1 q = some (cJ 1 o1) ∧ Q (.inl (some (vi 0))) (ps_put S1 q (cJ 1 (upI o1 0 v)))) (hX : ∀ E S1, Qc (.inr E) S1 → (E = "java/lang/IndexOutOfBoundsException" ∧ Q (.inl (some (vi 1))) S1) ∨ (E = "java/lang/IllegalStateException" ∧ Q (.inl (some (vi 2))) S1)) : PC g yL_store cL_store (iL_store mc ms) [.ref x, vi v0, .ref q] S Q := by
  refine PC_ofH pnL rfl rfl (fun h => by cases h) (Nat.le_of_ble_eq_true rfl) ?_
  refine r_aload_n dL_store_0 (i := 2) rfl rfl (r_iconst dL_store_1 (r_aload_n dL_store_2 (i := 0) rfl rfl (r_iload_n dL_store_3 (i := 1) rfl rfl ?_)))
  refine r_invV dL_store_4 hc mq_X9_store ml_L_134 ⟨Nat.le_of_ble_eq_true rfl, Nat.le_of_ble_eq_true rfl⟩ hx rfl rfl rfl (Nat.le_of_ble_eq_true rfl) (kc' := mc - M) (ks' := ms - N) (by show M + _ ≤ mc; omega) (by show N + _ ≤ ms; omega) (fun E S1 h => ?_) (fun o S1 h => ?_)
  · rcases hX E S1 h with ⟨rfl, h9⟩ | ⟨rfl, h9⟩
    · refine px_catch [] (0, 9, 12, 27) [(0, 9, 15, 13)] rfl (fun z hz => by cases hz) rfl (by decide) cl_L_27 ca_27 (fun qe => ?_)
      refine r_astore_n dL_store_12 (i := 3) rfl rfl (Nat.le_of_ble_eq_true rfl) (r_iconst dL_store_13 (r_iret dL_store_14 rfl rfl ?_))
      exact h9
    · refine px_catch [(0, 9, 12, 27)] (0, 9, 15, 13) [] rfl (fun z hz => by
      simp only [List.mem_cons, List.not_mem_nil, or_false] at hz
      rcases hz with rfl
      · exact ⟨by decide, _, cl_L_27, by simp [excL]⟩) rfl (by decide) cl_L_13 ca_13 (fun qe => ?_)
      refine r_astore_n dL_store_15 (i := 3) rfl rfl (Nat.le_of_ble_eq_true rfl) (r_iconst dL_store_16 (r_iret dL_store_17 rfl rfl ?_))
      exact h9
  · obtain ⟨v, rfl, hv, h1, h2⟩ := hN o S1 h
    show PW g _ _ 7 _ [vi v, vi 0, .ref q] _ _ _ _
    refine r_i2l dL_store_7 (by omega) (r_last dL_store_8 h1 (by omega) (by omega) (by omega) (r_goto 18 dL_store_9 (by decide) (r_iconst dL_store_18 (r_iret dL_store_19 rfl rfl ?_))))
    exact h2
theorem w_undo (hc : PC g yX9_undo cX9_undo (iX9_undo M N) [.ref x] S Qc) (hx : S.1 x = some (cO 9 fs)) (hm : M ≤ mc) (hm2 : N ≤ ms) (hN : ∀ o S1, Qc (.inl o) S1 → ∃ v : Int, o = some (vi v) ∧ RI v ∧ S1.1 q = some (cJ 1 o1) ∧ Q (.inl (some (vi 0))) (ps_put S1 q (cJ 1 (upI o1 0 v)))) (hX : ∀ E S1, Qc (.inr E) S1 → (E = "java/lang/IllegalStateException" ∧ Q (.inl (some (vi 1))) S1)) : PC g yL_undo cL_undo (iL_undo mc ms) [.ref x, .ref q] S Q := by
  refine PC_ofH pnL rfl rfl (fun h => by cases h) (Nat.le_of_ble_eq_true rfl) ?_
  refine r_aload_n dL_undo_0 (i := 1) rfl rfl (r_iconst dL_undo_1 (r_aload_n dL_undo_2 (i := 0) rfl rfl ?_))
  refine r_invV dL_undo_3 hc mq_X9_undo ml_L_137 ⟨Nat.le_of_ble_eq_true rfl, Nat.le_of_ble_eq_true rfl⟩ hx rfl rfl rfl (Nat.le_of_ble_eq_true rfl) (kc' := mc - M) (ks' := ms - N) (by show M + _ ≤ mc; omega) (by show N + _ ≤ ms; omega) (fun E S1 h => ?_) (fun o S1 h => ?_)
  · rcases hX E S1 h with ⟨rfl, h9⟩
    refine px_catch [] (0, 8, 11, 13) [] rfl (fun z hz => by cases hz) rfl (by decide) cl_L_13 ca_13 (fun qe => ?_)
    refine r_astore_n dL_undo_11 (i := 2) rfl rfl (Nat.le_of_ble_eq_true rfl) (r_iconst dL_undo_12 (r_iret dL_undo_13 rfl rfl ?_))
    exact h9
  · obtain ⟨v, rfl, hv, h1, h2⟩ := hN o S1 h
    show PW g _ _ 6 _ [vi v, vi 0, .ref q] _ _ _ _
    refine r_i2l dL_undo_6 (by omega) (r_last dL_undo_7 h1 (by omega) (by omega) (by omega) (r_goto 14 dL_undo_8 (by decide) (r_iconst dL_undo_14 (r_iret dL_undo_15 rfl rfl ?_))))
    exact h2
end WRAP

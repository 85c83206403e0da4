/-! the class's face: term, power -/
section FACE2
variable {g : GT} {S : PS} {mc ms : Nat} {x F : Nat} {a : Int → Int}
theorem c_X9_term {s k : Int} (hx : S.1 x = some (xO x)) (hb : BnAt S (x + 1) F a) (hl : ML a) (hs : RI s) (hk : RI k) (hm : 1 ≤ mc) (hm2 : 6 ≤ ms) : PC g yX9_term cX9_term (iX9_term mc ms) [.ref x, vi s, vi k] S (Out ["java/lang/IndexOutOfBoundsException"] (kTerm a s k) (vi (a (11 + 32 * s + k))) S (fun S' => S' = S)) := by
  by_cases h : 0 ≤ s ∧ s ≤ 3
  · obtain ⟨hpm, ⟨w, w1, w2, w3, w4⟩, -⟩ := hb
    obtain ⟨f, s1, s2⟩ := w4 s h.1 (by omega)
    have hl1 := hl.1 s h.1 (by omega)
    have hsq := c_X9_sequenceAt1 (g := g) (mc := 0) (ms := 0) (s := s) hx hpm.1 w3 hs h
    refine PC_of pnX9 rfl rfl rfl (Nat.le_of_ble_eq_true rfl) ?_
    refine r_bud (kc' := 1) (ks' := 6) hm hm2 ?_
    refine r_aload_n dX9_term_0 (i := 0) rfl rfl (r_iload_n dX9_term_1 (i := 1) rfl rfl (c_vr dX9_term_2 (hsq) rfl rfl mq_X9_sequenceAt ml_X9_177 ⟨Nat.le_of_ble_eq_true rfl, Nat.le_of_ble_eq_true rfl⟩ hx rfl rfl rfl (Nat.le_of_ble_eq_true rfl) (r_astore_n dX9_term_5 (i := 3) rfl rfl (Nat.le_of_ble_eq_true rfl) (r_iload_n dX9_term_6 (i := 2) rfl rfl ?_))))
    refine r_if_lt 18 dX9_term_7 (by decide) (by omega) (fun c1 => ?_) (fun c1 => ?_)
    · refine r_throwS th_index (List.mem_of_getElem? (i := 7) rfl) rfl dX9_term_18 dX9_term_21 dX9_term_22 dX9_term_24 dX9_term_27 (Nat.le_of_ble_eq_true rfl) (Nat.le_of_ble_eq_true rfl) (by omega) (by omega) (fun z hz => ?_)
      exact Out.th 0 (by unfold kTerm; rw [if_neg (by omega)]; rfl) rfl ⟨rfl, rfl, hz⟩
    · refine r_iload_n dX9_term_10 (i := 2) rfl rfl (r_aload_n dX9_term_11 (i := 3) rfl rfl (r_get dX9_term_12 fl_X9_181 s1.1 rfl ?_))
      refine r_icmp_lt 28 dX9_term_15 (by decide) (by omega) (by omega) (fun c2 => ?_) (fun c2 => ?_)
      · refine r_aload_n dX9_term_28 (i := 3) rfl rfl (r_get dX9_term_29 fl_X9_191 s1.1 rfl (r_iload_n dX9_term_32 (i := 2) rfl rfl (r_iald dX9_term_33 s1.2 (by omega) (by omega) (by omega) ?_)))
        refine r_iret dX9_term_34 rfl rfl ?_
        exact Out.ok (by unfold kTerm; rw [if_pos (by omega)]) (by rw [s2 k (by omega) (by omega)]) rfl
      · refine r_throwS th_index (List.mem_of_getElem? (i := 7) rfl) rfl dX9_term_18 dX9_term_21 dX9_term_22 dX9_term_24 dX9_term_27 (Nat.le_of_ble_eq_true rfl) (Nat.le_of_ble_eq_true rfl) (by omega) (by omega) (fun z hz => ?_)
        exact Out.th 0 (by unfold kTerm; rw [if_neg (by omega)]; rfl) rfl ⟨rfl, rfl, hz⟩
  · refine PC.mono (Q' := Th "java/lang/IndexOutOfBoundsException" S) (fun o S' ho => Out.th 0 (by unfold kTerm; rw [if_neg (by omega)]; rfl) rfl ho) ?_
    refine PC_of pnX9 rfl rfl rfl (Nat.le_of_ble_eq_true rfl) ?_
    refine r_bud (kc' := 1) (ks' := 6) hm hm2 ?_
    refine r_aload_n dX9_term_0 (i := 0) rfl rfl (r_iload_n dX9_term_1 (i := 1) rfl rfl ?_)
    exact c_vx (E := "") dX9_term_2 (c_X9_sequenceAt0 (mc := 1) (ms := 6) hx hs h (by omega) (by omega)) rfl mq_X9_sequenceAt ml_X9_177 ⟨Nat.le_of_ble_eq_true rfl, Nat.le_of_ble_eq_true rfl⟩ hx rfl rfl rfl (Nat.le_of_ble_eq_true rfl) (by show 1 ≤ 1; omega) (by show 6 ≤ 6; omega) (fun o S' ho => ⟨_, ho.1, rfl, ho.2⟩)
theorem c_X9_power {q b e : Int} (hx : S.1 x = some (xO x)) (hb : BnAt S (x + 1) F a) (hp : MP a) (hq : RI q) (hbr : RI b) (he : RI e) (hm : 1 ≤ mc) (hm2 : 6 ≤ ms) : PC g yX9_power cX9_power (iX9_power mc ms) [.ref x, vi q, vi b, vi e] S (Out ["java/lang/IndexOutOfBoundsException", "java/lang/IllegalArgumentException"] (kPower a q e) (vi (pwI b e.toNat (pN a q))) S (fun S' => S' = S)) := by
  have h0 := hp.1
  by_cases h : 0 ≤ q ∧ q ≤ a 0 - 1
  · obtain ⟨⟨h1, r, h2, h3, h4⟩, -, -⟩ := hb
    obtain ⟨y, y1, y2, ff, fc, f1, f2, f3⟩ := h4 q h.1 (by omega)
    obtain ⟨hpa, hpr, hpp⟩ := pN_ok hp h
    have hfa := c_X9_fieldAt1 (g := g) (mc := 0) (ms := 0) (q := q) hx h1 h2 h0 hq h y1
    have m1 := Int.emod_nonneg b (show (pN a q : Int) ≠ 0 by omega)
    have m2 := Int.emod_lt_of_pos b (show (0 : Int) < pN a q by omega)
    refine PC_of pnX9 rfl rfl rfl (Nat.le_of_ble_eq_true rfl) ?_
    refine r_bud (kc' := 1) (ks' := 6) hm hm2 ?_
    rcases Int.lt_or_le e 0 with z | z
    · refine r_aload_n dX9_power_0 (i := 0) rfl rfl (r_iload_n dX9_power_1 (i := 1) rfl rfl (c_vr dX9_power_2 (hfa) rfl rfl mq_X9_fieldAt ml_X9_109 ⟨Nat.le_of_ble_eq_true rfl, Nat.le_of_ble_eq_true rfl⟩ hx rfl rfl rfl (Nat.le_of_ble_eq_true rfl) (r_astore dX9_power_5 rfl (Nat.le_of_ble_eq_true rfl) (r_iload_n dX9_power_7 (i := 3) rfl rfl ?_))))
      refine r_if_lt 15 dX9_power_8 (by decide) (by omega) (fun c1 => ?_) (fun c1 => ?_)
      · refine r_iconst dX9_power_15 ?_
        first
          | omega
          | exact c_sx dX9_power_16 (c_X9_require0 (mc := 1) (ms := 6) rfl (by omega) (by omega)) rfl mq_X9_require ml_X9_70 ⟨Nat.le_of_ble_eq_true rfl, Nat.le_of_ble_eq_true rfl⟩ rfl rfl (Nat.le_of_ble_eq_true rfl) (by show 1 ≤ 1; omega) (by show 6 ≤ 6; omega) (fun o S' ho => ⟨_, ho.1, Out.th 1 (by unfold kPower; rw [if_pos h, if_pos z]; rfl) rfl ⟨rfl, ho.2⟩⟩)
      · refine r_iconst dX9_power_11 (r_goto 16 dX9_power_12 (by decide) ?_)
        first
          | omega
          | exact c_sx dX9_power_16 (c_X9_require0 (mc := 1) (ms := 6) rfl (by omega) (by omega)) rfl mq_X9_require ml_X9_70 ⟨Nat.le_of_ble_eq_true rfl, Nat.le_of_ble_eq_true rfl⟩ rfl rfl (Nat.le_of_ble_eq_true rfl) (by show 1 ≤ 1; omega) (by show 6 ≤ 6; omega) (fun o S' ho => ⟨_, ho.1, Out.th 1 (by unfold kPower; rw [if_pos h, if_pos z]; rfl) rfl ⟨rfl, ho.2⟩⟩)
    · obtain ⟨e', rfl⟩ := Int.eq_ofNat_of_zero_le z
      obtain ⟨c, hc⟩ := Int.eq_ofNat_of_zero_le m1
      have hra := c_X1_raise (g := g) (S := S) (q := y) (mc := 0) (ms := 0) (b := c) (e := e') f1 hpr (by omega) (by omega)
      rw [← hc] at hra
      have hpw : pwI b ((e' : Int)).toNat (pN a q) = ((c ^ e' % pN a q : Nat) : Int) := by
        unfold pwI
        rw [hc, Int.toNat_natCast, Int.toNat_natCast]
      refine r_aload_n dX9_power_0 (i := 0) rfl rfl (r_iload_n dX9_power_1 (i := 1) rfl rfl (c_vr dX9_power_2 (hfa) rfl rfl mq_X9_fieldAt ml_X9_109 ⟨Nat.le_of_ble_eq_true rfl, Nat.le_of_ble_eq_true rfl⟩ hx rfl rfl rfl (Nat.le_of_ble_eq_true rfl) (r_astore dX9_power_5 rfl (Nat.le_of_ble_eq_true rfl) (r_iload_n dX9_power_7 (i := 3) rfl rfl ?_))))
      refine r_if_lt 15 dX9_power_8 (by decide) (by omega) (fun c1 => ?_) (fun c1 => ?_)
      · omega
      · refine r_iconst dX9_power_11 (r_goto 16 dX9_power_12 (by decide) (c_sn dX9_power_16 (c_X9_require1 (by decide) ⟨by omega, by omega⟩) rfl rfl mq_X9_require ml_X9_70 ⟨Nat.le_of_ble_eq_true rfl, Nat.le_of_ble_eq_true rfl⟩ rfl rfl (Nat.le_of_ble_eq_true rfl) (r_aload dX9_power_19 rfl (r_aload dX9_power_21 rfl ?_))))
        refine r_iload_n dX9_power_23 (i := 2) rfl rfl (r_i2l dX9_power_24 (by omega) (c_vr dX9_power_25 (c_X1_residueOf f1 hpr ⟨by omega, by omega⟩) rfl rfl mq_X1_residueOf ml_X9_138 ⟨Nat.le_of_ble_eq_true rfl, Nat.le_of_ble_eq_true rfl⟩ f1 rfl rfl rfl (Nat.le_of_ble_eq_true rfl) (r_iload_n dX9_power_28 (i := 3) rfl rfl (c_vr dX9_power_29 (hra) rfl rfl mq_X1_raise ml_X9_142 ⟨Nat.le_of_ble_eq_true rfl, Nat.le_of_ble_eq_true rfl⟩ f1 rfl rfl rfl (Nat.le_of_ble_eq_true rfl) ?_))))
        refine r_iret dX9_power_32 rfl rfl ?_
        first
          | omega
          | exact Out.ok (by unfold kPower; rw [if_pos h, if_neg (by omega)]) (by rw [hpw]) rfl
  · refine PC.mono (Q' := Th "java/lang/IndexOutOfBoundsException" S) (fun o S' ho => Out.th 0 (by unfold kPower; rw [if_neg h]; rfl) rfl ho) ?_
    refine PC_of pnX9 rfl rfl rfl (Nat.le_of_ble_eq_true rfl) ?_
    refine r_bud (kc' := 1) (ks' := 6) hm hm2 ?_
    refine r_aload_n dX9_power_0 (i := 0) rfl rfl (r_iload_n dX9_power_1 (i := 1) rfl rfl ?_)
    exact c_vx (E := "") dX9_power_2 (c_X9_fieldAt0 (mc := 1) (ms := 6) hx hb.1.1 h0 hq h (by omega) (by omega)) rfl mq_X9_fieldAt ml_X9_109 ⟨Nat.le_of_ble_eq_true rfl, Nat.le_of_ble_eq_true rfl⟩ hx rfl rfl rfl (Nat.le_of_ble_eq_true rfl) (by show 1 ≤ 1; omega) (by show 6 ≤ 6; omega) (fun o S' ho => ⟨_, ho.1, rfl, ho.2⟩)
end FACE2

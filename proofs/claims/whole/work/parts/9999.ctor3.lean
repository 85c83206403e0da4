/-! the constructors of the class and of the model -/
section CTOR3
variable {g : GT} {S : PS} {mc ms : Nat} {Q : PO → PS → Prop} {kc ks : Nat} {x m F : Nat}
theorem l_X9_init38 {T3 : PS} (hF : x + 153 ≤ F) (x3 : T3.1 x = some (cO 9 [.ref (x + 1), .ref (x + 15), .ref (x + 129), .null, .null, .null])) (z3 : T3.2 = x + 145) (n3 : ∀ z : Nat, z < x → T3.1 z = S.1 z) (B3 : BnAt T3 (x + 1) F (fun _ => 0)) (H3 : HiAt T3 (x + 15) F 0 0 (fun _ _ => 0)) (R3 : RdAt T3 (x + 129) F 0 (-1) (fun _ => 0)) : PW g cX9_init (iX9_init mc ms) 38 [(0, some (.ref x))] [.ref x] T3 8 2190 (fun o S' => o = .inl none ∧ GR S S' x 153 ∧ CX S' x F (fun _ => 0) (fun _ _ => 0) 0 0 0 (-1) (fun _ => 0)) := by
  refine r_bud (kc' := 7 + 1) (ks' := 2188 + 2) (by omega) (by omega) ?_
  refine r_new dX9_init_38 nl_X9_30 (fun hlt => ?_)
  rw [z3]
  show PW g _ _ 41 _ [.ref (x + 145), .ref x] _ _ _ _
  refine r_dup dX9_init_41 rfl ?_
  refine r_invIN dX9_init_42 (c_X3_init (mc := 2) (ms := 2048) (q := x + 145) (pn_at z3) (by show T3.2 + 1 = _; omega) (by omega) (by omega)) (fun E S' h => by simp at h) mq_X3_init rfl ml_X9_32 ⟨Nat.le_of_ble_eq_true rfl, Nat.le_of_ble_eq_true rfl⟩ rfl rfl (Nat.le_of_ble_eq_true rfl) (kc' := 5) (ks' := 140) (by show 2 + _ ≤ _; omega) (by show 2048 + _ ≤ _; omega) (fun v S4 hc => ?_)
  obtain ⟨d1, ⟨g7, g8⟩, b4⟩ := hc
  cases d1
  have w4 : ∀ z : Nat, z < x + 145 → S4.1 z = T3.1 z := fun z hz => by rw [g7 z hz]; exact pn_ne (by omega) rfl
  have E4 : Ext F T3 S4 := ext_lt hlt (by omega)
  show PW g _ _ 45 _ [.ref (x + 145), .ref x] _ _ _ _
  clear hlt
  refine r_lt (fun hlt => ?_)
  refine r_putF dX9_init_45 flf_X9_33 rfl ((w4 x (by omega)).trans x3) rfl rfl (Nat.le_of_ble_eq_true rfl) ?_
  refine r_aload_n dX9_init_48 (i := 0) rfl rfl ?_
  obtain ⟨T4, e4⟩ : ∃ T4, T4 = ps_put S4 x (cO 9 [.ref (x + 1), .ref (x + 15), .ref (x + 129), .ref (x + 145), .null, .null]) := ⟨_, rfl⟩
  have x4 : T4.1 x = some (cO 9 [.ref (x + 1), .ref (x + 15), .ref (x + 129), .ref (x + 145), .null, .null]) := by rw [e4]; exact ps_same
  have z4 : T4.2 = x + 148 := by rw [e4]; exact g8
  have p4 : ∀ z : Nat, z < x + 145 → z ≠ x → T4.1 z = T3.1 z := fun z hz hz2 => by rw [e4]; exact ps_ne hz2 (w4 z hz)
  have X4 : Ext F T3 T4 := fun z hz c hc => by rw [e4]; exact ps_ne (by omega) (E4 z hz c hc)
  have L4 : LgAt T4 (x + 145) := by rw [e4]; exact b4.frame (fun z z1 z2 => ps_ne (by omega) rfl)
  refine r_ps (S' := T4) e4.symm ?_
  clear hlt
  -- the multiplier
  refine r_bud (kc' := 4 + 1) (ks' := 139 + 1) (by omega) (by omega) ?_
  refine r_new dX9_init_49 nl_X9_37 (fun hlt => ?_)
  rw [z4]
  show PW g _ _ 52 _ [.ref (x + 148), .ref x] _ _ _ _
  refine r_dup dX9_init_52 rfl ?_
  refine r_invIN dX9_init_53 (c_X4_init (mc := 1) (ms := 64) (q := x + 148) (pn_at z4) (by show T4.2 + 1 = _; omega) (by omega) (by omega)) (fun E S' h => by simp at h) mq_X4_init rfl ml_X9_39 ⟨Nat.le_of_ble_eq_true rfl, Nat.le_of_ble_eq_true rfl⟩ rfl rfl (Nat.le_of_ble_eq_true rfl) (kc' := 3) (ks' := 75) (by show 1 + _ ≤ _; omega) (by show 64 + _ ≤ _; omega) (fun v S5 hc => ?_)
  obtain ⟨d1, ⟨g9, g10⟩, b5⟩ := hc
  cases d1
  have w5 : ∀ z : Nat, z < x + 148 → S5.1 z = T4.1 z := fun z hz => by rw [g9 z hz]; exact pn_ne (by omega) rfl
  have E5 : Ext F T4 S5 := ext_lt hlt (by omega)
  show PW g _ _ 56 _ [.ref (x + 148), .ref x] _ _ _ _
  clear hlt
  refine r_lt (fun hlt => ?_)
  refine r_putF dX9_init_56 flf_X9_40 rfl ((w5 x (by omega)).trans x4) rfl rfl (Nat.le_of_ble_eq_true rfl) ?_
  refine r_aload_n dX9_init_59 (i := 0) rfl rfl ?_
  obtain ⟨T5, e5⟩ : ∃ T5, T5 = ps_put S5 x (cO 9 [.ref (x + 1), .ref (x + 15), .ref (x + 129), .ref (x + 145), .ref (x + 148), .null]) := ⟨_, rfl⟩
  have x5 : T5.1 x = some (cO 9 [.ref (x + 1), .ref (x + 15), .ref (x + 129), .ref (x + 145), .ref (x + 148), .null]) := by rw [e5]; exact ps_same
  have z5 : T5.2 = x + 150 := by rw [e5]; exact g10
  have p5 : ∀ z : Nat, z < x + 148 → z ≠ x → T5.1 z = T4.1 z := fun z hz hz2 => by rw [e5]; exact ps_ne hz2 (w5 z hz)
  have X5 : Ext F T4 T5 := fun z hz c hc => by rw [e5]; exact ps_ne (by omega) (E5 z hz c hc)
  have M5 : MuAt T5 (x + 148) := by rw [e5]; exact b5.frame (fun z z1 z2 => ps_ne (by omega) rfl)
  refine r_ps (S' := T5) e5.symm ?_
  clear hlt
  -- the plans
  refine r_bud (kc' := 2 + 1) (ks' := 70 + 5) (by omega) (by omega) ?_
  refine r_new dX9_init_60 nl_X9_44 (fun hlt => ?_)
  rw [z5]
  show PW g _ _ 63 _ [.ref (x + 150), .ref x] _ _ _ _
  refine r_dup dX9_init_63 rfl ?_
  refine r_invIN dX9_init_64 (c_X5_init (mc := 2) (ms := 70) (q := x + 150) (pn_at z5) (by show T5.2 + 1 = _; omega) (by omega) (by omega)) (fun E S' h => by simp at h) mq_X5_init rfl ml_X9_46 ⟨Nat.le_of_ble_eq_true rfl, Nat.le_of_ble_eq_true rfl⟩ rfl rfl (Nat.le_of_ble_eq_true rfl) (kc' := 0) (ks' := 0) (by show 2 + _ ≤ _; omega) (by show 70 + _ ≤ _; omega) (fun v S6 hc => ?_)
  obtain ⟨d1, ⟨g11, g12⟩, b6⟩ := hc
  cases d1
  have w6 : ∀ z : Nat, z < x + 150 → S6.1 z = T5.1 z := fun z hz => by rw [g11 z hz]; exact pn_ne (by omega) rfl
  have E6 : Ext F T5 S6 := ext_lt hlt (by omega)
  show PW g _ _ 67 _ [.ref (x + 150), .ref x] _ _ _ _
  refine r_putF dX9_init_67 flf_X9_47 rfl ((w6 x (by omega)).trans x5) rfl rfl (Nat.le_of_ble_eq_true rfl) ?_
  refine r_vret dX9_init_70 rfl ?_
  obtain ⟨T6, e6⟩ : ∃ T6, T6 = ps_put S6 x (cO 9 [.ref (x + 1), .ref (x + 15), .ref (x + 129), .ref (x + 145), .ref (x + 148), .ref (x + 150)]) := ⟨_, rfl⟩
  have p6 : ∀ z : Nat, z < x + 150 → z ≠ x → T6.1 z = T5.1 z := fun z hz hz2 => by rw [e6]; exact ps_ne hz2 (w6 z hz)
  have X6 : Ext F T3 T6 := fun z hz c hc => by rw [e6]; exact ps_ne (by omega) (E6 z hz c (X5 z hz c (X4 z hz c hc)))
  have q6 : ∀ z : Nat, z < x + 145 → z ≠ x → T6.1 z = T3.1 z := fun z hz hz2 => by rw [p6 z (by omega) hz2, p5 z (by omega) hz2, p4 z hz hz2]
  have c0 : T6.1 x = some (xO x) := by rw [e6]; exact ps_same
  have c1 : BnAt T6 (x + 1) F (fun _ => 0) := B3.frame X6 (fun z z1 z2 => q6 z (by omega) (by omega))
  have c2 : HiAt T6 (x + 15) F 0 0 (fun _ _ => 0) := H3.frame X6 (fun z z1 z2 => q6 z (by omega) (by omega))
  have c3 : RdAt T6 (x + 129) F 0 (-1) (fun _ => 0) := R3.frame X6 (fun z z1 z2 => q6 z (by omega) (by omega))
  have c4 : LgAt T6 (x + 145) := L4.frame (fun z z1 z2 => (p6 z (by omega) (by omega)).trans (p5 z (by omega) (by omega)))
  have c5 : MuAt T6 (x + 148) := M5.frame (fun z z1 z2 => p6 z (by omega) (by omega))
  have c6 : PlAt T6 (x + 150) := by rw [e6]; exact b6.frame (fun z z1 z2 => ps_ne (by omega) rfl)
  have c7 : GR S T6 x 153 := ⟨fun z hz => (q6 z (by omega) (by omega)).trans (n3 z hz), by rw [e6]; exact g12⟩
  have c8 : CX T6 x F (fun _ => 0) (fun _ _ => 0) 0 0 0 (-1) (fun _ => 0) := ⟨hF, c0, c1, ⟨c2, by omega, by omega⟩, c3, c4, c5, c6⟩
  rw [e6] at c7 c8
  exact ⟨rfl, c7, c8⟩
theorem c_X9_init (hF : x + 153 ≤ F) (h0 : S.1 x = some (cO 9 [.null, .null, .null, .null, .null, .null])) (hs : S.2 = x + 1) (hm : 152 ≤ mc) (hm2 : 5088 ≤ ms) : PC g yX9_init cX9_init (iX9_init mc ms) [.ref x] S (fun o S' => o = .inl none ∧ GR S S' x 153 ∧ CX S' x F (fun _ => 0) (fun _ _ => 0) 0 0 0 (-1) (fun _ => 0)) := by
  refine PC_of pnX9 rfl rfl rfl (Nat.le_of_ble_eq_true rfl) ?_
  refine r_bud (kc' := 151 + 1) (ks' := 5084 + 4) (by show 152 ≤ mc; omega) (by show 5088 ≤ ms; omega) ?_
  refine r_aload_n dX9_init_0 (i := 0) rfl rfl (r_objInit dX9_init_1 ob_X9_1 w_objI w_objC (Nat.le_of_ble_eq_true rfl) (Nat.le_of_ble_eq_true rfl) (r_aload_n dX9_init_4 (i := 0) rfl rfl ?_))
  refine r_new dX9_init_5 nl_X9_7 (fun _ => ?_)
  rw [hs]
  show PW g _ _ 8 _ [.ref (x + 1), .ref x] _ _ _ _
  refine r_dup dX9_init_8 rfl ?_
  refine r_invI dX9_init_9 (c_X0_init (F := F) (mc := 13) (ms := 224) (b := x + 1) (pn_at hs) (by show S.2 + 1 = _; omega) (by omega) (by omega)) (fun E S' h => by simp at h) mq_X0_init rfl ml_X9_9 ⟨Nat.le_of_ble_eq_true rfl, Nat.le_of_ble_eq_true rfl⟩ rfl rfl (Nat.le_of_ble_eq_true rfl) (kc' := 138) (ks' := 4860) (by show 13 + _ ≤ _; omega) (by show 224 + _ ≤ _; omega) (fun v S' hc => ?_)
  obtain ⟨d1, ⟨g1, g2⟩, b1⟩ := hc
  cases d1
  show PW g _ _ 12 _ [.ref (x + 1), .ref x] _ _ _ _
  have hx1 : S'.1 x = some (cO 9 [.null, .null, .null, .null, .null, .null]) := by rw [g1 x (by omega)]; exact pn_ne (by omega) h0
  refine r_lt (fun hlt => ?_)
  refine r_putF dX9_init_12 flf_X9_10 rfl hx1 rfl rfl (Nat.le_of_ble_eq_true rfl) ?_
  refine r_aload_n dX9_init_15 (i := 0) rfl rfl ?_
  obtain ⟨T1, e1⟩ : ∃ T1, T1 = ps_put S' x (cO 9 [.ref (x + 1), .null, .null, .null, .null, .null]) := ⟨_, rfl⟩
  have x1 : T1.1 x = some (cO 9 [.ref (x + 1), .null, .null, .null, .null, .null]) := by rw [e1]; exact ps_same
  have z1 : T1.2 = x + 15 := by rw [e1]; exact g2
  have n1 : ∀ z : Nat, z < x → T1.1 z = S.1 z := fun z hz => by rw [e1, ps_ne (by omega) (g1 z (by omega))]; exact pn_ne (by omega) rfl
  have B1 : BnAt T1 (x + 1) F (fun _ => 0) := by rw [e1]; exact b1.frame (ext_lt hlt (by omega)) (fun z z1 z2 => ps_ne (by omega) rfl)
  refine r_ps (S' := T1) e1.symm ?_
  clear hlt
  -- the history
  refine r_bud (kc' := 137 + 1) (ks' := 4857 + 3) (by omega) (by omega) ?_
  refine r_new dX9_init_16 nl_X9_16 (fun hlt => ?_)
  rw [z1]
  show PW g _ _ 19 _ [.ref (x + 15), .ref x] _ _ _ _
  refine r_dup dX9_init_19 rfl ?_
  refine r_invI dX9_init_20 (c_X2_init (F := F) (mc := 113) (ms := 1832) (h := x + 15) (by omega) (pn_at z1) (by show T1.2 + 1 = _; omega) (by omega) (by omega)) (fun E S' h => by simp at h) mq_X2_init rfl ml_X9_18 ⟨Nat.le_of_ble_eq_true rfl, Nat.le_of_ble_eq_true rfl⟩ rfl rfl (Nat.le_of_ble_eq_true rfl) (kc' := 24) (ks' := 3025) (by show 113 + _ ≤ _; omega) (by show 1832 + _ ≤ _; omega) (fun v S2 hc => ?_)
  obtain ⟨d1, ⟨g3, g4⟩, b2⟩ := hc
  cases d1
  have w2 : ∀ z : Nat, z < x + 15 → S2.1 z = T1.1 z := fun z hz => by rw [g3 z hz]; exact pn_ne (by omega) rfl
  have B1' : BnAt S2 (x + 1) F (fun _ => 0) := B1.frame (ext_lt hlt (by omega)) (fun z z1 z2 => w2 z (by omega))
  show PW g _ _ 23 _ [.ref (x + 15), .ref x] _ _ _ _
  clear hlt
  refine r_lt (fun hlt => ?_)
  refine r_putF dX9_init_23 flf_X9_19 rfl ((w2 x (by omega)).trans x1) rfl rfl (Nat.le_of_ble_eq_true rfl) ?_
  refine r_aload_n dX9_init_26 (i := 0) rfl rfl ?_
  obtain ⟨T2, e2⟩ : ∃ T2, T2 = ps_put S2 x (cO 9 [.ref (x + 1), .ref (x + 15), .null, .null, .null, .null]) := ⟨_, rfl⟩
  have x2 : T2.1 x = some (cO 9 [.ref (x + 1), .ref (x + 15), .null, .null, .null, .null]) := by rw [e2]; exact ps_same
  have z2 : T2.2 = x + 129 := by rw [e2]; exact g4
  have n2 : ∀ z : Nat, z < x → T2.1 z = S.1 z := fun z hz => by rw [e2, ps_ne (by omega) (w2 z (by omega))]; exact n1 z hz
  have B2 : BnAt T2 (x + 1) F (fun _ => 0) := by rw [e2]; exact B1'.frame (ext_lt hlt (by omega)) (fun z z1 z2 => ps_ne (by omega) rfl)
  have H2 : HiAt T2 (x + 15) F 0 0 (fun _ _ => 0) := by rw [e2]; exact b2.frame (ext_lt hlt (by omega)) (fun z z1 z2 => ps_ne (by omega) rfl)
  refine r_ps (S' := T2) e2.symm ?_
  clear hlt
  -- the reader
  refine r_bud (kc' := 23 + 1) (ks' := 3018 + 7) (by omega) (by omega) ?_
  refine r_new dX9_init_27 nl_X9_23 (fun hlt => ?_)
  rw [z2]
  show PW g _ _ 30 _ [.ref (x + 129), .ref x] _ _ _ _
  refine r_dup dX9_init_30 rfl ?_
  refine r_invIN dX9_init_31 (c_X8_init (F := F) (mc := 15) (ms := 828) (r := x + 129) (by omega) (pn_at z2) (by show T2.2 + 1 = _; omega) (by omega) (by omega)) (fun E S' h => by simp at h) mq_X8_init rfl ml_X9_25 ⟨Nat.le_of_ble_eq_true rfl, Nat.le_of_ble_eq_true rfl⟩ rfl rfl (Nat.le_of_ble_eq_true rfl) (kc' := 8) (ks' := 2190) (by show 15 + _ ≤ _; omega) (by show 828 + _ ≤ _; omega) (fun v S3 hc => ?_)
  obtain ⟨d1, ⟨g5, g6⟩, b3⟩ := hc
  cases d1
  have w3 : ∀ z : Nat, z < x + 129 → S3.1 z = T2.1 z := fun z hz => by rw [g5 z hz]; exact pn_ne (by omega) rfl
  have B2' : BnAt S3 (x + 1) F (fun _ => 0) := B2.frame (ext_lt hlt (by omega)) (fun z z1 z2 => w3 z (by omega))
  have H2' : HiAt S3 (x + 15) F 0 0 (fun _ _ => 0) := H2.frame (ext_lt hlt (by omega)) (fun z z1 z2 => w3 z (by omega))
  show PW g _ _ 34 _ [.ref (x + 129), .ref x] _ _ _ _
  clear hlt
  refine r_lt (fun hlt => ?_)
  refine r_putF dX9_init_34 flf_X9_26 rfl ((w3 x (by omega)).trans x2) rfl rfl (Nat.le_of_ble_eq_true rfl) ?_
  refine r_aload_n dX9_init_37 (i := 0) rfl rfl ?_
  obtain ⟨T3, e3⟩ : ∃ T3, T3 = ps_put S3 x (cO 9 [.ref (x + 1), .ref (x + 15), .ref (x + 129), .null, .null, .null]) := ⟨_, rfl⟩
  have x3 : T3.1 x = some (cO 9 [.ref (x + 1), .ref (x + 15), .ref (x + 129), .null, .null, .null]) := by rw [e3]; exact ps_same
  have z3 : T3.2 = x + 145 := by rw [e3]; exact g6
  have n3 : ∀ z : Nat, z < x → T3.1 z = S.1 z := fun z hz => by rw [e3, ps_ne (by omega) (w3 z (by omega))]; exact n2 z hz
  have B3 : BnAt T3 (x + 1) F (fun _ => 0) := by rw [e3]; exact B2'.frame (ext_lt hlt (by omega)) (fun z z1 z2 => ps_ne (by omega) rfl)
  have H3 : HiAt T3 (x + 15) F 0 0 (fun _ _ => 0) := by rw [e3]; exact H2'.frame (ext_lt hlt (by omega)) (fun z z1 z2 => ps_ne (by omega) rfl)
  have R3 : RdAt T3 (x + 129) F 0 (-1) (fun _ => 0) := by rw [e3]; exact b3.frame (ext_lt hlt (by omega)) (fun z z1 z2 => ps_ne (by omega) rfl)
  exact r_ps (S' := T3) e3.symm (r_loc [(0, some (.ref x))] ⟨Or.inl rfl, trivial⟩ (l_X9_init38 hF x3 z3 n3 B3 H3 R3))
theorem c_X10_init (h0 : S.1 m = some (cO 10 [.null, .null, .null, vi 0, vi 0, .null, vi 0, vi 0, vi 0, vi 0, vi 0, vi 0, vi 0, vi 0, vl 0, vi 0, vi 0, vi 0])) (hs : S.2 = m + 1) (hm : 4 ≤ mc) (hm2 : 2750 ≤ ms) : PC g yX10_init cX10_init (iX10_init mc ms) [.ref m] S (fun o S' => o = .inl none ∧ GR S S' m 5 ∧ S'.1 m = some (mO m 0 0 0 0 0 0 0 0 0 (-1) 0 0 0 0) ∧ S'.1 (m + 1) = some (cJ 215 (fun _ => 0)) ∧ S'.1 (m + 2) = some (cJ 215 (fun _ => 0)) ∧ S'.1 (m + 3) = some (cJ 1720 (fun _ => 0)) ∧ S'.1 (m + 4) = some (cI 600 (fun _ => 0))) := by
  refine PC_of pnX10 rfl rfl rfl (Nat.le_of_ble_eq_true rfl) ?_
  refine r_bud (kc' := 3 + 1) (ks' := 2535 + 215) (by show 4 ≤ mc; omega) (by show 2750 ≤ ms; omega) ?_
  refine r_aload_n dX10_init_0 (i := 0) rfl rfl (r_objInit dX10_init_1 ob_X10_1 w_objI w_objC (Nat.le_of_ble_eq_true rfl) (Nat.le_of_ble_eq_true rfl) (r_aload_n dX10_init_4 (i := 0) rfl rfl (r_sipush dX10_init_5 (by decide) ?_)))
  refine r_newJ (N := 215) dX10_init_8 w_ar_long (by decide) (fun _ => ?_)
  rw [hs]
  refine r_putF dX10_init_10 flf_X10_7 rfl (pn_ne (by omega) h0) rfl rfl (Nat.le_of_ble_eq_true rfl) ?_
  refine r_aload_n dX10_init_13 (i := 0) rfl rfl (r_sipush dX10_init_14 (by decide) ?_)
  obtain ⟨T1, e1⟩ : ∃ T1, T1 = ps_put (ps_new S (cJ 215 (fun _ => 0))) m (cO 10 [.ref (m + 1), .null, .null, vi 0, vi 0, .null, vi 0, vi 0, vi 0, vi 0, vi 0, vi 0, vi 0, vi 0, vl 0, vi 0, vi 0, vi 0]) := ⟨_, rfl⟩
  have x1 : T1.1 m = some (cO 10 [.ref (m + 1), .null, .null, vi 0, vi 0, .null, vi 0, vi 0, vi 0, vi 0, vi 0, vi 0, vi 0, vi 0, vl 0, vi 0, vi 0, vi 0]) := by rw [e1]; exact ps_same
  have y1 : T1.1 (m + 1) = some (cJ 215 (fun _ => 0)) := by rw [e1]; exact ps_ne (by omega) (pn_at hs)
  have z1 : T1.2 = m + 2 := by rw [e1]; show S.2 + 1 = _; omega
  have n1 : ∀ z : Nat, z < m → T1.1 z = S.1 z := fun z hz => by rw [e1]; exact ps_ne (by omega) (pn_ne (by omega) rfl)
  refine r_ps (S' := T1) e1.symm ?_
  refine r_bud (kc' := 2 + 1) (ks' := 2320 + 215) (by omega) (by omega) ?_
  refine r_newJ (N := 215) dX10_init_17 w_ar_long (by decide) (fun _ => ?_)
  rw [z1]
  refine r_putF dX10_init_19 flf_X10_13 rfl (pn_ne (by omega) x1) rfl rfl (Nat.le_of_ble_eq_true rfl) ?_
  refine r_aload_n dX10_init_22 (i := 0) rfl rfl (r_sipush dX10_init_23 (by decide) ?_)
  obtain ⟨T2, e2⟩ : ∃ T2, T2 = ps_put (ps_new T1 (cJ 215 (fun _ => 0))) m (cO 10 [.ref (m + 1), .ref (m + 2), .null, vi 0, vi 0, .null, vi 0, vi 0, vi 0, vi 0, vi 0, vi 0, vi 0, vi 0, vl 0, vi 0, vi 0, vi 0]) := ⟨_, rfl⟩
  have x2 : T2.1 m = some (cO 10 [.ref (m + 1), .ref (m + 2), .null, vi 0, vi 0, .null, vi 0, vi 0, vi 0, vi 0, vi 0, vi 0, vi 0, vi 0, vl 0, vi 0, vi 0, vi 0]) := by rw [e2]; exact ps_same
  have y2 : T2.1 (m + 1) = some (cJ 215 (fun _ => 0)) := by rw [e2]; exact ps_ne (by omega) (pn_ne (by omega) y1)
  have y22 : T2.1 (m + 2) = some (cJ 215 (fun _ => 0)) := by rw [e2]; exact ps_ne (by omega) (pn_at z1)
  have z2 : T2.2 = m + 3 := by rw [e2]; show T1.2 + 1 = _; omega
  have n2 : ∀ z : Nat, z < m → T2.1 z = S.1 z := fun z hz => by rw [e2, ← n1 z hz]; exact ps_ne (by omega) (pn_ne (by omega) rfl)
  refine r_ps (S' := T2) e2.symm ?_
  refine r_bud (kc' := 1 + 1) (ks' := 600 + 1720) (by omega) (by omega) ?_
  refine r_newJ (N := 1720) dX10_init_26 w_ar_long (by decide) (fun _ => ?_)
  rw [z2]
  refine r_putF dX10_init_28 flf_X10_16 rfl (pn_ne (by omega) x2) rfl rfl (Nat.le_of_ble_eq_true rfl) ?_
  refine r_aload_n dX10_init_31 (i := 0) rfl rfl (r_sipush dX10_init_32 (by decide) ?_)
  obtain ⟨T3, e3⟩ : ∃ T3, T3 = ps_put (ps_new T2 (cJ 1720 (fun _ => 0))) m (cO 10 [.ref (m + 1), .ref (m + 2), .ref (m + 3), vi 0, vi 0, .null, vi 0, vi 0, vi 0, vi 0, vi 0, vi 0, vi 0, vi 0, vl 0, vi 0, vi 0, vi 0]) := ⟨_, rfl⟩
  have x3 : T3.1 m = some (cO 10 [.ref (m + 1), .ref (m + 2), .ref (m + 3), vi 0, vi 0, .null, vi 0, vi 0, vi 0, vi 0, vi 0, vi 0, vi 0, vi 0, vl 0, vi 0, vi 0, vi 0]) := by rw [e3]; exact ps_same
  have y3 : T3.1 (m + 1) = some (cJ 215 (fun _ => 0)) := by rw [e3]; exact ps_ne (by omega) (pn_ne (by omega) y2)
  have y32 : T3.1 (m + 2) = some (cJ 215 (fun _ => 0)) := by rw [e3]; exact ps_ne (by omega) (pn_ne (by omega) y22)
  have y33 : T3.1 (m + 3) = some (cJ 1720 (fun _ => 0)) := by rw [e3]; exact ps_ne (by omega) (pn_at z2)
  have z3 : T3.2 = m + 4 := by rw [e3]; show T2.2 + 1 = _; omega
  have n3 : ∀ z : Nat, z < m → T3.1 z = S.1 z := fun z hz => by rw [e3, ← n2 z hz]; exact ps_ne (by omega) (pn_ne (by omega) rfl)
  refine r_ps (S' := T3) e3.symm ?_
  refine r_bud (kc' := 0 + 1) (ks' := 0 + 600) (by omega) (by omega) ?_
  refine r_newI (N := 600) dX10_init_35 w_ar_int (by decide) (fun _ => ?_)
  rw [z3]
  refine r_putF dX10_init_37 flf_X10_19 rfl (pn_ne (by omega) x3) rfl rfl (Nat.le_of_ble_eq_true rfl) ?_
  refine r_aload_n dX10_init_40 (i := 0) rfl rfl (r_iconst dX10_init_41 (r_put dX10_init_42 fl_X10_23 ps_same rfl rfl (Nat.le_of_ble_eq_true rfl) ?_))
  rw [ps_put_put]
  obtain ⟨T4, e4⟩ : ∃ T4, T4 = ps_put (ps_new T3 (cI 600 (fun _ => 0))) m (mO m 0 0 0 0 0 0 0 0 0 (-1) 0 0 0 0) := ⟨_, rfl⟩
  have x4 : T4.1 m = some (mO m 0 0 0 0 0 0 0 0 0 (-1) 0 0 0 0) := by rw [e4]; exact ps_same
  have y4 : T4.1 (m + 1) = some (cJ 215 (fun _ => 0)) := by rw [e4]; exact ps_ne (by omega) (pn_ne (by omega) y3)
  have y42 : T4.1 (m + 2) = some (cJ 215 (fun _ => 0)) := by rw [e4]; exact ps_ne (by omega) (pn_ne (by omega) y32)
  have y43 : T4.1 (m + 3) = some (cJ 1720 (fun _ => 0)) := by rw [e4]; exact ps_ne (by omega) (pn_ne (by omega) y33)
  have y44 : T4.1 (m + 4) = some (cI 600 (fun _ => 0)) := by rw [e4]; exact ps_ne (by omega) (pn_at z3)
  have z4 : T4.2 = m + 5 := by rw [e4]; show T3.2 + 1 = _; omega
  have n4 : ∀ z : Nat, z < m → T4.1 z = S.1 z := fun z hz => by rw [e4, ← n3 z hz]; exact ps_ne (by omega) (pn_ne (by omega) rfl)
  refine r_ps (S' := T4) e4.symm ?_
  refine r_aload_n dX10_init_45 (i := 0) rfl rfl (c_vn dX10_init_46 (c_X10_becomes x4 y4 y42) rfl rfl mq_X10_becomes ml_X10_27 ⟨Nat.le_of_ble_eq_true rfl, Nat.le_of_ble_eq_true rfl⟩ x4 rfl rfl rfl (Nat.le_of_ble_eq_true rfl) ?_)
  refine r_J (f' := fun _ => 0) ps_same (fun i i0 i1 => by rw [mix_in (by omega)]) ?_
  rw [ps_put_put]
  refine r_vret dX10_init_49 rfl ?_
  exact ⟨rfl, ⟨fun z hz => by rw [← n4 z hz]; exact ps_ne (by omega) rfl, z4⟩, ps_ne (by omega) x4, ps_same, ps_ne (by omega) y42, ps_ne (by omega) y43, ps_ne (by omega) y44⟩
end CTOR3

/-! the constructors: History, TextReader, LogarithmTable, Multiplier, PlanFinder, the class, the model -/
theorem ext_lt {S S' : PS} {F : Nat} (hlt : ∀ (z : Nat) (c : PE), S.1 z = some c → z < S.2) (hF : S.2 ≤ F) : Ext F S S' := fun z hz c hc => absurd (hlt z c hc) (by omega)
section CTOR2
variable {g : GT} {S : PS} {mc ms : Nat} {Q : PO → PS → Prop} {kc ks : Nat} {q h r x m F : Nat}
/-- a history under way: i of its benches are made -/
def HiI (S0 S : PS) (h F : Nat) (i : Nat) : Prop := (∀ z : Nat, z < h → S.1 z = S0.1 z) ∧ S.2 = h + 2 + 14 * i ∧ S.1 h = some (cO 2 [.ref (h + 1), vi 0, vi 0]) ∧ (∃ f : Int → Option Nat, S.1 (h + 1) = some (cR 4 8 f) ∧ ∀ s : Int, 0 ≤ s → s < i → f s = some (h + 2 + 14 * s.toNat)) ∧ ∀ s : Nat, s < i → BnAt S (h + 2 + 14 * s) F (fun _ => 0)
theorem l_hiI {S0 : PS} (hF : h + 114 ≤ F) (hQ : ∀ S, HiI S0 S h F 8 → PW g cX2_init (iX2_init mc ms) 40 [(0, some (.ref h))] [] S 0 0 Q) : ∀ (n i : Nat), i + n = 8 → ∀ S, HiI S0 S h F i →
    PW g cX2_init (iX2_init mc ms) 15 [(0, some (.ref h)), (1, some (vi (i : Int)))] [] S (14 * n) (228 * n) Q := by
  intro n
  induction n with
  | zero =>
    intro i hi S hS
    have e : i = 8 := by omega
    subst e
    refine r_iload_n dX2_init_15 (i := 1) rfl rfl (r_bipush dX2_init_16 (by decide) ?_)
    refine r_icmp_ge 40 dX2_init_18 (by decide) (by omega) (by omega) (fun c1 => ?_) (fun c1 => ?_)
    · exact r_loc [(0, some (.ref h))] ⟨Or.inl rfl, trivial⟩ (hQ S hS)
    · omega
  | succ n ih =>
    intro i hi S hS
    obtain ⟨h1, h2, h3, ⟨f, h5, h6⟩, h10⟩ := hS
    refine r_bud (kc' := 14 * n + 13 + 1) (ks' := 228 * n + 224 + 4) (by omega) (by omega) ?_
    refine r_iload_n dX2_init_15 (i := 1) rfl rfl (r_bipush dX2_init_16 (by decide) ?_)
    refine r_icmp_ge 40 dX2_init_18 (by decide) (by omega) (by omega) (fun c1 => ?_) (fun c1 => ?_)
    · omega
    · refine r_aload_n dX2_init_21 (i := 0) rfl rfl (r_get dX2_init_22 fl_X2_11 h3 rfl (r_iload_n dX2_init_25 (i := 1) rfl rfl ?_))
      refine r_new dX2_init_26 nl_X2_9 (fun hlt => ?_)
      show PW g _ _ 29 _ [.ref S.2, vi (i : Int), .ref (h + 1)] _ _ _ _
      refine r_dup dX2_init_29 rfl ?_
      refine r_invI dX2_init_30 (c_X0_init (F := F) (mc := 13) (ms := 224) (b := S.2) pn_same rfl (by omega) (by omega)) (fun E S' h => by simp at h) mq_X0_init rfl ml_X2_17 ⟨Nat.le_of_ble_eq_true rfl, Nat.le_of_ble_eq_true rfl⟩ rfl rfl (Nat.le_of_ble_eq_true rfl) (kc' := (14*n)) (ks' := (228*n)) (by show 13 + _ ≤ _; omega) (by show 224 + _ ≤ _; omega) (fun v S' hc => ?_)
      obtain ⟨e1, ⟨g1, g2⟩, g3⟩ := hc
      cases e1
      show PW g _ _ 33 _ [.ref S.2, vi (i : Int), .ref (h + 1)] _ _ _ _
      have hx : ∀ z : Nat, z < S.2 → S'.1 z = S.1 z := fun z hz => by
        rw [g1 z hz]
        exact pn_ne (by omega) rfl
      have h5' : S'.1 (h + 1) = some (cR 4 8 f) := by rw [hx _ (by omega)]; exact h5
      refine r_lt (fun hlt2 => ?_)
      refine r_aast dX2_init_33 h5' rfl rfl g3.1.1 (by omega) (by omega) (by omega) (r_iinc dX2_init_34 rfl rfl (r_goto 15 dX2_init_37 (by decide) ?_))
      refine r_loc [(0, some (.ref h)), (1, some (vi ((i + 1 : Nat) : Int)))] ⟨Or.inl rfl, Or.inl rfl, trivial⟩ (ih (i + 1) (by omega) _ ⟨fun z hz => ?_, ?_, ?_, ⟨_, ps_same, fun s s0 s1 => ?_⟩, fun s s1 => ?_⟩)
      · rw [ps_ne (by omega) (hx z (by omega))]
        exact h1 z hz
      · show S'.2 = _
        omega
      · rw [ps_ne (by omega) (hx h (by omega))]
        exact h3
      · unfold upR
        by_cases e : s = (i : Int)
        · rw [if_pos e, e, Int.toNat_natCast, h2]
        · rw [if_neg e]
          exact h6 s s0 (by omega)
      · by_cases e : s = i
        · rw [e, ← h2]
          exact g3.frame (ext_lt hlt2 (by omega)) (fun z z1 z2 => ps_ne (by omega) rfl)
        · exact (h10 s (by omega)).frame (ext_lt hlt (by omega)) (fun z z1 z2 => ps_ne (by omega) (hx z (by omega)))
theorem c_X2_init (hF : h + 114 ≤ F) (h0 : S.1 h = some (cO 2 [.null, vi 0, vi 0])) (hs : S.2 = h + 1) (hm : 113 ≤ mc) (hm2 : 1832 ≤ ms) : PC g yX2_init cX2_init (iX2_init mc ms) [.ref h] S (fun o S' => o = .inl none ∧ GR S S' h 114 ∧ HiAt S' h F 0 0 (fun _ _ => 0)) := by
  refine PC_of pnX2 rfl rfl rfl (Nat.le_of_ble_eq_true rfl) ?_
  refine r_bud (kc' := 112 + 1) (ks' := 1824 + 8) (by show 113 ≤ mc; omega) (by show 1832 ≤ ms; omega) ?_
  refine r_aload_n dX2_init_0 (i := 0) rfl rfl (r_objInit dX2_init_1 ob_X2_3 w_objI w_objC (Nat.le_of_ble_eq_true rfl) (Nat.le_of_ble_eq_true rfl) (r_aload_n dX2_init_4 (i := 0) rfl rfl (r_bipush dX2_init_5 (by decide) (r_newq (t := 4) (N := 8) dX2_init_7 rfl cl_X2_9 w_ao_0 (by decide) (fun _ => ?_)))))
  rw [show S.2 = h + 1 from hs]
  refine r_putF dX2_init_10 flf_X2_11 rfl (pn_ne (by omega) h0) rfl rfl (Nat.le_of_ble_eq_true rfl) ?_
  refine r_iconst dX2_init_13 (r_istore_n dX2_init_14 (i := 1) rfl rfl (Nat.le_of_ble_eq_true rfl) ?_)
  refine r_loc [(0, some (.ref h)), (1, some (vi ((0 : Nat) : Int)))] ⟨Or.inl rfl, Or.inl rfl, trivial⟩ (r_bud (kc' := 14 * 8) (ks' := 228 * 8) (by omega) (by omega) (l_hiI (S0 := S) hF (fun S4 h4 => ?_) 8 0 (by omega) _ ⟨fun z hz => ?_, ?_, ?_, ⟨fun _ => none, ?_, fun s s0 s1 => ?_⟩, fun s s1 => ?_⟩))
  · obtain ⟨h1, h2, h3, ⟨f, h5, h6⟩, h10⟩ := h4
    refine r_lt (fun hlt => ?_)
    refine r_R (f' := fun s => some (h + 2 + 14 * s.toNat)) h5 (fun i i0 i1 => (h6 i i0 (by omega)).symm) ?_
    refine r_vret dX2_init_40 rfl ?_
    exact ⟨rfl, ⟨fun z hz => by rw [← h1 z hz]; exact ps_ne (by omega) rfl, h2⟩, ps_ne (by omega) h3, ps_same, fun i hi => (h10 i hi).frame (ext_lt hlt (by omega)) (fun z z1 z2 => ps_ne (by omega) rfl)⟩
  · exact ps_ne (by omega) (pn_ne (by omega) rfl)
  · show S.2 + 1 = _
    omega
  · exact ps_same
  · exact ps_ne (by omega) (pn_at hs)
  · omega
  · omega
theorem c_X8_init (hF : r + 16 ≤ F) (h0 : S.1 r = some (cO 8 [.null, .null, vi 0, vi 0, vi 0, vi 0, vi 0])) (hs : S.2 = r + 1) (hm : 15 ≤ mc) (hm2 : 828 ≤ ms) : PC g yX8_init cX8_init (iX8_init mc ms) [.ref r] S (fun o S' => o = .inl none ∧ GR S S' r 16 ∧ RdAt S' r F 0 (-1) (fun _ => 0)) := by
  refine PC_of pnX8 rfl rfl rfl (Nat.le_of_ble_eq_true rfl) ?_
  refine r_bud (kc' := 14 + 1) (ks' := 228 + 600) (by show 15 ≤ mc; omega) (by show 828 ≤ ms; omega) ?_
  refine r_aload_n dX8_init_0 (i := 0) rfl rfl (r_objInit dX8_init_1 ob_X8_3 w_objI w_objC (Nat.le_of_ble_eq_true rfl) (Nat.le_of_ble_eq_true rfl) (r_aload_n dX8_init_4 (i := 0) rfl rfl (r_sipush dX8_init_5 (by decide) (r_newB (N := 600) dX8_init_8 w_ar_byte (by decide) (fun _ => ?_)))))
  rw [show S.2 = r + 1 from hs]
  refine r_putF dX8_init_10 flf_X8_9 rfl (pn_ne (by omega) h0) rfl rfl (Nat.le_of_ble_eq_true rfl) ?_
  refine r_aload_n dX8_init_13 (i := 0) rfl rfl ?_
  obtain ⟨S1, e1⟩ : ∃ S1, S1 = ps_put (ps_new S (cB 600 (fun _ => 0))) r (cO 8 [.ref (r + 1), .null, vi 0, vi 0, vi 0, vi 0, vi 0]) := ⟨_, rfl⟩
  have a1 : S1.1 r = some (cO 8 [.ref (r + 1), .null, vi 0, vi 0, vi 0, vi 0, vi 0]) := by rw [e1]; exact ps_same
  have a2 : S1.1 (r + 1) = some (cB 600 (fun _ => 0)) := by rw [e1]; exact ps_ne (by omega) (pn_at hs)
  have z1 : S1.2 = r + 2 := by rw [e1]; show S.2 + 1 = _; omega
  have n1 : ∀ z : Nat, z < r → S1.1 z = S.1 z := fun z hz => by rw [e1]; exact ps_ne (by omega) (pn_ne (by omega) rfl)
  refine r_ps (S' := S1) e1.symm ?_
  refine r_bud (kc' := 13 + 1) (ks' := 224 + 4) (by omega) (by omega) ?_
  refine r_new dX8_init_14 nl_X8_15 (fun hlt => ?_)
  rw [z1]
  show PW g _ _ 17 _ [.ref (r + 2), .ref r] _ _ _ _
  refine r_dup dX8_init_17 rfl ?_
  refine r_invI dX8_init_18 (c_X0_init (F := F) (mc := 13) (ms := 224) (b := r + 2) (pn_at z1) (by show S1.2 + 1 = _; omega) (by omega) (by omega)) (fun E S' h => by simp at h) mq_X0_init rfl ml_X8_17 ⟨Nat.le_of_ble_eq_true rfl, Nat.le_of_ble_eq_true rfl⟩ rfl rfl (Nat.le_of_ble_eq_true rfl) (kc' := 0) (ks' := 0) (by show 13 + _ ≤ _; omega) (by show 224 + _ ≤ _; omega) (fun v S' hc => ?_)
  obtain ⟨d1, ⟨g1, g2⟩, g3⟩ := hc
  cases d1
  show PW g _ _ 21 _ [.ref (r + 2), .ref r] _ _ _ _
  have hx : ∀ z : Nat, z < r + 2 → S'.1 z = S1.1 z := fun z hz => by
    rw [g1 z hz]
    exact pn_ne (by omega) rfl
  have k1 : S'.1 r = some (cO 8 [.ref (r + 1), .null, vi 0, vi 0, vi 0, vi 0, vi 0]) := by rw [hx r (by omega)]; exact a1
  refine r_lt (fun hlt2 => ?_)
  refine r_putF dX8_init_21 flf_X8_18 rfl k1 rfl rfl (Nat.le_of_ble_eq_true rfl) ?_
  refine r_aload_n dX8_init_24 (i := 0) rfl rfl (r_iconst dX8_init_25 (r_put dX8_init_26 fl_X8_22 ps_same rfl rfl (Nat.le_of_ble_eq_true rfl) (r_vret dX8_init_29 rfl ?_)))
  rw [ps_put_put]
  exact ⟨rfl, ⟨fun z hz => by rw [← n1 z hz]; exact ps_ne (by omega) (hx z (by omega)), by show S'.2 = _; omega⟩, ⟨0, 0, 0, ps_same⟩, by rw [ps_ne (by omega) (hx (r + 1) (by omega))]; exact a2, _, g3.frame (ext_lt hlt2 (by omega)) (fun z z1 z2 => ps_ne (by omega) rfl)⟩
theorem c_X3_init (h0 : S.1 q = some (cO 3 [.null, .null])) (hs : S.2 = q + 1) (hm : 2 ≤ mc) (hm2 : 2048 ≤ ms) : PC g yX3_init cX3_init (iX3_init mc ms) [.ref q] S (fun o S' => o = .inl none ∧ GR S S' q 3 ∧ LgAt S' q) := by
  refine PC_of pnX3 rfl rfl rfl (Nat.le_of_ble_eq_true rfl) ?_
  refine r_bud (kc' := 1 + 1) (ks' := 1024 + 1024) (by show 2 ≤ mc; omega) (by show 2048 ≤ ms; omega) ?_
  refine r_aload_n dX3_init_0 (i := 0) rfl rfl (r_objInit dX3_init_1 ob_X3_3 w_objI w_objC (Nat.le_of_ble_eq_true rfl) (Nat.le_of_ble_eq_true rfl) (r_aload_n dX3_init_4 (i := 0) rfl rfl (r_sipush dX3_init_5 (by decide) (r_newI (N := 1024) dX3_init_8 w_ar_int (by decide) (fun _ => ?_)))))
  rw [show S.2 = q + 1 from hs]
  refine r_putF dX3_init_10 flf_X3_11 rfl (pn_ne (by omega) h0) rfl rfl (Nat.le_of_ble_eq_true rfl) ?_
  refine r_aload_n dX3_init_13 (i := 0) rfl rfl (r_sipush dX3_init_14 (by decide) ?_)
  obtain ⟨S1, e1⟩ : ∃ S1, S1 = ps_put (ps_new S (cI 1024 (fun _ => 0))) q (cO 3 [.ref (q + 1), .null]) := ⟨_, rfl⟩
  have a1 : S1.1 q = some (cO 3 [.ref (q + 1), .null]) := by rw [e1]; exact ps_same
  have a2 : S1.1 (q + 1) = some (cI 1024 (fun _ => 0)) := by rw [e1]; exact ps_ne (by omega) (pn_at hs)
  have z1 : S1.2 = q + 2 := by rw [e1]; show S.2 + 1 = _; omega
  have n1 : ∀ z : Nat, z < q → S1.1 z = S.1 z := fun z hz => by rw [e1]; exact ps_ne (by omega) (pn_ne (by omega) rfl)
  refine r_ps (S' := S1) e1.symm ?_
  refine r_bud (kc' := 0 + 1) (ks' := 0 + 1024) (by omega) (by omega) ?_
  refine r_newI (N := 1024) dX3_init_17 w_ar_int (by decide) (fun _ => ?_)
  rw [z1]
  refine r_putF dX3_init_19 flf_X3_15 rfl (pn_ne (by omega) a1) rfl rfl (Nat.le_of_ble_eq_true rfl) ?_
  refine r_vret dX3_init_22 rfl ?_
  exact ⟨rfl, ⟨fun z hz => by rw [← n1 z hz]; exact ps_ne (by omega) (pn_ne (by omega) rfl), by show S1.2 + 1 = _; omega⟩, ps_same, ⟨_, ps_ne (by omega) (pn_ne (by omega) a2)⟩, _, ps_ne (by omega) (pn_at z1)⟩
theorem c_X4_init (h0 : S.1 q = some (cO 4 [.null])) (hs : S.2 = q + 1) (hm : 1 ≤ mc) (hm2 : 64 ≤ ms) : PC g yX4_init cX4_init (iX4_init mc ms) [.ref q] S (fun o S' => o = .inl none ∧ GR S S' q 2 ∧ MuAt S' q) := by
  refine PC_of pnX4 rfl rfl rfl (Nat.le_of_ble_eq_true rfl) ?_
  refine r_bud (kc' := 0 + 1) (ks' := 0 + 64) (by show 1 ≤ mc; omega) (by show 64 ≤ ms; omega) ?_
  refine r_aload_n dX4_init_0 (i := 0) rfl rfl (r_objInit dX4_init_1 ob_X4_3 w_objI w_objC (Nat.le_of_ble_eq_true rfl) (Nat.le_of_ble_eq_true rfl) (r_aload_n dX4_init_4 (i := 0) rfl rfl (r_bipush dX4_init_5 (by decide) (r_newI (N := 64) dX4_init_7 w_ar_int (by decide) (fun _ => ?_)))))
  rw [show S.2 = q + 1 from hs]
  refine r_putF dX4_init_9 flf_X4_9 rfl (pn_ne (by omega) h0) rfl rfl (Nat.le_of_ble_eq_true rfl) ?_
  refine r_vret dX4_init_12 rfl ?_
  exact ⟨rfl, ⟨fun z hz => ps_ne (by omega) (pn_ne (by omega) rfl), by show S.2 + 1 = _; omega⟩, ps_same, _, ps_ne (by omega) (pn_at hs)⟩
theorem c_X5_init (h0 : S.1 q = some (cO 5 [.null, .null, vi 0, vi 0, vi 0])) (hs : S.2 = q + 1) (hm : 2 ≤ mc) (hm2 : 70 ≤ ms) : PC g yX5_init cX5_init (iX5_init mc ms) [.ref q] S (fun o S' => o = .inl none ∧ GR S S' q 3 ∧ PlAt S' q) := by
  refine PC_of pnX5 rfl rfl rfl (Nat.le_of_ble_eq_true rfl) ?_
  refine r_bud (kc' := 1 + 1) (ks' := 64 + 6) (by show 2 ≤ mc; omega) (by show 70 ≤ ms; omega) ?_
  refine r_aload_n dX5_init_0 (i := 0) rfl rfl (r_objInit dX5_init_1 ob_X5_3 w_objI w_objC (Nat.le_of_ble_eq_true rfl) (Nat.le_of_ble_eq_true rfl) (r_aload_n dX5_init_4 (i := 0) rfl rfl (r_bipush dX5_init_5 (by decide) (r_newI (N := 6) dX5_init_7 w_ar_int (by decide) (fun _ => ?_)))))
  rw [show S.2 = q + 1 from hs]
  refine r_putF dX5_init_9 flf_X5_9 rfl (pn_ne (by omega) h0) rfl rfl (Nat.le_of_ble_eq_true rfl) ?_
  refine r_aload_n dX5_init_12 (i := 0) rfl rfl (r_bipush dX5_init_13 (by decide) ?_)
  obtain ⟨S1, e1⟩ : ∃ S1, S1 = ps_put (ps_new S (cI 6 (fun _ => 0))) q (cO 5 [.ref (q + 1), .null, vi 0, vi 0, vi 0]) := ⟨_, rfl⟩
  have a1 : S1.1 q = some (cO 5 [.ref (q + 1), .null, vi 0, vi 0, vi 0]) := by rw [e1]; exact ps_same
  have a2 : S1.1 (q + 1) = some (cI 6 (fun _ => 0)) := by rw [e1]; exact ps_ne (by omega) (pn_at hs)
  have z1 : S1.2 = q + 2 := by rw [e1]; show S.2 + 1 = _; omega
  have n1 : ∀ z : Nat, z < q → S1.1 z = S.1 z := fun z hz => by rw [e1]; exact ps_ne (by omega) (pn_ne (by omega) rfl)
  refine r_ps (S' := S1) e1.symm ?_
  refine r_bud (kc' := 0 + 1) (ks' := 0 + 64) (by omega) (by omega) ?_
  refine r_newZ (N := 64) dX5_init_15 w_ar_boolean (by decide) (fun _ => ?_)
  rw [z1]
  refine r_putF dX5_init_17 flf_X5_15 rfl (pn_ne (by omega) a1) rfl rfl (Nat.le_of_ble_eq_true rfl) ?_
  refine r_vret dX5_init_20 rfl ?_
  exact ⟨rfl, ⟨fun z hz => by rw [← n1 z hz]; exact ps_ne (by omega) (pn_ne (by omega) rfl), by show S1.2 + 1 = _; omega⟩, ⟨0, 0, 0, ps_same⟩, ⟨_, ps_ne (by omega) (pn_ne (by omega) a2)⟩, _, ps_ne (by omega) (pn_at z1)⟩
end CTOR2

/-! the class: Bench.addField; the face's addPrime -/
/-- the cells of the bench b anew, further cells behind all -/
def FrN (b : Nat) (S S' : PS) : Prop := (∀ z : Nat, z < S.2 → z < b ∨ b + 14 ≤ z → S'.1 z = S.1 z) ∧ (∀ (z : Nat) (c : PE), S.1 z = some c → z < S.2) ∧ S.2 ≤ S'.2
theorem FrN.ext {b F : Nat} {S S' : PS} (h : FrN b S S') (hF : b + 14 ≤ F) : Ext F S S' := fun z hz c hc => by
  rw [h.1 z (h.2.1 z c hc) (by omega)]
  exact hc
section ADDF
variable {g : GT} {S : PS} {mc ms : Nat} {b F : Nat} {a : Int → Int}
theorem c_X0_addField {p : Nat} (hb : BnAt S b F a) (hF : b + 14 ≤ F) (hFS : F ≤ S.2) (hp : MP a) (hl : ML a) (hn : a 0 < 6) (hpr : 3 ≤ p ∧ p ≤ 100003) (hpp : Pr p) (hm : 2 ≤ mc) (hm2 : 10 ≤ ms) : PC g yX0_addField cX0_addField (iX0_addField mc ms) [.ref b, vi (p : Int)] S (fun o S' => o = .inl none ∧ FrN b S S' ∧ BnAt S' b F (addA a (p : Int))) := by
  have h0 := hp.1
  have hg := genN_ok hpp hpr.1
  obtain ⟨⟨k1, r, k2, k3, k4⟩, hsq, hpd⟩ := hb
  refine PC_of pnX0 rfl rfl rfl (Nat.le_of_ble_eq_true rfl) ?_
  refine r_bud (kc' := 0 + 1 + 1) (ks' := 0 + 6 + 4) (by show 2 ≤ mc; omega) (by show 10 ≤ ms; omega) ?_
  refine r_aload_n dX0_addField_0 (i := 0) rfl rfl (r_get dX0_addField_1 fl_X0_36 k1 rfl (r_bipush dX0_addField_4 (by decide) ?_))
  refine r_icmp_ge 33 dX0_addField_6 (by decide) (by omega) (by omega) (fun c1 => ?_) (fun c1 => ?_)
  · omega
  · refine r_aload_n dX0_addField_9 (i := 0) rfl rfl (r_get dX0_addField_10 fl_X0_11 k1 rfl (r_aload_n dX0_addField_13 (i := 0) rfl rfl (r_dup dX0_addField_14 rfl (r_get dX0_addField_15 fl_X0_36 k1 rfl ?_))))
    refine r_dup_x1 dX0_addField_18 rfl rfl (r_iconst dX0_addField_19 (r_iadd dX0_addField_20 (r_put dX0_addField_21 fl_X0_36 k1 rfl rfl (Nat.le_of_ble_eq_true rfl) ?_)))
    refine r_new dX0_addField_24 nl_X0_9 (fun hlt => ?_)
    have hlt' : ∀ (z : Nat) (c : PE), S.1 z = some c → z < S.2 := fun z c hc => by
      by_cases e : z = b
      · subst e
        exact Nat.lt_of_lt_of_le (by omega) hFS
      · exact hlt z c (by show (if z = b then _ else _) = _; rw [if_neg e]; exact hc)
    show PW g _ _ 27 _ [.ref S.2, vi (a 0), .ref (b + 1)] _ _ _ _
    refine r_dup dX0_addField_27 rfl (r_iload_n dX0_addField_28 (i := 1) rfl rfl ?_)
    refine r_invI dX0_addField_29 (c_X1_init (mc := 1) (ms := 6) (q := S.2) pn_same rfl hpr hg (by omega) (by omega)) (fun E S' h => by simp at h) mq_X1_init rfl ml_X0_43 ⟨Nat.le_of_ble_eq_true rfl, Nat.le_of_ble_eq_true rfl⟩ rfl rfl (Nat.le_of_ble_eq_true rfl) (kc' := 0) (ks' := 0) (by show 1 + _ ≤ _; omega) (by show 6 + _ ≤ _; omega) (fun v S' hi => ?_)
    obtain ⟨e1, ff, fc, hfa, rfl⟩ := hi
    cases e1
    show PW g _ _ 32 _ [.ref S.2, vi (a 0), .ref (b + 1)] _ _ _ _
    obtain ⟨S2, hS2⟩ : ∃ S2 : PS, S2 = ((fun z => if z = S.2 then some (cO 1 [vi (p : Int), .ref (S.2 + 1), vi (fc : Int), vi (genN p : Int)]) else if z = S.2 + 1 then some (cI 6 ff) else (ps_new (ps_put S b (bO b (a 0 + 1))) (cO 1 [Value.int 0, Value.null, Value.int 0, Value.int 0])).1 z, S.2 + 2) : PS) := ⟨_, rfl⟩
    refine r_ps (S' := S2) (by rw [hS2]; rfl) ?_
    have hE2 : ∀ z : Nat, z < S.2 → z ≠ b → S2.1 z = S.1 z := fun z z1 z2 => by
      rw [hS2]
      show (if z = S.2 then _ else if z = S.2 + 1 then _ else (if z = S.2 then _ else if z = b then _ else S.1 z)) = _
      rw [if_neg (by omega), if_neg (by omega), if_neg (by omega), if_neg z2]
    have hB2 : S2.1 b = some (bO b (a 0 + 1)) := by
      rw [hS2]
      show (if b = S.2 then _ else if b = S.2 + 1 then _ else (if b = S.2 then _ else if b = b then _ else S.1 b)) = _
      rw [if_neg (by omega), if_neg (by omega), if_neg (by omega), if_pos rfl]
    have hN2 : S2.1 S.2 = some (cO 1 [vi (p : Int), .ref (S.2 + 1), vi (fc : Int), vi (genN p : Int)]) := by
      rw [hS2]
      exact if_pos rfl
    have hN3 : S2.1 (S.2 + 1) = some (cI 6 ff) := by
      rw [hS2]
      show (if S.2 + 1 = S.2 then _ else if S.2 + 1 = S.2 + 1 then _ else _) = _
      rw [if_neg (by omega), if_pos rfl]
    have hz2 : S2.2 = S.2 + 2 := by rw [hS2]
    have hA2 : S2.1 (b + 1) = some (cR 6 6 r) := by
      rw [hE2 _ (by omega) (by omega)]
      exact k2
    refine r_aast dX0_addField_32 hA2 rfl rfl hN2 (by omega) (by omega) (by omega) (r_vret dX0_addField_33 rfl ?_)
    have hE : ∀ z : Nat, z < S.2 → z ≠ b → z ≠ b + 1 → (ps_put S2 (b + 1) (cR 6 6 (upR r (a 0) (some S.2)))).1 z = S.1 z := fun z z1 z2 z3 => ps_ne z3 (hE2 z z1 z2)
    have hfr : FrN b S (ps_put S2 (b + 1) (cR 6 6 (upR r (a 0) (some S.2)))) := ⟨fun z z1 z2 => hE z z1 (by omega) (by omega), hlt', by show S.2 ≤ S2.2; omega⟩
    have hX := hfr.ext hF
    obtain ⟨m1, m2⟩ := add_md (p := (p : Int)) hp hn
    have eA0 : addA a (p : Int) 0 = a 0 + 1 := by
      unfold addA
      rw [upI_eq]
    have eAk : ∀ k : Int, 0 ≤ k → k < a 0 → addA a (p : Int) (1 + k) = a (1 + k) := fun k k0 k1 => by
      unfold addA
      rw [upI_ne (by omega), upI_ne (by omega)]
    have eAn : addA a (p : Int) (1 + a 0) = (p : Int) := by
      unfold addA
      rw [upI_ne (by omega), upI_eq]
    refine ⟨rfl, hfr, ⟨by rw [eA0]; exact ps_ne (by omega) hB2, _, ps_same, fun i hi y hy => ?_, fun k k0 k9 => ?_⟩, m1.sq hl ?_, Up.pd m2 ?_⟩
    · unfold upR at hy
      by_cases e : (i : Int) = a 0
      · rw [if_pos e] at hy
        cases hy
        exact ⟨hFS, _, ps_ne (by omega) hN2⟩
      · rw [if_neg e] at hy
        obtain ⟨y1, fs, y2⟩ := k3 i hi y hy
        exact ⟨y1, fs, hX y y1 _ y2⟩
    · rw [eA0] at k9
      unfold pN upR
      by_cases e : k = a 0
      · subst e
        rw [eAn, if_pos rfl, Int.toNat_natCast]
        exact ⟨S.2, rfl, hFS, ff, fc, ps_ne (by omega) hN2, ps_ne (by omega) hN3, hfa⟩
      · rw [eAk k k0 (by omega), if_neg e]
        obtain ⟨y, y1, y2, y3⟩ := k4 k k0 (by omega)
        exact ⟨y, y1, y2, hX.fld y2 y3⟩
    · obtain ⟨w, hq⟩ : ∃ w, SqW S b a w := hsq
      obtain ⟨w1, w2, w3, w4⟩ := hq
      refine ⟨w, w1, w2, by rw [hE _ (by omega) (by omega) (by omega)]; exact w3, fun s s0 s1 => ?_⟩
      have := w1 s s0 s1
      obtain ⟨f, ⟨g1, g2⟩, g3⟩ := w4 s s0 s1
      exact ⟨f, ⟨by rw [hE _ (by omega) (by omega) (by omega)]; exact g1, by rw [hE _ (by omega) (by omega) (by omega)]; exact g2⟩, g3⟩
    · obtain ⟨fc1, c, kd, st, ln, md, vf, pf, p1, p2, p3, p4, p5, p6⟩ := hpd
      refine ⟨fc1, c, kd, st, ln, md, vf, pf, by rw [hE _ (by omega) (by omega) (by omega)]; exact p1, by rw [hE _ (by omega) (by omega) (by omega)]; exact p2, by rw [hE _ (by omega) (by omega) (by omega)]; exact p3, hX.fra p4, p5, fun h139 => ?_⟩
      obtain ⟨e1, e2, e3, e4, e5, e6, e7⟩ := p6 h139
      refine ⟨e1, e2, e3, e4, e5, e6, fun i i0 i1 => ?_⟩
      obtain ⟨y, q1, q2, q3⟩ := e7 i i0 i1
      exact ⟨y, q1, q2, hX.fld q2 q3⟩
end ADDF
section ADDP
variable {g : GT} {S : PS} {mc ms : Nat} {x F : Nat} {a : Int → Int} {H : Int → Int → Int} {nx ct fd ea : Int} {tx : Int → Int}
theorem c_X9_addPrime {p : Int} (hC : CX S x F a H nx ct fd ea tx) (hFS : F ≤ S.2) (hp : MP a) (hl : ML a) (hpr : RI p) (hm : 2 ≤ mc) (hm2 : 10 ≤ ms) : PC g yX9_addPrime cX9_addPrime (iX9_addPrime mc ms) [.ref x, vi p] S (Out ["java/lang/IllegalArgumentException", "java/lang/IllegalStateException"] (kAdd a p) (vi (a 0)) S (Chg x F S (addA a p) a H nx ct fd ea tx)) := by
  have hx := hC.2.1
  have hb := hC.2.2.1
  have hF := hC.1
  have h0 := hp.1
  refine PC_of pnX9 rfl rfl rfl (Nat.le_of_ble_eq_true rfl) ?_
  by_cases hca : canAdd a p
  · by_cases h6 : a 0 = 6
    · refine r_bud (kc' := 1) (ks' := 6) (by show 1 ≤ mc; omega) (by show 6 ≤ ms; omega) ?_
      refine r_aload_n dX9_addPrime_0 (i := 0) rfl rfl (r_get dX9_addPrime_1 fl_X9_10 hx rfl (r_iload_n dX9_addPrime_4 (i := 1) rfl rfl (c_vr dX9_addPrime_5 (c_X0_canBeAdded hb.1.pr hp hpr) rfl rfl mq_X0_canBeAdded ml_X9_94 ⟨Nat.le_of_ble_eq_true rfl, Nat.le_of_ble_eq_true rfl⟩ hb.1.1 rfl rfl rfl (Nat.le_of_ble_eq_true rfl) (c_sn dX9_addPrime_8 (c_X9_require1 (by rw [b2c_t hca]; decide) b2c_RI) rfl rfl mq_X9_require ml_X9_70 ⟨Nat.le_of_ble_eq_true rfl, Nat.le_of_ble_eq_true rfl⟩ rfl rfl (Nat.le_of_ble_eq_true rfl) ?_))))
      refine r_aload_n dX9_addPrime_11 (i := 0) rfl rfl (r_get dX9_addPrime_12 fl_X9_10 hx rfl (r_get dX9_addPrime_15 fl_X9_88 hb.1.1 rfl (r_bipush dX9_addPrime_18 (by decide) ?_)))
      refine r_icmp_lt 33 dX9_addPrime_20 (by decide) (by omega) (by omega) (fun c1 => ?_) (fun c1 => ?_)
      · omega
      · refine r_throwS th_state (List.mem_of_getElem? (i := 2) rfl) rfl dX9_addPrime_23 dX9_addPrime_26 dX9_addPrime_27 dX9_addPrime_29 dX9_addPrime_32 (Nat.le_of_ble_eq_true rfl) (Nat.le_of_ble_eq_true rfl) (by omega) (by omega) (fun z hz => ?_)
        exact Out.th 1 (by rw [kAdd_y hca, if_pos h6]; rfl) rfl ⟨rfl, rfl, hz⟩
    · refine r_bud (kc' := 2) (ks' := 10) hm hm2 ?_
      refine r_aload_n dX9_addPrime_0 (i := 0) rfl rfl (r_get dX9_addPrime_1 fl_X9_10 hx rfl (r_iload_n dX9_addPrime_4 (i := 1) rfl rfl (c_vr dX9_addPrime_5 (c_X0_canBeAdded hb.1.pr hp hpr) rfl rfl mq_X0_canBeAdded ml_X9_94 ⟨Nat.le_of_ble_eq_true rfl, Nat.le_of_ble_eq_true rfl⟩ hb.1.1 rfl rfl rfl (Nat.le_of_ble_eq_true rfl) (c_sn dX9_addPrime_8 (c_X9_require1 (by rw [b2c_t hca]; decide) b2c_RI) rfl rfl mq_X9_require ml_X9_70 ⟨Nat.le_of_ble_eq_true rfl, Nat.le_of_ble_eq_true rfl⟩ rfl rfl (Nat.le_of_ble_eq_true rfl) ?_))))
      refine r_aload_n dX9_addPrime_11 (i := 0) rfl rfl (r_get dX9_addPrime_12 fl_X9_10 hx rfl (r_get dX9_addPrime_15 fl_X9_88 hb.1.1 rfl (r_bipush dX9_addPrime_18 (by decide) ?_)))
      refine r_icmp_lt 33 dX9_addPrime_20 (by decide) (by omega) (by omega) (fun c1 => ?_) (fun c1 => ?_)
      · refine r_aload_n dX9_addPrime_33 (i := 0) rfl rfl (r_get dX9_addPrime_34 fl_X9_19 hx rfl (r_aload_n dX9_addPrime_37 (i := 0) rfl rfl (r_get dX9_addPrime_38 fl_X9_10 hx rfl ?_)))
        refine r_invV dX9_addPrime_41 (keepC hC) mq_X2_keep ml_X9_78 ⟨Nat.le_of_ble_eq_true rfl, Nat.le_of_ble_eq_true rfl⟩ hC.2.2.2.1.1.1 rfl rfl rfl (Nat.le_of_ble_eq_true rfl) (kc' := 2) (ks' := 10) (by show 0 + _ ≤ _; omega) (by show 0 + _ ≤ _; omega) (fun E S' h => by simp at h) (fun v S' hk => ?_)
        obtain ⟨d1, f1, f2⟩ := hk
        cases d1
        have hC1 := keepR hC f1 f2
        show PW _ _ _ 44 _ [] _ _ _ _
        refine r_aload_n dX9_addPrime_44 (i := 0) rfl rfl (r_get dX9_addPrime_45 fl_X9_10 hC1.2.1 rfl (r_iload_n dX9_addPrime_48 (i := 1) rfl rfl ?_))
        obtain ⟨n, rfl⟩ := Int.eq_ofNat_of_zero_le (show 0 ≤ p by have := hca.1; omega)
        refine r_invV dX9_addPrime_49 (c_X0_addField (p := n) (mc := 2) (ms := 10) hC1.2.2.1 (by omega) (by rw [f1.2]; exact hFS) hp hl (by omega) (by have := hca.1; omega) (by have := hca.2.1; rw [Int.toNat_natCast] at this; exact this) (by omega) (by omega)) mq_X0_addField ml_X9_100 ⟨Nat.le_of_ble_eq_true rfl, Nat.le_of_ble_eq_true rfl⟩ hC1.2.2.1.1.1 rfl rfl rfl (Nat.le_of_ble_eq_true rfl) (kc' := 0) (ks' := 0) (by show 2 + _ ≤ _; omega) (by show 10 + _ ≤ _; omega) (fun E S' h => by simp at h) (fun v S' hk => ?_)
        rename_i S1
        obtain ⟨d1, b2, b1⟩ := hk
        cases d1
        have hX := b2.ext (F := F) (by omega)
        have hS1 : F ≤ S1.2 := by rw [f1.2]; exact hFS
        have hC2 : CX S' x F (addA a (n : Int)) (upH H nx a) ((nx + 1) % 8) (min (ct + 1) 8) fd ea tx := hC1.bench hX (fun z z1 z2 z3 => b2.1 z (by omega) (by omega)) b1
        have hk0 := hC2.2.2.1.1.1
        have eA0 : addA a (n : Int) 0 = a 0 + 1 := by
          unfold addA
          rw [upI_eq]
        rw [eA0] at hk0
        show PW _ _ _ 52 _ [] _ _ _ _
        refine r_aload_n dX9_addPrime_52 (i := 0) rfl rfl (r_get dX9_addPrime_53 fl_X9_10 hC2.2.1 rfl (r_get dX9_addPrime_56 fl_X9_88 hk0 rfl (r_iconst dX9_addPrime_59 (r_isub dX9_addPrime_60 ?_))))
        refine r_iret dX9_addPrime_61 rfl rfl ?_
        refine Out.ok (by rw [kAdd_y hca, if_neg h6]) (by rw [show a 0 + 1 - 1 = a 0 by omega]) ⟨hC2, (FrC.ofX f1 (by omega) (by omega)).trans ⟨fun z c hz hc => ?_, b2.2.2⟩⟩
        rw [b2.1 z (b2.2.1 z c hc) (by omega)]
        exact hc
      · omega
  · refine r_bud (kc' := 1) (ks' := 6) (by show 1 ≤ mc; omega) (by show 6 ≤ ms; omega) ?_
    refine r_aload_n dX9_addPrime_0 (i := 0) rfl rfl (r_get dX9_addPrime_1 fl_X9_10 hx rfl (r_iload_n dX9_addPrime_4 (i := 1) rfl rfl (c_vr dX9_addPrime_5 (c_X0_canBeAdded hb.1.pr hp hpr) rfl rfl mq_X0_canBeAdded ml_X9_94 ⟨Nat.le_of_ble_eq_true rfl, Nat.le_of_ble_eq_true rfl⟩ hb.1.1 rfl rfl rfl (Nat.le_of_ble_eq_true rfl) ?_)))
    exact c_sx dX9_addPrime_8 (c_X9_require0 (mc := 1) (ms := 6) (b2c_f hca) (by omega) (by omega)) rfl mq_X9_require ml_X9_70 ⟨Nat.le_of_ble_eq_true rfl, Nat.le_of_ble_eq_true rfl⟩ rfl rfl (Nat.le_of_ble_eq_true rfl) (by show 1 ≤ 1; omega) (by show 6 ≤ 6; omega) (fun o S' ho => ⟨_, ho.1, Out.th 0 (by rw [kAdd_n hca]; rfl) rfl ⟨rfl, ho.2⟩⟩)
end ADDP

/-! the class's face: the changes cut, append, setSequence, swap, undo -/
section CHG
variable {g : GT} {S : PS} {mc ms : Nat} {x F : Nat} {a : Int → Int} {H : Int → Int → Int} {nx ct fd ea : Int} {tx : Int → Int}
theorem keepC (hC : CX S x F a H nx ct fd ea tx) : PC g yX2_keep cX2_keep (iX2_keep mc ms) [.ref (x + 15), .ref (x + 1)] S (fun o S' => o = .inl none ∧ FrX (x + 15) (x + 129) S S' ∧ HiAt S' (x + 15) F ((nx + 1) % 8) (min (ct + 1) 8) (upH H nx a)) :=
  c_X2_keep (by have := hC.1; omega) (by omega) hC.2.2.2.1.1 hC.2.2.2.1.2.1 hC.2.2.2.1.2.2 hC.2.2.1
theorem keepR (hC : CX S x F a H nx ct fd ea tx) {S' : PS} (f1 : FrX (x + 15) (x + 129) S S') (f2 : HiAt S' (x + 15) F ((nx + 1) % 8) (min (ct + 1) 8) (upH H nx a)) : CX S' x F a (upH H nx a) ((nx + 1) % 8) (min (ct + 1) 8) fd ea tx :=
  hC.keep f1 f2 (by omega) (by have := hC.2.2.2.1.2.2; omega)
theorem chg_fin (hC : CX S x F a H nx ct fd ea tx) {S1 S2 : PS} {a' : Int → Int} (f1 : FrX (x + 15) (x + 129) S S1) (f2 : HiAt S1 (x + 15) F ((nx + 1) % 8) (min (ct + 1) 8) (upH H nx a)) (b2 : FrB (x + 1) S1 S2) (b1 : BnAt S2 (x + 1) F a') : Chg x F S a' a H nx ct fd ea tx S2 :=
  ⟨(keepR hC f1 f2).bench (b2.ext (by have := hC.1; omega)) (fun z z1 z2 z3 => b2.1 z (by omega)) b1, (FrC.ofX f1 (by omega) (by omega)).trans (FrC.ofB b2 (by omega) (by omega))⟩
theorem seq_put {S : PS} {s : Nat} {c c' : Int} {f : Int → Int} (h : SeqAt S s c f) : ps_put S s (cO 7 [.ref (s + 1), vi c']) = ps_seq S s c' f := by
  have e := seq_c (S := S) (s := s) (c := c) (c' := c') (f := f)
  rw [h.self] at e
  exact e
theorem c_X9_cut {s len : Int} (hC : CX S x F a H nx ct fd ea tx) (hp : MP a) (hl : ML a) (hs : RI s) (hlr : RI len) (hm : 1 ≤ mc) (hm2 : 6 ≤ ms) : PC g yX9_cut cX9_cut (iX9_cut mc ms) [.ref x, vi s, vi len] S (Out ["java/lang/IndexOutOfBoundsException", "java/lang/IllegalArgumentException"] (kCut a s len) (vi (a (7 + s) - len)) S (Chg x F S (upI a (7 + s) len) a H nx ct fd ea tx)) := by
  have hx := hC.2.1
  have hb := hC.2.2.1
  have hF := hC.1
  obtain ⟨w, hq⟩ : ∃ w, SqW S (x + 1) a w := hb.2.1
  refine PC_of pnX9 rfl rfl rfl (Nat.le_of_ble_eq_true rfl) ?_
  refine r_bud (kc' := 1) (ks' := 6) hm hm2 ?_
  refine r_aload_n dX9_cut_0 (i := 0) rfl rfl (r_iload_n dX9_cut_1 (i := 1) rfl rfl ?_)
  by_cases hs4 : 0 ≤ s ∧ s ≤ 3
  rotate_left
  · exact c_vx (E := "") dX9_cut_2 (c_X9_sequenceAt0 (mc := 1) (ms := 6) hx hs hs4 (by omega) (by omega)) rfl mq_X9_sequenceAt ml_X9_177 ⟨Nat.le_of_ble_eq_true rfl, Nat.le_of_ble_eq_true rfl⟩ hx rfl rfl rfl (Nat.le_of_ble_eq_true rfl) (by show 1 ≤ 1; omega) (by show 6 ≤ 6; omega) (fun o S' ho => ⟨_, ho.1, Out.th 0 (by unfold kCut; rw [if_neg hs4]; rfl) rfl ⟨rfl, ho.2⟩⟩)
  obtain ⟨f, s1, s2⟩ := hq.2.2.2 s hs4.1 (by omega)
  have hl1 := hl.1 s hs4.1 (by omega)
  refine c_vr dX9_cut_2 (c_X9_sequenceAt1 hx hb.1.1 hq.2.2.1 hs hs4) rfl rfl mq_X9_sequenceAt ml_X9_177 ⟨Nat.le_of_ble_eq_true rfl, Nat.le_of_ble_eq_true rfl⟩ hx rfl rfl rfl (Nat.le_of_ble_eq_true rfl) (r_astore_n dX9_cut_5 (i := 3) rfl rfl (Nat.le_of_ble_eq_true rfl) (r_iload_n dX9_cut_6 (i := 2) rfl rfl ?_))
  refine r_if_lt 22 dX9_cut_7 (by decide) (by omega) (fun c1 => ?_) (fun c1 => ?_)
  · refine r_iconst dX9_cut_22 ?_
    exact c_sx dX9_cut_23 (c_X9_require0 (mc := 1) (ms := 6) rfl (by omega) (by omega)) rfl mq_X9_require ml_X9_70 ⟨Nat.le_of_ble_eq_true rfl, Nat.le_of_ble_eq_true rfl⟩ rfl rfl (Nat.le_of_ble_eq_true rfl) (by show 1 ≤ 1; omega) (by show 6 ≤ 6; omega) (fun o S' ho => ⟨_, ho.1, Out.th 1 (by unfold kCut; rw [if_pos hs4, if_neg (by omega)]; rfl) rfl ⟨rfl, ho.2⟩⟩)
  · refine r_iload_n dX9_cut_10 (i := 2) rfl rfl (r_aload_n dX9_cut_11 (i := 3) rfl rfl (r_get dX9_cut_12 fl_X9_181 s1.1 rfl ?_))
    refine r_icmp_gt 22 dX9_cut_15 (by decide) (by omega) (by omega) (fun c2 => ?_) (fun c2 => ?_)
    · refine r_iconst dX9_cut_22 ?_
      exact c_sx dX9_cut_23 (c_X9_require0 (mc := 1) (ms := 6) rfl (by omega) (by omega)) rfl mq_X9_require ml_X9_70 ⟨Nat.le_of_ble_eq_true rfl, Nat.le_of_ble_eq_true rfl⟩ rfl rfl (Nat.le_of_ble_eq_true rfl) (by show 1 ≤ 1; omega) (by show 6 ≤ 6; omega) (fun o S' ho => ⟨_, ho.1, Out.th 1 (by unfold kCut; rw [if_pos hs4, if_neg (by omega)]; rfl) rfl ⟨rfl, ho.2⟩⟩)
    · refine r_iconst dX9_cut_18 (r_goto 23 dX9_cut_19 (by decide) (c_sn dX9_cut_23 (c_X9_require1 (by decide) ⟨by omega, by omega⟩) rfl rfl mq_X9_require ml_X9_70 ⟨Nat.le_of_ble_eq_true rfl, Nat.le_of_ble_eq_true rfl⟩ rfl rfl (Nat.le_of_ble_eq_true rfl) (r_aload_n dX9_cut_26 (i := 0) rfl rfl (r_get dX9_cut_27 fl_X9_19 hx rfl ?_))))
      refine r_aload_n dX9_cut_30 (i := 0) rfl rfl (r_get dX9_cut_31 fl_X9_10 hx rfl ?_)
      refine c_vq dX9_cut_34 (keepC hC) rfl rfl mq_X2_keep ml_X9_78 ⟨Nat.le_of_ble_eq_true rfl, Nat.le_of_ble_eq_true rfl⟩ hC.2.2.2.1.1.1 rfl rfl rfl (Nat.le_of_ble_eq_true rfl) (fun E S' h => by simp at h) (fun v S' hk => ?_)
      obtain ⟨e1, f1, f2⟩ := hk
      cases e1
      have hb' := (keepR hC f1 f2).2.2.1
      have hq' : SqW S' (x + 1) a w := hq.frame (fun z z1 z2 => f1.1 z (by omega))
      have s1' : SeqAt S' (x + 1 + 6 + 2 * w s) (a (7 + s)) f := by
        have := hq.1 s hs4.1 (by omega)
        exact ⟨by rw [f1.1 _ (by omega)]; exact s1.1, by rw [f1.1 _ (by omega)]; exact s1.2⟩
      show PW _ _ _ 37 _ [] _ _ _ _
      refine r_aload_n dX9_cut_37 (i := 3) rfl rfl (r_get dX9_cut_38 fl_X9_181 s1'.1 rfl (r_iload_n dX9_cut_41 (i := 2) rfl rfl (r_isub dX9_cut_42 (r_istore dX9_cut_43 rfl (Nat.le_of_ble_eq_true rfl) ?_))))
      refine r_aload_n dX9_cut_45 (i := 3) rfl rfl (r_iload_n dX9_cut_46 (i := 2) rfl rfl (r_put dX9_cut_47 fl_X9_181 s1'.1 rfl rfl (Nat.le_of_ble_eq_true rfl) (r_iload dX9_cut_50 rfl (r_iret dX9_cut_52 rfl rfl ?_))))
      show Out _ _ _ _ _ _ (ps_put S' (x + 1 + 6 + 2 * w s) (cO 7 [Value.ref (x + 1 + 6 + 2 * w s + 1), vi len]))
      rw [seq_put s1']
      obtain ⟨b1, b2⟩ := bn_seq (c := len) (f := f) hb' hq' (by omega) hp.1 hl hs4 (cut_hi hs4) upI_eq (fun k k0 k1 => by rw [upI_ne (by omega)]; exact s2 k k0 (by omega)) (fun z z0 z1 z2 => ⟨upI_ne (by omega), fun k k0 k1 => upI_ne (by omega)⟩)
      exact Out.ok (by unfold kCut; rw [if_pos hs4, if_pos (by omega)]) rfl (chg_fin hC f1 f2 b2 b1)
theorem c_X9_append {s v : Int} (hC : CX S x F a H nx ct fd ea tx) (hp : MP a) (hl : ML a) (hs : RI s) (hv : RI v) (hm : 1 ≤ mc) (hm2 : 6 ≤ ms) : PC g yX9_append cX9_append (iX9_append mc ms) [.ref x, vi s, vi v] S (Out ["java/lang/IndexOutOfBoundsException", "java/lang/IllegalArgumentException", "java/lang/IllegalStateException"] (kApp a s v) (vi (a (7 + s) + 1)) S (Chg x F S (apA a s v) a H nx ct fd ea tx)) := by
  have hx := hC.2.1
  have hb := hC.2.2.1
  have hF := hC.1
  obtain ⟨w, hq⟩ : ∃ w, SqW S (x + 1) a w := hb.2.1
  refine PC_of pnX9 rfl rfl rfl (Nat.le_of_ble_eq_true rfl) ?_
  refine r_bud (kc' := 1) (ks' := 6) hm hm2 ?_
  refine r_aload_n dX9_append_0 (i := 0) rfl rfl (r_iload_n dX9_append_1 (i := 1) rfl rfl ?_)
  by_cases hs4 : 0 ≤ s ∧ s ≤ 3
  rotate_left
  · exact c_vx (E := "") dX9_append_2 (c_X9_sequenceAt0 (mc := 1) (ms := 6) hx hs hs4 (by omega) (by omega)) rfl mq_X9_sequenceAt ml_X9_177 ⟨Nat.le_of_ble_eq_true rfl, Nat.le_of_ble_eq_true rfl⟩ hx rfl rfl rfl (Nat.le_of_ble_eq_true rfl) (by show 1 ≤ 1; omega) (by show 6 ≤ 6; omega) (fun o S' ho => ⟨_, ho.1, Out.th 0 (by unfold kApp; rw [if_neg hs4]; rfl) rfl ⟨rfl, ho.2⟩⟩)
  obtain ⟨f, s1, s2⟩ := hq.2.2.2 s hs4.1 (by omega)
  have hl1 := hl.1 s hs4.1 (by omega)
  refine c_vr dX9_append_2 (c_X9_sequenceAt1 hx hb.1.1 hq.2.2.1 hs hs4) rfl rfl mq_X9_sequenceAt ml_X9_177 ⟨Nat.le_of_ble_eq_true rfl, Nat.le_of_ble_eq_true rfl⟩ hx rfl rfl rfl (Nat.le_of_ble_eq_true rfl) (r_astore_n dX9_append_5 (i := 3) rfl rfl (Nat.le_of_ble_eq_true rfl) (r_iload_n dX9_append_6 (i := 2) rfl rfl (r_i2l dX9_append_7 (by omega) (c_sr dX9_append_8 (c_X9_isTerm (by omega)) rfl rfl mq_X9_isTerm ml_X9_203 ⟨Nat.le_of_ble_eq_true rfl, Nat.le_of_ble_eq_true rfl⟩ rfl rfl (Nat.le_of_ble_eq_true rfl) ?_))))
  by_cases hv9 : -9999 ≤ v ∧ v ≤ 9999
  rotate_left
  · exact c_sx dX9_append_11 (c_X9_require0 (mc := 1) (ms := 6) (b2i_f hv9) (by omega) (by omega)) rfl mq_X9_require ml_X9_70 ⟨Nat.le_of_ble_eq_true rfl, Nat.le_of_ble_eq_true rfl⟩ rfl rfl (Nat.le_of_ble_eq_true rfl) (by show 1 ≤ 1; omega) (by show 6 ≤ 6; omega) (fun o S' ho => ⟨_, ho.1, Out.th 1 (by unfold kApp; rw [if_pos hs4, if_neg (by omega)]; rfl) rfl ⟨rfl, ho.2⟩⟩)
  refine c_sn dX9_append_11 (c_X9_require1 (by rw [b2i_t hv9]; decide) b2i_RI) rfl rfl mq_X9_require ml_X9_70 ⟨Nat.le_of_ble_eq_true rfl, Nat.le_of_ble_eq_true rfl⟩ rfl rfl (Nat.le_of_ble_eq_true rfl) (r_aload_n dX9_append_14 (i := 3) rfl rfl (c_vr dX9_append_15 (c_X7_isFull s1 hl1) rfl rfl mq_X7_isFull ml_X9_211 ⟨Nat.le_of_ble_eq_true rfl, Nat.le_of_ble_eq_true rfl⟩ s1.1 rfl rfl rfl (Nat.le_of_ble_eq_true rfl) ?_))
  refine r_if_eq 31 dX9_append_18 (by decide) b2i_RI (fun c1 => ?_) (fun c1 => ?_)
  · replace c1 := b2i_eq c1
    refine r_aload_n dX9_append_31 (i := 0) rfl rfl (r_get dX9_append_32 fl_X9_19 hx rfl (r_aload_n dX9_append_35 (i := 0) rfl rfl (r_get dX9_append_36 fl_X9_10 hx rfl ?_)))
    refine c_vq dX9_append_39 (keepC hC) rfl rfl mq_X2_keep ml_X9_78 ⟨Nat.le_of_ble_eq_true rfl, Nat.le_of_ble_eq_true rfl⟩ hC.2.2.2.1.1.1 rfl rfl rfl (Nat.le_of_ble_eq_true rfl) (fun E S' h => by simp at h) (fun v S' hk => ?_)
    obtain ⟨e1, f1, f2⟩ := hk
    cases e1
    have hb' := (keepR hC f1 f2).2.2.1
    have hq' : SqW S' (x + 1) a w := hq.frame (fun z z1 z2 => f1.1 z (by omega))
    have s1' : SeqAt S' (x + 1 + 6 + 2 * w s) (a (7 + s)) f := by
      have := hq.1 s hs4.1 (by omega)
      exact ⟨by rw [f1.1 _ (by omega)]; exact s1.1, by rw [f1.1 _ (by omega)]; exact s1.2⟩
    have s3 : SeqAt (ps_seq S' (x + 1 + 6 + 2 * w s) (a (7 + s) + 1) (upI f (a (7 + s)) v)) (x + 1 + 6 + 2 * w s) (a (7 + s) + 1) (upI f (a (7 + s)) v) := SeqAt.seq
    show PW _ _ _ 42 _ [] _ _ _ _
    refine r_aload_n dX9_append_42 (i := 3) rfl rfl (r_iload_n dX9_append_43 (i := 2) rfl rfl (c_vn dX9_append_44 (c_X7_add s1' ⟨hl1.1, by omega⟩) rfl rfl mq_X7_add ml_X9_216 ⟨Nat.le_of_ble_eq_true rfl, Nat.le_of_ble_eq_true rfl⟩ s1'.1 rfl rfl rfl (Nat.le_of_ble_eq_true rfl) (r_aload_n dX9_append_47 (i := 3) rfl rfl (r_get dX9_append_48 fl_X9_181 s3.1 rfl ?_))))
    refine r_iret dX9_append_51 rfl rfl ?_
    have hA7 : apA a s v (7 + s) = a (7 + s) + 1 := by
      unfold apA
      rw [upI_eq]
    obtain ⟨b1, b2⟩ := bn_seq (c := a (7 + s) + 1) (f := upI f (a (7 + s)) v) (a' := apA a s v) hb' hq' (by omega) hp.1 hl hs4 (ap_hi hl hs4 (by omega)) hA7 (fun k k0 k1 => by
      unfold apA
      rw [upI_ne (f := upI a (11 + 32 * s + a (7 + s)) v) (by omega)]
      by_cases e : k = a (7 + s)
      · subst e
        rw [upI_eq, upI_eq]
      · rw [upI_ne e, upI_ne (by omega)]
        exact s2 k k0 (by omega)) (fun z z0 z1 z2 => by
      unfold apA
      exact ⟨by rw [upI_ne (by omega), upI_ne (by omega)], fun k k0 k1 => by rw [upI_ne (by omega), upI_ne (by omega)]⟩)
    exact Out.ok (by unfold kApp; rw [if_pos hs4, if_pos hv9, if_neg (by omega)]) rfl (chg_fin hC f1 f2 b2 b1)
  · replace c1 := b2i_ne c1
    refine r_throwS th_state (List.mem_of_getElem? (i := 8) rfl) rfl dX9_append_21 dX9_append_24 dX9_append_25 dX9_append_27 dX9_append_30 (Nat.le_of_ble_eq_true rfl) (Nat.le_of_ble_eq_true rfl) (by omega) (by omega) (fun z hz => ?_)
    exact Out.th 2 (by unfold kApp; rw [if_pos hs4, if_pos hv9, if_pos (by omega)]; rfl) rfl ⟨rfl, rfl, hz⟩
theorem mul_bd9 {x y : Int} (hx : 0 ≤ x ∧ x ≤ 31) (hy : -999 ≤ y ∧ y ≤ 999) : -30969 ≤ x * y ∧ x * y ≤ 30969 := by
  have h1 := Int.mul_nonneg hx.1 (show 0 ≤ y + 999 by omega)
  have h2 := Int.mul_nonneg hx.1 (show 0 ≤ 999 - y by omega)
  rw [Int.mul_add] at h1
  rw [Int.mul_sub] at h2
  omega
theorem c_X9_setSequence {s len fr st : Int} (hC : CX S x F a H nx ct fd ea tx) (hp : MP a) (hl : ML a) (hs : RI s) (hlr : RI len) (hfr : RI fr) (hst : RI st) (hm : 1 ≤ mc) (hm2 : 6 ≤ ms) : PC g yX9_setSequence cX9_setSequence (iX9_setSequence mc ms) [.ref x, vi s, vi len, vi fr, vi st] S (Out ["java/lang/IndexOutOfBoundsException", "java/lang/IllegalArgumentException"] (kSet4 s len fr st) (vi (a (7 + s))) S (Chg x F S (seA a s len fr st) a H nx ct fd ea tx)) := by
  have hx := hC.2.1
  have hb := hC.2.2.1
  have hF := hC.1
  obtain ⟨w, hq⟩ : ∃ w, SqW S (x + 1) a w := hb.2.1
  refine PC_of pnX9 rfl rfl rfl (Nat.le_of_ble_eq_true rfl) ?_
  have hrest : (hs4 : 0 ≤ s ∧ s ≤ 3) → (hco : len = 0 ∨ ((-9999 ≤ fr ∧ fr ≤ 9999) ∧ -9999 ≤ fr + st * (len - 1) ∧ fr + st * (len - 1) ≤ 9999)) → (hc2 : (0 ≤ len ∧ len ≤ 32) ∧ -999 ≤ st ∧ st ≤ 999) → PW g cX9_setSequence (iX9_setSequence mc ms) 67 [(0, some (.ref x)), (1, some (vi s)), (2, some (vi len)), (3, some (vi fr)), (4, some (vi st)), (5, some (.ref (x + 1 + 6 + 2 * w s)))] [] S 1 6 (Out ["java/lang/IndexOutOfBoundsException", "java/lang/IllegalArgumentException"] (kSet4 s len fr st) (vi (a (7 + s))) S (Chg x F S (seA a s len fr st) a H nx ct fd ea tx)) := fun hs4 hco hc2 => by
    obtain ⟨f, s1, s2⟩ := hq.2.2.2 s hs4.1 (by omega)
    have hl1 := hl.1 s hs4.1 (by omega)
    refine r_iconst dX9_setSequence_67 (r_goto 72 dX9_setSequence_68 (by decide) ?_)
    refine c_sn dX9_setSequence_72 (c_X9_require1 (by decide) ⟨by omega, by omega⟩) rfl rfl mq_X9_require ml_X9_70 ⟨Nat.le_of_ble_eq_true rfl, Nat.le_of_ble_eq_true rfl⟩ rfl rfl (Nat.le_of_ble_eq_true rfl) (r_aload_n dX9_setSequence_75 (i := 0) rfl rfl (r_get dX9_setSequence_76 fl_X9_19 hx rfl (r_aload_n dX9_setSequence_79 (i := 0) rfl rfl (r_get dX9_setSequence_80 fl_X9_10 hx rfl ?_))))
    refine c_vq dX9_setSequence_83 (keepC hC) rfl rfl mq_X2_keep ml_X9_78 ⟨Nat.le_of_ble_eq_true rfl, Nat.le_of_ble_eq_true rfl⟩ hC.2.2.2.1.1.1 rfl rfl rfl (Nat.le_of_ble_eq_true rfl) (fun E S' h => by simp at h) (fun v S' hk => ?_)
    obtain ⟨e1, f1, f2⟩ := hk
    cases e1
    have hb' := (keepR hC f1 f2).2.2.1
    have hq' : SqW S' (x + 1) a w := hq.frame (fun z z1 z2 => f1.1 z (by omega))
    have s1' : SeqAt S' (x + 1 + 6 + 2 * w s) (a (7 + s)) f := by
      have := hq.1 s hs4.1 (by omega)
      exact ⟨by rw [f1.1 _ (by omega)]; exact s1.1, by rw [f1.1 _ (by omega)]; exact s1.2⟩
    show PW _ _ _ 86 _ [] _ _ _ _
    refine r_aload dX9_setSequence_86 rfl (r_get dX9_setSequence_88 fl_X9_181 s1'.1 rfl (r_istore dX9_setSequence_91 rfl (Nat.le_of_ble_eq_true rfl) (r_aload dX9_setSequence_93 rfl (r_iload_n dX9_setSequence_95 (i := 2) rfl rfl ?_))))
    refine r_iload_n dX9_setSequence_96 (i := 3) rfl rfl (r_iload dX9_setSequence_97 rfl ?_)
    refine c_vq dX9_setSequence_99 (c_X7_fillEvenly s1' hc2.1) rfl rfl mq_X7_fillEvenly ml_X9_207 ⟨Nat.le_of_ble_eq_true rfl, Nat.le_of_ble_eq_true rfl⟩ s1'.1 rfl rfl rfl (Nat.le_of_ble_eq_true rfl) (fun E S' h => by simp at h) (fun v S' hk => ?_)
    obtain ⟨f', g1, e1, e2⟩ := hk
    cases e1
    subst e2
    show PW _ _ _ 102 _ [] _ _ _ _
    refine r_iload dX9_setSequence_102 rfl (r_iret dX9_setSequence_104 rfl rfl ?_)
    obtain ⟨b1, b2⟩ := bn_seq (c := len) (f := f') (a' := seA a s len fr st) hb' hq' (by omega) hp.1 hl hs4 (mix_hi hs4 (by omega)) upI_eq (fun k k0 k1 => by
      unfold seA
      rw [upI_ne (by omega), mix_in (by omega), if_pos (by omega), g1 k k0 k1, Int.mul_comm k st]
      congr 2
      omega) (fun z z0 z1 z2 => by
      unfold seA
      exact ⟨by rw [upI_ne (by omega), mix_out (by omega)], fun k k0 k1 => by rw [upI_ne (by omega), mix_out (by omega)]⟩)
    exact Out.ok (by unfold kSet4; rw [if_pos hs4, if_pos ⟨hc2, hco⟩]) rfl (chg_fin hC f1 f2 b2 b1)
  refine r_bud (kc' := 1) (ks' := 6) hm hm2 ?_
  refine r_aload_n dX9_setSequence_0 (i := 0) rfl rfl (r_iload_n dX9_setSequence_1 (i := 1) rfl rfl ?_)
  by_cases hs4 : 0 ≤ s ∧ s ≤ 3
  rotate_left
  · exact c_vx (E := "") dX9_setSequence_2 (c_X9_sequenceAt0 (mc := 1) (ms := 6) hx hs hs4 (by omega) (by omega)) rfl mq_X9_sequenceAt ml_X9_177 ⟨Nat.le_of_ble_eq_true rfl, Nat.le_of_ble_eq_true rfl⟩ hx rfl rfl rfl (Nat.le_of_ble_eq_true rfl) (by show 1 ≤ 1; omega) (by show 6 ≤ 6; omega) (fun o S' ho => ⟨_, ho.1, Out.th 0 (by unfold kSet4; rw [if_neg hs4]; rfl) rfl ⟨rfl, ho.2⟩⟩)
  obtain ⟨f, s1, s2⟩ := hq.2.2.2 s hs4.1 (by omega)
  have hl1 := hl.1 s hs4.1 (by omega)
  refine c_vr dX9_setSequence_2 (c_X9_sequenceAt1 hx hb.1.1 hq.2.2.1 hs hs4) rfl rfl mq_X9_sequenceAt ml_X9_177 ⟨Nat.le_of_ble_eq_true rfl, Nat.le_of_ble_eq_true rfl⟩ hx rfl rfl rfl (Nat.le_of_ble_eq_true rfl) (r_astore dX9_setSequence_5 rfl (Nat.le_of_ble_eq_true rfl) (r_iload_n dX9_setSequence_7 (i := 2) rfl rfl ?_))
  refine r_if_lt 34 dX9_setSequence_8 (by decide) (by omega) (fun c1 => ?_) (fun c1 => ?_)
  · refine r_iconst dX9_setSequence_34 ?_
    exact c_sx dX9_setSequence_35 (c_X9_require0 (mc := 1) (ms := 6) rfl (by omega) (by omega)) rfl mq_X9_require ml_X9_70 ⟨Nat.le_of_ble_eq_true rfl, Nat.le_of_ble_eq_true rfl⟩ rfl rfl (Nat.le_of_ble_eq_true rfl) (by show 1 ≤ 1; omega) (by show 6 ≤ 6; omega) (fun o S' ho => ⟨_, ho.1, Out.th 1 (by unfold kSet4; rw [if_pos hs4, if_neg (by omega)]; rfl) rfl ⟨rfl, ho.2⟩⟩)
  · refine r_iload_n dX9_setSequence_11 (i := 2) rfl rfl (r_bipush dX9_setSequence_12 (by decide) ?_)
    refine r_icmp_gt 34 dX9_setSequence_14 (by decide) (by omega) (by omega) (fun c2 => ?_) (fun c2 => ?_)
    · refine r_iconst dX9_setSequence_34 ?_
      exact c_sx dX9_setSequence_35 (c_X9_require0 (mc := 1) (ms := 6) rfl (by omega) (by omega)) rfl mq_X9_require ml_X9_70 ⟨Nat.le_of_ble_eq_true rfl, Nat.le_of_ble_eq_true rfl⟩ rfl rfl (Nat.le_of_ble_eq_true rfl) (by show 1 ≤ 1; omega) (by show 6 ≤ 6; omega) (fun o S' ho => ⟨_, ho.1, Out.th 1 (by unfold kSet4; rw [if_pos hs4, if_neg (by omega)]; rfl) rfl ⟨rfl, ho.2⟩⟩)
    · refine r_iload dX9_setSequence_17 rfl (r_i2l dX9_setSequence_19 (by omega) (r_mabsl dX9_setSequence_20 mw_X9_195 (by omega) (Nat.le_of_ble_eq_true rfl) (Nat.le_of_ble_eq_true rfl) (r_ldc2 dX9_setSequence_23 csj_X9_201 ?_)))
      refine r_lcmp_gt 34 dX9_setSequence_26 dX9_setSequence_27 (by decide) (by omega) (by omega) (fun c3 => ?_) (fun c3 => ?_)
      · refine r_iconst dX9_setSequence_34 ?_
        exact c_sx dX9_setSequence_35 (c_X9_require0 (mc := 1) (ms := 6) rfl (by omega) (by omega)) rfl mq_X9_require ml_X9_70 ⟨Nat.le_of_ble_eq_true rfl, Nat.le_of_ble_eq_true rfl⟩ rfl rfl (Nat.le_of_ble_eq_true rfl) (by show 1 ≤ 1; omega) (by show 6 ≤ 6; omega) (fun o S' ho => ⟨_, ho.1, Out.th 1 (by unfold kSet4; rw [if_pos hs4, if_neg (by omega)]; rfl) rfl ⟨rfl, ho.2⟩⟩)
      · refine r_iconst dX9_setSequence_30 (r_goto 35 dX9_setSequence_31 (by decide) (c_sn dX9_setSequence_35 (c_X9_require1 (by decide) ⟨by omega, by omega⟩) rfl rfl mq_X9_require ml_X9_70 ⟨Nat.le_of_ble_eq_true rfl, Nat.le_of_ble_eq_true rfl⟩ rfl rfl (Nat.le_of_ble_eq_true rfl) (r_iload_n dX9_setSequence_38 (i := 2) rfl rfl ?_)))
        refine r_if_eq 67 dX9_setSequence_39 (by decide) (by omega) (fun c4 => ?_) (fun c4 => ?_)
        · first
            | omega
            | exact r_loc [(0, some (.ref x)), (1, some (vi s)), (2, some (vi len)), (3, some (vi fr)), (4, some (vi st)), (5, some (.ref (x + 1 + 6 + 2 * w s)))] ⟨Or.inl rfl, Or.inl rfl, Or.inl rfl, Or.inl rfl, Or.inl rfl, Or.inl rfl, trivial⟩ (hrest hs4 (Or.inl (by assumption)) (by omega))
        · first
            | omega
            | skip
          have hmb : -40000 ≤ fr + (len - 1) * st ∧ fr + (len - 1) * st ≤ 40000 → RJ (fr + (len - 1) * st) := fun h => by omega
          have hmm := mul_bd9 (x := len - 1) (y := st) (by omega) (by omega)
          have hcm : (len - 1) * st = st * (len - 1) := Int.mul_comm _ _
          refine r_iload_n dX9_setSequence_42 (i := 3) rfl rfl (r_i2l dX9_setSequence_43 (by omega) (c_sr dX9_setSequence_44 (c_X9_isTerm (by omega)) rfl rfl mq_X9_isTerm ml_X9_203 ⟨Nat.le_of_ble_eq_true rfl, Nat.le_of_ble_eq_true rfl⟩ rfl rfl (Nat.le_of_ble_eq_true rfl) ?_))
          refine r_if_eq 71 dX9_setSequence_47 (by decide) b2i_RI (fun c1 => ?_) (fun c1 => ?_)
          · replace c1 := b2i_eq c1
            refine r_iconst dX9_setSequence_71 ?_
            exact c_sx dX9_setSequence_72 (c_X9_require0 (mc := 1) (ms := 6) rfl (by omega) (by omega)) rfl mq_X9_require ml_X9_70 ⟨Nat.le_of_ble_eq_true rfl, Nat.le_of_ble_eq_true rfl⟩ rfl rfl (Nat.le_of_ble_eq_true rfl) (by show 1 ≤ 1; omega) (by show 6 ≤ 6; omega) (fun o S' ho => ⟨_, ho.1, Out.th 1 (by unfold kSet4; rw [if_pos hs4, if_neg (by omega)]; rfl) rfl ⟨rfl, ho.2⟩⟩)
          · replace c1 := b2i_ne c1
            refine r_iload_n dX9_setSequence_50 (i := 3) rfl rfl (r_i2l dX9_setSequence_51 (by omega) (r_iload_n dX9_setSequence_52 (i := 2) rfl rfl (r_i2l dX9_setSequence_53 (by omega) (r_lconst (z := 1) dX9_setSequence_54 (by decide) ?_))))
            refine r_lsub dX9_setSequence_55 (r_iload dX9_setSequence_56 rfl (r_i2l dX9_setSequence_58 (by omega) (r_lmul dX9_setSequence_59 (r_ladd dX9_setSequence_60 ?_))))
            refine c_sr dX9_setSequence_61 (c_X9_isTerm (by omega)) rfl rfl mq_X9_isTerm ml_X9_203 ⟨Nat.le_of_ble_eq_true rfl, Nat.le_of_ble_eq_true rfl⟩ rfl rfl (Nat.le_of_ble_eq_true rfl) ?_
            refine r_if_eq 71 dX9_setSequence_64 (by decide) b2i_RI (fun c2 => ?_) (fun c2 => ?_)
            · replace c2 := b2i_eq c2
              refine r_iconst dX9_setSequence_71 ?_
              exact c_sx dX9_setSequence_72 (c_X9_require0 (mc := 1) (ms := 6) rfl (by omega) (by omega)) rfl mq_X9_require ml_X9_70 ⟨Nat.le_of_ble_eq_true rfl, Nat.le_of_ble_eq_true rfl⟩ rfl rfl (Nat.le_of_ble_eq_true rfl) (by show 1 ≤ 1; omega) (by show 6 ≤ 6; omega) (fun o S' ho => ⟨_, ho.1, Out.th 1 (by unfold kSet4; rw [if_pos hs4, if_neg (by omega)]; rfl) rfl ⟨rfl, ho.2⟩⟩)
            · replace c2 := b2i_ne c2
              exact r_loc [(0, some (.ref x)), (1, some (vi s)), (2, some (vi len)), (3, some (vi fr)), (4, some (vi st)), (5, some (.ref (x + 1 + 6 + 2 * w s)))] ⟨Or.inl rfl, Or.inl rfl, Or.inl rfl, Or.inl rfl, Or.inl rfl, Or.inl rfl, trivial⟩ (hrest hs4 (Or.inr (by omega)) (by omega))
theorem c_X9_swap {s t : Int} (hC : CX S x F a H nx ct fd ea tx) (hp : MP a) (hl : ML a) (hs : RI s) (ht : RI t) (hm : 1 ≤ mc) (hm2 : 6 ≤ ms) : PC g yX9_swap cX9_swap (iX9_swap mc ms) [.ref x, vi s, vi t] S (Out ["java/lang/IndexOutOfBoundsException"] (kSwap s t) (vi (a (7 + t))) S (Chg x F S (swA a s t) a H nx ct fd ea tx)) := by
  have hx := hC.2.1
  have hb := hC.2.2.1
  have hF := hC.1
  refine PC_of pnX9 rfl rfl rfl (Nat.le_of_ble_eq_true rfl) ?_
  refine r_bud (kc' := 1) (ks' := 6) hm hm2 ?_
  refine r_aload_n dX9_swap_0 (i := 0) rfl rfl (r_iload_n dX9_swap_1 (i := 1) rfl rfl ?_)
  by_cases hs4 : 0 ≤ s ∧ s ≤ 3
  rotate_left
  · exact c_vx (E := "") dX9_swap_2 (c_X9_requireSlot0 (mc := 1) (ms := 6) hs hs4 (by omega) (by omega)) rfl mq_X9_requireSlot ml_X9_219 ⟨Nat.le_of_ble_eq_true rfl, Nat.le_of_ble_eq_true rfl⟩ hx rfl rfl rfl (Nat.le_of_ble_eq_true rfl) (by show 1 ≤ 1; omega) (by show 6 ≤ 6; omega) (fun o S' ho => ⟨_, ho.1, Out.th 0 (by unfold kSwap; rw [if_neg (by omega)]; rfl) rfl ⟨rfl, ho.2⟩⟩)
  refine c_vn dX9_swap_2 (c_X9_requireSlot1 hs hs4) rfl rfl mq_X9_requireSlot ml_X9_219 ⟨Nat.le_of_ble_eq_true rfl, Nat.le_of_ble_eq_true rfl⟩ hx rfl rfl rfl (Nat.le_of_ble_eq_true rfl) (r_aload_n dX9_swap_5 (i := 0) rfl rfl (r_iload_n dX9_swap_6 (i := 2) rfl rfl ?_))
  by_cases ht4 : 0 ≤ t ∧ t ≤ 3
  rotate_left
  · exact c_vx (E := "") dX9_swap_7 (c_X9_requireSlot0 (mc := 1) (ms := 6) ht ht4 (by omega) (by omega)) rfl mq_X9_requireSlot ml_X9_219 ⟨Nat.le_of_ble_eq_true rfl, Nat.le_of_ble_eq_true rfl⟩ hx rfl rfl rfl (Nat.le_of_ble_eq_true rfl) (by show 1 ≤ 1; omega) (by show 6 ≤ 6; omega) (fun o S' ho => ⟨_, ho.1, Out.th 0 (by unfold kSwap; rw [if_neg (by omega)]; rfl) rfl ⟨rfl, ho.2⟩⟩)
  refine c_vn dX9_swap_7 (c_X9_requireSlot1 ht ht4) rfl rfl mq_X9_requireSlot ml_X9_219 ⟨Nat.le_of_ble_eq_true rfl, Nat.le_of_ble_eq_true rfl⟩ hx rfl rfl rfl (Nat.le_of_ble_eq_true rfl) (r_aload_n dX9_swap_10 (i := 0) rfl rfl (r_get dX9_swap_11 fl_X9_19 hx rfl (r_aload_n dX9_swap_14 (i := 0) rfl rfl (r_get dX9_swap_15 fl_X9_10 hx rfl ?_))))
  refine c_vq dX9_swap_18 (keepC hC) rfl rfl mq_X2_keep ml_X9_78 ⟨Nat.le_of_ble_eq_true rfl, Nat.le_of_ble_eq_true rfl⟩ hC.2.2.2.1.1.1 rfl rfl rfl (Nat.le_of_ble_eq_true rfl) (fun E S' h => by simp at h) (fun v S' hk => ?_)
  obtain ⟨e1, f1, f2⟩ := hk
  cases e1
  have hC1 := keepR hC f1 f2
  show PW _ _ _ 21 _ [] _ _ _ _
  refine r_aload_n dX9_swap_21 (i := 0) rfl rfl (r_get dX9_swap_22 fl_X9_10 hC1.2.1 rfl (r_iload_n dX9_swap_25 (i := 1) rfl rfl (r_iload_n dX9_swap_26 (i := 2) rfl rfl ?_)))
  refine c_vq dX9_swap_27 (c_X0_exchange hC1.2.2.1 (by omega) hp.1 hl hs4 ht4) rfl rfl mq_X0_exchange ml_X9_222 ⟨Nat.le_of_ble_eq_true rfl, Nat.le_of_ble_eq_true rfl⟩ hC1.2.2.1.1.1 rfl rfl rfl (Nat.le_of_ble_eq_true rfl) (fun E S' h => by simp at h) (fun v S' hk => ?_)
  rename_i S1
  obtain ⟨e1, b2, b1⟩ := hk
  cases e1
  have hc2 := chg_fin hC f1 f2 b2 b1
  obtain ⟨w, hq⟩ : ∃ w, SqW S' (x + 1) (swA a s t) w := b1.2.1
  obtain ⟨f, s1, -⟩ := hq.2.2.2 s hs4.1 (by omega)
  rw [swA_s hs4 ht4] at s1
  show PW _ _ _ 30 _ [] _ _ _ _
  refine r_aload_n dX9_swap_30 (i := 0) rfl rfl (r_iload_n dX9_swap_31 (i := 1) rfl rfl (c_vr dX9_swap_32 (c_X9_sequenceAt1 (a := swA a s t) hc2.1.2.1 b1.1.1 hq.2.2.1 hs hs4) rfl rfl mq_X9_sequenceAt ml_X9_177 ⟨Nat.le_of_ble_eq_true rfl, Nat.le_of_ble_eq_true rfl⟩ hc2.1.2.1 rfl rfl rfl (Nat.le_of_ble_eq_true rfl) (r_get dX9_swap_35 fl_X9_181 s1.1 rfl (r_iret dX9_swap_38 rfl rfl ?_))))
  exact Out.ok (by unfold kSwap; rw [if_pos (by omega)]) rfl hc2
theorem c_X9_undo (hC : CX S x F a H nx ct fd ea tx) (hm : 1 ≤ mc) (hm2 : 6 ≤ ms) : PC g yX9_undo cX9_undo (iX9_undo mc ms) [.ref x] S (Out ["java/lang/IllegalStateException"] (if ct = 0 then 1 else 0) (vi (ct - 1)) S (fun S' => CX S' x F (H ((nx + 7) % 8)) H ((nx + 7) % 8) (ct - 1) fd ea tx ∧ FrC x S S')) := by
  have hx := hC.2.1
  have hF := hC.1
  obtain ⟨h1, h2, h3⟩ := hC.2.2.2.1.1
  obtain ⟨hn, hc⟩ := hC.2.2.2.1.2
  refine PC_of pnX9 rfl rfl rfl (Nat.le_of_ble_eq_true rfl) ?_
  refine r_bud (kc' := 1) (ks' := 6) hm hm2 ?_
  refine r_aload_n dX9_undo_0 (i := 0) rfl rfl (r_get dX9_undo_1 fl_X9_19 hx rfl (r_get dX9_undo_4 fl_X9_340 h1 rfl ?_))
  refine r_if_ne 21 dX9_undo_7 (by decide) (by omega) (fun c1 => ?_) (fun c1 => ?_)
  · refine r_aload_n dX9_undo_21 (i := 0) rfl rfl (r_get dX9_undo_22 fl_X9_19 hx rfl (r_aload_n dX9_undo_25 (i := 0) rfl rfl (r_get dX9_undo_26 fl_X9_10 hx rfl ?_)))
    refine c_vq dX9_undo_29 (c_X2_giveBack (h := x + 15) (b := x + 1) (by omega) (by omega) (by omega) hC.2.2.2.1.1 hn ⟨by omega, hc.2⟩ hC.2.2.1) rfl rfl mq_X2_giveBack ml_X9_343 ⟨Nat.le_of_ble_eq_true rfl, Nat.le_of_ble_eq_true rfl⟩ h1 rfl rfl rfl (Nat.le_of_ble_eq_true rfl) (fun E S' h => by simp at h) (fun v S' hk => ?_)
    obtain ⟨e1, f1, f2, f3⟩ := hk
    cases e1
    have h1' := f2.1
    have hx' : S'.1 x = some (xO x) := by
      rw [f1.1 x (by omega) (by omega)]
      exact hx
    show PW _ _ _ 32 _ [] _ _ _ _
    refine r_aload_n dX9_undo_32 (i := 0) rfl rfl (r_get dX9_undo_33 fl_X9_19 hx' rfl (r_get dX9_undo_36 fl_X9_340 h1' rfl (r_iret dX9_undo_39 rfl rfl ?_)))
    have hE : Ext F S S' := fun z hz c hc0 => by
      rw [f1.1 z (by omega) (by omega)]
      exact hc0
    obtain ⟨-, -, -, -, h5, h6, h7, h8⟩ := hC
    refine Out.ok (by rw [if_neg (by omega)]) rfl ⟨⟨hF, hx', f3, ⟨f2, by omega, by omega⟩, h5.frame hE (fun z z1 z2 => f1.1 z (by omega) (by omega)), h6.frame (fun z z1 z2 => f1.1 z (by omega) (by omega)), h7.frame (fun z z1 z2 => f1.1 z (by omega) (by omega)), h8.frame (fun z z1 z2 => f1.1 z (by omega) (by omega))⟩, fun z c hz hc0 => by rw [f1.1 z (by omega) (by omega)]; exact hc0, by rw [f1.2]; exact Nat.le_refl _⟩
  · refine r_throwSW th_state (List.mem_of_getElem? (i := 17) rfl) rfl dX9_undo_10 dX9_undo_13 dX9_undo_14 dX9_undo_17 dX9_undo_20 (Nat.le_of_ble_eq_true rfl) (Nat.le_of_ble_eq_true rfl) (by omega) (by omega) (fun z hz => ?_)
    exact Out.th 0 (by rw [if_pos (by omega)]; rfl) rfl ⟨rfl, rfl, hz⟩
end CHG

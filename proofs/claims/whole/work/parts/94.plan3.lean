/-! the class: PlanFinder.find, whole; the face's plan and transformSteps -/
section PLAN3
variable {g : GT} {S0 : PS} {mc ms : Nat} {Q : PO → PS → Prop} {kc ks : Nat} {q b F : Nat} {a : Int → Int}
theorem l_wid5 {kd bd : Int} {f : Nat} {t0 : Int × Int × Int} {fE : Int → Int} (hPr : PrAt S0 b F a) (hbq : b + 14 ≤ q) (hqF : q + 3 ≤ F) (hp : MP a) (hf : 1 ≤ f ∧ f ≤ 64) (hkd : RI kd) (hbd : 0 ≤ bd ∧ bd ≤ 3199360032) (hfE : EnOk a bd fE) (ht0 : -18 ≤ t0.1 ∧ t0.1 ≤ 100000) (hq : ∀ S ff, PlS S0 S q (pW a kd bd f t0 (pCn kd f)) ff fE → Q (.inl none) S) : ∀ (r c : Nat), c + r = pCn kd f → ∀ S ff, PlS S0 S q (pW a kd bd f t0 c) ff fE →
    PW g cX5_find (iX5_find mc ms) 65 [(0, some (.ref q)), (1, some (.ref b)), (2, some (vi kd)), (3, some (vi (f : Int))), (4, some (vl bd)), (6, some (vi (if kd = 0 then 64 else (f : Int)))), (7, some (vi ((f + c : Nat) : Int)))] [] S kc ks Q := by
  intro r
  have hn := hp.1
  have h64 := pow_le64 hn
  have hpc : pCn kd f = if kd = 0 then 65 - f else 1 := rfl
  induction r with
  | zero =>
    intro c hc S ff hS
    have hgt : (if kd = 0 then 64 else (f : Int)) < ((f + c : Nat) : Int) := by
      split at hpc
      · rw [if_pos (by assumption)]
        omega
      · rw [if_neg (by assumption)]
        omega
    have hgb : RI (if kd = 0 then 64 else (f : Int)) := by split <;> omega
    have hcb : c ≤ 64 := by split at hpc <;> omega
    refine r_iload dX5_find_65 rfl (r_iload dX5_find_67 rfl ?_)
    refine r_icmp_gt 141 dX5_find_69 (by decide) (by omega) (by omega) (fun c1 => ?_) (fun c1 => ?_)
    · refine r_vret dX5_find_141 rfl ?_
      have e : c = pCn kd f := by omega
      subst e
      exact hq S ff hS
    · omega
  | succ r ih =>
    intro c hc S ff hS
    have hlt : ((f + c : Nat) : Int) ≤ (if kd = 0 then 64 else (f : Int)) ∧ f + c ≤ 64 := by
      split at hpc
      · rw [if_pos (by assumption)]
        omega
      · rw [if_neg (by assumption)]
        omega
    have hgb : RI (if kd = 0 then 64 else (f : Int)) := by split <;> omega
    have hP := hPr.frame hS.2.2.2.1 hbq hqF
    have h1 := hP.1
    have hub := usI_bd a (if kd = 2 then 2 * ((f + c : Nat) : Int) else ((f + c : Nat) : Int)) (a 0).toNat
    have htb := pW_bd (kd := kd) (b := bd) (w := f) hn hf.1 ht0 c (by omega)
    refine r_iload dX5_find_65 rfl (r_iload dX5_find_67 rfl ?_)
    refine r_icmp_gt 141 dX5_find_69 (by decide) (by omega) (by omega) (fun c1 => ?_) (fun c1 => ?_)
    · omega
    · refine r_aload_n dX5_find_72 (i := 1) rfl rfl (r_iload_n dX5_find_73 (i := 2) rfl rfl (r_iload dX5_find_74 rfl (c_vr dX5_find_76 (c_X0_usableFields hP hp hkd ⟨by omega, by omega⟩) rfl rfl mq_X0_usableFields ml_X5_38 ⟨Nat.le_of_ble_eq_true rfl, Nat.le_of_ble_eq_true rfl⟩ h1 rfl rfl rfl (Nat.le_of_ble_eq_true rfl) (r_istore dX5_find_79 rfl (Nat.le_of_ble_eq_true rfl) ?_))))
      refine r_aload_n dX5_find_81 (i := 0) rfl rfl (r_aload_n dX5_find_82 (i := 1) rfl rfl (r_iload_n dX5_find_83 (i := 2) rfl rfl (r_iload dX5_find_84 rfl (r_iload dX5_find_86 rfl ?_))))
      refine c_vq dX5_find_88 (c_X5_measureFields (w := f + c) hS hPr hbq hqF hp ⟨by omega, by omega⟩ hkd ⟨hub.1, by omega⟩) rfl rfl mq_X5_measureFields ml_X5_42 ⟨Nat.le_of_ble_eq_true rfl, Nat.le_of_ble_eq_true rfl⟩ hS.1 rfl rfl rfl (Nat.le_of_ble_eq_true rfl) (fun E S' h => by simp at h) (fun v S' hm => ?_)
      obtain ⟨e1, ff', hS', hff'⟩ := hm
      cases e1
      show PW _ _ _ 91 _ [] _ _ _ _
      refine r_iconst dX5_find_91 (r_istore dX5_find_92 rfl (Nat.le_of_ble_eq_true rfl) ?_)
      have hus : ((usI a (if kd = 2 then 2 * ((f + c : Nat) : Int) else ((f + c : Nat) : Int)) (a 0).toNat).toNat : Int) = usI a (if kd = 2 then 2 * ((f + c : Nat) : Int) else ((f + c : Nat) : Int)) (a 0).toNat := Int.toNat_of_nonneg hub.1
      refine r_loc [(0, some (.ref q)), (1, some (.ref b)), (2, some (vi kd)), (3, some (vi (f : Int))), (4, some (vl bd)), (6, some (vi (if kd = 0 then 64 else (f : Int)))), (7, some (vi ((f + c : Nat) : Int))), (8, some (vi (usI a (if kd = 2 then 2 * ((f + c : Nat) : Int) else ((f + c : Nat) : Int)) (a 0).toNat))), (9, some (vi (((0 : Nat) : Int) + 1)))] ⟨Or.inl rfl, Or.inl rfl, Or.inl rfl, Or.inl rfl, Or.inl rfl, Or.inl rfl, Or.inl rfl, Or.inl rfl, Or.inl rfl, trivial⟩ ?_
      refine l_sets5 (w := f + c) (t0 := pW a kd bd f t0 c) hp ⟨by omega, by omega⟩ hbd rfl hff' hfE htb (fun S2 hS2 => ?_) (usI a (if kd = 2 then 2 * ((f + c : Nat) : Int) else ((f + c : Nat) : Int)) (a 0).toNat).toNat 0 (by omega) S' hS'
      have hpw : ((2 ^ (a 0).toNat : Nat) : Int) = (2 : Int) ^ (a 0).toNat := Int.natCast_pow 2 _
      have htop := pSs_top (kd := kd) (bd := bd) (w := f + c) (t := pW a kd bd f t0 c) hn hus (2 ^ (a 0).toNat - 1 - (usI a (if kd = 2 then 2 * ((f + c : Nat) : Int) else ((f + c : Nat) : Int)) (a 0).toNat).toNat) (by omega)
      rw [show (usI a (if kd = 2 then 2 * ((f + c : Nat) : Int) else ((f + c : Nat) : Int)) (a 0).toNat).toNat + (2 ^ (a 0).toNat - 1 - (usI a (if kd = 2 then 2 * ((f + c : Nat) : Int) else ((f + c : Nat) : Int)) (a 0).toNat).toNat) = 2 ^ (a 0).toNat - 1 by omega] at htop
      rw [← htop] at hS2
      refine r_iinc dX5_find_135 rfl rfl (r_goto 65 dX5_find_138 (by decide) ?_)
      exact r_loc [(0, some (.ref q)), (1, some (.ref b)), (2, some (vi kd)), (3, some (vi (f : Int))), (4, some (vl bd)), (6, some (vi (if kd = 0 then 64 else (f : Int)))), (7, some (vi ((f + (c + 1) : Nat) : Int)))] ⟨Or.inl rfl, Or.inl rfl, Or.inl rfl, Or.inl rfl, Or.inl rfl, Or.inl rfl, Or.inl (lvi_eq (by omega)), trivial⟩ (ih (c + 1) (by omega) S2 ff' hS2)
theorem c_X5_find {kd bd : Int} {f : Nat} {S : PS} {t : Int × Int × Int} {ff fE : Int → Int} (h0 : S.1 q = some (plO q t)) (h1 : S.1 (q + 1) = some (cI 6 ff)) (h2 : S.1 (q + 2) = some (cZ 64 fE)) (hPr : PrAt S b F a) (hbq : b + 14 ≤ q) (hqF : q + 3 ≤ F) (hp : MP a) (hf : 1 ≤ f ∧ f ≤ 64) (hkd : RI kd) (hbd : 0 ≤ bd ∧ bd ≤ 3199360032) : PC g yX5_find cX5_find (iX5_find mc ms) [.ref q, .ref b, vi kd, vi (f : Int), vl bd] S (fun o S' => o = .inl none ∧ ∃ ff' fE', PlS S S' q (pW a kd bd f (-1, 0, 0) (pCn kd f)) ff' fE') := by
  have hn := hp.1
  have h64 := pow_le64 hn
  have hpw : ((2 ^ (a 0).toNat : Nat) : Int) = (2 : Int) ^ (a 0).toNat := Int.natCast_pow 2 _
  have hS : PlS S S q t ff fE := ⟨h0, h1, h2, fun _ _ => rfl, rfl⟩
  refine PC_of pnX5 rfl rfl rfl (Nat.le_of_ble_eq_true rfl) ?_
  refine r_aload_n dX5_find_0 (i := 0) rfl rfl (r_iconst dX5_find_1 (r_put dX5_find_2 fl_X5_19 h0 rfl rfl (Nat.le_of_ble_eq_true rfl) (r_aload_n dX5_find_5 (i := 0) rfl rfl (r_iconst dX5_find_6 ?_))))
  refine r_put dX5_find_7 fl_X5_23 ps_same rfl rfl (Nat.le_of_ble_eq_true rfl) (r_aload_n dX5_find_10 (i := 0) rfl rfl (r_iconst dX5_find_11 (r_put dX5_find_12 fl_X5_26 ps_same rfl rfl (Nat.le_of_ble_eq_true rfl) (r_iconst dX5_find_15 ?_))))
  refine r_istore dX5_find_16 rfl (Nat.le_of_ble_eq_true rfl) ?_
  refine r_ps (S' := ps_put S q (plO q (-1, 0, 0))) (by rw [ps_put_put, ps_put_put]; rfl) ?_
  refine r_loc [(0, some (.ref q)), (1, some (.ref b)), (2, some (vi kd)), (3, some (vi (f : Int))), (4, some (vl bd)), (6, some (vi ((0 : Nat) : Int)))] ⟨Or.inl rfl, Or.inl rfl, Or.inl rfl, Or.inl rfl, Or.inl rfl, Or.inl rfl, trivial⟩ ?_
  refine l_enough hPr hbq hqF hp hbd (fun S1 fE1 hS1 hE1 => ?_) (2 ^ (a 0).toNat) 0 (by omega) _ fE (hS.pt (t' := ((-1 : Int), (0 : Int), (0 : Int)))) (fun j j0 j1 => by omega)
  have hnext : ∀ gr : Int, gr = (if kd = 0 then 64 else (f : Int)) → PW g cX5_find (iX5_find mc ms) 60 [(0, some (.ref q)), (1, some (.ref b)), (2, some (vi kd)), (3, some (vi (f : Int))), (4, some (vl bd))] [vi gr] S1 mc ms (fun o S' => o = .inl none ∧ ∃ ff' fE', PlS S S' q (pW a kd bd f (-1, 0, 0) (pCn kd f)) ff' fE') := fun gr hgr => by
    subst hgr
    refine r_istore dX5_find_60 rfl (Nat.le_of_ble_eq_true rfl) (r_iload_n dX5_find_62 (i := 3) rfl rfl (r_istore dX5_find_63 rfl (Nat.le_of_ble_eq_true rfl) ?_))
    exact r_loc [(0, some (.ref q)), (1, some (.ref b)), (2, some (vi kd)), (3, some (vi (f : Int))), (4, some (vl bd)), (6, some (vi (if kd = 0 then 64 else (f : Int)))), (7, some (vi ((f + 0 : Nat) : Int)))] ⟨Or.inl rfl, Or.inl rfl, Or.inl rfl, Or.inl rfl, Or.inl rfl, Or.inl rfl, Or.inl rfl, trivial⟩ (l_wid5 (t0 := ((-1 : Int), (0 : Int), (0 : Int))) hPr hbq hqF hp hf hkd hbd hE1 (by show -18 ≤ (-1 : Int) ∧ (-1 : Int) ≤ 100000; omega) (fun S2 ff2 h => ⟨rfl, ff2, fE1, h⟩) (pCn kd f) 0 (by omega) S1 ff hS1)
  refine r_iload_n dX5_find_50 (i := 2) rfl rfl ?_
  refine r_if_ne 59 dX5_find_51 (by decide) (by omega) (fun c1 => ?_) (fun c1 => ?_)
  · refine r_iload_n dX5_find_59 (i := 3) rfl rfl ?_
    exact hnext _ (by rw [if_neg c1])
  · refine r_bipush dX5_find_54 (by decide) (r_goto 60 dX5_find_56 (by decide) ?_)
    exact hnext _ (by rw [if_pos c1])
end PLAN3
section FACE7
variable {g : GT} {S : PS} {mc ms : Nat} {x F : Nat} {a : Int → Int} {H : Int → Int → Int} {nx ct fd ea : Int} {tx : Int → Int}
/-- what plans.find leaves of the whole class -/
theorem pls_cx (hC : CX S x F a H nx ct fd ea tx) {S' : PS} {t : Int × Int × Int} {ff fE : Int → Int} (h : PlS S S' (x + 150) t ff fE) : CX S' x F a H nx ct fd ea tx ∧ FrC x S S' := by
  obtain ⟨h0, h1, h2, ⟨h3, h4⟩, h5, h6, h7, h8⟩ := hC
  obtain ⟨p1, p2, p3, p4, p5⟩ := h
  have he : Ext F S S' := fun z hz c hc => by
    rw [p4 z (by omega)]
    exact hc
  exact ⟨⟨h0, by rw [p4 x (by omega)]; exact h1, h2.frame he (fun z z1 z2 => p4 z (by omega)), ⟨h3.frame he (fun z z1 z2 => p4 z (by omega)), h4⟩, h5.frame he (fun z z1 z2 => p4 z (by omega)), h6.frame (fun z z1 z2 => p4 z (by omega)), h7.frame (fun z z1 z2 => p4 z (by omega)), ⟨_, _, _, p1⟩, ⟨_, p2⟩, _, p3⟩, fun z c hz hc => by rw [p4 z (by omega)]; exact hc, by rw [p5]; exact Nat.le_refl _⟩
theorem c_X9_plan {kd s t n w : Int} (hC : CX S x F a H nx ct fd ea tx) (hp : MP a) (hl : ML a) (hk : RI kd) (hs : RI s) (ht : RI t) (hn : RI n) (hw : RI w) (hm : 1 ≤ mc) (hm2 : 6 ≤ ms) : PC g yX9_plan cX9_plan (iX9_plan mc ms) [.ref x, vi kd, vi s, vi t, vi n, vi w] S (Out ["java/lang/IndexOutOfBoundsException", "java/lang/IllegalStateException", "java/lang/IllegalArgumentException"] (kPlan a kd s t n w) (vi (vPlan a kd s t n w)) S (fun S' => CX S' x F a H nx ct fd ea tx ∧ FrC x S S')) := by
  have hx := hC.2.1
  have hb := hC.2.2.1
  have hF := hC.1
  have hq := hb.2.1
  have hlb := lacksI_bd a s t
  obtain ⟨w', w1, w2, w3, w4⟩ := hb.2.1
  obtain ⟨⟨ps, pl, pt, q0⟩, ⟨ff, q1⟩, fE, q2⟩ := hC.2.2.2.2.2.2.2
  refine PC_of pnX9 rfl rfl rfl (Nat.le_of_ble_eq_true rfl) ?_
  refine r_bud (kc' := 1) (ks' := 6) hm hm2 ?_
  refine r_aload_n dX9_plan_0 (i := 0) rfl rfl (r_iload_n dX9_plan_1 (i := 2) rfl rfl (r_iload_n dX9_plan_2 (i := 3) rfl rfl ?_))
  by_cases n1 : lacksI a s t ≠ 1
  rotate_left
  · exact c_vx (E := "") dX9_plan_3 (c_X9_requireTerms0 (mc := 1) (ms := 6) hx hb.1.1 hq hl hs ht (by omega) (by omega) (by omega)) rfl mq_X9_requireTerms ml_X9_243 ⟨Nat.le_of_ble_eq_true rfl, Nat.le_of_ble_eq_true rfl⟩ hx rfl rfl rfl (Nat.le_of_ble_eq_true rfl) (by show 1 ≤ 1; omega) (by show 6 ≤ 6; omega) (fun o S' ho => ⟨_, ho.1, Out.th 0 (by unfold kPlan; rw [ref_l (by omega), if_neg (by omega)]; omega) rfl ⟨rfl, ho.2⟩⟩)
  by_cases n2 : lacksI a s t ≠ 2
  rotate_left
  · exact c_vx (E := "") dX9_plan_3 (c_X9_requireTerms2 (mc := 1) (ms := 6) hx hb.1.1 hq hl hs ht (by omega) (by omega) (by omega)) rfl mq_X9_requireTerms ml_X9_243 ⟨Nat.le_of_ble_eq_true rfl, Nat.le_of_ble_eq_true rfl⟩ hx rfl rfl rfl (Nat.le_of_ble_eq_true rfl) (by show 1 ≤ 1; omega) (by show 6 ≤ 6; omega) (fun o S' ho => ⟨_, ho.1, Out.th 1 (by unfold kPlan; rw [ref_l (by omega), if_neg (by omega)]; omega) rfl ⟨rfl, ho.2⟩⟩)
  have n0 : lacksI a s t = 0 := by omega
  obtain ⟨⟨hs4, ht4⟩, ns, nt⟩ := lacks_0.mp n0
  obtain ⟨f1, s1, l1, o1, e1⟩ := two_sq (s := s) (t := t) hl w4 hs4
  obtain ⟨f2, s2, l2, o2, e2⟩ := two_sq (s := t) (t := t) hl w4 ht4
  refine c_vn dX9_plan_3 (c_X9_requireTerms1 hx hb.1.1 hq hl hs ht n0) rfl rfl mq_X9_requireTerms ml_X9_243 ⟨Nat.le_of_ble_eq_true rfl, Nat.le_of_ble_eq_true rfl⟩ hx rfl rfl rfl (Nat.le_of_ble_eq_true rfl) (r_aload_n dX9_plan_6 (i := 0) rfl rfl (r_iload_n dX9_plan_7 (i := 2) rfl rfl (c_vr dX9_plan_8 (c_X9_sequenceAt1 hx hb.1.1 w3 hs hs4) rfl rfl mq_X9_sequenceAt ml_X9_177 ⟨Nat.le_of_ble_eq_true rfl, Nat.le_of_ble_eq_true rfl⟩ hx rfl rfl rfl (Nat.le_of_ble_eq_true rfl) (r_astore dX9_plan_11 rfl (Nat.le_of_ble_eq_true rfl) ?_))))
  refine r_aload_n dX9_plan_13 (i := 0) rfl rfl (r_iload_n dX9_plan_14 (i := 3) rfl rfl (c_vr dX9_plan_15 (c_X9_sequenceAt1 hx hb.1.1 w3 ht ht4) rfl rfl mq_X9_sequenceAt ml_X9_177 ⟨Nat.le_of_ble_eq_true rfl, Nat.le_of_ble_eq_true rfl⟩ hx rfl rfl rfl (Nat.le_of_ble_eq_true rfl) (r_astore dX9_plan_18 rfl (Nat.le_of_ble_eq_true rfl) (r_iload_n dX9_plan_20 (i := 1) rfl rfl ?_))))
  refine r_aload dX9_plan_21 rfl (r_aload dX9_plan_23 rfl (r_iload dX9_plan_25 rfl ?_))
  by_cases hz : kindOk a kd s t n
  rotate_left
  · exact c_sx dX9_plan_27 (c_X9_sizeOf0 (mc := 1) (ms := 6) s1 s2 l1 l2 hk hn hz (by omega) (by omega)) rfl mq_X9_sizeOf ml_X9_246 ⟨Nat.le_of_ble_eq_true rfl, Nat.le_of_ble_eq_true rfl⟩ rfl rfl (Nat.le_of_ble_eq_true rfl) (by show 1 ≤ 1; omega) (by show 6 ≤ 6; omega) (fun o S' ho => ⟨_, ho.1, Out.th 2 (by unfold kPlan; rw [ref_3 n0 hz, if_neg (by decide)]; rfl) rfl ⟨rfl, ho.2⟩⟩)
  have hsz := siz_bd2 hl n0 hz
  have hr0 : refI a kd s t n = 0 := ref_0.mpr ⟨n0, hz⟩
  have hbe : min (a (7 + s)) (a (7 + t)) * imax f1 (a (7 + s)).toNat * imax f2 (a (7 + t)).toNat = bndI a s t := by unfold bndI; rw [imax_cong _ e1, imax_cong _ e2]
  have hcb : PC g yX9_boundOf cX9_boundOf (iX9_boundOf 0 0) [.ref (x + 1 + 6 + 2 * w' s), .ref (x + 1 + 6 + 2 * w' t)] S (Rt (some (vl (bndI a s t))) S) := by rw [← hbe]; exact c_X9_boundOf s1 s2 l1 l2 o1 o2
  have hcz : PC g yX9_sizeOf cX9_sizeOf (iX9_sizeOf 0 0) [vi kd, .ref (x + 1 + 6 + 2 * w' s), .ref (x + 1 + 6 + 2 * w' t), vi n] S (Rt (some (vi (sizI a kd s t n))) S) := c_X9_sizeOf1 s1 s2 l1 l2 hk hn hz
  refine c_sr dX9_plan_27 (hcz) rfl rfl mq_X9_sizeOf ml_X9_246 ⟨Nat.le_of_ble_eq_true rfl, Nat.le_of_ble_eq_true rfl⟩ rfl rfl (Nat.le_of_ble_eq_true rfl) (r_istore dX9_plan_30 rfl (Nat.le_of_ble_eq_true rfl) (r_iload dX9_plan_32 rfl ?_))
  refine r_if_lt 47 dX9_plan_34 (by decide) (by omega) (fun c1 => ?_) (fun c1 => ?_)
  · refine r_iconst dX9_plan_47 ?_
    exact c_sx dX9_plan_48 (c_X9_require0 (mc := 1) (ms := 6) rfl (by omega) (by omega)) rfl mq_X9_require ml_X9_70 ⟨Nat.le_of_ble_eq_true rfl, Nat.le_of_ble_eq_true rfl⟩ rfl rfl (Nat.le_of_ble_eq_true rfl) (by show 1 ≤ 1; omega) (by show 6 ≤ 6; omega) (fun o S' ho => ⟨_, ho.1, Out.th 2 (by unfold kPlan; rw [if_pos hr0, if_neg (by omega)]; rfl) rfl ⟨rfl, ho.2⟩⟩)
  · refine r_iload dX9_plan_37 rfl (r_iconst dX9_plan_39 ?_)
    refine r_icmp_gt 47 dX9_plan_40 (by decide) (by omega) (by omega) (fun c2 => ?_) (fun c2 => ?_)
    · refine r_iconst dX9_plan_47 ?_
      exact c_sx dX9_plan_48 (c_X9_require0 (mc := 1) (ms := 6) rfl (by omega) (by omega)) rfl mq_X9_require ml_X9_70 ⟨Nat.le_of_ble_eq_true rfl, Nat.le_of_ble_eq_true rfl⟩ rfl rfl (Nat.le_of_ble_eq_true rfl) (by show 1 ≤ 1; omega) (by show 6 ≤ 6; omega) (fun o S' ho => ⟨_, ho.1, Out.th 2 (by unfold kPlan; rw [if_pos hr0, if_neg (by omega)]; rfl) rfl ⟨rfl, ho.2⟩⟩)
    · refine r_iconst dX9_plan_43 (r_goto 48 dX9_plan_44 (by decide) (c_sn dX9_plan_48 (c_X9_require1 (by decide) ⟨by omega, by omega⟩) rfl rfl mq_X9_require ml_X9_70 ⟨Nat.le_of_ble_eq_true rfl, Nat.le_of_ble_eq_true rfl⟩ rfl rfl (Nat.le_of_ble_eq_true rfl) (r_aload_n dX9_plan_51 (i := 0) rfl rfl (r_get dX9_plan_52 fl_X9_47 hx rfl ?_))))
      refine r_aload_n dX9_plan_55 (i := 0) rfl rfl (r_get dX9_plan_56 fl_X9_10 hx rfl (r_iload_n dX9_plan_59 (i := 1) rfl rfl (r_iload dX9_plan_60 rfl (r_aload dX9_plan_62 rfl ?_))))
      refine r_aload dX9_plan_64 rfl (c_sr dX9_plan_66 (hcb) rfl rfl mq_X9_boundOf ml_X9_250 ⟨Nat.le_of_ble_eq_true rfl, Nat.le_of_ble_eq_true rfl⟩ rfl rfl (Nat.le_of_ble_eq_true rfl) ?_)
      have hbb := (bnd_bd hl hs4 ht4).2.2.2
      obtain ⟨f, hf⟩ := Int.eq_ofNat_of_zero_le (show 0 ≤ sizI a kd s t n by omega)
      have hfin : PC g yX5_find cX5_find (iX5_find 0 0) [.ref (x + 150), .ref (x + 1), vi kd, vi (sizI a kd s t n), vl (bndI a s t)] S (fun o S' => o = .inl none ∧ ∃ ff' fE', PlS S S' (x + 150) (plT a kd s t n) ff' fE') := by
        unfold plT
        rw [hf, Int.toNat_natCast]
        exact c_X5_find (t := (ps, pl, pt)) q0 q1 q2 hb.1.pr (by omega) (by omega) hp (by omega) hk hbb
      refine c_vq dX9_plan_69 (hfin) rfl rfl mq_X5_find ml_X9_262 ⟨Nat.le_of_ble_eq_true rfl, Nat.le_of_ble_eq_true rfl⟩ q0 rfl rfl rfl (Nat.le_of_ble_eq_true rfl) (fun E S' h => by simp at h) (fun v S' hq5 => ?_)
      obtain ⟨d1, ff', fE', hP⟩ := hq5
      cases d1
      have hCX := pls_cx hC hP
      have hx' := hCX.1.2.1
      have hTb := pW_bd (kd := kd) (b := bndI a s t) (w := f) hp.1 (by omega) (t := ((-1 : Int), (0 : Int), (0 : Int))) (by show -18 ≤ (-1 : Int) ∧ (-1 : Int) ≤ 100000; omega) (pCn kd f) (by unfold pCn; split <;> omega)
      have hTe : plT a kd s t n = pW a kd (bndI a s t) f (-1, 0, 0) (pCn kd f) := by
        unfold plT
        rw [hf, Int.toNat_natCast]
      rw [← hTe] at hTb
      have sa' : S'.1 (x + 1 + 6 + 2 * w' s) = some (cO 7 [.ref (x + 1 + 6 + 2 * w' s + 1), vi (a (7 + s))]) := by
        have := w1 s hs4.1 (by omega)
        rw [hP.2.2.2.1 _ (by omega)]
        exact s1.1
      have sb' : S'.1 (x + 1 + 6 + 2 * w' t) = some (cO 7 [.ref (x + 1 + 6 + 2 * w' t + 1), vi (a (7 + t))]) := by
        have := w1 t ht4.1 (by omega)
        rw [hP.2.2.2.1 _ (by omega)]
        exact s2.1
      have hX0 := Int.mul_nonneg l1.1 l2.1
      have hX1 := Int.mul_le_mul l1.2 l2.2 l2.1 (by omega)
      have hk0 : kPlan a kd s t n w = 0 := by
        unfold kPlan
        rw [if_pos hr0, if_pos (by omega)]
      have hV : vPlan a kd s t n w = if (plT a kd s t n).1 = -1 ∨ a (7 + s) * a (7 + t) ≤ (plT a kd s t n).1 then (if w = 0 then a (7 + s) * a (7 + t) else 0) else (if w = 0 then (plT a kd s t n).1 else if w = 1 then (plT a kd s t n).2.1 else (plT a kd s t n).2.2) := by
        unfold vPlan
        by_cases hby : byS a s t (plT a kd s t n)
        · rw [b2c_t hby, if_pos rfl]
          exact (if_pos hby).symm
        · rw [b2c_f hby, if_neg (by decide)]
          exact (if_neg hby).symm
      show PW _ _ _ 72 _ [] _ _ _ _
      refine r_aload dX9_plan_72 rfl (r_get dX9_plan_74 fl_X9_181 sa' rfl (r_aload dX9_plan_77 rfl (r_get dX9_plan_79 fl_X9_181 sb' rfl (r_imul dX9_plan_82 ?_))))
      refine r_istore dX9_plan_83 rfl (Nat.le_of_ble_eq_true rfl) (r_aload_n dX9_plan_85 (i := 0) rfl rfl (r_get dX9_plan_86 fl_X9_47 hx' rfl (r_get dX9_plan_89 fl_X9_265 hP.1 rfl (r_iconst dX9_plan_92 ?_))))
      refine r_icmp_eq 112 dX9_plan_93 (by decide) (by omega) (by omega) (fun c1 => ?_) (fun c1 => ?_)
      · refine r_iconst dX9_plan_112 (r_istore dX9_plan_113 rfl (Nat.le_of_ble_eq_true rfl) (r_iload dX9_plan_115 rfl ?_))
        have c2 : w = 0 ∨ w = 1 ∨ w = 2 := by omega
        rcases c2 with c2 | c2 | c2
        · refine r_lookup 144 dX9_plan_117 ⟨by omega, by omega⟩ (by decide) (by rw [c2] <;> rfl) (by decide) ?_
          refine r_iload dX9_plan_144 rfl ?_
          refine r_if_eq 159 dX9_plan_146 (by decide) (by omega) (fun c3 => ?_) (fun c3 => ?_)
          · refine r_iload dX9_plan_159 rfl ?_
            refine r_iret dX9_plan_161 rfl rfl ?_
            subst_vars
            refine Out.ok hk0 ?_ hCX
            rw [hV]
            first
              | rw [if_pos (by omega), if_pos (by omega)]
              | rw [if_pos (by omega), if_neg (by omega)]
              | rw [if_neg (by omega), if_pos (by omega)]
              | rw [if_neg (by omega), if_neg (by omega), if_pos (by omega)]
              | rw [if_neg (by omega), if_neg (by omega), if_neg (by omega)]
          · omega
        · refine r_lookup 162 dX9_plan_117 ⟨by omega, by omega⟩ (by decide) (by rw [c2] <;> rfl) (by decide) ?_
          refine r_iload dX9_plan_162 rfl ?_
          refine r_if_eq 177 dX9_plan_164 (by decide) (by omega) (fun c4 => ?_) (fun c4 => ?_)
          · refine r_iconst dX9_plan_177 ?_
            refine r_iret dX9_plan_178 rfl rfl ?_
            subst_vars
            refine Out.ok hk0 ?_ hCX
            rw [hV]
            first
              | rw [if_pos (by omega), if_pos (by omega)]
              | rw [if_pos (by omega), if_neg (by omega)]
              | rw [if_neg (by omega), if_pos (by omega)]
              | rw [if_neg (by omega), if_neg (by omega), if_pos (by omega)]
              | rw [if_neg (by omega), if_neg (by omega), if_neg (by omega)]
          · omega
        · refine r_lookup 179 dX9_plan_117 ⟨by omega, by omega⟩ (by decide) (by rw [c2] <;> rfl) (by decide) ?_
          refine r_iload dX9_plan_179 rfl ?_
          refine r_if_eq 194 dX9_plan_181 (by decide) (by omega) (fun c5 => ?_) (fun c5 => ?_)
          · refine r_iconst dX9_plan_194 ?_
            refine r_iret dX9_plan_195 rfl rfl ?_
            subst_vars
            refine Out.ok hk0 ?_ hCX
            rw [hV]
            first
              | rw [if_pos (by omega), if_pos (by omega)]
              | rw [if_pos (by omega), if_neg (by omega)]
              | rw [if_neg (by omega), if_pos (by omega)]
              | rw [if_neg (by omega), if_neg (by omega), if_pos (by omega)]
              | rw [if_neg (by omega), if_neg (by omega), if_neg (by omega)]
          · omega
      · refine r_aload_n dX9_plan_96 (i := 0) rfl rfl (r_get dX9_plan_97 fl_X9_47 hx' rfl (r_get dX9_plan_100 fl_X9_265 hP.1 rfl (r_iload dX9_plan_103 rfl ?_)))
        refine r_icmp_ge 112 dX9_plan_105 (by decide) (by omega) (by omega) (fun c6 => ?_) (fun c6 => ?_)
        · refine r_iconst dX9_plan_112 (r_istore dX9_plan_113 rfl (Nat.le_of_ble_eq_true rfl) (r_iload dX9_plan_115 rfl ?_))
          have c7 : w = 0 ∨ w = 1 ∨ w = 2 := by omega
          rcases c7 with c7 | c7 | c7
          · refine r_lookup 144 dX9_plan_117 ⟨by omega, by omega⟩ (by decide) (by rw [c7] <;> rfl) (by decide) ?_
            refine r_iload dX9_plan_144 rfl ?_
            refine r_if_eq 159 dX9_plan_146 (by decide) (by omega) (fun c8 => ?_) (fun c8 => ?_)
            · refine r_iload dX9_plan_159 rfl ?_
              refine r_iret dX9_plan_161 rfl rfl ?_
              subst_vars
              refine Out.ok hk0 ?_ hCX
              rw [hV]
              first
                | rw [if_pos (by omega), if_pos (by omega)]
                | rw [if_pos (by omega), if_neg (by omega)]
                | rw [if_neg (by omega), if_pos (by omega)]
                | rw [if_neg (by omega), if_neg (by omega), if_pos (by omega)]
                | rw [if_neg (by omega), if_neg (by omega), if_neg (by omega)]
            · omega
          · refine r_lookup 162 dX9_plan_117 ⟨by omega, by omega⟩ (by decide) (by rw [c7] <;> rfl) (by decide) ?_
            refine r_iload dX9_plan_162 rfl ?_
            refine r_if_eq 177 dX9_plan_164 (by decide) (by omega) (fun c9 => ?_) (fun c9 => ?_)
            · refine r_iconst dX9_plan_177 ?_
              refine r_iret dX9_plan_178 rfl rfl ?_
              subst_vars
              refine Out.ok hk0 ?_ hCX
              rw [hV]
              first
                | rw [if_pos (by omega), if_pos (by omega)]
                | rw [if_pos (by omega), if_neg (by omega)]
                | rw [if_neg (by omega), if_pos (by omega)]
                | rw [if_neg (by omega), if_neg (by omega), if_pos (by omega)]
                | rw [if_neg (by omega), if_neg (by omega), if_neg (by omega)]
            · omega
          · refine r_lookup 179 dX9_plan_117 ⟨by omega, by omega⟩ (by decide) (by rw [c7] <;> rfl) (by decide) ?_
            refine r_iload dX9_plan_179 rfl ?_
            refine r_if_eq 194 dX9_plan_181 (by decide) (by omega) (fun c10 => ?_) (fun c10 => ?_)
            · refine r_iconst dX9_plan_194 ?_
              refine r_iret dX9_plan_195 rfl rfl ?_
              subst_vars
              refine Out.ok hk0 ?_ hCX
              rw [hV]
              first
                | rw [if_pos (by omega), if_pos (by omega)]
                | rw [if_pos (by omega), if_neg (by omega)]
                | rw [if_neg (by omega), if_pos (by omega)]
                | rw [if_neg (by omega), if_neg (by omega), if_pos (by omega)]
                | rw [if_neg (by omega), if_neg (by omega), if_neg (by omega)]
            · omega
        · refine r_iconst dX9_plan_108 (r_goto 113 dX9_plan_109 (by decide) (r_istore dX9_plan_113 rfl (Nat.le_of_ble_eq_true rfl) (r_iload dX9_plan_115 rfl ?_)))
          have c11 : w = 0 ∨ w = 1 ∨ w = 2 := by omega
          rcases c11 with c11 | c11 | c11
          · refine r_lookup 144 dX9_plan_117 ⟨by omega, by omega⟩ (by decide) (by rw [c11] <;> rfl) (by decide) ?_
            refine r_iload dX9_plan_144 rfl ?_
            refine r_if_eq 159 dX9_plan_146 (by decide) (by omega) (fun c12 => ?_) (fun c12 => ?_)
            · omega
            · refine r_aload_n dX9_plan_149 (i := 0) rfl rfl (r_get dX9_plan_150 fl_X9_47 hx' rfl (r_get dX9_plan_153 fl_X9_265 hP.1 rfl (r_goto 161 dX9_plan_156 (by decide) ?_)))
              refine r_iret dX9_plan_161 rfl rfl ?_
              subst_vars
              refine Out.ok hk0 ?_ hCX
              rw [hV]
              first
                | rw [if_pos (by omega), if_pos (by omega)]
                | rw [if_pos (by omega), if_neg (by omega)]
                | rw [if_neg (by omega), if_pos (by omega)]
                | rw [if_neg (by omega), if_neg (by omega), if_pos (by omega)]
                | rw [if_neg (by omega), if_neg (by omega), if_neg (by omega)]
          · refine r_lookup 162 dX9_plan_117 ⟨by omega, by omega⟩ (by decide) (by rw [c11] <;> rfl) (by decide) ?_
            refine r_iload dX9_plan_162 rfl ?_
            refine r_if_eq 177 dX9_plan_164 (by decide) (by omega) (fun c13 => ?_) (fun c13 => ?_)
            · omega
            · refine r_aload_n dX9_plan_167 (i := 0) rfl rfl (r_get dX9_plan_168 fl_X9_47 hx' rfl (r_get dX9_plan_171 fl_X9_268 hP.1 rfl (r_goto 178 dX9_plan_174 (by decide) ?_)))
              refine r_iret dX9_plan_178 rfl rfl ?_
              subst_vars
              refine Out.ok hk0 ?_ hCX
              rw [hV]
              first
                | rw [if_pos (by omega), if_pos (by omega)]
                | rw [if_pos (by omega), if_neg (by omega)]
                | rw [if_neg (by omega), if_pos (by omega)]
                | rw [if_neg (by omega), if_neg (by omega), if_pos (by omega)]
                | rw [if_neg (by omega), if_neg (by omega), if_neg (by omega)]
          · refine r_lookup 179 dX9_plan_117 ⟨by omega, by omega⟩ (by decide) (by rw [c11] <;> rfl) (by decide) ?_
            refine r_iload dX9_plan_179 rfl ?_
            refine r_if_eq 194 dX9_plan_181 (by decide) (by omega) (fun c14 => ?_) (fun c14 => ?_)
            · omega
            · refine r_aload_n dX9_plan_184 (i := 0) rfl rfl (r_get dX9_plan_185 fl_X9_47 hx' rfl (r_get dX9_plan_188 fl_X9_271 hP.1 rfl (r_goto 195 dX9_plan_191 (by decide) ?_)))
              refine r_iret dX9_plan_195 rfl rfl ?_
              subst_vars
              refine Out.ok hk0 ?_ hCX
              rw [hV]
              first
                | rw [if_pos (by omega), if_pos (by omega)]
                | rw [if_pos (by omega), if_neg (by omega)]
                | rw [if_neg (by omega), if_pos (by omega)]
                | rw [if_neg (by omega), if_neg (by omega), if_pos (by omega)]
                | rw [if_neg (by omega), if_neg (by omega), if_neg (by omega)]
theorem c_X9_transformSteps {kd s t n : Int} (hC : CX S x F a H nx ct fd ea tx) (hp : MP a) (hl : ML a) (hk : RI kd) (hs : RI s) (ht : RI t) (hn : RI n) (hm : 1 ≤ mc) (hm2 : 6 ≤ ms) : PC g yX9_transformSteps cX9_transformSteps (iX9_transformSteps mc ms) [.ref x, vi kd, vi s, vi t, vi n] S (fun o S' => CX S' x F a H nx ct fd ea tx ∧ FrC x S S' ∧ ((kSteps a kd s t n = 0 ∧ o = .inl (some (vi (plT a kd s t n).1))) ∨ (0 < kSteps a kd s t n ∧ ∃ E, ["java/lang/IndexOutOfBoundsException", "java/lang/IllegalStateException", "java/lang/IllegalArgumentException", "java/util/NoSuchElementException"][(kSteps a kd s t n - 1).toNat]? = some E ∧ o = .inr E))) := by
  have hx := hC.2.1
  have hb := hC.2.2.1
  have hF := hC.1
  have hq := hb.2.1
  have hlb := lacksI_bd a s t
  obtain ⟨w', w1, w2, w3, w4⟩ := hb.2.1
  obtain ⟨⟨ps, pl, pt, q0⟩, ⟨ff, q1⟩, fE, q2⟩ := hC.2.2.2.2.2.2.2
  have hth : ∀ (k : Int) (E : String) (o : PO) (S' : PS), 0 < k → ["java/lang/IndexOutOfBoundsException", "java/lang/IllegalStateException", "java/lang/IllegalArgumentException", "java/util/NoSuchElementException"][(k - 1).toNat]? = some E → kSteps a kd s t n = k → Th E S o S' → (CX S' x F a H nx ct fd ea tx ∧ FrC x S S' ∧ ((kSteps a kd s t n = 0 ∧ o = .inl (some (vi (plT a kd s t n).1))) ∨ (0 < kSteps a kd s t n ∧ ∃ E, ["java/lang/IndexOutOfBoundsException", "java/lang/IllegalStateException", "java/lang/IllegalArgumentException", "java/util/NoSuchElementException"][(kSteps a kd s t n - 1).toNat]? = some E ∧ o = .inr E))) := fun k E o S' h1 h2 h3 h4 => by
    obtain ⟨t1, t2, t3⟩ := h4
    refine ⟨hC.frame (fun z hz c hc => by rw [t2]; exact hc) (fun z z1 z2 => by rw [t2]), ⟨fun z c hz hc => by rw [t2]; exact hc, t3⟩, Or.inr ⟨by omega, E, by rw [h3]; exact h2, t1⟩⟩
  by_cases n1 : lacksI a s t = 1
  · refine PC.mono (fun o S' ho => hth 1 _ o S' (by omega) rfl (by unfold kSteps; rw [ref_l (by omega), if_neg (by omega)]; omega) ho) ?_
    refine PC_of pnX9 rfl rfl rfl (Nat.le_of_ble_eq_true rfl) ?_
    refine r_bud (kc' := 1) (ks' := 6) hm hm2 ?_
    refine r_aload_n dX9_transformSteps_0 (i := 0) rfl rfl (r_iload_n dX9_transformSteps_1 (i := 2) rfl rfl (r_iload_n dX9_transformSteps_2 (i := 3) rfl rfl ?_))
    exact c_vx (E := "") dX9_transformSteps_3 (c_X9_requireTerms0 (mc := 1) (ms := 6) hx hb.1.1 hq hl hs ht n1 (by omega) (by omega)) rfl mq_X9_requireTerms ml_X9_243 ⟨Nat.le_of_ble_eq_true rfl, Nat.le_of_ble_eq_true rfl⟩ hx rfl rfl rfl (Nat.le_of_ble_eq_true rfl) (by show 1 ≤ 1; omega) (by show 6 ≤ 6; omega) (fun o S' ho => ⟨_, ho.1, rfl, ho.2⟩)
  by_cases n2 : lacksI a s t = 2
  · refine PC.mono (fun o S' ho => hth 2 _ o S' (by omega) rfl (by unfold kSteps; rw [ref_l (by omega), if_neg (by omega)]; omega) ho) ?_
    refine PC_of pnX9 rfl rfl rfl (Nat.le_of_ble_eq_true rfl) ?_
    refine r_bud (kc' := 1) (ks' := 6) hm hm2 ?_
    refine r_aload_n dX9_transformSteps_0 (i := 0) rfl rfl (r_iload_n dX9_transformSteps_1 (i := 2) rfl rfl (r_iload_n dX9_transformSteps_2 (i := 3) rfl rfl ?_))
    exact c_vx (E := "") dX9_transformSteps_3 (c_X9_requireTerms2 (mc := 1) (ms := 6) hx hb.1.1 hq hl hs ht n2 (by omega) (by omega)) rfl mq_X9_requireTerms ml_X9_243 ⟨Nat.le_of_ble_eq_true rfl, Nat.le_of_ble_eq_true rfl⟩ hx rfl rfl rfl (Nat.le_of_ble_eq_true rfl) (by show 1 ≤ 1; omega) (by show 6 ≤ 6; omega) (fun o S' ho => ⟨_, ho.1, rfl, ho.2⟩)
  have n0 : lacksI a s t = 0 := by omega
  obtain ⟨⟨hs4, ht4⟩, ns, nt⟩ := lacks_0.mp n0
  obtain ⟨f1, s1, l1, o1, e1⟩ := two_sq (s := s) (t := t) hl w4 hs4
  obtain ⟨f2, s2, l2, o2, e2⟩ := two_sq (s := t) (t := t) hl w4 ht4
  by_cases hz : kindOk a kd s t n
  · have hsz := siz_bd2 hl n0 hz
    have hr0 : refI a kd s t n = 0 := ref_0.mpr ⟨n0, hz⟩
    have hbb := (bnd_bd hl hs4 ht4).2.2.2
    have hbe : min (a (7 + s)) (a (7 + t)) * imax f1 (a (7 + s)).toNat * imax f2 (a (7 + t)).toNat = bndI a s t := by
      unfold bndI
      rw [imax_cong _ e1, imax_cong _ e2]
    have hcb : PC g yX9_boundOf cX9_boundOf (iX9_boundOf 0 0) [.ref (x + 1 + 6 + 2 * w' s), .ref (x + 1 + 6 + 2 * w' t)] S (Rt (some (vl (bndI a s t))) S) := by
      rw [← hbe]
      exact c_X9_boundOf s1 s2 l1 l2 o1 o2
    have hcz : PC g yX9_sizeOf cX9_sizeOf (iX9_sizeOf 0 0) [vi kd, .ref (x + 1 + 6 + 2 * w' s), .ref (x + 1 + 6 + 2 * w' t), vi n] S (Rt (some (vi (sizI a kd s t n))) S) := c_X9_sizeOf1 s1 s2 l1 l2 hk hn hz
    obtain ⟨f, hf⟩ := Int.eq_ofNat_of_zero_le (show 0 ≤ sizI a kd s t n by omega)
    have hfin : PC g yX5_find cX5_find (iX5_find 0 0) [.ref (x + 150), .ref (x + 1), vi kd, vi (sizI a kd s t n), vl (bndI a s t)] S (fun o S' => o = .inl none ∧ ∃ ff' fE', PlS S S' (x + 150) (plT a kd s t n) ff' fE') := by
      unfold plT
      rw [hf, Int.toNat_natCast]
      exact c_X5_find (t := (ps, pl, pt)) q0 q1 q2 hb.1.pr (by omega) (by omega) hp (by omega) hk hbb
    refine PC_of pnX9 rfl rfl rfl (Nat.le_of_ble_eq_true rfl) ?_
    refine r_bud (kc' := 1) (ks' := 6) hm hm2 ?_
    refine r_aload_n dX9_transformSteps_0 (i := 0) rfl rfl (r_iload_n dX9_transformSteps_1 (i := 2) rfl rfl (r_iload_n dX9_transformSteps_2 (i := 3) rfl rfl (c_vn dX9_transformSteps_3 (c_X9_requireTerms1 hx hb.1.1 hq hl hs ht n0) rfl rfl mq_X9_requireTerms ml_X9_243 ⟨Nat.le_of_ble_eq_true rfl, Nat.le_of_ble_eq_true rfl⟩ hx rfl rfl rfl (Nat.le_of_ble_eq_true rfl) (r_aload_n dX9_transformSteps_6 (i := 0) rfl rfl ?_))))
    refine r_iload_n dX9_transformSteps_7 (i := 2) rfl rfl (c_vr dX9_transformSteps_8 (c_X9_sequenceAt1 hx hb.1.1 w3 hs hs4) rfl rfl mq_X9_sequenceAt ml_X9_177 ⟨Nat.le_of_ble_eq_true rfl, Nat.le_of_ble_eq_true rfl⟩ hx rfl rfl rfl (Nat.le_of_ble_eq_true rfl) (r_astore dX9_transformSteps_11 rfl (Nat.le_of_ble_eq_true rfl) (r_aload_n dX9_transformSteps_13 (i := 0) rfl rfl (r_iload_n dX9_transformSteps_14 (i := 3) rfl rfl ?_))))
    refine c_vr dX9_transformSteps_15 (c_X9_sequenceAt1 hx hb.1.1 w3 ht ht4) rfl rfl mq_X9_sequenceAt ml_X9_177 ⟨Nat.le_of_ble_eq_true rfl, Nat.le_of_ble_eq_true rfl⟩ hx rfl rfl rfl (Nat.le_of_ble_eq_true rfl) (r_astore dX9_transformSteps_18 rfl (Nat.le_of_ble_eq_true rfl) (r_iload_n dX9_transformSteps_20 (i := 1) rfl rfl (r_aload dX9_transformSteps_21 rfl (r_aload dX9_transformSteps_23 rfl ?_))))
    refine r_iload dX9_transformSteps_25 rfl (c_sr dX9_transformSteps_27 (hcz) rfl rfl mq_X9_sizeOf ml_X9_246 ⟨Nat.le_of_ble_eq_true rfl, Nat.le_of_ble_eq_true rfl⟩ rfl rfl (Nat.le_of_ble_eq_true rfl) (r_istore dX9_transformSteps_30 rfl (Nat.le_of_ble_eq_true rfl) (r_aload_n dX9_transformSteps_32 (i := 0) rfl rfl (r_get dX9_transformSteps_33 fl_X9_47 hx rfl ?_))))
    refine r_aload_n dX9_transformSteps_36 (i := 0) rfl rfl (r_get dX9_transformSteps_37 fl_X9_10 hx rfl (r_iload_n dX9_transformSteps_40 (i := 1) rfl rfl (r_iload dX9_transformSteps_41 rfl (r_aload dX9_transformSteps_43 rfl ?_))))
    refine r_aload dX9_transformSteps_45 rfl (c_sr dX9_transformSteps_47 (hcb) rfl rfl mq_X9_boundOf ml_X9_250 ⟨Nat.le_of_ble_eq_true rfl, Nat.le_of_ble_eq_true rfl⟩ rfl rfl (Nat.le_of_ble_eq_true rfl) ?_)
    refine c_vq dX9_transformSteps_50 (hfin) rfl rfl mq_X5_find ml_X9_262 ⟨Nat.le_of_ble_eq_true rfl, Nat.le_of_ble_eq_true rfl⟩ q0 rfl rfl rfl (Nat.le_of_ble_eq_true rfl) (fun E S' h => by simp at h) (fun v S' hq5 => ?_)
    obtain ⟨d1, ff', fE', hP⟩ := hq5
    cases d1
    have hCX := pls_cx hC hP
    have hx' := hCX.1.2.1
    have hTb := pW_bd (kd := kd) (b := bndI a s t) (w := f) hp.1 (by omega) (t := ((-1 : Int), (0 : Int), (0 : Int))) (by show -18 ≤ (-1 : Int) ∧ (-1 : Int) ≤ 100000; omega) (pCn kd f) (by unfold pCn; split <;> omega)
    have hTe : plT a kd s t n = pW a kd (bndI a s t) f (-1, 0, 0) (pCn kd f) := by
      unfold plT
      rw [hf, Int.toNat_natCast]
    rw [← hTe] at hTb
    show PW _ _ _ 53 _ [] _ _ _ _
    refine r_aload_n dX9_transformSteps_53 (i := 0) rfl rfl (r_get dX9_transformSteps_54 fl_X9_47 hx' rfl (r_get dX9_transformSteps_57 fl_X9_265 hP.1 rfl (r_iconst dX9_transformSteps_60 ?_)))
    refine r_icmp_ne 75 dX9_transformSteps_61 (by decide) (by omega) (by omega) (fun c1 => ?_) (fun c1 => ?_)
    · refine r_aload_n dX9_transformSteps_75 (i := 0) rfl rfl (r_get dX9_transformSteps_76 fl_X9_47 hx' rfl (r_get dX9_transformSteps_79 fl_X9_265 hP.1 rfl ?_))
      refine r_iret dX9_transformSteps_82 rfl rfl ?_
      exact ⟨hCX.1, hCX.2, Or.inl ⟨by unfold kSteps; rw [if_pos hr0, if_neg (by assumption)], rfl⟩⟩
    · have hke : kSteps a kd s t n = 4 := by
        unfold kSteps
        rw [if_pos hr0, if_pos (by assumption)]
      refine r_throwN (w := 3) rfl (List.mem_of_getElem? (i := 11) rfl) rfl dX9_transformSteps_64 dX9_transformSteps_67 (Or.inr ⟨rfl, dX9_transformSteps_68⟩) dX9_transformSteps_71 dX9_transformSteps_74 (Nat.le_of_ble_eq_true rfl) (Nat.le_of_ble_eq_true rfl) (by omega) (by omega) (fun z hz => ?_)
      exact ⟨hCX.1.frame (fun z hz c hc => hc) (fun z z1 z2 => rfl), ⟨hCX.2.1, Nat.le_trans hCX.2.2 hz⟩, Or.inr ⟨by omega, "java/util/NoSuchElementException", by rw [hke]; rfl, rfl⟩⟩
  · refine PC.mono (fun o S' ho => hth 3 _ o S' (by omega) rfl (by unfold kSteps; rw [ref_3 n0 hz, if_neg (by decide)]) ho) ?_
    refine PC_of pnX9 rfl rfl rfl (Nat.le_of_ble_eq_true rfl) ?_
    refine r_bud (kc' := 1) (ks' := 6) hm hm2 ?_
    refine r_aload_n dX9_transformSteps_0 (i := 0) rfl rfl (r_iload_n dX9_transformSteps_1 (i := 2) rfl rfl (r_iload_n dX9_transformSteps_2 (i := 3) rfl rfl (c_vn dX9_transformSteps_3 (c_X9_requireTerms1 hx hb.1.1 hq hl hs ht n0) rfl rfl mq_X9_requireTerms ml_X9_243 ⟨Nat.le_of_ble_eq_true rfl, Nat.le_of_ble_eq_true rfl⟩ hx rfl rfl rfl (Nat.le_of_ble_eq_true rfl) (r_aload_n dX9_transformSteps_6 (i := 0) rfl rfl ?_))))
    refine r_iload_n dX9_transformSteps_7 (i := 2) rfl rfl (c_vr dX9_transformSteps_8 (c_X9_sequenceAt1 hx hb.1.1 w3 hs hs4) rfl rfl mq_X9_sequenceAt ml_X9_177 ⟨Nat.le_of_ble_eq_true rfl, Nat.le_of_ble_eq_true rfl⟩ hx rfl rfl rfl (Nat.le_of_ble_eq_true rfl) (r_astore dX9_transformSteps_11 rfl (Nat.le_of_ble_eq_true rfl) (r_aload_n dX9_transformSteps_13 (i := 0) rfl rfl (r_iload_n dX9_transformSteps_14 (i := 3) rfl rfl ?_))))
    refine c_vr dX9_transformSteps_15 (c_X9_sequenceAt1 hx hb.1.1 w3 ht ht4) rfl rfl mq_X9_sequenceAt ml_X9_177 ⟨Nat.le_of_ble_eq_true rfl, Nat.le_of_ble_eq_true rfl⟩ hx rfl rfl rfl (Nat.le_of_ble_eq_true rfl) (r_astore dX9_transformSteps_18 rfl (Nat.le_of_ble_eq_true rfl) (r_iload_n dX9_transformSteps_20 (i := 1) rfl rfl (r_aload dX9_transformSteps_21 rfl (r_aload dX9_transformSteps_23 rfl ?_))))
    refine r_iload dX9_transformSteps_25 rfl ?_
    exact c_sx dX9_transformSteps_27 (c_X9_sizeOf0 (mc := 1) (ms := 6) s1 s2 l1 l2 hk hn hz (by omega) (by omega)) rfl mq_X9_sizeOf ml_X9_246 ⟨Nat.le_of_ble_eq_true rfl, Nat.le_of_ble_eq_true rfl⟩ rfl rfl (Nat.le_of_ble_eq_true rfl) (by show 1 ≤ 1; omega) (by show 6 ≤ 6; omega) (fun o S' ho => ⟨_, ho.1, rfl, ho.2⟩)
end FACE7

/-! the model's face: plan and transformSteps -/
section MFACE6
variable {g : GT} {S : PS} {mc ms : Nat} {Q : PO → PS → Prop} {kc ks : Nat} {m : Nat} {a : Int → Int} {fs : List Value} {km th bu sz at' be ki wr wa ea nu bs bw bt' : Int}
def mRx (S : PS) (m : Nat) (f : Int → Int → Int → Int → PE) (k : Int) (v : Value) : PO → PS → Prop := fun o S' => ∃ b1 b2 b3, mR S m (fun k => f b1 b2 b3 k) k v o S'
theorem kind_n {a : Int → Int} {kd s t n : Int} (hl : ML a) (h : refI a kd s t n = 0) : sizI a kd s t n = ((sizI a kd s t n).toNat : Int) ∧ 1 ≤ (sizI a kd s t n).toNat ∧ (sizI a kd s t n).toNat ≤ 64 := by
  have := siz_bd hl h
  omega
theorem sch_bd {a : Int → Int} (hl : ML a) {s t : Int} (hs : 0 ≤ s ∧ s ≤ 3) (ht : 0 ≤ t ∧ t ≤ 3) : 0 ≤ a (7 + s) * a (7 + t) ∧ a (7 + s) * a (7 + t) ≤ 1024 := by
  have h1 := hl.1 s hs.1 (by omega)
  have h2 := hl.1 t ht.1 (by omega)
  have h3 := Int.mul_nonneg h1.1 h2.1
  have h4 := Int.mul_le_mul h1.2 h2.2 h2.1 (by omega)
  omega
theorem c_X10_plan {kd s t n w : Int} (h : S.1 m = some (mO m km th bu sz at' be ki wr wa ea nu bs bw bt')) (ha : S.1 (m + 1) = some (cJ 215 a)) (hp : MP a) (hl : ML a) (hs : RI s) (ht : RI t) (hk : RI kd) (hn : RI n) (hw : RI w) : PC g yX10_plan cX10_plan (iX10_plan mc ms) [.ref m, vi kd, vi s, vi t, vi n, vi w] S (mRx S m (fun b1 b2 b3 k => mO m km k bu sz at' be ki wr wa ea nu b1 b2 b3) (kPlan a kd s t n w) (vi (vPlan a kd s t n w))) := by
  refine PC_of pnX10 rfl rfl rfl (Nat.le_of_ble_eq_true rfl) ?_
  have h0 := hp.1
  have hnb := refI_bd a kd s t n
  refine r_aload_n dX10_plan_0 (i := 0) rfl rfl (r_aload_n dX10_plan_1 (i := 0) rfl rfl (r_iload_n dX10_plan_2 (i := 1) rfl rfl (r_iload_n dX10_plan_3 (i := 2) rfl rfl (r_iload_n dX10_plan_4 (i := 3) rfl rfl ?_))))
  refine r_iload dX10_plan_5 rfl (c_vr dX10_plan_7 (c_X10_refusal h ha hl hs ht hk hn) rfl rfl mq_X10_refusal ml_X10_244 ⟨Nat.le_of_ble_eq_true rfl, Nat.le_of_ble_eq_true rfl⟩ h rfl rfl rfl (Nat.le_of_ble_eq_true rfl) (r_put dX10_plan_10 fl_X10_30 h rfl rfl (Nat.le_of_ble_eq_true rfl) (r_aload_n dX10_plan_13 (i := 0) rfl rfl (r_get dX10_plan_14 fl_X10_30 ps_same rfl ?_))))
  refine r_if_ne 38 dX10_plan_17 (by decide) (by omega) (fun c1 => ?_) (fun c1 => ?_)
  · refine r_aload_n dX10_plan_38 (i := 0) rfl rfl (r_get dX10_plan_39 fl_X10_30 ps_same rfl ?_)
    refine r_if_le 47 dX10_plan_42 (by decide) (by omega) (fun c2 => ?_) (fun c2 => ?_)
    · first
        | omega
        | have hr0 : refI a kd s t n = 0 := by omega
          have hz := refI_0 hr0
          obtain ⟨z1, z2, z3⟩ := kind_n hl hr0
          have hw2 : 0 ≤ w ∧ w ≤ 2 := by omega
          have hk0 : kPlan a kd s t n w = 0 := by unfold kPlan; rw [if_pos hr0, if_pos hw2]
          have hrel := pW_rel (a := a) (kd := kd) (b := bndI a s t) (w := (sizI a kd s t n).toNat) (show pRel (-1, bw, bt') (-1, 0, 0) from ⟨rfl, fun z => absurd rfl z⟩) (pCn kd (sizI a kd s t n).toNat)
          have hbd := pW_bd (a := a) (kd := kd) (b := bndI a s t) (w := (sizI a kd s t n).toNat) (t := (-1, bw, bt')) h0 z2 ⟨by show -18 ≤ (-1 : Int); decide, by show (-1 : Int) ≤ 100000; decide⟩ (pCn kd (sizI a kd s t n).toNat) (by unfold pCn; split <;> omega)
          have hT : pW a kd (bndI a s t) (sizI a kd s t n).toNat (-1, 0, 0) (pCn kd (sizI a kd s t n).toNat) = plT a kd s t n := rfl
          have hlay := fun th0 (S0 : PS) ho ha0 => c_X10_laysPlans (g := g) (mc := 0) (ms := 0) (S := S0) (m := m) (a := a) (km := km) (th := th0) (bu := bu) (sz := sz) (at' := at') (be := be) (ki := ki) (wr := wr) (wa := wa) (ea := ea) (nu := nu) (bs := bs) (bw := bw) (bt' := bt') (kd := kd) (s := s) (t := t) (n4 := n) ho ha0 hp hl hk hz.1.1.1 hz.1.1.2 ⟨z2, z3⟩ z1
          have hsc := sch_bd hl hz.1.1.1 hz.1.1.2
          rw [hT] at hrel
          generalize pW a kd (bndI a s t) (sizI a kd s t n).toNat (-1, bw, bt') (pCn kd (sizI a kd s t n).toNat) = T at *
          obtain ⟨T1, T2, T3⟩ := T
          obtain ⟨hr1, hr2⟩ := hrel
          have hv : vPlan a kd s t n w = if b2c (byS a s t (plT a kd s t n)) = 1 then (if w = 0 then a (7 + s) * a (7 + t) else 0) else (if w = 0 then (plT a kd s t n).1 else if w = 1 then (plT a kd s t n).2.1 else (plT a kd s t n).2.2) := rfl
          generalize plT a kd s t n = T0 at *
          obtain ⟨U1, U2, U3⟩ := T0
          have hr1' : T1 = U1 := hr1
          subst hr1'
          have hb1 : -18 ≤ T1 ∧ T1 ≤ 100000 := hbd
          have hyes : T1 = -1 ∨ a (7 + s) * a (7 + t) ≤ T1 → vPlan a kd s t n w = if w = 0 then a (7 + s) * a (7 + t) else 0 := fun z => by
            rw [hv, b2c_t (show byS a s t (T1, U2, U3) from z), if_pos rfl]
          have hnot : ¬ (T1 = -1 ∨ a (7 + s) * a (7 + t) ≤ T1) → vPlan a kd s t n w = if w = 0 then T1 else if w = 1 then T2 else T3 := fun z => by
            have e := hr2 (show T1 ≠ -1 by omega)
            rw [hv, b2c_f (show ¬ byS a s t (T1, U2, U3) from z), if_neg (by decide), ← e]
          refine r_aload_n dX10_plan_47 (i := 0) rfl rfl (r_iload_n dX10_plan_48 (i := 1) rfl rfl (r_iload_n dX10_plan_49 (i := 2) rfl rfl (r_iload_n dX10_plan_50 (i := 3) rfl rfl (r_iload dX10_plan_51 rfl ?_))))
          refine c_vn dX10_plan_53 (hlay _ _ ps_same (ps_ne (by omega) ha)) rfl rfl mq_X10_laysPlans ml_X10_285 ⟨Nat.le_of_ble_eq_true rfl, Nat.le_of_ble_eq_true rfl⟩ ps_same rfl rfl rfl (Nat.le_of_ble_eq_true rfl) (r_aload_n dX10_plan_56 (i := 0) rfl rfl (r_iload_n dX10_plan_57 (i := 2) rfl rfl (c_vr dX10_plan_58 (c_X10_longOf ps_same (ps_ne (by omega) (ps_ne (by omega) ha)) (by omega)) rfl rfl mq_X10_longOf ml_X10_194 ⟨Nat.le_of_ble_eq_true rfl, Nat.le_of_ble_eq_true rfl⟩ ps_same rfl rfl rfl (Nat.le_of_ble_eq_true rfl) (r_aload_n dX10_plan_61 (i := 0) rfl rfl ?_))))
          refine r_iload_n dX10_plan_62 (i := 3) rfl rfl (c_vr dX10_plan_63 (c_X10_longOf ps_same (ps_ne (by omega) (ps_ne (by omega) ha)) (by omega)) rfl rfl mq_X10_longOf ml_X10_194 ⟨Nat.le_of_ble_eq_true rfl, Nat.le_of_ble_eq_true rfl⟩ ps_same rfl rfl rfl (Nat.le_of_ble_eq_true rfl) (r_imul dX10_plan_66 (r_istore dX10_plan_67 rfl (Nat.le_of_ble_eq_true rfl) (r_aload_n dX10_plan_69 (i := 0) rfl rfl ?_))))
          refine r_get dX10_plan_70 fl_X10_273 ps_same rfl (r_iconst dX10_plan_73 ?_)
          refine r_icmp_eq 86 dX10_plan_74 (by decide) (by omega) (by omega) (fun c1 => ?_) (fun c1 => ?_)
          · refine r_iconst dX10_plan_86 (r_goto 91 dX10_plan_87 (by decide) (r_istore dX10_plan_91 rfl (Nat.le_of_ble_eq_true rfl) (r_iload dX10_plan_93 rfl ?_)))
            have c2 : w = 0 ∨ w = 1 ∨ w = 2 := by omega
            rcases c2 with c2 | c2 | c2
            · refine r_lookup 120 dX10_plan_95 ⟨by omega, by omega⟩ (by decide) (by rw [c2] <;> rfl) (by decide) ?_
              refine r_iload dX10_plan_120 rfl ?_
              refine r_if_eq 130 dX10_plan_122 (by decide) (by omega) (fun c3 => ?_) (fun c3 => ?_)
              · omega
              · refine r_iload dX10_plan_125 rfl (r_goto 134 dX10_plan_127 (by decide) ?_)
                refine r_iret dX10_plan_134 rfl rfl ?_
                first
                  | omega
                  | (rw [ps_put_put]; refine ⟨T1, T2, T3, mR_0 (k' := refI a kd s t n) (by rw [hk0, hr0]) ?_⟩; rw [hyes (by omega)]; first | rw [if_pos (by omega)] | rw [if_neg (by omega)])
                  | (rw [ps_put_put]; refine ⟨T1, T2, T3, mR_0 (k' := refI a kd s t n) (by rw [hk0, hr0]) ?_⟩; rw [hnot (by omega)]; first | rw [if_pos (by omega)] | rw [if_neg (by omega), if_pos (by omega)] | rw [if_neg (by omega), if_neg (by omega)])
            · refine r_lookup 135 dX10_plan_95 ⟨by omega, by omega⟩ (by decide) (by rw [c2] <;> rfl) (by decide) ?_
              refine r_iload dX10_plan_135 rfl ?_
              refine r_if_eq 144 dX10_plan_137 (by decide) (by omega) (fun c4 => ?_) (fun c4 => ?_)
              · omega
              · refine r_iconst dX10_plan_140 (r_goto 148 dX10_plan_141 (by decide) ?_)
                refine r_iret dX10_plan_148 rfl rfl ?_
                first
                  | omega
                  | (rw [ps_put_put]; refine ⟨T1, T2, T3, mR_0 (k' := refI a kd s t n) (by rw [hk0, hr0]) ?_⟩; rw [hyes (by omega)]; first | rw [if_pos (by omega)] | rw [if_neg (by omega)])
                  | (rw [ps_put_put]; refine ⟨T1, T2, T3, mR_0 (k' := refI a kd s t n) (by rw [hk0, hr0]) ?_⟩; rw [hnot (by omega)]; first | rw [if_pos (by omega)] | rw [if_neg (by omega), if_pos (by omega)] | rw [if_neg (by omega), if_neg (by omega)])
            · refine r_lookup 149 dX10_plan_95 ⟨by omega, by omega⟩ (by decide) (by rw [c2] <;> rfl) (by decide) ?_
              refine r_iload dX10_plan_149 rfl ?_
              refine r_if_eq 158 dX10_plan_151 (by decide) (by omega) (fun c5 => ?_) (fun c5 => ?_)
              · omega
              · refine r_iconst dX10_plan_154 (r_goto 162 dX10_plan_155 (by decide) ?_)
                refine r_iret dX10_plan_162 rfl rfl ?_
                first
                  | omega
                  | (rw [ps_put_put]; refine ⟨T1, T2, T3, mR_0 (k' := refI a kd s t n) (by rw [hk0, hr0]) ?_⟩; rw [hyes (by omega)]; first | rw [if_pos (by omega)] | rw [if_neg (by omega)])
                  | (rw [ps_put_put]; refine ⟨T1, T2, T3, mR_0 (k' := refI a kd s t n) (by rw [hk0, hr0]) ?_⟩; rw [hnot (by omega)]; first | rw [if_pos (by omega)] | rw [if_neg (by omega), if_pos (by omega)] | rw [if_neg (by omega), if_neg (by omega)])
          · refine r_iload dX10_plan_77 rfl (r_aload_n dX10_plan_79 (i := 0) rfl rfl (r_get dX10_plan_80 fl_X10_273 ps_same rfl ?_))
            refine r_icmp_gt 90 dX10_plan_83 (by decide) (by omega) (by omega) (fun c6 => ?_) (fun c6 => ?_)
            · refine r_iconst dX10_plan_90 (r_istore dX10_plan_91 rfl (Nat.le_of_ble_eq_true rfl) (r_iload dX10_plan_93 rfl ?_))
              have c7 : w = 0 ∨ w = 1 ∨ w = 2 := by omega
              rcases c7 with c7 | c7 | c7
              · refine r_lookup 120 dX10_plan_95 ⟨by omega, by omega⟩ (by decide) (by rw [c7] <;> rfl) (by decide) ?_
                refine r_iload dX10_plan_120 rfl ?_
                refine r_if_eq 130 dX10_plan_122 (by decide) (by omega) (fun c8 => ?_) (fun c8 => ?_)
                · refine r_aload_n dX10_plan_130 (i := 0) rfl rfl (r_get dX10_plan_131 fl_X10_273 ps_same rfl ?_)
                  refine r_iret dX10_plan_134 rfl rfl ?_
                  first
                    | omega
                    | (rw [ps_put_put]; refine ⟨T1, T2, T3, mR_0 (k' := refI a kd s t n) (by rw [hk0, hr0]) ?_⟩; rw [hyes (by omega)]; first | rw [if_pos (by omega)] | rw [if_neg (by omega)])
                    | (rw [ps_put_put]; refine ⟨T1, T2, T3, mR_0 (k' := refI a kd s t n) (by rw [hk0, hr0]) ?_⟩; rw [hnot (by omega)]; first | rw [if_pos (by omega)] | rw [if_neg (by omega), if_pos (by omega)] | rw [if_neg (by omega), if_neg (by omega)])
                · omega
              · refine r_lookup 135 dX10_plan_95 ⟨by omega, by omega⟩ (by decide) (by rw [c7] <;> rfl) (by decide) ?_
                refine r_iload dX10_plan_135 rfl ?_
                refine r_if_eq 144 dX10_plan_137 (by decide) (by omega) (fun c9 => ?_) (fun c9 => ?_)
                · refine r_aload_n dX10_plan_144 (i := 0) rfl rfl (r_get dX10_plan_145 fl_X10_279 ps_same rfl ?_)
                  refine r_iret dX10_plan_148 rfl rfl ?_
                  first
                    | omega
                    | (rw [ps_put_put]; refine ⟨T1, T2, T3, mR_0 (k' := refI a kd s t n) (by rw [hk0, hr0]) ?_⟩; rw [hyes (by omega)]; first | rw [if_pos (by omega)] | rw [if_neg (by omega)])
                    | (rw [ps_put_put]; refine ⟨T1, T2, T3, mR_0 (k' := refI a kd s t n) (by rw [hk0, hr0]) ?_⟩; rw [hnot (by omega)]; first | rw [if_pos (by omega)] | rw [if_neg (by omega), if_pos (by omega)] | rw [if_neg (by omega), if_neg (by omega)])
                · omega
              · refine r_lookup 149 dX10_plan_95 ⟨by omega, by omega⟩ (by decide) (by rw [c7] <;> rfl) (by decide) ?_
                refine r_iload dX10_plan_149 rfl ?_
                refine r_if_eq 158 dX10_plan_151 (by decide) (by omega) (fun c10 => ?_) (fun c10 => ?_)
                · refine r_aload_n dX10_plan_158 (i := 0) rfl rfl (r_get dX10_plan_159 fl_X10_282 ps_same rfl ?_)
                  refine r_iret dX10_plan_162 rfl rfl ?_
                  first
                    | omega
                    | (rw [ps_put_put]; refine ⟨T1, T2, T3, mR_0 (k' := refI a kd s t n) (by rw [hk0, hr0]) ?_⟩; rw [hyes (by omega)]; first | rw [if_pos (by omega)] | rw [if_neg (by omega)])
                    | (rw [ps_put_put]; refine ⟨T1, T2, T3, mR_0 (k' := refI a kd s t n) (by rw [hk0, hr0]) ?_⟩; rw [hnot (by omega)]; first | rw [if_pos (by omega)] | rw [if_neg (by omega), if_pos (by omega)] | rw [if_neg (by omega), if_neg (by omega)])
                · omega
            · refine r_iconst dX10_plan_86 (r_goto 91 dX10_plan_87 (by decide) (r_istore dX10_plan_91 rfl (Nat.le_of_ble_eq_true rfl) (r_iload dX10_plan_93 rfl ?_)))
              have c11 : w = 0 ∨ w = 1 ∨ w = 2 := by omega
              rcases c11 with c11 | c11 | c11
              · refine r_lookup 120 dX10_plan_95 ⟨by omega, by omega⟩ (by decide) (by rw [c11] <;> rfl) (by decide) ?_
                refine r_iload dX10_plan_120 rfl ?_
                refine r_if_eq 130 dX10_plan_122 (by decide) (by omega) (fun c12 => ?_) (fun c12 => ?_)
                · omega
                · refine r_iload dX10_plan_125 rfl (r_goto 134 dX10_plan_127 (by decide) ?_)
                  refine r_iret dX10_plan_134 rfl rfl ?_
                  first
                    | omega
                    | (rw [ps_put_put]; refine ⟨T1, T2, T3, mR_0 (k' := refI a kd s t n) (by rw [hk0, hr0]) ?_⟩; rw [hyes (by omega)]; first | rw [if_pos (by omega)] | rw [if_neg (by omega)])
                    | (rw [ps_put_put]; refine ⟨T1, T2, T3, mR_0 (k' := refI a kd s t n) (by rw [hk0, hr0]) ?_⟩; rw [hnot (by omega)]; first | rw [if_pos (by omega)] | rw [if_neg (by omega), if_pos (by omega)] | rw [if_neg (by omega), if_neg (by omega)])
              · refine r_lookup 135 dX10_plan_95 ⟨by omega, by omega⟩ (by decide) (by rw [c11] <;> rfl) (by decide) ?_
                refine r_iload dX10_plan_135 rfl ?_
                refine r_if_eq 144 dX10_plan_137 (by decide) (by omega) (fun c13 => ?_) (fun c13 => ?_)
                · omega
                · refine r_iconst dX10_plan_140 (r_goto 148 dX10_plan_141 (by decide) ?_)
                  refine r_iret dX10_plan_148 rfl rfl ?_
                  first
                    | omega
                    | (rw [ps_put_put]; refine ⟨T1, T2, T3, mR_0 (k' := refI a kd s t n) (by rw [hk0, hr0]) ?_⟩; rw [hyes (by omega)]; first | rw [if_pos (by omega)] | rw [if_neg (by omega)])
                    | (rw [ps_put_put]; refine ⟨T1, T2, T3, mR_0 (k' := refI a kd s t n) (by rw [hk0, hr0]) ?_⟩; rw [hnot (by omega)]; first | rw [if_pos (by omega)] | rw [if_neg (by omega), if_pos (by omega)] | rw [if_neg (by omega), if_neg (by omega)])
              · refine r_lookup 149 dX10_plan_95 ⟨by omega, by omega⟩ (by decide) (by rw [c11] <;> rfl) (by decide) ?_
                refine r_iload dX10_plan_149 rfl ?_
                refine r_if_eq 158 dX10_plan_151 (by decide) (by omega) (fun c14 => ?_) (fun c14 => ?_)
                · omega
                · refine r_iconst dX10_plan_154 (r_goto 162 dX10_plan_155 (by decide) ?_)
                  refine r_iret dX10_plan_162 rfl rfl ?_
                  first
                    | omega
                    | (rw [ps_put_put]; refine ⟨T1, T2, T3, mR_0 (k' := refI a kd s t n) (by rw [hk0, hr0]) ?_⟩; rw [hyes (by omega)]; first | rw [if_pos (by omega)] | rw [if_neg (by omega)])
                    | (rw [ps_put_put]; refine ⟨T1, T2, T3, mR_0 (k' := refI a kd s t n) (by rw [hk0, hr0]) ?_⟩; rw [hnot (by omega)]; first | rw [if_pos (by omega)] | rw [if_neg (by omega), if_pos (by omega)] | rw [if_neg (by omega), if_neg (by omega)])
    · refine r_iconst dX10_plan_45 ?_
      refine r_iret dX10_plan_46 rfl rfl ?_
      first
        | omega
        | exact ⟨bs, bw, bt', mR_t (k' := refI a kd s t n) (by unfold kPlan; rw [if_neg (by omega)]) (by omega)⟩
        | (rw [ps_put_put]; exact ⟨bs, bw, bt', mR_t (by unfold kPlan; rw [if_pos (by omega), if_neg (by omega)]) (by decide)⟩)
  · refine r_iload dX10_plan_20 rfl (r_i2l dX10_plan_22 (by omega) (r_lconst (z := 0) dX10_plan_23 (by decide) (r_ldc2 dX10_plan_24 csj_X10_151 (c_sr dX10_plan_27 (c_X10_isIn ⟨by omega, by omega⟩ ⟨by omega, by omega⟩ ⟨by omega, by omega⟩) rfl rfl mq_X10_isIn ml_X10_46 ⟨Nat.le_of_ble_eq_true rfl, Nat.le_of_ble_eq_true rfl⟩ rfl rfl (Nat.le_of_ble_eq_true rfl) ?_))))
    refine r_if_ne 38 dX10_plan_30 (by decide) b2i_RI (fun c3 => ?_) (fun c3 => ?_)
    · replace c3 := b2i_ne c3
      refine r_aload_n dX10_plan_38 (i := 0) rfl rfl (r_get dX10_plan_39 fl_X10_30 ps_same rfl ?_)
      refine r_if_le 47 dX10_plan_42 (by decide) (by omega) (fun c4 => ?_) (fun c4 => ?_)
      · first
          | omega
          | have hr0 : refI a kd s t n = 0 := by omega
            have hz := refI_0 hr0
            obtain ⟨z1, z2, z3⟩ := kind_n hl hr0
            have hw2 : 0 ≤ w ∧ w ≤ 2 := by omega
            have hk0 : kPlan a kd s t n w = 0 := by unfold kPlan; rw [if_pos hr0, if_pos hw2]
            have hrel := pW_rel (a := a) (kd := kd) (b := bndI a s t) (w := (sizI a kd s t n).toNat) (show pRel (-1, bw, bt') (-1, 0, 0) from ⟨rfl, fun z => absurd rfl z⟩) (pCn kd (sizI a kd s t n).toNat)
            have hbd := pW_bd (a := a) (kd := kd) (b := bndI a s t) (w := (sizI a kd s t n).toNat) (t := (-1, bw, bt')) h0 z2 ⟨by show -18 ≤ (-1 : Int); decide, by show (-1 : Int) ≤ 100000; decide⟩ (pCn kd (sizI a kd s t n).toNat) (by unfold pCn; split <;> omega)
            have hT : pW a kd (bndI a s t) (sizI a kd s t n).toNat (-1, 0, 0) (pCn kd (sizI a kd s t n).toNat) = plT a kd s t n := rfl
            have hlay := fun th0 (S0 : PS) ho ha0 => c_X10_laysPlans (g := g) (mc := 0) (ms := 0) (S := S0) (m := m) (a := a) (km := km) (th := th0) (bu := bu) (sz := sz) (at' := at') (be := be) (ki := ki) (wr := wr) (wa := wa) (ea := ea) (nu := nu) (bs := bs) (bw := bw) (bt' := bt') (kd := kd) (s := s) (t := t) (n4 := n) ho ha0 hp hl hk hz.1.1.1 hz.1.1.2 ⟨z2, z3⟩ z1
            have hsc := sch_bd hl hz.1.1.1 hz.1.1.2
            rw [hT] at hrel
            generalize pW a kd (bndI a s t) (sizI a kd s t n).toNat (-1, bw, bt') (pCn kd (sizI a kd s t n).toNat) = T at *
            obtain ⟨T1, T2, T3⟩ := T
            obtain ⟨hr1, hr2⟩ := hrel
            have hv : vPlan a kd s t n w = if b2c (byS a s t (plT a kd s t n)) = 1 then (if w = 0 then a (7 + s) * a (7 + t) else 0) else (if w = 0 then (plT a kd s t n).1 else if w = 1 then (plT a kd s t n).2.1 else (plT a kd s t n).2.2) := rfl
            generalize plT a kd s t n = T0 at *
            obtain ⟨U1, U2, U3⟩ := T0
            have hr1' : T1 = U1 := hr1
            subst hr1'
            have hb1 : -18 ≤ T1 ∧ T1 ≤ 100000 := hbd
            have hyes : T1 = -1 ∨ a (7 + s) * a (7 + t) ≤ T1 → vPlan a kd s t n w = if w = 0 then a (7 + s) * a (7 + t) else 0 := fun z => by
              rw [hv, b2c_t (show byS a s t (T1, U2, U3) from z), if_pos rfl]
            have hnot : ¬ (T1 = -1 ∨ a (7 + s) * a (7 + t) ≤ T1) → vPlan a kd s t n w = if w = 0 then T1 else if w = 1 then T2 else T3 := fun z => by
              have e := hr2 (show T1 ≠ -1 by omega)
              rw [hv, b2c_f (show ¬ byS a s t (T1, U2, U3) from z), if_neg (by decide), ← e]
            refine r_aload_n dX10_plan_47 (i := 0) rfl rfl (r_iload_n dX10_plan_48 (i := 1) rfl rfl (r_iload_n dX10_plan_49 (i := 2) rfl rfl (r_iload_n dX10_plan_50 (i := 3) rfl rfl (r_iload dX10_plan_51 rfl ?_))))
            refine c_vn dX10_plan_53 (hlay _ _ ps_same (ps_ne (by omega) ha)) rfl rfl mq_X10_laysPlans ml_X10_285 ⟨Nat.le_of_ble_eq_true rfl, Nat.le_of_ble_eq_true rfl⟩ ps_same rfl rfl rfl (Nat.le_of_ble_eq_true rfl) (r_aload_n dX10_plan_56 (i := 0) rfl rfl (r_iload_n dX10_plan_57 (i := 2) rfl rfl (c_vr dX10_plan_58 (c_X10_longOf ps_same (ps_ne (by omega) (ps_ne (by omega) ha)) (by omega)) rfl rfl mq_X10_longOf ml_X10_194 ⟨Nat.le_of_ble_eq_true rfl, Nat.le_of_ble_eq_true rfl⟩ ps_same rfl rfl rfl (Nat.le_of_ble_eq_true rfl) (r_aload_n dX10_plan_61 (i := 0) rfl rfl ?_))))
            refine r_iload_n dX10_plan_62 (i := 3) rfl rfl (c_vr dX10_plan_63 (c_X10_longOf ps_same (ps_ne (by omega) (ps_ne (by omega) ha)) (by omega)) rfl rfl mq_X10_longOf ml_X10_194 ⟨Nat.le_of_ble_eq_true rfl, Nat.le_of_ble_eq_true rfl⟩ ps_same rfl rfl rfl (Nat.le_of_ble_eq_true rfl) (r_imul dX10_plan_66 (r_istore dX10_plan_67 rfl (Nat.le_of_ble_eq_true rfl) (r_aload_n dX10_plan_69 (i := 0) rfl rfl ?_))))
            refine r_get dX10_plan_70 fl_X10_273 ps_same rfl (r_iconst dX10_plan_73 ?_)
            refine r_icmp_eq 86 dX10_plan_74 (by decide) (by omega) (by omega) (fun c1 => ?_) (fun c1 => ?_)
            · refine r_iconst dX10_plan_86 (r_goto 91 dX10_plan_87 (by decide) (r_istore dX10_plan_91 rfl (Nat.le_of_ble_eq_true rfl) (r_iload dX10_plan_93 rfl ?_)))
              have c2 : w = 0 ∨ w = 1 ∨ w = 2 := by omega
              rcases c2 with c2 | c2 | c2
              · refine r_lookup 120 dX10_plan_95 ⟨by omega, by omega⟩ (by decide) (by rw [c2] <;> rfl) (by decide) ?_
                refine r_iload dX10_plan_120 rfl ?_
                refine r_if_eq 130 dX10_plan_122 (by decide) (by omega) (fun c3 => ?_) (fun c3 => ?_)
                · omega
                · refine r_iload dX10_plan_125 rfl (r_goto 134 dX10_plan_127 (by decide) ?_)
                  refine r_iret dX10_plan_134 rfl rfl ?_
                  first
                    | omega
                    | (rw [ps_put_put]; refine ⟨T1, T2, T3, mR_0 (k' := refI a kd s t n) (by rw [hk0, hr0]) ?_⟩; rw [hyes (by omega)]; first | rw [if_pos (by omega)] | rw [if_neg (by omega)])
                    | (rw [ps_put_put]; refine ⟨T1, T2, T3, mR_0 (k' := refI a kd s t n) (by rw [hk0, hr0]) ?_⟩; rw [hnot (by omega)]; first | rw [if_pos (by omega)] | rw [if_neg (by omega), if_pos (by omega)] | rw [if_neg (by omega), if_neg (by omega)])
              · refine r_lookup 135 dX10_plan_95 ⟨by omega, by omega⟩ (by decide) (by rw [c2] <;> rfl) (by decide) ?_
                refine r_iload dX10_plan_135 rfl ?_
                refine r_if_eq 144 dX10_plan_137 (by decide) (by omega) (fun c4 => ?_) (fun c4 => ?_)
                · omega
                · refine r_iconst dX10_plan_140 (r_goto 148 dX10_plan_141 (by decide) ?_)
                  refine r_iret dX10_plan_148 rfl rfl ?_
                  first
                    | omega
                    | (rw [ps_put_put]; refine ⟨T1, T2, T3, mR_0 (k' := refI a kd s t n) (by rw [hk0, hr0]) ?_⟩; rw [hyes (by omega)]; first | rw [if_pos (by omega)] | rw [if_neg (by omega)])
                    | (rw [ps_put_put]; refine ⟨T1, T2, T3, mR_0 (k' := refI a kd s t n) (by rw [hk0, hr0]) ?_⟩; rw [hnot (by omega)]; first | rw [if_pos (by omega)] | rw [if_neg (by omega), if_pos (by omega)] | rw [if_neg (by omega), if_neg (by omega)])
              · refine r_lookup 149 dX10_plan_95 ⟨by omega, by omega⟩ (by decide) (by rw [c2] <;> rfl) (by decide) ?_
                refine r_iload dX10_plan_149 rfl ?_
                refine r_if_eq 158 dX10_plan_151 (by decide) (by omega) (fun c5 => ?_) (fun c5 => ?_)
                · omega
                · refine r_iconst dX10_plan_154 (r_goto 162 dX10_plan_155 (by decide) ?_)
                  refine r_iret dX10_plan_162 rfl rfl ?_
                  first
                    | omega
                    | (rw [ps_put_put]; refine ⟨T1, T2, T3, mR_0 (k' := refI a kd s t n) (by rw [hk0, hr0]) ?_⟩; rw [hyes (by omega)]; first | rw [if_pos (by omega)] | rw [if_neg (by omega)])
                    | (rw [ps_put_put]; refine ⟨T1, T2, T3, mR_0 (k' := refI a kd s t n) (by rw [hk0, hr0]) ?_⟩; rw [hnot (by omega)]; first | rw [if_pos (by omega)] | rw [if_neg (by omega), if_pos (by omega)] | rw [if_neg (by omega), if_neg (by omega)])
            · refine r_iload dX10_plan_77 rfl (r_aload_n dX10_plan_79 (i := 0) rfl rfl (r_get dX10_plan_80 fl_X10_273 ps_same rfl ?_))
              refine r_icmp_gt 90 dX10_plan_83 (by decide) (by omega) (by omega) (fun c6 => ?_) (fun c6 => ?_)
              · refine r_iconst dX10_plan_90 (r_istore dX10_plan_91 rfl (Nat.le_of_ble_eq_true rfl) (r_iload dX10_plan_93 rfl ?_))
                have c7 : w = 0 ∨ w = 1 ∨ w = 2 := by omega
                rcases c7 with c7 | c7 | c7
                · refine r_lookup 120 dX10_plan_95 ⟨by omega, by omega⟩ (by decide) (by rw [c7] <;> rfl) (by decide) ?_
                  refine r_iload dX10_plan_120 rfl ?_
                  refine r_if_eq 130 dX10_plan_122 (by decide) (by omega) (fun c8 => ?_) (fun c8 => ?_)
                  · refine r_aload_n dX10_plan_130 (i := 0) rfl rfl (r_get dX10_plan_131 fl_X10_273 ps_same rfl ?_)
                    refine r_iret dX10_plan_134 rfl rfl ?_
                    first
                      | omega
                      | (rw [ps_put_put]; refine ⟨T1, T2, T3, mR_0 (k' := refI a kd s t n) (by rw [hk0, hr0]) ?_⟩; rw [hyes (by omega)]; first | rw [if_pos (by omega)] | rw [if_neg (by omega)])
                      | (rw [ps_put_put]; refine ⟨T1, T2, T3, mR_0 (k' := refI a kd s t n) (by rw [hk0, hr0]) ?_⟩; rw [hnot (by omega)]; first | rw [if_pos (by omega)] | rw [if_neg (by omega), if_pos (by omega)] | rw [if_neg (by omega), if_neg (by omega)])
                  · omega
                · refine r_lookup 135 dX10_plan_95 ⟨by omega, by omega⟩ (by decide) (by rw [c7] <;> rfl) (by decide) ?_
                  refine r_iload dX10_plan_135 rfl ?_
                  refine r_if_eq 144 dX10_plan_137 (by decide) (by omega) (fun c9 => ?_) (fun c9 => ?_)
                  · refine r_aload_n dX10_plan_144 (i := 0) rfl rfl (r_get dX10_plan_145 fl_X10_279 ps_same rfl ?_)
                    refine r_iret dX10_plan_148 rfl rfl ?_
                    first
                      | omega
                      | (rw [ps_put_put]; refine ⟨T1, T2, T3, mR_0 (k' := refI a kd s t n) (by rw [hk0, hr0]) ?_⟩; rw [hyes (by omega)]; first | rw [if_pos (by omega)] | rw [if_neg (by omega)])
                      | (rw [ps_put_put]; refine ⟨T1, T2, T3, mR_0 (k' := refI a kd s t n) (by rw [hk0, hr0]) ?_⟩; rw [hnot (by omega)]; first | rw [if_pos (by omega)] | rw [if_neg (by omega), if_pos (by omega)] | rw [if_neg (by omega), if_neg (by omega)])
                  · omega
                · refine r_lookup 149 dX10_plan_95 ⟨by omega, by omega⟩ (by decide) (by rw [c7] <;> rfl) (by decide) ?_
                  refine r_iload dX10_plan_149 rfl ?_
                  refine r_if_eq 158 dX10_plan_151 (by decide) (by omega) (fun c10 => ?_) (fun c10 => ?_)
                  · refine r_aload_n dX10_plan_158 (i := 0) rfl rfl (r_get dX10_plan_159 fl_X10_282 ps_same rfl ?_)
                    refine r_iret dX10_plan_162 rfl rfl ?_
                    first
                      | omega
                      | (rw [ps_put_put]; refine ⟨T1, T2, T3, mR_0 (k' := refI a kd s t n) (by rw [hk0, hr0]) ?_⟩; rw [hyes (by omega)]; first | rw [if_pos (by omega)] | rw [if_neg (by omega)])
                      | (rw [ps_put_put]; refine ⟨T1, T2, T3, mR_0 (k' := refI a kd s t n) (by rw [hk0, hr0]) ?_⟩; rw [hnot (by omega)]; first | rw [if_pos (by omega)] | rw [if_neg (by omega), if_pos (by omega)] | rw [if_neg (by omega), if_neg (by omega)])
                  · omega
              · refine r_iconst dX10_plan_86 (r_goto 91 dX10_plan_87 (by decide) (r_istore dX10_plan_91 rfl (Nat.le_of_ble_eq_true rfl) (r_iload dX10_plan_93 rfl ?_)))
                have c11 : w = 0 ∨ w = 1 ∨ w = 2 := by omega
                rcases c11 with c11 | c11 | c11
                · refine r_lookup 120 dX10_plan_95 ⟨by omega, by omega⟩ (by decide) (by rw [c11] <;> rfl) (by decide) ?_
                  refine r_iload dX10_plan_120 rfl ?_
                  refine r_if_eq 130 dX10_plan_122 (by decide) (by omega) (fun c12 => ?_) (fun c12 => ?_)
                  · omega
                  · refine r_iload dX10_plan_125 rfl (r_goto 134 dX10_plan_127 (by decide) ?_)
                    refine r_iret dX10_plan_134 rfl rfl ?_
                    first
                      | omega
                      | (rw [ps_put_put]; refine ⟨T1, T2, T3, mR_0 (k' := refI a kd s t n) (by rw [hk0, hr0]) ?_⟩; rw [hyes (by omega)]; first | rw [if_pos (by omega)] | rw [if_neg (by omega)])
                      | (rw [ps_put_put]; refine ⟨T1, T2, T3, mR_0 (k' := refI a kd s t n) (by rw [hk0, hr0]) ?_⟩; rw [hnot (by omega)]; first | rw [if_pos (by omega)] | rw [if_neg (by omega), if_pos (by omega)] | rw [if_neg (by omega), if_neg (by omega)])
                · refine r_lookup 135 dX10_plan_95 ⟨by omega, by omega⟩ (by decide) (by rw [c11] <;> rfl) (by decide) ?_
                  refine r_iload dX10_plan_135 rfl ?_
                  refine r_if_eq 144 dX10_plan_137 (by decide) (by omega) (fun c13 => ?_) (fun c13 => ?_)
                  · omega
                  · refine r_iconst dX10_plan_140 (r_goto 148 dX10_plan_141 (by decide) ?_)
                    refine r_iret dX10_plan_148 rfl rfl ?_
                    first
                      | omega
                      | (rw [ps_put_put]; refine ⟨T1, T2, T3, mR_0 (k' := refI a kd s t n) (by rw [hk0, hr0]) ?_⟩; rw [hyes (by omega)]; first | rw [if_pos (by omega)] | rw [if_neg (by omega)])
                      | (rw [ps_put_put]; refine ⟨T1, T2, T3, mR_0 (k' := refI a kd s t n) (by rw [hk0, hr0]) ?_⟩; rw [hnot (by omega)]; first | rw [if_pos (by omega)] | rw [if_neg (by omega), if_pos (by omega)] | rw [if_neg (by omega), if_neg (by omega)])
                · refine r_lookup 149 dX10_plan_95 ⟨by omega, by omega⟩ (by decide) (by rw [c11] <;> rfl) (by decide) ?_
                  refine r_iload dX10_plan_149 rfl ?_
                  refine r_if_eq 158 dX10_plan_151 (by decide) (by omega) (fun c14 => ?_) (fun c14 => ?_)
                  · omega
                  · refine r_iconst dX10_plan_154 (r_goto 162 dX10_plan_155 (by decide) ?_)
                    refine r_iret dX10_plan_162 rfl rfl ?_
                    first
                      | omega
                      | (rw [ps_put_put]; refine ⟨T1, T2, T3, mR_0 (k' := refI a kd s t n) (by rw [hk0, hr0]) ?_⟩; rw [hyes (by omega)]; first | rw [if_pos (by omega)] | rw [if_neg (by omega)])
                      | (rw [ps_put_put]; refine ⟨T1, T2, T3, mR_0 (k' := refI a kd s t n) (by rw [hk0, hr0]) ?_⟩; rw [hnot (by omega)]; first | rw [if_pos (by omega)] | rw [if_neg (by omega), if_pos (by omega)] | rw [if_neg (by omega), if_neg (by omega)])
      · refine r_iconst dX10_plan_45 ?_
        refine r_iret dX10_plan_46 rfl rfl ?_
        first
          | omega
          | exact ⟨bs, bw, bt', mR_t (k' := refI a kd s t n) (by unfold kPlan; rw [if_neg (by omega)]) (by omega)⟩
          | (rw [ps_put_put]; exact ⟨bs, bw, bt', mR_t (by unfold kPlan; rw [if_pos (by omega), if_neg (by omega)]) (by decide)⟩)
    · replace c3 := b2i_eq c3
      refine r_aload_n dX10_plan_33 (i := 0) rfl rfl (r_iconst dX10_plan_34 (r_put dX10_plan_35 fl_X10_30 ps_same rfl rfl (Nat.le_of_ble_eq_true rfl) (r_aload_n dX10_plan_38 (i := 0) rfl rfl (r_get dX10_plan_39 fl_X10_30 ps_same rfl ?_))))
      refine r_if_le 47 dX10_plan_42 (by decide) (by omega) (fun c5 => ?_) (fun c5 => ?_)
      · omega
      · refine r_iconst dX10_plan_45 ?_
        refine r_iret dX10_plan_46 rfl rfl ?_
        first
          | omega
          | exact ⟨bs, bw, bt', mR_t (k' := refI a kd s t n) (by unfold kPlan; rw [if_neg (by omega)]) (by omega)⟩
          | (rw [ps_put_put]; exact ⟨bs, bw, bt', mR_t (by unfold kPlan; rw [if_pos (by omega), if_neg (by omega)]) (by decide)⟩)
end MFACE6

/-! the model's face: multiply, whole -/
section MMUL2
variable {g : GT} {S : PS} {mc ms : Nat} {Q : PO → PS → Prop} {kc ks : Nat} {m : Nat} {a kp : Int → Int} {fs : List Value} {km th bu sz at' be ki wr wa ea nu bs bw bt' : Int}
theorem c_X10_multiply {kd s t len set : Int} (h : S.1 m = some (mO m km th bu sz at' be ki wr wa ea nu bs bw bt')) (ha : S.1 (m + 1) = some (cJ 215 a)) (hkp : S.1 (m + 3) = some (cJ 1720 kp)) (hp : MP a) (hl : ML a) (hkm : 0 ≤ km ∧ km ≤ 8) (hk : RI kd) (hs : RI s) (ht : RI t) (hn : RI len) (hset : RI set) : PC g yX10_multiply cX10_multiply (iX10_multiply mc ms) [.ref m, vi kd, vi s, vi t, vi len, vi set] S (mC S m (fun km k => mO m km k bu sz at' be ki wr wa ea nu bs bw bt') km a kp (muA a kd s t len set) (kMul a kd s t len set) (vi (sizI a kd s t len))) := by
  refine PC_of pnX10 rfl rfl rfl (Nat.le_of_ble_eq_true rfl) ?_
  have h0 := hp.1
  have h2 := p2_bd h0
  have hnb := lacksI_bd a s t
  have k1 : ¬ (0 ≤ set ∧ set ≤ 2 ^ (a 0).toNat - 1) → kMul a kd s t len set = 1 := fun z => by unfold kMul; rw [if_neg z]
  have k2 : (0 ≤ set ∧ set ≤ 2 ^ (a 0).toNat - 1) → lacksI a s t ≠ 0 → kMul a kd s t len set = lacksI a s t := fun z z2 => by unfold kMul; rw [if_pos z, if_neg z2]
  have k3 : (0 ≤ set ∧ set ≤ 2 ^ (a 0).toNat - 1) → lacksI a s t = 0 → ¬ canMul a kd s t len set (prC a set) → kMul a kd s t len set = 3 := fun z z2 z3 => by unfold kMul; rw [if_pos z, if_pos z2, b2c_f z3, if_neg (by decide)]
  have k4 : (0 ≤ set ∧ set ≤ 2 ^ (a 0).toNat - 1) → lacksI a s t = 0 → canMul a kd s t len set (prC a set) → ¬ HaveAll a set (if kd = 2 then 2 * len else len) → kMul a kd s t len set = 4 := fun z z2 z3 z4 => by unfold kMul; rw [if_pos z, if_pos z2, b2c_t z3, if_pos rfl, b2c_f z4, if_neg (by decide)]
  have k5 : (0 ≤ set ∧ set ≤ 2 ^ (a 0).toNat - 1) → lacksI a s t = 0 → canMul a kd s t len set (prC a set) → HaveAll a set (if kd = 2 then 2 * len else len) → kMul a kd s t len set = 0 := fun z z2 z3 z4 => by unfold kMul; rw [if_pos z, if_pos z2, b2c_t z3, if_pos rfl, b2c_t z4, if_pos rfl]
  refine r_aload_n dX10_multiply_0 (i := 0) rfl rfl (r_aload_n dX10_multiply_1 (i := 0) rfl rfl (r_iload dX10_multiply_2 rfl (c_vr dX10_multiply_4 (c_X10_isSet h ha h0 hset) rfl rfl mq_X10_isSet ml_X10_231 ⟨Nat.le_of_ble_eq_true rfl, Nat.le_of_ble_eq_true rfl⟩ h rfl rfl rfl (Nat.le_of_ble_eq_true rfl) ?_)))
  refine r_if_eq 19 dX10_multiply_7 (by decide) b2i_RI (fun c1 => ?_) (fun c1 => ?_)
  · replace c1 := b2i_eq c1
    refine r_iconst dX10_multiply_19 (r_put dX10_multiply_20 fl_X10_30 h rfl rfl (Nat.le_of_ble_eq_true rfl) (r_aload_n dX10_multiply_23 (i := 0) rfl rfl (r_get dX10_multiply_24 fl_X10_30 ps_same rfl ?_)))
    refine r_if_ne 49 dX10_multiply_27 (by decide) (by omega) (fun c2 => ?_) (fun c2 => ?_)
    · refine r_aload_n dX10_multiply_49 (i := 0) rfl rfl (r_get dX10_multiply_50 fl_X10_30 ps_same rfl ?_)
      refine r_if_ne 84 dX10_multiply_53 (by decide) (by omega) (fun c3 => ?_) (fun c3 => ?_)
      · refine r_aload_n dX10_multiply_84 (i := 0) rfl rfl (r_get dX10_multiply_85 fl_X10_30 ps_same rfl ?_)
        refine r_if_le 93 dX10_multiply_88 (by decide) (by omega) (fun c4 => ?_) (fun c4 => ?_)
        · omega
        · refine r_iconst dX10_multiply_91 ?_
          refine r_iret dX10_multiply_92 rfl rfl ?_
          first
            | omega
            | exact mC_t ha hkp (k1 (by omega)) (by decide)
            | exact mC_t (k' := lacksI a s t) ha hkp (k2 (by omega) (by omega)) (by omega)
            | (rw [ps_put_put]; exact mC_t (k' := 3) ha hkp (k3 (by omega) (by omega) (by assumption)) (by decide))
            | (rw [ps_put_put]; exact mC_t (k' := 4) ha hkp (k4 (by omega) (by omega) hcm (by first | (rw [if_pos (by omega)]; assumption) | (rw [if_neg (by omega)]; assumption))) (by decide))
      · omega
    · omega
  · replace c1 := b2i_ne c1
    refine r_aload_n dX10_multiply_10 (i := 0) rfl rfl (r_iload_n dX10_multiply_11 (i := 2) rfl rfl (r_iload_n dX10_multiply_12 (i := 3) rfl rfl (c_vr dX10_multiply_13 (c_X10_lacks h ha hl hs ht) rfl rfl mq_X10_lacks ml_X10_237 ⟨Nat.le_of_ble_eq_true rfl, Nat.le_of_ble_eq_true rfl⟩ h rfl rfl rfl (Nat.le_of_ble_eq_true rfl) (r_goto 20 dX10_multiply_16 (by decide) ?_))))
    refine r_put dX10_multiply_20 fl_X10_30 h rfl rfl (Nat.le_of_ble_eq_true rfl) (r_aload_n dX10_multiply_23 (i := 0) rfl rfl (r_get dX10_multiply_24 fl_X10_30 ps_same rfl ?_))
    refine r_if_ne 49 dX10_multiply_27 (by decide) (by omega) (fun c5 => ?_) (fun c5 => ?_)
    · refine r_aload_n dX10_multiply_49 (i := 0) rfl rfl (r_get dX10_multiply_50 fl_X10_30 ps_same rfl ?_)
      refine r_if_ne 84 dX10_multiply_53 (by decide) (by omega) (fun c6 => ?_) (fun c6 => ?_)
      · refine r_aload_n dX10_multiply_84 (i := 0) rfl rfl (r_get dX10_multiply_85 fl_X10_30 ps_same rfl ?_)
        refine r_if_le 93 dX10_multiply_88 (by decide) (by omega) (fun c7 => ?_) (fun c7 => ?_)
        · first
            | omega
            | have hHA : HaveAll a set (if kd = 2 then 2 * len else len) := by first | (rw [if_pos (by omega)]; assumption) | (rw [if_neg (by omega)]; assumption)
              have hset2 : 0 ≤ set ∧ set ≤ 2 ^ (a 0).toNat - 1 := by omega
              have hla0 : lacksI a s t = 0 := by omega
              have hk0 := k5 hset2 hla0 hcm hHA
              have hzz := lacksI_0 hla0
              have hcm3 := hcm.2.2
              have l1 := hl.1 s (by omega) (by omega)
              have l2 := hl.1 t (by omega) (by omega)
              have hsz : 1 ≤ sizI a kd s t len ∧ sizI a kd s t len ≤ 64 := by unfold sizI; split <;> omega
              have hle : lacksI a s t = 0 := hla0
              have hA1 : ∀ S0 : PS, S0.1 (m + 1) = some (cJ 215 a) → S0 = ps_put S0 (m + 1) (cJ 215 (mix 145 ((145 : Nat) : Int) (fun _ => 0) a)) := fun S0 h9 => by
                rw [show mix 145 ((145 : Nat) : Int) (fun _ => 0) a = a from mix_0]
                exact (ps_put_self h9).symm
              have eA2 : mix 151 (151 + ((0 : Nat) : Int)) (muV a kd s t len set) (mix 145 215 (fun _ => 0) a) = mix 145 215 (fun _ => 0) a := mix_0
              rw [hla0]
              refine r_aload_n dX10_multiply_93 (i := 0) rfl rfl (c_vn dX10_multiply_94 (c_X10_keeps ps_same (ps_ne (by omega) ha) (ps_ne (by omega) hkp) hkm) rfl rfl mq_X10_keeps ml_X10_134 ⟨Nat.le_of_ble_eq_true rfl, Nat.le_of_ble_eq_true rfl⟩ ps_same rfl rfl rfl (Nat.le_of_ble_eq_true rfl) ?_)
              refine r_aload_n dX10_multiply_97 (i := 0) rfl rfl (r_iload_n dX10_multiply_98 (i := 1) rfl rfl (r_iload_n dX10_multiply_99 (i := 2) rfl rfl (r_iload_n dX10_multiply_100 (i := 3) rfl rfl (r_iload dX10_multiply_101 rfl ?_))))
              refine c_vr dX10_multiply_103 (c_X10_sizeOf ps_same (ps_ne (by omega) (ps_ne (by omega) (ps_ne (by omega) ha))) hk (fun _ => hzz.1)) rfl rfl mq_X10_sizeOf ml_X10_248 ⟨Nat.le_of_ble_eq_true rfl, Nat.le_of_ble_eq_true rfl⟩ ps_same rfl rfl rfl (Nat.le_of_ble_eq_true rfl) (r_istore dX10_multiply_106 rfl (Nat.le_of_ble_eq_true rfl) (r_aload_n dX10_multiply_108 (i := 0) rfl rfl (r_iload dX10_multiply_109 rfl (c_vr dX10_multiply_111 (c_X10_productOf ps_same (ps_ne (by omega) (ps_ne (by omega) (ps_ne (by omega) ha))) hp (by omega)) rfl rfl mq_X10_productOf ml_X10_266 ⟨Nat.le_of_ble_eq_true rfl, Nat.le_of_ble_eq_true rfl⟩ ps_same rfl rfl rfl (Nat.le_of_ble_eq_true rfl) ?_))))
              refine r_lstore dX10_multiply_114 rfl (Nat.le_of_ble_eq_true rfl) (r_sipush dX10_multiply_116 (by decide) (r_istore dX10_multiply_119 rfl (Nat.le_of_ble_eq_true rfl) ?_))
              refine r_ps (hA1 _ (ps_ne (by omega) (ps_ne (by omega) (ps_ne (by omega) ha)))) ?_
              refine r_loc [(0, some (.ref m)), (1, some (vi kd)), (2, some (vi s)), (3, some (vi t)), (4, some (vi len)), (5, some (vi set)), (6, some (vi (sizI a kd s t len))), (7, some (vl (prC a set))), (9, some (vi ((145 : Nat) : Int)))] ⟨Or.inl rfl, Or.inl rfl, Or.inl rfl, Or.inl rfl, Or.inl rfl, Or.inl rfl, Or.inl rfl, Or.inl rfl, Or.inl rfl, trivial⟩ ?_
              refine l_mz ps_same ?_ 70 145 (by omega) (by omega)
              refine r_iconst dX10_multiply_143 (r_istore dX10_multiply_144 rfl (Nat.le_of_ble_eq_true rfl) ?_)
              rw [← eA2]
              refine r_loc [(0, some (.ref m)), (1, some (vi kd)), (2, some (vi s)), (3, some (vi t)), (4, some (vi len)), (5, some (vi set)), (6, some (vi (sizI a kd s t len))), (7, some (vl (prC a set))), (9, some (vi ((0 : Nat) : Int)))] ⟨Or.inl rfl, Or.inl rfl, Or.inl rfl, Or.inl rfl, Or.inl rfl, Or.inl rfl, Or.inl rfl, Or.inl rfl, Or.inl rfl, trivial⟩ ?_
              refine l_mv ps_same hp hl (by omega) (by omega) (by omega) (by omega) hsz ?_ (sizI a kd s t len).toNat 0 (by omega)
              refine r_aload_n dX10_multiply_227 (i := 0) rfl rfl (r_get dX10_multiply_228 fl_X10_7 (ps_ne (by omega) ps_same) rfl (r_sipush dX10_multiply_231 (by decide) (r_lconst (z := 0) dX10_multiply_234 (by decide) (r_last dX10_multiply_235 ps_same (by omega) (by omega) (by omega) ?_))))
              refine r_iconst dX10_multiply_236 (r_istore dX10_multiply_237 rfl (Nat.le_of_ble_eq_true rfl) ?_)
              rw [ps_put_put]
              refine r_loc [(0, some (.ref m)), (1, some (vi kd)), (2, some (vi s)), (3, some (vi t)), (4, some (vi len)), (5, some (vi set)), (6, some (vi (sizI a kd s t len))), (7, some (vl (prC a set))), (9, some (vi ((0 : Nat) : Int)))] ⟨Or.inl rfl, Or.inl rfl, Or.inl rfl, Or.inl rfl, Or.inl rfl, Or.inl rfl, Or.inl rfl, Or.inl rfl, Or.inl rfl, trivial⟩ ?_
              refine l_mb ps_same hp (by omega) ?_ (a 0).toNat 0 (by omega)
              refine r_aload_n dX10_multiply_310 (i := 0) rfl rfl (r_get dX10_multiply_311 fl_X10_7 (ps_ne (by omega) ps_same) rfl (r_sipush dX10_multiply_314 (by decide) (r_lconst (z := 1) dX10_multiply_317 (by decide) (r_last dX10_multiply_318 ps_same (by omega) (by omega) (by omega) ?_))))
              refine r_aload_n dX10_multiply_319 (i := 0) rfl rfl (r_get dX10_multiply_320 fl_X10_7 (ps_ne (by omega) (ps_ne (by omega) ps_same)) rfl (r_sipush dX10_multiply_323 (by decide) (r_iload_n dX10_multiply_326 (i := 1) rfl rfl (r_i2l dX10_multiply_327 (by omega) ?_))))
              refine r_last dX10_multiply_328 ps_same (by omega) (by omega) (by omega) (r_aload_n dX10_multiply_329 (i := 0) rfl rfl (r_get dX10_multiply_330 fl_X10_7 (ps_ne (by omega) (ps_ne (by omega) (ps_ne (by omega) ps_same))) rfl (r_sipush dX10_multiply_333 (by decide) (r_iload dX10_multiply_336 rfl ?_))))
              refine r_i2l dX10_multiply_338 (by omega) (r_last dX10_multiply_339 ps_same (by omega) (by omega) (by omega) (r_aload_n dX10_multiply_340 (i := 0) rfl rfl (r_get dX10_multiply_341 fl_X10_7 (ps_ne (by omega) (ps_ne (by omega) (ps_ne (by omega) (ps_ne (by omega) ps_same)))) rfl (r_sipush dX10_multiply_344 (by decide) ?_))))
              refine r_iload dX10_multiply_347 rfl (r_i2l dX10_multiply_349 (by omega) (r_last dX10_multiply_350 ps_same (by omega) (by omega) (by omega) (r_aload_n dX10_multiply_351 (i := 0) rfl rfl (r_get dX10_multiply_352 fl_X10_7 (ps_ne (by omega) (ps_ne (by omega) (ps_ne (by omega) (ps_ne (by omega) (ps_ne (by omega) ps_same))))) rfl ?_))))
              refine r_sipush dX10_multiply_355 (by decide) (r_iload dX10_multiply_358 rfl (r_i2l dX10_multiply_360 (by omega) (r_last dX10_multiply_361 ps_same (by omega) (by omega) (by omega) (r_iload dX10_multiply_362 rfl ?_))))
              refine r_iret dX10_multiply_364 rfl rfl ?_
              refine mC_0 hk0 rfl rfl (fun z z1 z2 z3 => ?_) ?_ ?_ ?_
              all_goals repeat (first | exact ps_same | rfl | refine ps_ne (by omega) ?_)
        · refine r_iconst dX10_multiply_91 ?_
          refine r_iret dX10_multiply_92 rfl rfl ?_
          first
            | omega
            | exact mC_t ha hkp (k1 (by omega)) (by decide)
            | exact mC_t (k' := lacksI a s t) ha hkp (k2 (by omega) (by omega)) (by omega)
            | (rw [ps_put_put]; exact mC_t (k' := 3) ha hkp (k3 (by omega) (by omega) (by assumption)) (by decide))
            | (rw [ps_put_put]; exact mC_t (k' := 4) ha hkp (k4 (by omega) (by omega) hcm (by first | (rw [if_pos (by omega)]; assumption) | (rw [if_neg (by omega)]; assumption))) (by decide))
      · have hcm : canMul a kd s t len set (prC a set) := by first | assumption | (exfalso; omega)
        have hcm1 := hcm.1
        refine r_aload_n dX10_multiply_56 (i := 0) rfl rfl (r_iload dX10_multiply_57 rfl (r_iload_n dX10_multiply_59 (i := 1) rfl rfl (r_iconst dX10_multiply_60 ?_)))
        refine r_icmp_ne 71 dX10_multiply_61 (by decide) (by omega) (by omega) (fun c8 => ?_) (fun c8 => ?_)
        · refine r_iload dX10_multiply_71 rfl (c_vr dX10_multiply_73 (c_X10_allHave ps_same (ps_ne (by omega) ha) hp (by omega) (by omega)) rfl rfl mq_X10_allHave ml_X10_234 ⟨Nat.le_of_ble_eq_true rfl, Nat.le_of_ble_eq_true rfl⟩ ps_same rfl rfl rfl (Nat.le_of_ble_eq_true rfl) ?_)
          refine r_if_ne 84 dX10_multiply_76 (by decide) b2c_RI (fun c9 => ?_) (fun c9 => ?_)
          · replace c9 := b2c_ne c9
            refine r_aload_n dX10_multiply_84 (i := 0) rfl rfl (r_get dX10_multiply_85 fl_X10_30 ps_same rfl ?_)
            refine r_if_le 93 dX10_multiply_88 (by decide) (by omega) (fun c10 => ?_) (fun c10 => ?_)
            · first
                | omega
                | have hHA : HaveAll a set (if kd = 2 then 2 * len else len) := by first | (rw [if_pos (by omega)]; assumption) | (rw [if_neg (by omega)]; assumption)
                  have hset2 : 0 ≤ set ∧ set ≤ 2 ^ (a 0).toNat - 1 := by omega
                  have hla0 : lacksI a s t = 0 := by omega
                  have hk0 := k5 hset2 hla0 hcm hHA
                  have hzz := lacksI_0 hla0
                  have hcm3 := hcm.2.2
                  have l1 := hl.1 s (by omega) (by omega)
                  have l2 := hl.1 t (by omega) (by omega)
                  have hsz : 1 ≤ sizI a kd s t len ∧ sizI a kd s t len ≤ 64 := by unfold sizI; split <;> omega
                  have hle : lacksI a s t = 0 := hla0
                  have hA1 : ∀ S0 : PS, S0.1 (m + 1) = some (cJ 215 a) → S0 = ps_put S0 (m + 1) (cJ 215 (mix 145 ((145 : Nat) : Int) (fun _ => 0) a)) := fun S0 h9 => by
                    rw [show mix 145 ((145 : Nat) : Int) (fun _ => 0) a = a from mix_0]
                    exact (ps_put_self h9).symm
                  have eA2 : mix 151 (151 + ((0 : Nat) : Int)) (muV a kd s t len set) (mix 145 215 (fun _ => 0) a) = mix 145 215 (fun _ => 0) a := mix_0
                  rw [hla0]
                  refine r_aload_n dX10_multiply_93 (i := 0) rfl rfl (c_vn dX10_multiply_94 (c_X10_keeps ps_same (ps_ne (by omega) ha) (ps_ne (by omega) hkp) hkm) rfl rfl mq_X10_keeps ml_X10_134 ⟨Nat.le_of_ble_eq_true rfl, Nat.le_of_ble_eq_true rfl⟩ ps_same rfl rfl rfl (Nat.le_of_ble_eq_true rfl) ?_)
                  refine r_aload_n dX10_multiply_97 (i := 0) rfl rfl (r_iload_n dX10_multiply_98 (i := 1) rfl rfl (r_iload_n dX10_multiply_99 (i := 2) rfl rfl (r_iload_n dX10_multiply_100 (i := 3) rfl rfl (r_iload dX10_multiply_101 rfl ?_))))
                  refine c_vr dX10_multiply_103 (c_X10_sizeOf ps_same (ps_ne (by omega) (ps_ne (by omega) (ps_ne (by omega) ha))) hk (fun _ => hzz.1)) rfl rfl mq_X10_sizeOf ml_X10_248 ⟨Nat.le_of_ble_eq_true rfl, Nat.le_of_ble_eq_true rfl⟩ ps_same rfl rfl rfl (Nat.le_of_ble_eq_true rfl) (r_istore dX10_multiply_106 rfl (Nat.le_of_ble_eq_true rfl) (r_aload_n dX10_multiply_108 (i := 0) rfl rfl (r_iload dX10_multiply_109 rfl (c_vr dX10_multiply_111 (c_X10_productOf ps_same (ps_ne (by omega) (ps_ne (by omega) (ps_ne (by omega) ha))) hp (by omega)) rfl rfl mq_X10_productOf ml_X10_266 ⟨Nat.le_of_ble_eq_true rfl, Nat.le_of_ble_eq_true rfl⟩ ps_same rfl rfl rfl (Nat.le_of_ble_eq_true rfl) ?_))))
                  refine r_lstore dX10_multiply_114 rfl (Nat.le_of_ble_eq_true rfl) (r_sipush dX10_multiply_116 (by decide) (r_istore dX10_multiply_119 rfl (Nat.le_of_ble_eq_true rfl) ?_))
                  refine r_ps (hA1 _ (ps_ne (by omega) (ps_ne (by omega) (ps_ne (by omega) ha)))) ?_
                  refine r_loc [(0, some (.ref m)), (1, some (vi kd)), (2, some (vi s)), (3, some (vi t)), (4, some (vi len)), (5, some (vi set)), (6, some (vi (sizI a kd s t len))), (7, some (vl (prC a set))), (9, some (vi ((145 : Nat) : Int)))] ⟨Or.inl rfl, Or.inl rfl, Or.inl rfl, Or.inl rfl, Or.inl rfl, Or.inl rfl, Or.inl rfl, Or.inl rfl, Or.inl rfl, trivial⟩ ?_
                  refine l_mz ps_same ?_ 70 145 (by omega) (by omega)
                  refine r_iconst dX10_multiply_143 (r_istore dX10_multiply_144 rfl (Nat.le_of_ble_eq_true rfl) ?_)
                  rw [← eA2]
                  refine r_loc [(0, some (.ref m)), (1, some (vi kd)), (2, some (vi s)), (3, some (vi t)), (4, some (vi len)), (5, some (vi set)), (6, some (vi (sizI a kd s t len))), (7, some (vl (prC a set))), (9, some (vi ((0 : Nat) : Int)))] ⟨Or.inl rfl, Or.inl rfl, Or.inl rfl, Or.inl rfl, Or.inl rfl, Or.inl rfl, Or.inl rfl, Or.inl rfl, Or.inl rfl, trivial⟩ ?_
                  refine l_mv ps_same hp hl (by omega) (by omega) (by omega) (by omega) hsz ?_ (sizI a kd s t len).toNat 0 (by omega)
                  refine r_aload_n dX10_multiply_227 (i := 0) rfl rfl (r_get dX10_multiply_228 fl_X10_7 (ps_ne (by omega) ps_same) rfl (r_sipush dX10_multiply_231 (by decide) (r_lconst (z := 0) dX10_multiply_234 (by decide) (r_last dX10_multiply_235 ps_same (by omega) (by omega) (by omega) ?_))))
                  refine r_iconst dX10_multiply_236 (r_istore dX10_multiply_237 rfl (Nat.le_of_ble_eq_true rfl) ?_)
                  rw [ps_put_put]
                  refine r_loc [(0, some (.ref m)), (1, some (vi kd)), (2, some (vi s)), (3, some (vi t)), (4, some (vi len)), (5, some (vi set)), (6, some (vi (sizI a kd s t len))), (7, some (vl (prC a set))), (9, some (vi ((0 : Nat) : Int)))] ⟨Or.inl rfl, Or.inl rfl, Or.inl rfl, Or.inl rfl, Or.inl rfl, Or.inl rfl, Or.inl rfl, Or.inl rfl, Or.inl rfl, trivial⟩ ?_
                  refine l_mb ps_same hp (by omega) ?_ (a 0).toNat 0 (by omega)
                  refine r_aload_n dX10_multiply_310 (i := 0) rfl rfl (r_get dX10_multiply_311 fl_X10_7 (ps_ne (by omega) ps_same) rfl (r_sipush dX10_multiply_314 (by decide) (r_lconst (z := 1) dX10_multiply_317 (by decide) (r_last dX10_multiply_318 ps_same (by omega) (by omega) (by omega) ?_))))
                  refine r_aload_n dX10_multiply_319 (i := 0) rfl rfl (r_get dX10_multiply_320 fl_X10_7 (ps_ne (by omega) (ps_ne (by omega) ps_same)) rfl (r_sipush dX10_multiply_323 (by decide) (r_iload_n dX10_multiply_326 (i := 1) rfl rfl (r_i2l dX10_multiply_327 (by omega) ?_))))
                  refine r_last dX10_multiply_328 ps_same (by omega) (by omega) (by omega) (r_aload_n dX10_multiply_329 (i := 0) rfl rfl (r_get dX10_multiply_330 fl_X10_7 (ps_ne (by omega) (ps_ne (by omega) (ps_ne (by omega) ps_same))) rfl (r_sipush dX10_multiply_333 (by decide) (r_iload dX10_multiply_336 rfl ?_))))
                  refine r_i2l dX10_multiply_338 (by omega) (r_last dX10_multiply_339 ps_same (by omega) (by omega) (by omega) (r_aload_n dX10_multiply_340 (i := 0) rfl rfl (r_get dX10_multiply_341 fl_X10_7 (ps_ne (by omega) (ps_ne (by omega) (ps_ne (by omega) (ps_ne (by omega) ps_same)))) rfl (r_sipush dX10_multiply_344 (by decide) ?_))))
                  refine r_iload dX10_multiply_347 rfl (r_i2l dX10_multiply_349 (by omega) (r_last dX10_multiply_350 ps_same (by omega) (by omega) (by omega) (r_aload_n dX10_multiply_351 (i := 0) rfl rfl (r_get dX10_multiply_352 fl_X10_7 (ps_ne (by omega) (ps_ne (by omega) (ps_ne (by omega) (ps_ne (by omega) (ps_ne (by omega) ps_same))))) rfl ?_))))
                  refine r_sipush dX10_multiply_355 (by decide) (r_iload dX10_multiply_358 rfl (r_i2l dX10_multiply_360 (by omega) (r_last dX10_multiply_361 ps_same (by omega) (by omega) (by omega) (r_iload dX10_multiply_362 rfl ?_))))
                  refine r_iret dX10_multiply_364 rfl rfl ?_
                  refine mC_0 hk0 rfl rfl (fun z z1 z2 z3 => ?_) ?_ ?_ ?_
                  all_goals repeat (first | exact ps_same | rfl | refine ps_ne (by omega) ?_)
            · refine r_iconst dX10_multiply_91 ?_
              refine r_iret dX10_multiply_92 rfl rfl ?_
              first
                | omega
                | exact mC_t ha hkp (k1 (by omega)) (by decide)
                | exact mC_t (k' := lacksI a s t) ha hkp (k2 (by omega) (by omega)) (by omega)
                | (rw [ps_put_put]; exact mC_t (k' := 3) ha hkp (k3 (by omega) (by omega) (by assumption)) (by decide))
                | (rw [ps_put_put]; exact mC_t (k' := 4) ha hkp (k4 (by omega) (by omega) hcm (by first | (rw [if_pos (by omega)]; assumption) | (rw [if_neg (by omega)]; assumption))) (by decide))
          · replace c9 := b2c_eq c9
            refine r_aload_n dX10_multiply_79 (i := 0) rfl rfl (r_iconst dX10_multiply_80 (r_put dX10_multiply_81 fl_X10_30 ps_same rfl rfl (Nat.le_of_ble_eq_true rfl) (r_aload_n dX10_multiply_84 (i := 0) rfl rfl (r_get dX10_multiply_85 fl_X10_30 ps_same rfl ?_))))
            refine r_if_le 93 dX10_multiply_88 (by decide) (by omega) (fun c11 => ?_) (fun c11 => ?_)
            · omega
            · refine r_iconst dX10_multiply_91 ?_
              refine r_iret dX10_multiply_92 rfl rfl ?_
              first
                | omega
                | exact mC_t ha hkp (k1 (by omega)) (by decide)
                | exact mC_t (k' := lacksI a s t) ha hkp (k2 (by omega) (by omega)) (by omega)
                | (rw [ps_put_put]; exact mC_t (k' := 3) ha hkp (k3 (by omega) (by omega) (by assumption)) (by decide))
                | (rw [ps_put_put]; exact mC_t (k' := 4) ha hkp (k4 (by omega) (by omega) hcm (by first | (rw [if_pos (by omega)]; assumption) | (rw [if_neg (by omega)]; assumption))) (by decide))
        · refine r_iconst dX10_multiply_64 (r_iload dX10_multiply_65 rfl (r_imul dX10_multiply_67 (r_goto 73 dX10_multiply_68 (by decide) (c_vr dX10_multiply_73 (c_X10_allHave ps_same (ps_ne (by omega) ha) hp (by omega) (by omega)) rfl rfl mq_X10_allHave ml_X10_234 ⟨Nat.le_of_ble_eq_true rfl, Nat.le_of_ble_eq_true rfl⟩ ps_same rfl rfl rfl (Nat.le_of_ble_eq_true rfl) ?_))))
          refine r_if_ne 84 dX10_multiply_76 (by decide) b2c_RI (fun c12 => ?_) (fun c12 => ?_)
          · replace c12 := b2c_ne c12
            refine r_aload_n dX10_multiply_84 (i := 0) rfl rfl (r_get dX10_multiply_85 fl_X10_30 ps_same rfl ?_)
            refine r_if_le 93 dX10_multiply_88 (by decide) (by omega) (fun c13 => ?_) (fun c13 => ?_)
            · first
                | omega
                | have hHA : HaveAll a set (if kd = 2 then 2 * len else len) := by first | (rw [if_pos (by omega)]; assumption) | (rw [if_neg (by omega)]; assumption)
                  have hset2 : 0 ≤ set ∧ set ≤ 2 ^ (a 0).toNat - 1 := by omega
                  have hla0 : lacksI a s t = 0 := by omega
                  have hk0 := k5 hset2 hla0 hcm hHA
                  have hzz := lacksI_0 hla0
                  have hcm3 := hcm.2.2
                  have l1 := hl.1 s (by omega) (by omega)
                  have l2 := hl.1 t (by omega) (by omega)
                  have hsz : 1 ≤ sizI a kd s t len ∧ sizI a kd s t len ≤ 64 := by unfold sizI; split <;> omega
                  have hle : lacksI a s t = 0 := hla0
                  have hA1 : ∀ S0 : PS, S0.1 (m + 1) = some (cJ 215 a) → S0 = ps_put S0 (m + 1) (cJ 215 (mix 145 ((145 : Nat) : Int) (fun _ => 0) a)) := fun S0 h9 => by
                    rw [show mix 145 ((145 : Nat) : Int) (fun _ => 0) a = a from mix_0]
                    exact (ps_put_self h9).symm
                  have eA2 : mix 151 (151 + ((0 : Nat) : Int)) (muV a kd s t len set) (mix 145 215 (fun _ => 0) a) = mix 145 215 (fun _ => 0) a := mix_0
                  rw [hla0]
                  refine r_aload_n dX10_multiply_93 (i := 0) rfl rfl (c_vn dX10_multiply_94 (c_X10_keeps ps_same (ps_ne (by omega) ha) (ps_ne (by omega) hkp) hkm) rfl rfl mq_X10_keeps ml_X10_134 ⟨Nat.le_of_ble_eq_true rfl, Nat.le_of_ble_eq_true rfl⟩ ps_same rfl rfl rfl (Nat.le_of_ble_eq_true rfl) ?_)
                  refine r_aload_n dX10_multiply_97 (i := 0) rfl rfl (r_iload_n dX10_multiply_98 (i := 1) rfl rfl (r_iload_n dX10_multiply_99 (i := 2) rfl rfl (r_iload_n dX10_multiply_100 (i := 3) rfl rfl (r_iload dX10_multiply_101 rfl ?_))))
                  refine c_vr dX10_multiply_103 (c_X10_sizeOf ps_same (ps_ne (by omega) (ps_ne (by omega) (ps_ne (by omega) ha))) hk (fun _ => hzz.1)) rfl rfl mq_X10_sizeOf ml_X10_248 ⟨Nat.le_of_ble_eq_true rfl, Nat.le_of_ble_eq_true rfl⟩ ps_same rfl rfl rfl (Nat.le_of_ble_eq_true rfl) (r_istore dX10_multiply_106 rfl (Nat.le_of_ble_eq_true rfl) (r_aload_n dX10_multiply_108 (i := 0) rfl rfl (r_iload dX10_multiply_109 rfl (c_vr dX10_multiply_111 (c_X10_productOf ps_same (ps_ne (by omega) (ps_ne (by omega) (ps_ne (by omega) ha))) hp (by omega)) rfl rfl mq_X10_productOf ml_X10_266 ⟨Nat.le_of_ble_eq_true rfl, Nat.le_of_ble_eq_true rfl⟩ ps_same rfl rfl rfl (Nat.le_of_ble_eq_true rfl) ?_))))
                  refine r_lstore dX10_multiply_114 rfl (Nat.le_of_ble_eq_true rfl) (r_sipush dX10_multiply_116 (by decide) (r_istore dX10_multiply_119 rfl (Nat.le_of_ble_eq_true rfl) ?_))
                  refine r_ps (hA1 _ (ps_ne (by omega) (ps_ne (by omega) (ps_ne (by omega) ha)))) ?_
                  refine r_loc [(0, some (.ref m)), (1, some (vi kd)), (2, some (vi s)), (3, some (vi t)), (4, some (vi len)), (5, some (vi set)), (6, some (vi (sizI a kd s t len))), (7, some (vl (prC a set))), (9, some (vi ((145 : Nat) : Int)))] ⟨Or.inl rfl, Or.inl rfl, Or.inl rfl, Or.inl rfl, Or.inl rfl, Or.inl rfl, Or.inl rfl, Or.inl rfl, Or.inl rfl, trivial⟩ ?_
                  refine l_mz ps_same ?_ 70 145 (by omega) (by omega)
                  refine r_iconst dX10_multiply_143 (r_istore dX10_multiply_144 rfl (Nat.le_of_ble_eq_true rfl) ?_)
                  rw [← eA2]
                  refine r_loc [(0, some (.ref m)), (1, some (vi kd)), (2, some (vi s)), (3, some (vi t)), (4, some (vi len)), (5, some (vi set)), (6, some (vi (sizI a kd s t len))), (7, some (vl (prC a set))), (9, some (vi ((0 : Nat) : Int)))] ⟨Or.inl rfl, Or.inl rfl, Or.inl rfl, Or.inl rfl, Or.inl rfl, Or.inl rfl, Or.inl rfl, Or.inl rfl, Or.inl rfl, trivial⟩ ?_
                  refine l_mv ps_same hp hl (by omega) (by omega) (by omega) (by omega) hsz ?_ (sizI a kd s t len).toNat 0 (by omega)
                  refine r_aload_n dX10_multiply_227 (i := 0) rfl rfl (r_get dX10_multiply_228 fl_X10_7 (ps_ne (by omega) ps_same) rfl (r_sipush dX10_multiply_231 (by decide) (r_lconst (z := 0) dX10_multiply_234 (by decide) (r_last dX10_multiply_235 ps_same (by omega) (by omega) (by omega) ?_))))
                  refine r_iconst dX10_multiply_236 (r_istore dX10_multiply_237 rfl (Nat.le_of_ble_eq_true rfl) ?_)
                  rw [ps_put_put]
                  refine r_loc [(0, some (.ref m)), (1, some (vi kd)), (2, some (vi s)), (3, some (vi t)), (4, some (vi len)), (5, some (vi set)), (6, some (vi (sizI a kd s t len))), (7, some (vl (prC a set))), (9, some (vi ((0 : Nat) : Int)))] ⟨Or.inl rfl, Or.inl rfl, Or.inl rfl, Or.inl rfl, Or.inl rfl, Or.inl rfl, Or.inl rfl, Or.inl rfl, Or.inl rfl, trivial⟩ ?_
                  refine l_mb ps_same hp (by omega) ?_ (a 0).toNat 0 (by omega)
                  refine r_aload_n dX10_multiply_310 (i := 0) rfl rfl (r_get dX10_multiply_311 fl_X10_7 (ps_ne (by omega) ps_same) rfl (r_sipush dX10_multiply_314 (by decide) (r_lconst (z := 1) dX10_multiply_317 (by decide) (r_last dX10_multiply_318 ps_same (by omega) (by omega) (by omega) ?_))))
                  refine r_aload_n dX10_multiply_319 (i := 0) rfl rfl (r_get dX10_multiply_320 fl_X10_7 (ps_ne (by omega) (ps_ne (by omega) ps_same)) rfl (r_sipush dX10_multiply_323 (by decide) (r_iload_n dX10_multiply_326 (i := 1) rfl rfl (r_i2l dX10_multiply_327 (by omega) ?_))))
                  refine r_last dX10_multiply_328 ps_same (by omega) (by omega) (by omega) (r_aload_n dX10_multiply_329 (i := 0) rfl rfl (r_get dX10_multiply_330 fl_X10_7 (ps_ne (by omega) (ps_ne (by omega) (ps_ne (by omega) ps_same))) rfl (r_sipush dX10_multiply_333 (by decide) (r_iload dX10_multiply_336 rfl ?_))))
                  refine r_i2l dX10_multiply_338 (by omega) (r_last dX10_multiply_339 ps_same (by omega) (by omega) (by omega) (r_aload_n dX10_multiply_340 (i := 0) rfl rfl (r_get dX10_multiply_341 fl_X10_7 (ps_ne (by omega) (ps_ne (by omega) (ps_ne (by omega) (ps_ne (by omega) ps_same)))) rfl (r_sipush dX10_multiply_344 (by decide) ?_))))
                  refine r_iload dX10_multiply_347 rfl (r_i2l dX10_multiply_349 (by omega) (r_last dX10_multiply_350 ps_same (by omega) (by omega) (by omega) (r_aload_n dX10_multiply_351 (i := 0) rfl rfl (r_get dX10_multiply_352 fl_X10_7 (ps_ne (by omega) (ps_ne (by omega) (ps_ne (by omega) (ps_ne (by omega) (ps_ne (by omega) ps_same))))) rfl ?_))))
                  refine r_sipush dX10_multiply_355 (by decide) (r_iload dX10_multiply_358 rfl (r_i2l dX10_multiply_360 (by omega) (r_last dX10_multiply_361 ps_same (by omega) (by omega) (by omega) (r_iload dX10_multiply_362 rfl ?_))))
                  refine r_iret dX10_multiply_364 rfl rfl ?_
                  refine mC_0 hk0 rfl rfl (fun z z1 z2 z3 => ?_) ?_ ?_ ?_
                  all_goals repeat (first | exact ps_same | rfl | refine ps_ne (by omega) ?_)
            · refine r_iconst dX10_multiply_91 ?_
              refine r_iret dX10_multiply_92 rfl rfl ?_
              first
                | omega
                | exact mC_t ha hkp (k1 (by omega)) (by decide)
                | exact mC_t (k' := lacksI a s t) ha hkp (k2 (by omega) (by omega)) (by omega)
                | (rw [ps_put_put]; exact mC_t (k' := 3) ha hkp (k3 (by omega) (by omega) (by assumption)) (by decide))
                | (rw [ps_put_put]; exact mC_t (k' := 4) ha hkp (k4 (by omega) (by omega) hcm (by first | (rw [if_pos (by omega)]; assumption) | (rw [if_neg (by omega)]; assumption))) (by decide))
          · replace c12 := b2c_eq c12
            refine r_aload_n dX10_multiply_79 (i := 0) rfl rfl (r_iconst dX10_multiply_80 (r_put dX10_multiply_81 fl_X10_30 ps_same rfl rfl (Nat.le_of_ble_eq_true rfl) (r_aload_n dX10_multiply_84 (i := 0) rfl rfl (r_get dX10_multiply_85 fl_X10_30 ps_same rfl ?_))))
            refine r_if_le 93 dX10_multiply_88 (by decide) (by omega) (fun c14 => ?_) (fun c14 => ?_)
            · omega
            · refine r_iconst dX10_multiply_91 ?_
              refine r_iret dX10_multiply_92 rfl rfl ?_
              first
                | omega
                | exact mC_t ha hkp (k1 (by omega)) (by decide)
                | exact mC_t (k' := lacksI a s t) ha hkp (k2 (by omega) (by omega)) (by omega)
                | (rw [ps_put_put]; exact mC_t (k' := 3) ha hkp (k3 (by omega) (by omega) (by assumption)) (by decide))
                | (rw [ps_put_put]; exact mC_t (k' := 4) ha hkp (k4 (by omega) (by omega) hcm (by first | (rw [if_pos (by omega)]; assumption) | (rw [if_neg (by omega)]; assumption))) (by decide))
    · have hz := lacksI_0 (show lacksI a s t = 0 by omega)
      refine r_aload_n dX10_multiply_30 (i := 0) rfl rfl (r_iload_n dX10_multiply_31 (i := 1) rfl rfl (r_iload_n dX10_multiply_32 (i := 2) rfl rfl (r_iload_n dX10_multiply_33 (i := 3) rfl rfl (r_iload dX10_multiply_34 rfl ?_))))
      refine r_iload dX10_multiply_36 rfl (c_vr dX10_multiply_38 (c_X10_canMultiply ps_same (ps_ne (by omega) ha) hp hl hz.1.1 hz.1.2 hk hn (by omega)) rfl rfl mq_X10_canMultiply ml_X10_289 ⟨Nat.le_of_ble_eq_true rfl, Nat.le_of_ble_eq_true rfl⟩ ps_same rfl rfl rfl (Nat.le_of_ble_eq_true rfl) ?_)
      refine r_if_ne 49 dX10_multiply_41 (by decide) b2i_RI (fun c15 => ?_) (fun c15 => ?_)
      · replace c15 := b2i_ne c15
        refine r_aload_n dX10_multiply_49 (i := 0) rfl rfl (r_get dX10_multiply_50 fl_X10_30 ps_same rfl ?_)
        refine r_if_ne 84 dX10_multiply_53 (by decide) (by omega) (fun c16 => ?_) (fun c16 => ?_)
        · refine r_aload_n dX10_multiply_84 (i := 0) rfl rfl (r_get dX10_multiply_85 fl_X10_30 ps_same rfl ?_)
          refine r_if_le 93 dX10_multiply_88 (by decide) (by omega) (fun c17 => ?_) (fun c17 => ?_)
          · first
              | omega
              | have hHA : HaveAll a set (if kd = 2 then 2 * len else len) := by first | (rw [if_pos (by omega)]; assumption) | (rw [if_neg (by omega)]; assumption)
                have hset2 : 0 ≤ set ∧ set ≤ 2 ^ (a 0).toNat - 1 := by omega
                have hla0 : lacksI a s t = 0 := by omega
                have hk0 := k5 hset2 hla0 hcm hHA
                have hzz := lacksI_0 hla0
                have hcm3 := hcm.2.2
                have l1 := hl.1 s (by omega) (by omega)
                have l2 := hl.1 t (by omega) (by omega)
                have hsz : 1 ≤ sizI a kd s t len ∧ sizI a kd s t len ≤ 64 := by unfold sizI; split <;> omega
                have hle : lacksI a s t = 0 := hla0
                have hA1 : ∀ S0 : PS, S0.1 (m + 1) = some (cJ 215 a) → S0 = ps_put S0 (m + 1) (cJ 215 (mix 145 ((145 : Nat) : Int) (fun _ => 0) a)) := fun S0 h9 => by
                  rw [show mix 145 ((145 : Nat) : Int) (fun _ => 0) a = a from mix_0]
                  exact (ps_put_self h9).symm
                have eA2 : mix 151 (151 + ((0 : Nat) : Int)) (muV a kd s t len set) (mix 145 215 (fun _ => 0) a) = mix 145 215 (fun _ => 0) a := mix_0
                rw [hla0]
                refine r_aload_n dX10_multiply_93 (i := 0) rfl rfl (c_vn dX10_multiply_94 (c_X10_keeps ps_same (ps_ne (by omega) ha) (ps_ne (by omega) hkp) hkm) rfl rfl mq_X10_keeps ml_X10_134 ⟨Nat.le_of_ble_eq_true rfl, Nat.le_of_ble_eq_true rfl⟩ ps_same rfl rfl rfl (Nat.le_of_ble_eq_true rfl) ?_)
                refine r_aload_n dX10_multiply_97 (i := 0) rfl rfl (r_iload_n dX10_multiply_98 (i := 1) rfl rfl (r_iload_n dX10_multiply_99 (i := 2) rfl rfl (r_iload_n dX10_multiply_100 (i := 3) rfl rfl (r_iload dX10_multiply_101 rfl ?_))))
                refine c_vr dX10_multiply_103 (c_X10_sizeOf ps_same (ps_ne (by omega) (ps_ne (by omega) (ps_ne (by omega) ha))) hk (fun _ => hzz.1)) rfl rfl mq_X10_sizeOf ml_X10_248 ⟨Nat.le_of_ble_eq_true rfl, Nat.le_of_ble_eq_true rfl⟩ ps_same rfl rfl rfl (Nat.le_of_ble_eq_true rfl) (r_istore dX10_multiply_106 rfl (Nat.le_of_ble_eq_true rfl) (r_aload_n dX10_multiply_108 (i := 0) rfl rfl (r_iload dX10_multiply_109 rfl (c_vr dX10_multiply_111 (c_X10_productOf ps_same (ps_ne (by omega) (ps_ne (by omega) (ps_ne (by omega) ha))) hp (by omega)) rfl rfl mq_X10_productOf ml_X10_266 ⟨Nat.le_of_ble_eq_true rfl, Nat.le_of_ble_eq_true rfl⟩ ps_same rfl rfl rfl (Nat.le_of_ble_eq_true rfl) ?_))))
                refine r_lstore dX10_multiply_114 rfl (Nat.le_of_ble_eq_true rfl) (r_sipush dX10_multiply_116 (by decide) (r_istore dX10_multiply_119 rfl (Nat.le_of_ble_eq_true rfl) ?_))
                refine r_ps (hA1 _ (ps_ne (by omega) (ps_ne (by omega) (ps_ne (by omega) ha)))) ?_
                refine r_loc [(0, some (.ref m)), (1, some (vi kd)), (2, some (vi s)), (3, some (vi t)), (4, some (vi len)), (5, some (vi set)), (6, some (vi (sizI a kd s t len))), (7, some (vl (prC a set))), (9, some (vi ((145 : Nat) : Int)))] ⟨Or.inl rfl, Or.inl rfl, Or.inl rfl, Or.inl rfl, Or.inl rfl, Or.inl rfl, Or.inl rfl, Or.inl rfl, Or.inl rfl, trivial⟩ ?_
                refine l_mz ps_same ?_ 70 145 (by omega) (by omega)
                refine r_iconst dX10_multiply_143 (r_istore dX10_multiply_144 rfl (Nat.le_of_ble_eq_true rfl) ?_)
                rw [← eA2]
                refine r_loc [(0, some (.ref m)), (1, some (vi kd)), (2, some (vi s)), (3, some (vi t)), (4, some (vi len)), (5, some (vi set)), (6, some (vi (sizI a kd s t len))), (7, some (vl (prC a set))), (9, some (vi ((0 : Nat) : Int)))] ⟨Or.inl rfl, Or.inl rfl, Or.inl rfl, Or.inl rfl, Or.inl rfl, Or.inl rfl, Or.inl rfl, Or.inl rfl, Or.inl rfl, trivial⟩ ?_
                refine l_mv ps_same hp hl (by omega) (by omega) (by omega) (by omega) hsz ?_ (sizI a kd s t len).toNat 0 (by omega)
                refine r_aload_n dX10_multiply_227 (i := 0) rfl rfl (r_get dX10_multiply_228 fl_X10_7 (ps_ne (by omega) ps_same) rfl (r_sipush dX10_multiply_231 (by decide) (r_lconst (z := 0) dX10_multiply_234 (by decide) (r_last dX10_multiply_235 ps_same (by omega) (by omega) (by omega) ?_))))
                refine r_iconst dX10_multiply_236 (r_istore dX10_multiply_237 rfl (Nat.le_of_ble_eq_true rfl) ?_)
                rw [ps_put_put]
                refine r_loc [(0, some (.ref m)), (1, some (vi kd)), (2, some (vi s)), (3, some (vi t)), (4, some (vi len)), (5, some (vi set)), (6, some (vi (sizI a kd s t len))), (7, some (vl (prC a set))), (9, some (vi ((0 : Nat) : Int)))] ⟨Or.inl rfl, Or.inl rfl, Or.inl rfl, Or.inl rfl, Or.inl rfl, Or.inl rfl, Or.inl rfl, Or.inl rfl, Or.inl rfl, trivial⟩ ?_
                refine l_mb ps_same hp (by omega) ?_ (a 0).toNat 0 (by omega)
                refine r_aload_n dX10_multiply_310 (i := 0) rfl rfl (r_get dX10_multiply_311 fl_X10_7 (ps_ne (by omega) ps_same) rfl (r_sipush dX10_multiply_314 (by decide) (r_lconst (z := 1) dX10_multiply_317 (by decide) (r_last dX10_multiply_318 ps_same (by omega) (by omega) (by omega) ?_))))
                refine r_aload_n dX10_multiply_319 (i := 0) rfl rfl (r_get dX10_multiply_320 fl_X10_7 (ps_ne (by omega) (ps_ne (by omega) ps_same)) rfl (r_sipush dX10_multiply_323 (by decide) (r_iload_n dX10_multiply_326 (i := 1) rfl rfl (r_i2l dX10_multiply_327 (by omega) ?_))))
                refine r_last dX10_multiply_328 ps_same (by omega) (by omega) (by omega) (r_aload_n dX10_multiply_329 (i := 0) rfl rfl (r_get dX10_multiply_330 fl_X10_7 (ps_ne (by omega) (ps_ne (by omega) (ps_ne (by omega) ps_same))) rfl (r_sipush dX10_multiply_333 (by decide) (r_iload dX10_multiply_336 rfl ?_))))
                refine r_i2l dX10_multiply_338 (by omega) (r_last dX10_multiply_339 ps_same (by omega) (by omega) (by omega) (r_aload_n dX10_multiply_340 (i := 0) rfl rfl (r_get dX10_multiply_341 fl_X10_7 (ps_ne (by omega) (ps_ne (by omega) (ps_ne (by omega) (ps_ne (by omega) ps_same)))) rfl (r_sipush dX10_multiply_344 (by decide) ?_))))
                refine r_iload dX10_multiply_347 rfl (r_i2l dX10_multiply_349 (by omega) (r_last dX10_multiply_350 ps_same (by omega) (by omega) (by omega) (r_aload_n dX10_multiply_351 (i := 0) rfl rfl (r_get dX10_multiply_352 fl_X10_7 (ps_ne (by omega) (ps_ne (by omega) (ps_ne (by omega) (ps_ne (by omega) (ps_ne (by omega) ps_same))))) rfl ?_))))
                refine r_sipush dX10_multiply_355 (by decide) (r_iload dX10_multiply_358 rfl (r_i2l dX10_multiply_360 (by omega) (r_last dX10_multiply_361 ps_same (by omega) (by omega) (by omega) (r_iload dX10_multiply_362 rfl ?_))))
                refine r_iret dX10_multiply_364 rfl rfl ?_
                refine mC_0 hk0 rfl rfl (fun z z1 z2 z3 => ?_) ?_ ?_ ?_
                all_goals repeat (first | exact ps_same | rfl | refine ps_ne (by omega) ?_)
          · refine r_iconst dX10_multiply_91 ?_
            refine r_iret dX10_multiply_92 rfl rfl ?_
            first
              | omega
              | exact mC_t ha hkp (k1 (by omega)) (by decide)
              | exact mC_t (k' := lacksI a s t) ha hkp (k2 (by omega) (by omega)) (by omega)
              | (rw [ps_put_put]; exact mC_t (k' := 3) ha hkp (k3 (by omega) (by omega) (by assumption)) (by decide))
              | (rw [ps_put_put]; exact mC_t (k' := 4) ha hkp (k4 (by omega) (by omega) hcm (by first | (rw [if_pos (by omega)]; assumption) | (rw [if_neg (by omega)]; assumption))) (by decide))
        · have hcm : canMul a kd s t len set (prC a set) := by first | assumption | (exfalso; omega)
          have hcm1 := hcm.1
          refine r_aload_n dX10_multiply_56 (i := 0) rfl rfl (r_iload dX10_multiply_57 rfl (r_iload_n dX10_multiply_59 (i := 1) rfl rfl (r_iconst dX10_multiply_60 ?_)))
          refine r_icmp_ne 71 dX10_multiply_61 (by decide) (by omega) (by omega) (fun c18 => ?_) (fun c18 => ?_)
          · refine r_iload dX10_multiply_71 rfl (c_vr dX10_multiply_73 (c_X10_allHave ps_same (ps_ne (by omega) ha) hp (by omega) (by omega)) rfl rfl mq_X10_allHave ml_X10_234 ⟨Nat.le_of_ble_eq_true rfl, Nat.le_of_ble_eq_true rfl⟩ ps_same rfl rfl rfl (Nat.le_of_ble_eq_true rfl) ?_)
            refine r_if_ne 84 dX10_multiply_76 (by decide) b2c_RI (fun c19 => ?_) (fun c19 => ?_)
            · replace c19 := b2c_ne c19
              refine r_aload_n dX10_multiply_84 (i := 0) rfl rfl (r_get dX10_multiply_85 fl_X10_30 ps_same rfl ?_)
              refine r_if_le 93 dX10_multiply_88 (by decide) (by omega) (fun c20 => ?_) (fun c20 => ?_)
              · first
                  | omega
                  | have hHA : HaveAll a set (if kd = 2 then 2 * len else len) := by first | (rw [if_pos (by omega)]; assumption) | (rw [if_neg (by omega)]; assumption)
                    have hset2 : 0 ≤ set ∧ set ≤ 2 ^ (a 0).toNat - 1 := by omega
                    have hla0 : lacksI a s t = 0 := by omega
                    have hk0 := k5 hset2 hla0 hcm hHA
                    have hzz := lacksI_0 hla0
                    have hcm3 := hcm.2.2
                    have l1 := hl.1 s (by omega) (by omega)
                    have l2 := hl.1 t (by omega) (by omega)
                    have hsz : 1 ≤ sizI a kd s t len ∧ sizI a kd s t len ≤ 64 := by unfold sizI; split <;> omega
                    have hle : lacksI a s t = 0 := hla0
                    have hA1 : ∀ S0 : PS, S0.1 (m + 1) = some (cJ 215 a) → S0 = ps_put S0 (m + 1) (cJ 215 (mix 145 ((145 : Nat) : Int) (fun _ => 0) a)) := fun S0 h9 => by
                      rw [show mix 145 ((145 : Nat) : Int) (fun _ => 0) a = a from mix_0]
                      exact (ps_put_self h9).symm
                    have eA2 : mix 151 (151 + ((0 : Nat) : Int)) (muV a kd s t len set) (mix 145 215 (fun _ => 0) a) = mix 145 215 (fun _ => 0) a := mix_0
                    rw [hla0]
                    refine r_aload_n dX10_multiply_93 (i := 0) rfl rfl (c_vn dX10_multiply_94 (c_X10_keeps ps_same (ps_ne (by omega) ha) (ps_ne (by omega) hkp) hkm) rfl rfl mq_X10_keeps ml_X10_134 ⟨Nat.le_of_ble_eq_true rfl, Nat.le_of_ble_eq_true rfl⟩ ps_same rfl rfl rfl (Nat.le_of_ble_eq_true rfl) ?_)
                    refine r_aload_n dX10_multiply_97 (i := 0) rfl rfl (r_iload_n dX10_multiply_98 (i := 1) rfl rfl (r_iload_n dX10_multiply_99 (i := 2) rfl rfl (r_iload_n dX10_multiply_100 (i := 3) rfl rfl (r_iload dX10_multiply_101 rfl ?_))))
                    refine c_vr dX10_multiply_103 (c_X10_sizeOf ps_same (ps_ne (by omega) (ps_ne (by omega) (ps_ne (by omega) ha))) hk (fun _ => hzz.1)) rfl rfl mq_X10_sizeOf ml_X10_248 ⟨Nat.le_of_ble_eq_true rfl, Nat.le_of_ble_eq_true rfl⟩ ps_same rfl rfl rfl (Nat.le_of_ble_eq_true rfl) (r_istore dX10_multiply_106 rfl (Nat.le_of_ble_eq_true rfl) (r_aload_n dX10_multiply_108 (i := 0) rfl rfl (r_iload dX10_multiply_109 rfl (c_vr dX10_multiply_111 (c_X10_productOf ps_same (ps_ne (by omega) (ps_ne (by omega) (ps_ne (by omega) ha))) hp (by omega)) rfl rfl mq_X10_productOf ml_X10_266 ⟨Nat.le_of_ble_eq_true rfl, Nat.le_of_ble_eq_true rfl⟩ ps_same rfl rfl rfl (Nat.le_of_ble_eq_true rfl) ?_))))
                    refine r_lstore dX10_multiply_114 rfl (Nat.le_of_ble_eq_true rfl) (r_sipush dX10_multiply_116 (by decide) (r_istore dX10_multiply_119 rfl (Nat.le_of_ble_eq_true rfl) ?_))
                    refine r_ps (hA1 _ (ps_ne (by omega) (ps_ne (by omega) (ps_ne (by omega) ha)))) ?_
                    refine r_loc [(0, some (.ref m)), (1, some (vi kd)), (2, some (vi s)), (3, some (vi t)), (4, some (vi len)), (5, some (vi set)), (6, some (vi (sizI a kd s t len))), (7, some (vl (prC a set))), (9, some (vi ((145 : Nat) : Int)))] ⟨Or.inl rfl, Or.inl rfl, Or.inl rfl, Or.inl rfl, Or.inl rfl, Or.inl rfl, Or.inl rfl, Or.inl rfl, Or.inl rfl, trivial⟩ ?_
                    refine l_mz ps_same ?_ 70 145 (by omega) (by omega)
                    refine r_iconst dX10_multiply_143 (r_istore dX10_multiply_144 rfl (Nat.le_of_ble_eq_true rfl) ?_)
                    rw [← eA2]
                    refine r_loc [(0, some (.ref m)), (1, some (vi kd)), (2, some (vi s)), (3, some (vi t)), (4, some (vi len)), (5, some (vi set)), (6, some (vi (sizI a kd s t len))), (7, some (vl (prC a set))), (9, some (vi ((0 : Nat) : Int)))] ⟨Or.inl rfl, Or.inl rfl, Or.inl rfl, Or.inl rfl, Or.inl rfl, Or.inl rfl, Or.inl rfl, Or.inl rfl, Or.inl rfl, trivial⟩ ?_
                    refine l_mv ps_same hp hl (by omega) (by omega) (by omega) (by omega) hsz ?_ (sizI a kd s t len).toNat 0 (by omega)
                    refine r_aload_n dX10_multiply_227 (i := 0) rfl rfl (r_get dX10_multiply_228 fl_X10_7 (ps_ne (by omega) ps_same) rfl (r_sipush dX10_multiply_231 (by decide) (r_lconst (z := 0) dX10_multiply_234 (by decide) (r_last dX10_multiply_235 ps_same (by omega) (by omega) (by omega) ?_))))
                    refine r_iconst dX10_multiply_236 (r_istore dX10_multiply_237 rfl (Nat.le_of_ble_eq_true rfl) ?_)
                    rw [ps_put_put]
                    refine r_loc [(0, some (.ref m)), (1, some (vi kd)), (2, some (vi s)), (3, some (vi t)), (4, some (vi len)), (5, some (vi set)), (6, some (vi (sizI a kd s t len))), (7, some (vl (prC a set))), (9, some (vi ((0 : Nat) : Int)))] ⟨Or.inl rfl, Or.inl rfl, Or.inl rfl, Or.inl rfl, Or.inl rfl, Or.inl rfl, Or.inl rfl, Or.inl rfl, Or.inl rfl, trivial⟩ ?_
                    refine l_mb ps_same hp (by omega) ?_ (a 0).toNat 0 (by omega)
                    refine r_aload_n dX10_multiply_310 (i := 0) rfl rfl (r_get dX10_multiply_311 fl_X10_7 (ps_ne (by omega) ps_same) rfl (r_sipush dX10_multiply_314 (by decide) (r_lconst (z := 1) dX10_multiply_317 (by decide) (r_last dX10_multiply_318 ps_same (by omega) (by omega) (by omega) ?_))))
                    refine r_aload_n dX10_multiply_319 (i := 0) rfl rfl (r_get dX10_multiply_320 fl_X10_7 (ps_ne (by omega) (ps_ne (by omega) ps_same)) rfl (r_sipush dX10_multiply_323 (by decide) (r_iload_n dX10_multiply_326 (i := 1) rfl rfl (r_i2l dX10_multiply_327 (by omega) ?_))))
                    refine r_last dX10_multiply_328 ps_same (by omega) (by omega) (by omega) (r_aload_n dX10_multiply_329 (i := 0) rfl rfl (r_get dX10_multiply_330 fl_X10_7 (ps_ne (by omega) (ps_ne (by omega) (ps_ne (by omega) ps_same))) rfl (r_sipush dX10_multiply_333 (by decide) (r_iload dX10_multiply_336 rfl ?_))))
                    refine r_i2l dX10_multiply_338 (by omega) (r_last dX10_multiply_339 ps_same (by omega) (by omega) (by omega) (r_aload_n dX10_multiply_340 (i := 0) rfl rfl (r_get dX10_multiply_341 fl_X10_7 (ps_ne (by omega) (ps_ne (by omega) (ps_ne (by omega) (ps_ne (by omega) ps_same)))) rfl (r_sipush dX10_multiply_344 (by decide) ?_))))
                    refine r_iload dX10_multiply_347 rfl (r_i2l dX10_multiply_349 (by omega) (r_last dX10_multiply_350 ps_same (by omega) (by omega) (by omega) (r_aload_n dX10_multiply_351 (i := 0) rfl rfl (r_get dX10_multiply_352 fl_X10_7 (ps_ne (by omega) (ps_ne (by omega) (ps_ne (by omega) (ps_ne (by omega) (ps_ne (by omega) ps_same))))) rfl ?_))))
                    refine r_sipush dX10_multiply_355 (by decide) (r_iload dX10_multiply_358 rfl (r_i2l dX10_multiply_360 (by omega) (r_last dX10_multiply_361 ps_same (by omega) (by omega) (by omega) (r_iload dX10_multiply_362 rfl ?_))))
                    refine r_iret dX10_multiply_364 rfl rfl ?_
                    refine mC_0 hk0 rfl rfl (fun z z1 z2 z3 => ?_) ?_ ?_ ?_
                    all_goals repeat (first | exact ps_same | rfl | refine ps_ne (by omega) ?_)
              · refine r_iconst dX10_multiply_91 ?_
                refine r_iret dX10_multiply_92 rfl rfl ?_
                first
                  | omega
                  | exact mC_t ha hkp (k1 (by omega)) (by decide)
                  | exact mC_t (k' := lacksI a s t) ha hkp (k2 (by omega) (by omega)) (by omega)
                  | (rw [ps_put_put]; exact mC_t (k' := 3) ha hkp (k3 (by omega) (by omega) (by assumption)) (by decide))
                  | (rw [ps_put_put]; exact mC_t (k' := 4) ha hkp (k4 (by omega) (by omega) hcm (by first | (rw [if_pos (by omega)]; assumption) | (rw [if_neg (by omega)]; assumption))) (by decide))
            · replace c19 := b2c_eq c19
              refine r_aload_n dX10_multiply_79 (i := 0) rfl rfl (r_iconst dX10_multiply_80 (r_put dX10_multiply_81 fl_X10_30 ps_same rfl rfl (Nat.le_of_ble_eq_true rfl) (r_aload_n dX10_multiply_84 (i := 0) rfl rfl (r_get dX10_multiply_85 fl_X10_30 ps_same rfl ?_))))
              refine r_if_le 93 dX10_multiply_88 (by decide) (by omega) (fun c21 => ?_) (fun c21 => ?_)
              · omega
              · refine r_iconst dX10_multiply_91 ?_
                refine r_iret dX10_multiply_92 rfl rfl ?_
                first
                  | omega
                  | exact mC_t ha hkp (k1 (by omega)) (by decide)
                  | exact mC_t (k' := lacksI a s t) ha hkp (k2 (by omega) (by omega)) (by omega)
                  | (rw [ps_put_put]; exact mC_t (k' := 3) ha hkp (k3 (by omega) (by omega) (by assumption)) (by decide))
                  | (rw [ps_put_put]; exact mC_t (k' := 4) ha hkp (k4 (by omega) (by omega) hcm (by first | (rw [if_pos (by omega)]; assumption) | (rw [if_neg (by omega)]; assumption))) (by decide))
          · refine r_iconst dX10_multiply_64 (r_iload dX10_multiply_65 rfl (r_imul dX10_multiply_67 (r_goto 73 dX10_multiply_68 (by decide) (c_vr dX10_multiply_73 (c_X10_allHave ps_same (ps_ne (by omega) ha) hp (by omega) (by omega)) rfl rfl mq_X10_allHave ml_X10_234 ⟨Nat.le_of_ble_eq_true rfl, Nat.le_of_ble_eq_true rfl⟩ ps_same rfl rfl rfl (Nat.le_of_ble_eq_true rfl) ?_))))
            refine r_if_ne 84 dX10_multiply_76 (by decide) b2c_RI (fun c22 => ?_) (fun c22 => ?_)
            · replace c22 := b2c_ne c22
              refine r_aload_n dX10_multiply_84 (i := 0) rfl rfl (r_get dX10_multiply_85 fl_X10_30 ps_same rfl ?_)
              refine r_if_le 93 dX10_multiply_88 (by decide) (by omega) (fun c23 => ?_) (fun c23 => ?_)
              · first
                  | omega
                  | have hHA : HaveAll a set (if kd = 2 then 2 * len else len) := by first | (rw [if_pos (by omega)]; assumption) | (rw [if_neg (by omega)]; assumption)
                    have hset2 : 0 ≤ set ∧ set ≤ 2 ^ (a 0).toNat - 1 := by omega
                    have hla0 : lacksI a s t = 0 := by omega
                    have hk0 := k5 hset2 hla0 hcm hHA
                    have hzz := lacksI_0 hla0
                    have hcm3 := hcm.2.2
                    have l1 := hl.1 s (by omega) (by omega)
                    have l2 := hl.1 t (by omega) (by omega)
                    have hsz : 1 ≤ sizI a kd s t len ∧ sizI a kd s t len ≤ 64 := by unfold sizI; split <;> omega
                    have hle : lacksI a s t = 0 := hla0
                    have hA1 : ∀ S0 : PS, S0.1 (m + 1) = some (cJ 215 a) → S0 = ps_put S0 (m + 1) (cJ 215 (mix 145 ((145 : Nat) : Int) (fun _ => 0) a)) := fun S0 h9 => by
                      rw [show mix 145 ((145 : Nat) : Int) (fun _ => 0) a = a from mix_0]
                      exact (ps_put_self h9).symm
                    have eA2 : mix 151 (151 + ((0 : Nat) : Int)) (muV a kd s t len set) (mix 145 215 (fun _ => 0) a) = mix 145 215 (fun _ => 0) a := mix_0
                    rw [hla0]
                    refine r_aload_n dX10_multiply_93 (i := 0) rfl rfl (c_vn dX10_multiply_94 (c_X10_keeps ps_same (ps_ne (by omega) ha) (ps_ne (by omega) hkp) hkm) rfl rfl mq_X10_keeps ml_X10_134 ⟨Nat.le_of_ble_eq_true rfl, Nat.le_of_ble_eq_true rfl⟩ ps_same rfl rfl rfl (Nat.le_of_ble_eq_true rfl) ?_)
                    refine r_aload_n dX10_multiply_97 (i := 0) rfl rfl (r_iload_n dX10_multiply_98 (i := 1) rfl rfl (r_iload_n dX10_multiply_99 (i := 2) rfl rfl (r_iload_n dX10_multiply_100 (i := 3) rfl rfl (r_iload dX10_multiply_101 rfl ?_))))
                    refine c_vr dX10_multiply_103 (c_X10_sizeOf ps_same (ps_ne (by omega) (ps_ne (by omega) (ps_ne (by omega) ha))) hk (fun _ => hzz.1)) rfl rfl mq_X10_sizeOf ml_X10_248 ⟨Nat.le_of_ble_eq_true rfl, Nat.le_of_ble_eq_true rfl⟩ ps_same rfl rfl rfl (Nat.le_of_ble_eq_true rfl) (r_istore dX10_multiply_106 rfl (Nat.le_of_ble_eq_true rfl) (r_aload_n dX10_multiply_108 (i := 0) rfl rfl (r_iload dX10_multiply_109 rfl (c_vr dX10_multiply_111 (c_X10_productOf ps_same (ps_ne (by omega) (ps_ne (by omega) (ps_ne (by omega) ha))) hp (by omega)) rfl rfl mq_X10_productOf ml_X10_266 ⟨Nat.le_of_ble_eq_true rfl, Nat.le_of_ble_eq_true rfl⟩ ps_same rfl rfl rfl (Nat.le_of_ble_eq_true rfl) ?_))))
                    refine r_lstore dX10_multiply_114 rfl (Nat.le_of_ble_eq_true rfl) (r_sipush dX10_multiply_116 (by decide) (r_istore dX10_multiply_119 rfl (Nat.le_of_ble_eq_true rfl) ?_))
                    refine r_ps (hA1 _ (ps_ne (by omega) (ps_ne (by omega) (ps_ne (by omega) ha)))) ?_
                    refine r_loc [(0, some (.ref m)), (1, some (vi kd)), (2, some (vi s)), (3, some (vi t)), (4, some (vi len)), (5, some (vi set)), (6, some (vi (sizI a kd s t len))), (7, some (vl (prC a set))), (9, some (vi ((145 : Nat) : Int)))] ⟨Or.inl rfl, Or.inl rfl, Or.inl rfl, Or.inl rfl, Or.inl rfl, Or.inl rfl, Or.inl rfl, Or.inl rfl, Or.inl rfl, trivial⟩ ?_
                    refine l_mz ps_same ?_ 70 145 (by omega) (by omega)
                    refine r_iconst dX10_multiply_143 (r_istore dX10_multiply_144 rfl (Nat.le_of_ble_eq_true rfl) ?_)
                    rw [← eA2]
                    refine r_loc [(0, some (.ref m)), (1, some (vi kd)), (2, some (vi s)), (3, some (vi t)), (4, some (vi len)), (5, some (vi set)), (6, some (vi (sizI a kd s t len))), (7, some (vl (prC a set))), (9, some (vi ((0 : Nat) : Int)))] ⟨Or.inl rfl, Or.inl rfl, Or.inl rfl, Or.inl rfl, Or.inl rfl, Or.inl rfl, Or.inl rfl, Or.inl rfl, Or.inl rfl, trivial⟩ ?_
                    refine l_mv ps_same hp hl (by omega) (by omega) (by omega) (by omega) hsz ?_ (sizI a kd s t len).toNat 0 (by omega)
                    refine r_aload_n dX10_multiply_227 (i := 0) rfl rfl (r_get dX10_multiply_228 fl_X10_7 (ps_ne (by omega) ps_same) rfl (r_sipush dX10_multiply_231 (by decide) (r_lconst (z := 0) dX10_multiply_234 (by decide) (r_last dX10_multiply_235 ps_same (by omega) (by omega) (by omega) ?_))))
                    refine r_iconst dX10_multiply_236 (r_istore dX10_multiply_237 rfl (Nat.le_of_ble_eq_true rfl) ?_)
                    rw [ps_put_put]
                    refine r_loc [(0, some (.ref m)), (1, some (vi kd)), (2, some (vi s)), (3, some (vi t)), (4, some (vi len)), (5, some (vi set)), (6, some (vi (sizI a kd s t len))), (7, some (vl (prC a set))), (9, some (vi ((0 : Nat) : Int)))] ⟨Or.inl rfl, Or.inl rfl, Or.inl rfl, Or.inl rfl, Or.inl rfl, Or.inl rfl, Or.inl rfl, Or.inl rfl, Or.inl rfl, trivial⟩ ?_
                    refine l_mb ps_same hp (by omega) ?_ (a 0).toNat 0 (by omega)
                    refine r_aload_n dX10_multiply_310 (i := 0) rfl rfl (r_get dX10_multiply_311 fl_X10_7 (ps_ne (by omega) ps_same) rfl (r_sipush dX10_multiply_314 (by decide) (r_lconst (z := 1) dX10_multiply_317 (by decide) (r_last dX10_multiply_318 ps_same (by omega) (by omega) (by omega) ?_))))
                    refine r_aload_n dX10_multiply_319 (i := 0) rfl rfl (r_get dX10_multiply_320 fl_X10_7 (ps_ne (by omega) (ps_ne (by omega) ps_same)) rfl (r_sipush dX10_multiply_323 (by decide) (r_iload_n dX10_multiply_326 (i := 1) rfl rfl (r_i2l dX10_multiply_327 (by omega) ?_))))
                    refine r_last dX10_multiply_328 ps_same (by omega) (by omega) (by omega) (r_aload_n dX10_multiply_329 (i := 0) rfl rfl (r_get dX10_multiply_330 fl_X10_7 (ps_ne (by omega) (ps_ne (by omega) (ps_ne (by omega) ps_same))) rfl (r_sipush dX10_multiply_333 (by decide) (r_iload dX10_multiply_336 rfl ?_))))
                    refine r_i2l dX10_multiply_338 (by omega) (r_last dX10_multiply_339 ps_same (by omega) (by omega) (by omega) (r_aload_n dX10_multiply_340 (i := 0) rfl rfl (r_get dX10_multiply_341 fl_X10_7 (ps_ne (by omega) (ps_ne (by omega) (ps_ne (by omega) (ps_ne (by omega) ps_same)))) rfl (r_sipush dX10_multiply_344 (by decide) ?_))))
                    refine r_iload dX10_multiply_347 rfl (r_i2l dX10_multiply_349 (by omega) (r_last dX10_multiply_350 ps_same (by omega) (by omega) (by omega) (r_aload_n dX10_multiply_351 (i := 0) rfl rfl (r_get dX10_multiply_352 fl_X10_7 (ps_ne (by omega) (ps_ne (by omega) (ps_ne (by omega) (ps_ne (by omega) (ps_ne (by omega) ps_same))))) rfl ?_))))
                    refine r_sipush dX10_multiply_355 (by decide) (r_iload dX10_multiply_358 rfl (r_i2l dX10_multiply_360 (by omega) (r_last dX10_multiply_361 ps_same (by omega) (by omega) (by omega) (r_iload dX10_multiply_362 rfl ?_))))
                    refine r_iret dX10_multiply_364 rfl rfl ?_
                    refine mC_0 hk0 rfl rfl (fun z z1 z2 z3 => ?_) ?_ ?_ ?_
                    all_goals repeat (first | exact ps_same | rfl | refine ps_ne (by omega) ?_)
              · refine r_iconst dX10_multiply_91 ?_
                refine r_iret dX10_multiply_92 rfl rfl ?_
                first
                  | omega
                  | exact mC_t ha hkp (k1 (by omega)) (by decide)
                  | exact mC_t (k' := lacksI a s t) ha hkp (k2 (by omega) (by omega)) (by omega)
                  | (rw [ps_put_put]; exact mC_t (k' := 3) ha hkp (k3 (by omega) (by omega) (by assumption)) (by decide))
                  | (rw [ps_put_put]; exact mC_t (k' := 4) ha hkp (k4 (by omega) (by omega) hcm (by first | (rw [if_pos (by omega)]; assumption) | (rw [if_neg (by omega)]; assumption))) (by decide))
            · replace c22 := b2c_eq c22
              refine r_aload_n dX10_multiply_79 (i := 0) rfl rfl (r_iconst dX10_multiply_80 (r_put dX10_multiply_81 fl_X10_30 ps_same rfl rfl (Nat.le_of_ble_eq_true rfl) (r_aload_n dX10_multiply_84 (i := 0) rfl rfl (r_get dX10_multiply_85 fl_X10_30 ps_same rfl ?_))))
              refine r_if_le 93 dX10_multiply_88 (by decide) (by omega) (fun c24 => ?_) (fun c24 => ?_)
              · omega
              · refine r_iconst dX10_multiply_91 ?_
                refine r_iret dX10_multiply_92 rfl rfl ?_
                first
                  | omega
                  | exact mC_t ha hkp (k1 (by omega)) (by decide)
                  | exact mC_t (k' := lacksI a s t) ha hkp (k2 (by omega) (by omega)) (by omega)
                  | (rw [ps_put_put]; exact mC_t (k' := 3) ha hkp (k3 (by omega) (by omega) (by assumption)) (by decide))
                  | (rw [ps_put_put]; exact mC_t (k' := 4) ha hkp (k4 (by omega) (by omega) hcm (by first | (rw [if_pos (by omega)]; assumption) | (rw [if_neg (by omega)]; assumption))) (by decide))
      · replace c15 := b2i_eq c15
        refine r_aload_n dX10_multiply_44 (i := 0) rfl rfl (r_iconst dX10_multiply_45 (r_put dX10_multiply_46 fl_X10_30 ps_same rfl rfl (Nat.le_of_ble_eq_true rfl) (r_aload_n dX10_multiply_49 (i := 0) rfl rfl (r_get dX10_multiply_50 fl_X10_30 ps_same rfl ?_))))
        refine r_if_ne 84 dX10_multiply_53 (by decide) (by omega) (fun c25 => ?_) (fun c25 => ?_)
        · refine r_aload_n dX10_multiply_84 (i := 0) rfl rfl (r_get dX10_multiply_85 fl_X10_30 ps_same rfl ?_)
          refine r_if_le 93 dX10_multiply_88 (by decide) (by omega) (fun c26 => ?_) (fun c26 => ?_)
          · omega
          · refine r_iconst dX10_multiply_91 ?_
            refine r_iret dX10_multiply_92 rfl rfl ?_
            first
              | omega
              | exact mC_t ha hkp (k1 (by omega)) (by decide)
              | exact mC_t (k' := lacksI a s t) ha hkp (k2 (by omega) (by omega)) (by omega)
              | (rw [ps_put_put]; exact mC_t (k' := 3) ha hkp (k3 (by omega) (by omega) (by assumption)) (by decide))
              | (rw [ps_put_put]; exact mC_t (k' := 4) ha hkp (k4 (by omega) (by omega) hcm (by first | (rw [if_pos (by omega)]; assumption) | (rw [if_neg (by omega)]; assumption))) (by decide))
        · omega
end MMUL2

/-! the model's face: questions that change nothing, part 3 -/
def gdI (p : Prop) [Decidable p] : Int := b2i p
section MFACE3
variable {g : GT} {S : PS} {mc ms : Nat} {Q : PO → PS → Prop} {kc ks : Nat} {m : Nat} {a : Int → Int} {fs : List Value} {km th bu sz at' be ki wr wa ea nu bs bw bt' : Int}
theorem noTrI_bd (a : Int → Int) (q n gd : Int) : 0 ≤ noTrI a q n gd ∧ noTrI a q n gd ≤ 3 := by
  unfold noTrI
  repeat' split
  all_goals omega
theorem noTrI_0 {a : Int → Int} {q n gd : Int} (h : noTrI a q n gd = 0) : (0 ≤ q ∧ q ≤ a 0 - 1) ∧ (1 ≤ n ∧ n ≤ 64) ∧ gd ≠ 0 ∧ (a (1 + q) - 1) % n = 0 := by
  unfold noTrI at h
  split at h
  · split at h
    · split at h
      · next h1 h2 h3 => exact ⟨h1, h2.1, h2.2, h3⟩
      · omega
    · omega
  · omega
theorem c_X10_cost {q n mt : Int} (h : S.1 m = some (mO m km th bu sz at' be ki wr wa ea nu bs bw bt')) (ha : S.1 (m + 1) = some (cJ 215 a)) (hp : MP a) (hq : RI q) (hn : RI n) (hmt : RI mt) : PC g yX10_cost cX10_cost (iX10_cost mc ms) [.ref m, vi q, vi n, vi mt] S (mR S m (fun k => mO m km k bu sz at' be ki wr wa ea nu bs bw bt') (noTrI a q n (b2i (0 ≤ mt ∧ mt ≤ 2))) (vi (csI (a (1 + q)) n.toNat mt))) := by
  refine PC_of pnX10 rfl rfl rfl (Nat.le_of_ble_eq_true rfl) ?_
  have h0 := hp.1
  have hnb := noTrI_bd a q n (b2i (0 ≤ mt ∧ mt ≤ 2))
  refine r_aload_n dX10_cost_0 (i := 0) rfl rfl (r_aload_n dX10_cost_1 (i := 0) rfl rfl (r_iload_n dX10_cost_2 (i := 1) rfl rfl (r_iload_n dX10_cost_3 (i := 2) rfl rfl (r_iload_n dX10_cost_4 (i := 3) rfl rfl ?_))))
  refine r_i2l dX10_cost_5 (by omega) (r_lconst (z := 0) dX10_cost_6 (by decide) (r_ldc2 dX10_cost_7 csj_X10_151 (c_sr dX10_cost_10 (c_X10_isIn ⟨by omega, by omega⟩ ⟨by omega, by omega⟩ ⟨by omega, by omega⟩) rfl rfl mq_X10_isIn ml_X10_46 ⟨Nat.le_of_ble_eq_true rfl, Nat.le_of_ble_eq_true rfl⟩ rfl rfl (Nat.le_of_ble_eq_true rfl) (c_vr dX10_cost_13 (c_X10_noTransform h ha hp hq hn b2i_01) rfl rfl mq_X10_noTransform ml_X10_220 ⟨Nat.le_of_ble_eq_true rfl, Nat.le_of_ble_eq_true rfl⟩ h rfl rfl rfl (Nat.le_of_ble_eq_true rfl) ?_))))
  refine r_put dX10_cost_16 fl_X10_30 h rfl rfl (Nat.le_of_ble_eq_true rfl) (r_aload_n dX10_cost_19 (i := 0) rfl rfl (r_get dX10_cost_20 fl_X10_30 ps_same rfl ?_))
  refine r_if_le 30 dX10_cost_23 (by decide) (by omega) (fun c1 => ?_) (fun c1 => ?_)
  · obtain ⟨hth, hn1, hgd, hdv⟩ := noTrI_0 (show noTrI a q n (b2i (0 ≤ mt ∧ mt ≤ 2)) = 0 by omega)
    have hmt2 := b2i_ne hgd
    have hpq := hp.2 q (by omega) (by omega)
    refine r_aload_n dX10_cost_30 (i := 0) rfl rfl (r_iload_n dX10_cost_31 (i := 1) rfl rfl (c_vr dX10_cost_32 (c_X10_primeAt ps_same (ps_ne (by omega) ha) (by omega)) rfl rfl mq_X10_primeAt ml_X10_165 ⟨Nat.le_of_ble_eq_true rfl, Nat.le_of_ble_eq_true rfl⟩ ps_same rfl rfl rfl (Nat.le_of_ble_eq_true rfl) (r_iload_n dX10_cost_35 (i := 2) rfl rfl (r_iload_n dX10_cost_36 (i := 3) rfl rfl ?_))))
    refine c_sr dX10_cost_37 (c_X10_costOfI hn1 ⟨by omega, by omega⟩ hmt2) rfl rfl mq_X10_costOf ml_X10_224 ⟨Nat.le_of_ble_eq_true rfl, Nat.le_of_ble_eq_true rfl⟩ rfl rfl (Nat.le_of_ble_eq_true rfl) ?_
    refine r_iret dX10_cost_40 rfl rfl ?_
    exact mR_0 rfl rfl
  · refine r_iconst dX10_cost_26 (r_goto 40 dX10_cost_27 (by decide) ?_)
    refine r_iret dX10_cost_40 rfl rfl ?_
    exact mR_t rfl (by omega)
theorem c_X10_method {q n : Int} (h : S.1 m = some (mO m km th bu sz at' be ki wr wa ea nu bs bw bt')) (ha : S.1 (m + 1) = some (cJ 215 a)) (hp : MP a) (hq : RI q) (hn : RI n) : PC g yX10_method cX10_method (iX10_method mc ms) [.ref m, vi q, vi n] S (mR S m (fun k => mO m km k bu sz at' be ki wr wa ea nu bs bw bt') (noTrI a q n 1) (vi (bmI (a (1 + q)) n.toNat))) := by
  refine PC_of pnX10 rfl rfl rfl (Nat.le_of_ble_eq_true rfl) ?_
  have h0 := hp.1
  have hnb := noTrI_bd a q n 1
  refine r_aload_n dX10_method_0 (i := 0) rfl rfl (r_aload_n dX10_method_1 (i := 0) rfl rfl (r_iload_n dX10_method_2 (i := 1) rfl rfl (r_iload_n dX10_method_3 (i := 2) rfl rfl (r_iconst dX10_method_4 ?_))))
  refine c_vr dX10_method_5 (c_X10_noTransform h ha hp hq hn (by omega)) rfl rfl mq_X10_noTransform ml_X10_220 ⟨Nat.le_of_ble_eq_true rfl, Nat.le_of_ble_eq_true rfl⟩ h rfl rfl rfl (Nat.le_of_ble_eq_true rfl) (r_put dX10_method_8 fl_X10_30 h rfl rfl (Nat.le_of_ble_eq_true rfl) (r_aload_n dX10_method_11 (i := 0) rfl rfl (r_get dX10_method_12 fl_X10_30 ps_same rfl ?_)))
  refine r_if_le 22 dX10_method_15 (by decide) (by omega) (fun c1 => ?_) (fun c1 => ?_)
  · obtain ⟨hth, hn1, hgd, hdv⟩ := noTrI_0 (show noTrI a q n 1 = 0 by omega)
    have hpq := hp.2 q (by omega) (by omega)
    refine r_aload_n dX10_method_22 (i := 0) rfl rfl (r_iload_n dX10_method_23 (i := 1) rfl rfl (c_vr dX10_method_24 (c_X10_primeAt ps_same (ps_ne (by omega) ha) (by omega)) rfl rfl mq_X10_primeAt ml_X10_165 ⟨Nat.le_of_ble_eq_true rfl, Nat.le_of_ble_eq_true rfl⟩ ps_same rfl rfl rfl (Nat.le_of_ble_eq_true rfl) (r_iload_n dX10_method_27 (i := 2) rfl rfl (c_sr dX10_method_28 (c_X10_bestMethodI hn1 ⟨by omega, by omega⟩) rfl rfl mq_X10_bestMethod ml_X10_228 ⟨Nat.le_of_ble_eq_true rfl, Nat.le_of_ble_eq_true rfl⟩ rfl rfl (Nat.le_of_ble_eq_true rfl) ?_))))
    refine r_iret dX10_method_31 rfl rfl ?_
    exact mR_0 rfl rfl
  · refine r_iconst dX10_method_18 (r_goto 31 dX10_method_19 (by decide) ?_)
    refine r_iret dX10_method_31 rfl rfl ?_
    exact mR_t rfl (by omega)
theorem tri_bd {j : Int} (h : 0 ≤ j ∧ j ≤ 128) : 0 ≤ j * (j - 1) ∧ j * (j - 1) ≤ 16256 := by
  rcases Int.lt_or_le 0 j with z | z
  · have h1 := Int.mul_nonneg (show 0 ≤ j by omega) (show 0 ≤ j - 1 by omega)
    have h2 := Int.mul_le_mul h.2 (show j - 1 ≤ 127 by omega) (by omega) (by omega)
    omega
  · have e : j = 0 := by omega
    subst e
    omega
theorem c_X10_chirp {q n j : Int} (h : S.1 m = some (mO m km th bu sz at' be ki wr wa ea nu bs bw bt')) (ha : S.1 (m + 1) = some (cJ 215 a)) (hp : MP a) (hq : RI q) (hn : RI n) (hj : RI j) : PC g yX10_chirp cX10_chirp (iX10_chirp mc ms) [.ref m, vi q, vi n, vi j] S (mR S m (fun k => mO m km k bu sz at' be ki wr wa ea nu bs bw bt') (noTrI a q n (b2i (0 ≤ j ∧ j ≤ 2 * n))) (vi (pwI (rtI (pN a q) n.toNat) (j * (j - 1) / 2).toNat (pN a q)))) := by
  refine PC_of pnX10 rfl rfl rfl (Nat.le_of_ble_eq_true rfl) ?_
  have h0 := hp.1
  have hnb := noTrI_bd a q n (b2i (0 ≤ j ∧ j ≤ 2 * n))
  refine r_aload_n dX10_chirp_0 (i := 0) rfl rfl (r_aload_n dX10_chirp_1 (i := 0) rfl rfl (r_iload_n dX10_chirp_2 (i := 1) rfl rfl (r_iload_n dX10_chirp_3 (i := 2) rfl rfl (r_iload_n dX10_chirp_4 (i := 3) rfl rfl ?_))))
  refine r_i2l dX10_chirp_5 (by omega) (r_lconst (z := 0) dX10_chirp_6 (by decide) (r_ldc2 dX10_chirp_7 csj_X10_151 (r_iload_n dX10_chirp_10 (i := 2) rfl rfl (r_i2l dX10_chirp_11 (by omega) ?_))))
  refine r_lmul dX10_chirp_12 (c_sr dX10_chirp_13 (c_X10_isIn ⟨by omega, by omega⟩ ⟨by omega, by omega⟩ ⟨by omega, by omega⟩) rfl rfl mq_X10_isIn ml_X10_46 ⟨Nat.le_of_ble_eq_true rfl, Nat.le_of_ble_eq_true rfl⟩ rfl rfl (Nat.le_of_ble_eq_true rfl) (c_vr dX10_chirp_16 (c_X10_noTransform h ha hp hq hn b2i_01) rfl rfl mq_X10_noTransform ml_X10_220 ⟨Nat.le_of_ble_eq_true rfl, Nat.le_of_ble_eq_true rfl⟩ h rfl rfl rfl (Nat.le_of_ble_eq_true rfl) (r_put dX10_chirp_19 fl_X10_30 h rfl rfl (Nat.le_of_ble_eq_true rfl) (r_aload_n dX10_chirp_22 (i := 0) rfl rfl ?_))))
  refine r_get dX10_chirp_23 fl_X10_30 ps_same rfl ?_
  refine r_if_le 33 dX10_chirp_26 (by decide) (by omega) (fun c1 => ?_) (fun c1 => ?_)
  · obtain ⟨hth, hn1, hgd, hdv⟩ := noTrI_0 (show noTrI a q n (b2i (0 ≤ j ∧ j ≤ 2 * n)) = 0 by omega)
    have hj2 := b2i_ne hgd
    obtain ⟨hpa, hpr, hpp⟩ := pN_ok hp hth
    have htb := tri_bd (j := j) (by omega)
    have hrb := rtI_bd (p := pN a q) (n := n.toNat) (by omega)
    refine r_aload_n dX10_chirp_33 (i := 0) rfl rfl (r_iload_n dX10_chirp_34 (i := 1) rfl rfl (c_vr dX10_chirp_35 (c_X10_primeAt ps_same (ps_ne (by omega) ha) (by omega)) rfl rfl mq_X10_primeAt ml_X10_165 ⟨Nat.le_of_ble_eq_true rfl, Nat.le_of_ble_eq_true rfl⟩ ps_same rfl rfl rfl (Nat.le_of_ble_eq_true rfl) ?_))
    rw [hpa]
    refine r_iload_n dX10_chirp_38 (i := 2) rfl rfl (c_sr dX10_chirp_39 (c_X10_rootOfI hpr hpp ⟨by omega, by omega⟩) rfl rfl mq_X10_rootOf ml_X10_180 ⟨Nat.le_of_ble_eq_true rfl, Nat.le_of_ble_eq_true rfl⟩ rfl rfl (Nat.le_of_ble_eq_true rfl) (r_iload_n dX10_chirp_42 (i := 3) rfl rfl (r_i2l dX10_chirp_43 (by omega) (r_iload_n dX10_chirp_44 (i := 3) rfl rfl ?_))))
    refine r_iconst dX10_chirp_45 (r_isub dX10_chirp_46 (r_i2l dX10_chirp_47 (by omega) (r_lmul dX10_chirp_48 (r_ldc2 dX10_chirp_49 csj_X10_151 ?_))))
    refine r_ldivN dX10_chirp_52 (by omega) (by omega) (by omega) (by omega) (r_aload_n dX10_chirp_53 (i := 0) rfl rfl (r_iload_n dX10_chirp_54 (i := 1) rfl rfl (c_vr dX10_chirp_55 (c_X10_primeAt ps_same (ps_ne (by omega) ha) (by omega)) rfl rfl mq_X10_primeAt ml_X10_165 ⟨Nat.le_of_ble_eq_true rfl, Nat.le_of_ble_eq_true rfl⟩ ps_same rfl rfl rfl (Nat.le_of_ble_eq_true rfl) ?_)))
    rw [hpa]
    refine r_i2l dX10_chirp_58 (by omega) (c_sr dX10_chirp_59 (c_X10_powerOfI ⟨by omega, by omega⟩ hpr ⟨by omega, by omega⟩) rfl rfl mq_X10_powerOf ml_X10_155 ⟨Nat.le_of_ble_eq_true rfl, Nat.le_of_ble_eq_true rfl⟩ rfl rfl (Nat.le_of_ble_eq_true rfl) (r_l2i dX10_chirp_62 ?_))
    refine r_iret dX10_chirp_63 rfl rfl ?_
    exact mR_0 rfl rfl
  · refine r_iconst dX10_chirp_29 (r_goto 63 dX10_chirp_30 (by decide) ?_)
    refine r_iret dX10_chirp_63 rfl rfl ?_
    exact mR_t rfl (by omega)
theorem c_X10_size {kd s t n : Int} (h : S.1 m = some (mO m km th bu sz at' be ki wr wa ea nu bs bw bt')) (ha : S.1 (m + 1) = some (cJ 215 a)) (hl : ML a) (hs : RI s) (ht : RI t) (hk : RI kd) (hn : RI n) : PC g yX10_size cX10_size (iX10_size mc ms) [.ref m, vi kd, vi s, vi t, vi n] S (mR S m (fun k => mO m km k bu sz at' be ki wr wa ea nu bs bw bt') (refI a kd s t n) (vi (sizI a kd s t n))) := by
  refine PC_of pnX10 rfl rfl rfl (Nat.le_of_ble_eq_true rfl) ?_
  have hnb := refI_bd a kd s t n
  refine r_aload_n dX10_size_0 (i := 0) rfl rfl (r_aload_n dX10_size_1 (i := 0) rfl rfl (r_iload_n dX10_size_2 (i := 1) rfl rfl (r_iload_n dX10_size_3 (i := 2) rfl rfl (r_iload_n dX10_size_4 (i := 3) rfl rfl ?_))))
  refine r_iload dX10_size_5 rfl (c_vr dX10_size_7 (c_X10_refusal h ha hl hs ht hk hn) rfl rfl mq_X10_refusal ml_X10_244 ⟨Nat.le_of_ble_eq_true rfl, Nat.le_of_ble_eq_true rfl⟩ h rfl rfl rfl (Nat.le_of_ble_eq_true rfl) (r_put dX10_size_10 fl_X10_30 h rfl rfl (Nat.le_of_ble_eq_true rfl) (r_aload_n dX10_size_13 (i := 0) rfl rfl (r_get dX10_size_14 fl_X10_30 ps_same rfl ?_))))
  refine r_if_le 24 dX10_size_17 (by decide) (by omega) (fun c1 => ?_) (fun c1 => ?_)
  · have hz := refI_0 (show refI a kd s t n = 0 by omega)
    refine r_aload_n dX10_size_24 (i := 0) rfl rfl (r_iload_n dX10_size_25 (i := 1) rfl rfl (r_iload_n dX10_size_26 (i := 2) rfl rfl (r_iload_n dX10_size_27 (i := 3) rfl rfl (r_iload dX10_size_28 rfl ?_))))
    refine c_vr dX10_size_30 (c_X10_sizeOf ps_same (ps_ne (by omega) ha) hk (fun _ => hz.1.1)) rfl rfl mq_X10_sizeOf ml_X10_248 ⟨Nat.le_of_ble_eq_true rfl, Nat.le_of_ble_eq_true rfl⟩ ps_same rfl rfl rfl (Nat.le_of_ble_eq_true rfl) ?_
    refine r_iret dX10_size_33 rfl rfl ?_
    exact mR_0 rfl rfl
  · refine r_iconst dX10_size_20 (r_goto 33 dX10_size_21 (by decide) ?_)
    refine r_iret dX10_size_33 rfl rfl ?_
    exact mR_t rfl (by omega)
theorem c_X10_bound {s t : Int} (h : S.1 m = some (mO m km th bu sz at' be ki wr wa ea nu bs bw bt')) (ha : S.1 (m + 1) = some (cJ 215 a)) (hl : ML a) (hs : RI s) (ht : RI t) : PC g yX10_bound cX10_bound (iX10_bound mc ms) [.ref m, vi s, vi t] S (mR S m (fun k => mO m km k bu sz at' be ki wr wa ea nu bs bw bt') (lacksI a s t) (vl (bndI a s t))) := by
  refine PC_of pnX10 rfl rfl rfl (Nat.le_of_ble_eq_true rfl) ?_
  have hnb := lacksI_bd a s t
  refine r_aload_n dX10_bound_0 (i := 0) rfl rfl (r_aload_n dX10_bound_1 (i := 0) rfl rfl (r_iload_n dX10_bound_2 (i := 1) rfl rfl (r_iload_n dX10_bound_3 (i := 2) rfl rfl (c_vr dX10_bound_4 (c_X10_lacks h ha hl hs ht) rfl rfl mq_X10_lacks ml_X10_237 ⟨Nat.le_of_ble_eq_true rfl, Nat.le_of_ble_eq_true rfl⟩ h rfl rfl rfl (Nat.le_of_ble_eq_true rfl) ?_))))
  refine r_put dX10_bound_7 fl_X10_30 h rfl rfl (Nat.le_of_ble_eq_true rfl) (r_aload_n dX10_bound_10 (i := 0) rfl rfl (r_get dX10_bound_11 fl_X10_30 ps_same rfl ?_))
  refine r_if_le 21 dX10_bound_14 (by decide) (by omega) (fun c1 => ?_) (fun c1 => ?_)
  · have hz := lacksI_0 (show lacksI a s t = 0 by omega)
    refine r_aload_n dX10_bound_21 (i := 0) rfl rfl (r_iload_n dX10_bound_22 (i := 1) rfl rfl (r_iload_n dX10_bound_23 (i := 2) rfl rfl (c_vr dX10_bound_24 (c_X10_boundOf ps_same (ps_ne (by omega) ha) hl hz.1.1 hz.1.2) rfl rfl mq_X10_boundOf ml_X10_255 ⟨Nat.le_of_ble_eq_true rfl, Nat.le_of_ble_eq_true rfl⟩ ps_same rfl rfl rfl (Nat.le_of_ble_eq_true rfl) ?_)))
    refine r_lret dX10_bound_27 rfl ?_
    exact mR_0 rfl rfl
  · refine r_lconst (z := 0) dX10_bound_17 (by decide) (r_goto 27 dX10_bound_18 (by decide) ?_)
    refine r_lret dX10_bound_27 rfl ?_
    exact mR_t rfl (by omega)
theorem siz_bd {a : Int → Int} (hl : ML a) {kd s t n : Int} (h : refI a kd s t n = 0) : 1 ≤ sizI a kd s t n ∧ sizI a kd s t n ≤ 64 ∧ 0 ≤ kd ∧ kd ≤ 2 ∧ (kd = 0 ∨ (1 ≤ n ∧ n ≤ 64)) := by
  obtain ⟨h1, h2⟩ := refI_0 h
  have l1 := hl.1 s (by omega) (by omega)
  have l2 := hl.1 t (by omega) (by omega)
  unfold kindOk at h2
  unfold sizI
  split <;> omega
theorem c_X10_coefficient {kd s t n k : Int} (h : S.1 m = some (mO m km th bu sz at' be ki wr wa ea nu bs bw bt')) (ha : S.1 (m + 1) = some (cJ 215 a)) (hl : ML a) (hs : RI s) (ht : RI t) (hk : RI kd) (hn : RI n) (hkk : RI k) : PC g yX10_coefficient cX10_coefficient (iX10_coefficient mc ms) [.ref m, vi kd, vi s, vi t, vi n, vi k] S (mR S m (fun k => mO m km k bu sz at' be ki wr wa ea nu bs bw bt') (kCoef a kd s t n k) (vl (cfI kd n k (tmF a s) (tmF a t) (a (7 + t)).toNat (a (7 + s)).toNat))) := by
  refine PC_of pnX10 rfl rfl rfl (Nat.le_of_ble_eq_true rfl) ?_
  have hnb := refI_bd a kd s t n
  refine r_aload_n dX10_coefficient_0 (i := 0) rfl rfl (r_aload_n dX10_coefficient_1 (i := 0) rfl rfl (r_iload_n dX10_coefficient_2 (i := 1) rfl rfl (r_iload_n dX10_coefficient_3 (i := 2) rfl rfl (r_iload_n dX10_coefficient_4 (i := 3) rfl rfl ?_))))
  refine r_iload dX10_coefficient_5 rfl (c_vr dX10_coefficient_7 (c_X10_refusal h ha hl hs ht hk hn) rfl rfl mq_X10_refusal ml_X10_244 ⟨Nat.le_of_ble_eq_true rfl, Nat.le_of_ble_eq_true rfl⟩ h rfl rfl rfl (Nat.le_of_ble_eq_true rfl) (r_put dX10_coefficient_10 fl_X10_30 h rfl rfl (Nat.le_of_ble_eq_true rfl) (r_aload_n dX10_coefficient_13 (i := 0) rfl rfl (r_get dX10_coefficient_14 fl_X10_30 ps_same rfl ?_))))
  refine r_if_ne 47 dX10_coefficient_17 (by decide) (by omega) (fun c1 => ?_) (fun c1 => ?_)
  · refine r_aload_n dX10_coefficient_47 (i := 0) rfl rfl (r_get dX10_coefficient_48 fl_X10_30 ps_same rfl ?_)
    refine r_if_le 58 dX10_coefficient_51 (by decide) (by omega) (fun c2 => ?_) (fun c2 => ?_)
    · have hr0 : refI a kd s t n = 0 := by omega
      have hz := refI_0 hr0
      have hsb := siz_bd hl hr0
      refine r_aload_n dX10_coefficient_58 (i := 0) rfl rfl (r_iload_n dX10_coefficient_59 (i := 1) rfl rfl (r_iload_n dX10_coefficient_60 (i := 2) rfl rfl (r_iload_n dX10_coefficient_61 (i := 3) rfl rfl (r_iload dX10_coefficient_62 rfl ?_))))
      refine r_iload dX10_coefficient_64 rfl (c_vr dX10_coefficient_66 (c_X10_coefficientOf ps_same (ps_ne (by omega) ha) hl hz.1.1.1 hz.1.1.2 ⟨by omega, by omega⟩ (by omega) hn (by omega)) rfl rfl mq_X10_coefficientOf ml_X10_258 ⟨Nat.le_of_ble_eq_true rfl, Nat.le_of_ble_eq_true rfl⟩ ps_same rfl rfl rfl (Nat.le_of_ble_eq_true rfl) ?_)
      refine r_lret dX10_coefficient_69 rfl ?_
      first
        | omega
        | exact mR_t (k' := refI a kd s t n) (by unfold kCoef; rw [if_neg (by omega)]) (by omega)
        | (rw [ps_put_put]; exact mR_t (by unfold kCoef; rw [if_pos (by omega), if_neg (by omega)]) (by decide))
        | exact mR_0 (by unfold kCoef; rw [if_pos (by omega), if_pos (by omega)]; omega) rfl
    · refine r_lconst (z := 0) dX10_coefficient_54 (by decide) (r_goto 69 dX10_coefficient_55 (by decide) ?_)
      refine r_lret dX10_coefficient_69 rfl ?_
      first
        | omega
        | exact mR_t (k' := refI a kd s t n) (by unfold kCoef; rw [if_neg (by omega)]) (by omega)
        | (rw [ps_put_put]; exact mR_t (by unfold kCoef; rw [if_pos (by omega), if_neg (by omega)]) (by decide))
        | exact mR_0 (by unfold kCoef; rw [if_pos (by omega), if_pos (by omega)]; omega) rfl
  · have hr0 : refI a kd s t n = 0 := by omega
    have hz := refI_0 hr0
    have hsb := siz_bd hl hr0
    refine r_iload dX10_coefficient_20 rfl (r_i2l dX10_coefficient_22 (by omega) (r_lconst (z := 0) dX10_coefficient_23 (by decide) (r_aload_n dX10_coefficient_24 (i := 0) rfl rfl (r_iload_n dX10_coefficient_25 (i := 1) rfl rfl ?_))))
    refine r_iload_n dX10_coefficient_26 (i := 2) rfl rfl (r_iload_n dX10_coefficient_27 (i := 3) rfl rfl (r_iload dX10_coefficient_28 rfl (c_vr dX10_coefficient_30 (c_X10_sizeOf ps_same (ps_ne (by omega) ha) hk (fun _ => hz.1.1)) rfl rfl mq_X10_sizeOf ml_X10_248 ⟨Nat.le_of_ble_eq_true rfl, Nat.le_of_ble_eq_true rfl⟩ ps_same rfl rfl rfl (Nat.le_of_ble_eq_true rfl) (r_iconst dX10_coefficient_33 ?_))))
    refine r_isub dX10_coefficient_34 (r_i2l dX10_coefficient_35 (by omega) (c_sr dX10_coefficient_36 (c_X10_isIn ⟨by omega, by omega⟩ ⟨by omega, by omega⟩ ⟨by omega, by omega⟩) rfl rfl mq_X10_isIn ml_X10_46 ⟨Nat.le_of_ble_eq_true rfl, Nat.le_of_ble_eq_true rfl⟩ rfl rfl (Nat.le_of_ble_eq_true rfl) ?_))
    refine r_if_ne 47 dX10_coefficient_39 (by decide) b2i_RI (fun c3 => ?_) (fun c3 => ?_)
    · replace c3 := b2i_ne c3
      refine r_aload_n dX10_coefficient_47 (i := 0) rfl rfl (r_get dX10_coefficient_48 fl_X10_30 ps_same rfl ?_)
      refine r_if_le 58 dX10_coefficient_51 (by decide) (by omega) (fun c4 => ?_) (fun c4 => ?_)
      · have hr0 : refI a kd s t n = 0 := by omega
        have hz := refI_0 hr0
        have hsb := siz_bd hl hr0
        refine r_aload_n dX10_coefficient_58 (i := 0) rfl rfl (r_iload_n dX10_coefficient_59 (i := 1) rfl rfl (r_iload_n dX10_coefficient_60 (i := 2) rfl rfl (r_iload_n dX10_coefficient_61 (i := 3) rfl rfl (r_iload dX10_coefficient_62 rfl ?_))))
        refine r_iload dX10_coefficient_64 rfl (c_vr dX10_coefficient_66 (c_X10_coefficientOf ps_same (ps_ne (by omega) ha) hl hz.1.1.1 hz.1.1.2 ⟨by omega, by omega⟩ (by omega) hn (by omega)) rfl rfl mq_X10_coefficientOf ml_X10_258 ⟨Nat.le_of_ble_eq_true rfl, Nat.le_of_ble_eq_true rfl⟩ ps_same rfl rfl rfl (Nat.le_of_ble_eq_true rfl) ?_)
        refine r_lret dX10_coefficient_69 rfl ?_
        first
          | omega
          | exact mR_t (k' := refI a kd s t n) (by unfold kCoef; rw [if_neg (by omega)]) (by omega)
          | (rw [ps_put_put]; exact mR_t (by unfold kCoef; rw [if_pos (by omega), if_neg (by omega)]) (by decide))
          | exact mR_0 (by unfold kCoef; rw [if_pos (by omega), if_pos (by omega)]; omega) rfl
      · refine r_lconst (z := 0) dX10_coefficient_54 (by decide) (r_goto 69 dX10_coefficient_55 (by decide) ?_)
        refine r_lret dX10_coefficient_69 rfl ?_
        first
          | omega
          | exact mR_t (k' := refI a kd s t n) (by unfold kCoef; rw [if_neg (by omega)]) (by omega)
          | (rw [ps_put_put]; exact mR_t (by unfold kCoef; rw [if_pos (by omega), if_neg (by omega)]) (by decide))
          | exact mR_0 (by unfold kCoef; rw [if_pos (by omega), if_pos (by omega)]; omega) rfl
    · replace c3 := b2i_eq c3
      refine r_aload_n dX10_coefficient_42 (i := 0) rfl rfl (r_iconst dX10_coefficient_43 (r_put dX10_coefficient_44 fl_X10_30 ps_same rfl rfl (Nat.le_of_ble_eq_true rfl) (r_aload_n dX10_coefficient_47 (i := 0) rfl rfl (r_get dX10_coefficient_48 fl_X10_30 ps_same rfl ?_))))
      refine r_if_le 58 dX10_coefficient_51 (by decide) (by omega) (fun c5 => ?_) (fun c5 => ?_)
      · omega
      · refine r_lconst (z := 0) dX10_coefficient_54 (by decide) (r_goto 69 dX10_coefficient_55 (by decide) ?_)
        refine r_lret dX10_coefficient_69 rfl ?_
        first
          | omega
          | exact mR_t (k' := refI a kd s t n) (by unfold kCoef; rw [if_neg (by omega)]) (by omega)
          | (rw [ps_put_put]; exact mR_t (by unfold kCoef; rw [if_pos (by omega), if_neg (by omega)]) (by decide))
          | exact mR_0 (by unfold kCoef; rw [if_pos (by omega), if_pos (by omega)]; omega) rfl
theorem c_X10_isEnough {set s t : Int} (h : S.1 m = some (mO m km th bu sz at' be ki wr wa ea nu bs bw bt')) (ha : S.1 (m + 1) = some (cJ 215 a)) (hp : MP a) (hl : ML a) (hset : RI set) (hs : RI s) (ht : RI t) : PC g yX10_isEnough cX10_isEnough (iX10_isEnough mc ms) [.ref m, vi set, vi s, vi t] S (mR S m (fun k => mO m km k bu sz at' be ki wr wa ea nu bs bw bt') (kEnough a set s t) (vi (b2i (0 < set ∧ 2 * bndI a s t < prC a set)))) := by
  refine PC_of pnX10 rfl rfl rfl (Nat.le_of_ble_eq_true rfl) ?_
  have h0 := hp.1
  have h2 := p2_bd h0
  have hnb := lacksI_bd a s t
  refine r_aload_n dX10_isEnough_0 (i := 0) rfl rfl (r_aload_n dX10_isEnough_1 (i := 0) rfl rfl (r_iload_n dX10_isEnough_2 (i := 1) rfl rfl (c_vr dX10_isEnough_3 (c_X10_isSet h ha h0 hset) rfl rfl mq_X10_isSet ml_X10_231 ⟨Nat.le_of_ble_eq_true rfl, Nat.le_of_ble_eq_true rfl⟩ h rfl rfl rfl (Nat.le_of_ble_eq_true rfl) ?_)))
  refine r_if_eq 18 dX10_isEnough_6 (by decide) b2i_RI (fun c1 => ?_) (fun c1 => ?_)
  · replace c1 := b2i_eq c1
    refine r_iconst dX10_isEnough_18 (r_put dX10_isEnough_19 fl_X10_30 h rfl rfl (Nat.le_of_ble_eq_true rfl) (r_aload_n dX10_isEnough_22 (i := 0) rfl rfl (r_get dX10_isEnough_23 fl_X10_30 ps_same rfl ?_)))
    refine r_if_ne 47 dX10_isEnough_26 (by decide) (by omega) (fun c2 => ?_) (fun c2 => ?_)
    · refine r_iconst dX10_isEnough_47 ?_
      refine r_iret dX10_isEnough_48 rfl (q_narZ (by first | exact Or.inl rfl | exact Or.inr rfl)) ?_
      first
        | omega
        | exact mR_t (k' := lacksI a s t) (by unfold kEnough; rw [if_pos (by omega)]) (by omega)
        | exact mR_t (by unfold kEnough; rw [if_neg (by omega)]) (by decide)
        | exact mR_0 (k' := lacksI a s t) (by unfold kEnough; rw [if_pos (by omega)]) (by rw [b2i_t (by omega)])
        | exact mR_0 (k' := lacksI a s t) (by unfold kEnough; rw [if_pos (by omega)]) (by rw [b2i_f (by omega)])
    · omega
  · replace c1 := b2i_ne c1
    refine r_aload_n dX10_isEnough_9 (i := 0) rfl rfl (r_iload_n dX10_isEnough_10 (i := 2) rfl rfl (r_iload_n dX10_isEnough_11 (i := 3) rfl rfl (c_vr dX10_isEnough_12 (c_X10_lacks h ha hl hs ht) rfl rfl mq_X10_lacks ml_X10_237 ⟨Nat.le_of_ble_eq_true rfl, Nat.le_of_ble_eq_true rfl⟩ h rfl rfl rfl (Nat.le_of_ble_eq_true rfl) (r_goto 19 dX10_isEnough_15 (by decide) ?_))))
    refine r_put dX10_isEnough_19 fl_X10_30 h rfl rfl (Nat.le_of_ble_eq_true rfl) (r_aload_n dX10_isEnough_22 (i := 0) rfl rfl (r_get dX10_isEnough_23 fl_X10_30 ps_same rfl ?_))
    refine r_if_ne 47 dX10_isEnough_26 (by decide) (by omega) (fun c3 => ?_) (fun c3 => ?_)
    · refine r_iconst dX10_isEnough_47 ?_
      refine r_iret dX10_isEnough_48 rfl (q_narZ (by first | exact Or.inl rfl | exact Or.inr rfl)) ?_
      first
        | omega
        | exact mR_t (k' := lacksI a s t) (by unfold kEnough; rw [if_pos (by omega)]) (by omega)
        | exact mR_t (by unfold kEnough; rw [if_neg (by omega)]) (by decide)
        | exact mR_0 (k' := lacksI a s t) (by unfold kEnough; rw [if_pos (by omega)]) (by rw [b2i_t (by omega)])
        | exact mR_0 (k' := lacksI a s t) (by unfold kEnough; rw [if_pos (by omega)]) (by rw [b2i_f (by omega)])
    · have hz := lacksI_0 (show lacksI a s t = 0 by omega)
      have hbb := (bnd_bd hl hz.1.1 hz.1.2).2.2.2
      refine r_aload_n dX10_isEnough_29 (i := 0) rfl rfl (r_iload_n dX10_isEnough_30 (i := 1) rfl rfl (r_aload_n dX10_isEnough_31 (i := 0) rfl rfl (r_iload_n dX10_isEnough_32 (i := 2) rfl rfl (r_iload_n dX10_isEnough_33 (i := 3) rfl rfl ?_))))
      refine c_vr dX10_isEnough_34 (c_X10_boundOf ps_same (ps_ne (by omega) ha) hl hz.1.1 hz.1.2) rfl rfl mq_X10_boundOf ml_X10_255 ⟨Nat.le_of_ble_eq_true rfl, Nat.le_of_ble_eq_true rfl⟩ ps_same rfl rfl rfl (Nat.le_of_ble_eq_true rfl) (c_vr dX10_isEnough_37 (c_X10_areEnough ps_same (ps_ne (by omega) ha) hp (by omega) hbb) rfl rfl mq_X10_areEnough ml_X10_269 ⟨Nat.le_of_ble_eq_true rfl, Nat.le_of_ble_eq_true rfl⟩ ps_same rfl rfl rfl (Nat.le_of_ble_eq_true rfl) ?_)
      refine r_if_eq 47 dX10_isEnough_40 (by decide) b2i_RI (fun c4 => ?_) (fun c4 => ?_)
      · replace c4 := b2i_eq c4
        refine r_iconst dX10_isEnough_47 ?_
        refine r_iret dX10_isEnough_48 rfl (q_narZ (by first | exact Or.inl rfl | exact Or.inr rfl)) ?_
        first
          | omega
          | exact mR_t (k' := lacksI a s t) (by unfold kEnough; rw [if_pos (by omega)]) (by omega)
          | exact mR_t (by unfold kEnough; rw [if_neg (by omega)]) (by decide)
          | exact mR_0 (k' := lacksI a s t) (by unfold kEnough; rw [if_pos (by omega)]) (by rw [b2i_t (by omega)])
          | exact mR_0 (k' := lacksI a s t) (by unfold kEnough; rw [if_pos (by omega)]) (by rw [b2i_f (by omega)])
      · replace c4 := b2i_ne c4
        refine r_iconst dX10_isEnough_43 (r_goto 48 dX10_isEnough_44 (by decide) ?_)
        refine r_iret dX10_isEnough_48 rfl (q_narZ (by first | exact Or.inl rfl | exact Or.inr rfl)) ?_
        first
          | omega
          | exact mR_t (k' := lacksI a s t) (by unfold kEnough; rw [if_pos (by omega)]) (by omega)
          | exact mR_t (by unfold kEnough; rw [if_neg (by omega)]) (by decide)
          | exact mR_0 (k' := lacksI a s t) (by unfold kEnough; rw [if_pos (by omega)]) (by rw [b2i_t (by omega)])
          | exact mR_0 (k' := lacksI a s t) (by unfold kEnough; rw [if_pos (by omega)]) (by rw [b2i_f (by omega)])
theorem l_longest {set : Int} (h : S.1 m = some (cO 10 (.ref (m + 1) :: fs))) (ha : S.1 (m + 1) = some (cJ 215 a)) (hp : MP a) (hs : 0 ≤ set ∧ set ≤ 64) (hq : Q (.inl (some (vi (lgS a set 64)))) S) : ∀ n : Nat, 1 ≤ n → n ≤ 64 → lgS a set n = lgS a set 64 →
    PW g cX10_longest (iX10_longest mc ms) 29 [(0, some (.ref m)), (1, some (vi set)), (2, some (vi (n : Int)))] [] S kc ks Q := by
  intro n
  induction n with
  | zero =>
    intro h1
    omega
  | succ n ih =>
    intro h1 h2 he
    have es : lgS a set (n + 1) = if b2c (HaveAll a set ((n + 1 : Nat) : Int)) = 1 then ((n + 1 : Nat) : Int) else lgS a set n := rfl
    refine r_aload_n dX10_longest_29 (i := 0) rfl rfl (r_iload_n dX10_longest_30 (i := 1) rfl rfl (r_iload_n dX10_longest_31 (i := 2) rfl rfl (c_vr dX10_longest_32 (c_X10_allHave h ha hp hs (by omega)) rfl rfl mq_X10_allHave ml_X10_234 ⟨Nat.le_of_ble_eq_true rfl, Nat.le_of_ble_eq_true rfl⟩ h rfl rfl rfl (Nat.le_of_ble_eq_true rfl) ?_)))
    refine r_if_ne 44 dX10_longest_35 (by decide) b2c_RI (fun c1 => ?_) (fun c1 => ?_)
    · replace c1 := b2c_ne c1
      refine r_iload_n dX10_longest_44 (i := 2) rfl rfl ?_
      refine r_iret dX10_longest_45 rfl rfl ?_
      rw [← he, es, b2c_t (by assumption), if_pos rfl] at hq
      exact hq
    · replace c1 := b2c_eq c1
      refine r_iinc dX10_longest_38 rfl rfl (r_goto 29 dX10_longest_41 (by decide) ?_)
      rw [b2c_f (by assumption), if_neg (by decide)] at es
      have hn1 : 1 ≤ n := by
        rcases Nat.eq_zero_or_pos n with z | z
        · subst z
          exact absurd (fun k _ _ _ => Int.emod_one _) (by assumption)
        · exact z
      exact r_loc [(0, some (.ref m)), (1, some (vi set)), (2, some (vi (n : Int)))] ⟨Or.inl rfl, Or.inl rfl, Or.inl (lvi_eq (by omega)), trivial⟩ (ih hn1 (by omega) (by rw [← he, es]))
def kSet (a : Int → Int) (set : Int) : Int := if 0 ≤ set ∧ set ≤ 2 ^ (a 0).toNat - 1 then 0 else 1
theorem c_X10_longest {set : Int} (h : S.1 m = some (mO m km th bu sz at' be ki wr wa ea nu bs bw bt')) (ha : S.1 (m + 1) = some (cJ 215 a)) (hp : MP a) (hset : RI set) : PC g yX10_longest cX10_longest (iX10_longest mc ms) [.ref m, vi set] S (mR S m (fun k => mO m km k bu sz at' be ki wr wa ea nu bs bw bt') (kSet a set) (vi (lgS a set 64))) := by
  refine PC_of pnX10 rfl rfl rfl (Nat.le_of_ble_eq_true rfl) ?_
  have h0 := hp.1
  have h2 := p2_bd h0
  refine r_aload_n dX10_longest_0 (i := 0) rfl rfl (r_aload_n dX10_longest_1 (i := 0) rfl rfl (r_iload_n dX10_longest_2 (i := 1) rfl rfl (c_vr dX10_longest_3 (c_X10_isSet h ha h0 hset) rfl rfl mq_X10_isSet ml_X10_231 ⟨Nat.le_of_ble_eq_true rfl, Nat.le_of_ble_eq_true rfl⟩ h rfl rfl rfl (Nat.le_of_ble_eq_true rfl) ?_)))
  refine r_if_eq 13 dX10_longest_6 (by decide) b2i_RI (fun c1 => ?_) (fun c1 => ?_)
  · replace c1 := b2i_eq c1
    refine r_iconst dX10_longest_13 (r_put dX10_longest_14 fl_X10_30 h rfl rfl (Nat.le_of_ble_eq_true rfl) (r_aload_n dX10_longest_17 (i := 0) rfl rfl (r_get dX10_longest_18 fl_X10_30 ps_same rfl ?_)))
    refine r_if_le 26 dX10_longest_21 (by decide) (by omega) (fun c2 => ?_) (fun c2 => ?_)
    · omega
    · refine r_iconst dX10_longest_24 ?_
      refine r_iret dX10_longest_25 rfl rfl ?_
      exact mR_t (by unfold kSet; rw [if_neg (by omega)]) (by decide)
  · replace c1 := b2i_ne c1
    refine r_iconst dX10_longest_9 (r_goto 14 dX10_longest_10 (by decide) (r_put dX10_longest_14 fl_X10_30 h rfl rfl (Nat.le_of_ble_eq_true rfl) (r_aload_n dX10_longest_17 (i := 0) rfl rfl (r_get dX10_longest_18 fl_X10_30 ps_same rfl ?_))))
    refine r_if_le 26 dX10_longest_21 (by decide) (by omega) (fun c3 => ?_) (fun c3 => ?_)
    · refine r_bipush dX10_longest_26 (by decide) (r_istore_n dX10_longest_28 (i := 2) rfl rfl (Nat.le_of_ble_eq_true rfl) ?_)
      refine r_loc [(0, some (.ref m)), (1, some (vi set)), (2, some (vi ((64 : Nat) : Int)))] ⟨Or.inl rfl, Or.inl rfl, Or.inl rfl, trivial⟩ ?_
      refine l_longest ps_same (ps_ne (by omega) ha) hp (by omega) ?_ 64 (by omega) (by omega) rfl
      exact mR_0 (by unfold kSet; rw [if_pos (by omega)]) rfl
    · omega
theorem l_usable {kd n od : Int} (h : S.1 m = some (cO 10 (.ref (m + 1) :: fs))) (ha : S.1 (m + 1) = some (cJ 215 a)) (hp : MP a) (hkd : RI kd) (hn : 1 ≤ n ∧ n ≤ 64) (hod : od = if kd = 2 then 2 * n else n) (hq : Q (.inl (some (vi (usI a od (a 0).toNat)))) S) : ∀ (r k : Nat), (k : Int) + r = a 0 →
    PW g cX10_usable (iX10_usable mc ms) 47 [(0, some (.ref m)), (1, some (vi kd)), (2, some (vi n)), (3, some (vi (usI a od k))), (4, some (vi (k : Int)))] [] S kc ks Q := by
  intro r
  have h0 := hp.1
  induction r with
  | zero =>
    intro k hk
    refine r_iload dX10_usable_47 rfl (r_i2l dX10_usable_49 (by omega) (r_aload_n dX10_usable_50 (i := 0) rfl rfl (r_get dX10_usable_51 fl_X10_7 h rfl (r_iconst dX10_usable_54 ?_))))
    refine r_lald dX10_usable_55 ha (by omega) (by omega) (by omega) ?_
    refine r_lcmp_ge 101 dX10_usable_56 dX10_usable_57 (by decide) (by omega) (by omega) (fun c1 => ?_) (fun c1 => ?_)
    · refine r_iload_n dX10_usable_101 (i := 3) rfl rfl ?_
      refine r_iret dX10_usable_102 rfl rfl ?_
      rw [show (a 0).toNat = k by omega] at hq
      exact hq
    · omega
  | succ r ih =>
    intro k hk
    have hpk := hp.2 k (by omega) (by omega)
    have hub := usI_bd a od k
    have hpp := Nat.pow_le_pow_right (show 0 < 2 by omega) (show k ≤ 6 by omega)
    have hpc : ((2 ^ k : Nat) : Int) = (2 : Int) ^ k := Int.natCast_pow 2 k
    have hod2 : 1 ≤ od ∧ od ≤ 128 := by
      rw [hod]
      split <;> omega
    have e1 := Int.emod_nonneg (a (1 + (k : Int)) - 1) (show od ≠ 0 by omega)
    have e2 := Int.emod_lt_of_pos (a (1 + (k : Int)) - 1) (show 0 < od by omega)
    have eu : usI a od (k + 1) = usI a od k + (if (a (1 + (k : Int)) - 1) % od = 0 then 2 ^ k else 0) := rfl
    have fin : PW g cX10_usable (iX10_usable mc ms) 81 [(0, some (.ref m)), (1, some (vi kd)), (2, some (vi n)), (3, some (vi (usI a od k))), (4, some (vi (k : Int)))] [vi od, vi (a (1 + (k : Int)) - 1), vi (usI a od k)] S kc ks Q := by
      refine r_iremN dX10_usable_81 (by omega) (by omega) (by omega) (by omega) ?_
      refine r_if_ne 92 dX10_usable_82 (by decide) (by omega) (fun c1 => ?_) (fun c1 => ?_)
      · refine r_iconst dX10_usable_92 ?_
        refine r_ior (usI a od k) dX10_usable_93 (q_or0 (by omega)) ?_
        refine r_istore_n dX10_usable_94 (i := 3) rfl rfl (Nat.le_of_ble_eq_true rfl) (r_iinc dX10_usable_95 rfl rfl (r_goto 47 dX10_usable_98 (by decide) ?_))
        rw [if_neg (by omega), Int.add_zero] at eu
        exact r_loc [(0, some (.ref m)), (1, some (vi kd)), (2, some (vi n)), (3, some (vi (usI a od (k + 1)))), (4, some (vi ((k + 1 : Nat) : Int)))] ⟨Or.inl rfl, Or.inl rfl, Or.inl rfl, Or.inl (lvi_eq eu), Or.inl rfl, trivial⟩ (ih (k + 1) (by omega))
      · refine r_iconst dX10_usable_85 (r_iload dX10_usable_86 rfl ?_)
        refine r_ishl (2 ^ k) dX10_usable_88 (q_shl1 (k := (k : Int)) (by omega)) ?_
        refine r_goto 93 dX10_usable_89 (by decide) ?_
        refine r_ior (usI a od k + 2 ^ k) dX10_usable_93 (q_orP (by omega) hub) ?_
        refine r_istore_n dX10_usable_94 (i := 3) rfl rfl (Nat.le_of_ble_eq_true rfl) (r_iinc dX10_usable_95 rfl rfl (r_goto 47 dX10_usable_98 (by decide) ?_))
        rw [if_pos (by omega)] at eu
        exact r_loc [(0, some (.ref m)), (1, some (vi kd)), (2, some (vi n)), (3, some (vi (usI a od (k + 1)))), (4, some (vi ((k + 1 : Nat) : Int)))] ⟨Or.inl rfl, Or.inl rfl, Or.inl rfl, Or.inl (lvi_eq eu), Or.inl rfl, trivial⟩ (ih (k + 1) (by omega))
    by_cases hk2 : kd = 2
    · rw [if_pos hk2] at hod
      refine r_iload dX10_usable_47 rfl (r_i2l dX10_usable_49 (by omega) (r_aload_n dX10_usable_50 (i := 0) rfl rfl (r_get dX10_usable_51 fl_X10_7 h rfl (r_iconst dX10_usable_54 ?_))))
      refine r_lald dX10_usable_55 ha (by omega) (by omega) (by omega) ?_
      refine r_lcmp_ge 101 dX10_usable_56 dX10_usable_57 (by decide) (by omega) (by omega) (fun c1 => ?_) (fun c1 => ?_)
      · omega
      · refine r_iload_n dX10_usable_60 (i := 3) rfl rfl (r_aload_n dX10_usable_61 (i := 0) rfl rfl (r_iload dX10_usable_62 rfl (c_vr dX10_usable_64 (c_X10_primeAt h ha (by omega)) rfl rfl mq_X10_primeAt ml_X10_165 ⟨Nat.le_of_ble_eq_true rfl, Nat.le_of_ble_eq_true rfl⟩ h rfl rfl rfl (Nat.le_of_ble_eq_true rfl) (r_iconst dX10_usable_67 ?_))))
        refine r_isub dX10_usable_68 (r_iload_n dX10_usable_69 (i := 1) rfl rfl (r_iconst dX10_usable_70 ?_))
        refine r_icmp_ne 80 dX10_usable_71 (by decide) (by omega) (by omega) (fun c2 => ?_) (fun c2 => ?_)
        · refine r_iload_n dX10_usable_80 (i := 2) rfl rfl ?_
          first
            | omega
            | (subst hod; exact fin)
        · refine r_iconst dX10_usable_74 (r_iload_n dX10_usable_75 (i := 2) rfl rfl (r_imul dX10_usable_76 (r_goto 81 dX10_usable_77 (by decide) ?_)))
          first
            | omega
            | (subst hod; exact fin)
    · rw [if_neg hk2] at hod
      refine r_iload dX10_usable_47 rfl (r_i2l dX10_usable_49 (by omega) (r_aload_n dX10_usable_50 (i := 0) rfl rfl (r_get dX10_usable_51 fl_X10_7 h rfl (r_iconst dX10_usable_54 ?_))))
      refine r_lald dX10_usable_55 ha (by omega) (by omega) (by omega) ?_
      refine r_lcmp_ge 101 dX10_usable_56 dX10_usable_57 (by decide) (by omega) (by omega) (fun c1 => ?_) (fun c1 => ?_)
      · omega
      · refine r_iload_n dX10_usable_60 (i := 3) rfl rfl (r_aload_n dX10_usable_61 (i := 0) rfl rfl (r_iload dX10_usable_62 rfl (c_vr dX10_usable_64 (c_X10_primeAt h ha (by omega)) rfl rfl mq_X10_primeAt ml_X10_165 ⟨Nat.le_of_ble_eq_true rfl, Nat.le_of_ble_eq_true rfl⟩ h rfl rfl rfl (Nat.le_of_ble_eq_true rfl) (r_iconst dX10_usable_67 ?_))))
        refine r_isub dX10_usable_68 (r_iload_n dX10_usable_69 (i := 1) rfl rfl (r_iconst dX10_usable_70 ?_))
        refine r_icmp_ne 80 dX10_usable_71 (by decide) (by omega) (by omega) (fun c2 => ?_) (fun c2 => ?_)
        · refine r_iload_n dX10_usable_80 (i := 2) rfl rfl ?_
          first
            | omega
            | (subst hod; exact fin)
        · refine r_iconst dX10_usable_74 (r_iload_n dX10_usable_75 (i := 2) rfl rfl (r_imul dX10_usable_76 (r_goto 81 dX10_usable_77 (by decide) ?_)))
          first
            | omega
            | (subst hod; exact fin)
theorem c_X10_usable {kd n : Int} (h : S.1 m = some (mO m km th bu sz at' be ki wr wa ea nu bs bw bt')) (ha : S.1 (m + 1) = some (cJ 215 a)) (hp : MP a) (hk : RI kd) (hn : RI n) : PC g yX10_usable cX10_usable (iX10_usable mc ms) [.ref m, vi kd, vi n] S (mR S m (fun k => mO m km k bu sz at' be ki wr wa ea nu bs bw bt') (kUsable kd n) (vi (usI a (if kd = 2 then 2 * n else n) (a 0).toNat))) := by
  refine PC_of pnX10 rfl rfl rfl (Nat.le_of_ble_eq_true rfl) ?_
  have h0 := hp.1
  refine r_aload_n dX10_usable_0 (i := 0) rfl rfl (r_iload_n dX10_usable_1 (i := 1) rfl rfl (r_i2l dX10_usable_2 (by omega) (r_lconst (z := 0) dX10_usable_3 (by decide) (r_ldc2 dX10_usable_4 csj_X10_151 ?_))))
  refine c_sr dX10_usable_7 (c_X10_isIn ⟨by omega, by omega⟩ ⟨by omega, by omega⟩ ⟨by omega, by omega⟩) rfl rfl mq_X10_isIn ml_X10_46 ⟨Nat.le_of_ble_eq_true rfl, Nat.le_of_ble_eq_true rfl⟩ rfl rfl (Nat.le_of_ble_eq_true rfl) ?_
  refine r_if_eq 29 dX10_usable_10 (by decide) b2i_RI (fun c1 => ?_) (fun c1 => ?_)
  · replace c1 := b2i_eq c1
    refine r_iconst dX10_usable_29 (r_put dX10_usable_30 fl_X10_30 h rfl rfl (Nat.le_of_ble_eq_true rfl) (r_aload_n dX10_usable_33 (i := 0) rfl rfl (r_get dX10_usable_34 fl_X10_30 ps_same rfl ?_)))
    refine r_if_le 42 dX10_usable_37 (by decide) (by omega) (fun c2 => ?_) (fun c2 => ?_)
    · omega
    · refine r_iconst dX10_usable_40 ?_
      refine r_iret dX10_usable_41 rfl rfl ?_
      exact mR_t (by unfold kUsable; rw [if_neg (by omega)]) (by decide)
  · replace c1 := b2i_ne c1
    refine r_iload_n dX10_usable_13 (i := 2) rfl rfl (r_i2l dX10_usable_14 (by omega) (r_lconst (z := 1) dX10_usable_15 (by decide) (r_ldc2 dX10_usable_16 csj_X10_218 (c_sr dX10_usable_19 (c_X10_isIn ⟨by omega, by omega⟩ ⟨by omega, by omega⟩ ⟨by omega, by omega⟩) rfl rfl mq_X10_isIn ml_X10_46 ⟨Nat.le_of_ble_eq_true rfl, Nat.le_of_ble_eq_true rfl⟩ rfl rfl (Nat.le_of_ble_eq_true rfl) ?_))))
    refine r_if_eq 29 dX10_usable_22 (by decide) b2i_RI (fun c3 => ?_) (fun c3 => ?_)
    · replace c3 := b2i_eq c3
      refine r_iconst dX10_usable_29 (r_put dX10_usable_30 fl_X10_30 h rfl rfl (Nat.le_of_ble_eq_true rfl) (r_aload_n dX10_usable_33 (i := 0) rfl rfl (r_get dX10_usable_34 fl_X10_30 ps_same rfl ?_)))
      refine r_if_le 42 dX10_usable_37 (by decide) (by omega) (fun c4 => ?_) (fun c4 => ?_)
      · omega
      · refine r_iconst dX10_usable_40 ?_
        refine r_iret dX10_usable_41 rfl rfl ?_
        exact mR_t (by unfold kUsable; rw [if_neg (by omega)]) (by decide)
    · replace c3 := b2i_ne c3
      refine r_iconst dX10_usable_25 (r_goto 30 dX10_usable_26 (by decide) (r_put dX10_usable_30 fl_X10_30 h rfl rfl (Nat.le_of_ble_eq_true rfl) (r_aload_n dX10_usable_33 (i := 0) rfl rfl (r_get dX10_usable_34 fl_X10_30 ps_same rfl ?_))))
      refine r_if_le 42 dX10_usable_37 (by decide) (by omega) (fun c5 => ?_) (fun c5 => ?_)
      · refine r_iconst dX10_usable_42 (r_istore_n dX10_usable_43 (i := 3) rfl rfl (Nat.le_of_ble_eq_true rfl) (r_iconst dX10_usable_44 (r_istore dX10_usable_45 rfl (Nat.le_of_ble_eq_true rfl) ?_)))
        refine r_loc [(0, some (.ref m)), (1, some (vi kd)), (2, some (vi n)), (3, some (vi (usI a (if kd = 2 then 2 * n else n) (0 : Nat)))), (4, some (vi ((0 : Nat) : Int)))] ⟨Or.inl rfl, Or.inl rfl, Or.inl rfl, Or.inl rfl, Or.inl rfl, trivial⟩ ?_
        refine l_usable ps_same (ps_ne (by omega) ha) hp hk (by omega) rfl ?_ (a 0).toNat 0 (by omega)
        exact mR_0 (by unfold kUsable; rw [if_pos (by omega)]) rfl
      · omega
theorem prI_01 (n : Nat) : prI n = 0 ∨ prI n = 1 := @b2i_01 _ (Classical.propDecidable _)
theorem pf_pos {u n p : Nat} (h : ¬ pf u n p = -1) : 0 ≤ pf u n p := by
  induction u generalizing p with
  | zero => exact absurd rfl h
  | succ u ih =>
    have e : pf (u + 1) n p = if 100003 < p then -1 else if prI p = 1 then (p : Int) else pf u n (p + n) := rfl
    rw [e] at h ⊢
    split
    · next h1 =>
      rw [if_pos h1] at h
      exact absurd rfl h
    · next h1 =>
      rw [if_neg h1] at h
      split
      · omega
      · next h2 =>
        rw [if_neg h2] at h
        exact ih h
theorem l_primeFor {n' ab : Nat} (h : S.1 m = some (mO m km 0 bu sz at' be ki wr wa ea nu bs bw bt')) (hn : 1 ≤ n' ∧ n' ≤ 128) {v : Int} (hk1 : v = -1 → Q (.inl (some (vi 0))) (ps_put S m (mO m km 2 bu sz at' be ki wr wa ea nu bs bw bt'))) (hk0 : v ≠ -1 → Q (.inl (some (vi v))) (ps_put S m (mO m km 0 bu sz at' be ki wr wa ea nu bs bw bt'))) : ∀ (u p : Nat), 100005 ≤ p + u → p ≤ 100200 → 1 ≤ u → pf u n' p = v →
    PW g cX10_primeFor (iX10_primeFor mc ms) 56 [(0, some (.ref m)), (1, some (vi (n' : Int))), (2, some (vi (ab : Int))), (3, some (vi (p : Int)))] [] S kc ks Q := by
  intro u
  induction u with
  | zero =>
    intro p h1 h2 h3
    omega
  | succ u ih =>
    intro p h1 h2 h3 he
    have e : pf (u + 1) n' p = if 100003 < p then -1 else if prI p = 1 then (p : Int) else pf u n' (p + n') := rfl
    rw [e] at he
    have h01 := prI_01 p
    rcases Nat.lt_or_ge 100003 p with z | z
    · rw [if_pos z] at he
      refine r_iload_n dX10_primeFor_56 (i := 3) rfl rfl (r_ldc dX10_primeFor_57 cst_X10_115 ?_)
      refine r_icmp_gt 76 dX10_primeFor_59 (by decide) (by omega) (by omega) (fun c1 => ?_) (fun c1 => ?_)
      · refine r_aload_n dX10_primeFor_76 (i := 0) rfl rfl (r_iload_n dX10_primeFor_77 (i := 3) rfl rfl (r_ldc dX10_primeFor_78 cst_X10_115 ?_))
        refine r_icmp_le 87 dX10_primeFor_80 (by decide) (by omega) (by omega) (fun c2 => ?_) (fun c2 => ?_)
        · refine r_iconst dX10_primeFor_87 (r_put dX10_primeFor_88 fl_X10_30 h rfl rfl (Nat.le_of_ble_eq_true rfl) (r_aload_n dX10_primeFor_91 (i := 0) rfl rfl (r_get dX10_primeFor_92 fl_X10_30 ps_same rfl ?_)))
          refine r_if_le 102 dX10_primeFor_95 (by decide) (by omega) (fun c3 => ?_) (fun c3 => ?_)
          · refine r_iload_n dX10_primeFor_102 (i := 3) rfl rfl ?_
            refine r_iret dX10_primeFor_103 rfl rfl ?_
            first | omega | exact hk1 he.symm
          · omega
        · refine r_iconst dX10_primeFor_83 (r_goto 88 dX10_primeFor_84 (by decide) (r_put dX10_primeFor_88 fl_X10_30 h rfl rfl (Nat.le_of_ble_eq_true rfl) (r_aload_n dX10_primeFor_91 (i := 0) rfl rfl (r_get dX10_primeFor_92 fl_X10_30 ps_same rfl ?_))))
          refine r_if_le 102 dX10_primeFor_95 (by decide) (by omega) (fun c4 => ?_) (fun c4 => ?_)
          · omega
          · refine r_iconst dX10_primeFor_98 (r_goto 103 dX10_primeFor_99 (by decide) ?_)
            refine r_iret dX10_primeFor_103 rfl rfl ?_
            first | omega | exact hk1 he.symm
      · omega
    · rw [if_neg (by omega)] at he
      refine r_iload_n dX10_primeFor_56 (i := 3) rfl rfl (r_ldc dX10_primeFor_57 cst_X10_115 ?_)
      refine r_icmp_gt 76 dX10_primeFor_59 (by decide) (by omega) (by omega) (fun c1 => ?_) (fun c1 => ?_)
      · refine r_aload_n dX10_primeFor_76 (i := 0) rfl rfl (r_iload_n dX10_primeFor_77 (i := 3) rfl rfl (r_ldc dX10_primeFor_78 cst_X10_115 ?_))
        refine r_icmp_le 87 dX10_primeFor_80 (by decide) (by omega) (by omega) (fun c2 => ?_) (fun c2 => ?_)
        · refine r_iconst dX10_primeFor_87 (r_put dX10_primeFor_88 fl_X10_30 h rfl rfl (Nat.le_of_ble_eq_true rfl) (r_aload_n dX10_primeFor_91 (i := 0) rfl rfl (r_get dX10_primeFor_92 fl_X10_30 ps_same rfl ?_)))
          refine r_if_le 102 dX10_primeFor_95 (by decide) (by omega) (fun c3 => ?_) (fun c3 => ?_)
          · refine r_iload_n dX10_primeFor_102 (i := 3) rfl rfl ?_
            refine r_iret dX10_primeFor_103 rfl rfl ?_
            first
              | omega
              | (rw [prI_t (by assumption), if_pos rfl] at he
                 subst he
                 exact hk0 (by omega))
          · omega
        · refine r_iconst dX10_primeFor_83 (r_goto 88 dX10_primeFor_84 (by decide) (r_put dX10_primeFor_88 fl_X10_30 h rfl rfl (Nat.le_of_ble_eq_true rfl) (r_aload_n dX10_primeFor_91 (i := 0) rfl rfl (r_get dX10_primeFor_92 fl_X10_30 ps_same rfl ?_))))
          refine r_if_le 102 dX10_primeFor_95 (by decide) (by omega) (fun c4 => ?_) (fun c4 => ?_)
          · omega
          · refine r_iconst dX10_primeFor_98 (r_goto 103 dX10_primeFor_99 (by decide) ?_)
            refine r_iret dX10_primeFor_103 rfl rfl ?_
            first
              | omega
              | (rw [prI_t (by assumption), if_pos rfl] at he
                 subst he
                 exact hk0 (by omega))
      · refine r_iload_n dX10_primeFor_62 (i := 3) rfl rfl (c_sr dX10_primeFor_63 (c_X10_isPrime (n := p) (by omega)) rfl rfl mq_X10_isPrime ml_X10_120 ⟨Nat.le_of_ble_eq_true rfl, Nat.le_of_ble_eq_true rfl⟩ rfl rfl (Nat.le_of_ble_eq_true rfl) ?_)
        refine r_if_ne 76 dX10_primeFor_66 (by decide) b2c_RI (fun c5 => ?_) (fun c5 => ?_)
        · replace c5 := b2c_ne c5
          refine r_aload_n dX10_primeFor_76 (i := 0) rfl rfl (r_iload_n dX10_primeFor_77 (i := 3) rfl rfl (r_ldc dX10_primeFor_78 cst_X10_115 ?_))
          refine r_icmp_le 87 dX10_primeFor_80 (by decide) (by omega) (by omega) (fun c6 => ?_) (fun c6 => ?_)
          · refine r_iconst dX10_primeFor_87 (r_put dX10_primeFor_88 fl_X10_30 h rfl rfl (Nat.le_of_ble_eq_true rfl) (r_aload_n dX10_primeFor_91 (i := 0) rfl rfl (r_get dX10_primeFor_92 fl_X10_30 ps_same rfl ?_)))
            refine r_if_le 102 dX10_primeFor_95 (by decide) (by omega) (fun c7 => ?_) (fun c7 => ?_)
            · refine r_iload_n dX10_primeFor_102 (i := 3) rfl rfl ?_
              refine r_iret dX10_primeFor_103 rfl rfl ?_
              first
                | omega
                | (rw [prI_t (by assumption), if_pos rfl] at he
                   subst he
                   exact hk0 (by omega))
            · omega
          · refine r_iconst dX10_primeFor_83 (r_goto 88 dX10_primeFor_84 (by decide) (r_put dX10_primeFor_88 fl_X10_30 h rfl rfl (Nat.le_of_ble_eq_true rfl) (r_aload_n dX10_primeFor_91 (i := 0) rfl rfl (r_get dX10_primeFor_92 fl_X10_30 ps_same rfl ?_))))
            refine r_if_le 102 dX10_primeFor_95 (by decide) (by omega) (fun c8 => ?_) (fun c8 => ?_)
            · omega
            · refine r_iconst dX10_primeFor_98 (r_goto 103 dX10_primeFor_99 (by decide) ?_)
              refine r_iret dX10_primeFor_103 rfl rfl ?_
              first
                | omega
                | (rw [prI_t (by assumption), if_pos rfl] at he
                   subst he
                   exact hk0 (by omega))
        · replace c5 := b2c_eq c5
          refine r_iload_n dX10_primeFor_69 (i := 3) rfl rfl (r_iload_n dX10_primeFor_70 (i := 1) rfl rfl (r_iadd dX10_primeFor_71 (r_istore_n dX10_primeFor_72 (i := 3) rfl rfl (Nat.le_of_ble_eq_true rfl) (r_goto 56 dX10_primeFor_73 (by decide) ?_))))
          rw [prI_f (by assumption), if_neg (by decide)] at he
          rcases Nat.eq_zero_or_pos u with z2 | z2
          · subst z2
            omega
          · exact r_loc [(0, some (.ref m)), (1, some (vi (n' : Int))), (2, some (vi (ab : Int))), (3, some (vi ((p + n' : Nat) : Int)))] ⟨Or.inl rfl, Or.inl rfl, Or.inl rfl, Or.inl rfl, trivial⟩ (ih (p + n') (by omega) (by omega) z2 he)
theorem c_X10_primeFor {n above : Int} (h : S.1 m = some (mO m km th bu sz at' be ki wr wa ea nu bs bw bt')) (hn : RI n) (hab : RI above) : PC g yX10_primeFor cX10_primeFor (iX10_primeFor mc ms) [.ref m, vi n, vi above] S (mR S m (fun k => mO m km k bu sz at' be ki wr wa ea nu bs bw bt') (kPrimeFor n above) (vi (pfF n above))) := by
  refine PC_of pnX10 rfl rfl rfl (Nat.le_of_ble_eq_true rfl) ?_
  refine r_aload_n dX10_primeFor_0 (i := 0) rfl rfl (r_iload_n dX10_primeFor_1 (i := 1) rfl rfl (r_i2l dX10_primeFor_2 (by omega) (r_lconst (z := 1) dX10_primeFor_3 (by decide) (r_ldc2 dX10_primeFor_4 csj_X10_149 ?_))))
  refine c_sr dX10_primeFor_7 (c_X10_isIn ⟨by omega, by omega⟩ ⟨by omega, by omega⟩ ⟨by omega, by omega⟩) rfl rfl mq_X10_isIn ml_X10_46 ⟨Nat.le_of_ble_eq_true rfl, Nat.le_of_ble_eq_true rfl⟩ rfl rfl (Nat.le_of_ble_eq_true rfl) ?_
  refine r_if_eq 27 dX10_primeFor_10 (by decide) b2i_RI (fun c1 => ?_) (fun c1 => ?_)
  · replace c1 := b2i_eq c1
    refine r_iconst dX10_primeFor_27 (r_goto 32 dX10_primeFor_28 (by decide) (r_put dX10_primeFor_32 fl_X10_30 h rfl rfl (Nat.le_of_ble_eq_true rfl) (r_aload_n dX10_primeFor_35 (i := 0) rfl rfl (r_get dX10_primeFor_36 fl_X10_30 ps_same rfl ?_))))
    refine r_if_le 44 dX10_primeFor_39 (by decide) (by omega) (fun c2 => ?_) (fun c2 => ?_)
    · omega
    · refine r_iconst dX10_primeFor_42 ?_
      refine r_iret dX10_primeFor_43 rfl rfl ?_
      exact mR_t (by unfold kPrimeFor; rw [if_neg (by omega)]) (by decide)
  · replace c1 := b2i_ne c1
    refine r_iload_n dX10_primeFor_13 (i := 2) rfl rfl (r_i2l dX10_primeFor_14 (by omega) (r_ldc2 dX10_primeFor_15 csj_X10_151 (r_ldc2 dX10_primeFor_18 csj_X10_153 (c_sr dX10_primeFor_21 (c_X10_isIn ⟨by omega, by omega⟩ ⟨by omega, by omega⟩ ⟨by omega, by omega⟩) rfl rfl mq_X10_isIn ml_X10_46 ⟨Nat.le_of_ble_eq_true rfl, Nat.le_of_ble_eq_true rfl⟩ rfl rfl (Nat.le_of_ble_eq_true rfl) ?_))))
    refine r_if_ne 31 dX10_primeFor_24 (by decide) b2i_RI (fun c3 => ?_) (fun c3 => ?_)
    · replace c3 := b2i_ne c3
      refine r_iconst dX10_primeFor_31 (r_put dX10_primeFor_32 fl_X10_30 h rfl rfl (Nat.le_of_ble_eq_true rfl) (r_aload_n dX10_primeFor_35 (i := 0) rfl rfl (r_get dX10_primeFor_36 fl_X10_30 ps_same rfl ?_)))
      refine r_if_le 44 dX10_primeFor_39 (by decide) (by omega) (fun c4 => ?_) (fun c4 => ?_)
      · have hpre : (1 ≤ n ∧ n ≤ 128) ∧ 2 ≤ above ∧ above ≤ 100002 := by omega
        have hv : pf 100010 n.toNat (((above - 1) / n + 1) * n + 1).toNat = pfF n above := rfl
        have ek : kPrimeFor n above = if pfF n above = -1 then 2 else 0 := by
          unfold kPrimeFor
          rw [if_pos hpre]
        obtain ⟨n', rfl⟩ := Int.eq_ofNat_of_zero_le (show 0 ≤ n by omega)
        obtain ⟨ab, rfl⟩ := Int.eq_ofNat_of_zero_le (show 0 ≤ above by omega)
        have e1 : ((ab : Int) + n' - 1) / (n' : Int) = ((ab : Int) - 1) / n' + 1 := by
          rw [show (ab : Int) + n' - 1 = ((ab : Int) - 1) + n' * 1 by omega, Int.add_mul_ediv_left _ _ (by omega)]
        have q0 := Int.ediv_nonneg (show 0 ≤ (ab : Int) - 1 by omega) (show 0 ≤ (n' : Int) by omega)
        have q1 := Int.ediv_mul_le ((ab : Int) - 1) (show (n' : Int) ≠ 0 by omega)
        have q2 := Int.mul_nonneg q0 (show 0 ≤ (n' : Int) by omega)
        have e2 : (((ab : Int) - 1) / n' + 1) * n' = ((ab : Int) - 1) / n' * n' + n' := by rw [Int.add_mul, Int.one_mul]
        refine r_iload_n dX10_primeFor_44 (i := 2) rfl rfl (r_iload_n dX10_primeFor_45 (i := 1) rfl rfl (r_iadd dX10_primeFor_46 (r_iconst dX10_primeFor_47 (r_isub dX10_primeFor_48 ?_))))
        refine r_iload_n dX10_primeFor_49 (i := 1) rfl rfl (r_idivN dX10_primeFor_50 (by omega) (by omega) (by omega) (by omega) ?_)
        rw [e1]
        refine r_iload_n dX10_primeFor_51 (i := 1) rfl rfl (r_imul dX10_primeFor_52 (r_iconst dX10_primeFor_53 (r_iadd dX10_primeFor_54 (r_istore_n dX10_primeFor_55 (i := 3) rfl rfl (Nat.le_of_ble_eq_true rfl) ?_))))
        refine r_loc [(0, some (.ref m)), (1, some (vi (n' : Int))), (2, some (vi (ab : Int))), (3, some (vi (((((ab : Int) - 1) / n' + 1) * n' + 1).toNat : Int)))] ⟨Or.inl rfl, Or.inl rfl, Or.inl rfl, Or.inl (lvi_eq (by omega)), trivial⟩ ?_
        refine l_primeFor (S := ps_put S m _) (v := pfF n' ab) ps_same (by omega) (fun hz => ?_) (fun hz => ?_) 100010 _ (by omega) (by omega) (by omega) hv
        · rw [ps_put_put]
          exact mR_t (by rw [ek, if_pos hz]) (by decide)
        · rw [ps_put_put]
          exact mR_0 (by rw [ek, if_neg hz]) rfl
      · omega
    · replace c3 := b2i_eq c3
      refine r_iconst dX10_primeFor_27 (r_goto 32 dX10_primeFor_28 (by decide) (r_put dX10_primeFor_32 fl_X10_30 h rfl rfl (Nat.le_of_ble_eq_true rfl) (r_aload_n dX10_primeFor_35 (i := 0) rfl rfl (r_get dX10_primeFor_36 fl_X10_30 ps_same rfl ?_))))
      refine r_if_le 44 dX10_primeFor_39 (by decide) (by omega) (fun c5 => ?_) (fun c5 => ?_)
      · omega
      · refine r_iconst dX10_primeFor_42 ?_
        refine r_iret dX10_primeFor_43 rfl rfl ?_
        exact mR_t (by unfold kPrimeFor; rw [if_neg (by omega)]) (by decide)
end MFACE3

/-! the model's face: transformSteps; the changes, part 1 -/
theorem upI_ne {f : Int → Int} {i j v : Int} (h : j ≠ i) : upI f i v j = f j := by
  unfold upI
  rw [if_neg h]
theorem upI_eq {f : Int → Int} {i v : Int} : upI f i v i = v := by
  unfold upI
  rw [if_pos rfl]
def mC (S : PS) (m : Nat) (f : Int → Int → PE) (km : Int) (a kp a' : Int → Int) (k : Int) (v : Value) : PO → PS → Prop := fun o S' => ∃ r, o = .inl (some r) ∧ (k = 0 → r = v) ∧ S'.2 = S.2 ∧ (∀ z, z ≠ m → z ≠ m + 1 → z ≠ m + 3 → S'.1 z = S.1 z) ∧ (k ≠ 0 → S'.1 m = some (f km k) ∧ S'.1 (m + 1) = some (cJ 215 a) ∧ S'.1 (m + 3) = some (cJ 1720 kp)) ∧ (k = 0 → S'.1 m = some (f (min (km + 1) 8) 0) ∧ S'.1 (m + 1) = some (cJ 215 a') ∧ S'.1 (m + 3) = some (cJ 1720 (kpN km a kp))) ∧ tgV r = tgV v
theorem mC_t {S : PS} {m : Nat} {f : Int → Int → PE} {km k k' : Int} {a kp a' : Int → Int} {v r : Value} (ha : S.1 (m + 1) = some (cJ 215 a)) (hkp : S.1 (m + 3) = some (cJ 1720 kp)) (e : k = k') (h : k' ≠ 0) (ht : tgV r = tgV v := by rfl) : mC S m f km a kp a' k v (.inl (some r)) (ps_put S m (f km k')) := by
  subst e
  exact ⟨r, rfl, fun z => absurd z h, rfl, fun z z1 _ _ => ps_ne z1 rfl, fun _ => ⟨ps_same, ps_ne (by omega) ha, ps_ne (by omega) hkp⟩, fun z => absurd z h, ht⟩
theorem mC_0 {S S' : PS} {m : Nat} {f : Int → Int → PE} {km k : Int} {a kp a' : Int → Int} {v r : Value} (e : k = 0) (e2 : r = v) (h1 : S'.2 = S.2) (h2 : ∀ z, z ≠ m → z ≠ m + 1 → z ≠ m + 3 → S'.1 z = S.1 z) (h3 : S'.1 m = some (f (min (km + 1) 8) 0)) (h4 : S'.1 (m + 1) = some (cJ 215 a')) (h5 : S'.1 (m + 3) = some (cJ 1720 (kpN km a kp))) : mC S m f km a kp a' k v (.inl (some r)) S' :=
  ⟨r, rfl, fun _ => e2, h1, h2, fun z => absurd e z, fun _ => ⟨h3, h4, h5⟩, by rw [e2]⟩
def addA (a : Int → Int) (p : Int) : Int → Int := upI (upI a (1 + a 0) p) 0 (a 0 + 1)
def canAdd (a : Int → Int) (p : Int) : Prop := (3 ≤ p ∧ p ≤ 100003) ∧ Pr p.toNat ∧ ¬ ∃ k : Int, 0 ≤ k ∧ k < a 0 ∧ a (1 + k) = p
noncomputable def kAdd (a : Int → Int) (p : Int) : Int := if b2c (canAdd a p) = 1 then (if a 0 = 6 then 2 else 0) else 1
theorem kAdd_n {a : Int → Int} {p : Int} (h : ¬ canAdd a p) : kAdd a p = 1 := by
  unfold kAdd
  rw [b2c_f h, if_neg (by decide)]
theorem kAdd_y {a : Int → Int} {p : Int} (h : canAdd a p) : kAdd a p = if a 0 = 6 then 2 else 0 := by
  unfold kAdd
  rw [b2c_t h, if_pos rfl]
def rmA (a : Int → Int) (q : Int) : Int → Int := upI (upI (mix (1 + q) (a 0) (fun x => a (x + 1)) a) 0 (a 0 - 1)) (a 0) 0
noncomputable def kSteps (a : Int → Int) (kd s t n : Int) : Int := if refI a kd s t n = 0 then (if (plT a kd s t n).1 = -1 then 4 else 0) else refI a kd s t n
section MMUT
variable {g : GT} {S : PS} {mc ms : Nat} {Q : PO → PS → Prop} {kc ks : Nat} {m : Nat} {a kp : Int → Int} {fs : List Value} {km th bu sz at' be ki wr wa ea nu bs bw bt' : Int}
theorem c_X10_isPrimeI {n : Int} (hn : 0 ≤ n ∧ n ≤ 100200) : PC g yX10_isPrime cX10_isPrime (iX10_isPrime mc ms) [vi n] S (Rt (some (vi (prI n.toNat))) S) := by
  obtain ⟨k, rfl⟩ := Int.eq_ofNat_of_zero_le hn.1
  exact c_X10_isPrime (by omega)
theorem c_X10_transformSteps {kd s t n : Int} (h : S.1 m = some (mO m km th bu sz at' be ki wr wa ea nu bs bw bt')) (ha : S.1 (m + 1) = some (cJ 215 a)) (hp : MP a) (hl : ML a) (hs : RI s) (ht : RI t) (hk : RI kd) (hn : RI n) : PC g yX10_transformSteps cX10_transformSteps (iX10_transformSteps mc ms) [.ref m, vi kd, vi s, vi t, vi n] S (mRx S m (fun b1 b2 b3 k => mO m km k bu sz at' be ki wr wa ea nu b1 b2 b3) (kSteps a kd s t n) (vi (plT a kd s t n).1)) := by
  refine PC_of pnX10 rfl rfl rfl (Nat.le_of_ble_eq_true rfl) ?_
  have h0 := hp.1
  have hnb := refI_bd a kd s t n
  refine r_aload_n dX10_transformSteps_0 (i := 0) rfl rfl (r_aload_n dX10_transformSteps_1 (i := 0) rfl rfl (r_iload_n dX10_transformSteps_2 (i := 1) rfl rfl (r_iload_n dX10_transformSteps_3 (i := 2) rfl rfl (r_iload_n dX10_transformSteps_4 (i := 3) rfl rfl ?_))))
  refine r_iload dX10_transformSteps_5 rfl (c_vr dX10_transformSteps_7 (c_X10_refusal h ha hl hs ht hk hn) rfl rfl mq_X10_refusal ml_X10_244 ⟨Nat.le_of_ble_eq_true rfl, Nat.le_of_ble_eq_true rfl⟩ h rfl rfl rfl (Nat.le_of_ble_eq_true rfl) (r_put dX10_transformSteps_10 fl_X10_30 h rfl rfl (Nat.le_of_ble_eq_true rfl) (r_aload_n dX10_transformSteps_13 (i := 0) rfl rfl (r_get dX10_transformSteps_14 fl_X10_30 ps_same rfl ?_))))
  refine r_if_le 22 dX10_transformSteps_17 (by decide) (by omega) (fun c1 => ?_) (fun c1 => ?_)
  · have hr0 : refI a kd s t n = 0 := by omega
    have hz := refI_0 hr0
    obtain ⟨z1, z2, z3⟩ := kind_n hl hr0
    have hk0 : kSteps a kd s t n = if (plT a kd s t n).1 = -1 then 4 else 0 := by unfold kSteps; rw [if_pos hr0]
    have hrel := pW_rel (a := a) (kd := kd) (b := bndI a s t) (w := (sizI a kd s t n).toNat) (show pRel (-1, bw, bt') (-1, 0, 0) from ⟨rfl, fun z => absurd rfl z⟩) (pCn kd (sizI a kd s t n).toNat)
    have hbd := pW_bd (a := a) (kd := kd) (b := bndI a s t) (w := (sizI a kd s t n).toNat) (t := (-1, bw, bt')) h0 z2 ⟨by show -18 ≤ (-1 : Int); decide, by show (-1 : Int) ≤ 100000; decide⟩ (pCn kd (sizI a kd s t n).toNat) (by unfold pCn; split <;> omega)
    have hT : pW a kd (bndI a s t) (sizI a kd s t n).toNat (-1, 0, 0) (pCn kd (sizI a kd s t n).toNat) = plT a kd s t n := rfl
    have hlay := fun th0 (S0 : PS) ho ha0 => c_X10_laysPlans (g := g) (mc := 0) (ms := 0) (S := S0) (m := m) (a := a) (km := km) (th := th0) (bu := bu) (sz := sz) (at' := at') (be := be) (ki := ki) (wr := wr) (wa := wa) (ea := ea) (nu := nu) (bs := bs) (bw := bw) (bt' := bt') (kd := kd) (s := s) (t := t) (n4 := n) ho ha0 hp hl hk hz.1.1.1 hz.1.1.2 ⟨z2, z3⟩ z1
    rw [hT] at hrel
    generalize pW a kd (bndI a s t) (sizI a kd s t n).toNat (-1, bw, bt') (pCn kd (sizI a kd s t n).toNat) = T at *
    obtain ⟨T1, T2, T3⟩ := T
    obtain ⟨hr1, hr2⟩ := hrel
    have hr1' : T1 = (plT a kd s t n).1 := hr1
    rw [← hr1'] at hk0 ⊢
    have hb1 : -18 ≤ T1 ∧ T1 ≤ 100000 := hbd
    refine r_aload_n dX10_transformSteps_22 (i := 0) rfl rfl (r_iload_n dX10_transformSteps_23 (i := 1) rfl rfl (r_iload_n dX10_transformSteps_24 (i := 2) rfl rfl (r_iload_n dX10_transformSteps_25 (i := 3) rfl rfl (r_iload dX10_transformSteps_26 rfl ?_))))
    refine c_vn dX10_transformSteps_28 (hlay _ _ ps_same (ps_ne (by omega) ha)) rfl rfl mq_X10_laysPlans ml_X10_285 ⟨Nat.le_of_ble_eq_true rfl, Nat.le_of_ble_eq_true rfl⟩ ps_same rfl rfl rfl (Nat.le_of_ble_eq_true rfl) (r_aload_n dX10_transformSteps_31 (i := 0) rfl rfl (r_aload_n dX10_transformSteps_32 (i := 0) rfl rfl (r_get dX10_transformSteps_33 fl_X10_273 ps_same rfl (r_iconst dX10_transformSteps_36 ?_))))
    refine r_icmp_ne 44 dX10_transformSteps_37 (by decide) (by omega) (by omega) (fun c1 => ?_) (fun c1 => ?_)
    · refine r_iconst dX10_transformSteps_44 (r_put dX10_transformSteps_45 fl_X10_30 ps_same rfl rfl (Nat.le_of_ble_eq_true rfl) (r_aload_n dX10_transformSteps_48 (i := 0) rfl rfl (r_get dX10_transformSteps_49 fl_X10_30 ps_same rfl ?_)))
      refine r_if_le 59 dX10_transformSteps_52 (by decide) (by omega) (fun c2 => ?_) (fun c2 => ?_)
      · refine r_aload_n dX10_transformSteps_59 (i := 0) rfl rfl (r_get dX10_transformSteps_60 fl_X10_273 ps_same rfl ?_)
        refine r_iret dX10_transformSteps_63 rfl rfl ?_
        first
          | omega
          | (rw [ps_put_put, ps_put_put]; exact ⟨T1, T2, T3, mR_t (k' := 4) (by rw [hk0, if_pos (by omega)]) (by decide)⟩)
          | (rw [ps_put_put, ps_put_put]; exact ⟨T1, T2, T3, mR_0 (k' := 0) (by rw [hk0, if_neg (by omega)]) rfl⟩)
      · omega
    · refine r_iconst dX10_transformSteps_40 (r_goto 45 dX10_transformSteps_41 (by decide) (r_put dX10_transformSteps_45 fl_X10_30 ps_same rfl rfl (Nat.le_of_ble_eq_true rfl) (r_aload_n dX10_transformSteps_48 (i := 0) rfl rfl (r_get dX10_transformSteps_49 fl_X10_30 ps_same rfl ?_))))
      refine r_if_le 59 dX10_transformSteps_52 (by decide) (by omega) (fun c3 => ?_) (fun c3 => ?_)
      · omega
      · refine r_iconst dX10_transformSteps_55 (r_goto 63 dX10_transformSteps_56 (by decide) ?_)
        refine r_iret dX10_transformSteps_63 rfl rfl ?_
        first
          | omega
          | (rw [ps_put_put, ps_put_put]; exact ⟨T1, T2, T3, mR_t (k' := 4) (by rw [hk0, if_pos (by omega)]) (by decide)⟩)
          | (rw [ps_put_put, ps_put_put]; exact ⟨T1, T2, T3, mR_0 (k' := 0) (by rw [hk0, if_neg (by omega)]) rfl⟩)
  · refine r_iconst dX10_transformSteps_20 ?_
    refine r_iret dX10_transformSteps_21 rfl rfl ?_
    exact ⟨bs, bw, bt', mR_t (k' := refI a kd s t n) (by unfold kSteps; rw [if_neg (by omega)]) (by omega)⟩
theorem c_X10_addPrime {p : Int} (h : S.1 m = some (mO m km th bu sz at' be ki wr wa ea nu bs bw bt')) (ha : S.1 (m + 1) = some (cJ 215 a)) (hkp : S.1 (m + 3) = some (cJ 1720 kp)) (hp : MP a) (hkm : 0 ≤ km ∧ km ≤ 8) (hr : RI p) : PC g yX10_addPrime cX10_addPrime (iX10_addPrime mc ms) [.ref m, vi p] S (mC S m (fun km k => mO m km k bu sz at' be ki wr wa ea nu bs bw bt') km a kp (addA a p) (kAdd a p) (vi (a 0))) := by
  refine PC_of pnX10 rfl rfl rfl (Nat.le_of_ble_eq_true rfl) ?_
  have h0 := hp.1
  refine r_aload_n dX10_addPrime_0 (i := 0) rfl rfl (r_iload_n dX10_addPrime_1 (i := 1) rfl rfl (r_i2l dX10_addPrime_2 (by omega) (r_ldc2 dX10_addPrime_3 csj_X10_137 (r_ldc2 dX10_addPrime_6 csj_X10_139 ?_))))
  refine c_sr dX10_addPrime_9 (c_X10_isIn ⟨by omega, by omega⟩ ⟨by omega, by omega⟩ ⟨by omega, by omega⟩) rfl rfl mq_X10_isIn ml_X10_46 ⟨Nat.le_of_ble_eq_true rfl, Nat.le_of_ble_eq_true rfl⟩ rfl rfl (Nat.le_of_ble_eq_true rfl) ?_
  refine r_if_eq 30 dX10_addPrime_12 (by decide) b2i_RI (fun c1 => ?_) (fun c1 => ?_)
  · replace c1 := b2i_eq c1
    refine r_iconst dX10_addPrime_30 (r_goto 52 dX10_addPrime_31 (by decide) (r_put dX10_addPrime_52 fl_X10_30 h rfl rfl (Nat.le_of_ble_eq_true rfl) (r_aload_n dX10_addPrime_55 (i := 0) rfl rfl (r_get dX10_addPrime_56 fl_X10_30 ps_same rfl ?_))))
    refine r_if_le 64 dX10_addPrime_59 (by decide) (by omega) (fun c2 => ?_) (fun c2 => ?_)
    · omega
    · refine r_iconst dX10_addPrime_62 ?_
      refine r_iret dX10_addPrime_63 rfl rfl ?_
      first
        | omega
        | exact mC_t ha hkp (kAdd_n (fun z => by have := z.1; omega)) (by decide)
        | exact mC_t ha hkp (kAdd_n (fun z => absurd z.2.1 (by assumption))) (by decide)
        | exact mC_t ha hkp (kAdd_n (fun z => absurd (by assumption) z.2.2)) (by decide)
        | exact mC_t ha hkp (by rw [kAdd_y ⟨by omega, by assumption, by assumption⟩, if_pos (by omega)]) (by decide)
  · replace c1 := b2i_ne c1
    refine r_iload_n dX10_addPrime_15 (i := 1) rfl rfl (c_sr dX10_addPrime_16 (c_X10_isPrimeI (by omega)) rfl rfl mq_X10_isPrime ml_X10_120 ⟨Nat.le_of_ble_eq_true rfl, Nat.le_of_ble_eq_true rfl⟩ rfl rfl (Nat.le_of_ble_eq_true rfl) ?_)
    refine r_if_eq 30 dX10_addPrime_19 (by decide) b2c_RI (fun c3 => ?_) (fun c3 => ?_)
    · replace c3 := b2c_eq c3
      refine r_iconst dX10_addPrime_30 (r_goto 52 dX10_addPrime_31 (by decide) (r_put dX10_addPrime_52 fl_X10_30 h rfl rfl (Nat.le_of_ble_eq_true rfl) (r_aload_n dX10_addPrime_55 (i := 0) rfl rfl (r_get dX10_addPrime_56 fl_X10_30 ps_same rfl ?_))))
      refine r_if_le 64 dX10_addPrime_59 (by decide) (by omega) (fun c4 => ?_) (fun c4 => ?_)
      · omega
      · refine r_iconst dX10_addPrime_62 ?_
        refine r_iret dX10_addPrime_63 rfl rfl ?_
        first
          | omega
          | exact mC_t ha hkp (kAdd_n (fun z => by have := z.1; omega)) (by decide)
          | exact mC_t ha hkp (kAdd_n (fun z => absurd z.2.1 (by assumption))) (by decide)
          | exact mC_t ha hkp (kAdd_n (fun z => absurd (by assumption) z.2.2)) (by decide)
          | exact mC_t ha hkp (by rw [kAdd_y ⟨by omega, by assumption, by assumption⟩, if_pos (by omega)]) (by decide)
    · replace c3 := b2c_ne c3
      refine r_aload_n dX10_addPrime_22 (i := 0) rfl rfl (r_iload_n dX10_addPrime_23 (i := 1) rfl rfl (c_vr dX10_addPrime_24 (c_X10_has h ha hp hr) rfl rfl mq_X10_has ml_X10_141 ⟨Nat.le_of_ble_eq_true rfl, Nat.le_of_ble_eq_true rfl⟩ h rfl rfl rfl (Nat.le_of_ble_eq_true rfl) ?_))
      refine r_if_eq 34 dX10_addPrime_27 (by decide) b2c_RI (fun c5 => ?_) (fun c5 => ?_)
      · replace c5 := b2c_eq c5
        refine r_aload_n dX10_addPrime_34 (i := 0) rfl rfl (r_get dX10_addPrime_35 fl_X10_7 h rfl (r_iconst dX10_addPrime_38 (r_lald dX10_addPrime_39 ha (by omega) (by omega) (by omega) (r_ldc2 dX10_addPrime_40 csj_X10_144 ?_))))
        refine r_lcmp_ne 51 dX10_addPrime_43 dX10_addPrime_44 (by decide) (by omega) (by omega) (fun c6 => ?_) (fun c6 => ?_)
        · refine r_iconst dX10_addPrime_51 (r_put dX10_addPrime_52 fl_X10_30 h rfl rfl (Nat.le_of_ble_eq_true rfl) (r_aload_n dX10_addPrime_55 (i := 0) rfl rfl (r_get dX10_addPrime_56 fl_X10_30 ps_same rfl ?_)))
          refine r_if_le 64 dX10_addPrime_59 (by decide) (by omega) (fun c7 => ?_) (fun c7 => ?_)
          · first
              | omega
              | have hk0 : kAdd a p = 0 := by rw [kAdd_y ⟨by omega, by assumption, by assumption⟩, if_neg (by omega)]
                refine r_aload_n dX10_addPrime_64 (i := 0) rfl rfl (c_vn dX10_addPrime_65 (c_X10_keeps ps_same (ps_ne (by omega) ha) (ps_ne (by omega) hkp) hkm) rfl rfl mq_X10_keeps ml_X10_134 ⟨Nat.le_of_ble_eq_true rfl, Nat.le_of_ble_eq_true rfl⟩ ps_same rfl rfl rfl (Nat.le_of_ble_eq_true rfl) ?_)
                have e1 : upI a (1 + a 0) p 0 = a 0 := upI_ne (by omega)
                refine r_aload_n dX10_addPrime_68 (i := 0) rfl rfl (r_get dX10_addPrime_69 fl_X10_7 ps_same rfl (r_iconst dX10_addPrime_72 (r_lald dX10_addPrime_73 (ps_ne (by omega) (ps_ne (by omega) (ps_ne (by omega) ha))) (by omega) (by omega) (by omega) (r_l2i dX10_addPrime_74 ?_))))
                refine r_istore_n dX10_addPrime_75 (i := 2) rfl rfl (Nat.le_of_ble_eq_true rfl) (r_aload_n dX10_addPrime_76 (i := 0) rfl rfl (r_get dX10_addPrime_77 fl_X10_7 ps_same rfl (r_iconst dX10_addPrime_80 (r_iload_n dX10_addPrime_81 (i := 2) rfl rfl ?_))))
                refine r_iadd dX10_addPrime_82 (r_iload_n dX10_addPrime_83 (i := 1) rfl rfl (r_i2l dX10_addPrime_84 (by omega) (r_last dX10_addPrime_85 (ps_ne (by omega) (ps_ne (by omega) (ps_ne (by omega) ha))) (by omega) (by omega) (by omega) (r_aload_n dX10_addPrime_86 (i := 0) rfl rfl ?_))))
                refine r_get dX10_addPrime_87 fl_X10_7 (ps_ne (by omega) ps_same) rfl (r_iconst dX10_addPrime_90 ?_)
                refine r_dup2_11 dX10_addPrime_91 rfl rfl ?_
                refine r_lald dX10_addPrime_92 ps_same (by omega) (by omega) (by omega) ?_
                rw [e1]
                refine r_lconst (z := 1) dX10_addPrime_93 (by decide) (r_ladd dX10_addPrime_94 (r_last dX10_addPrime_95 ps_same (by omega) (by omega) (by omega) (r_iload_n dX10_addPrime_96 (i := 2) rfl rfl ?_)))
                refine r_iret dX10_addPrime_97 rfl rfl ?_
                refine mC_0 hk0 rfl rfl (fun z z1 z2 z3 => ?_) ?_ ?_ ?_
                all_goals repeat (first | exact ps_same | rfl | refine ps_ne (by omega) ?_)
          · omega
        · refine r_iconst dX10_addPrime_47 (r_goto 52 dX10_addPrime_48 (by decide) (r_put dX10_addPrime_52 fl_X10_30 h rfl rfl (Nat.le_of_ble_eq_true rfl) (r_aload_n dX10_addPrime_55 (i := 0) rfl rfl (r_get dX10_addPrime_56 fl_X10_30 ps_same rfl ?_))))
          refine r_if_le 64 dX10_addPrime_59 (by decide) (by omega) (fun c8 => ?_) (fun c8 => ?_)
          · omega
          · refine r_iconst dX10_addPrime_62 ?_
            refine r_iret dX10_addPrime_63 rfl rfl ?_
            first
              | omega
              | exact mC_t ha hkp (kAdd_n (fun z => by have := z.1; omega)) (by decide)
              | exact mC_t ha hkp (kAdd_n (fun z => absurd z.2.1 (by assumption))) (by decide)
              | exact mC_t ha hkp (kAdd_n (fun z => absurd (by assumption) z.2.2)) (by decide)
              | exact mC_t ha hkp (by rw [kAdd_y ⟨by omega, by assumption, by assumption⟩, if_pos (by omega)]) (by decide)
      · replace c5 := b2c_ne c5
        refine r_iconst dX10_addPrime_30 (r_goto 52 dX10_addPrime_31 (by decide) (r_put dX10_addPrime_52 fl_X10_30 h rfl rfl (Nat.le_of_ble_eq_true rfl) (r_aload_n dX10_addPrime_55 (i := 0) rfl rfl (r_get dX10_addPrime_56 fl_X10_30 ps_same rfl ?_))))
        refine r_if_le 64 dX10_addPrime_59 (by decide) (by omega) (fun c9 => ?_) (fun c9 => ?_)
        · omega
        · refine r_iconst dX10_addPrime_62 ?_
          refine r_iret dX10_addPrime_63 rfl rfl ?_
          first
            | omega
            | exact mC_t ha hkp (kAdd_n (fun z => by have := z.1; omega)) (by decide)
            | exact mC_t ha hkp (kAdd_n (fun z => absurd z.2.1 (by assumption))) (by decide)
            | exact mC_t ha hkp (kAdd_n (fun z => absurd (by assumption) z.2.2)) (by decide)
            | exact mC_t ha hkp (by rw [kAdd_y ⟨by omega, by assumption, by assumption⟩, if_pos (by omega)]) (by decide)
end MMUT

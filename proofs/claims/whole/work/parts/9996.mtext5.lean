/-! the model's face: load -/
/-- the model's cells behind a load -/
def MdAt (S S' : PS) (m : Nat) (e : PE) (a fr kp : Int → Int) : Prop := S'.1 m = some e ∧ S'.1 (m + 1) = some (cJ 215 a) ∧ S'.1 (m + 2) = some (cJ 215 fr) ∧ S'.1 (m + 3) = some (cJ 1720 kp) ∧ (∀ z : Nat, z < m ∨ m + 4 ≤ z → S'.1 z = S.1 z) ∧ S'.2 = S.2
section MLOAD
variable {g : GT} {S S0 : PS} {mc ms : Nat} {Q : PO → PS → Prop} {kc ks : Nat} {m : Nat} {bf a kp fr : Int → Int} {km th bu sz at' be ki wr wa ea nu bs bw bt' : Int}
theorem l_mzero {len : Int} (h : S.1 m = some (mO m km th bu sz at' be ki wr wa ea nu bs bw bt')) (hq : PW g cX10_load (iX10_load mc ms) 74 [(0, some (.ref m)), (1, some (vi len))] [] (ps_put S (m + 2) (cJ 215 (mix 0 215 (fun _ => 0) fr))) kc ks Q) : ∀ (n i : Nat), i + n = 215 →
    PW g cX10_load (iX10_load mc ms) 54 [(0, some (.ref m)), (1, some (vi len)), (2, some (vi (i : Int)))] [] (ps_put S (m + 2) (cJ 215 (mix 0 (i : Int) (fun _ => 0) fr))) kc ks Q := by
  intro n
  induction n with
  | zero =>
    intro i hi
    have e : i = 215 := by omega
    subst e
    refine r_iload_n dX10_load_54 (i := 2) rfl rfl (r_sipush dX10_load_55 (by decide) ?_)
    refine r_icmp_ge 74 dX10_load_58 (by decide) (by omega) (by omega) (fun c1 => ?_) (fun c1 => ?_)
    · exact r_loc [(0, some (.ref m)), (1, some (vi len))] ⟨Or.inl rfl, Or.inl rfl, trivial⟩ hq
    · omega
  | succ n ih =>
    intro i hi
    have h1 : (ps_put S (m + 2) (cJ 215 (mix 0 (i : Int) (fun _ => 0) fr))).1 m = some (mO m km th bu sz at' be ki wr wa ea nu bs bw bt') := ps_ne (by omega) h
    refine r_iload_n dX10_load_54 (i := 2) rfl rfl (r_sipush dX10_load_55 (by decide) ?_)
    refine r_icmp_ge 74 dX10_load_58 (by decide) (by omega) (by omega) (fun c1 => ?_) (fun c1 => ?_)
    · omega
    · refine r_aload_n dX10_load_61 (i := 0) rfl rfl (r_get dX10_load_62 fl_X10_13 h1 rfl (r_iload_n dX10_load_65 (i := 2) rfl rfl (r_lconst (z := 0) dX10_load_66 (by decide) (r_last dX10_load_67 ps_same (by omega) (by omega) (by omega) ?_))))
      refine r_iinc dX10_load_68 rfl rfl (r_goto 54 dX10_load_71 (by decide) ?_)
      rw [ps_put_put, mix_up (A := fun _ => 0) (by omega) rfl]
      exact r_loc [(0, some (.ref m)), (1, some (vi len)), (2, some (vi ((i + 1 : Nat) : Int)))] ⟨Or.inl rfl, Or.inl rfl, Or.inl rfl, trivial⟩ (ih (i + 1) (by omega))
theorem l_mload {len : Int} (hX : TxtB g) (hL : TxtL g) {R : Int × Int × (Int → Int)}
    (hqT : ∀ (S : PS) (q : Int) (fr : Int → Int), TM S0 S m bf km th bu sz ea bs bw bt' q fr → R.1 = 0 → R.2.1 = q → R.2.2 = fr → PW g cX10_load (iX10_load mc ms) 134 [(0, some (.ref m)), (1, some (vi len))] [] S kc ks Q)
    (hqW : ∀ (S : PS) (fr : Int → Int), WM S0 S m bf km th bu sz ea bs bw bt' R.1 R.2.1 fr → PW g cX10_load (iX10_load mc ms) 134 [(0, some (.ref m)), (1, some (vi len))] [] S kc ks Q) : ∀ (u : Nat) (q : Int) (a : Int → Int) (S : PS), sz ≤ q + u → NB a → TM S0 S m bf km th bu sz ea bs bw bt' q a → prgB (seeI bf sz) sz u q a = R →
    PW g cX10_load (iX10_load mc ms) 78 [(0, some (.ref m)), (1, some (vi len))] [] S kc ks Q := by
  intro u
  have hkr : ∀ q : Int, (sz ≤ q → tkK (seeI bf sz) sz q = 3) ∧ (q < sz → 0 ≤ tkK (seeI bf sz) sz q ∧ tkK (seeI bf sz) sz q ≤ 2) := fun q => by
    unfold tkK
    refine ⟨fun h => by rw [if_pos h], fun h => ?_⟩
    rw [if_neg (by omega)]
    split
    · omega
    · split <;> omega
  have hend : ∀ (S : PS) (q : Int) (a : Int → Int), TM S0 S m bf km th bu sz ea bs bw bt' q a → sz ≤ q → R = (0, q, a) → PW g cX10_load (iX10_load mc ms) 78 [(0, some (.ref m)), (1, some (vi len))] [] S kc ks Q := fun S q a hT hz hR => by
    obtain ⟨wa, nu, ho⟩ := hT.o
    have hk := (hkr q).1 hz
    refine r_aload_n dX10_load_78 (i := 0) rfl rfl (r_get dX10_load_79 fl_X10_82 ho rfl ?_)
    refine r_if_ne 134 dX10_load_82 (by decide) (by omega) (fun c1 => ?_) (fun c1 => ?_)
    · omega
    · refine r_aload_n dX10_load_85 (i := 0) rfl rfl (r_get dX10_load_86 fl_X10_64 ho rfl (r_iconst dX10_load_89 ?_))
      refine r_icmp_eq 134 dX10_load_90 (by decide) (by omega) (by omega) (fun c2 => ?_) (fun c2 => ?_)
      · exact hqT S q a hT (by rw [hR]) (by rw [hR]) (by rw [hR])
      · omega
  have hendW : ∀ (S : PS) (fr : Int → Int), WM S0 S m bf km th bu sz ea bs bw bt' R.1 R.2.1 fr → PW g cX10_load (iX10_load mc ms) 78 [(0, some (.ref m)), (1, some (vi len))] [] S kc ks Q := fun S fr hW => by
    obtain ⟨w1, w2, a1, a2, a3, a4, w3⟩ := hW.o
    refine r_aload_n dX10_load_78 (i := 0) rfl rfl (r_get dX10_load_79 fl_X10_82 w3 rfl ?_)
    refine r_if_ne 134 dX10_load_82 (by decide) (by omega) (fun c1 => ?_) (fun c1 => ?_)
    · exact hqW S fr hW
    · omega
  induction u with
  | zero =>
    intro q a S hu ha hT hR
    exact hend S q a hT (by omega) hR.symm
  | succ u ih =>
    intro q a S hu ha hT hR
    have e : prgB (seeI bf sz) sz (u + 1) q a = if sz ≤ q then (0, q, a) else if (stmB (seeI bf sz) q a).1 = 0 then prgB (seeI bf sz) sz u (stmB (seeI bf sz) q a).2.1 (stmB (seeI bf sz) q a).2.2 else stmB (seeI bf sz) q a := rfl
    rw [e] at hR
    by_cases hz : sz ≤ q
    · rw [if_pos hz] at hR
      exact hend S q a hT hz hR.symm
    · rw [if_neg hz] at hR
      have hB : BOk (seeI bf sz) sz := seeI_ok hT.2.2.2.2.2.1
      have hqb := hT.2.2.2.2.2.2.1
      obtain ⟨s1, s2, s3⟩ := stm_ok hB ha hqb.1 hqb.2
      obtain ⟨wa, nu, ho⟩ := hT.o
      have hk := (hkr q).2 (by omega)
      have hgo : ∀ S2 : PS, RM1 S0 S2 m bf km th bu sz ea bs bw bt' (stmB (seeI bf sz) q a) → PW g cX10_load (iX10_load mc ms) 78 [(0, some (.ref m)), (1, some (vi len))] [] S2 kc ks Q := fun S2 hM => by
        rcases hM with ⟨k1, k2⟩ | ⟨k1, fr', k2⟩
        · rw [if_pos k1] at hR
          obtain ⟨t1, t2, t3⟩ := s3 k1
          exact ih _ _ S2 (by omega) t3 k2 hR
        · rw [if_neg k1] at hR
          subst hR
          exact hendW S2 fr' k2
      refine r_aload_n dX10_load_78 (i := 0) rfl rfl (r_get dX10_load_79 fl_X10_82 ho rfl ?_)
      refine r_if_ne 134 dX10_load_82 (by decide) (by omega) (fun c1 => ?_) (fun c1 => ?_)
      · omega
      · refine r_aload_n dX10_load_85 (i := 0) rfl rfl (r_get dX10_load_86 fl_X10_64 ho rfl (r_iconst dX10_load_89 ?_))
        refine r_icmp_eq 134 dX10_load_90 (by decide) (by omega) (by omega) (fun c2 => ?_) (fun c2 => ?_)
        · omega
        · refine r_aload_n dX10_load_93 (i := 0) rfl rfl (r_ldcS dX10_load_94 (List.mem_of_getElem? (i := 20) rfl) (fun qp hqp => c_vr dX10_load_96 (c_X10_isWordT hX (hL.2.2.1 qp hqp) LwP hT) rfl rfl mq_X10_isWord ml_X10_107 ⟨Nat.le_of_ble_eq_true rfl, Nat.le_of_ble_eq_true rfl⟩ ho rfl rfl rfl (Nat.le_of_ble_eq_true rfl) ?_))
          by_cases w1 : wdB (seeI bf sz) chP q
          · rw [b2c_t w1]
            refine r_if_eq 109 dX10_load_99 (by decide) (by omega) (fun c3 => ?_) (fun c3 => ?_)
            · omega
            · refine r_aload_n dX10_load_102 (i := 0) rfl rfl ?_
              refine c_vq dX10_load_103 (c_X10_readsPrime hX hL hT ha w1) rfl rfl mq_X10_readsPrime ml_X10_128 ⟨Nat.le_of_ble_eq_true rfl, Nat.le_of_ble_eq_true rfl⟩ ho rfl rfl rfl (Nat.le_of_ble_eq_true rfl) (fun E S' h => by simp at h) (fun v S2 hn => ?_)
              obtain ⟨e1, hM⟩ := hn
              cases e1
              rw [← stm_p (a := a) w1] at hM
              show PW _ _ _ 106 _ [] _ _ _ _
              refine r_goto 78 dX10_load_106 (by decide) ?_
              exact hgo S2 hM
          · rw [b2c_f w1]
            refine r_if_eq 109 dX10_load_99 (by decide) (by omega) (fun c3 => ?_) (fun c3 => ?_)
            · refine r_aload_n dX10_load_109 (i := 0) rfl rfl (r_ldcS dX10_load_110 (List.mem_of_getElem? (i := 21) rfl) (fun qt hqt => c_vr dX10_load_112 (c_X10_isWordT hX (hL.2.2.2 qt hqt) LwS hT) rfl rfl mq_X10_isWord ml_X10_107 ⟨Nat.le_of_ble_eq_true rfl, Nat.le_of_ble_eq_true rfl⟩ ho rfl rfl rfl (Nat.le_of_ble_eq_true rfl) ?_))
              by_cases w2 : wdB (seeI bf sz) chS q
              · rw [b2c_t w2]
                refine r_if_eq 125 dX10_load_115 (by decide) (by omega) (fun c4 => ?_) (fun c4 => ?_)
                · omega
                · refine r_aload_n dX10_load_118 (i := 0) rfl rfl ?_
                  refine c_vq dX10_load_119 (c_X10_readsSequence hX hL hT w2) rfl rfl mq_X10_readsSequence ml_X10_131 ⟨Nat.le_of_ble_eq_true rfl, Nat.le_of_ble_eq_true rfl⟩ ho rfl rfl rfl (Nat.le_of_ble_eq_true rfl) (fun E S' h => by simp at h) (fun v S2 hn => ?_)
                  obtain ⟨e1, hM⟩ := hn
                  cases e1
                  rw [← stm_s (a := a) w1 w2] at hM
                  show PW _ _ _ 122 _ [] _ _ _ _
                  refine r_goto 78 dX10_load_122 (by decide) ?_
                  exact hgo S2 hM
              · rw [b2c_f w2]
                refine r_if_eq 125 dX10_load_115 (by decide) (by omega) (fun c4 => ?_) (fun c4 => ?_)
                · refine r_aload_n dX10_load_125 (i := 0) rfl rfl (r_bipush dX10_load_126 (by decide) ?_)
                  refine c_vq dX10_load_128 (c_X10_fT hT ⟨by omega, by omega⟩) rfl rfl mq_X10_fails ml_X10_98 ⟨Nat.le_of_ble_eq_true rfl, Nat.le_of_ble_eq_true rfl⟩ ho rfl rfl rfl (Nat.le_of_ble_eq_true rfl) (fun E S' h => by simp at h) (fun v S2 hn => ?_)
                  obtain ⟨e1, hW⟩ := hn
                  cases e1
                  show PW _ _ _ 131 _ [] _ _ _ _
                  refine r_goto 78 dX10_load_131 (by decide) ?_
                  refine hgo S2 (Or.inr ⟨?_, a, ?_⟩)
                  · rw [stm_n w1 w2]
                    show (-2 : Int) ≠ 0
                    decide
                  · rw [stm_n w1 w2]
                    exact hW
                · omega
            · omega
theorem c_X10_load {len : Int} (hX : TxtB g) (hL : TxtL g) (h : S.1 m = some (mO m km th bu sz at' be ki wr wa ea nu bs bw bt')) (ha : S.1 (m + 1) = some (cJ 215 a)) (hfr : S.1 (m + 2) = some (cJ 215 fr)) (hkp : S.1 (m + 3) = some (cJ 1720 kp)) (h4 : S.1 (m + 4) = some (cI 600 bf)) (hb : ∀ i : Int, 0 ≤ i → i < bu → 0 ≤ bf i ∧ bf i ≤ 255) (hbu : 0 ≤ bu ∧ bu ≤ 600) (hkm : 0 ≤ km ∧ km ≤ 8) (hr : RI len) : PC g yX10_load cX10_load (iX10_load mc ms) [.ref m, vi len] S (fun o S' => (¬ (0 ≤ len ∧ len ≤ bu) ∧ o = .inl (some (vi 0)) ∧ S' = ps_put S m (mO m km 1 bu sz at' be ki wr wa ea nu bs bw bt')) ∨ ((0 ≤ len ∧ len ≤ bu) ∧ ∃ (at2 be2 ki2 wr2 wa2 nu2 : Int) (fr2 : Int → Int), ((prgB (seeI bf len) len 600 (sk (seeI bf len) 0) (fun _ => 0)).1 = 0 ∧ o = .inl (some (vi ((prgB (seeI bf len) len 600 (sk (seeI bf len) 0) (fun _ => 0)).2.2 0))) ∧ MdAt S S' m (mO m (min (km + 1) 8) 0 0 len at2 be2 ki2 wr2 wa2 (-1) nu2 bs bw bt') (prgB (seeI bf len) len 600 (sk (seeI bf len) 0) (fun _ => 0)).2.2 fr2 (kpN km a kp)) ∨ ((prgB (seeI bf len) len 600 (sk (seeI bf len) 0) (fun _ => 0)).1 ≠ 0 ∧ o = .inl (some (vi (prgB (seeI bf len) len 600 (sk (seeI bf len) 0) (fun _ => 0)).1)) ∧ MdAt S S' m (mO m km 0 0 len at2 be2 ki2 wr2 wa2 (prgB (seeI bf len) len 600 (sk (seeI bf len) 0) (fun _ => 0)).2.1 nu2 bs bw bt') a fr2 kp))) := by
  refine PC_of pnX10 rfl rfl rfl (Nat.le_of_ble_eq_true rfl) ?_
  refine r_aload_n dX10_load_0 (i := 0) rfl rfl (r_iload_n dX10_load_1 (i := 1) rfl rfl (r_i2l dX10_load_2 (by omega) (r_lconst (z := 0) dX10_load_3 (by decide) (r_aload_n dX10_load_4 (i := 0) rfl rfl ?_))))
  refine r_get dX10_load_5 fl_X10_36 h rfl (r_i2l dX10_load_8 (by omega) (c_sr dX10_load_9 (c_X10_isIn ⟨by omega, by omega⟩ ⟨by omega, by omega⟩ ⟨by omega, by omega⟩) rfl rfl mq_X10_isIn ml_X10_46 ⟨Nat.le_of_ble_eq_true rfl, Nat.le_of_ble_eq_true rfl⟩ rfl rfl (Nat.le_of_ble_eq_true rfl) ?_))
  refine r_if_eq 19 dX10_load_12 (by decide) b2i_RI (fun c1 => ?_) (fun c1 => ?_)
  · replace c1 := b2i_eq c1
    refine r_iconst dX10_load_19 (r_put dX10_load_20 fl_X10_30 h rfl rfl (Nat.le_of_ble_eq_true rfl) (r_aload_n dX10_load_23 (i := 0) rfl rfl (r_get dX10_load_24 fl_X10_30 ps_same rfl ?_)))
    refine r_if_le 32 dX10_load_27 (by decide) (by omega) (fun c2 => ?_) (fun c2 => ?_)
    · omega
    · refine r_iconst dX10_load_30 (r_iret dX10_load_31 rfl rfl ?_)
      exact Or.inl ⟨c1, rfl, rfl⟩
  · replace c1 := b2i_ne c1
    have hB : BOk (seeI bf len) len := seeI_ok (by omega)
    have hk := sk_ok hB (p := 0) (by omega) c1.1
    have hbl : ∀ i : Int, 0 ≤ i → i < len → 0 ≤ bf i ∧ bf i ≤ 255 := fun i i0 i1 => hb i i0 (by omega)
    refine r_iconst dX10_load_15 (r_goto 20 dX10_load_16 (by decide) (r_put dX10_load_20 fl_X10_30 h rfl rfl (Nat.le_of_ble_eq_true rfl) (r_aload_n dX10_load_23 (i := 0) rfl rfl (r_get dX10_load_24 fl_X10_30 ps_same rfl ?_))))
    refine r_if_le 32 dX10_load_27 (by decide) (by omega) (fun c2 => ?_) (fun c2 => ?_)
    · refine r_aload_n dX10_load_32 (i := 0) rfl rfl (r_iload_n dX10_load_33 (i := 1) rfl rfl (r_put dX10_load_34 fl_X10_39 ps_same rfl rfl (Nat.le_of_ble_eq_true rfl) (r_aload_n dX10_load_37 (i := 0) rfl rfl (r_iconst dX10_load_38 ?_))))
      refine r_put dX10_load_39 fl_X10_36 ps_same rfl rfl (Nat.le_of_ble_eq_true rfl) (r_aload_n dX10_load_42 (i := 0) rfl rfl (r_iconst dX10_load_43 (r_put dX10_load_44 fl_X10_54 ps_same rfl rfl (Nat.le_of_ble_eq_true rfl) (r_aload_n dX10_load_47 (i := 0) rfl rfl ?_))))
      refine r_iconst dX10_load_48 (r_put dX10_load_49 fl_X10_82 ps_same rfl rfl (Nat.le_of_ble_eq_true rfl) (r_iconst dX10_load_52 (r_istore_n dX10_load_53 (i := 2) rfl rfl (Nat.le_of_ble_eq_true rfl) ?_)))
      rw [ps_put_put, ps_put_put, ps_put_put, ps_put_put]
      show PW _ _ _ _ _ _ (ps_put S m (mO m km 0 0 len at' 0 ki 0 wa ea nu bs bw bt')) _ _ _
      have f0 : (ps_put S m (mO m km 0 0 len at' 0 ki 0 wa ea nu bs bw bt')).1 (m + 2) = some (cJ 215 fr) := ps_ne (by omega) hfr
      refine r_ps (S' := ps_put (ps_put S m (mO m km 0 0 len at' 0 ki 0 wa ea nu bs bw bt')) (m + 2) (cJ 215 (mix 0 ((0 : Nat) : Int) (fun _ => 0) fr))) (by rw [show mix 0 ((0 : Nat) : Int) (fun _ => 0) fr = fr from mix_0]; exact (ps_put_self f0).symm) ?_
      refine r_loc [(0, some (.ref m)), (1, some (vi len)), (2, some (vi ((0 : Nat) : Int)))] ⟨Or.inl rfl, Or.inl rfl, Or.inl rfl, trivial⟩ (l_mzero ps_same ?_ 215 0 (by omega))
      refine r_J (f' := fun _ => 0) ps_same (fun i i0 i1 => by rw [mix_in (by omega)]) ?_
      rw [ps_put_put]
      have q1 : (ps_put (ps_put S m (mO m km 0 0 len at' 0 ki 0 wa ea nu bs bw bt')) (m + 2) (cJ 215 (fun _ => 0))).1 m = some (mO m km 0 0 len at' 0 ki 0 wa ea nu bs bw bt') := ps_ne (by omega) ps_same
      refine r_aload_n dX10_load_74 (i := 0) rfl rfl (c_vn dX10_load_75 (c_X10_next q1 (ps_ne (by omega) (ps_ne (by omega) h4)) hbl (by omega) ⟨by omega, c1.1⟩) rfl rfl mq_X10_next ml_X10_102 ⟨Nat.le_of_ble_eq_true rfl, Nat.le_of_ble_eq_true rfl⟩ q1 rfl rfl rfl (Nat.le_of_ble_eq_true rfl) ?_)
      have hT0 : TM S (ps_put (ps_put (ps_put S m (mO m km 0 0 len at' 0 ki 0 wa ea nu bs bw bt')) (m + 2) (cJ 215 (fun _ => 0))) m (mO m km 0 0 len (sk (seeI bf len) 0) (tkE (seeI bf len) len (sk (seeI bf len) 0)) (tkK (seeI bf len) len (sk (seeI bf len) 0)) 0 wa ea (tkN (seeI bf len) len (sk (seeI bf len) 0) nu) bs bw bt')) m bf km 0 0 len ea bs bw bt' (sk (seeI bf len) 0) (fun _ => 0) := by
        refine ⟨fun z z1 z2 => ps_ne z1 (ps_ne z2 (ps_ne z1 rfl)), rfl, ps_ne (by omega) ps_same, h4, hbl, by omega, ⟨by omega, hk.2.2⟩, wa, _, ps_same, fun hd => ?_⟩
        have hlt := dg_lt hB hd
        have hdd := of_decide_eq_true hd
        unfold tkN
        rw [if_neg (by omega), if_neg (by unfold ltB; rw [decide_eq_true_eq]; omega), if_pos hd]
      refine l_mload hX hL (R := prgB (seeI bf len) len 600 (sk (seeI bf len) 0) (fun _ => 0)) (fun S2 q fr2 hT r1 r2 r3 => ?_) (fun S2 fr2 hW => ?_) 600 _ _ _ (by omega) NB.zero hT0 rfl
      · generalize prgB (seeI bf len) len 600 (sk (seeI bf len) 0) (fun _ => 0) = R at r1 r2 r3 ⊢
        obtain ⟨t1, t2, t3, t4, t5, t6, t7, wa2, nu2, u1, u2⟩ := hT
        refine r_aload_n dX10_load_134 (i := 0) rfl rfl (r_aload_n dX10_load_135 (i := 0) rfl rfl (r_get dX10_load_136 fl_X10_82 u1 rfl ?_))
        refine r_if_ne 146 dX10_load_139 (by decide) (by omega) (fun c3 => ?_) (fun c3 => ?_)
        · omega
        · refine r_iconst dX10_load_142 (r_goto 150 dX10_load_143 (by decide) (r_put dX10_load_150 fl_X10_23 u1 rfl rfl (Nat.le_of_ble_eq_true rfl) (r_aload_n dX10_load_153 (i := 0) rfl rfl (r_get dX10_load_154 fl_X10_82 ps_same rfl ?_))))
          refine r_if_eq 165 dX10_load_157 (by decide) (by omega) (fun c4 => ?_) (fun c4 => ?_)
          · have v1 : (ps_put S2 m (mO m km 0 0 len q (tkE (seeI bf len) len q) (tkK (seeI bf len) len q) 0 wa2 (-1) nu2 bs bw bt')).1 (m + 1) = some (cJ 215 a) := by rw [ps_ne (S := S2) (by omega) (t1 (m + 1) (by omega) (by omega))]; exact ha
            have v3 : (ps_put S2 m (mO m km 0 0 len q (tkE (seeI bf len) len q) (tkK (seeI bf len) len q) 0 wa2 (-1) nu2 bs bw bt')).1 (m + 3) = some (cJ 1720 kp) := by rw [ps_ne (S := S2) (by omega) (t1 (m + 3) (by omega) (by omega))]; exact hkp
            have v2 : (ps_put S2 m (mO m km 0 0 len q (tkE (seeI bf len) len q) (tkK (seeI bf len) len q) 0 wa2 (-1) nu2 bs bw bt')).1 (m + 2) = some (cJ 215 fr2) := ps_ne (by omega) t3
            refine r_aload_n dX10_load_165 (i := 0) rfl rfl (c_vn dX10_load_166 (c_X10_keeps ps_same v1 v3 hkm) rfl rfl mq_X10_keeps ml_X10_134 ⟨Nat.le_of_ble_eq_true rfl, Nat.le_of_ble_eq_true rfl⟩ ps_same rfl rfl rfl (Nat.le_of_ble_eq_true rfl) ?_)
            obtain ⟨S3, e3⟩ : ∃ S3, S3 = ps_put (ps_put (ps_put S2 m (mO m km 0 0 len q (tkE (seeI bf len) len q) (tkK (seeI bf len) len q) 0 wa2 (-1) nu2 bs bw bt')) (m + 3) (cJ 1720 (kpN km a kp))) m (mO m (min (km + 1) 8) 0 0 len q (tkE (seeI bf len) len q) (tkK (seeI bf len) len q) 0 wa2 (-1) nu2 bs bw bt') := ⟨_, rfl⟩
            refine r_ps (S' := S3) e3.symm ?_
            have w0 : S3.1 m = some (mO m (min (km + 1) 8) 0 0 len q (tkE (seeI bf len) len q) (tkK (seeI bf len) len q) 0 wa2 (-1) nu2 bs bw bt') := by rw [e3]; exact ps_same
            have w1 : S3.1 (m + 1) = some (cJ 215 a) := by rw [e3]; exact ps_ne (by omega) (ps_ne (by omega) v1)
            have w2 : S3.1 (m + 2) = some (cJ 215 fr2) := by rw [e3]; exact ps_ne (by omega) (ps_ne (by omega) v2)
            have w3 : S3.1 (m + 3) = some (cJ 1720 (kpN km a kp)) := by rw [e3]; exact ps_ne (by omega) ps_same
            have w4 : ∀ z : Nat, z < m ∨ m + 4 ≤ z → S3.1 z = S.1 z := fun z hz => by rw [e3]; exact ps_ne (by omega) (ps_ne (by omega) (ps_ne (by omega) (t1 z (by omega) (by omega))))
            have w5 : S3.2 = S.2 := by rw [e3]; exact t2
            refine r_aload_n dX10_load_169 (i := 0) rfl rfl (c_vn dX10_load_170 (c_X10_becomes w0 w1 w2) rfl rfl mq_X10_becomes ml_X10_27 ⟨Nat.le_of_ble_eq_true rfl, Nat.le_of_ble_eq_true rfl⟩ w0 rfl rfl rfl (Nat.le_of_ble_eq_true rfl) ?_)
            refine r_J (f' := fr2) ps_same (fun i i0 i1 => by rw [mix_in (by omega)]) ?_
            rw [ps_put_put]
            refine r_aload_n dX10_load_173 (i := 0) rfl rfl (r_get dX10_load_174 fl_X10_7 (ps_ne (by omega) w0) rfl (r_iconst dX10_load_177 (r_lald dX10_load_178 ps_same (by omega) (by omega) (by omega) (r_l2i dX10_load_179 ?_))))
            refine r_iret dX10_load_180 rfl rfl ?_
            subst r3
            exact Or.inr ⟨c1, q, _, _, 0, wa2, nu2, R.2.2, Or.inl ⟨r1, rfl, ps_ne (by omega) w0, ps_same, ps_ne (by omega) w2, ps_ne (by omega) w3, fun z hz => by rw [← w4 z hz]; exact ps_ne (by omega) rfl, w5⟩⟩
          · omega
      · generalize prgB (seeI bf len) len 600 (sk (seeI bf len) 0) (fun _ => 0) = R at hW ⊢
        obtain ⟨t1, t2, t3, t4, at2, be2, ki2, nu2, u1⟩ := hW
        refine r_aload_n dX10_load_134 (i := 0) rfl rfl (r_aload_n dX10_load_135 (i := 0) rfl rfl (r_get dX10_load_136 fl_X10_82 u1 rfl ?_))
        refine r_if_ne 146 dX10_load_139 (by decide) (by omega) (fun c3 => ?_) (fun c3 => ?_)
        · refine r_aload_n dX10_load_146 (i := 0) rfl rfl (r_get dX10_load_147 fl_X10_95 u1 rfl (r_put dX10_load_150 fl_X10_23 u1 rfl rfl (Nat.le_of_ble_eq_true rfl) (r_aload_n dX10_load_153 (i := 0) rfl rfl (r_get dX10_load_154 fl_X10_82 ps_same rfl ?_))))
          refine r_if_eq 165 dX10_load_157 (by decide) (by omega) (fun c4 => ?_) (fun c4 => ?_)
          · omega
          · refine r_aload_n dX10_load_160 (i := 0) rfl rfl (r_get dX10_load_161 fl_X10_82 ps_same rfl (r_iret dX10_load_164 rfl rfl ?_))
            exact Or.inr ⟨c1, at2, be2, ki2, R.1, R.2.1, nu2, fr2, Or.inr ⟨c3, rfl, ps_same, by rw [ps_ne (S := S2) (by omega) (t1 (m + 1) (by omega) (by omega))]; exact ha, ps_ne (by omega) t3, by rw [ps_ne (S := S2) (by omega) (t1 (m + 3) (by omega) (by omega))]; exact hkp, fun z hz => by rw [← t1 z (by omega) (by omega)]; exact ps_ne (by omega) rfl, t2⟩⟩
        · omega
    · omega
end MLOAD

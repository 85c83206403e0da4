/-! the model's face: the changes, part 3 -/
/-- the terms of two slots changed over, the first i of each -/
def swM (a : Int → Int) (s t i : Int) : Int → Int := mix (11 + 32 * t) (11 + 32 * t + i) (fun x => a (x + 32 * (s - t))) (mix (11 + 32 * s) (11 + 32 * s + i) (fun x => a (x + 32 * (t - s))) a)
def swA (a : Int → Int) (s t : Int) : Int → Int := upI (upI (swM a s t 32) (7 + s) (a (7 + t))) (7 + t) (a (7 + s))
theorem swM_0 {a : Int → Int} {s t : Int} : swM a s t ((0 : Nat) : Int) = a := by
  unfold swM
  have e : ∀ z : Int, z + ((0 : Nat) : Int) = z := fun z => by omega
  rw [e, e, mix_0, mix_0]
/-- the next pair of terms changed over -/
theorem swM_step {a : Int → Int} {s t i : Int} (hs : 0 ≤ s ∧ s ≤ 3) (ht : 0 ≤ t ∧ t ≤ 3) (hi : 0 ≤ i ∧ i < 32) : upI (upI (swM a s t i) (11 + 32 * s + i) (a (11 + 32 * t + i))) (11 + 32 * t + i) (a (11 + 32 * s + i)) = swM a s t (i + 1) := by
  funext x
  unfold swM upI mix
  by_cases e1 : x = 11 + 32 * t + i
  · rw [if_pos e1, if_pos (by omega), e1]
    congr 1
    omega
  · rw [if_neg e1]
    by_cases e2 : x = 11 + 32 * s + i
    · rw [if_pos e2]
      by_cases e3 : 11 + 32 * t ≤ x ∧ x < 11 + 32 * t + (i + 1)
      · omega
      · rw [if_neg e3, if_pos (by omega), e2]
        congr 1
        omega
    · rw [if_neg e2]
      by_cases e3 : 11 + 32 * t ≤ x ∧ x < 11 + 32 * t + i
      · rw [if_pos e3, if_pos (by omega)]
      · by_cases e4 : 11 + 32 * s ≤ x ∧ x < 11 + 32 * s + i
        · rw [if_neg e3, if_pos e4, if_neg (show ¬ (11 + 32 * t ≤ x ∧ x < 11 + 32 * t + (i + 1)) by omega), if_pos (show 11 + 32 * s ≤ x ∧ x < 11 + 32 * s + (i + 1) by omega)]
        · rw [if_neg e3, if_neg e4, if_neg (show ¬ (11 + 32 * t ≤ x ∧ x < 11 + 32 * t + (i + 1)) by omega), if_neg (show ¬ (11 + 32 * s ≤ x ∧ x < 11 + 32 * s + (i + 1)) by omega)]
theorem swM_s {a : Int → Int} {s t i : Int} (hs : 0 ≤ s ∧ s ≤ 3) (ht : 0 ≤ t ∧ t ≤ 3) (hi : 0 ≤ i ∧ i < 32) : swM a s t i (11 + 32 * s + i) = a (11 + 32 * s + i) := by
  unfold swM
  rw [mix_out (by omega), mix_out (by omega)]
theorem swM_t {a : Int → Int} {s t i : Int} (hs : 0 ≤ s ∧ s ≤ 3) (ht : 0 ≤ t ∧ t ≤ 3) (hi : 0 ≤ i ∧ i < 32) : swM a s t i (11 + 32 * t + i) = a (11 + 32 * t + i) := by
  unfold swM
  rw [mix_out (by omega), mix_out (by omega)]
theorem swM_l {a : Int → Int} {s t i r : Int} (hs : 0 ≤ s ∧ s ≤ 3) (ht : 0 ≤ t ∧ t ≤ 3) (hr : 0 ≤ r ∧ r < 11) : swM a s t i r = a r := by
  unfold swM
  rw [mix_out (by omega), mix_out (by omega)]
section MMUT3
variable {g : GT} {S : PS} {mc ms : Nat} {Q : PO → PS → Prop} {kc ks : Nat} {m : Nat} {a kp : Int → Int} {fs : List Value} {km th bu sz at' be ki wr wa ea nu bs bw bt' : Int}
theorem c_X10_setSequence {s len fr st : Int} (h : S.1 m = some (mO m km th bu sz at' be ki wr wa ea nu bs bw bt')) (ha : S.1 (m + 1) = some (cJ 215 a)) (hkp : S.1 (m + 3) = some (cJ 1720 kp)) (hl : ML a) (hkm : 0 ≤ km ∧ km ≤ 8) (hs : RI s) (hlr : RI len) (hfr : RI fr) (hst : RI st) : PC g yX10_setSequence cX10_setSequence (iX10_setSequence mc ms) [.ref m, vi s, vi len, vi fr, vi st] S (mC S m (fun km k => mO m km k bu sz at' be ki wr wa ea nu bs bw bt') km a kp (seA a s len fr st) (kSet4 s len fr st) (vi (a (7 + s)))) := by
  refine PC_of pnX10 rfl rfl rfl (Nat.le_of_ble_eq_true rfl) ?_
  refine r_iload_n dX10_setSequence_0 (i := 2) rfl rfl (r_i2l dX10_setSequence_1 (by omega) (r_lconst (z := 0) dX10_setSequence_2 (by decide) (r_ldc2 dX10_setSequence_3 csj_X10_204 (c_sr dX10_setSequence_6 (c_X10_isIn ⟨by omega, by omega⟩ ⟨by omega, by omega⟩ ⟨by omega, by omega⟩) rfl rfl mq_X10_isIn ml_X10_46 ⟨Nat.le_of_ble_eq_true rfl, Nat.le_of_ble_eq_true rfl⟩ rfl rfl (Nat.le_of_ble_eq_true rfl) ?_))))
  refine r_if_eq 31 dX10_setSequence_9 (by decide) b2i_RI (fun c1 => ?_) (fun c1 => ?_)
  · replace c1 := b2i_eq c1
    refine r_iconst dX10_setSequence_31 (r_istore dX10_setSequence_32 rfl (Nat.le_of_ble_eq_true rfl) (r_iload dX10_setSequence_34 rfl ?_))
    refine r_if_eq 75 dX10_setSequence_36 (by decide) (by omega) (fun c2 => ?_) (fun c2 => ?_)
    · refine r_aload_n dX10_setSequence_75 (i := 0) rfl rfl (r_iload_n dX10_setSequence_76 (i := 1) rfl rfl (c_sr dX10_setSequence_77 (c_X10_isSlot hs) rfl rfl mq_X10_isSlot ml_X10_191 ⟨Nat.le_of_ble_eq_true rfl, Nat.le_of_ble_eq_true rfl⟩ rfl rfl (Nat.le_of_ble_eq_true rfl) ?_))
      refine r_if_ne 87 dX10_setSequence_80 (by decide) b2i_RI (fun c3 => ?_) (fun c3 => ?_)
      · replace c3 := b2i_ne c3
        refine r_iload dX10_setSequence_87 rfl ?_
        refine r_if_eq 96 dX10_setSequence_89 (by decide) (by omega) (fun c4 => ?_) (fun c4 => ?_)
        · refine r_iconst dX10_setSequence_96 (r_put dX10_setSequence_97 fl_X10_30 h rfl rfl (Nat.le_of_ble_eq_true rfl) (r_aload_n dX10_setSequence_100 (i := 0) rfl rfl (r_get dX10_setSequence_101 fl_X10_30 ps_same rfl ?_)))
          refine r_if_le 109 dX10_setSequence_104 (by decide) (by omega) (fun c5 => ?_) (fun c5 => ?_)
          · omega
          · refine r_iconst dX10_setSequence_107 ?_
            refine r_iret dX10_setSequence_108 rfl rfl ?_
            first
              | omega
              | exact mC_t ha hkp (by unfold kSet4; rw [if_neg (by omega)]) (by decide)
              | exact mC_t ha hkp (by unfold kSet4; rw [if_pos (by omega), if_neg (by omega)]) (by decide)
        · omega
      · replace c3 := b2i_eq c3
        refine r_iconst dX10_setSequence_83 (r_goto 97 dX10_setSequence_84 (by decide) (r_put dX10_setSequence_97 fl_X10_30 h rfl rfl (Nat.le_of_ble_eq_true rfl) (r_aload_n dX10_setSequence_100 (i := 0) rfl rfl (r_get dX10_setSequence_101 fl_X10_30 ps_same rfl ?_))))
        refine r_if_le 109 dX10_setSequence_104 (by decide) (by omega) (fun c6 => ?_) (fun c6 => ?_)
        · omega
        · refine r_iconst dX10_setSequence_107 ?_
          refine r_iret dX10_setSequence_108 rfl rfl ?_
          first
            | omega
            | exact mC_t ha hkp (by unfold kSet4; rw [if_neg (by omega)]) (by decide)
            | exact mC_t ha hkp (by unfold kSet4; rw [if_pos (by omega), if_neg (by omega)]) (by decide)
    · omega
  · replace c1 := b2i_ne c1
    refine r_iload dX10_setSequence_12 rfl (r_i2l dX10_setSequence_14 (by omega) (r_ldc2 dX10_setSequence_15 csj_X10_206 (r_ldc2 dX10_setSequence_18 csj_X10_208 (c_sr dX10_setSequence_21 (c_X10_isIn ⟨by omega, by omega⟩ ⟨by omega, by omega⟩ ⟨by omega, by omega⟩) rfl rfl mq_X10_isIn ml_X10_46 ⟨Nat.le_of_ble_eq_true rfl, Nat.le_of_ble_eq_true rfl⟩ rfl rfl (Nat.le_of_ble_eq_true rfl) ?_))))
    refine r_if_eq 31 dX10_setSequence_24 (by decide) b2i_RI (fun c7 => ?_) (fun c7 => ?_)
    · replace c7 := b2i_eq c7
      refine r_iconst dX10_setSequence_31 (r_istore dX10_setSequence_32 rfl (Nat.le_of_ble_eq_true rfl) (r_iload dX10_setSequence_34 rfl ?_))
      refine r_if_eq 75 dX10_setSequence_36 (by decide) (by omega) (fun c8 => ?_) (fun c8 => ?_)
      · refine r_aload_n dX10_setSequence_75 (i := 0) rfl rfl (r_iload_n dX10_setSequence_76 (i := 1) rfl rfl (c_sr dX10_setSequence_77 (c_X10_isSlot hs) rfl rfl mq_X10_isSlot ml_X10_191 ⟨Nat.le_of_ble_eq_true rfl, Nat.le_of_ble_eq_true rfl⟩ rfl rfl (Nat.le_of_ble_eq_true rfl) ?_))
        refine r_if_ne 87 dX10_setSequence_80 (by decide) b2i_RI (fun c9 => ?_) (fun c9 => ?_)
        · replace c9 := b2i_ne c9
          refine r_iload dX10_setSequence_87 rfl ?_
          refine r_if_eq 96 dX10_setSequence_89 (by decide) (by omega) (fun c10 => ?_) (fun c10 => ?_)
          · refine r_iconst dX10_setSequence_96 (r_put dX10_setSequence_97 fl_X10_30 h rfl rfl (Nat.le_of_ble_eq_true rfl) (r_aload_n dX10_setSequence_100 (i := 0) rfl rfl (r_get dX10_setSequence_101 fl_X10_30 ps_same rfl ?_)))
            refine r_if_le 109 dX10_setSequence_104 (by decide) (by omega) (fun c11 => ?_) (fun c11 => ?_)
            · omega
            · refine r_iconst dX10_setSequence_107 ?_
              refine r_iret dX10_setSequence_108 rfl rfl ?_
              first
                | omega
                | exact mC_t ha hkp (by unfold kSet4; rw [if_neg (by omega)]) (by decide)
                | exact mC_t ha hkp (by unfold kSet4; rw [if_pos (by omega), if_neg (by omega)]) (by decide)
          · omega
        · replace c9 := b2i_eq c9
          refine r_iconst dX10_setSequence_83 (r_goto 97 dX10_setSequence_84 (by decide) (r_put dX10_setSequence_97 fl_X10_30 h rfl rfl (Nat.le_of_ble_eq_true rfl) (r_aload_n dX10_setSequence_100 (i := 0) rfl rfl (r_get dX10_setSequence_101 fl_X10_30 ps_same rfl ?_))))
          refine r_if_le 109 dX10_setSequence_104 (by decide) (by omega) (fun c12 => ?_) (fun c12 => ?_)
          · omega
          · refine r_iconst dX10_setSequence_107 ?_
            refine r_iret dX10_setSequence_108 rfl rfl ?_
            first
              | omega
              | exact mC_t ha hkp (by unfold kSet4; rw [if_neg (by omega)]) (by decide)
              | exact mC_t ha hkp (by unfold kSet4; rw [if_pos (by omega), if_neg (by omega)]) (by decide)
      · omega
    · replace c7 := b2i_ne c7
      refine r_iconst dX10_setSequence_27 (r_goto 32 dX10_setSequence_28 (by decide) (r_istore dX10_setSequence_32 rfl (Nat.le_of_ble_eq_true rfl) (r_iload dX10_setSequence_34 rfl ?_)))
      refine r_if_eq 75 dX10_setSequence_36 (by decide) (by omega) (fun c13 => ?_) (fun c13 => ?_)
      · omega
      · refine r_iload_n dX10_setSequence_39 (i := 2) rfl rfl ?_
        refine r_if_le 75 dX10_setSequence_40 (by decide) (by omega) (fun c14 => ?_) (fun c14 => ?_)
        · refine r_aload_n dX10_setSequence_75 (i := 0) rfl rfl (r_iload_n dX10_setSequence_76 (i := 1) rfl rfl (c_sr dX10_setSequence_77 (c_X10_isSlot hs) rfl rfl mq_X10_isSlot ml_X10_191 ⟨Nat.le_of_ble_eq_true rfl, Nat.le_of_ble_eq_true rfl⟩ rfl rfl (Nat.le_of_ble_eq_true rfl) ?_))
          refine r_if_ne 87 dX10_setSequence_80 (by decide) b2i_RI (fun c15 => ?_) (fun c15 => ?_)
          · replace c15 := b2i_ne c15
            refine r_iload dX10_setSequence_87 rfl ?_
            refine r_if_eq 96 dX10_setSequence_89 (by decide) (by omega) (fun c16 => ?_) (fun c16 => ?_)
            · omega
            · refine r_iconst dX10_setSequence_92 (r_goto 97 dX10_setSequence_93 (by decide) (r_put dX10_setSequence_97 fl_X10_30 h rfl rfl (Nat.le_of_ble_eq_true rfl) (r_aload_n dX10_setSequence_100 (i := 0) rfl rfl (r_get dX10_setSequence_101 fl_X10_30 ps_same rfl ?_))))
              refine r_if_le 109 dX10_setSequence_104 (by decide) (by omega) (fun c17 => ?_) (fun c17 => ?_)
              · first
                  | omega
                  | have hk0 : kSet4 s len fr st = 0 := by unfold kSet4; rw [if_pos (by omega), if_pos (by omega)]
                    have hok : ((0 ≤ len ∧ len ≤ 32) ∧ -999 ≤ st ∧ st ≤ 999) ∧ (len = 0 ∨ (-9999 ≤ fr ∧ fr ≤ 9999)) ∧ 0 ≤ s ∧ s ≤ 3 := by omega
                    have e0 : mix (11 + 32 * s) (11 + 32 * s + ((0 : Nat) : Int)) (fun x => if x - (11 + 32 * s) < len then fr + st * (x - (11 + 32 * s)) else 0) a = a := by
                      rw [show 11 + 32 * s + ((0 : Nat) : Int) = 11 + 32 * s by omega]
                      exact mix_0
                    have hA : ∀ S0 : PS, S0.1 (m + 1) = some (cJ 215 a) → S0 = ps_put S0 (m + 1) (cJ 215 (mix (11 + 32 * s) (11 + 32 * s + ((0 : Nat) : Int)) (fun x => if x - (11 + 32 * s) < len then fr + st * (x - (11 + 32 * s)) else 0) a)) := fun S0 h9 => by
                      rw [e0]
                      exact (ps_put_self h9).symm
                    refine r_aload_n dX10_setSequence_109 (i := 0) rfl rfl (c_vn dX10_setSequence_110 (c_X10_keeps ps_same (ps_ne (by omega) ha) (ps_ne (by omega) hkp) hkm) rfl rfl mq_X10_keeps ml_X10_134 ⟨Nat.le_of_ble_eq_true rfl, Nat.le_of_ble_eq_true rfl⟩ ps_same rfl rfl rfl (Nat.le_of_ble_eq_true rfl) ?_)
                    refine r_aload_n dX10_setSequence_113 (i := 0) rfl rfl (r_iload_n dX10_setSequence_114 (i := 1) rfl rfl (c_vr dX10_setSequence_115 (c_X10_longOf ps_same (ps_ne (by omega) (ps_ne (by omega) (ps_ne (by omega) ha))) (by omega)) rfl rfl mq_X10_longOf ml_X10_194 ⟨Nat.le_of_ble_eq_true rfl, Nat.le_of_ble_eq_true rfl⟩ ps_same rfl rfl rfl (Nat.le_of_ble_eq_true rfl) (r_istore dX10_setSequence_118 rfl (Nat.le_of_ble_eq_true rfl) (r_iconst dX10_setSequence_120 ?_))))
                    refine r_istore dX10_setSequence_121 rfl (Nat.le_of_ble_eq_true rfl) ?_
                    refine r_ps (hA _ (ps_ne (by omega) (ps_ne (by omega) (ps_ne (by omega) ha)))) ?_
                    refine r_loc [(0, some (.ref m)), (1, some (vi s)), (2, some (vi len)), (3, some (vi fr)), (4, some (vi st)), (6, some (vi (a (7 + s)))), (7, some (vi ((0 : Nat) : Int)))] ⟨Or.inl rfl, Or.inl rfl, Or.inl rfl, Or.inl rfl, Or.inl rfl, Or.inl rfl, Or.inl rfl, trivial⟩ ?_
                    refine l_set (L5 := .null) (L6 := .null) ps_same hok.2.2 hok.1.1 hok.2.1 hok.1.2 hfr ?_ 32 0 rfl
                    refine r_aload_n dX10_setSequence_163 (i := 0) rfl rfl (r_get dX10_setSequence_164 fl_X10_7 (ps_ne (by omega) ps_same) rfl (r_bipush dX10_setSequence_167 (by decide) (r_iload_n dX10_setSequence_169 (i := 1) rfl rfl (r_iadd dX10_setSequence_170 ?_))))
                    refine r_iload_n dX10_setSequence_171 (i := 2) rfl rfl (r_i2l dX10_setSequence_172 (by omega) (r_last dX10_setSequence_173 ps_same (by omega) (by omega) (by omega) (r_iload dX10_setSequence_174 rfl ?_)))
                    refine r_iret dX10_setSequence_176 rfl rfl ?_
                    refine mC_0 hk0 rfl rfl (fun z z1 z2 z3 => ?_) ?_ ?_ ?_
                    all_goals repeat (first | exact ps_same | rfl | refine ps_ne (by omega) ?_)
              · omega
          · replace c15 := b2i_eq c15
            refine r_iconst dX10_setSequence_83 (r_goto 97 dX10_setSequence_84 (by decide) (r_put dX10_setSequence_97 fl_X10_30 h rfl rfl (Nat.le_of_ble_eq_true rfl) (r_aload_n dX10_setSequence_100 (i := 0) rfl rfl (r_get dX10_setSequence_101 fl_X10_30 ps_same rfl ?_))))
            refine r_if_le 109 dX10_setSequence_104 (by decide) (by omega) (fun c18 => ?_) (fun c18 => ?_)
            · omega
            · refine r_iconst dX10_setSequence_107 ?_
              refine r_iret dX10_setSequence_108 rfl rfl ?_
              first
                | omega
                | exact mC_t ha hkp (by unfold kSet4; rw [if_neg (by omega)]) (by decide)
                | exact mC_t ha hkp (by unfold kSet4; rw [if_pos (by omega), if_neg (by omega)]) (by decide)
        · refine r_iload_n dX10_setSequence_43 (i := 3) rfl rfl (r_i2l dX10_setSequence_44 (by omega) (c_sr dX10_setSequence_45 (c_X10_isTerm ⟨by omega, by omega⟩) rfl rfl mq_X10_isTerm ml_X10_210 ⟨Nat.le_of_ble_eq_true rfl, Nat.le_of_ble_eq_true rfl⟩ rfl rfl (Nat.le_of_ble_eq_true rfl) ?_))
          refine r_if_eq 72 dX10_setSequence_48 (by decide) b2i_RI (fun c19 => ?_) (fun c19 => ?_)
          · replace c19 := b2i_eq c19
            refine r_iconst dX10_setSequence_72 (r_istore dX10_setSequence_73 rfl (Nat.le_of_ble_eq_true rfl) (r_aload_n dX10_setSequence_75 (i := 0) rfl rfl (r_iload_n dX10_setSequence_76 (i := 1) rfl rfl (c_sr dX10_setSequence_77 (c_X10_isSlot hs) rfl rfl mq_X10_isSlot ml_X10_191 ⟨Nat.le_of_ble_eq_true rfl, Nat.le_of_ble_eq_true rfl⟩ rfl rfl (Nat.le_of_ble_eq_true rfl) ?_))))
            refine r_if_ne 87 dX10_setSequence_80 (by decide) b2i_RI (fun c20 => ?_) (fun c20 => ?_)
            · replace c20 := b2i_ne c20
              refine r_iload dX10_setSequence_87 rfl ?_
              refine r_if_eq 96 dX10_setSequence_89 (by decide) (by omega) (fun c21 => ?_) (fun c21 => ?_)
              · refine r_iconst dX10_setSequence_96 (r_put dX10_setSequence_97 fl_X10_30 h rfl rfl (Nat.le_of_ble_eq_true rfl) (r_aload_n dX10_setSequence_100 (i := 0) rfl rfl (r_get dX10_setSequence_101 fl_X10_30 ps_same rfl ?_)))
                refine r_if_le 109 dX10_setSequence_104 (by decide) (by omega) (fun c22 => ?_) (fun c22 => ?_)
                · omega
                · refine r_iconst dX10_setSequence_107 ?_
                  refine r_iret dX10_setSequence_108 rfl rfl ?_
                  first
                    | omega
                    | exact mC_t ha hkp (by unfold kSet4; rw [if_neg (by omega)]) (by decide)
                    | exact mC_t ha hkp (by unfold kSet4; rw [if_pos (by omega), if_neg (by omega)]) (by decide)
              · omega
            · replace c20 := b2i_eq c20
              refine r_iconst dX10_setSequence_83 (r_goto 97 dX10_setSequence_84 (by decide) (r_put dX10_setSequence_97 fl_X10_30 h rfl rfl (Nat.le_of_ble_eq_true rfl) (r_aload_n dX10_setSequence_100 (i := 0) rfl rfl (r_get dX10_setSequence_101 fl_X10_30 ps_same rfl ?_))))
              refine r_if_le 109 dX10_setSequence_104 (by decide) (by omega) (fun c23 => ?_) (fun c23 => ?_)
              · omega
              · refine r_iconst dX10_setSequence_107 ?_
                refine r_iret dX10_setSequence_108 rfl rfl ?_
                first
                  | omega
                  | exact mC_t ha hkp (by unfold kSet4; rw [if_neg (by omega)]) (by decide)
                  | exact mC_t ha hkp (by unfold kSet4; rw [if_pos (by omega), if_neg (by omega)]) (by decide)
          · replace c19 := b2i_ne c19
            have hmb := mul_bd2 (M := 999) (N := 31) (by omega) (by omega) (x := st) (y := len - 1) (by omega) (by omega)
            refine r_iload_n dX10_setSequence_51 (i := 3) rfl rfl (r_i2l dX10_setSequence_52 (by omega) (r_iload dX10_setSequence_53 rfl (r_i2l dX10_setSequence_55 (by omega) (r_iload_n dX10_setSequence_56 (i := 2) rfl rfl ?_))))
            refine r_iconst dX10_setSequence_57 (r_isub dX10_setSequence_58 (r_i2l dX10_setSequence_59 (by omega) (r_lmul dX10_setSequence_60 (r_ladd dX10_setSequence_61 ?_))))
            refine c_sr dX10_setSequence_62 (c_X10_isTerm ⟨by omega, by omega⟩) rfl rfl mq_X10_isTerm ml_X10_210 ⟨Nat.le_of_ble_eq_true rfl, Nat.le_of_ble_eq_true rfl⟩ rfl rfl (Nat.le_of_ble_eq_true rfl) ?_
            refine r_if_eq 72 dX10_setSequence_65 (by decide) b2i_RI (fun c24 => ?_) (fun c24 => ?_)
            · replace c24 := b2i_eq c24
              refine r_iconst dX10_setSequence_72 (r_istore dX10_setSequence_73 rfl (Nat.le_of_ble_eq_true rfl) (r_aload_n dX10_setSequence_75 (i := 0) rfl rfl (r_iload_n dX10_setSequence_76 (i := 1) rfl rfl (c_sr dX10_setSequence_77 (c_X10_isSlot hs) rfl rfl mq_X10_isSlot ml_X10_191 ⟨Nat.le_of_ble_eq_true rfl, Nat.le_of_ble_eq_true rfl⟩ rfl rfl (Nat.le_of_ble_eq_true rfl) ?_))))
              refine r_if_ne 87 dX10_setSequence_80 (by decide) b2i_RI (fun c25 => ?_) (fun c25 => ?_)
              · replace c25 := b2i_ne c25
                refine r_iload dX10_setSequence_87 rfl ?_
                refine r_if_eq 96 dX10_setSequence_89 (by decide) (by omega) (fun c26 => ?_) (fun c26 => ?_)
                · refine r_iconst dX10_setSequence_96 (r_put dX10_setSequence_97 fl_X10_30 h rfl rfl (Nat.le_of_ble_eq_true rfl) (r_aload_n dX10_setSequence_100 (i := 0) rfl rfl (r_get dX10_setSequence_101 fl_X10_30 ps_same rfl ?_)))
                  refine r_if_le 109 dX10_setSequence_104 (by decide) (by omega) (fun c27 => ?_) (fun c27 => ?_)
                  · omega
                  · refine r_iconst dX10_setSequence_107 ?_
                    refine r_iret dX10_setSequence_108 rfl rfl ?_
                    first
                      | omega
                      | exact mC_t ha hkp (by unfold kSet4; rw [if_neg (by omega)]) (by decide)
                      | exact mC_t ha hkp (by unfold kSet4; rw [if_pos (by omega), if_neg (by omega)]) (by decide)
                · omega
              · replace c25 := b2i_eq c25
                refine r_iconst dX10_setSequence_83 (r_goto 97 dX10_setSequence_84 (by decide) (r_put dX10_setSequence_97 fl_X10_30 h rfl rfl (Nat.le_of_ble_eq_true rfl) (r_aload_n dX10_setSequence_100 (i := 0) rfl rfl (r_get dX10_setSequence_101 fl_X10_30 ps_same rfl ?_))))
                refine r_if_le 109 dX10_setSequence_104 (by decide) (by omega) (fun c28 => ?_) (fun c28 => ?_)
                · omega
                · refine r_iconst dX10_setSequence_107 ?_
                  refine r_iret dX10_setSequence_108 rfl rfl ?_
                  first
                    | omega
                    | exact mC_t ha hkp (by unfold kSet4; rw [if_neg (by omega)]) (by decide)
                    | exact mC_t ha hkp (by unfold kSet4; rw [if_pos (by omega), if_neg (by omega)]) (by decide)
            · replace c24 := b2i_ne c24
              refine r_iconst dX10_setSequence_68 (r_goto 73 dX10_setSequence_69 (by decide) (r_istore dX10_setSequence_73 rfl (Nat.le_of_ble_eq_true rfl) (r_aload_n dX10_setSequence_75 (i := 0) rfl rfl (r_iload_n dX10_setSequence_76 (i := 1) rfl rfl ?_))))
              refine c_sr dX10_setSequence_77 (c_X10_isSlot hs) rfl rfl mq_X10_isSlot ml_X10_191 ⟨Nat.le_of_ble_eq_true rfl, Nat.le_of_ble_eq_true rfl⟩ rfl rfl (Nat.le_of_ble_eq_true rfl) ?_
              refine r_if_ne 87 dX10_setSequence_80 (by decide) b2i_RI (fun c29 => ?_) (fun c29 => ?_)
              · replace c29 := b2i_ne c29
                refine r_iload dX10_setSequence_87 rfl ?_
                refine r_if_eq 96 dX10_setSequence_89 (by decide) (by omega) (fun c30 => ?_) (fun c30 => ?_)
                · omega
                · refine r_iconst dX10_setSequence_92 (r_goto 97 dX10_setSequence_93 (by decide) (r_put dX10_setSequence_97 fl_X10_30 h rfl rfl (Nat.le_of_ble_eq_true rfl) (r_aload_n dX10_setSequence_100 (i := 0) rfl rfl (r_get dX10_setSequence_101 fl_X10_30 ps_same rfl ?_))))
                  refine r_if_le 109 dX10_setSequence_104 (by decide) (by omega) (fun c31 => ?_) (fun c31 => ?_)
                  · first
                      | omega
                      | have hk0 : kSet4 s len fr st = 0 := by unfold kSet4; rw [if_pos (by omega), if_pos (by omega)]
                        have hok : ((0 ≤ len ∧ len ≤ 32) ∧ -999 ≤ st ∧ st ≤ 999) ∧ (len = 0 ∨ (-9999 ≤ fr ∧ fr ≤ 9999)) ∧ 0 ≤ s ∧ s ≤ 3 := by omega
                        have e0 : mix (11 + 32 * s) (11 + 32 * s + ((0 : Nat) : Int)) (fun x => if x - (11 + 32 * s) < len then fr + st * (x - (11 + 32 * s)) else 0) a = a := by
                          rw [show 11 + 32 * s + ((0 : Nat) : Int) = 11 + 32 * s by omega]
                          exact mix_0
                        have hA : ∀ S0 : PS, S0.1 (m + 1) = some (cJ 215 a) → S0 = ps_put S0 (m + 1) (cJ 215 (mix (11 + 32 * s) (11 + 32 * s + ((0 : Nat) : Int)) (fun x => if x - (11 + 32 * s) < len then fr + st * (x - (11 + 32 * s)) else 0) a)) := fun S0 h9 => by
                          rw [e0]
                          exact (ps_put_self h9).symm
                        refine r_aload_n dX10_setSequence_109 (i := 0) rfl rfl (c_vn dX10_setSequence_110 (c_X10_keeps ps_same (ps_ne (by omega) ha) (ps_ne (by omega) hkp) hkm) rfl rfl mq_X10_keeps ml_X10_134 ⟨Nat.le_of_ble_eq_true rfl, Nat.le_of_ble_eq_true rfl⟩ ps_same rfl rfl rfl (Nat.le_of_ble_eq_true rfl) ?_)
                        refine r_aload_n dX10_setSequence_113 (i := 0) rfl rfl (r_iload_n dX10_setSequence_114 (i := 1) rfl rfl (c_vr dX10_setSequence_115 (c_X10_longOf ps_same (ps_ne (by omega) (ps_ne (by omega) (ps_ne (by omega) ha))) (by omega)) rfl rfl mq_X10_longOf ml_X10_194 ⟨Nat.le_of_ble_eq_true rfl, Nat.le_of_ble_eq_true rfl⟩ ps_same rfl rfl rfl (Nat.le_of_ble_eq_true rfl) (r_istore dX10_setSequence_118 rfl (Nat.le_of_ble_eq_true rfl) (r_iconst dX10_setSequence_120 ?_))))
                        refine r_istore dX10_setSequence_121 rfl (Nat.le_of_ble_eq_true rfl) ?_
                        refine r_ps (hA _ (ps_ne (by omega) (ps_ne (by omega) (ps_ne (by omega) ha)))) ?_
                        refine r_loc [(0, some (.ref m)), (1, some (vi s)), (2, some (vi len)), (3, some (vi fr)), (4, some (vi st)), (6, some (vi (a (7 + s)))), (7, some (vi ((0 : Nat) : Int)))] ⟨Or.inl rfl, Or.inl rfl, Or.inl rfl, Or.inl rfl, Or.inl rfl, Or.inl rfl, Or.inl rfl, trivial⟩ ?_
                        refine l_set (L5 := .null) (L6 := .null) ps_same hok.2.2 hok.1.1 hok.2.1 hok.1.2 hfr ?_ 32 0 rfl
                        refine r_aload_n dX10_setSequence_163 (i := 0) rfl rfl (r_get dX10_setSequence_164 fl_X10_7 (ps_ne (by omega) ps_same) rfl (r_bipush dX10_setSequence_167 (by decide) (r_iload_n dX10_setSequence_169 (i := 1) rfl rfl (r_iadd dX10_setSequence_170 ?_))))
                        refine r_iload_n dX10_setSequence_171 (i := 2) rfl rfl (r_i2l dX10_setSequence_172 (by omega) (r_last dX10_setSequence_173 ps_same (by omega) (by omega) (by omega) (r_iload dX10_setSequence_174 rfl ?_)))
                        refine r_iret dX10_setSequence_176 rfl rfl ?_
                        refine mC_0 hk0 rfl rfl (fun z z1 z2 z3 => ?_) ?_ ?_ ?_
                        all_goals repeat (first | exact ps_same | rfl | refine ps_ne (by omega) ?_)
                  · omega
              · replace c29 := b2i_eq c29
                refine r_iconst dX10_setSequence_83 (r_goto 97 dX10_setSequence_84 (by decide) (r_put dX10_setSequence_97 fl_X10_30 h rfl rfl (Nat.le_of_ble_eq_true rfl) (r_aload_n dX10_setSequence_100 (i := 0) rfl rfl (r_get dX10_setSequence_101 fl_X10_30 ps_same rfl ?_))))
                refine r_if_le 109 dX10_setSequence_104 (by decide) (by omega) (fun c32 => ?_) (fun c32 => ?_)
                · omega
                · refine r_iconst dX10_setSequence_107 ?_
                  refine r_iret dX10_setSequence_108 rfl rfl ?_
                  first
                    | omega
                    | exact mC_t ha hkp (by unfold kSet4; rw [if_neg (by omega)]) (by decide)
                    | exact mC_t ha hkp (by unfold kSet4; rw [if_pos (by omega), if_neg (by omega)]) (by decide)
theorem l_swap {s t : Int} (h : S.1 m = some (cO 10 (.ref (m + 1) :: fs))) (hs : 0 ≤ s ∧ s ≤ 3) (ht : 0 ≤ t ∧ t ≤ 3)
    (hk : PW g cX10_swap (iX10_swap mc ms) 78 [(0, some (.ref m)), (1, some (vi s)), (2, some (vi t))] [] (ps_put S (m + 1) (cJ 215 (swM a s t 32))) kc ks Q) : ∀ (r i : Nat), i + r = 32 →
    PW g cX10_swap (iX10_swap mc ms) 38 [(0, some (.ref m)), (1, some (vi s)), (2, some (vi t)), (3, some (vi (i : Int)))] [] (ps_put S (m + 1) (cJ 215 (swM a s t (i : Int)))) kc ks Q := by
  intro r
  induction r with
  | zero =>
    intro i hi
    have e : i = 32 := by omega
    subst e
    refine r_iload_n dX10_swap_38 (i := 3) rfl rfl (r_bipush dX10_swap_39 (by decide) ?_)
    refine r_icmp_ge 78 dX10_swap_41 (by decide) (by omega) (by omega) (fun c1 => ?_) (fun c1 => ?_)
    · exact r_loc [(0, some (.ref m)), (1, some (vi s)), (2, some (vi t))] ⟨Or.inl rfl, Or.inl rfl, Or.inl rfl, trivial⟩ hk
    · omega
  | succ r ih =>
    intro i hi
    have h1 : (ps_put S (m + 1) (cJ 215 (swM a s t (i : Int)))).1 m = some (cO 10 (.ref (m + 1) :: fs)) := ps_ne (by omega) h
    have hi2 : 0 ≤ (i : Int) ∧ (i : Int) < 32 := by omega
    refine r_iload_n dX10_swap_38 (i := 3) rfl rfl (r_bipush dX10_swap_39 (by decide) ?_)
    refine r_icmp_ge 78 dX10_swap_41 (by decide) (by omega) (by omega) (fun c1 => ?_) (fun c1 => ?_)
    · omega
    · refine r_aload_n dX10_swap_44 (i := 0) rfl rfl (r_iload_n dX10_swap_45 (i := 1) rfl rfl (r_iload_n dX10_swap_46 (i := 3) rfl rfl (c_vr dX10_swap_47 (c_X10_termOf h1 ps_same (by omega) (by omega)) rfl rfl mq_X10_termOf ml_X10_197 ⟨Nat.le_of_ble_eq_true rfl, Nat.le_of_ble_eq_true rfl⟩ h1 rfl rfl rfl (Nat.le_of_ble_eq_true rfl) (r_lstore dX10_swap_50 rfl (Nat.le_of_ble_eq_true rfl) ?_))))
      refine r_aload_n dX10_swap_52 (i := 0) rfl rfl (r_iload_n dX10_swap_53 (i := 1) rfl rfl (r_iload_n dX10_swap_54 (i := 3) rfl rfl (r_aload_n dX10_swap_55 (i := 0) rfl rfl (r_iload_n dX10_swap_56 (i := 2) rfl rfl ?_))))
      refine r_iload_n dX10_swap_57 (i := 3) rfl rfl (c_vr dX10_swap_58 (c_X10_termOf h1 ps_same (by omega) (by omega)) rfl rfl mq_X10_termOf ml_X10_197 ⟨Nat.le_of_ble_eq_true rfl, Nat.le_of_ble_eq_true rfl⟩ h1 rfl rfl rfl (Nat.le_of_ble_eq_true rfl) ?_)
      rw [swM_s hs ht hi2, swM_t hs ht hi2]
      refine c_vn dX10_swap_61 (c_X10_putTerm h1 ps_same (by omega) (by omega)) rfl rfl mq_X10_putTerm ml_X10_214 ⟨Nat.le_of_ble_eq_true rfl, Nat.le_of_ble_eq_true rfl⟩ h1 rfl rfl rfl (Nat.le_of_ble_eq_true rfl) ?_
      rw [ps_put_put]
      refine r_aload_n dX10_swap_64 (i := 0) rfl rfl (r_iload_n dX10_swap_65 (i := 2) rfl rfl (r_iload_n dX10_swap_66 (i := 3) rfl rfl (r_lload dX10_swap_67 rfl (c_vn dX10_swap_69 (c_X10_putTerm (ps_ne (by omega) h) ps_same (by omega) (by omega)) rfl rfl mq_X10_putTerm ml_X10_214 ⟨Nat.le_of_ble_eq_true rfl, Nat.le_of_ble_eq_true rfl⟩ (ps_ne (by omega) h) rfl rfl rfl (Nat.le_of_ble_eq_true rfl) ?_))))
      refine r_iinc dX10_swap_72 rfl rfl (r_goto 38 dX10_swap_75 (by decide) ?_)
      rw [ps_put_put, swM_step hs ht hi2]
      exact r_loc [(0, some (.ref m)), (1, some (vi s)), (2, some (vi t)), (3, some (vi ((i + 1 : Nat) : Int)))] ⟨Or.inl rfl, Or.inl rfl, Or.inl rfl, Or.inl rfl, trivial⟩ (ih (i + 1) (by omega))
theorem swA_s {a : Int → Int} {s t : Int} (hs : 0 ≤ s ∧ s ≤ 3) (ht : 0 ≤ t ∧ t ≤ 3) : swA a s t (7 + s) = a (7 + t) := by
  unfold swA
  by_cases e : s = t
  · subst e
    rw [upI_eq]
  · rw [upI_ne (by omega), upI_eq]
theorem c_X10_swap {s t : Int} (h : S.1 m = some (mO m km th bu sz at' be ki wr wa ea nu bs bw bt')) (ha : S.1 (m + 1) = some (cJ 215 a)) (hkp : S.1 (m + 3) = some (cJ 1720 kp)) (hl : ML a) (hkm : 0 ≤ km ∧ km ≤ 8) (hs : RI s) (ht : RI t) : PC g yX10_swap cX10_swap (iX10_swap mc ms) [.ref m, vi s, vi t] S (mC S m (fun km k => mO m km k bu sz at' be ki wr wa ea nu bs bw bt') km a kp (swA a s t) (kSwap s t) (vi (a (7 + t)))) := by
  refine PC_of pnX10 rfl rfl rfl (Nat.le_of_ble_eq_true rfl) ?_
  refine r_aload_n dX10_swap_0 (i := 0) rfl rfl (r_iload_n dX10_swap_1 (i := 1) rfl rfl (c_sr dX10_swap_2 (c_X10_isSlot ⟨by omega, by omega⟩) rfl rfl mq_X10_isSlot ml_X10_191 ⟨Nat.le_of_ble_eq_true rfl, Nat.le_of_ble_eq_true rfl⟩ rfl rfl (Nat.le_of_ble_eq_true rfl) ?_))
  refine r_if_eq 19 dX10_swap_5 (by decide) b2i_RI (fun c1 => ?_) (fun c1 => ?_)
  · replace c1 := b2i_eq c1
    refine r_iconst dX10_swap_19 (r_put dX10_swap_20 fl_X10_30 h rfl rfl (Nat.le_of_ble_eq_true rfl) (r_aload_n dX10_swap_23 (i := 0) rfl rfl (r_get dX10_swap_24 fl_X10_30 ps_same rfl ?_)))
    refine r_if_le 32 dX10_swap_27 (by decide) (by omega) (fun c2 => ?_) (fun c2 => ?_)
    · omega
    · refine r_iconst dX10_swap_30 ?_
      refine r_iret dX10_swap_31 rfl rfl ?_
      exact mC_t ha hkp (by unfold kSwap; rw [if_neg (by omega)]) (by decide)
  · replace c1 := b2i_ne c1
    refine r_iload_n dX10_swap_8 (i := 2) rfl rfl (c_sr dX10_swap_9 (c_X10_isSlot ⟨by omega, by omega⟩) rfl rfl mq_X10_isSlot ml_X10_191 ⟨Nat.le_of_ble_eq_true rfl, Nat.le_of_ble_eq_true rfl⟩ rfl rfl (Nat.le_of_ble_eq_true rfl) ?_)
    refine r_if_eq 19 dX10_swap_12 (by decide) b2i_RI (fun c3 => ?_) (fun c3 => ?_)
    · replace c3 := b2i_eq c3
      refine r_iconst dX10_swap_19 (r_put dX10_swap_20 fl_X10_30 h rfl rfl (Nat.le_of_ble_eq_true rfl) (r_aload_n dX10_swap_23 (i := 0) rfl rfl (r_get dX10_swap_24 fl_X10_30 ps_same rfl ?_)))
      refine r_if_le 32 dX10_swap_27 (by decide) (by omega) (fun c4 => ?_) (fun c4 => ?_)
      · omega
      · refine r_iconst dX10_swap_30 ?_
        refine r_iret dX10_swap_31 rfl rfl ?_
        exact mC_t ha hkp (by unfold kSwap; rw [if_neg (by omega)]) (by decide)
    · replace c3 := b2i_ne c3
      refine r_iconst dX10_swap_15 (r_goto 20 dX10_swap_16 (by decide) (r_put dX10_swap_20 fl_X10_30 h rfl rfl (Nat.le_of_ble_eq_true rfl) (r_aload_n dX10_swap_23 (i := 0) rfl rfl (r_get dX10_swap_24 fl_X10_30 ps_same rfl ?_))))
      refine r_if_le 32 dX10_swap_27 (by decide) (by omega) (fun c5 => ?_) (fun c5 => ?_)
      · have hk0 : kSwap s t = 0 := by unfold kSwap; rw [if_pos (by omega)]
        have hs2 : 0 ≤ s ∧ s ≤ 3 := by omega
        have ht2 : 0 ≤ t ∧ t ≤ 3 := by omega
        have hA : ∀ S0 : PS, S0.1 (m + 1) = some (cJ 215 a) → S0 = ps_put S0 (m + 1) (cJ 215 (swM a s t ((0 : Nat) : Int))) := fun S0 h9 => by
          rw [swM_0]
          exact (ps_put_self h9).symm
        have e1 : swM a s t 32 (7 + s) = a (7 + s) := swM_l hs2 ht2 (by omega)
        have e2 : swM a s t 32 (7 + t) = a (7 + t) := swM_l hs2 ht2 (by omega)
        have e3 : upI (upI (swM a s t 32) (7 + s) (a (7 + t))) (7 + t) (a (7 + s)) (7 + s) = a (7 + t) := swA_s hs2 ht2
        refine r_aload_n dX10_swap_32 (i := 0) rfl rfl (c_vn dX10_swap_33 (c_X10_keeps ps_same (ps_ne (by omega) ha) (ps_ne (by omega) hkp) hkm) rfl rfl mq_X10_keeps ml_X10_134 ⟨Nat.le_of_ble_eq_true rfl, Nat.le_of_ble_eq_true rfl⟩ ps_same rfl rfl rfl (Nat.le_of_ble_eq_true rfl) ?_)
        refine r_iconst dX10_swap_36 (r_istore_n dX10_swap_37 (i := 3) rfl rfl (Nat.le_of_ble_eq_true rfl) ?_)
        refine r_ps (hA _ (ps_ne (by omega) (ps_ne (by omega) (ps_ne (by omega) ha)))) ?_
        refine r_loc [(0, some (.ref m)), (1, some (vi s)), (2, some (vi t)), (3, some (vi ((0 : Nat) : Int)))] ⟨Or.inl rfl, Or.inl rfl, Or.inl rfl, Or.inl rfl, trivial⟩ ?_
        refine l_swap ps_same hs2 ht2 ?_ 32 0 rfl
        refine r_aload_n dX10_swap_78 (i := 0) rfl rfl (r_get dX10_swap_79 fl_X10_7 (ps_ne (by omega) ps_same) rfl (r_bipush dX10_swap_82 (by decide) (r_iload_n dX10_swap_84 (i := 1) rfl rfl (r_iadd dX10_swap_85 ?_))))
        refine r_lald dX10_swap_86 ps_same (by omega) (by omega) (by omega) ?_
        rw [e1]
        refine r_lstore_n dX10_swap_87 (i := 3) rfl rfl (Nat.le_of_ble_eq_true rfl) (r_aload_n dX10_swap_88 (i := 0) rfl rfl (r_get dX10_swap_89 fl_X10_7 (ps_ne (by omega) ps_same) rfl (r_bipush dX10_swap_92 (by decide) (r_iload_n dX10_swap_94 (i := 1) rfl rfl ?_))))
        refine r_iadd dX10_swap_95 (r_aload_n dX10_swap_96 (i := 0) rfl rfl (r_get dX10_swap_97 fl_X10_7 (ps_ne (by omega) ps_same) rfl (r_bipush dX10_swap_100 (by decide) (r_iload_n dX10_swap_102 (i := 2) rfl rfl ?_))))
        refine r_iadd dX10_swap_103 (r_lald dX10_swap_104 ps_same (by omega) (by omega) (by omega) ?_)
        rw [e2]
        refine r_last dX10_swap_105 ps_same (by omega) (by omega) (by omega) (r_aload_n dX10_swap_106 (i := 0) rfl rfl (r_get dX10_swap_107 fl_X10_7 (ps_ne (by omega) (ps_ne (by omega) ps_same)) rfl (r_bipush dX10_swap_110 (by decide) (r_iload_n dX10_swap_112 (i := 2) rfl rfl ?_))))
        refine r_iadd dX10_swap_113 (r_lload_n dX10_swap_114 (i := 3) rfl rfl (r_last dX10_swap_115 ps_same (by omega) (by omega) (by omega) (r_aload_n dX10_swap_116 (i := 0) rfl rfl (r_iload_n dX10_swap_117 (i := 1) rfl rfl ?_))))
        refine c_vr dX10_swap_118 (c_X10_longOf (ps_ne (by omega) (ps_ne (by omega) (ps_ne (by omega) ps_same))) ps_same (by omega)) rfl rfl mq_X10_longOf ml_X10_194 ⟨Nat.le_of_ble_eq_true rfl, Nat.le_of_ble_eq_true rfl⟩ (ps_ne (by omega) (ps_ne (by omega) (ps_ne (by omega) ps_same))) rfl rfl rfl (Nat.le_of_ble_eq_true rfl) ?_
        rw [e3]
        refine r_iret dX10_swap_121 rfl rfl ?_
        refine mC_0 hk0 rfl rfl (fun z z1 z2 z3 => ?_) ?_ ?_ ?_
        all_goals repeat (first | exact ps_same | rfl | refine ps_ne (by omega) ?_)
      · omega
theorem l_store {s : Int} (h : S.1 m = some (cO 10 (.ref (m + 1) :: fs))) (hs : 0 ≤ s ∧ s ≤ 3) (hm : 0 ≤ a 143 ∧ a 143 ≤ 32)
    (hk : PW g cX10_store (iX10_store mc ms) 78 [(0, some (.ref m)), (1, some (vi s))] [] (ps_put S (m + 1) (cJ 215 (mix (11 + 32 * s) (11 + 32 * s + a 143) (fun x => a (151 + (x - (11 + 32 * s)))) a))) kc ks Q) : ∀ (r i : Nat), (i : Int) + r = a 143 →
    PW g cX10_store (iX10_store mc ms) 42 [(0, some (.ref m)), (1, some (vi s)), (2, some (vi (i : Int)))] [] (ps_put S (m + 1) (cJ 215 (mix (11 + 32 * s) (11 + 32 * s + (i : Int)) (fun x => a (151 + (x - (11 + 32 * s)))) a))) kc ks Q := by
  intro r
  induction r with
  | zero =>
    intro i hi
    have h1 : (ps_put S (m + 1) (cJ 215 (mix (11 + 32 * s) (11 + 32 * s + (i : Int)) (fun x => a (151 + (x - (11 + 32 * s)))) a))).1 m = some (cO 10 (.ref (m + 1) :: fs)) := ps_ne (by omega) h
    have e1 : mix (11 + 32 * s) (11 + 32 * s + (i : Int)) (fun x => a (151 + (x - (11 + 32 * s)))) a 143 = a 143 := mix_out (by omega)
    refine r_iload_n dX10_store_42 (i := 2) rfl rfl (r_i2l dX10_store_43 (by omega) (r_aload_n dX10_store_44 (i := 0) rfl rfl (r_get dX10_store_45 fl_X10_7 h1 rfl (r_sipush dX10_store_48 (by decide) ?_))))
    refine r_lald dX10_store_51 ps_same (by omega) (by omega) (by omega) ?_
    rw [e1]
    refine r_lcmp_ge 78 dX10_store_52 dX10_store_53 (by decide) (by omega) (by omega) (fun c1 => ?_) (fun c1 => ?_)
    · rw [← show (i : Int) = a 143 by omega] at hk
      exact r_loc [(0, some (.ref m)), (1, some (vi s))] ⟨Or.inl rfl, Or.inl rfl, trivial⟩ hk
    · omega
  | succ r ih =>
    intro i hi
    have h1 : (ps_put S (m + 1) (cJ 215 (mix (11 + 32 * s) (11 + 32 * s + (i : Int)) (fun x => a (151 + (x - (11 + 32 * s)))) a))).1 m = some (cO 10 (.ref (m + 1) :: fs)) := ps_ne (by omega) h
    have e1 : mix (11 + 32 * s) (11 + 32 * s + (i : Int)) (fun x => a (151 + (x - (11 + 32 * s)))) a 143 = a 143 := mix_out (by omega)
    have e2 : mix (11 + 32 * s) (11 + 32 * s + (i : Int)) (fun x => a (151 + (x - (11 + 32 * s)))) a (151 + (i : Int)) = a (151 + (i : Int)) := mix_out (by omega)
    have e3 : a (151 + (i : Int)) = (fun x => a (151 + (x - (11 + 32 * s)))) (11 + 32 * s + (i : Int)) := by
      show _ = a (151 + (11 + 32 * s + (i : Int) - (11 + 32 * s)))
      congr 1
      omega
    refine r_iload_n dX10_store_42 (i := 2) rfl rfl (r_i2l dX10_store_43 (by omega) (r_aload_n dX10_store_44 (i := 0) rfl rfl (r_get dX10_store_45 fl_X10_7 h1 rfl (r_sipush dX10_store_48 (by decide) ?_))))
    refine r_lald dX10_store_51 ps_same (by omega) (by omega) (by omega) ?_
    rw [e1]
    refine r_lcmp_ge 78 dX10_store_52 dX10_store_53 (by decide) (by omega) (by omega) (fun c1 => ?_) (fun c1 => ?_)
    · omega
    · refine r_aload_n dX10_store_56 (i := 0) rfl rfl (r_iload_n dX10_store_57 (i := 1) rfl rfl (r_iload_n dX10_store_58 (i := 2) rfl rfl (r_aload_n dX10_store_59 (i := 0) rfl rfl (r_get dX10_store_60 fl_X10_7 h1 rfl ?_))))
      refine r_sipush dX10_store_63 (by decide) (r_iload_n dX10_store_66 (i := 2) rfl rfl (r_iadd dX10_store_67 (r_lald dX10_store_68 ps_same (by omega) (by omega) (by omega) ?_)))
      rw [e2]
      refine c_vn dX10_store_69 (c_X10_putTerm h1 ps_same (by omega) (by omega)) rfl rfl mq_X10_putTerm ml_X10_214 ⟨Nat.le_of_ble_eq_true rfl, Nat.le_of_ble_eq_true rfl⟩ h1 rfl rfl rfl (Nat.le_of_ble_eq_true rfl) (r_iinc dX10_store_72 rfl rfl (r_goto 42 dX10_store_75 (by decide) ?_))
      rw [ps_put_put, mix_up (A := fun x => a (151 + (x - (11 + 32 * s)))) (lo := 11 + 32 * s) (i := 11 + 32 * s + (i : Int)) (B := a) (by omega) e3, Int.add_assoc]
      exact r_loc [(0, some (.ref m)), (1, some (vi s)), (2, some (vi ((i + 1 : Nat) : Int)))] ⟨Or.inl rfl, Or.inl rfl, Or.inl rfl, trivial⟩ (ih (i + 1) (by omega))
theorem c_X10_store {s : Int} (h : S.1 m = some (mO m km th bu sz at' be ki wr wa ea nu bs bw bt')) (ha : S.1 (m + 1) = some (cJ 215 a)) (hkp : S.1 (m + 3) = some (cJ 1720 kp)) (hv : MV a) (hkm : 0 ≤ km ∧ km ≤ 8) (hs : RI s) : PC g yX10_store cX10_store (iX10_store mc ms) [.ref m, vi s] S (mC S m (fun km k => mO m km k bu sz at' be ki wr wa ea nu bs bw bt') km a kp (stA a s) (kStore a s) (vi (a 143))) := by
  refine PC_of pnX10 rfl rfl rfl (Nat.le_of_ble_eq_true rfl) ?_
  have hv1 := hv.1
  have hv2 := hv.2.1
  refine r_aload_n dX10_store_0 (i := 0) rfl rfl (r_iload_n dX10_store_1 (i := 1) rfl rfl (c_sr dX10_store_2 (c_X10_isSlot ⟨by omega, by omega⟩) rfl rfl mq_X10_isSlot ml_X10_191 ⟨Nat.le_of_ble_eq_true rfl, Nat.le_of_ble_eq_true rfl⟩ rfl rfl (Nat.le_of_ble_eq_true rfl) ?_))
  refine r_if_ne 12 dX10_store_5 (by decide) b2i_RI (fun c1 => ?_) (fun c1 => ?_)
  · replace c1 := b2i_ne c1
    refine r_aload_n dX10_store_12 (i := 0) rfl rfl (c_vr dX10_store_13 (c_X10_canStore h ha (by omega) hv2 (fun k k1 k2 => by have := val_RJ hv k1 k2; exact ⟨by omega, by omega⟩)) rfl rfl mq_X10_canStore ml_X10_293 ⟨Nat.le_of_ble_eq_true rfl, Nat.le_of_ble_eq_true rfl⟩ h rfl rfl rfl (Nat.le_of_ble_eq_true rfl) ?_)
    refine r_if_eq 23 dX10_store_16 (by decide) b2c_RI (fun c2 => ?_) (fun c2 => ?_)
    · replace c2 := b2c_eq c2
      refine r_iconst dX10_store_23 (r_put dX10_store_24 fl_X10_30 h rfl rfl (Nat.le_of_ble_eq_true rfl) (r_aload_n dX10_store_27 (i := 0) rfl rfl (r_get dX10_store_28 fl_X10_30 ps_same rfl ?_)))
      refine r_if_le 36 dX10_store_31 (by decide) (by omega) (fun c3 => ?_) (fun c3 => ?_)
      · omega
      · refine r_iconst dX10_store_34 ?_
        refine r_iret dX10_store_35 rfl rfl ?_
        first
          | exact mC_t ha hkp (by unfold kStore; rw [if_neg (by omega)]) (by decide)
          | exact mC_t ha hkp (by unfold kStore; rw [if_pos (by omega), b2c_f (by assumption)]; rfl) (by decide)
    · replace c2 := b2c_ne c2
      refine r_iconst dX10_store_19 (r_goto 24 dX10_store_20 (by decide) (r_put dX10_store_24 fl_X10_30 h rfl rfl (Nat.le_of_ble_eq_true rfl) (r_aload_n dX10_store_27 (i := 0) rfl rfl (r_get dX10_store_28 fl_X10_30 ps_same rfl ?_))))
      refine r_if_le 36 dX10_store_31 (by decide) (by omega) (fun c4 => ?_) (fun c4 => ?_)
      · have hso : StoreOk a := by assumption
        have hk0 : kStore a s = 0 := by unfold kStore; rw [if_pos (by omega), b2c_t hso]; rfl
        have hm := hso.1
        have hA : ∀ S0 : PS, S0.1 (m + 1) = some (cJ 215 a) → S0 = ps_put S0 (m + 1) (cJ 215 (mix (11 + 32 * s) (11 + 32 * s + ((0 : Nat) : Int)) (fun x => a (151 + (x - (11 + 32 * s)))) a)) := fun S0 h9 => by
          rw [show 11 + 32 * s + ((0 : Nat) : Int) = 11 + 32 * s by omega, mix_0]
          exact (ps_put_self h9).symm
        have e1 : mix (11 + 32 * s) (11 + 32 * s + a 143) (fun x => a (151 + (x - (11 + 32 * s)))) a 143 = a 143 := mix_out (by omega)
        have e2 : ∀ f : Int → Int, upI f (7 + s) (a 143) (7 + s) = a 143 := fun f => upI_eq
        refine r_aload_n dX10_store_36 (i := 0) rfl rfl (c_vn dX10_store_37 (c_X10_keeps ps_same (ps_ne (by omega) ha) (ps_ne (by omega) hkp) hkm) rfl rfl mq_X10_keeps ml_X10_134 ⟨Nat.le_of_ble_eq_true rfl, Nat.le_of_ble_eq_true rfl⟩ ps_same rfl rfl rfl (Nat.le_of_ble_eq_true rfl) ?_)
        refine r_iconst dX10_store_40 (r_istore_n dX10_store_41 (i := 2) rfl rfl (Nat.le_of_ble_eq_true rfl) ?_)
        refine r_ps (hA _ (ps_ne (by omega) (ps_ne (by omega) (ps_ne (by omega) ha)))) ?_
        refine r_loc [(0, some (.ref m)), (1, some (vi s)), (2, some (vi ((0 : Nat) : Int)))] ⟨Or.inl rfl, Or.inl rfl, Or.inl rfl, trivial⟩ ?_
        refine l_store ps_same (by omega) (by omega) ?_ (a 143).toNat 0 (by omega)
        refine r_aload_n dX10_store_78 (i := 0) rfl rfl (r_get dX10_store_79 fl_X10_7 (ps_ne (by omega) ps_same) rfl (r_bipush dX10_store_82 (by decide) (r_iload_n dX10_store_84 (i := 1) rfl rfl (r_iadd dX10_store_85 ?_))))
        refine r_aload_n dX10_store_86 (i := 0) rfl rfl (r_get dX10_store_87 fl_X10_7 (ps_ne (by omega) ps_same) rfl (r_sipush dX10_store_90 (by decide) (r_lald dX10_store_93 ps_same (by omega) (by omega) (by omega) ?_)))
        rw [e1]
        refine r_last dX10_store_94 ps_same (by omega) (by omega) (by omega) (r_aload_n dX10_store_95 (i := 0) rfl rfl (r_iload_n dX10_store_96 (i := 1) rfl rfl (c_vr dX10_store_97 (c_X10_longOf (ps_ne (by omega) (ps_ne (by omega) ps_same)) ps_same (by omega)) rfl rfl mq_X10_longOf ml_X10_194 ⟨Nat.le_of_ble_eq_true rfl, Nat.le_of_ble_eq_true rfl⟩ (ps_ne (by omega) (ps_ne (by omega) ps_same)) rfl rfl rfl (Nat.le_of_ble_eq_true rfl) ?_)))
        rw [e2]
        refine r_iret dX10_store_100 rfl rfl ?_
        refine mC_0 hk0 rfl rfl (fun z z1 z2 z3 => ?_) ?_ ?_ ?_
        all_goals repeat (first | exact ps_same | rfl | refine ps_ne (by omega) ?_)
      · omega
  · replace c1 := b2i_eq c1
    refine r_iconst dX10_store_8 (r_goto 24 dX10_store_9 (by decide) (r_put dX10_store_24 fl_X10_30 h rfl rfl (Nat.le_of_ble_eq_true rfl) (r_aload_n dX10_store_27 (i := 0) rfl rfl (r_get dX10_store_28 fl_X10_30 ps_same rfl ?_))))
    refine r_if_le 36 dX10_store_31 (by decide) (by omega) (fun c5 => ?_) (fun c5 => ?_)
    · omega
    · refine r_iconst dX10_store_34 ?_
      refine r_iret dX10_store_35 rfl rfl ?_
      first
        | exact mC_t ha hkp (by unfold kStore; rw [if_neg (by omega)]) (by decide)
        | exact mC_t ha hkp (by unfold kStore; rw [if_pos (by omega), b2c_f (by assumption)]; rfl) (by decide)
end MMUT3

/-! the model's face: the changes, part 2 -/
theorem mC_f {S S' : PS} {m : Nat} {f : Int → Int → PE} {km k : Int} {a kp a' : Int → Int} {v r : Value} (e : k = 0) (e2 : r = v) {S1 : PS} {a1 : Int → Int} (hS1 : S1 = ps_put (ps_put S (m + 3) (cJ 1720 (kpN km a kp))) m (f (min (km + 1) 8) 0)) (hS : S' = ps_put S1 (m + 1) (cJ 215 a1)) (ha1 : a1 = a') : mC S m f km a kp a' k v (.inl (some r)) S' := by
  subst hS
  subst hS1
  subst ha1
  refine mC_0 e e2 rfl (fun z z1 z2 z3 => ps_ne z2 (ps_ne z1 (ps_ne z3 rfl))) (ps_ne (by omega) ps_same) ps_same (ps_ne (by omega) (ps_ne (by omega) ps_same))
def seA (a : Int → Int) (s len fr st : Int) : Int → Int := upI (mix (11 + 32 * s) (11 + 32 * s + 32) (fun x => if x - (11 + 32 * s) < len then fr + st * (x - (11 + 32 * s)) else 0) a) (7 + s) len
def apA (a : Int → Int) (s v : Int) : Int → Int := upI (upI a (11 + 32 * s + a (7 + s)) v) (7 + s) (a (7 + s) + 1)
def kApp (a : Int → Int) (s v : Int) : Int := if 0 ≤ s ∧ s ≤ 3 then (if -9999 ≤ v ∧ v ≤ 9999 then (if a (7 + s) = 32 then 3 else 0) else 2) else 1
def kCut (a : Int → Int) (s len : Int) : Int := if 0 ≤ s ∧ s ≤ 3 then (if 0 ≤ len ∧ len ≤ a (7 + s) then 0 else 2) else 1
def kSwap (s t : Int) : Int := if (0 ≤ s ∧ s ≤ 3) ∧ 0 ≤ t ∧ t ≤ 3 then 0 else 1
noncomputable def kStore (a : Int → Int) (s : Int) : Int := if 0 ≤ s ∧ s ≤ 3 then 2 - 2 * b2c (StoreOk a) else 1
def stA (a : Int → Int) (s : Int) : Int → Int := upI (mix (11 + 32 * s) (11 + 32 * s + a 143) (fun x => a (151 + (x - (11 + 32 * s)))) a) (7 + s) (a 143)
def kSet4 (s len fr st : Int) : Int := if 0 ≤ s ∧ s ≤ 3 then (if ((0 ≤ len ∧ len ≤ 32) ∧ -999 ≤ st ∧ st ≤ 999) ∧ (len = 0 ∨ ((-9999 ≤ fr ∧ fr ≤ 9999) ∧ -9999 ≤ fr + st * (len - 1) ∧ fr + st * (len - 1) ≤ 9999)) then 0 else 2) else 1
section MMUT2
variable {g : GT} {S : PS} {mc ms : Nat} {Q : PO → PS → Prop} {kc ks : Nat} {m : Nat} {a kp : Int → Int} {fs : List Value} {km th bu sz at' be ki wr wa ea nu bs bw bt' : Int}
theorem c_X10_cut {s len : Int} (h : S.1 m = some (mO m km th bu sz at' be ki wr wa ea nu bs bw bt')) (ha : S.1 (m + 1) = some (cJ 215 a)) (hkp : S.1 (m + 3) = some (cJ 1720 kp)) (hl : ML a) (hkm : 0 ≤ km ∧ km ≤ 8) (hs : RI s) (hlr : RI len) : PC g yX10_cut cX10_cut (iX10_cut mc ms) [.ref m, vi s, vi len] S (mC S m (fun km k => mO m km k bu sz at' be ki wr wa ea nu bs bw bt') km a kp (upI a (7 + s) len) (kCut a s len) (vi (a (7 + s) - len))) := by
  refine PC_of pnX10 rfl rfl rfl (Nat.le_of_ble_eq_true rfl) ?_
  refine r_aload_n dX10_cut_0 (i := 0) rfl rfl (r_iload_n dX10_cut_1 (i := 1) rfl rfl (c_sr dX10_cut_2 (c_X10_isSlot hs) rfl rfl mq_X10_isSlot ml_X10_191 ⟨Nat.le_of_ble_eq_true rfl, Nat.le_of_ble_eq_true rfl⟩ rfl rfl (Nat.le_of_ble_eq_true rfl) ?_))
  refine r_if_ne 12 dX10_cut_5 (by decide) b2i_RI (fun c1 => ?_) (fun c1 => ?_)
  · replace c1 := b2i_ne c1
    have hl1 := hl.1 s (by omega) (by omega)
    refine r_iload_n dX10_cut_12 (i := 2) rfl rfl (r_i2l dX10_cut_13 (by omega) (r_lconst (z := 0) dX10_cut_14 (by decide) (r_aload_n dX10_cut_15 (i := 0) rfl rfl (r_iload_n dX10_cut_16 (i := 1) rfl rfl ?_))))
    refine c_vr dX10_cut_17 (c_X10_longOf h ha (by omega)) rfl rfl mq_X10_longOf ml_X10_194 ⟨Nat.le_of_ble_eq_true rfl, Nat.le_of_ble_eq_true rfl⟩ h rfl rfl rfl (Nat.le_of_ble_eq_true rfl) (r_i2l dX10_cut_20 (by omega) (c_sr dX10_cut_21 (c_X10_isIn ⟨by omega, by omega⟩ ⟨by omega, by omega⟩ ⟨by omega, by omega⟩) rfl rfl mq_X10_isIn ml_X10_46 ⟨Nat.le_of_ble_eq_true rfl, Nat.le_of_ble_eq_true rfl⟩ rfl rfl (Nat.le_of_ble_eq_true rfl) ?_))
    refine r_if_eq 31 dX10_cut_24 (by decide) b2i_RI (fun c2 => ?_) (fun c2 => ?_)
    · replace c2 := b2i_eq c2
      refine r_iconst dX10_cut_31 (r_put dX10_cut_32 fl_X10_30 h rfl rfl (Nat.le_of_ble_eq_true rfl) (r_aload_n dX10_cut_35 (i := 0) rfl rfl (r_get dX10_cut_36 fl_X10_30 ps_same rfl ?_)))
      refine r_if_le 44 dX10_cut_39 (by decide) (by omega) (fun c3 => ?_) (fun c3 => ?_)
      · omega
      · refine r_iconst dX10_cut_42 ?_
        refine r_iret dX10_cut_43 rfl rfl ?_
        first
          | exact mC_t ha hkp (by unfold kCut; rw [if_neg (by omega)]) (by decide)
          | exact mC_t ha hkp (by unfold kCut; rw [if_pos (by omega), if_neg (by omega)]) (by decide)
    · replace c2 := b2i_ne c2
      refine r_iconst dX10_cut_27 (r_goto 32 dX10_cut_28 (by decide) (r_put dX10_cut_32 fl_X10_30 h rfl rfl (Nat.le_of_ble_eq_true rfl) (r_aload_n dX10_cut_35 (i := 0) rfl rfl (r_get dX10_cut_36 fl_X10_30 ps_same rfl ?_))))
      refine r_if_le 44 dX10_cut_39 (by decide) (by omega) (fun c4 => ?_) (fun c4 => ?_)
      · have hk0 : kCut a s len = 0 := by unfold kCut; rw [if_pos (by omega), if_pos (by omega)]
        refine r_aload_n dX10_cut_44 (i := 0) rfl rfl (c_vn dX10_cut_45 (c_X10_keeps ps_same (ps_ne (by omega) ha) (ps_ne (by omega) hkp) hkm) rfl rfl mq_X10_keeps ml_X10_134 ⟨Nat.le_of_ble_eq_true rfl, Nat.le_of_ble_eq_true rfl⟩ ps_same rfl rfl rfl (Nat.le_of_ble_eq_true rfl) ?_)
        refine r_aload_n dX10_cut_48 (i := 0) rfl rfl (r_iload_n dX10_cut_49 (i := 1) rfl rfl (c_vr dX10_cut_50 (c_X10_longOf ps_same (ps_ne (by omega) (ps_ne (by omega) (ps_ne (by omega) ha))) (by omega)) rfl rfl mq_X10_longOf ml_X10_194 ⟨Nat.le_of_ble_eq_true rfl, Nat.le_of_ble_eq_true rfl⟩ ps_same rfl rfl rfl (Nat.le_of_ble_eq_true rfl) (r_iload_n dX10_cut_53 (i := 2) rfl rfl (r_isub dX10_cut_54 ?_))))
        refine r_istore_n dX10_cut_55 (i := 3) rfl rfl (Nat.le_of_ble_eq_true rfl) (r_aload_n dX10_cut_56 (i := 0) rfl rfl (r_get dX10_cut_57 fl_X10_7 ps_same rfl (r_bipush dX10_cut_60 (by decide) (r_iload_n dX10_cut_62 (i := 1) rfl rfl ?_))))
        refine r_iadd dX10_cut_63 (r_iload_n dX10_cut_64 (i := 2) rfl rfl (r_i2l dX10_cut_65 (by omega) (r_last dX10_cut_66 (ps_ne (by omega) (ps_ne (by omega) (ps_ne (by omega) ha))) (by omega) (by omega) (by omega) (r_iload_n dX10_cut_67 (i := 3) rfl rfl ?_))))
        refine r_iret dX10_cut_68 rfl rfl ?_
        refine mC_0 hk0 rfl rfl (fun z z1 z2 z3 => ?_) ?_ ?_ ?_
        all_goals repeat (first | exact ps_same | rfl | refine ps_ne (by omega) ?_)
      · omega
  · replace c1 := b2i_eq c1
    refine r_iconst dX10_cut_8 (r_goto 32 dX10_cut_9 (by decide) (r_put dX10_cut_32 fl_X10_30 h rfl rfl (Nat.le_of_ble_eq_true rfl) (r_aload_n dX10_cut_35 (i := 0) rfl rfl (r_get dX10_cut_36 fl_X10_30 ps_same rfl ?_))))
    refine r_if_le 44 dX10_cut_39 (by decide) (by omega) (fun c5 => ?_) (fun c5 => ?_)
    · omega
    · refine r_iconst dX10_cut_42 ?_
      refine r_iret dX10_cut_43 rfl rfl ?_
      first
        | exact mC_t ha hkp (by unfold kCut; rw [if_neg (by omega)]) (by decide)
        | exact mC_t ha hkp (by unfold kCut; rw [if_pos (by omega), if_neg (by omega)]) (by decide)
theorem c_X10_append {s v : Int} (h : S.1 m = some (mO m km th bu sz at' be ki wr wa ea nu bs bw bt')) (ha : S.1 (m + 1) = some (cJ 215 a)) (hkp : S.1 (m + 3) = some (cJ 1720 kp)) (hl : ML a) (hkm : 0 ≤ km ∧ km ≤ 8) (hs : RI s) (hvr : RI v) : PC g yX10_append cX10_append (iX10_append mc ms) [.ref m, vi s, vi v] S (mC S m (fun km k => mO m km k bu sz at' be ki wr wa ea nu bs bw bt') km a kp (apA a s v) (kApp a s v) (vi (a (7 + s) + 1))) := by
  refine PC_of pnX10 rfl rfl rfl (Nat.le_of_ble_eq_true rfl) ?_
  refine r_aload_n dX10_append_0 (i := 0) rfl rfl (r_iload_n dX10_append_1 (i := 1) rfl rfl (c_sr dX10_append_2 (c_X10_isSlot hs) rfl rfl mq_X10_isSlot ml_X10_191 ⟨Nat.le_of_ble_eq_true rfl, Nat.le_of_ble_eq_true rfl⟩ rfl rfl (Nat.le_of_ble_eq_true rfl) ?_))
  refine r_if_ne 12 dX10_append_5 (by decide) b2i_RI (fun c1 => ?_) (fun c1 => ?_)
  · replace c1 := b2i_ne c1
    have hl1 := hl.1 s (by omega) (by omega)
    refine r_iload_n dX10_append_12 (i := 2) rfl rfl (r_i2l dX10_append_13 (by omega) (c_sr dX10_append_14 (c_X10_isTerm ⟨by omega, by omega⟩) rfl rfl mq_X10_isTerm ml_X10_210 ⟨Nat.le_of_ble_eq_true rfl, Nat.le_of_ble_eq_true rfl⟩ rfl rfl (Nat.le_of_ble_eq_true rfl) ?_))
    refine r_if_ne 24 dX10_append_17 (by decide) b2i_RI (fun c2 => ?_) (fun c2 => ?_)
    · replace c2 := b2i_ne c2
      refine r_aload_n dX10_append_24 (i := 0) rfl rfl (r_iload_n dX10_append_25 (i := 1) rfl rfl (c_vr dX10_append_26 (c_X10_longOf h ha (by omega)) rfl rfl mq_X10_longOf ml_X10_194 ⟨Nat.le_of_ble_eq_true rfl, Nat.le_of_ble_eq_true rfl⟩ h rfl rfl rfl (Nat.le_of_ble_eq_true rfl) (r_bipush dX10_append_29 (by decide) ?_)))
      refine r_icmp_ne 38 dX10_append_31 (by decide) (by omega) (by omega) (fun c3 => ?_) (fun c3 => ?_)
      · refine r_iconst dX10_append_38 (r_put dX10_append_39 fl_X10_30 h rfl rfl (Nat.le_of_ble_eq_true rfl) (r_aload_n dX10_append_42 (i := 0) rfl rfl (r_get dX10_append_43 fl_X10_30 ps_same rfl ?_)))
        refine r_if_le 51 dX10_append_46 (by decide) (by omega) (fun c4 => ?_) (fun c4 => ?_)
        · have hk0 : kApp a s v = 0 := by unfold kApp; rw [if_pos (by omega), if_pos (by omega), if_neg (by omega)]
          have e1 : upI a (11 + 32 * s + a (7 + s)) v (7 + s) = a (7 + s) := upI_ne (by omega)
          have e2 : ∀ x, upI (upI a (11 + 32 * s + a (7 + s)) v) (7 + s) x (7 + s) = x := fun x => upI_eq
          refine r_aload_n dX10_append_51 (i := 0) rfl rfl (c_vn dX10_append_52 (c_X10_keeps ps_same (ps_ne (by omega) ha) (ps_ne (by omega) hkp) hkm) rfl rfl mq_X10_keeps ml_X10_134 ⟨Nat.le_of_ble_eq_true rfl, Nat.le_of_ble_eq_true rfl⟩ ps_same rfl rfl rfl (Nat.le_of_ble_eq_true rfl) ?_)
          refine r_aload_n dX10_append_55 (i := 0) rfl rfl (r_iload_n dX10_append_56 (i := 1) rfl rfl (r_aload_n dX10_append_57 (i := 0) rfl rfl (r_iload_n dX10_append_58 (i := 1) rfl rfl (c_vr dX10_append_59 (c_X10_longOf ps_same (ps_ne (by omega) (ps_ne (by omega) (ps_ne (by omega) ha))) (by omega)) rfl rfl mq_X10_longOf ml_X10_194 ⟨Nat.le_of_ble_eq_true rfl, Nat.le_of_ble_eq_true rfl⟩ ps_same rfl rfl rfl (Nat.le_of_ble_eq_true rfl) ?_))))
          refine r_iload_n dX10_append_62 (i := 2) rfl rfl (r_i2l dX10_append_63 (by omega) (c_vn dX10_append_64 (c_X10_putTerm ps_same (ps_ne (by omega) (ps_ne (by omega) (ps_ne (by omega) ha))) (by omega) (by omega)) rfl rfl mq_X10_putTerm ml_X10_214 ⟨Nat.le_of_ble_eq_true rfl, Nat.le_of_ble_eq_true rfl⟩ ps_same rfl rfl rfl (Nat.le_of_ble_eq_true rfl) ?_))
          refine r_aload_n dX10_append_67 (i := 0) rfl rfl (r_get dX10_append_68 fl_X10_7 (ps_ne (by omega) ps_same) rfl (r_bipush dX10_append_71 (by decide) (r_iload_n dX10_append_73 (i := 1) rfl rfl (r_iadd dX10_append_74 ?_))))
          refine r_dup2_11 dX10_append_75 rfl rfl ?_
          refine r_lald dX10_append_76 ps_same (by omega) (by omega) (by omega) ?_
          rw [e1]
          refine r_lconst (z := 1) dX10_append_77 (by decide) (r_ladd dX10_append_78 (r_last dX10_append_79 ps_same (by omega) (by omega) (by omega) (r_aload_n dX10_append_80 (i := 0) rfl rfl (r_iload_n dX10_append_81 (i := 1) rfl rfl ?_))))
          refine c_vr dX10_append_82 (c_X10_longOf (ps_ne (by omega) (ps_ne (by omega) ps_same)) ps_same (by omega)) rfl rfl mq_X10_longOf ml_X10_194 ⟨Nat.le_of_ble_eq_true rfl, Nat.le_of_ble_eq_true rfl⟩ (ps_ne (by omega) (ps_ne (by omega) ps_same)) rfl rfl rfl (Nat.le_of_ble_eq_true rfl) ?_
          rw [e2]
          refine r_iret dX10_append_85 rfl rfl ?_
          refine mC_0 hk0 rfl rfl (fun z z1 z2 z3 => ?_) ?_ ?_ ?_
          all_goals repeat (first | exact ps_same | rfl | refine ps_ne (by omega) ?_)
        · omega
      · refine r_iconst dX10_append_34 (r_goto 39 dX10_append_35 (by decide) (r_put dX10_append_39 fl_X10_30 h rfl rfl (Nat.le_of_ble_eq_true rfl) (r_aload_n dX10_append_42 (i := 0) rfl rfl (r_get dX10_append_43 fl_X10_30 ps_same rfl ?_))))
        refine r_if_le 51 dX10_append_46 (by decide) (by omega) (fun c5 => ?_) (fun c5 => ?_)
        · omega
        · refine r_iconst dX10_append_49 ?_
          refine r_iret dX10_append_50 rfl rfl ?_
          first
            | exact mC_t ha hkp (by unfold kApp; rw [if_neg (by omega)]) (by decide)
            | exact mC_t ha hkp (by unfold kApp; rw [if_pos (by omega), if_neg (by omega)]) (by decide)
            | exact mC_t ha hkp (by unfold kApp; rw [if_pos (by omega), if_pos (by omega), if_pos (by omega)]) (by decide)
    · replace c2 := b2i_eq c2
      refine r_iconst dX10_append_20 (r_goto 39 dX10_append_21 (by decide) (r_put dX10_append_39 fl_X10_30 h rfl rfl (Nat.le_of_ble_eq_true rfl) (r_aload_n dX10_append_42 (i := 0) rfl rfl (r_get dX10_append_43 fl_X10_30 ps_same rfl ?_))))
      refine r_if_le 51 dX10_append_46 (by decide) (by omega) (fun c6 => ?_) (fun c6 => ?_)
      · omega
      · refine r_iconst dX10_append_49 ?_
        refine r_iret dX10_append_50 rfl rfl ?_
        first
          | exact mC_t ha hkp (by unfold kApp; rw [if_neg (by omega)]) (by decide)
          | exact mC_t ha hkp (by unfold kApp; rw [if_pos (by omega), if_neg (by omega)]) (by decide)
          | exact mC_t ha hkp (by unfold kApp; rw [if_pos (by omega), if_pos (by omega), if_pos (by omega)]) (by decide)
  · replace c1 := b2i_eq c1
    refine r_iconst dX10_append_8 (r_goto 39 dX10_append_9 (by decide) (r_put dX10_append_39 fl_X10_30 h rfl rfl (Nat.le_of_ble_eq_true rfl) (r_aload_n dX10_append_42 (i := 0) rfl rfl (r_get dX10_append_43 fl_X10_30 ps_same rfl ?_))))
    refine r_if_le 51 dX10_append_46 (by decide) (by omega) (fun c7 => ?_) (fun c7 => ?_)
    · omega
    · refine r_iconst dX10_append_49 ?_
      refine r_iret dX10_append_50 rfl rfl ?_
      first
        | exact mC_t ha hkp (by unfold kApp; rw [if_neg (by omega)]) (by decide)
        | exact mC_t ha hkp (by unfold kApp; rw [if_pos (by omega), if_neg (by omega)]) (by decide)
        | exact mC_t ha hkp (by unfold kApp; rw [if_pos (by omega), if_pos (by omega), if_pos (by omega)]) (by decide)
theorem l_rm {q : Int} (h : S.1 m = some (cO 10 (.ref (m + 1) :: fs))) (hp : MP a) (hq : 0 ≤ q ∧ q ≤ a 0 - 1) (hk : PW g cX10_removePrime (iX10_removePrime mc ms) 70 [(0, some (.ref m)), (1, some (vi q))] [] (ps_put S (m + 1) (cJ 215 (mix (1 + q) (a 0) (fun x => a (x + 1)) a))) kc ks Q) : ∀ (r i : Nat), (i : Int) + r = a 0 → q + 1 ≤ (i : Int) →
    PW g cX10_removePrime (iX10_removePrime mc ms) 34 [(0, some (.ref m)), (1, some (vi q)), (2, some (vi (i : Int)))] [] (ps_put S (m + 1) (cJ 215 (mix (1 + q) (i : Int) (fun x => a (x + 1)) a))) kc ks Q := by
  intro r
  have h0 := hp.1
  induction r with
  | zero =>
    intro i hi hqi
    have e1 : mix (1 + q) (i : Int) (fun x => a (x + 1)) a 0 = a 0 := mix_out (by omega)
    have h1 : (ps_put S (m + 1) (cJ 215 (mix (1 + q) (i : Int) (fun x => a (x + 1)) a))).1 m = some (cO 10 (.ref (m + 1) :: fs)) := ps_ne (by omega) h
    refine r_iload_n dX10_removePrime_34 (i := 2) rfl rfl (r_i2l dX10_removePrime_35 (by omega) (r_aload_n dX10_removePrime_36 (i := 0) rfl rfl (r_get dX10_removePrime_37 fl_X10_7 h1 rfl (r_iconst dX10_removePrime_40 ?_))))
    refine r_lald dX10_removePrime_41 ps_same (by omega) (by omega) (by omega) ?_
    rw [e1]
    refine r_lcmp_ge 70 dX10_removePrime_42 dX10_removePrime_43 (by decide) (by omega) (by omega) (fun c1 => ?_) (fun c1 => ?_)
    · rw [← show (i : Int) = a 0 by omega] at hk
      exact r_loc [(0, some (.ref m)), (1, some (vi q))] ⟨Or.inl rfl, Or.inl rfl, trivial⟩ hk
    · omega
  | succ r ih =>
    intro i hi hqi
    have e1 : mix (1 + q) (i : Int) (fun x => a (x + 1)) a 0 = a 0 := mix_out (by omega)
    have e2 : mix (1 + q) (i : Int) (fun x => a (x + 1)) a (1 + i) = a (i + 1) := by rw [mix_out (by omega), Int.add_comm]
    have e3 : (1 : Int) + i - 1 = i := by omega
    have h1 : (ps_put S (m + 1) (cJ 215 (mix (1 + q) (i : Int) (fun x => a (x + 1)) a))).1 m = some (cO 10 (.ref (m + 1) :: fs)) := ps_ne (by omega) h
    refine r_iload_n dX10_removePrime_34 (i := 2) rfl rfl (r_i2l dX10_removePrime_35 (by omega) (r_aload_n dX10_removePrime_36 (i := 0) rfl rfl (r_get dX10_removePrime_37 fl_X10_7 h1 rfl (r_iconst dX10_removePrime_40 ?_))))
    refine r_lald dX10_removePrime_41 ps_same (by omega) (by omega) (by omega) ?_
    rw [e1]
    refine r_lcmp_ge 70 dX10_removePrime_42 dX10_removePrime_43 (by decide) (by omega) (by omega) (fun c1 => ?_) (fun c1 => ?_)
    · omega
    · refine r_aload_n dX10_removePrime_46 (i := 0) rfl rfl (r_get dX10_removePrime_47 fl_X10_7 h1 rfl (r_iconst dX10_removePrime_50 (r_iload_n dX10_removePrime_51 (i := 2) rfl rfl (r_iadd dX10_removePrime_52 ?_))))
      refine r_iconst dX10_removePrime_53 (r_isub dX10_removePrime_54 ?_)
      rw [e3]
      refine r_aload_n dX10_removePrime_55 (i := 0) rfl rfl (r_get dX10_removePrime_56 fl_X10_7 h1 rfl (r_iconst dX10_removePrime_59 (r_iload_n dX10_removePrime_60 (i := 2) rfl rfl (r_iadd dX10_removePrime_61 ?_))))
      refine r_lald dX10_removePrime_62 ps_same (by omega) (by omega) (by omega) ?_
      rw [e2]
      refine r_last dX10_removePrime_63 ps_same (by omega) (by omega) (by omega) (r_iinc dX10_removePrime_64 rfl rfl (r_goto 34 dX10_removePrime_67 (by decide) ?_))
      rw [ps_put_put, mix_up (A := fun x => a (x + 1)) (lo := 1 + q) (i := (i : Int)) (B := a) (by omega) rfl]
      exact r_loc [(0, some (.ref m)), (1, some (vi q)), (2, some (vi ((i + 1 : Nat) : Int)))] ⟨Or.inl rfl, Or.inl rfl, Or.inl rfl, trivial⟩ (ih (i + 1) (by omega) (by omega))
def kThere (a : Int → Int) (q : Int) : Int := if 0 ≤ q ∧ q ≤ a 0 - 1 then 0 else 1
theorem c_X10_removePrime {q : Int} (h : S.1 m = some (mO m km th bu sz at' be ki wr wa ea nu bs bw bt')) (ha : S.1 (m + 1) = some (cJ 215 a)) (hkp : S.1 (m + 3) = some (cJ 1720 kp)) (hp : MP a) (hkm : 0 ≤ km ∧ km ≤ 8) (hr : RI q) : PC g yX10_removePrime cX10_removePrime (iX10_removePrime mc ms) [.ref m, vi q] S (mC S m (fun km k => mO m km k bu sz at' be ki wr wa ea nu bs bw bt') km a kp (rmA a q) (kThere a q) (vi (a 0 - 1))) := by
  refine PC_of pnX10 rfl rfl rfl (Nat.le_of_ble_eq_true rfl) ?_
  have h0 := hp.1
  refine r_aload_n dX10_removePrime_0 (i := 0) rfl rfl (r_aload_n dX10_removePrime_1 (i := 0) rfl rfl (r_iload_n dX10_removePrime_2 (i := 1) rfl rfl (c_vr dX10_removePrime_3 (c_X10_isThere h ha h0 hr) rfl rfl mq_X10_isThere ml_X10_146 ⟨Nat.le_of_ble_eq_true rfl, Nat.le_of_ble_eq_true rfl⟩ h rfl rfl rfl (Nat.le_of_ble_eq_true rfl) ?_)))
  refine r_if_eq 13 dX10_removePrime_6 (by decide) b2i_RI (fun c1 => ?_) (fun c1 => ?_)
  · replace c1 := b2i_eq c1
    refine r_iconst dX10_removePrime_13 (r_put dX10_removePrime_14 fl_X10_30 h rfl rfl (Nat.le_of_ble_eq_true rfl) (r_aload_n dX10_removePrime_17 (i := 0) rfl rfl (r_get dX10_removePrime_18 fl_X10_30 ps_same rfl ?_)))
    refine r_if_le 26 dX10_removePrime_21 (by decide) (by omega) (fun c2 => ?_) (fun c2 => ?_)
    · omega
    · refine r_iconst dX10_removePrime_24 ?_
      refine r_iret dX10_removePrime_25 rfl rfl ?_
      exact mC_t ha hkp (by unfold kThere; rw [if_neg (by omega)]) (by decide)
  · replace c1 := b2i_ne c1
    refine r_iconst dX10_removePrime_9 (r_goto 14 dX10_removePrime_10 (by decide) (r_put dX10_removePrime_14 fl_X10_30 h rfl rfl (Nat.le_of_ble_eq_true rfl) (r_aload_n dX10_removePrime_17 (i := 0) rfl rfl (r_get dX10_removePrime_18 fl_X10_30 ps_same rfl ?_))))
    refine r_if_le 26 dX10_removePrime_21 (by decide) (by omega) (fun c3 => ?_) (fun c3 => ?_)
    · have hk0 : kThere a q = 0 := by unfold kThere; rw [if_pos (by omega)]
      have e1 : mix (1 + q) (a 0) (fun x => a (x + 1)) a 0 = a 0 := mix_out (by omega)
      have e2 : ∀ x, upI (mix (1 + q) (a 0) (fun x => a (x + 1)) a) 0 x 0 = x := fun x => upI_eq
      have e3 : upI (upI (mix (1 + q) (a 0) (fun x => a (x + 1)) a) 0 (a 0 - 1)) (a 0) 0 0 = a 0 - 1 := by
        rw [upI_ne (by omega), upI_eq]
      have e4 : (1 : Int) + (a 0 - 1) = a 0 := by omega
      obtain ⟨q', rfl⟩ := Int.eq_ofNat_of_zero_le (show 0 ≤ q by omega)
      refine r_aload_n dX10_removePrime_26 (i := 0) rfl rfl (c_vn dX10_removePrime_27 (c_X10_keeps ps_same (ps_ne (by omega) ha) (ps_ne (by omega) hkp) hkm) rfl rfl mq_X10_keeps ml_X10_134 ⟨Nat.le_of_ble_eq_true rfl, Nat.le_of_ble_eq_true rfl⟩ ps_same rfl rfl rfl (Nat.le_of_ble_eq_true rfl) ?_)
      have hA : ∀ S0 : PS, S0.1 (m + 1) = some (cJ 215 a) → S0 = ps_put S0 (m + 1) (cJ 215 (mix (1 + (q' : Int)) ((q' + 1 : Nat) : Int) (fun x => a (x + 1)) a)) := fun S0 h9 => by
        rw [show ((q' + 1 : Nat) : Int) = 1 + (q' : Int) by omega, mix_0]
        exact (ps_put_self h9).symm
      refine r_iload_n dX10_removePrime_30 (i := 1) rfl rfl (r_iconst dX10_removePrime_31 (r_iadd dX10_removePrime_32 (r_istore_n dX10_removePrime_33 (i := 2) rfl rfl (Nat.le_of_ble_eq_true rfl) ?_)))
      refine r_ps (hA _ (ps_ne (by omega) (ps_ne (by omega) (ps_ne (by omega) ha)))) ?_
      refine r_loc [(0, some (.ref m)), (1, some (vi (q' : Int))), (2, some (vi ((q' + 1 : Nat) : Int)))] ⟨Or.inl rfl, Or.inl rfl, Or.inl rfl, trivial⟩ ?_
      refine l_rm ps_same hp (by omega) ?_ (a 0 - ((q' : Int) + 1)).toNat (q' + 1) (by omega) (by omega)
      refine r_aload_n dX10_removePrime_70 (i := 0) rfl rfl (r_get dX10_removePrime_71 fl_X10_7 (ps_ne (by omega) ps_same) rfl (r_iconst dX10_removePrime_74 ?_))
      refine r_dup2_11 dX10_removePrime_75 rfl rfl ?_
      refine r_lald dX10_removePrime_76 ps_same (by omega) (by omega) (by omega) ?_
      rw [e1]
      refine r_lconst (z := 1) dX10_removePrime_77 (by decide) (r_lsub dX10_removePrime_78 (r_last dX10_removePrime_79 ps_same (by omega) (by omega) (by omega) (r_aload_n dX10_removePrime_80 (i := 0) rfl rfl (r_get dX10_removePrime_81 fl_X10_7 (ps_ne (by omega) (ps_ne (by omega) ps_same)) rfl ?_))))
      refine r_iconst dX10_removePrime_84 (r_aload_n dX10_removePrime_85 (i := 0) rfl rfl (r_get dX10_removePrime_86 fl_X10_7 (ps_ne (by omega) (ps_ne (by omega) ps_same)) rfl (r_iconst dX10_removePrime_89 (r_lald dX10_removePrime_90 ps_same (by omega) (by omega) (by omega) ?_))))
      rw [e2]
      refine r_l2i dX10_removePrime_91 (r_iadd dX10_removePrime_92 ?_)
      rw [e4]
      refine r_lconst (z := 0) dX10_removePrime_93 (by decide) (r_last dX10_removePrime_94 ps_same (by omega) (by omega) (by omega) (r_aload_n dX10_removePrime_95 (i := 0) rfl rfl (r_get dX10_removePrime_96 fl_X10_7 (ps_ne (by omega) (ps_ne (by omega) (ps_ne (by omega) ps_same))) rfl (r_iconst dX10_removePrime_99 ?_))))
      refine r_lald dX10_removePrime_100 ps_same (by omega) (by omega) (by omega) ?_
      rw [e3]
      refine r_l2i dX10_removePrime_101 ?_
      refine r_iret dX10_removePrime_102 rfl rfl ?_
      refine mC_0 hk0 rfl rfl (fun z z1 z2 z3 => ?_) ?_ ?_ ?_
      all_goals repeat (first | exact ps_same | rfl | refine ps_ne (by omega) ?_)
    · omega
theorem c_X10_undo (h : S.1 m = some (mO m km th bu sz at' be ki wr wa ea nu bs bw bt')) (ha : S.1 (m + 1) = some (cJ 215 a)) (hkp : S.1 (m + 3) = some (cJ 1720 kp)) (hkm : 0 ≤ km ∧ km ≤ 8) : PC g yX10_undo cX10_undo (iX10_undo mc ms) [.ref m] S (fun o S' => ∃ r : Int, o = .inl (some (vi r)) ∧ ((km = 0 ∧ S' = ps_put S m (mO m km 1 bu sz at' be ki wr wa ea nu bs bw bt')) ∨ (0 < km ∧ r = km - 1 ∧ S' = ps_put (ps_put S m (mO m (km - 1) 0 bu sz at' be ki wr wa ea nu bs bw bt')) (m + 1) (cJ 215 (mix 0 215 (fun x => kp (215 * (km - 1) + x)) a))))) := by
  refine PC_of pnX10 rfl rfl rfl (Nat.le_of_ble_eq_true rfl) ?_
  refine r_aload_n dX10_undo_0 (i := 0) rfl rfl (r_aload_n dX10_undo_1 (i := 0) rfl rfl (r_get dX10_undo_2 fl_X10_33 h rfl ?_))
  refine r_if_ne 12 dX10_undo_5 (by decide) (by omega) (fun c1 => ?_) (fun c1 => ?_)
  · refine r_iconst dX10_undo_12 (r_put dX10_undo_13 fl_X10_30 h rfl rfl (Nat.le_of_ble_eq_true rfl) (r_aload_n dX10_undo_16 (i := 0) rfl rfl (r_get dX10_undo_17 fl_X10_30 ps_same rfl ?_)))
    refine r_if_le 25 dX10_undo_20 (by decide) (by omega) (fun c2 => ?_) (fun c2 => ?_)
    · refine r_aload_n dX10_undo_25 (i := 0) rfl rfl (r_dup dX10_undo_26 rfl (r_get dX10_undo_27 fl_X10_33 ps_same rfl (r_iconst dX10_undo_30 (r_isub dX10_undo_31 ?_))))
      refine r_put dX10_undo_32 fl_X10_33 ps_same rfl rfl (Nat.le_of_ble_eq_true rfl) ?_
      rw [ps_put_put]
      refine r_iconst dX10_undo_35 (r_istore_n dX10_undo_36 (i := 1) rfl rfl (Nat.le_of_ble_eq_true rfl) ?_)
      have e0 : mix 0 ((0 : Nat) : Int) (fun x => kp (215 * (km - 1) + x)) a = a := mix_0
      have hA : ∀ S0 : PS, S0.1 (m + 1) = some (cJ 215 a) → S0 = ps_put S0 (m + 1) (cJ 215 (mix 0 ((0 : Nat) : Int) (fun x => kp (215 * (km - 1) + x)) a)) := fun S0 h9 => by
        rw [e0]
        exact (ps_put_self h9).symm
      refine r_ps (hA _ (ps_ne (by omega) ha)) ?_
      refine r_loc [(0, some (.ref m)), (1, some (vi ((0 : Nat) : Int)))] ⟨Or.inl rfl, Or.inl rfl, trivial⟩ ?_
      refine l_back ps_same (ps_ne (by omega) hkp) (by omega) ?_ 215 0 (by omega)
      exact ⟨_, rfl, Or.inr ⟨by omega, rfl, rfl⟩⟩
    · omega
  · refine r_iconst dX10_undo_8 (r_goto 13 dX10_undo_9 (by decide) (r_put dX10_undo_13 fl_X10_30 h rfl rfl (Nat.le_of_ble_eq_true rfl) (r_aload_n dX10_undo_16 (i := 0) rfl rfl (r_get dX10_undo_17 fl_X10_30 ps_same rfl ?_))))
    refine r_if_le 25 dX10_undo_20 (by decide) (by omega) (fun c3 => ?_) (fun c3 => ?_)
    · omega
    · refine r_iconst dX10_undo_23 ?_
      refine r_iret dX10_undo_24 rfl rfl ?_
      exact ⟨_, rfl, Or.inl ⟨by omega, rfl⟩⟩
theorem l_set {s len fr st : Int} (h : S.1 m = some (cO 10 (.ref (m + 1) :: fs))) (hs : 0 ≤ s ∧ s ≤ 3) (hb : 0 ≤ len ∧ len ≤ 32) (hfr : len = 0 ∨ (-9999 ≤ fr ∧ fr ≤ 9999)) (hst : -999 ≤ st ∧ st ≤ 999) (hfr2 : RI fr) {L5 L6 : Value} {w : Int}
    (hk : PW g cX10_setSequence (iX10_setSequence mc ms) 163 [(0, some (.ref m)), (1, some (vi s)), (2, some (vi len)), (3, some (vi fr)), (4, some (vi st)), (6, some (vi w))] [] (ps_put S (m + 1) (cJ 215 (mix (11 + 32 * s) (11 + 32 * s + 32) (fun x => if x - (11 + 32 * s) < len then fr + st * (x - (11 + 32 * s)) else 0) a))) kc ks Q) : ∀ (r i : Nat), i + r = 32 →
    PW g cX10_setSequence (iX10_setSequence mc ms) 123 [(0, some (.ref m)), (1, some (vi s)), (2, some (vi len)), (3, some (vi fr)), (4, some (vi st)), (6, some (vi w)), (7, some (vi (i : Int)))] [] (ps_put S (m + 1) (cJ 215 (mix (11 + 32 * s) (11 + 32 * s + (i : Int)) (fun x => if x - (11 + 32 * s) < len then fr + st * (x - (11 + 32 * s)) else 0) a))) kc ks Q := by
  intro r
  induction r with
  | zero =>
    intro i hi
    have e : i = 32 := by omega
    subst e
    refine r_iload dX10_setSequence_123 rfl (r_bipush dX10_setSequence_125 (by decide) ?_)
    refine r_icmp_ge 163 dX10_setSequence_127 (by decide) (by omega) (by omega) (fun c1 => ?_) (fun c1 => ?_)
    · exact r_loc [(0, some (.ref m)), (1, some (vi s)), (2, some (vi len)), (3, some (vi fr)), (4, some (vi st)), (6, some (vi w))] ⟨Or.inl rfl, Or.inl rfl, Or.inl rfl, Or.inl rfl, Or.inl rfl, Or.inl rfl, trivial⟩ hk
    · omega
  | succ r ih =>
    intro i hi
    have h1 : (ps_put S (m + 1) (cJ 215 (mix (11 + 32 * s) (11 + 32 * s + (i : Int)) (fun x => if x - (11 + 32 * s) < len then fr + st * (x - (11 + 32 * s)) else 0) a))).1 m = some (cO 10 (.ref (m + 1) :: fs)) := ps_ne (by omega) h
    have eA : ∀ v : Int, v = (if (i : Int) < len then fr + st * (i : Int) else 0) → v = (fun x => if x - (11 + 32 * s) < len then fr + st * (x - (11 + 32 * s)) else 0) (11 + 32 * s + (i : Int)) := fun v hv => by
      show v = if 11 + 32 * s + (i : Int) - (11 + 32 * s) < len then fr + st * (11 + 32 * s + (i : Int) - (11 + 32 * s)) else 0
      rw [show 11 + 32 * s + (i : Int) - (11 + 32 * s) = (i : Int) by omega]
      exact hv
    refine r_iload dX10_setSequence_123 rfl (r_bipush dX10_setSequence_125 (by decide) ?_)
    refine r_icmp_ge 163 dX10_setSequence_127 (by decide) (by omega) (by omega) (fun c1 => ?_) (fun c1 => ?_)
    · omega
    · refine r_aload_n dX10_setSequence_130 (i := 0) rfl rfl (r_iload_n dX10_setSequence_131 (i := 1) rfl rfl (r_iload dX10_setSequence_132 rfl (r_iload dX10_setSequence_134 rfl (r_iload_n dX10_setSequence_136 (i := 2) rfl rfl ?_))))
      refine r_icmp_ge 153 dX10_setSequence_137 (by decide) (by omega) (by omega) (fun c2 => ?_) (fun c2 => ?_)
      · refine r_lconst (z := 0) dX10_setSequence_153 (by decide) (c_vn dX10_setSequence_154 (c_X10_putTerm h1 ps_same (by omega) (by omega)) rfl rfl mq_X10_putTerm ml_X10_214 ⟨Nat.le_of_ble_eq_true rfl, Nat.le_of_ble_eq_true rfl⟩ h1 rfl rfl rfl (Nat.le_of_ble_eq_true rfl) (r_iinc dX10_setSequence_157 rfl rfl (r_goto 123 dX10_setSequence_160 (by decide) ?_)))
        rw [ps_put_put, mix_up (A := fun x => if x - (11 + 32 * s) < len then fr + st * (x - (11 + 32 * s)) else 0) (lo := 11 + 32 * s) (i := 11 + 32 * s + (i : Int)) (B := a) (by omega) (eA _ (by first | rw [if_pos (by omega)] | rw [if_neg (by omega)])), Int.add_assoc]
        exact r_loc [(0, some (.ref m)), (1, some (vi s)), (2, some (vi len)), (3, some (vi fr)), (4, some (vi st)), (6, some (vi w)), (7, some (vi ((i + 1 : Nat) : Int)))] ⟨Or.inl rfl, Or.inl rfl, Or.inl rfl, Or.inl rfl, Or.inl rfl, Or.inl rfl, Or.inl rfl, trivial⟩ (ih (i + 1) (by omega))
      · refine r_iload_n dX10_setSequence_140 (i := 3) rfl rfl (r_i2l dX10_setSequence_141 (by omega) (r_iload dX10_setSequence_142 rfl (r_i2l dX10_setSequence_144 (by omega) (r_iload dX10_setSequence_145 rfl ?_))))
        refine r_i2l dX10_setSequence_147 (by omega) (r_lmul dX10_setSequence_148 (r_ladd dX10_setSequence_149 (r_goto 154 dX10_setSequence_150 (by decide) (c_vn dX10_setSequence_154 (c_X10_putTerm h1 ps_same (by omega) (by omega)) rfl rfl mq_X10_putTerm ml_X10_214 ⟨Nat.le_of_ble_eq_true rfl, Nat.le_of_ble_eq_true rfl⟩ h1 rfl rfl rfl (Nat.le_of_ble_eq_true rfl) ?_))))
        refine r_iinc dX10_setSequence_157 rfl rfl (r_goto 123 dX10_setSequence_160 (by decide) ?_)
        rw [ps_put_put, mix_up (A := fun x => if x - (11 + 32 * s) < len then fr + st * (x - (11 + 32 * s)) else 0) (lo := 11 + 32 * s) (i := 11 + 32 * s + (i : Int)) (B := a) (by omega) (eA _ (by first | rw [if_pos (by omega)] | rw [if_neg (by omega)])), Int.add_assoc]
        exact r_loc [(0, some (.ref m)), (1, some (vi s)), (2, some (vi len)), (3, some (vi fr)), (4, some (vi st)), (6, some (vi w)), (7, some (vi ((i + 1 : Nat) : Int)))] ⟨Or.inl rfl, Or.inl rfl, Or.inl rfl, Or.inl rfl, Or.inl rfl, Or.inl rfl, Or.inl rfl, trivial⟩ (ih (i + 1) (by omega))
end MMUT2

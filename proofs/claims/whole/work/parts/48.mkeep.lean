/-! the model keeps and brings back -/
section MKEEP
variable {g : GT} {S : PS} {mc ms : Nat} {Q : PO → PS → Prop} {kc ks : Nat} {m : Nat} {a kp : Int → Int} {fs : List Value} {km : Int}
theorem l_shift (h : S.1 m = some (cO 10 (.ref (m + 1) :: .ref (m + 2) :: .ref (m + 3) :: fs)))
    (hq : PW g cX10_keeps (iX10_keeps mc ms) 40 [(0, some (.ref m))] [] (ps_put S (m + 3) (cJ 1720 (mix 0 1505 (fun x => kp (x + 215)) kp))) kc ks Q) : ∀ (n i : Nat), i + n = 1505 →
    PW g cX10_keeps (iX10_keeps mc ms) 11 [(0, some (.ref m)), (1, some (vi (i : Int)))] [] (ps_put S (m + 3) (cJ 1720 (mix 0 i (fun x => kp (x + 215)) kp))) kc ks Q := by
  intro n
  induction n with
  | zero =>
    intro i hi
    refine r_iload_n dX10_keeps_11 (i := 1) rfl rfl (r_sipush dX10_keeps_12 (by decide) ?_)
    refine r_icmp_ge 40 dX10_keeps_15 (by decide) (by omega) (by omega) (fun c1 => ?_) (fun c1 => ?_)
    · rw [show i = 1505 by omega]
      exact r_loc [(0, some (.ref m))] ⟨Or.inl rfl, trivial⟩ hq
    · omega
  | succ n ih =>
    intro i hi
    have h1 : (ps_put S (m + 3) (cJ 1720 (mix 0 i (fun x => kp (x + 215)) kp))).1 m = some (cO 10 (.ref (m + 1) :: .ref (m + 2) :: .ref (m + 3) :: fs)) := ps_ne (by omega) h
    refine r_iload_n dX10_keeps_11 (i := 1) rfl rfl (r_sipush dX10_keeps_12 (by decide) ?_)
    refine r_icmp_ge 40 dX10_keeps_15 (by decide) (by omega) (by omega) (fun c1 => ?_) (fun c1 => ?_)
    · omega
    · refine r_aload_n dX10_keeps_18 (i := 0) rfl rfl (r_get dX10_keeps_19 fl_X10_16 h1 rfl (r_iload_n dX10_keeps_22 (i := 1) rfl rfl (r_aload_n dX10_keeps_23 (i := 0) rfl rfl (r_get dX10_keeps_24 fl_X10_16 h1 rfl ?_))))
      refine r_iload_n dX10_keeps_27 (i := 1) rfl rfl (r_sipush dX10_keeps_28 (by decide) (r_iadd dX10_keeps_31 (r_lald dX10_keeps_32 ps_same (by omega) (by omega) (by omega) (r_last dX10_keeps_33 ps_same (by omega) (by omega) (by omega) ?_))))
      refine r_iinc dX10_keeps_34 rfl rfl (r_goto 11 dX10_keeps_37 (by decide) ?_)
      rw [ps_put_put, mix_up (A := fun x => kp (x + 215)) (lo := 0) (i := (i : Int)) (B := kp) (by omega) (mix_out (by omega))]
      exact r_loc [(0, some (.ref m)), (1, some (vi ((i + 1 : Nat) : Int)))] ⟨Or.inl rfl, Or.inl rfl, trivial⟩ (ih (i + 1) (by omega))
theorem l_lay (h : S.1 m = some (cO 10 (.ref (m + 1) :: .ref (m + 2) :: .ref (m + 3) :: vi km :: fs))) (ha : S.1 (m + 1) = some (cJ 215 a)) (hk : 0 ≤ km ∧ km ≤ 7)
    (hq : Q (.inl none) (ps_put (ps_put S (m + 3) (cJ 1720 (mix (215 * km) (215 * km + 215) (fun x => a (x - 215 * km)) kp))) m (cO 10 (.ref (m + 1) :: .ref (m + 2) :: .ref (m + 3) :: vi (km + 1) :: fs)))) : ∀ (n i : Nat), i + n = 215 →
    PW g cX10_keeps (iX10_keeps mc ms) 52 [(0, some (.ref m)), (1, some (vi (i : Int)))] [] (ps_put S (m + 3) (cJ 1720 (mix (215 * km) (215 * km + i) (fun x => a (x - 215 * km)) kp))) kc ks Q := by
  intro n
  induction n with
  | zero =>
    intro i hi
    have h1 : (ps_put S (m + 3) (cJ 1720 (mix (215 * km) (215 * km + i) (fun x => a (x - 215 * km)) kp))).1 m = some (cO 10 (.ref (m + 1) :: .ref (m + 2) :: .ref (m + 3) :: vi km :: fs)) := ps_ne (by omega) h
    refine r_iload_n dX10_keeps_52 (i := 1) rfl rfl (r_sipush dX10_keeps_53 (by decide) ?_)
    refine r_icmp_ge 86 dX10_keeps_56 (by decide) (by omega) (by omega) (fun c1 => ?_) (fun c1 => ?_)
    · refine r_aload_n dX10_keeps_86 (i := 0) rfl rfl (r_dup dX10_keeps_87 rfl (r_get dX10_keeps_88 fl_X10_33 h1 rfl (r_iconst dX10_keeps_91 (r_iadd dX10_keeps_92 ?_))))
      refine r_put dX10_keeps_93 fl_X10_33 h1 rfl rfl (Nat.le_of_ble_eq_true rfl) ?_
      refine r_vret dX10_keeps_96 rfl ?_
      rw [show i = 215 by omega]
      exact hq
    · omega
  | succ n ih =>
    intro i hi
    have h1 : (ps_put S (m + 3) (cJ 1720 (mix (215 * km) (215 * km + i) (fun x => a (x - 215 * km)) kp))).1 m = some (cO 10 (.ref (m + 1) :: .ref (m + 2) :: .ref (m + 3) :: vi km :: fs)) := ps_ne (by omega) h
    have h2 : (ps_put S (m + 3) (cJ 1720 (mix (215 * km) (215 * km + i) (fun x => a (x - 215 * km)) kp))).1 (m + 1) = some (cJ 215 a) := ps_ne (by omega) ha
    refine r_iload_n dX10_keeps_52 (i := 1) rfl rfl (r_sipush dX10_keeps_53 (by decide) ?_)
    refine r_icmp_ge 86 dX10_keeps_56 (by decide) (by omega) (by omega) (fun c1 => ?_) (fun c1 => ?_)
    · omega
    · refine r_aload_n dX10_keeps_59 (i := 0) rfl rfl (r_get dX10_keeps_60 fl_X10_16 h1 rfl (r_sipush dX10_keeps_63 (by decide) (r_aload_n dX10_keeps_66 (i := 0) rfl rfl (r_get dX10_keeps_67 fl_X10_33 h1 rfl ?_))))
      refine r_imul dX10_keeps_70 (r_iload_n dX10_keeps_71 (i := 1) rfl rfl (r_iadd dX10_keeps_72 (r_aload_n dX10_keeps_73 (i := 0) rfl rfl (r_get dX10_keeps_74 fl_X10_7 h1 rfl ?_))))
      refine r_iload_n dX10_keeps_77 (i := 1) rfl rfl (r_lald dX10_keeps_78 h2 (by omega) (by omega) (by omega) (r_last dX10_keeps_79 ps_same (by omega) (by omega) (by omega) (r_iinc dX10_keeps_80 rfl rfl (r_goto 52 dX10_keeps_83 (by decide) ?_))))
      rw [ps_put_put, mix_up (by omega) (by show a i = a (215 * km + i - 215 * km); congr 1; omega), Int.add_assoc]
      exact r_loc [(0, some (.ref m)), (1, some (vi ((i + 1 : Nat) : Int)))] ⟨Or.inl rfl, Or.inl rfl, trivial⟩ (ih (i + 1) (by omega))
/-- one state more is kept, at most 8; those before it shift -/
def kpN (km : Int) (a kp : Int → Int) : Int → Int := if km = 8 then mix 1505 1720 (fun x => a (x - 1505)) (mix 0 1505 (fun x => kp (x + 215)) kp) else mix (215 * km) (215 * km + 215) (fun x => a (x - 215 * km)) kp
theorem c_X10_keeps (h : S.1 m = some (cO 10 (.ref (m + 1) :: .ref (m + 2) :: .ref (m + 3) :: vi km :: fs))) (ha : S.1 (m + 1) = some (cJ 215 a)) (hkp : S.1 (m + 3) = some (cJ 1720 kp)) (hk : 0 ≤ km ∧ km ≤ 8) : PC g yX10_keeps cX10_keeps (iX10_keeps mc ms) [.ref m] S (Rt none (ps_put (ps_put S (m + 3) (cJ 1720 (kpN km a kp))) m (cO 10 (.ref (m + 1) :: .ref (m + 2) :: .ref (m + 3) :: vi (min (km + 1) 8) :: fs)))) := by
  refine PC_of pnX10 rfl rfl rfl (Nat.le_of_ble_eq_true rfl) ?_
  have ec : ∀ S0 : PS, ∀ k0 : Int, ∀ kp0 : Int → Int, S0.1 (m + 3) = some (cJ 1720 kp0) → ps_put S0 (m + 3) (cJ 1720 (mix (215 * k0) (215 * k0 + ((0 : Nat) : Int)) (fun x => a (x - 215 * k0)) kp0)) = S0 := fun S0 k0 kp0 hh => by
    rw [show mix (215 * k0) (215 * k0 + ((0 : Nat) : Int)) (fun x => a (x - 215 * k0)) kp0 = kp0 by
      rw [show 215 * k0 + ((0 : Nat) : Int) = 215 * k0 by omega]
      exact mix_0]
    exact ps_put_self hh
  refine r_aload_n dX10_keeps_0 (i := 0) rfl rfl (r_get dX10_keeps_1 fl_X10_33 h rfl (r_bipush dX10_keeps_4 (by decide) ?_))
  refine r_icmp_ne 50 dX10_keeps_6 (by decide) (by omega) (by omega) (fun c1 => ?_) (fun c1 => ?_)
  · refine r_iconst dX10_keeps_50 (r_istore_n dX10_keeps_51 (i := 1) rfl rfl (Nat.le_of_ble_eq_true rfl) ?_)
    refine r_ps (ec S km kp hkp).symm ?_
    refine r_loc [(0, some (.ref m)), (1, some (vi ((0 : Nat) : Int)))] ⟨Or.inl rfl, Or.inl rfl, trivial⟩ (l_lay h ha (by omega) (show Rt none _ _ _ from ⟨rfl, ?_⟩) 215 0 (by omega))
    unfold kpN
    rw [if_neg (by omega), Int.min_eq_left (by omega)]
  · refine r_iconst dX10_keeps_9 (r_istore_n dX10_keeps_10 (i := 1) rfl rfl (Nat.le_of_ble_eq_true rfl) ?_)
    have e8 : km = 8 := by omega
    subst e8
    refine r_ps (ps_put_self hkp).symm ?_
    have e0 : mix 0 ((0 : Nat) : Int) (fun x => kp (x + 215)) kp = kp := mix_0
    have k := fun Q kc ks hq => l_shift (g := g) (mc := mc) (ms := ms) (kp := kp) (Q := Q) (kc := kc) (ks := ks) h hq 1505 0 (by omega)
    rw [e0] at k
    refine r_loc [(0, some (.ref m)), (1, some (vi ((0 : Nat) : Int)))] ⟨Or.inl rfl, Or.inl rfl, trivial⟩ (k _ _ _ ?_)
    have h1 : (ps_put S (m + 3) (cJ 1720 (mix 0 1505 (fun x => kp (x + 215)) kp))).1 m = some (cO 10 (.ref (m + 1) :: .ref (m + 2) :: .ref (m + 3) :: vi 8 :: fs)) := ps_ne (by omega) h
    have h2 : (ps_put S (m + 3) (cJ 1720 (mix 0 1505 (fun x => kp (x + 215)) kp))).1 (m + 1) = some (cJ 215 a) := ps_ne (by omega) ha
    refine r_aload_n dX10_keeps_40 (i := 0) rfl rfl (r_dup dX10_keeps_41 rfl (r_get dX10_keeps_42 fl_X10_33 h1 rfl (r_iconst dX10_keeps_45 (r_isub dX10_keeps_46 ?_))))
    refine r_put dX10_keeps_47 fl_X10_33 h1 rfl rfl (Nat.le_of_ble_eq_true rfl) (r_iconst dX10_keeps_50 (r_istore_n dX10_keeps_51 (i := 1) rfl rfl (Nat.le_of_ble_eq_true rfl) ?_))
    rw [show (8 : Int) - 1 = 7 from rfl]
    have h3 : (ps_put (ps_put S (m + 3) (cJ 1720 (mix 0 1505 (fun x => kp (x + 215)) kp))) m (cO 10 (.ref (m + 1) :: .ref (m + 2) :: .ref (m + 3) :: vi 7 :: fs))).1 (m + 3) = some (cJ 1720 (mix 0 1505 (fun x => kp (x + 215)) kp)) := ps_ne (by omega) ps_same
    refine r_ps (ec _ 7 _ h3).symm ?_
    refine r_loc [(0, some (.ref m)), (1, some (vi ((0 : Nat) : Int)))] ⟨Or.inl rfl, Or.inl rfl, trivial⟩ (l_lay ps_same (ps_ne (by omega) h2) (by omega) (show Rt none _ _ _ from ⟨rfl, ?_⟩) 215 0 (by omega))
    rw [ps_put_comm (by omega), ps_put_put, ps_put_comm (by omega), ps_put_put]
    rfl
theorem l_back (h : S.1 m = some (cO 10 (.ref (m + 1) :: .ref (m + 2) :: .ref (m + 3) :: vi km :: fs))) (hkp : S.1 (m + 3) = some (cJ 1720 kp)) (hk : 0 ≤ km ∧ km ≤ 7)
    (hq : Q (.inl (some (vi km))) (ps_put S (m + 1) (cJ 215 (mix 0 215 (fun x => kp (215 * km + x)) a)))) : ∀ (n i : Nat), i + n = 215 →
    PW g cX10_undo (iX10_undo mc ms) 37 [(0, some (.ref m)), (1, some (vi (i : Int)))] [] (ps_put S (m + 1) (cJ 215 (mix 0 i (fun x => kp (215 * km + x)) a))) kc ks Q := by
  intro n
  induction n with
  | zero =>
    intro i hi
    have h1 : (ps_put S (m + 1) (cJ 215 (mix 0 i (fun x => kp (215 * km + x)) a))).1 m = some (cO 10 (.ref (m + 1) :: .ref (m + 2) :: .ref (m + 3) :: vi km :: fs)) := ps_ne (by omega) h
    refine r_iload_n dX10_undo_37 (i := 1) rfl rfl (r_sipush dX10_undo_38 (by decide) ?_)
    refine r_icmp_ge 71 dX10_undo_41 (by decide) (by omega) (by omega) (fun c1 => ?_) (fun c1 => ?_)
    · refine r_aload_n dX10_undo_71 (i := 0) rfl rfl (r_get dX10_undo_72 fl_X10_33 h1 rfl ?_)
      refine r_iret dX10_undo_75 rfl rfl ?_
      rw [show i = 215 by omega]
      exact hq
    · omega
  | succ n ih =>
    intro i hi
    have h1 : (ps_put S (m + 1) (cJ 215 (mix 0 i (fun x => kp (215 * km + x)) a))).1 m = some (cO 10 (.ref (m + 1) :: .ref (m + 2) :: .ref (m + 3) :: vi km :: fs)) := ps_ne (by omega) h
    have h2 : (ps_put S (m + 1) (cJ 215 (mix 0 i (fun x => kp (215 * km + x)) a))).1 (m + 3) = some (cJ 1720 kp) := ps_ne (by omega) hkp
    refine r_iload_n dX10_undo_37 (i := 1) rfl rfl (r_sipush dX10_undo_38 (by decide) ?_)
    refine r_icmp_ge 71 dX10_undo_41 (by decide) (by omega) (by omega) (fun c1 => ?_) (fun c1 => ?_)
    · omega
    · refine r_aload_n dX10_undo_44 (i := 0) rfl rfl (r_get dX10_undo_45 fl_X10_7 h1 rfl (r_iload_n dX10_undo_48 (i := 1) rfl rfl (r_aload_n dX10_undo_49 (i := 0) rfl rfl (r_get dX10_undo_50 fl_X10_16 h1 rfl ?_))))
      refine r_sipush dX10_undo_53 (by decide) (r_aload_n dX10_undo_56 (i := 0) rfl rfl (r_get dX10_undo_57 fl_X10_33 h1 rfl (r_imul dX10_undo_60 (r_iload_n dX10_undo_61 (i := 1) rfl rfl ?_))))
      refine r_iadd dX10_undo_62 (r_lald dX10_undo_63 h2 (by omega) (by omega) (by omega) (r_last dX10_undo_64 ps_same (by omega) (by omega) (by omega) (r_iinc dX10_undo_65 rfl rfl (r_goto 37 dX10_undo_68 (by decide) ?_))))
      rw [ps_put_put, mix_up (by omega) rfl]
      exact r_loc [(0, some (.ref m)), (1, some (vi ((i + 1 : Nat) : Int)))] ⟨Or.inl rfl, Or.inl rfl, trivial⟩ (ih (i + 1) (by omega))
end MKEEP
